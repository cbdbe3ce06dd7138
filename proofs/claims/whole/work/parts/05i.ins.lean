theorem d150_0 : decode (cod 150) 0 = .ok (.iload_n 1, 1) := by decide +kernel
theorem s150_0 {M : Mm} {st : List Value} {l0 l2 l3 l4 : Option Value} {x : Int32} : EE 150 0 [l0, some (.int x), l2, l3, l4] st M = EE 150 1 [l0, some (.int x), l2, l3, l4] (.int x :: st) M := e_ld d150_0 rfl rfl rfl rfl rfl rfl
theorem d150_1 : decode (cod 150) 1 = .ok (.tableswitch 162 99 120 #[135, 162, 162, 162, 162, 162, 162, 162, 121, 141, 156, 162, 103, 162, 162, 150, 162, 162, 162, 162, 162, 121], 103) := by decide +kernel
theorem s150_1_99 {M : Mm} {st : List Value} {l0 l1 l2 l3 l4 : Option Value} : EE 150 1 [l0, l1, l2, l3, l4] (.int (nI 99) :: st) M = EE 150 136 [l0, l1, l2, l3, l4] st M := e_tab d150_1 (by decide +kernel)
theorem s150_1_100 {M : Mm} {st : List Value} {l0 l1 l2 l3 l4 : Option Value} : EE 150 1 [l0, l1, l2, l3, l4] (.int (nI 100) :: st) M = EE 150 163 [l0, l1, l2, l3, l4] st M := e_tab d150_1 (by decide +kernel)
theorem s150_1_101 {M : Mm} {st : List Value} {l0 l1 l2 l3 l4 : Option Value} : EE 150 1 [l0, l1, l2, l3, l4] (.int (nI 101) :: st) M = EE 150 163 [l0, l1, l2, l3, l4] st M := e_tab d150_1 (by decide +kernel)
theorem s150_1_102 {M : Mm} {st : List Value} {l0 l1 l2 l3 l4 : Option Value} : EE 150 1 [l0, l1, l2, l3, l4] (.int (nI 102) :: st) M = EE 150 163 [l0, l1, l2, l3, l4] st M := e_tab d150_1 (by decide +kernel)
theorem s150_1_103 {M : Mm} {st : List Value} {l0 l1 l2 l3 l4 : Option Value} : EE 150 1 [l0, l1, l2, l3, l4] (.int (nI 103) :: st) M = EE 150 163 [l0, l1, l2, l3, l4] st M := e_tab d150_1 (by decide +kernel)
theorem s150_1_104 {M : Mm} {st : List Value} {l0 l1 l2 l3 l4 : Option Value} : EE 150 1 [l0, l1, l2, l3, l4] (.int (nI 104) :: st) M = EE 150 163 [l0, l1, l2, l3, l4] st M := e_tab d150_1 (by decide +kernel)
theorem s150_1_105 {M : Mm} {st : List Value} {l0 l1 l2 l3 l4 : Option Value} : EE 150 1 [l0, l1, l2, l3, l4] (.int (nI 105) :: st) M = EE 150 163 [l0, l1, l2, l3, l4] st M := e_tab d150_1 (by decide +kernel)
theorem s150_1_106 {M : Mm} {st : List Value} {l0 l1 l2 l3 l4 : Option Value} : EE 150 1 [l0, l1, l2, l3, l4] (.int (nI 106) :: st) M = EE 150 163 [l0, l1, l2, l3, l4] st M := e_tab d150_1 (by decide +kernel)
theorem s150_1_107 {M : Mm} {st : List Value} {l0 l1 l2 l3 l4 : Option Value} : EE 150 1 [l0, l1, l2, l3, l4] (.int (nI 107) :: st) M = EE 150 122 [l0, l1, l2, l3, l4] st M := e_tab d150_1 (by decide +kernel)
theorem s150_1_108 {M : Mm} {st : List Value} {l0 l1 l2 l3 l4 : Option Value} : EE 150 1 [l0, l1, l2, l3, l4] (.int (nI 108) :: st) M = EE 150 142 [l0, l1, l2, l3, l4] st M := e_tab d150_1 (by decide +kernel)
theorem s150_1_109 {M : Mm} {st : List Value} {l0 l1 l2 l3 l4 : Option Value} : EE 150 1 [l0, l1, l2, l3, l4] (.int (nI 109) :: st) M = EE 150 157 [l0, l1, l2, l3, l4] st M := e_tab d150_1 (by decide +kernel)
theorem s150_1_110 {M : Mm} {st : List Value} {l0 l1 l2 l3 l4 : Option Value} : EE 150 1 [l0, l1, l2, l3, l4] (.int (nI 110) :: st) M = EE 150 163 [l0, l1, l2, l3, l4] st M := e_tab d150_1 (by decide +kernel)
theorem s150_1_111 {M : Mm} {st : List Value} {l0 l1 l2 l3 l4 : Option Value} : EE 150 1 [l0, l1, l2, l3, l4] (.int (nI 111) :: st) M = EE 150 104 [l0, l1, l2, l3, l4] st M := e_tab d150_1 (by decide +kernel)
theorem s150_1_112 {M : Mm} {st : List Value} {l0 l1 l2 l3 l4 : Option Value} : EE 150 1 [l0, l1, l2, l3, l4] (.int (nI 112) :: st) M = EE 150 163 [l0, l1, l2, l3, l4] st M := e_tab d150_1 (by decide +kernel)
theorem s150_1_113 {M : Mm} {st : List Value} {l0 l1 l2 l3 l4 : Option Value} : EE 150 1 [l0, l1, l2, l3, l4] (.int (nI 113) :: st) M = EE 150 163 [l0, l1, l2, l3, l4] st M := e_tab d150_1 (by decide +kernel)
theorem s150_1_114 {M : Mm} {st : List Value} {l0 l1 l2 l3 l4 : Option Value} : EE 150 1 [l0, l1, l2, l3, l4] (.int (nI 114) :: st) M = EE 150 151 [l0, l1, l2, l3, l4] st M := e_tab d150_1 (by decide +kernel)
theorem s150_1_115 {M : Mm} {st : List Value} {l0 l1 l2 l3 l4 : Option Value} : EE 150 1 [l0, l1, l2, l3, l4] (.int (nI 115) :: st) M = EE 150 163 [l0, l1, l2, l3, l4] st M := e_tab d150_1 (by decide +kernel)
theorem s150_1_116 {M : Mm} {st : List Value} {l0 l1 l2 l3 l4 : Option Value} : EE 150 1 [l0, l1, l2, l3, l4] (.int (nI 116) :: st) M = EE 150 163 [l0, l1, l2, l3, l4] st M := e_tab d150_1 (by decide +kernel)
theorem s150_1_117 {M : Mm} {st : List Value} {l0 l1 l2 l3 l4 : Option Value} : EE 150 1 [l0, l1, l2, l3, l4] (.int (nI 117) :: st) M = EE 150 163 [l0, l1, l2, l3, l4] st M := e_tab d150_1 (by decide +kernel)
theorem s150_1_118 {M : Mm} {st : List Value} {l0 l1 l2 l3 l4 : Option Value} : EE 150 1 [l0, l1, l2, l3, l4] (.int (nI 118) :: st) M = EE 150 163 [l0, l1, l2, l3, l4] st M := e_tab d150_1 (by decide +kernel)
theorem s150_1_119 {M : Mm} {st : List Value} {l0 l1 l2 l3 l4 : Option Value} : EE 150 1 [l0, l1, l2, l3, l4] (.int (nI 119) :: st) M = EE 150 163 [l0, l1, l2, l3, l4] st M := e_tab d150_1 (by decide +kernel)
theorem s150_1_120 {M : Mm} {st : List Value} {l0 l1 l2 l3 l4 : Option Value} : EE 150 1 [l0, l1, l2, l3, l4] (.int (nI 120) :: st) M = EE 150 122 [l0, l1, l2, l3, l4] st M := e_tab d150_1 (by decide +kernel)
theorem s150_1_d {M : Mm} {st : List Value} {l0 l1 l2 l3 l4 : Option Value} {x : Int32} (h : x.toInt < 99 ∨ 120 < x.toInt) : EE 150 1 [l0, l1, l2, l3, l4] (.int x :: st) M = EE 150 163 [l0, l1, l2, l3, l4] st M := e_tab d150_1 (by rw [if_pos h]; decide +kernel)
theorem d150_104 : decode (cod 150) 104 = .ok (.aload_n 0, 1) := by decide +kernel
theorem s150_104 {M : Mm} {st : List Value} {l1 l2 l3 l4 : Option Value} {x : Nat} : EE 150 104 [some (.ref x), l1, l2, l3, l4] st M = EE 150 105 [some (.ref x), l1, l2, l3, l4] (.ref x :: st) M := e_ld d150_104 rfl rfl rfl rfl rfl rfl
theorem d150_105 : decode (cod 150) 105 = .ok (.getfield 7, 3) := by decide +kernel
theorem s150_105 {n : Nat} {I : Nat → Nat → Int32} {R : Nat → Nat → Option Nat} {st : List Value} {l0 l1 l2 l3 l4 : Option Value} {a : Nat} : EE 150 105 [l0, l1, l2, l3, l4] (.ref a :: st) (n, I, R) = (gfI n I R 3 0 a).bind (fun z => EE 150 108 [l0, l1, l2, l3, l4] (z :: st) (n, I, R)) := e_getf d150_105 f3_7 rfl rfl
theorem d150_108 : decode (cod 150) 108 = .ok (.iconst 1, 1) := by decide +kernel
theorem s150_108 {M : Mm} {st : List Value} {l0 l1 l2 l3 l4 : Option Value} : EE 150 108 [l0, l1, l2, l3, l4] st M = EE 150 109 [l0, l1, l2, l3, l4] (.int (nI 1) :: st) M := e_con d150_108 k_con_1
theorem d150_109 : decode (cod 150) 109 = .ok (.iaload, 1) := by decide +kernel
theorem s150_109 {n : Nat} {I : Nat → Nat → Int32} {R : Nat → Nat → Option Nat} {st : List Value} {l0 l1 l2 l3 l4 : Option Value} {j : Int32} {a : Nat} : EE 150 109 [l0, l1, l2, l3, l4] (.int j :: .ref a :: st) (n, I, R) = (ardI 5 n I a j).bind (fun z => EE 150 110 [l0, l1, l2, l3, l4] (.int z :: st) (n, I, R)) := e_iald d150_109
theorem d150_110 : decode (cod 150) 110 = .ok (.bipush 10, 2) := by decide +kernel
theorem s150_110 {M : Mm} {st : List Value} {l0 l1 l2 l3 l4 : Option Value} : EE 150 110 [l0, l1, l2, l3, l4] st M = EE 150 112 [l0, l1, l2, l3, l4] (.int (nI 10) :: st) M := e_bip d150_110 k_bip_10
theorem d150_112 : decode (cod 150) 112 = .ok (.if_icmp .ne 8, 3) := by decide +kernel
theorem s150_112 {M : Mm} {st : List Value} {l0 l1 l2 l3 l4 : Option Value} {x y : Int32} : EE 150 112 [l0, l1, l2, l3, l4] (.int y :: .int x :: st) M = if x = y then EE 150 115 [l0, l1, l2, l3, l4] st M else EE 150 120 [l0, l1, l2, l3, l4] st M := e_cne d150_112 (by decide)
theorem d150_115 : decode (cod 150) 115 = .ok (.bipush (-4), 2) := by decide +kernel
theorem s150_115 {M : Mm} {st : List Value} {l0 l1 l2 l3 l4 : Option Value} : EE 150 115 [l0, l1, l2, l3, l4] st M = EE 150 117 [l0, l1, l2, l3, l4] (.int ((-4)) :: st) M := e_bip d150_115 k_bip_m4
theorem d150_117 : decode (cod 150) 117 = .ok (.goto 4, 3) := by decide +kernel
theorem s150_117 {M : Mm} {st : List Value} {l0 l1 l2 l3 l4 : Option Value} : EE 150 117 [l0, l1, l2, l3, l4] st M = EE 150 121 [l0, l1, l2, l3, l4] st M := e_goto d150_117 (by decide)
theorem d150_120 : decode (cod 150) 120 = .ok (.iconst 0, 1) := by decide +kernel
theorem s150_120 {M : Mm} {st : List Value} {l0 l1 l2 l3 l4 : Option Value} : EE 150 120 [l0, l1, l2, l3, l4] st M = EE 150 121 [l0, l1, l2, l3, l4] (.int (nI 0) :: st) M := e_con d150_120 k_con_0
theorem d150_121 : decode (cod 150) 121 = .ok (.ireturn, 1) := by decide +kernel
theorem s150_121 {M : Mm} {l0 l1 l2 l3 l4 : Option Value} {v : Int32} : EE 150 121 [l0, l1, l2, l3, l4] [.int v] M = some (some (.int v), M) := e_iret d150_121 rfl rfl
theorem d150_122 : decode (cod 150) 122 = .ok (.aload_n 0, 1) := by decide +kernel
theorem s150_122 {M : Mm} {st : List Value} {l1 l2 l3 l4 : Option Value} {x : Nat} : EE 150 122 [some (.ref x), l1, l2, l3, l4] st M = EE 150 123 [some (.ref x), l1, l2, l3, l4] (.ref x :: st) M := e_ld d150_122 rfl rfl rfl rfl rfl rfl
theorem d150_123 : decode (cod 150) 123 = .ok (.iload_n 2, 1) := by decide +kernel
theorem s150_123 {M : Mm} {st : List Value} {l0 l1 l3 l4 : Option Value} {x : Int32} : EE 150 123 [l0, l1, some (.int x), l3, l4] st M = EE 150 124 [l0, l1, some (.int x), l3, l4] (.int x :: st) M := e_ld d150_123 rfl rfl rfl rfl rfl rfl
theorem d150_124 : decode (cod 150) 124 = .ok (.invokevirtual 104, 3) := by decide +kernel
theorem s150_124 {l0 l1 l2 l3 l4 : Option Value} {a : Nat} {M : Mm} {b0 : Int32} {st : List Value} (hl : st.length ≤ 4) (ho : isO "HandoverDeskModel" M.1 a = true) : EE 150 124 [l0, l1, l2, l3, l4] (.int b0 :: .ref a :: st) M = (FF 99 (.ref a :: [.int b0]) M).bind (fun z => EE 150 127 [l0, l1, l2, l3, l4] (psh z.1 st) z.2) := e_calv (av := [.int b0]) d150_124 c3_104 rfl rfl rfl r150_99 rfl hl ho
theorem d150_127 : decode (cod 150) 127 = .ok (.ifCond .eq 7, 3) := by decide +kernel
theorem s150_127 {M : Mm} {st : List Value} {l0 l1 l2 l3 l4 : Option Value} {x : Int32} : EE 150 127 [l0, l1, l2, l3, l4] (.int x :: st) M = if x = 0 then EE 150 134 [l0, l1, l2, l3, l4] st M else EE 150 130 [l0, l1, l2, l3, l4] st M := e_eq0 d150_127 (by decide)
theorem d150_130 : decode (cod 150) 130 = .ok (.iconst 0, 1) := by decide +kernel
theorem s150_130 {M : Mm} {st : List Value} {l0 l1 l2 l3 l4 : Option Value} : EE 150 130 [l0, l1, l2, l3, l4] st M = EE 150 131 [l0, l1, l2, l3, l4] (.int (nI 0) :: st) M := e_con d150_130 k_con_0
theorem d150_131 : decode (cod 150) 131 = .ok (.goto 4, 3) := by decide +kernel
theorem s150_131 {M : Mm} {st : List Value} {l0 l1 l2 l3 l4 : Option Value} : EE 150 131 [l0, l1, l2, l3, l4] st M = EE 150 135 [l0, l1, l2, l3, l4] st M := e_goto d150_131 (by decide)
theorem d150_134 : decode (cod 150) 134 = .ok (.iconst (-1), 1) := by decide +kernel
theorem s150_134 {M : Mm} {st : List Value} {l0 l1 l2 l3 l4 : Option Value} : EE 150 134 [l0, l1, l2, l3, l4] st M = EE 150 135 [l0, l1, l2, l3, l4] (.int ((-1)) :: st) M := e_con d150_134 k_con_m1
theorem d150_135 : decode (cod 150) 135 = .ok (.ireturn, 1) := by decide +kernel
theorem s150_135 {M : Mm} {l0 l1 l2 l3 l4 : Option Value} {v : Int32} : EE 150 135 [l0, l1, l2, l3, l4] [.int v] M = some (some (.int v), M) := e_iret d150_135 rfl rfl
theorem d150_136 : decode (cod 150) 136 = .ok (.aload_n 0, 1) := by decide +kernel
theorem s150_136 {M : Mm} {st : List Value} {l1 l2 l3 l4 : Option Value} {x : Nat} : EE 150 136 [some (.ref x), l1, l2, l3, l4] st M = EE 150 137 [some (.ref x), l1, l2, l3, l4] (.ref x :: st) M := e_ld d150_136 rfl rfl rfl rfl rfl rfl
theorem d150_137 : decode (cod 150) 137 = .ok (.iload_n 2, 1) := by decide +kernel
theorem s150_137 {M : Mm} {st : List Value} {l0 l1 l3 l4 : Option Value} {x : Int32} : EE 150 137 [l0, l1, some (.int x), l3, l4] st M = EE 150 138 [l0, l1, some (.int x), l3, l4] (.int x :: st) M := e_ld d150_137 rfl rfl rfl rfl rfl rfl
theorem d150_138 : decode (cod 150) 138 = .ok (.invokevirtual 127, 3) := by decide +kernel
theorem s150_138 {l0 l1 l2 l3 l4 : Option Value} {a : Nat} {M : Mm} {b0 : Int32} {st : List Value} (hl : st.length ≤ 4) (ho : isO "HandoverDeskModel" M.1 a = true) : EE 150 138 [l0, l1, l2, l3, l4] (.int b0 :: .ref a :: st) M = (FF 110 (.ref a :: [.int b0]) M).bind (fun z => EE 150 141 [l0, l1, l2, l3, l4] (psh z.1 st) z.2) := e_calv (av := [.int b0]) d150_138 c3_127 rfl rfl rfl r150_110 rfl hl ho
theorem d150_141 : decode (cod 150) 141 = .ok (.ireturn, 1) := by decide +kernel
theorem s150_141 {M : Mm} {l0 l1 l2 l3 l4 : Option Value} {v : Int32} : EE 150 141 [l0, l1, l2, l3, l4] [.int v] M = some (some (.int v), M) := e_iret d150_141 rfl rfl
theorem d150_142 : decode (cod 150) 142 = .ok (.aload_n 0, 1) := by decide +kernel
theorem s150_142 {M : Mm} {st : List Value} {l1 l2 l3 l4 : Option Value} {x : Nat} : EE 150 142 [some (.ref x), l1, l2, l3, l4] st M = EE 150 143 [some (.ref x), l1, l2, l3, l4] (.ref x :: st) M := e_ld d150_142 rfl rfl rfl rfl rfl rfl
theorem d150_143 : decode (cod 150) 143 = .ok (.iload_n 2, 1) := by decide +kernel
theorem s150_143 {M : Mm} {st : List Value} {l0 l1 l3 l4 : Option Value} {x : Int32} : EE 150 143 [l0, l1, some (.int x), l3, l4] st M = EE 150 144 [l0, l1, some (.int x), l3, l4] (.int x :: st) M := e_ld d150_143 rfl rfl rfl rfl rfl rfl
theorem d150_144 : decode (cod 150) 144 = .ok (.iload_n 3, 1) := by decide +kernel
theorem s150_144 {M : Mm} {st : List Value} {l0 l1 l2 l4 : Option Value} {x : Int32} : EE 150 144 [l0, l1, l2, some (.int x), l4] st M = EE 150 145 [l0, l1, l2, some (.int x), l4] (.int x :: st) M := e_ld d150_144 rfl rfl rfl rfl rfl rfl
theorem d150_145 : decode (cod 150) 145 = .ok (.iload 4, 2) := by decide +kernel
theorem s150_145 {M : Mm} {st : List Value} {l0 l1 l2 l3 : Option Value} {x : Int32} : EE 150 145 [l0, l1, l2, l3, some (.int x)] st M = EE 150 147 [l0, l1, l2, l3, some (.int x)] (.int x :: st) M := e_ld d150_145 rfl rfl rfl rfl rfl rfl
theorem d150_147 : decode (cod 150) 147 = .ok (.invokevirtual 117, 3) := by decide +kernel
theorem s150_147 {l0 l1 l2 l3 l4 : Option Value} {a : Nat} {M : Mm} {b0 : Int32} {b1 : Int32} {b2 : Int32} {st : List Value} (hl : st.length ≤ 4) (ho : isO "HandoverDeskModel" M.1 a = true) : EE 150 147 [l0, l1, l2, l3, l4] (.int b2 :: .int b1 :: .int b0 :: .ref a :: st) M = (FF 105 (.ref a :: [.int b0, .int b1, .int b2]) M).bind (fun z => EE 150 150 [l0, l1, l2, l3, l4] (psh z.1 st) z.2) := e_calv (av := [.int b0, .int b1, .int b2]) d150_147 c3_117 rfl rfl rfl r150_105 rfl hl ho
theorem d150_150 : decode (cod 150) 150 = .ok (.ireturn, 1) := by decide +kernel
theorem s150_150 {M : Mm} {l0 l1 l2 l3 l4 : Option Value} {v : Int32} : EE 150 150 [l0, l1, l2, l3, l4] [.int v] M = some (some (.int v), M) := e_iret d150_150 rfl rfl
theorem d150_151 : decode (cod 150) 151 = .ok (.iload_n 2, 1) := by decide +kernel
theorem s150_151 {M : Mm} {st : List Value} {l0 l1 l3 l4 : Option Value} {x : Int32} : EE 150 151 [l0, l1, some (.int x), l3, l4] st M = EE 150 152 [l0, l1, some (.int x), l3, l4] (.int x :: st) M := e_ld d150_151 rfl rfl rfl rfl rfl rfl
theorem d150_152 : decode (cod 150) 152 = .ok (.iload_n 3, 1) := by decide +kernel
theorem s150_152 {M : Mm} {st : List Value} {l0 l1 l2 l4 : Option Value} {x : Int32} : EE 150 152 [l0, l1, l2, some (.int x), l4] st M = EE 150 153 [l0, l1, l2, some (.int x), l4] (.int x :: st) M := e_ld d150_152 rfl rfl rfl rfl rfl rfl
theorem d150_153 : decode (cod 150) 153 = .ok (.invokestatic 92, 3) := by decide +kernel
theorem s150_153 {M : Mm} {l0 l1 l2 l3 l4 : Option Value} {b0 : Int32} {b1 : Int32} {st : List Value} (hl : st.length ≤ 4) : EE 150 153 [l0, l1, l2, l3, l4] (.int b1 :: .int b0 :: st) M = (FF 90 [.int b0, .int b1] M).bind (fun z => EE 150 156 [l0, l1, l2, l3, l4] (psh z.1 st) z.2) := e_cals (av := [.int b0, .int b1]) d150_153 c3_92 (Or.inl rfl) rfl rfl r150_90 rfl hl
theorem d150_156 : decode (cod 150) 156 = .ok (.ireturn, 1) := by decide +kernel
theorem s150_156 {M : Mm} {l0 l1 l2 l3 l4 : Option Value} {v : Int32} : EE 150 156 [l0, l1, l2, l3, l4] [.int v] M = some (some (.int v), M) := e_iret d150_156 rfl rfl
theorem d150_157 : decode (cod 150) 157 = .ok (.iload_n 2, 1) := by decide +kernel
theorem s150_157 {M : Mm} {st : List Value} {l0 l1 l3 l4 : Option Value} {x : Int32} : EE 150 157 [l0, l1, some (.int x), l3, l4] st M = EE 150 158 [l0, l1, some (.int x), l3, l4] (.int x :: st) M := e_ld d150_157 rfl rfl rfl rfl rfl rfl
theorem d150_158 : decode (cod 150) 158 = .ok (.iload_n 3, 1) := by decide +kernel
theorem s150_158 {M : Mm} {st : List Value} {l0 l1 l2 l4 : Option Value} {x : Int32} : EE 150 158 [l0, l1, l2, some (.int x), l4] st M = EE 150 159 [l0, l1, l2, some (.int x), l4] (.int x :: st) M := e_ld d150_158 rfl rfl rfl rfl rfl rfl
theorem d150_159 : decode (cod 150) 159 = .ok (.invokestatic 98, 3) := by decide +kernel
theorem s150_159 {M : Mm} {l0 l1 l2 l3 l4 : Option Value} {b0 : Int32} {b1 : Int32} {st : List Value} (hl : st.length ≤ 4) : EE 150 159 [l0, l1, l2, l3, l4] (.int b1 :: .int b0 :: st) M = (FF 95 [.int b0, .int b1] M).bind (fun z => EE 150 162 [l0, l1, l2, l3, l4] (psh z.1 st) z.2) := e_cals (av := [.int b0, .int b1]) d150_159 c3_98 (Or.inl rfl) rfl rfl r150_95 rfl hl
theorem d150_162 : decode (cod 150) 162 = .ok (.ireturn, 1) := by decide +kernel
theorem s150_162 {M : Mm} {l0 l1 l2 l3 l4 : Option Value} {v : Int32} : EE 150 162 [l0, l1, l2, l3, l4] [.int v] M = some (some (.int v), M) := e_iret d150_162 rfl rfl
theorem d150_163 : decode (cod 150) 163 = .ok (.iconst 0, 1) := by decide +kernel
theorem s150_163 {M : Mm} {st : List Value} {l0 l1 l2 l3 l4 : Option Value} : EE 150 163 [l0, l1, l2, l3, l4] st M = EE 150 164 [l0, l1, l2, l3, l4] (.int (nI 0) :: st) M := e_con d150_163 k_con_0
theorem d150_164 : decode (cod 150) 164 = .ok (.ireturn, 1) := by decide +kernel
theorem s150_164 {M : Mm} {l0 l1 l2 l3 l4 : Option Value} {v : Int32} : EE 150 164 [l0, l1, l2, l3, l4] [.int v] M = some (some (.int v), M) := e_iret d150_164 rfl rfl
theorem FE150 {a : Nat} {b0 : Int32} {b1 : Int32} {b2 : Int32} {b3 : Int32} {M : Mm} : FF 150 [.ref a, .int b0, .int b1, .int b2, .int b3] M = EE 150 0 [some (.ref a), some (.int b0), some (.int b1), some (.int b2), some (.int b3)] [] M := FF_eq 150 _ _ (Nat.le_of_ble_eq_true rfl)
theorem d151_0 : decode (cod 151) 0 = .ok (.iload_n 0, 1) := by decide +kernel
theorem s151_0 {M : Mm} {st : List Value} {l1 : Option Value} {x : Int32} : EE 151 0 [some (.int x), l1] st M = EE 151 1 [some (.int x), l1] (.int x :: st) M := e_ld d151_0 rfl rfl rfl rfl rfl rfl
theorem d151_1 : decode (cod 151) 1 = .ok (.iload_n 1, 1) := by decide +kernel
theorem s151_1 {M : Mm} {st : List Value} {l0 : Option Value} {x : Int32} : EE 151 1 [l0, some (.int x)] st M = EE 151 2 [l0, some (.int x)] (.int x :: st) M := e_ld d151_1 rfl rfl rfl rfl rfl rfl
theorem d151_2 : decode (cod 151) 2 = .ok (.if_icmp .gt 7, 3) := by decide +kernel
theorem s151_2 {M : Mm} {st : List Value} {l0 l1 : Option Value} {x y : Int32} : EE 151 2 [l0, l1] (.int y :: .int x :: st) M = if y < x then EE 151 9 [l0, l1] st M else EE 151 5 [l0, l1] st M := e_cgt d151_2 (by decide)
theorem d151_5 : decode (cod 151) 5 = .ok (.iload_n 0, 1) := by decide +kernel
theorem s151_5 {M : Mm} {st : List Value} {l1 : Option Value} {x : Int32} : EE 151 5 [some (.int x), l1] st M = EE 151 6 [some (.int x), l1] (.int x :: st) M := e_ld d151_5 rfl rfl rfl rfl rfl rfl
theorem d151_6 : decode (cod 151) 6 = .ok (.goto 4, 3) := by decide +kernel
theorem s151_6 {M : Mm} {st : List Value} {l0 l1 : Option Value} : EE 151 6 [l0, l1] st M = EE 151 10 [l0, l1] st M := e_goto d151_6 (by decide)
theorem d151_9 : decode (cod 151) 9 = .ok (.iload_n 1, 1) := by decide +kernel
theorem s151_9 {M : Mm} {st : List Value} {l0 : Option Value} {x : Int32} : EE 151 9 [l0, some (.int x)] st M = EE 151 10 [l0, some (.int x)] (.int x :: st) M := e_ld d151_9 rfl rfl rfl rfl rfl rfl
theorem d151_10 : decode (cod 151) 10 = .ok (.ireturn, 1) := by decide +kernel
theorem s151_10 {M : Mm} {l0 l1 : Option Value} {v : Int32} : EE 151 10 [l0, l1] [.int v] M = some (some (.int v), M) := e_iret d151_10 rfl rfl
theorem FE151 {b0 : Int32} {b1 : Int32} {M : Mm} : FF 151 [.int b0, .int b1] M = EE 151 0 [some (.int b0), some (.int b1)] [] M := FF_eq 151 _ _ (Nat.le_of_ble_eq_true rfl)
theorem d152_0 : decode (cod 152) 0 = .ok (.iload_n 0, 1) := by decide +kernel
theorem s152_0 {M : Mm} {st : List Value} {l1 l2 : Option Value} {x : Int32} : EE 152 0 [some (.int x), l1, l2] st M = EE 152 1 [some (.int x), l1, l2] (.int x :: st) M := e_ld d152_0 rfl rfl rfl rfl rfl rfl
theorem d152_1 : decode (cod 152) 1 = .ok (.iload_n 1, 1) := by decide +kernel
theorem s152_1 {M : Mm} {st : List Value} {l0 l2 : Option Value} {x : Int32} : EE 152 1 [l0, some (.int x), l2] st M = EE 152 2 [l0, some (.int x), l2] (.int x :: st) M := e_ld d152_1 rfl rfl rfl rfl rfl rfl
theorem d152_2 : decode (cod 152) 2 = .ok (.irem, 1) := by decide +kernel
theorem s152_2 {M : Mm} {st : List Value} {l0 l1 l2 : Option Value} {x y : Nat} (h1 : x < 2 ^ 31) (h2 : 0 < y) (h3 : y < 2 ^ 31) : EE 152 2 [l0, l1, l2] (.int (nI y) :: .int (nI x) :: st) M = EE 152 3 [l0, l1, l2] (.int (nI (x % y)) :: st) M := e_remN d152_2 h1 h2 h3
theorem d152_3 : decode (cod 152) 3 = .ok (.istore_n 2, 1) := by decide +kernel
theorem s152_3 {M : Mm} {st : List Value} {l0 l1 l2 : Option Value} {x : Int32} : EE 152 3 [l0, l1, l2] (.int x :: st) M = EE 152 4 [l0, cln l1, some (.int x)] st M := e_st1 d152_3 rfl rfl rfl rfl rfl rfl rfl (Nat.le_of_ble_eq_true rfl) rfl
theorem d152_4 : decode (cod 152) 4 = .ok (.iload_n 0, 1) := by decide +kernel
theorem s152_4 {M : Mm} {st : List Value} {l1 l2 : Option Value} {x : Int32} : EE 152 4 [some (.int x), l1, l2] st M = EE 152 5 [some (.int x), l1, l2] (.int x :: st) M := e_ld d152_4 rfl rfl rfl rfl rfl rfl
theorem d152_5 : decode (cod 152) 5 = .ok (.iload_n 1, 1) := by decide +kernel
theorem s152_5 {M : Mm} {st : List Value} {l0 l2 : Option Value} {x : Int32} : EE 152 5 [l0, some (.int x), l2] st M = EE 152 6 [l0, some (.int x), l2] (.int x :: st) M := e_ld d152_5 rfl rfl rfl rfl rfl rfl
theorem d152_6 : decode (cod 152) 6 = .ok (.ixor, 1) := by decide +kernel
theorem s152_6 {M : Mm} {st : List Value} {l0 l1 l2 : Option Value} {x y : Int32} : EE 152 6 [l0, l1, l2] (.int y :: .int x :: st) M = EE 152 7 [l0, l1, l2] (.int (x ^^^ y) :: st) M := e_II d152_6 rfl rfl rfl rfl rfl rfl
theorem d152_7 : decode (cod 152) 7 = .ok (.ifCond .ge 11, 3) := by decide +kernel
theorem s152_7 {M : Mm} {st : List Value} {l0 l1 l2 : Option Value} {x : Int32} : EE 152 7 [l0, l1, l2] (.int x :: st) M = if 0 ≤ x then EE 152 18 [l0, l1, l2] st M else EE 152 10 [l0, l1, l2] st M := e_ge0 d152_7 (by decide)
theorem d152_10 : decode (cod 152) 10 = .ok (.iload_n 2, 1) := by decide +kernel
theorem s152_10 {M : Mm} {st : List Value} {l0 l1 : Option Value} {x : Int32} : EE 152 10 [l0, l1, some (.int x)] st M = EE 152 11 [l0, l1, some (.int x)] (.int x :: st) M := e_ld d152_10 rfl rfl rfl rfl rfl rfl
theorem d152_11 : decode (cod 152) 11 = .ok (.ifCond .eq 7, 3) := by decide +kernel
theorem s152_11 {M : Mm} {st : List Value} {l0 l1 l2 : Option Value} {x : Int32} : EE 152 11 [l0, l1, l2] (.int x :: st) M = if x = 0 then EE 152 18 [l0, l1, l2] st M else EE 152 14 [l0, l1, l2] st M := e_eq0 d152_11 (by decide)
theorem d152_14 : decode (cod 152) 14 = .ok (.iload_n 2, 1) := by decide +kernel
theorem s152_14 {M : Mm} {st : List Value} {l0 l1 : Option Value} {x : Int32} : EE 152 14 [l0, l1, some (.int x)] st M = EE 152 15 [l0, l1, some (.int x)] (.int x :: st) M := e_ld d152_14 rfl rfl rfl rfl rfl rfl
theorem d152_15 : decode (cod 152) 15 = .ok (.iload_n 1, 1) := by decide +kernel
theorem s152_15 {M : Mm} {st : List Value} {l0 l2 : Option Value} {x : Int32} : EE 152 15 [l0, some (.int x), l2] st M = EE 152 16 [l0, some (.int x), l2] (.int x :: st) M := e_ld d152_15 rfl rfl rfl rfl rfl rfl
theorem d152_16 : decode (cod 152) 16 = .ok (.iadd, 1) := by decide +kernel
theorem s152_16 {M : Mm} {st : List Value} {l0 l1 l2 : Option Value} {x y : Int32} : EE 152 16 [l0, l1, l2] (.int y :: .int x :: st) M = EE 152 17 [l0, l1, l2] (.int (x + y) :: st) M := e_II d152_16 rfl rfl rfl rfl rfl rfl
theorem d152_17 : decode (cod 152) 17 = .ok (.ireturn, 1) := by decide +kernel
theorem s152_17 {M : Mm} {l0 l1 l2 : Option Value} {v : Int32} : EE 152 17 [l0, l1, l2] [.int v] M = some (some (.int v), M) := e_iret d152_17 rfl rfl
theorem d152_18 : decode (cod 152) 18 = .ok (.iload_n 2, 1) := by decide +kernel
theorem s152_18 {M : Mm} {st : List Value} {l0 l1 : Option Value} {x : Int32} : EE 152 18 [l0, l1, some (.int x)] st M = EE 152 19 [l0, l1, some (.int x)] (.int x :: st) M := e_ld d152_18 rfl rfl rfl rfl rfl rfl
theorem d152_19 : decode (cod 152) 19 = .ok (.ireturn, 1) := by decide +kernel
theorem s152_19 {M : Mm} {l0 l1 l2 : Option Value} {v : Int32} : EE 152 19 [l0, l1, l2] [.int v] M = some (some (.int v), M) := e_iret d152_19 rfl rfl
theorem FE152 {b0 : Int32} {b1 : Int32} {M : Mm} : FF 152 [.int b0, .int b1] M = EE 152 0 [some (.int b0), some (.int b1), none] [] M := FF_eq 152 _ _ (Nat.le_of_ble_eq_true rfl)
theorem d153_0 : decode (cod 153) 0 = .ok (.iload_n 0, 1) := by decide +kernel
theorem s153_0 {M : Mm} {st : List Value} {l1 : Option Value} {x : Int32} : EE 153 0 [some (.int x), l1] st M = EE 153 1 [some (.int x), l1] (.int x :: st) M := e_ld d153_0 rfl rfl rfl rfl rfl rfl
theorem d153_1 : decode (cod 153) 1 = .ok (.iload_n 1, 1) := by decide +kernel
theorem s153_1 {M : Mm} {st : List Value} {l0 : Option Value} {x : Int32} : EE 153 1 [l0, some (.int x)] st M = EE 153 2 [l0, some (.int x)] (.int x :: st) M := e_ld d153_1 rfl rfl rfl rfl rfl rfl
theorem d153_2 : decode (cod 153) 2 = .ok (.if_icmp .lt 7, 3) := by decide +kernel
theorem s153_2 {M : Mm} {st : List Value} {l0 l1 : Option Value} {x y : Int32} : EE 153 2 [l0, l1] (.int y :: .int x :: st) M = if x < y then EE 153 9 [l0, l1] st M else EE 153 5 [l0, l1] st M := e_clt d153_2 (by decide)
theorem d153_5 : decode (cod 153) 5 = .ok (.iload_n 0, 1) := by decide +kernel
theorem s153_5 {M : Mm} {st : List Value} {l1 : Option Value} {x : Int32} : EE 153 5 [some (.int x), l1] st M = EE 153 6 [some (.int x), l1] (.int x :: st) M := e_ld d153_5 rfl rfl rfl rfl rfl rfl
theorem d153_6 : decode (cod 153) 6 = .ok (.goto 4, 3) := by decide +kernel
theorem s153_6 {M : Mm} {st : List Value} {l0 l1 : Option Value} : EE 153 6 [l0, l1] st M = EE 153 10 [l0, l1] st M := e_goto d153_6 (by decide)
theorem d153_9 : decode (cod 153) 9 = .ok (.iload_n 1, 1) := by decide +kernel
theorem s153_9 {M : Mm} {st : List Value} {l0 : Option Value} {x : Int32} : EE 153 9 [l0, some (.int x)] st M = EE 153 10 [l0, some (.int x)] (.int x :: st) M := e_ld d153_9 rfl rfl rfl rfl rfl rfl
theorem d153_10 : decode (cod 153) 10 = .ok (.ireturn, 1) := by decide +kernel
theorem s153_10 {M : Mm} {l0 l1 : Option Value} {v : Int32} : EE 153 10 [l0, l1] [.int v] M = some (some (.int v), M) := e_iret d153_10 rfl rfl
theorem FE153 {b0 : Int32} {b1 : Int32} {M : Mm} : FF 153 [.int b0, .int b1] M = EE 153 0 [some (.int b0), some (.int b1)] [] M := FF_eq 153 _ _ (Nat.le_of_ble_eq_true rfl)
theorem d154_0 : decode (cod 154) 0 = .ok (.iload_n 0, 1) := by decide +kernel
theorem s154_0 {M : Mm} {st : List Value} {x : Int32} : EE 154 0 [some (.int x)] st M = EE 154 1 [some (.int x)] (.int x :: st) M := e_ld d154_0 rfl rfl rfl rfl rfl rfl
theorem d154_1 : decode (cod 154) 1 = .ok (.iload_n 0, 1) := by decide +kernel
theorem s154_1 {M : Mm} {st : List Value} {x : Int32} : EE 154 1 [some (.int x)] st M = EE 154 2 [some (.int x)] (.int x :: st) M := e_ld d154_1 rfl rfl rfl rfl rfl rfl
theorem d154_2 : decode (cod 154) 2 = .ok (.iconst 1, 1) := by decide +kernel
theorem s154_2 {M : Mm} {st : List Value} {l0 : Option Value} : EE 154 2 [l0] st M = EE 154 3 [l0] (.int (nI 1) :: st) M := e_con d154_2 k_con_1
theorem d154_3 : decode (cod 154) 3 = .ok (.iushr, 1) := by decide +kernel
theorem s154_3 {M : Mm} {st : List Value} {l0 : Option Value} {x y : Int32} : EE 154 3 [l0] (.int y :: .int x :: st) M = EE 154 4 [l0] (.int ((x.toUInt32 >>> (y.toUInt32 &&& Int32.toUInt32 31)).toInt32) :: st) M := e_II d154_3 rfl rfl rfl rfl rfl rfl
theorem d154_4 : decode (cod 154) 4 = .ok (.ldc_w 265, 3) := by decide +kernel
theorem s154_4 {M : Mm} {st : List Value} {l0 : Option Value} : EE 154 4 [l0] st M = EE 154 7 [l0] (.int 1431655765 :: st) M := e_ldcw d154_4 k6_265
theorem d154_7 : decode (cod 154) 7 = .ok (.iand, 1) := by decide +kernel
theorem s154_7 {M : Mm} {st : List Value} {l0 : Option Value} {x y : Int32} : EE 154 7 [l0] (.int y :: .int x :: st) M = EE 154 8 [l0] (.int (x &&& y) :: st) M := e_II d154_7 rfl rfl rfl rfl rfl rfl
theorem d154_8 : decode (cod 154) 8 = .ok (.isub, 1) := by decide +kernel
theorem s154_8 {M : Mm} {st : List Value} {l0 : Option Value} {x y : Int32} : EE 154 8 [l0] (.int y :: .int x :: st) M = EE 154 9 [l0] (.int (x - y) :: st) M := e_II d154_8 rfl rfl rfl rfl rfl rfl
theorem d154_9 : decode (cod 154) 9 = .ok (.istore_n 0, 1) := by decide +kernel
theorem s154_9 {M : Mm} {st : List Value} {l0 : Option Value} {x : Int32} : EE 154 9 [l0] (.int x :: st) M = EE 154 10 [some (.int x)] st M := e_st1 d154_9 rfl rfl rfl rfl rfl rfl rfl (Nat.le_of_ble_eq_true rfl) rfl
theorem d154_10 : decode (cod 154) 10 = .ok (.iload_n 0, 1) := by decide +kernel
theorem s154_10 {M : Mm} {st : List Value} {x : Int32} : EE 154 10 [some (.int x)] st M = EE 154 11 [some (.int x)] (.int x :: st) M := e_ld d154_10 rfl rfl rfl rfl rfl rfl
theorem d154_11 : decode (cod 154) 11 = .ok (.ldc_w 266, 3) := by decide +kernel
theorem s154_11 {M : Mm} {st : List Value} {l0 : Option Value} : EE 154 11 [l0] st M = EE 154 14 [l0] (.int 858993459 :: st) M := e_ldcw d154_11 k6_266
theorem d154_14 : decode (cod 154) 14 = .ok (.iand, 1) := by decide +kernel
theorem s154_14 {M : Mm} {st : List Value} {l0 : Option Value} {x y : Int32} : EE 154 14 [l0] (.int y :: .int x :: st) M = EE 154 15 [l0] (.int (x &&& y) :: st) M := e_II d154_14 rfl rfl rfl rfl rfl rfl
theorem d154_15 : decode (cod 154) 15 = .ok (.iload_n 0, 1) := by decide +kernel
theorem s154_15 {M : Mm} {st : List Value} {x : Int32} : EE 154 15 [some (.int x)] st M = EE 154 16 [some (.int x)] (.int x :: st) M := e_ld d154_15 rfl rfl rfl rfl rfl rfl
theorem d154_16 : decode (cod 154) 16 = .ok (.iconst 2, 1) := by decide +kernel
theorem s154_16 {M : Mm} {st : List Value} {l0 : Option Value} : EE 154 16 [l0] st M = EE 154 17 [l0] (.int (nI 2) :: st) M := e_con d154_16 k_con_2
theorem d154_17 : decode (cod 154) 17 = .ok (.iushr, 1) := by decide +kernel
theorem s154_17 {M : Mm} {st : List Value} {l0 : Option Value} {x y : Int32} : EE 154 17 [l0] (.int y :: .int x :: st) M = EE 154 18 [l0] (.int ((x.toUInt32 >>> (y.toUInt32 &&& Int32.toUInt32 31)).toInt32) :: st) M := e_II d154_17 rfl rfl rfl rfl rfl rfl
theorem d154_18 : decode (cod 154) 18 = .ok (.ldc_w 266, 3) := by decide +kernel
theorem s154_18 {M : Mm} {st : List Value} {l0 : Option Value} : EE 154 18 [l0] st M = EE 154 21 [l0] (.int 858993459 :: st) M := e_ldcw d154_18 k6_266
theorem d154_21 : decode (cod 154) 21 = .ok (.iand, 1) := by decide +kernel
theorem s154_21 {M : Mm} {st : List Value} {l0 : Option Value} {x y : Int32} : EE 154 21 [l0] (.int y :: .int x :: st) M = EE 154 22 [l0] (.int (x &&& y) :: st) M := e_II d154_21 rfl rfl rfl rfl rfl rfl
theorem d154_22 : decode (cod 154) 22 = .ok (.iadd, 1) := by decide +kernel
theorem s154_22 {M : Mm} {st : List Value} {l0 : Option Value} {x y : Int32} : EE 154 22 [l0] (.int y :: .int x :: st) M = EE 154 23 [l0] (.int (x + y) :: st) M := e_II d154_22 rfl rfl rfl rfl rfl rfl
theorem d154_23 : decode (cod 154) 23 = .ok (.istore_n 0, 1) := by decide +kernel
theorem s154_23 {M : Mm} {st : List Value} {l0 : Option Value} {x : Int32} : EE 154 23 [l0] (.int x :: st) M = EE 154 24 [some (.int x)] st M := e_st1 d154_23 rfl rfl rfl rfl rfl rfl rfl (Nat.le_of_ble_eq_true rfl) rfl
theorem d154_24 : decode (cod 154) 24 = .ok (.iload_n 0, 1) := by decide +kernel
theorem s154_24 {M : Mm} {st : List Value} {x : Int32} : EE 154 24 [some (.int x)] st M = EE 154 25 [some (.int x)] (.int x :: st) M := e_ld d154_24 rfl rfl rfl rfl rfl rfl
theorem d154_25 : decode (cod 154) 25 = .ok (.iload_n 0, 1) := by decide +kernel
theorem s154_25 {M : Mm} {st : List Value} {x : Int32} : EE 154 25 [some (.int x)] st M = EE 154 26 [some (.int x)] (.int x :: st) M := e_ld d154_25 rfl rfl rfl rfl rfl rfl
theorem d154_26 : decode (cod 154) 26 = .ok (.iconst 4, 1) := by decide +kernel
theorem s154_26 {M : Mm} {st : List Value} {l0 : Option Value} : EE 154 26 [l0] st M = EE 154 27 [l0] (.int (nI 4) :: st) M := e_con d154_26 k_con_4
theorem d154_27 : decode (cod 154) 27 = .ok (.iushr, 1) := by decide +kernel
theorem s154_27 {M : Mm} {st : List Value} {l0 : Option Value} {x y : Int32} : EE 154 27 [l0] (.int y :: .int x :: st) M = EE 154 28 [l0] (.int ((x.toUInt32 >>> (y.toUInt32 &&& Int32.toUInt32 31)).toInt32) :: st) M := e_II d154_27 rfl rfl rfl rfl rfl rfl
theorem d154_28 : decode (cod 154) 28 = .ok (.iadd, 1) := by decide +kernel
theorem s154_28 {M : Mm} {st : List Value} {l0 : Option Value} {x y : Int32} : EE 154 28 [l0] (.int y :: .int x :: st) M = EE 154 29 [l0] (.int (x + y) :: st) M := e_II d154_28 rfl rfl rfl rfl rfl rfl
theorem d154_29 : decode (cod 154) 29 = .ok (.ldc_w 267, 3) := by decide +kernel
theorem s154_29 {M : Mm} {st : List Value} {l0 : Option Value} : EE 154 29 [l0] st M = EE 154 32 [l0] (.int 252645135 :: st) M := e_ldcw d154_29 k6_267
theorem d154_32 : decode (cod 154) 32 = .ok (.iand, 1) := by decide +kernel
theorem s154_32 {M : Mm} {st : List Value} {l0 : Option Value} {x y : Int32} : EE 154 32 [l0] (.int y :: .int x :: st) M = EE 154 33 [l0] (.int (x &&& y) :: st) M := e_II d154_32 rfl rfl rfl rfl rfl rfl
theorem d154_33 : decode (cod 154) 33 = .ok (.istore_n 0, 1) := by decide +kernel
theorem s154_33 {M : Mm} {st : List Value} {l0 : Option Value} {x : Int32} : EE 154 33 [l0] (.int x :: st) M = EE 154 34 [some (.int x)] st M := e_st1 d154_33 rfl rfl rfl rfl rfl rfl rfl (Nat.le_of_ble_eq_true rfl) rfl
theorem d154_34 : decode (cod 154) 34 = .ok (.iload_n 0, 1) := by decide +kernel
theorem s154_34 {M : Mm} {st : List Value} {x : Int32} : EE 154 34 [some (.int x)] st M = EE 154 35 [some (.int x)] (.int x :: st) M := e_ld d154_34 rfl rfl rfl rfl rfl rfl
theorem d154_35 : decode (cod 154) 35 = .ok (.iload_n 0, 1) := by decide +kernel
theorem s154_35 {M : Mm} {st : List Value} {x : Int32} : EE 154 35 [some (.int x)] st M = EE 154 36 [some (.int x)] (.int x :: st) M := e_ld d154_35 rfl rfl rfl rfl rfl rfl
theorem d154_36 : decode (cod 154) 36 = .ok (.bipush 8, 2) := by decide +kernel
theorem s154_36 {M : Mm} {st : List Value} {l0 : Option Value} : EE 154 36 [l0] st M = EE 154 38 [l0] (.int (nI 8) :: st) M := e_bip d154_36 k_bip_8
theorem d154_38 : decode (cod 154) 38 = .ok (.iushr, 1) := by decide +kernel
theorem s154_38 {M : Mm} {st : List Value} {l0 : Option Value} {x y : Int32} : EE 154 38 [l0] (.int y :: .int x :: st) M = EE 154 39 [l0] (.int ((x.toUInt32 >>> (y.toUInt32 &&& Int32.toUInt32 31)).toInt32) :: st) M := e_II d154_38 rfl rfl rfl rfl rfl rfl
theorem d154_39 : decode (cod 154) 39 = .ok (.iadd, 1) := by decide +kernel
theorem s154_39 {M : Mm} {st : List Value} {l0 : Option Value} {x y : Int32} : EE 154 39 [l0] (.int y :: .int x :: st) M = EE 154 40 [l0] (.int (x + y) :: st) M := e_II d154_39 rfl rfl rfl rfl rfl rfl
theorem d154_40 : decode (cod 154) 40 = .ok (.istore_n 0, 1) := by decide +kernel
theorem s154_40 {M : Mm} {st : List Value} {l0 : Option Value} {x : Int32} : EE 154 40 [l0] (.int x :: st) M = EE 154 41 [some (.int x)] st M := e_st1 d154_40 rfl rfl rfl rfl rfl rfl rfl (Nat.le_of_ble_eq_true rfl) rfl
theorem d154_41 : decode (cod 154) 41 = .ok (.iload_n 0, 1) := by decide +kernel
theorem s154_41 {M : Mm} {st : List Value} {x : Int32} : EE 154 41 [some (.int x)] st M = EE 154 42 [some (.int x)] (.int x :: st) M := e_ld d154_41 rfl rfl rfl rfl rfl rfl
theorem d154_42 : decode (cod 154) 42 = .ok (.iload_n 0, 1) := by decide +kernel
theorem s154_42 {M : Mm} {st : List Value} {x : Int32} : EE 154 42 [some (.int x)] st M = EE 154 43 [some (.int x)] (.int x :: st) M := e_ld d154_42 rfl rfl rfl rfl rfl rfl
theorem d154_43 : decode (cod 154) 43 = .ok (.bipush 16, 2) := by decide +kernel
theorem s154_43 {M : Mm} {st : List Value} {l0 : Option Value} : EE 154 43 [l0] st M = EE 154 45 [l0] (.int (nI 16) :: st) M := e_bip d154_43 k_bip_16
theorem d154_45 : decode (cod 154) 45 = .ok (.iushr, 1) := by decide +kernel
theorem s154_45 {M : Mm} {st : List Value} {l0 : Option Value} {x y : Int32} : EE 154 45 [l0] (.int y :: .int x :: st) M = EE 154 46 [l0] (.int ((x.toUInt32 >>> (y.toUInt32 &&& Int32.toUInt32 31)).toInt32) :: st) M := e_II d154_45 rfl rfl rfl rfl rfl rfl
theorem d154_46 : decode (cod 154) 46 = .ok (.iadd, 1) := by decide +kernel
theorem s154_46 {M : Mm} {st : List Value} {l0 : Option Value} {x y : Int32} : EE 154 46 [l0] (.int y :: .int x :: st) M = EE 154 47 [l0] (.int (x + y) :: st) M := e_II d154_46 rfl rfl rfl rfl rfl rfl
theorem d154_47 : decode (cod 154) 47 = .ok (.istore_n 0, 1) := by decide +kernel
theorem s154_47 {M : Mm} {st : List Value} {l0 : Option Value} {x : Int32} : EE 154 47 [l0] (.int x :: st) M = EE 154 48 [some (.int x)] st M := e_st1 d154_47 rfl rfl rfl rfl rfl rfl rfl (Nat.le_of_ble_eq_true rfl) rfl
theorem d154_48 : decode (cod 154) 48 = .ok (.iload_n 0, 1) := by decide +kernel
theorem s154_48 {M : Mm} {st : List Value} {x : Int32} : EE 154 48 [some (.int x)] st M = EE 154 49 [some (.int x)] (.int x :: st) M := e_ld d154_48 rfl rfl rfl rfl rfl rfl
theorem d154_49 : decode (cod 154) 49 = .ok (.bipush 63, 2) := by decide +kernel
theorem s154_49 {M : Mm} {st : List Value} {l0 : Option Value} : EE 154 49 [l0] st M = EE 154 51 [l0] (.int (nI 63) :: st) M := e_bip d154_49 k_bip_63
theorem d154_51 : decode (cod 154) 51 = .ok (.iand, 1) := by decide +kernel
theorem s154_51 {M : Mm} {st : List Value} {l0 : Option Value} {x y : Int32} : EE 154 51 [l0] (.int y :: .int x :: st) M = EE 154 52 [l0] (.int (x &&& y) :: st) M := e_II d154_51 rfl rfl rfl rfl rfl rfl
theorem d154_52 : decode (cod 154) 52 = .ok (.ireturn, 1) := by decide +kernel
theorem s154_52 {M : Mm} {l0 : Option Value} {v : Int32} : EE 154 52 [l0] [.int v] M = some (some (.int v), M) := e_iret d154_52 rfl rfl
theorem FE154 {b0 : Int32} {M : Mm} : FF 154 [.int b0] M = EE 154 0 [some (.int b0)] [] M := FF_eq 154 _ _ (Nat.le_of_ble_eq_true rfl)
theorem d155_0 : decode (cod 155) 0 = .ok (.aload_n 0, 1) := by decide +kernel
theorem s155_0 {M : Mm} {st : List Value} {l1 : Option Value} {x : Nat} : EE 155 0 [some (.ref x), l1] st M = EE 155 1 [some (.ref x), l1] (.ref x :: st) M := e_ld d155_0 rfl rfl rfl rfl rfl rfl
theorem d155_1 : decode (cod 155) 1 = .ok (.iload_n 1, 1) := by decide +kernel
theorem s155_1 {M : Mm} {st : List Value} {l0 : Option Value} {x : Int32} : EE 155 1 [l0, some (.int x)] st M = EE 155 2 [l0, some (.int x)] (.int x :: st) M := e_ld d155_1 rfl rfl rfl rfl rfl rfl
theorem d155_2 : decode (cod 155) 2 = .ok (.iconst 0, 1) := by decide +kernel
theorem s155_2 {M : Mm} {st : List Value} {l0 l1 : Option Value} : EE 155 2 [l0, l1] st M = EE 155 3 [l0, l1] (.int (nI 0) :: st) M := e_con d155_2 k_con_0
theorem d155_3 : decode (cod 155) 3 = .ok (.invokevirtual 633, 3) := by decide +kernel
theorem s155_3 {l0 l1 : Option Value} {a : Nat} {M : Mm} {b0 : Int32} {b1 : Int32} {st : List Value} (hl : st.length ≤ 4) (ho : isO "java/lang/String" M.1 a = true) : EE 155 3 [l0, l1] (.int b1 :: .int b0 :: .ref a :: st) M = (FF 156 (.ref a :: [.int b0, .int b1]) M).bind (fun z => EE 155 6 [l0, l1] (psh z.1 st) z.2) := e_calv (av := [.int b0, .int b1]) d155_3 c7_633 rfl rfl rfl r155_156 rfl hl ho
theorem d155_6 : decode (cod 155) 6 = .ok (.ireturn, 1) := by decide +kernel
theorem s155_6 {M : Mm} {l0 l1 : Option Value} {v : Int32} : EE 155 6 [l0, l1] [.int v] M = some (some (.int v), M) := e_iret d155_6 rfl rfl
theorem FE155 {a : Nat} {b0 : Int32} {M : Mm} : FF 155 [.ref a, .int b0] M = EE 155 0 [some (.ref a), some (.int b0)] [] M := FF_eq 155 _ _ (Nat.le_of_ble_eq_true rfl)
theorem d156_0 : decode (cod 156) 0 = .ok (.aload_n 0, 1) := by decide +kernel
theorem s156_0 {M : Mm} {st : List Value} {l1 l2 : Option Value} {x : Nat} : EE 156 0 [some (.ref x), l1, l2] st M = EE 156 1 [some (.ref x), l1, l2] (.ref x :: st) M := e_ld d156_0 rfl rfl rfl rfl rfl rfl
theorem d156_1 : decode (cod 156) 1 = .ok (.invokevirtual 492, 3) := by decide +kernel
theorem s156_1 {l0 l1 l2 : Option Value} {a : Nat} {M : Mm} {st : List Value} (hl : st.length ≤ 4) (ho : isO "java/lang/String" M.1 a = true) : EE 156 1 [l0, l1, l2] (.ref a :: st) M = (FF 157 (.ref a :: []) M).bind (fun z => EE 156 4 [l0, l1, l2] (psh z.1 st) z.2) := e_calv (av := []) d156_1 c7_492 rfl rfl rfl r156_157 rfl hl ho
theorem d156_4 : decode (cod 156) 4 = .ok (.ifCond .eq 19, 3) := by decide +kernel
theorem s156_4 {M : Mm} {st : List Value} {l0 l1 l2 : Option Value} {x : Int32} : EE 156 4 [l0, l1, l2] (.int x :: st) M = if x = 0 then EE 156 23 [l0, l1, l2] st M else EE 156 7 [l0, l1, l2] st M := e_eq0 d156_4 (by decide)
theorem d156_7 : decode (cod 156) 7 = .ok (.aload_n 0, 1) := by decide +kernel
theorem s156_7 {M : Mm} {st : List Value} {l1 l2 : Option Value} {x : Nat} : EE 156 7 [some (.ref x), l1, l2] st M = EE 156 8 [some (.ref x), l1, l2] (.ref x :: st) M := e_ld d156_7 rfl rfl rfl rfl rfl rfl
theorem d156_8 : decode (cod 156) 8 = .ok (.getfield 9, 3) := by decide +kernel
theorem s156_8 {n : Nat} {I : Nat → Nat → Int32} {R : Nat → Nat → Option Nat} {st : List Value} {l0 l1 l2 : Option Value} {a : Nat} : EE 156 8 [l0, l1, l2] (.ref a :: st) (n, I, R) = (gfI n I R 100 0 a).bind (fun z => EE 156 11 [l0, l1, l2] (z :: st) (n, I, R)) := e_getf d156_8 f7_9 rfl rfl
theorem d156_11 : decode (cod 156) 11 = .ok (.iload_n 1, 1) := by decide +kernel
theorem s156_11 {M : Mm} {st : List Value} {l0 l2 : Option Value} {x : Int32} : EE 156 11 [l0, some (.int x), l2] st M = EE 156 12 [l0, some (.int x), l2] (.int x :: st) M := e_ld d156_11 rfl rfl rfl rfl rfl rfl
theorem d156_12 : decode (cod 156) 12 = .ok (.iload_n 2, 1) := by decide +kernel
theorem s156_12 {M : Mm} {st : List Value} {l0 l1 : Option Value} {x : Int32} : EE 156 12 [l0, l1, some (.int x)] st M = EE 156 13 [l0, l1, some (.int x)] (.int x :: st) M := e_ld d156_12 rfl rfl rfl rfl rfl rfl
theorem d156_13 : decode (cod 156) 13 = .ok (.aload_n 0, 1) := by decide +kernel
theorem s156_13 {M : Mm} {st : List Value} {l1 l2 : Option Value} {x : Nat} : EE 156 13 [some (.ref x), l1, l2] st M = EE 156 14 [some (.ref x), l1, l2] (.ref x :: st) M := e_ld d156_13 rfl rfl rfl rfl rfl rfl
theorem d156_14 : decode (cod 156) 14 = .ok (.invokevirtual 505, 3) := by decide +kernel
theorem s156_14 {l0 l1 l2 : Option Value} {a : Nat} {M : Mm} {st : List Value} (hl : st.length ≤ 4) (ho : isO "java/lang/String" M.1 a = true) : EE 156 14 [l0, l1, l2] (.ref a :: st) M = (FF 158 (.ref a :: []) M).bind (fun z => EE 156 17 [l0, l1, l2] (psh z.1 st) z.2) := e_calv (av := []) d156_14 c7_505 rfl rfl rfl r156_158 rfl hl ho
theorem d156_17 : decode (cod 156) 17 = .ok (.invokestatic 637, 3) := by decide +kernel
theorem s156_17 {M : Mm} {l0 l1 l2 : Option Value} {b0 : Nat} {b1 : Int32} {b2 : Int32} {b3 : Int32} {st : List Value} (hl : st.length ≤ 4) : EE 156 17 [l0, l1, l2] (.int b3 :: .int b2 :: .int b1 :: .ref b0 :: st) M = (FF 162 [.ref b0, .int b1, .int b2, .int b3] M).bind (fun z => EE 156 20 [l0, l1, l2] (psh z.1 st) z.2) := e_cals (av := [.ref b0, .int b1, .int b2, .int b3]) d156_17 c7_637 (Or.inl rfl) rfl rfl r156_162 rfl hl
theorem d156_20 : decode (cod 156) 20 = .ok (.goto 16, 3) := by decide +kernel
theorem s156_20 {M : Mm} {st : List Value} {l0 l1 l2 : Option Value} : EE 156 20 [l0, l1, l2] st M = EE 156 36 [l0, l1, l2] st M := e_goto d156_20 (by decide)
theorem d156_23 : decode (cod 156) 23 = .ok (.aload_n 0, 1) := by decide +kernel
theorem s156_23 {M : Mm} {st : List Value} {l1 l2 : Option Value} {x : Nat} : EE 156 23 [some (.ref x), l1, l2] st M = EE 156 24 [some (.ref x), l1, l2] (.ref x :: st) M := e_ld d156_23 rfl rfl rfl rfl rfl rfl
theorem d156_24 : decode (cod 156) 24 = .ok (.getfield 9, 3) := by decide +kernel
theorem s156_24 {n : Nat} {I : Nat → Nat → Int32} {R : Nat → Nat → Option Nat} {st : List Value} {l0 l1 l2 : Option Value} {a : Nat} : EE 156 24 [l0, l1, l2] (.ref a :: st) (n, I, R) = (gfI n I R 100 0 a).bind (fun z => EE 156 27 [l0, l1, l2] (z :: st) (n, I, R)) := e_getf d156_24 f7_9 rfl rfl
theorem d156_27 : decode (cod 156) 27 = .ok (.iload_n 1, 1) := by decide +kernel
theorem s156_27 {M : Mm} {st : List Value} {l0 l2 : Option Value} {x : Int32} : EE 156 27 [l0, some (.int x), l2] st M = EE 156 28 [l0, some (.int x), l2] (.int x :: st) M := e_ld d156_27 rfl rfl rfl rfl rfl rfl
theorem d156_28 : decode (cod 156) 28 = .ok (.iload_n 2, 1) := by decide +kernel
theorem s156_28 {M : Mm} {st : List Value} {l0 l1 : Option Value} {x : Int32} : EE 156 28 [l0, l1, some (.int x)] st M = EE 156 29 [l0, l1, some (.int x)] (.int x :: st) M := e_ld d156_28 rfl rfl rfl rfl rfl rfl
theorem d156_29 : decode (cod 156) 29 = .ok (.aload_n 0, 1) := by decide +kernel
theorem s156_29 {M : Mm} {st : List Value} {l1 l2 : Option Value} {x : Nat} : EE 156 29 [some (.ref x), l1, l2] st M = EE 156 30 [some (.ref x), l1, l2] (.ref x :: st) M := e_ld d156_29 rfl rfl rfl rfl rfl rfl
theorem d156_30 : decode (cod 156) 30 = .ok (.invokevirtual 505, 3) := by decide +kernel
theorem s156_30 {l0 l1 l2 : Option Value} {a : Nat} {M : Mm} {st : List Value} (hl : st.length ≤ 4) (ho : isO "java/lang/String" M.1 a = true) : EE 156 30 [l0, l1, l2] (.ref a :: st) M = (FF 158 (.ref a :: []) M).bind (fun z => EE 156 33 [l0, l1, l2] (psh z.1 st) z.2) := e_calv (av := []) d156_30 c7_505 rfl rfl rfl r156_158 rfl hl ho
theorem d156_33 : decode (cod 156) 33 = .ok (.invokestatic 640, 3) := by decide +kernel
theorem d156_36 : decode (cod 156) 36 = .ok (.ireturn, 1) := by decide +kernel
theorem s156_36 {M : Mm} {l0 l1 l2 : Option Value} {v : Int32} : EE 156 36 [l0, l1, l2] [.int v] M = some (some (.int v), M) := e_iret d156_36 rfl rfl
theorem FE156 {a : Nat} {b0 : Int32} {b1 : Int32} {M : Mm} : FF 156 [.ref a, .int b0, .int b1] M = EE 156 0 [some (.ref a), some (.int b0), some (.int b1)] [] M := FF_eq 156 _ _ (Nat.le_of_ble_eq_true rfl)
theorem d157_0 : decode (cod 157) 0 = .ok (.getstatic 38, 3) := by decide +kernel
theorem s157_0 {M : Mm} {st : List Value} {l0 : Option Value} : EE 157 0 [l0] st M = EE 157 3 [l0] (.int 1 :: st) M := e_gets d157_0 g7_38 (by decide)
theorem d157_3 : decode (cod 157) 3 = .ok (.ifCond .eq 14, 3) := by decide +kernel
theorem s157_3 {M : Mm} {st : List Value} {l0 : Option Value} {x : Int32} : EE 157 3 [l0] (.int x :: st) M = if x = 0 then EE 157 17 [l0] st M else EE 157 6 [l0] st M := e_eq0 d157_3 (by decide)
theorem d157_6 : decode (cod 157) 6 = .ok (.aload_n 0, 1) := by decide +kernel
theorem s157_6 {M : Mm} {st : List Value} {x : Nat} : EE 157 6 [some (.ref x)] st M = EE 157 7 [some (.ref x)] (.ref x :: st) M := e_ld d157_6 rfl rfl rfl rfl rfl rfl
theorem d157_7 : decode (cod 157) 7 = .ok (.getfield 15, 3) := by decide +kernel
theorem s157_7 {n : Nat} {I : Nat → Nat → Int32} {R : Nat → Nat → Option Nat} {st : List Value} {l0 : Option Value} {a : Nat} : EE 157 7 [l0] (.ref a :: st) (n, I, R) = (gfI n I R 100 1 a).bind (fun z => EE 157 10 [l0] (z :: st) (n, I, R)) := e_getf d157_7 f7_15 rfl rfl
theorem d157_10 : decode (cod 157) 10 = .ok (.ifCond .ne 7, 3) := by decide +kernel
theorem s157_10 {M : Mm} {st : List Value} {l0 : Option Value} {x : Int32} : EE 157 10 [l0] (.int x :: st) M = if x = 0 then EE 157 13 [l0] st M else EE 157 17 [l0] st M := e_ne0 d157_10 (by decide)
theorem d157_13 : decode (cod 157) 13 = .ok (.iconst 1, 1) := by decide +kernel
theorem s157_13 {M : Mm} {st : List Value} {l0 : Option Value} : EE 157 13 [l0] st M = EE 157 14 [l0] (.int (nI 1) :: st) M := e_con d157_13 k_con_1
theorem d157_14 : decode (cod 157) 14 = .ok (.goto 4, 3) := by decide +kernel
theorem s157_14 {M : Mm} {st : List Value} {l0 : Option Value} : EE 157 14 [l0] st M = EE 157 18 [l0] st M := e_goto d157_14 (by decide)
theorem d157_17 : decode (cod 157) 17 = .ok (.iconst 0, 1) := by decide +kernel
theorem s157_17 {M : Mm} {st : List Value} {l0 : Option Value} : EE 157 17 [l0] st M = EE 157 18 [l0] (.int (nI 0) :: st) M := e_con d157_17 k_con_0
theorem d157_18 : decode (cod 157) 18 = .ok (.ireturn, 1) := by decide +kernel
theorem s157_18 {M : Mm} {l0 : Option Value} {v : Int32} (h : narrow .boolean (.int v) = .int v) : EE 157 18 [l0] [.int v] M = some (some (.int v), M) := e_iret d157_18 rfl h
theorem FE157 {a : Nat} {M : Mm} : FF 157 [.ref a] M = EE 157 0 [some (.ref a)] [] M := FF_eq 157 _ _ (Nat.le_of_ble_eq_true rfl)
theorem d158_0 : decode (cod 158) 0 = .ok (.aload_n 0, 1) := by decide +kernel
theorem s158_0 {M : Mm} {st : List Value} {x : Nat} : EE 158 0 [some (.ref x)] st M = EE 158 1 [some (.ref x)] (.ref x :: st) M := e_ld d158_0 rfl rfl rfl rfl rfl rfl
theorem d158_1 : decode (cod 158) 1 = .ok (.getfield 9, 3) := by decide +kernel
theorem s158_1 {n : Nat} {I : Nat → Nat → Int32} {R : Nat → Nat → Option Nat} {st : List Value} {l0 : Option Value} {a : Nat} : EE 158 1 [l0] (.ref a :: st) (n, I, R) = (gfI n I R 100 0 a).bind (fun z => EE 158 4 [l0] (z :: st) (n, I, R)) := e_getf d158_1 f7_9 rfl rfl
theorem d158_4 : decode (cod 158) 4 = .ok (.arraylength, 1) := by decide +kernel
theorem s158_4 {n : Nat} {I : Nat → Nat → Int32} {R : Nat → Nat → Option Nat} {st : List Value} {l0 : Option Value} {a : Nat} : EE 158 4 [l0] (.ref a :: st) (n, I, R) = (aln n I a).bind (fun z => EE 158 5 [l0] (.int z :: st) (n, I, R)) := e_alenb d158_4
theorem d158_5 : decode (cod 158) 5 = .ok (.aload_n 0, 1) := by decide +kernel
theorem s158_5 {M : Mm} {st : List Value} {x : Nat} : EE 158 5 [some (.ref x)] st M = EE 158 6 [some (.ref x)] (.ref x :: st) M := e_ld d158_5 rfl rfl rfl rfl rfl rfl
theorem d158_6 : decode (cod 158) 6 = .ok (.invokevirtual 335, 3) := by decide +kernel
theorem s158_6 {l0 : Option Value} {a : Nat} {M : Mm} {st : List Value} (hl : st.length ≤ 4) (ho : isO "java/lang/String" M.1 a = true) : EE 158 6 [l0] (.ref a :: st) M = (FF 159 (.ref a :: []) M).bind (fun z => EE 158 9 [l0] (psh z.1 st) z.2) := e_calv (av := []) d158_6 c7_335 rfl rfl rfl r158_159 rfl hl ho
theorem d158_9 : decode (cod 158) 9 = .ok (.ishr, 1) := by decide +kernel
theorem s158_9 {M : Mm} {st : List Value} {l0 : Option Value} {x y : Int32} : EE 158 9 [l0] (.int y :: .int x :: st) M = EE 158 10 [l0] (.int (x >>> (y &&& 31)) :: st) M := e_II d158_9 rfl rfl rfl rfl rfl rfl
theorem d158_10 : decode (cod 158) 10 = .ok (.ireturn, 1) := by decide +kernel
theorem s158_10 {M : Mm} {l0 : Option Value} {v : Int32} : EE 158 10 [l0] [.int v] M = some (some (.int v), M) := e_iret d158_10 rfl rfl
theorem FE158 {a : Nat} {M : Mm} : FF 158 [.ref a] M = EE 158 0 [some (.ref a)] [] M := FF_eq 158 _ _ (Nat.le_of_ble_eq_true rfl)
theorem d159_0 : decode (cod 159) 0 = .ok (.getstatic 38, 3) := by decide +kernel
theorem s159_0 {M : Mm} {st : List Value} {l0 : Option Value} : EE 159 0 [l0] st M = EE 159 3 [l0] (.int 1 :: st) M := e_gets d159_0 g7_38 (by decide)
theorem d159_3 : decode (cod 159) 3 = .ok (.ifCond .eq 10, 3) := by decide +kernel
theorem s159_3 {M : Mm} {st : List Value} {l0 : Option Value} {x : Int32} : EE 159 3 [l0] (.int x :: st) M = if x = 0 then EE 159 13 [l0] st M else EE 159 6 [l0] st M := e_eq0 d159_3 (by decide)
theorem d159_6 : decode (cod 159) 6 = .ok (.aload_n 0, 1) := by decide +kernel
theorem s159_6 {M : Mm} {st : List Value} {x : Nat} : EE 159 6 [some (.ref x)] st M = EE 159 7 [some (.ref x)] (.ref x :: st) M := e_ld d159_6 rfl rfl rfl rfl rfl rfl
theorem d159_7 : decode (cod 159) 7 = .ok (.getfield 15, 3) := by decide +kernel
theorem s159_7 {n : Nat} {I : Nat → Nat → Int32} {R : Nat → Nat → Option Nat} {st : List Value} {l0 : Option Value} {a : Nat} : EE 159 7 [l0] (.ref a :: st) (n, I, R) = (gfI n I R 100 1 a).bind (fun z => EE 159 10 [l0] (z :: st) (n, I, R)) := e_getf d159_7 f7_15 rfl rfl
theorem d159_10 : decode (cod 159) 10 = .ok (.goto 4, 3) := by decide +kernel
theorem s159_10 {M : Mm} {st : List Value} {l0 : Option Value} : EE 159 10 [l0] st M = EE 159 14 [l0] st M := e_goto d159_10 (by decide)
theorem d159_13 : decode (cod 159) 13 = .ok (.iconst 1, 1) := by decide +kernel
theorem s159_13 {M : Mm} {st : List Value} {l0 : Option Value} : EE 159 13 [l0] st M = EE 159 14 [l0] (.int (nI 1) :: st) M := e_con d159_13 k_con_1
theorem d159_14 : decode (cod 159) 14 = .ok (.ireturn, 1) := by decide +kernel
theorem s159_14 {M : Mm} {l0 : Option Value} {v : Int32} (h : narrow .byte (.int v) = .int v) : EE 159 14 [l0] [.int v] M = some (some (.int v), M) := e_iret d159_14 rfl h
theorem FE159 {a : Nat} {M : Mm} : FF 159 [.ref a] M = EE 159 0 [some (.ref a)] [] M := FF_eq 159 _ _ (Nat.le_of_ble_eq_true rfl)
theorem d160_0 : decode (cod 160) 0 = .ok (.aload_n 0, 1) := by decide +kernel
theorem s160_0 {M : Mm} {st : List Value} {l1 : Option Value} {x : Nat} : EE 160 0 [some (.ref x), l1] st M = EE 160 1 [some (.ref x), l1] (.ref x :: st) M := e_ld d160_0 rfl rfl rfl rfl rfl rfl
theorem d160_1 : decode (cod 160) 1 = .ok (.invokevirtual 492, 3) := by decide +kernel
theorem s160_1 {l0 l1 : Option Value} {a : Nat} {M : Mm} {st : List Value} (hl : st.length ≤ 4) (ho : isO "java/lang/String" M.1 a = true) : EE 160 1 [l0, l1] (.ref a :: st) M = (FF 157 (.ref a :: []) M).bind (fun z => EE 160 4 [l0, l1] (psh z.1 st) z.2) := e_calv (av := []) d160_1 c7_492 rfl rfl rfl r160_157 rfl hl ho
theorem d160_4 : decode (cod 160) 4 = .ok (.ifCond .eq 12, 3) := by decide +kernel
theorem s160_4 {M : Mm} {st : List Value} {l0 l1 : Option Value} {x : Int32} : EE 160 4 [l0, l1] (.int x :: st) M = if x = 0 then EE 160 16 [l0, l1] st M else EE 160 7 [l0, l1] st M := e_eq0 d160_4 (by decide)
theorem d160_7 : decode (cod 160) 7 = .ok (.aload_n 0, 1) := by decide +kernel
theorem s160_7 {M : Mm} {st : List Value} {l1 : Option Value} {x : Nat} : EE 160 7 [some (.ref x), l1] st M = EE 160 8 [some (.ref x), l1] (.ref x :: st) M := e_ld d160_7 rfl rfl rfl rfl rfl rfl
theorem d160_8 : decode (cod 160) 8 = .ok (.getfield 9, 3) := by decide +kernel
theorem s160_8 {n : Nat} {I : Nat → Nat → Int32} {R : Nat → Nat → Option Nat} {st : List Value} {l0 l1 : Option Value} {a : Nat} : EE 160 8 [l0, l1] (.ref a :: st) (n, I, R) = (gfI n I R 100 0 a).bind (fun z => EE 160 11 [l0, l1] (z :: st) (n, I, R)) := e_getf d160_8 f7_9 rfl rfl
theorem d160_11 : decode (cod 160) 11 = .ok (.iload_n 1, 1) := by decide +kernel
theorem s160_11 {M : Mm} {st : List Value} {l0 : Option Value} {x : Int32} : EE 160 11 [l0, some (.int x)] st M = EE 160 12 [l0, some (.int x)] (.int x :: st) M := e_ld d160_11 rfl rfl rfl rfl rfl rfl
theorem d160_12 : decode (cod 160) 12 = .ok (.invokestatic 495, 3) := by decide +kernel
theorem s160_12 {M : Mm} {l0 l1 : Option Value} {b0 : Nat} {b1 : Int32} {st : List Value} (hl : st.length ≤ 4) : EE 160 12 [l0, l1] (.int b1 :: .ref b0 :: st) M = (FF 165 [.ref b0, .int b1] M).bind (fun z => EE 160 15 [l0, l1] (psh z.1 st) z.2) := e_cals (av := [.ref b0, .int b1]) d160_12 c7_495 (Or.inl rfl) rfl rfl r160_165 rfl hl
theorem d160_15 : decode (cod 160) 15 = .ok (.ireturn, 1) := by decide +kernel
theorem s160_15 {M : Mm} {l0 l1 : Option Value} {v : Int32} (h : narrow .char (.int v) = .int v) : EE 160 15 [l0, l1] [.int v] M = some (some (.int v), M) := e_iret d160_15 rfl h
theorem d160_16 : decode (cod 160) 16 = .ok (.aload_n 0, 1) := by decide +kernel
theorem s160_16 {M : Mm} {st : List Value} {l1 : Option Value} {x : Nat} : EE 160 16 [some (.ref x), l1] st M = EE 160 17 [some (.ref x), l1] (.ref x :: st) M := e_ld d160_16 rfl rfl rfl rfl rfl rfl
theorem d160_17 : decode (cod 160) 17 = .ok (.getfield 9, 3) := by decide +kernel
theorem s160_17 {n : Nat} {I : Nat → Nat → Int32} {R : Nat → Nat → Option Nat} {st : List Value} {l0 l1 : Option Value} {a : Nat} : EE 160 17 [l0, l1] (.ref a :: st) (n, I, R) = (gfI n I R 100 0 a).bind (fun z => EE 160 20 [l0, l1] (z :: st) (n, I, R)) := e_getf d160_17 f7_9 rfl rfl
theorem d160_20 : decode (cod 160) 20 = .ok (.iload_n 1, 1) := by decide +kernel
theorem s160_20 {M : Mm} {st : List Value} {l0 : Option Value} {x : Int32} : EE 160 20 [l0, some (.int x)] st M = EE 160 21 [l0, some (.int x)] (.int x :: st) M := e_ld d160_20 rfl rfl rfl rfl rfl rfl
theorem d160_21 : decode (cod 160) 21 = .ok (.invokestatic 498, 3) := by decide +kernel
theorem d160_24 : decode (cod 160) 24 = .ok (.ireturn, 1) := by decide +kernel
theorem s160_24 {M : Mm} {l0 l1 : Option Value} {v : Int32} (h : narrow .char (.int v) = .int v) : EE 160 24 [l0, l1] [.int v] M = some (some (.int v), M) := e_iret d160_24 rfl h
theorem FE160 {a : Nat} {b0 : Int32} {M : Mm} : FF 160 [.ref a, .int b0] M = EE 160 0 [some (.ref a), some (.int b0)] [] M := FF_eq 160 _ _ (Nat.le_of_ble_eq_true rfl)
theorem d161_0 : decode (cod 161) 0 = .ok (.iload_n 0, 1) := by decide +kernel
theorem s161_0 {M : Mm} {st : List Value} {l1 : Option Value} {x : Int32} : EE 161 0 [some (.int x), l1] st M = EE 161 1 [some (.int x), l1] (.int x :: st) M := e_ld d161_0 rfl rfl rfl rfl rfl rfl
theorem d161_1 : decode (cod 161) 1 = .ok (.iload_n 1, 1) := by decide +kernel
theorem s161_1 {M : Mm} {st : List Value} {l0 : Option Value} {x : Int32} : EE 161 1 [l0, some (.int x)] st M = EE 161 2 [l0, some (.int x)] (.int x :: st) M := e_ld d161_1 rfl rfl rfl rfl rfl rfl
theorem d161_2 : decode (cod 161) 2 = .ok (.getstatic 1053, 3) := by decide +kernel
theorem s161_2 {M : Mm} {st : List Value} {l0 l1 : Option Value} : EE 161 2 [l0, l1] st M = EE 161 5 [l0, l1] (.retAddr 0 :: st) M := e_gets d161_2 g7_1053 (by decide)
theorem d161_5 : decode (cod 161) 5 = .ok (.invokestatic 1059, 3) := by decide +kernel
theorem s161_5 {M : Mm} {l0 l1 : Option Value} {b0 : Int32} {b1 : Int32} {b2 : Nat} {st : List Value} (hl : st.length ≤ 4) : EE 161 5 [l0, l1] (.retAddr b2 :: .int b1 :: .int b0 :: st) M = (FF 166 [.int b0, .int b1, .retAddr b2] M).bind (fun z => EE 161 8 [l0, l1] (psh z.1 st) z.2) := e_cals (av := [.int b0, .int b1, .retAddr b2]) d161_5 c7_1059 (Or.inl rfl) rfl rfl r161_166 rfl hl
theorem d161_8 : decode (cod 161) 8 = .ok (.pop, 1) := by decide +kernel
theorem s161_8i {M : Mm} {st : List Value} {l0 l1 : Option Value} {x : Int32} : EE 161 8 [l0, l1] (.int x :: st) M = EE 161 9 [l0, l1] st M := e_pop d161_8 rfl
theorem s161_8r {M : Mm} {st : List Value} {l0 l1 : Option Value} {x : Nat} : EE 161 8 [l0, l1] (.ref x :: st) M = EE 161 9 [l0, l1] st M := e_pop d161_8 rfl
theorem d161_9 : decode (cod 161) 9 = .ok (.return_, 1) := by decide +kernel
theorem s161_9 {M : Mm} {l0 l1 : Option Value} : EE 161 9 [l0, l1] [] M = some (none, M) := e_vret d161_9 rfl
theorem FE161 {b0 : Int32} {b1 : Int32} {M : Mm} : FF 161 [.int b0, .int b1] M = EE 161 0 [some (.int b0), some (.int b1)] [] M := FF_eq 161 _ _ (Nat.le_of_ble_eq_true rfl)
theorem d162_0 : decode (cod 162) 0 = .ok (.iload_n 1, 1) := by decide +kernel
theorem s162_0 {M : Mm} {st : List Value} {l0 l2 l3 : Option Value} {x : Int32} : EE 162 0 [l0, some (.int x), l2, l3] st M = EE 162 1 [l0, some (.int x), l2, l3] (.int x :: st) M := e_ld d162_0 rfl rfl rfl rfl rfl rfl
theorem d162_1 : decode (cod 162) 1 = .ok (.invokestatic 88, 3) := by decide +kernel
theorem s162_1 {M : Mm} {l0 l1 l2 l3 : Option Value} {b0 : Int32} {st : List Value} (hl : st.length ≤ 4) : EE 162 1 [l0, l1, l2, l3] (.int b0 :: st) M = (FF 163 [.int b0] M).bind (fun z => EE 162 4 [l0, l1, l2, l3] (psh z.1 st) z.2) := e_cals (av := [.int b0]) d162_1 c8_88 (Or.inl rfl) rfl rfl r162_163 rfl hl
theorem d162_4 : decode (cod 162) 4 = .ok (.ifCond .ne 5, 3) := by decide +kernel
theorem s162_4 {M : Mm} {st : List Value} {l0 l1 l2 l3 : Option Value} {x : Int32} : EE 162 4 [l0, l1, l2, l3] (.int x :: st) M = if x = 0 then EE 162 7 [l0, l1, l2, l3] st M else EE 162 9 [l0, l1, l2, l3] st M := e_ne0 d162_4 (by decide)
theorem d162_7 : decode (cod 162) 7 = .ok (.iconst (-1), 1) := by decide +kernel
theorem s162_7 {M : Mm} {st : List Value} {l0 l1 l2 l3 : Option Value} : EE 162 7 [l0, l1, l2, l3] st M = EE 162 8 [l0, l1, l2, l3] (.int ((-1)) :: st) M := e_con d162_7 k_con_m1
theorem d162_8 : decode (cod 162) 8 = .ok (.ireturn, 1) := by decide +kernel
theorem s162_8 {M : Mm} {l0 l1 l2 l3 : Option Value} {v : Int32} : EE 162 8 [l0, l1, l2, l3] [.int v] M = some (some (.int v), M) := e_iret d162_8 rfl rfl
theorem d162_9 : decode (cod 162) 9 = .ok (.iload_n 2, 1) := by decide +kernel
theorem s162_9 {M : Mm} {st : List Value} {l0 l1 l3 : Option Value} {x : Int32} : EE 162 9 [l0, l1, some (.int x), l3] st M = EE 162 10 [l0, l1, some (.int x), l3] (.int x :: st) M := e_ld d162_9 rfl rfl rfl rfl rfl rfl
theorem d162_10 : decode (cod 162) 10 = .ok (.iconst 0, 1) := by decide +kernel
theorem s162_10 {M : Mm} {st : List Value} {l0 l1 l2 l3 : Option Value} : EE 162 10 [l0, l1, l2, l3] st M = EE 162 11 [l0, l1, l2, l3] (.int (nI 0) :: st) M := e_con d162_10 k_con_0
theorem d162_11 : decode (cod 162) 11 = .ok (.invokestatic 92, 3) := by decide +kernel
theorem s162_11 {M : Mm} {l0 l1 l2 l3 : Option Value} {b0 : Int32} {b1 : Int32} {st : List Value} (hl : st.length ≤ 4) : EE 162 11 [l0, l1, l2, l3] (.int b1 :: .int b0 :: st) M = (FF 153 [.int b0, .int b1] M).bind (fun z => EE 162 14 [l0, l1, l2, l3] (psh z.1 st) z.2) := e_cals (av := [.int b0, .int b1]) d162_11 c8_92 (Or.inl rfl) rfl rfl r162_153 rfl hl
theorem d162_14 : decode (cod 162) 14 = .ok (.istore_n 2, 1) := by decide +kernel
theorem s162_14 {M : Mm} {st : List Value} {l0 l1 l2 l3 : Option Value} {x : Int32} : EE 162 14 [l0, l1, l2, l3] (.int x :: st) M = EE 162 15 [l0, cln l1, some (.int x), l3] st M := e_st1 d162_14 rfl rfl rfl rfl rfl rfl rfl (Nat.le_of_ble_eq_true rfl) rfl
theorem d162_15 : decode (cod 162) 15 = .ok (.iload_n 3, 1) := by decide +kernel
theorem s162_15 {M : Mm} {st : List Value} {l0 l1 l2 : Option Value} {x : Int32} : EE 162 15 [l0, l1, l2, some (.int x)] st M = EE 162 16 [l0, l1, l2, some (.int x)] (.int x :: st) M := e_ld d162_15 rfl rfl rfl rfl rfl rfl
theorem d162_16 : decode (cod 162) 16 = .ok (.aload_n 0, 1) := by decide +kernel
theorem s162_16 {M : Mm} {st : List Value} {l1 l2 l3 : Option Value} {x : Nat} : EE 162 16 [some (.ref x), l1, l2, l3] st M = EE 162 17 [some (.ref x), l1, l2, l3] (.ref x :: st) M := e_ld d162_16 rfl rfl rfl rfl rfl rfl
theorem d162_17 : decode (cod 162) 17 = .ok (.arraylength, 1) := by decide +kernel
theorem s162_17 {n : Nat} {I : Nat → Nat → Int32} {R : Nat → Nat → Option Nat} {st : List Value} {l0 l1 l2 l3 : Option Value} {a : Nat} : EE 162 17 [l0, l1, l2, l3] (.ref a :: st) (n, I, R) = (aln n I a).bind (fun z => EE 162 18 [l0, l1, l2, l3] (.int z :: st) (n, I, R)) := e_alenb d162_17
theorem d162_18 : decode (cod 162) 18 = .ok (.invokestatic 38, 3) := by decide +kernel
theorem s162_18 {M : Mm} {l0 l1 l2 l3 : Option Value} {b0 : Int32} {b1 : Int32} {st : List Value} (hl : st.length ≤ 4) : EE 162 18 [l0, l1, l2, l3] (.int b1 :: .int b0 :: st) M = (FF 151 [.int b0, .int b1] M).bind (fun z => EE 162 21 [l0, l1, l2, l3] (psh z.1 st) z.2) := e_cals (av := [.int b0, .int b1]) d162_18 c8_38 (Or.inl rfl) rfl rfl r162_151 rfl hl
theorem d162_21 : decode (cod 162) 21 = .ok (.istore_n 3, 1) := by decide +kernel
theorem s162_21 {M : Mm} {st : List Value} {l0 l1 l2 l3 : Option Value} {x : Int32} : EE 162 21 [l0, l1, l2, l3] (.int x :: st) M = EE 162 22 [l0, l1, cln l2, some (.int x)] st M := e_st1 d162_21 rfl rfl rfl rfl rfl rfl rfl (Nat.le_of_ble_eq_true rfl) rfl
theorem d162_22 : decode (cod 162) 22 = .ok (.iload_n 2, 1) := by decide +kernel
theorem s162_22 {M : Mm} {st : List Value} {l0 l1 l3 : Option Value} {x : Int32} : EE 162 22 [l0, l1, some (.int x), l3] st M = EE 162 23 [l0, l1, some (.int x), l3] (.int x :: st) M := e_ld d162_22 rfl rfl rfl rfl rfl rfl
theorem d162_23 : decode (cod 162) 23 = .ok (.iload_n 3, 1) := by decide +kernel
theorem s162_23 {M : Mm} {st : List Value} {l0 l1 l2 : Option Value} {x : Int32} : EE 162 23 [l0, l1, l2, some (.int x)] st M = EE 162 24 [l0, l1, l2, some (.int x)] (.int x :: st) M := e_ld d162_23 rfl rfl rfl rfl rfl rfl
theorem d162_24 : decode (cod 162) 24 = .ok (.if_icmp .lt 5, 3) := by decide +kernel
theorem s162_24 {M : Mm} {st : List Value} {l0 l1 l2 l3 : Option Value} {x y : Int32} : EE 162 24 [l0, l1, l2, l3] (.int y :: .int x :: st) M = if x < y then EE 162 29 [l0, l1, l2, l3] st M else EE 162 27 [l0, l1, l2, l3] st M := e_clt d162_24 (by decide)
theorem d162_27 : decode (cod 162) 27 = .ok (.iconst (-1), 1) := by decide +kernel
theorem s162_27 {M : Mm} {st : List Value} {l0 l1 l2 l3 : Option Value} : EE 162 27 [l0, l1, l2, l3] st M = EE 162 28 [l0, l1, l2, l3] (.int ((-1)) :: st) M := e_con d162_27 k_con_m1
theorem d162_28 : decode (cod 162) 28 = .ok (.ireturn, 1) := by decide +kernel
theorem s162_28 {M : Mm} {l0 l1 l2 l3 : Option Value} {v : Int32} : EE 162 28 [l0, l1, l2, l3] [.int v] M = some (some (.int v), M) := e_iret d162_28 rfl rfl
theorem d162_29 : decode (cod 162) 29 = .ok (.aload_n 0, 1) := by decide +kernel
theorem s162_29 {M : Mm} {st : List Value} {l1 l2 l3 : Option Value} {x : Nat} : EE 162 29 [some (.ref x), l1, l2, l3] st M = EE 162 30 [some (.ref x), l1, l2, l3] (.ref x :: st) M := e_ld d162_29 rfl rfl rfl rfl rfl rfl
theorem d162_30 : decode (cod 162) 30 = .ok (.iload_n 1, 1) := by decide +kernel
theorem s162_30 {M : Mm} {st : List Value} {l0 l2 l3 : Option Value} {x : Int32} : EE 162 30 [l0, some (.int x), l2, l3] st M = EE 162 31 [l0, some (.int x), l2, l3] (.int x :: st) M := e_ld d162_30 rfl rfl rfl rfl rfl rfl
theorem d162_31 : decode (cod 162) 31 = .ok (.iload_n 2, 1) := by decide +kernel
theorem s162_31 {M : Mm} {st : List Value} {l0 l1 l3 : Option Value} {x : Int32} : EE 162 31 [l0, l1, some (.int x), l3] st M = EE 162 32 [l0, l1, some (.int x), l3] (.int x :: st) M := e_ld d162_31 rfl rfl rfl rfl rfl rfl
theorem d162_32 : decode (cod 162) 32 = .ok (.iload_n 3, 1) := by decide +kernel
theorem s162_32 {M : Mm} {st : List Value} {l0 l1 l2 : Option Value} {x : Int32} : EE 162 32 [l0, l1, l2, some (.int x)] st M = EE 162 33 [l0, l1, l2, some (.int x)] (.int x :: st) M := e_ld d162_32 rfl rfl rfl rfl rfl rfl
theorem d162_33 : decode (cod 162) 33 = .ok (.invokestatic 95, 3) := by decide +kernel
theorem s162_33 {M : Mm} {l0 l1 l2 l3 : Option Value} {b0 : Nat} {b1 : Int32} {b2 : Int32} {b3 : Int32} {st : List Value} (hl : st.length ≤ 4) : EE 162 33 [l0, l1, l2, l3] (.int b3 :: .int b2 :: .int b1 :: .ref b0 :: st) M = (FF 164 [.ref b0, .int b1, .int b2, .int b3] M).bind (fun z => EE 162 36 [l0, l1, l2, l3] (psh z.1 st) z.2) := e_cals (av := [.ref b0, .int b1, .int b2, .int b3]) d162_33 c8_95 (Or.inl rfl) rfl rfl r162_164 rfl hl
theorem d162_36 : decode (cod 162) 36 = .ok (.ireturn, 1) := by decide +kernel
theorem s162_36 {M : Mm} {l0 l1 l2 l3 : Option Value} {v : Int32} : EE 162 36 [l0, l1, l2, l3] [.int v] M = some (some (.int v), M) := e_iret d162_36 rfl rfl
theorem FE162 {b0 : Nat} {b1 : Int32} {b2 : Int32} {b3 : Int32} {M : Mm} : FF 162 [.ref b0, .int b1, .int b2, .int b3] M = EE 162 0 [some (.ref b0), some (.int b1), some (.int b2), some (.int b3)] [] M := FF_eq 162 _ _ (Nat.le_of_ble_eq_true rfl)
theorem d163_0 : decode (cod 163) 0 = .ok (.iload_n 0, 1) := by decide +kernel
theorem s163_0 {M : Mm} {st : List Value} {x : Int32} : EE 163 0 [some (.int x)] st M = EE 163 1 [some (.int x)] (.int x :: st) M := e_ld d163_0 rfl rfl rfl rfl rfl rfl
theorem d163_1 : decode (cod 163) 1 = .ok (.ifCond .lt 14, 3) := by decide +kernel
theorem s163_1 {M : Mm} {st : List Value} {l0 : Option Value} {x : Int32} : EE 163 1 [l0] (.int x :: st) M = if x < 0 then EE 163 15 [l0] st M else EE 163 4 [l0] st M := e_lt0 d163_1 (by decide)
theorem d163_4 : decode (cod 163) 4 = .ok (.iload_n 0, 1) := by decide +kernel
theorem s163_4 {M : Mm} {st : List Value} {x : Int32} : EE 163 4 [some (.int x)] st M = EE 163 5 [some (.int x)] (.int x :: st) M := e_ld d163_4 rfl rfl rfl rfl rfl rfl
theorem d163_5 : decode (cod 163) 5 = .ok (.sipush 255, 3) := by decide +kernel
theorem s163_5 {M : Mm} {st : List Value} {l0 : Option Value} : EE 163 5 [l0] st M = EE 163 8 [l0] (.int (nI 255) :: st) M := e_sip d163_5 k_sip_255
theorem d163_8 : decode (cod 163) 8 = .ok (.if_icmp .gt 7, 3) := by decide +kernel
theorem s163_8 {M : Mm} {st : List Value} {l0 : Option Value} {x y : Int32} : EE 163 8 [l0] (.int y :: .int x :: st) M = if y < x then EE 163 15 [l0] st M else EE 163 11 [l0] st M := e_cgt d163_8 (by decide)
theorem d163_11 : decode (cod 163) 11 = .ok (.iconst 1, 1) := by decide +kernel
theorem s163_11 {M : Mm} {st : List Value} {l0 : Option Value} : EE 163 11 [l0] st M = EE 163 12 [l0] (.int (nI 1) :: st) M := e_con d163_11 k_con_1
theorem d163_12 : decode (cod 163) 12 = .ok (.goto 4, 3) := by decide +kernel
theorem s163_12 {M : Mm} {st : List Value} {l0 : Option Value} : EE 163 12 [l0] st M = EE 163 16 [l0] st M := e_goto d163_12 (by decide)
theorem d163_15 : decode (cod 163) 15 = .ok (.iconst 0, 1) := by decide +kernel
theorem s163_15 {M : Mm} {st : List Value} {l0 : Option Value} : EE 163 15 [l0] st M = EE 163 16 [l0] (.int (nI 0) :: st) M := e_con d163_15 k_con_0
theorem d163_16 : decode (cod 163) 16 = .ok (.ireturn, 1) := by decide +kernel
theorem s163_16 {M : Mm} {l0 : Option Value} {v : Int32} (h : narrow .boolean (.int v) = .int v) : EE 163 16 [l0] [.int v] M = some (some (.int v), M) := e_iret d163_16 rfl h
theorem FE163 {b0 : Int32} {M : Mm} : FF 163 [.int b0] M = EE 163 0 [some (.int b0)] [] M := FF_eq 163 _ _ (Nat.le_of_ble_eq_true rfl)
theorem d164_0 : decode (cod 164) 0 = .ok (.iload_n 1, 1) := by decide +kernel
theorem s164_0 {M : Mm} {st : List Value} {l0 l2 l3 l4 l5 : Option Value} {x : Int32} : EE 164 0 [l0, some (.int x), l2, l3, l4, l5] st M = EE 164 1 [l0, some (.int x), l2, l3, l4, l5] (.int x :: st) M := e_ld d164_0 rfl rfl rfl rfl rfl rfl
theorem d164_1 : decode (cod 164) 1 = .ok (.i2b, 1) := by decide +kernel
theorem s164_1 {M : Mm} {st : List Value} {l0 l1 l2 l3 l4 l5 : Option Value} {x : Int32} : EE 164 1 [l0, l1, l2, l3, l4, l5] (.int x :: st) M = EE 164 2 [l0, l1, l2, l3, l4, l5] (.int x.toInt8.toInt32 :: st) M := e_U d164_1 rfl rfl rfl rfl rfl (bn_i2b x) rfl
theorem d164_2 : decode (cod 164) 2 = .ok (.istore 4, 2) := by decide +kernel
theorem s164_2 {M : Mm} {st : List Value} {l0 l1 l2 l3 l4 l5 : Option Value} {x : Int32} : EE 164 2 [l0, l1, l2, l3, l4, l5] (.int x :: st) M = EE 164 4 [l0, l1, l2, cln l3, some (.int x), l5] st M := e_st1 d164_2 rfl rfl rfl rfl rfl rfl rfl (Nat.le_of_ble_eq_true rfl) rfl
theorem d164_4 : decode (cod 164) 4 = .ok (.iload_n 2, 1) := by decide +kernel
theorem s164_4 {M : Mm} {st : List Value} {l0 l1 l3 l4 l5 : Option Value} {x : Int32} : EE 164 4 [l0, l1, some (.int x), l3, l4, l5] st M = EE 164 5 [l0, l1, some (.int x), l3, l4, l5] (.int x :: st) M := e_ld d164_4 rfl rfl rfl rfl rfl rfl
theorem d164_5 : decode (cod 164) 5 = .ok (.istore 5, 2) := by decide +kernel
theorem s164_5 {M : Mm} {st : List Value} {l0 l1 l2 l3 l4 l5 : Option Value} {x : Int32} : EE 164 5 [l0, l1, l2, l3, l4, l5] (.int x :: st) M = EE 164 7 [l0, l1, l2, l3, cln l4, some (.int x)] st M := e_st1 d164_5 rfl rfl rfl rfl rfl rfl rfl (Nat.le_of_ble_eq_true rfl) rfl
theorem d164_7 : decode (cod 164) 7 = .ok (.iload 5, 2) := by decide +kernel
theorem s164_7 {M : Mm} {st : List Value} {l0 l1 l2 l3 l4 : Option Value} {x : Int32} : EE 164 7 [l0, l1, l2, l3, l4, some (.int x)] st M = EE 164 9 [l0, l1, l2, l3, l4, some (.int x)] (.int x :: st) M := e_ld d164_7 rfl rfl rfl rfl rfl rfl
theorem d164_9 : decode (cod 164) 9 = .ok (.iload_n 3, 1) := by decide +kernel
theorem s164_9 {M : Mm} {st : List Value} {l0 l1 l2 l4 l5 : Option Value} {x : Int32} : EE 164 9 [l0, l1, l2, some (.int x), l4, l5] st M = EE 164 10 [l0, l1, l2, some (.int x), l4, l5] (.int x :: st) M := e_ld d164_9 rfl rfl rfl rfl rfl rfl
theorem d164_10 : decode (cod 164) 10 = .ok (.if_icmp .ge 21, 3) := by decide +kernel
theorem s164_10 {M : Mm} {st : List Value} {l0 l1 l2 l3 l4 l5 : Option Value} {x y : Int32} : EE 164 10 [l0, l1, l2, l3, l4, l5] (.int y :: .int x :: st) M = if y ≤ x then EE 164 31 [l0, l1, l2, l3, l4, l5] st M else EE 164 13 [l0, l1, l2, l3, l4, l5] st M := e_cge d164_10 (by decide)
theorem d164_13 : decode (cod 164) 13 = .ok (.aload_n 0, 1) := by decide +kernel
theorem s164_13 {M : Mm} {st : List Value} {l1 l2 l3 l4 l5 : Option Value} {x : Nat} : EE 164 13 [some (.ref x), l1, l2, l3, l4, l5] st M = EE 164 14 [some (.ref x), l1, l2, l3, l4, l5] (.ref x :: st) M := e_ld d164_13 rfl rfl rfl rfl rfl rfl
theorem d164_14 : decode (cod 164) 14 = .ok (.iload 5, 2) := by decide +kernel
theorem s164_14 {M : Mm} {st : List Value} {l0 l1 l2 l3 l4 : Option Value} {x : Int32} : EE 164 14 [l0, l1, l2, l3, l4, some (.int x)] st M = EE 164 16 [l0, l1, l2, l3, l4, some (.int x)] (.int x :: st) M := e_ld d164_14 rfl rfl rfl rfl rfl rfl
theorem d164_16 : decode (cod 164) 16 = .ok (.baload, 1) := by decide +kernel
theorem s164_16 {n : Nat} {I : Nat → Nat → Int32} {R : Nat → Nat → Option Nat} {st : List Value} {l0 l1 l2 l3 l4 l5 : Option Value} {j : Int32} {a : Nat} : EE 164 16 [l0, l1, l2, l3, l4, l5] (.int j :: .ref a :: st) (n, I, R) = (ardI 7 n I a j).bind (fun z => EE 164 17 [l0, l1, l2, l3, l4, l5] (.int z :: st) (n, I, R)) := e_bald d164_16
theorem d164_17 : decode (cod 164) 17 = .ok (.iload 4, 2) := by decide +kernel
theorem s164_17 {M : Mm} {st : List Value} {l0 l1 l2 l3 l5 : Option Value} {x : Int32} : EE 164 17 [l0, l1, l2, l3, some (.int x), l5] st M = EE 164 19 [l0, l1, l2, l3, some (.int x), l5] (.int x :: st) M := e_ld d164_17 rfl rfl rfl rfl rfl rfl
theorem d164_19 : decode (cod 164) 19 = .ok (.if_icmp .ne 6, 3) := by decide +kernel
theorem s164_19 {M : Mm} {st : List Value} {l0 l1 l2 l3 l4 l5 : Option Value} {x y : Int32} : EE 164 19 [l0, l1, l2, l3, l4, l5] (.int y :: .int x :: st) M = if x = y then EE 164 22 [l0, l1, l2, l3, l4, l5] st M else EE 164 25 [l0, l1, l2, l3, l4, l5] st M := e_cne d164_19 (by decide)
theorem d164_22 : decode (cod 164) 22 = .ok (.iload 5, 2) := by decide +kernel
theorem s164_22 {M : Mm} {st : List Value} {l0 l1 l2 l3 l4 : Option Value} {x : Int32} : EE 164 22 [l0, l1, l2, l3, l4, some (.int x)] st M = EE 164 24 [l0, l1, l2, l3, l4, some (.int x)] (.int x :: st) M := e_ld d164_22 rfl rfl rfl rfl rfl rfl
theorem d164_24 : decode (cod 164) 24 = .ok (.ireturn, 1) := by decide +kernel
theorem s164_24 {M : Mm} {l0 l1 l2 l3 l4 l5 : Option Value} {v : Int32} : EE 164 24 [l0, l1, l2, l3, l4, l5] [.int v] M = some (some (.int v), M) := e_iret d164_24 rfl rfl
theorem d164_25 : decode (cod 164) 25 = .ok (.iinc 5 1, 3) := by decide +kernel
theorem s164_25 {M : Mm} {st : List Value} {l0 l1 l2 l3 l4 : Option Value} {x : Int32} : EE 164 25 [l0, l1, l2, l3, l4, some (.int x)] st M = EE 164 28 [l0, l1, l2, l3, cln l4, some (.int (x + nI 1))] st M := e_iinc d164_25 rfl (congrArg (fun z => x + z) k_inc_1) rfl
theorem d164_28 : decode (cod 164) 28 = .ok (.goto (-21), 3) := by decide +kernel
theorem s164_28 {M : Mm} {st : List Value} {l0 l1 l2 l3 l4 l5 : Option Value} : EE 164 28 [l0, l1, l2, l3, l4, l5] st M = EE 164 7 [l0, l1, l2, l3, l4, l5] st M := e_goto d164_28 (by decide)
theorem d164_31 : decode (cod 164) 31 = .ok (.iconst (-1), 1) := by decide +kernel
theorem s164_31 {M : Mm} {st : List Value} {l0 l1 l2 l3 l4 l5 : Option Value} : EE 164 31 [l0, l1, l2, l3, l4, l5] st M = EE 164 32 [l0, l1, l2, l3, l4, l5] (.int ((-1)) :: st) M := e_con d164_31 k_con_m1
theorem d164_32 : decode (cod 164) 32 = .ok (.ireturn, 1) := by decide +kernel
theorem s164_32 {M : Mm} {l0 l1 l2 l3 l4 l5 : Option Value} {v : Int32} : EE 164 32 [l0, l1, l2, l3, l4, l5] [.int v] M = some (some (.int v), M) := e_iret d164_32 rfl rfl
theorem FE164 {b0 : Nat} {b1 : Int32} {b2 : Int32} {b3 : Int32} {M : Mm} : FF 164 [.ref b0, .int b1, .int b2, .int b3] M = EE 164 0 [some (.ref b0), some (.int b1), some (.int b2), some (.int b3), none, none] [] M := FF_eq 164 _ _ (Nat.le_of_ble_eq_true rfl)
theorem d165_0 : decode (cod 165) 0 = .ok (.iload_n 1, 1) := by decide +kernel
theorem s165_0 {M : Mm} {st : List Value} {l0 : Option Value} {x : Int32} : EE 165 0 [l0, some (.int x)] st M = EE 165 1 [l0, some (.int x)] (.int x :: st) M := e_ld d165_0 rfl rfl rfl rfl rfl rfl
theorem d165_1 : decode (cod 165) 1 = .ok (.aload_n 0, 1) := by decide +kernel
theorem s165_1 {M : Mm} {st : List Value} {l1 : Option Value} {x : Nat} : EE 165 1 [some (.ref x), l1] st M = EE 165 2 [some (.ref x), l1] (.ref x :: st) M := e_ld d165_1 rfl rfl rfl rfl rfl rfl
theorem d165_2 : decode (cod 165) 2 = .ok (.arraylength, 1) := by decide +kernel
theorem s165_2 {n : Nat} {I : Nat → Nat → Int32} {R : Nat → Nat → Option Nat} {st : List Value} {l0 l1 : Option Value} {a : Nat} : EE 165 2 [l0, l1] (.ref a :: st) (n, I, R) = (aln n I a).bind (fun z => EE 165 3 [l0, l1] (.int z :: st) (n, I, R)) := e_alenb d165_2
theorem d165_3 : decode (cod 165) 3 = .ok (.invokestatic 9, 3) := by decide +kernel
theorem s165_3 {M : Mm} {l0 l1 : Option Value} {b0 : Int32} {b1 : Int32} {st : List Value} (hl : st.length ≤ 4) : EE 165 3 [l0, l1] (.int b1 :: .int b0 :: st) M = (FF 161 [.int b0, .int b1] M).bind (fun z => EE 165 6 [l0, l1] (psh z.1 st) z.2) := e_cals (av := [.int b0, .int b1]) d165_3 c8_9 (Or.inl rfl) rfl rfl r165_161 rfl hl
theorem d165_6 : decode (cod 165) 6 = .ok (.aload_n 0, 1) := by decide +kernel
theorem s165_6 {M : Mm} {st : List Value} {l1 : Option Value} {x : Nat} : EE 165 6 [some (.ref x), l1] st M = EE 165 7 [some (.ref x), l1] (.ref x :: st) M := e_ld d165_6 rfl rfl rfl rfl rfl rfl
theorem d165_7 : decode (cod 165) 7 = .ok (.iload_n 1, 1) := by decide +kernel
theorem s165_7 {M : Mm} {st : List Value} {l0 : Option Value} {x : Int32} : EE 165 7 [l0, some (.int x)] st M = EE 165 8 [l0, some (.int x)] (.int x :: st) M := e_ld d165_7 rfl rfl rfl rfl rfl rfl
theorem d165_8 : decode (cod 165) 8 = .ok (.baload, 1) := by decide +kernel
theorem s165_8 {n : Nat} {I : Nat → Nat → Int32} {R : Nat → Nat → Option Nat} {st : List Value} {l0 l1 : Option Value} {j : Int32} {a : Nat} : EE 165 8 [l0, l1] (.int j :: .ref a :: st) (n, I, R) = (ardI 7 n I a j).bind (fun z => EE 165 9 [l0, l1] (.int z :: st) (n, I, R)) := e_bald d165_8
theorem d165_9 : decode (cod 165) 9 = .ok (.sipush 255, 3) := by decide +kernel
theorem s165_9 {M : Mm} {st : List Value} {l0 l1 : Option Value} : EE 165 9 [l0, l1] st M = EE 165 12 [l0, l1] (.int (nI 255) :: st) M := e_sip d165_9 k_sip_255
theorem d165_12 : decode (cod 165) 12 = .ok (.iand, 1) := by decide +kernel
theorem s165_12 {M : Mm} {st : List Value} {l0 l1 : Option Value} {x y : Int32} : EE 165 12 [l0, l1] (.int y :: .int x :: st) M = EE 165 13 [l0, l1] (.int (x &&& y) :: st) M := e_II d165_12 rfl rfl rfl rfl rfl rfl
theorem d165_13 : decode (cod 165) 13 = .ok (.i2c, 1) := by decide +kernel
theorem s165_13 {M : Mm} {st : List Value} {l0 l1 : Option Value} {x : Int32} : EE 165 13 [l0, l1] (.int x :: st) M = EE 165 14 [l0, l1] (.int (x.toUInt32 % 65536).toInt32 :: st) M := e_U d165_13 rfl rfl rfl rfl rfl (bn_i2c x) rfl
theorem d165_14 : decode (cod 165) 14 = .ok (.ireturn, 1) := by decide +kernel
theorem s165_14 {M : Mm} {l0 l1 : Option Value} {v : Int32} (h : narrow .char (.int v) = .int v) : EE 165 14 [l0, l1] [.int v] M = some (some (.int v), M) := e_iret d165_14 rfl h
theorem FE165 {b0 : Nat} {b1 : Int32} {M : Mm} : FF 165 [.ref b0, .int b1] M = EE 165 0 [some (.ref b0), some (.int b1)] [] M := FF_eq 165 _ _ (Nat.le_of_ble_eq_true rfl)
theorem d166_0 : decode (cod 166) 0 = .ok (.iload_n 0, 1) := by decide +kernel
theorem s166_0 {M : Mm} {st : List Value} {l1 l2 : Option Value} {x : Int32} : EE 166 0 [some (.int x), l1, l2] st M = EE 166 1 [some (.int x), l1, l2] (.int x :: st) M := e_ld d166_0 rfl rfl rfl rfl rfl rfl
theorem d166_1 : decode (cod 166) 1 = .ok (.ifCond .lt 8, 3) := by decide +kernel
theorem s166_1 {M : Mm} {st : List Value} {l0 l1 l2 : Option Value} {x : Int32} : EE 166 1 [l0, l1, l2] (.int x :: st) M = if x < 0 then EE 166 9 [l0, l1, l2] st M else EE 166 4 [l0, l1, l2] st M := e_lt0 d166_1 (by decide)
theorem d166_4 : decode (cod 166) 4 = .ok (.iload_n 0, 1) := by decide +kernel
theorem s166_4 {M : Mm} {st : List Value} {l1 l2 : Option Value} {x : Int32} : EE 166 4 [some (.int x), l1, l2] st M = EE 166 5 [some (.int x), l1, l2] (.int x :: st) M := e_ld d166_4 rfl rfl rfl rfl rfl rfl
theorem d166_5 : decode (cod 166) 5 = .ok (.iload_n 1, 1) := by decide +kernel
theorem s166_5 {M : Mm} {st : List Value} {l0 l2 : Option Value} {x : Int32} : EE 166 5 [l0, some (.int x), l2] st M = EE 166 6 [l0, some (.int x), l2] (.int x :: st) M := e_ld d166_5 rfl rfl rfl rfl rfl rfl
theorem d166_6 : decode (cod 166) 6 = .ok (.if_icmp .lt 10, 3) := by decide +kernel
theorem s166_6 {M : Mm} {st : List Value} {l0 l1 l2 : Option Value} {x y : Int32} : EE 166 6 [l0, l1, l2] (.int y :: .int x :: st) M = if x < y then EE 166 16 [l0, l1, l2] st M else EE 166 9 [l0, l1, l2] st M := e_clt d166_6 (by decide)
theorem d166_9 : decode (cod 166) 9 = .ok (.aload_n 2, 1) := by decide +kernel
theorem s166_9 {M : Mm} {st : List Value} {l0 l1 : Option Value} {x : Nat} : EE 166 9 [l0, l1, some (.ref x)] st M = EE 166 10 [l0, l1, some (.ref x)] (.ref x :: st) M := e_ld d166_9 rfl rfl rfl rfl rfl rfl
theorem d166_10 : decode (cod 166) 10 = .ok (.iload_n 0, 1) := by decide +kernel
theorem s166_10 {M : Mm} {st : List Value} {l1 l2 : Option Value} {x : Int32} : EE 166 10 [some (.int x), l1, l2] st M = EE 166 11 [some (.int x), l1, l2] (.int x :: st) M := e_ld d166_10 rfl rfl rfl rfl rfl rfl
theorem d166_11 : decode (cod 166) 11 = .ok (.iload_n 1, 1) := by decide +kernel
theorem s166_11 {M : Mm} {st : List Value} {l0 l2 : Option Value} {x : Int32} : EE 166 11 [l0, some (.int x), l2] st M = EE 166 12 [l0, some (.int x), l2] (.int x :: st) M := e_ld d166_11 rfl rfl rfl rfl rfl rfl
theorem d166_12 : decode (cod 166) 12 = .ok (.invokestatic 95, 3) := by decide +kernel
theorem d166_15 : decode (cod 166) 15 = .ok (.athrow, 1) := by decide +kernel
theorem d166_16 : decode (cod 166) 16 = .ok (.iload_n 0, 1) := by decide +kernel
theorem s166_16 {M : Mm} {st : List Value} {l1 l2 : Option Value} {x : Int32} : EE 166 16 [some (.int x), l1, l2] st M = EE 166 17 [some (.int x), l1, l2] (.int x :: st) M := e_ld d166_16 rfl rfl rfl rfl rfl rfl
theorem d166_17 : decode (cod 166) 17 = .ok (.ireturn, 1) := by decide +kernel
theorem s166_17 {M : Mm} {l0 l1 l2 : Option Value} {v : Int32} : EE 166 17 [l0, l1, l2] [.int v] M = some (some (.int v), M) := e_iret d166_17 rfl rfl
theorem FE166 {b0 : Int32} {b1 : Int32} {b2 : Nat} {M : Mm} : FF 166 [.int b0, .int b1, .retAddr b2] M = EE 166 0 [some (.int b0), some (.int b1), some (.retAddr b2)] [] M := FF_eq 166 _ _ (Nat.le_of_ble_eq_true rfl)
theorem d167_0 : decode (cod 167) 0 = .ok (.fload_n 0, 1) := by decide +kernel
theorem s167_0 {M : Mm} {st : List Value} {x : UInt32} : EE 167 0 [some (.float x)] st M = EE 167 1 [some (.float x)] (.float x :: st) M := e_ld d167_0 rfl rfl rfl rfl rfl rfl
theorem d167_1 : decode (cod 167) 1 = .ok (.invokestatic 59, 3) := by decide +kernel
theorem s167_1 {M : Mm} {l0 : Option Value} {b0 : UInt32} {st : List Value} (hl : st.length ≤ 4) : EE 167 1 [l0] (.float b0 :: st) M = (FF 168 [.float b0] M).bind (fun z => EE 167 4 [l0] (psh z.1 st) z.2) := e_cals (av := [.float b0]) d167_1 c10_59 (Or.inl rfl) rfl rfl r167_168 rfl hl
theorem d167_4 : decode (cod 167) 4 = .ok (.ifCond .ne 8, 3) := by decide +kernel
theorem s167_4 {M : Mm} {st : List Value} {l0 : Option Value} {x : Int32} : EE 167 4 [l0] (.int x :: st) M = if x = 0 then EE 167 7 [l0] st M else EE 167 12 [l0] st M := e_ne0 d167_4 (by decide)
theorem d167_7 : decode (cod 167) 7 = .ok (.fload_n 0, 1) := by decide +kernel
theorem s167_7 {M : Mm} {st : List Value} {x : UInt32} : EE 167 7 [some (.float x)] st M = EE 167 8 [some (.float x)] (.float x :: st) M := e_ld d167_7 rfl rfl rfl rfl rfl rfl
theorem d167_8 : decode (cod 167) 8 = .ok (.invokestatic 74, 3) := by decide +kernel
theorem s167_8 {M : Mm} {l0 : Option Value} {b : UInt32} {st : List Value} (hl : st.length ≤ 4) : EE 167 8 [l0] (.float b :: st) M = EE 167 11 [l0] (.int b.toInt32 :: st) M := e_rawf d167_8 t10_74 t10_74n (by decide) hl
theorem d167_11 : decode (cod 167) 11 = .ok (.ireturn, 1) := by decide +kernel
theorem s167_11 {M : Mm} {l0 : Option Value} {v : Int32} : EE 167 11 [l0] [.int v] M = some (some (.int v), M) := e_iret d167_11 rfl rfl
theorem d167_12 : decode (cod 167) 12 = .ok (.ldc 77, 2) := by decide +kernel
theorem s167_12 {M : Mm} {st : List Value} {l0 : Option Value} : EE 167 12 [l0] st M = EE 167 14 [l0] (.int 2143289344 :: st) M := e_ldc d167_12 k10_77
theorem d167_14 : decode (cod 167) 14 = .ok (.ireturn, 1) := by decide +kernel
theorem s167_14 {M : Mm} {l0 : Option Value} {v : Int32} : EE 167 14 [l0] [.int v] M = some (some (.int v), M) := e_iret d167_14 rfl rfl
theorem FE167 {b0 : UInt32} {M : Mm} : FF 167 [.float b0] M = EE 167 0 [some (.float b0)] [] M := FF_eq 167 _ _ (Nat.le_of_ble_eq_true rfl)
theorem d168_0 : decode (cod 168) 0 = .ok (.fload_n 0, 1) := by decide +kernel
theorem s168_0 {M : Mm} {st : List Value} {x : UInt32} : EE 168 0 [some (.float x)] st M = EE 168 1 [some (.float x)] (.float x :: st) M := e_ld d168_0 rfl rfl rfl rfl rfl rfl
theorem d168_1 : decode (cod 168) 1 = .ok (.fload_n 0, 1) := by decide +kernel
theorem s168_1 {M : Mm} {st : List Value} {x : UInt32} : EE 168 1 [some (.float x)] st M = EE 168 2 [some (.float x)] (.float x :: st) M := e_ld d168_1 rfl rfl rfl rfl rfl rfl
theorem d168_2 : decode (cod 168) 2 = .ok (.fcmp .l, 1) := by decide +kernel
theorem s168_2 {M : Mm} {st : List Value} {l0 : Option Value} {x y : UInt32} : EE 168 2 [l0] (.float y :: .float x :: st) M = EE 168 3 [l0] (.int (Op.cmpValue (FP.fcmp x y) .l) :: st) M := e_fcmp d168_2
theorem d168_3 : decode (cod 168) 3 = .ok (.ifCond .eq 7, 3) := by decide +kernel
theorem s168_3 {M : Mm} {st : List Value} {l0 : Option Value} {x : Int32} : EE 168 3 [l0] (.int x :: st) M = if x = 0 then EE 168 10 [l0] st M else EE 168 6 [l0] st M := e_eq0 d168_3 (by decide)
theorem d168_6 : decode (cod 168) 6 = .ok (.iconst 1, 1) := by decide +kernel
theorem s168_6 {M : Mm} {st : List Value} {l0 : Option Value} : EE 168 6 [l0] st M = EE 168 7 [l0] (.int (nI 1) :: st) M := e_con d168_6 k_con_1
theorem d168_7 : decode (cod 168) 7 = .ok (.goto 4, 3) := by decide +kernel
theorem s168_7 {M : Mm} {st : List Value} {l0 : Option Value} : EE 168 7 [l0] st M = EE 168 11 [l0] st M := e_goto d168_7 (by decide)
theorem d168_10 : decode (cod 168) 10 = .ok (.iconst 0, 1) := by decide +kernel
theorem s168_10 {M : Mm} {st : List Value} {l0 : Option Value} : EE 168 10 [l0] st M = EE 168 11 [l0] (.int (nI 0) :: st) M := e_con d168_10 k_con_0
theorem d168_11 : decode (cod 168) 11 = .ok (.ireturn, 1) := by decide +kernel
theorem s168_11 {M : Mm} {l0 : Option Value} {v : Int32} (h : narrow .boolean (.int v) = .int v) : EE 168 11 [l0] [.int v] M = some (some (.int v), M) := e_iret d168_11 rfl h
theorem FE168 {b0 : UInt32} {M : Mm} : FF 168 [.float b0] M = EE 168 0 [some (.float b0)] [] M := FF_eq 168 _ _ (Nat.le_of_ble_eq_true rfl)
theorem d169_0 : decode (cod 169) 0 = .ok (.dload_n 0, 1) := by decide +kernel
theorem s169_0 {M : Mm} {st : List Value} {l1 : Option Value} {x : UInt64} : EE 169 0 [some (.double x), l1] st M = EE 169 1 [some (.double x), l1] (.double x :: st) M := e_ld d169_0 rfl rfl rfl rfl rfl rfl
theorem d169_1 : decode (cod 169) 1 = .ok (.invokestatic 122, 3) := by decide +kernel
theorem s169_1 {M : Mm} {l0 l1 : Option Value} {b0 : UInt64} {st : List Value} (hl : st.length ≤ 4) : EE 169 1 [l0, l1] (.double b0 :: st) M = (FF 170 [.double b0] M).bind (fun z => EE 169 4 [l0, l1] (psh z.1 st) z.2) := e_cals (av := [.double b0]) d169_1 c11_122 (Or.inl rfl) rfl rfl r169_170 rfl hl
theorem d169_4 : decode (cod 169) 4 = .ok (.ifCond .ne 8, 3) := by decide +kernel
theorem s169_4 {M : Mm} {st : List Value} {l0 l1 : Option Value} {x : Int32} : EE 169 4 [l0, l1] (.int x :: st) M = if x = 0 then EE 169 7 [l0, l1] st M else EE 169 12 [l0, l1] st M := e_ne0 d169_4 (by decide)
theorem d169_7 : decode (cod 169) 7 = .ok (.dload_n 0, 1) := by decide +kernel
theorem s169_7 {M : Mm} {st : List Value} {l1 : Option Value} {x : UInt64} : EE 169 7 [some (.double x), l1] st M = EE 169 8 [some (.double x), l1] (.double x :: st) M := e_ld d169_7 rfl rfl rfl rfl rfl rfl
theorem d169_8 : decode (cod 169) 8 = .ok (.invokestatic 134, 3) := by decide +kernel
theorem s169_8 {M : Mm} {l0 l1 : Option Value} {b : UInt64} {st : List Value} (hl : st.length ≤ 4) : EE 169 8 [l0, l1] (.double b :: st) M = EE 169 11 [l0, l1] (.long b.toInt64 :: st) M := e_rawd d169_8 t11_134 t11_134n (by decide) hl
theorem d169_11 : decode (cod 169) 11 = .ok (.lreturn, 1) := by decide +kernel
theorem s169_11 {M : Mm} {l0 l1 : Option Value} {v : Int64} : EE 169 11 [l0, l1] [.long v] M = some (some (.long v), M) := e_lret d169_11 rfl
theorem d169_12 : decode (cod 169) 12 = .ok (.ldc2_w 137, 3) := by decide +kernel
theorem s169_12 {M : Mm} {st : List Value} {l0 l1 : Option Value} : EE 169 12 [l0, l1] st M = EE 169 15 [l0, l1] (.long (9221120237041090560) :: st) M := e_ldc2 d169_12 q11_137
theorem d169_15 : decode (cod 169) 15 = .ok (.lreturn, 1) := by decide +kernel
theorem s169_15 {M : Mm} {l0 l1 : Option Value} {v : Int64} : EE 169 15 [l0, l1] [.long v] M = some (some (.long v), M) := e_lret d169_15 rfl
theorem FE169 {b0 : UInt64} {M : Mm} : FF 169 [.double b0] M = EE 169 0 [some (.double b0), none] [] M := FF_eq 169 _ _ (Nat.le_of_ble_eq_true rfl)
theorem d170_0 : decode (cod 170) 0 = .ok (.dload_n 0, 1) := by decide +kernel
theorem s170_0 {M : Mm} {st : List Value} {l1 : Option Value} {x : UInt64} : EE 170 0 [some (.double x), l1] st M = EE 170 1 [some (.double x), l1] (.double x :: st) M := e_ld d170_0 rfl rfl rfl rfl rfl rfl
theorem d170_1 : decode (cod 170) 1 = .ok (.dload_n 0, 1) := by decide +kernel
theorem s170_1 {M : Mm} {st : List Value} {l1 : Option Value} {x : UInt64} : EE 170 1 [some (.double x), l1] st M = EE 170 2 [some (.double x), l1] (.double x :: st) M := e_ld d170_1 rfl rfl rfl rfl rfl rfl
theorem d170_2 : decode (cod 170) 2 = .ok (.dcmp .l, 1) := by decide +kernel
theorem s170_2 {M : Mm} {st : List Value} {l0 l1 : Option Value} {x y : UInt64} : EE 170 2 [l0, l1] (.double y :: .double x :: st) M = EE 170 3 [l0, l1] (.int (Op.cmpValue (FP.dcmp x y) .l) :: st) M := e_dcmp d170_2
theorem d170_3 : decode (cod 170) 3 = .ok (.ifCond .eq 7, 3) := by decide +kernel
theorem s170_3 {M : Mm} {st : List Value} {l0 l1 : Option Value} {x : Int32} : EE 170 3 [l0, l1] (.int x :: st) M = if x = 0 then EE 170 10 [l0, l1] st M else EE 170 6 [l0, l1] st M := e_eq0 d170_3 (by decide)
theorem d170_6 : decode (cod 170) 6 = .ok (.iconst 1, 1) := by decide +kernel
theorem s170_6 {M : Mm} {st : List Value} {l0 l1 : Option Value} : EE 170 6 [l0, l1] st M = EE 170 7 [l0, l1] (.int (nI 1) :: st) M := e_con d170_6 k_con_1
theorem d170_7 : decode (cod 170) 7 = .ok (.goto 4, 3) := by decide +kernel
theorem s170_7 {M : Mm} {st : List Value} {l0 l1 : Option Value} : EE 170 7 [l0, l1] st M = EE 170 11 [l0, l1] st M := e_goto d170_7 (by decide)
theorem d170_10 : decode (cod 170) 10 = .ok (.iconst 0, 1) := by decide +kernel
theorem s170_10 {M : Mm} {st : List Value} {l0 l1 : Option Value} : EE 170 10 [l0, l1] st M = EE 170 11 [l0, l1] (.int (nI 0) :: st) M := e_con d170_10 k_con_0
theorem d170_11 : decode (cod 170) 11 = .ok (.ireturn, 1) := by decide +kernel
theorem s170_11 {M : Mm} {l0 l1 : Option Value} {v : Int32} (h : narrow .boolean (.int v) = .int v) : EE 170 11 [l0, l1] [.int v] M = some (some (.int v), M) := e_iret d170_11 rfl h
theorem FE170 {b0 : UInt64} {M : Mm} : FF 170 [.double b0] M = EE 170 0 [some (.double b0), none] [] M := FF_eq 170 _ _ (Nat.le_of_ble_eq_true rfl)
theorem d171_0 : decode (cod 171) 0 = .ok (.new 7, 3) := by decide +kernel
theorem s171_0 {M : Mm} {st : List Value} {l0 l1 l2 l3 : Option Value} (h : M.1 < 210 ∧ kd (adr M.1) = 3) : EE 171 0 [l0, l1, l2, l3] st M = EE 171 3 [l0, l1, l2, l3] (.ref (adr M.1) :: st) (bn M) := e_new d171_0 n4_7 h
theorem d171_3 : decode (cod 171) 3 = .ok (.dup, 1) := by decide +kernel
theorem s171_3i {M : Mm} {st : List Value} {l0 l1 l2 l3 : Option Value} {x : Int32} : EE 171 3 [l0, l1, l2, l3] (.int x :: st) M = EE 171 4 [l0, l1, l2, l3] (.int x :: .int x :: st) M := e_dup d171_3 rfl
theorem s171_3r {M : Mm} {st : List Value} {l0 l1 l2 l3 : Option Value} {x : Nat} : EE 171 3 [l0, l1, l2, l3] (.ref x :: st) M = EE 171 4 [l0, l1, l2, l3] (.ref x :: .ref x :: st) M := e_dup d171_3 rfl
theorem d171_4 : decode (cod 171) 4 = .ok (.invokespecial 9, 3) := by decide +kernel
theorem s171_4 {l0 l1 l2 l3 : Option Value} {a : Nat} {M M' : Mm} {st : List Value} (hl : st.length ≤ 4) (hF : FF 43 [.ref a] M = some (none, M')) : EE 171 4 [l0, l1, l2, l3] (.ref a :: st) M = EE 171 7 [l0, l1, l2, l3] st M' := e_cali d171_4 c4_9 rfl rfl rfl r171_43 hl hF
theorem d171_7 : decode (cod 171) 7 = .ok (.astore_n 1, 1) := by decide +kernel
theorem s171_7 {M : Mm} {st : List Value} {l0 l1 l2 l3 : Option Value} {x : Nat} : EE 171 7 [l0, l1, l2, l3] (.ref x :: st) M = EE 171 8 [cln l0, some (.ref x), l2, l3] st M := e_st1 d171_7 rfl rfl rfl rfl rfl rfl rfl (Nat.le_of_ble_eq_true rfl) rfl
theorem d171_8 : decode (cod 171) 8 = .ok (.new 10, 3) := by decide +kernel
theorem s171_8 {M : Mm} {st : List Value} {l0 l1 l2 l3 : Option Value} (h : M.1 < 210 ∧ kd (adr M.1) = 4) : EE 171 8 [l0, l1, l2, l3] st M = EE 171 11 [l0, l1, l2, l3] (.ref (adr M.1) :: st) (bn M) := e_new d171_8 n4_10 h
theorem d171_11 : decode (cod 171) 11 = .ok (.dup, 1) := by decide +kernel
theorem s171_11i {M : Mm} {st : List Value} {l0 l1 l2 l3 : Option Value} {x : Int32} : EE 171 11 [l0, l1, l2, l3] (.int x :: st) M = EE 171 12 [l0, l1, l2, l3] (.int x :: .int x :: st) M := e_dup d171_11 rfl
theorem s171_11r {M : Mm} {st : List Value} {l0 l1 l2 l3 : Option Value} {x : Nat} : EE 171 11 [l0, l1, l2, l3] (.ref x :: st) M = EE 171 12 [l0, l1, l2, l3] (.ref x :: .ref x :: st) M := e_dup d171_11 rfl
theorem d171_12 : decode (cod 171) 12 = .ok (.invokespecial 12, 3) := by decide +kernel
theorem s171_12 {l0 l1 l2 l3 : Option Value} {a : Nat} {M M' : Mm} {st : List Value} (hl : st.length ≤ 4) (hF : FF 80 [.ref a] M = some (none, M')) : EE 171 12 [l0, l1, l2, l3] (.ref a :: st) M = EE 171 15 [l0, l1, l2, l3] st M' := e_cali d171_12 c4_12 rfl rfl rfl r171_80 hl hF
theorem d171_15 : decode (cod 171) 15 = .ok (.astore_n 2, 1) := by decide +kernel
theorem s171_15 {M : Mm} {st : List Value} {l0 l1 l2 l3 : Option Value} {x : Nat} : EE 171 15 [l0, l1, l2, l3] (.ref x :: st) M = EE 171 16 [l0, cln l1, some (.ref x), l3] st M := e_st1 d171_15 rfl rfl rfl rfl rfl rfl rfl (Nat.le_of_ble_eq_true rfl) rfl
theorem d171_16 : decode (cod 171) 16 = .ok (.iconst 0, 1) := by decide +kernel
theorem s171_16 {M : Mm} {st : List Value} {l0 l1 l2 l3 : Option Value} : EE 171 16 [l0, l1, l2, l3] st M = EE 171 17 [l0, l1, l2, l3] (.int (nI 0) :: st) M := e_con d171_16 k_con_0
theorem d171_17 : decode (cod 171) 17 = .ok (.istore_n 3, 1) := by decide +kernel
theorem s171_17 {M : Mm} {st : List Value} {l0 l1 l2 l3 : Option Value} {x : Int32} : EE 171 17 [l0, l1, l2, l3] (.int x :: st) M = EE 171 18 [l0, l1, cln l2, some (.int x)] st M := e_st1 d171_17 rfl rfl rfl rfl rfl rfl rfl (Nat.le_of_ble_eq_true rfl) rfl
theorem d171_18 : decode (cod 171) 18 = .ok (.iload_n 3, 1) := by decide +kernel
theorem s171_18 {M : Mm} {st : List Value} {l0 l1 l2 : Option Value} {x : Int32} : EE 171 18 [l0, l1, l2, some (.int x)] st M = EE 171 19 [l0, l1, l2, some (.int x)] (.int x :: st) M := e_ld d171_18 rfl rfl rfl rfl rfl rfl
theorem d171_19 : decode (cod 171) 19 = .ok (.aload_n 0, 1) := by decide +kernel
theorem s171_19 {M : Mm} {st : List Value} {l1 l2 l3 : Option Value} {x : Nat} : EE 171 19 [some (.ref x), l1, l2, l3] st M = EE 171 20 [some (.ref x), l1, l2, l3] (.ref x :: st) M := e_ld d171_19 rfl rfl rfl rfl rfl rfl
theorem d171_20 : decode (cod 171) 20 = .ok (.arraylength, 1) := by decide +kernel
theorem s171_20 {n : Nat} {I : Nat → Nat → Int32} {R : Nat → Nat → Option Nat} {st : List Value} {l0 l1 l2 l3 : Option Value} {a : Nat} : EE 171 20 [l0, l1, l2, l3] (.ref a :: st) (n, I, R) = (aln n I a).bind (fun z => EE 171 21 [l0, l1, l2, l3] (.int z :: st) (n, I, R)) := e_alenb d171_20
theorem d171_21 : decode (cod 171) 21 = .ok (.iconst 4, 1) := by decide +kernel
theorem s171_21 {M : Mm} {st : List Value} {l0 l1 l2 l3 : Option Value} : EE 171 21 [l0, l1, l2, l3] st M = EE 171 22 [l0, l1, l2, l3] (.int (nI 4) :: st) M := e_con d171_21 k_con_4
theorem d171_22 : decode (cod 171) 22 = .ok (.isub, 1) := by decide +kernel
theorem s171_22 {M : Mm} {st : List Value} {l0 l1 l2 l3 : Option Value} {x y : Int32} : EE 171 22 [l0, l1, l2, l3] (.int y :: .int x :: st) M = EE 171 23 [l0, l1, l2, l3] (.int (x - y) :: st) M := e_II d171_22 rfl rfl rfl rfl rfl rfl
theorem d171_23 : decode (cod 171) 23 = .ok (.if_icmp .gt 801, 3) := by decide +kernel
theorem s171_23 {M : Mm} {st : List Value} {l0 l1 l2 l3 : Option Value} {x y : Int32} : EE 171 23 [l0, l1, l2, l3] (.int y :: .int x :: st) M = if y < x then EE 171 824 [l0, l1, l2, l3] st M else EE 171 26 [l0, l1, l2, l3] st M := e_cgt d171_23 (by decide)
theorem d171_26 : decode (cod 171) 26 = .ok (.aload_n 0, 1) := by decide +kernel
theorem s171_26 {M : Mm} {st : List Value} {l1 l2 l3 : Option Value} {x : Nat} : EE 171 26 [some (.ref x), l1, l2, l3] st M = EE 171 27 [some (.ref x), l1, l2, l3] (.ref x :: st) M := e_ld d171_26 rfl rfl rfl rfl rfl rfl
theorem d171_27 : decode (cod 171) 27 = .ok (.iload_n 3, 1) := by decide +kernel
theorem s171_27 {M : Mm} {st : List Value} {l0 l1 l2 : Option Value} {x : Int32} : EE 171 27 [l0, l1, l2, some (.int x)] st M = EE 171 28 [l0, l1, l2, some (.int x)] (.int x :: st) M := e_ld d171_27 rfl rfl rfl rfl rfl rfl
theorem d171_28 : decode (cod 171) 28 = .ok (.iaload, 1) := by decide +kernel
theorem s171_28 {n : Nat} {I : Nat → Nat → Int32} {R : Nat → Nat → Option Nat} {st : List Value} {l0 l1 l2 l3 : Option Value} {j : Int32} {a : Nat} : EE 171 28 [l0, l1, l2, l3] (.int j :: .ref a :: st) (n, I, R) = (ardI 5 n I a j).bind (fun z => EE 171 29 [l0, l1, l2, l3] (.int z :: st) (n, I, R)) := e_iald d171_28
theorem d171_29 : decode (cod 171) 29 = .ok (.bipush 31, 2) := by decide +kernel
theorem s171_29 {M : Mm} {st : List Value} {l0 l1 l2 l3 : Option Value} : EE 171 29 [l0, l1, l2, l3] st M = EE 171 31 [l0, l1, l2, l3] (.int (nI 31) :: st) M := e_bip d171_29 k_bip_31
theorem d171_31 : decode (cod 171) 31 = .ok (.iand, 1) := by decide +kernel
theorem s171_31 {M : Mm} {st : List Value} {l0 l1 l2 l3 : Option Value} {x y : Int32} : EE 171 31 [l0, l1, l2, l3] (.int y :: .int x :: st) M = EE 171 32 [l0, l1, l2, l3] (.int (x &&& y) :: st) M := e_II d171_31 rfl rfl rfl rfl rfl rfl
theorem d171_32 : decode (cod 171) 32 = .ok (.tableswitch 786 0 26 #[124, 157, 190, 223, 236, 259, 282, 325, 348, 361, 394, 427, 450, 473, 506, 519, 542, 566, 579, 602, 635, 688, 701, 714, 727, 740, 763], 124) := by decide +kernel
theorem s171_32_0 {M : Mm} {st : List Value} {l0 l1 l2 l3 : Option Value} : EE 171 32 [l0, l1, l2, l3] (.int (nI 0) :: st) M = EE 171 156 [l0, l1, l2, l3] st M := e_tab d171_32 (by decide +kernel)
theorem s171_32_1 {M : Mm} {st : List Value} {l0 l1 l2 l3 : Option Value} : EE 171 32 [l0, l1, l2, l3] (.int (nI 1) :: st) M = EE 171 189 [l0, l1, l2, l3] st M := e_tab d171_32 (by decide +kernel)
theorem s171_32_2 {M : Mm} {st : List Value} {l0 l1 l2 l3 : Option Value} : EE 171 32 [l0, l1, l2, l3] (.int (nI 2) :: st) M = EE 171 222 [l0, l1, l2, l3] st M := e_tab d171_32 (by decide +kernel)
theorem s171_32_3 {M : Mm} {st : List Value} {l0 l1 l2 l3 : Option Value} : EE 171 32 [l0, l1, l2, l3] (.int (nI 3) :: st) M = EE 171 255 [l0, l1, l2, l3] st M := e_tab d171_32 (by decide +kernel)
theorem s171_32_4 {M : Mm} {st : List Value} {l0 l1 l2 l3 : Option Value} : EE 171 32 [l0, l1, l2, l3] (.int (nI 4) :: st) M = EE 171 268 [l0, l1, l2, l3] st M := e_tab d171_32 (by decide +kernel)
theorem s171_32_5 {M : Mm} {st : List Value} {l0 l1 l2 l3 : Option Value} : EE 171 32 [l0, l1, l2, l3] (.int (nI 5) :: st) M = EE 171 291 [l0, l1, l2, l3] st M := e_tab d171_32 (by decide +kernel)
theorem s171_32_6 {M : Mm} {st : List Value} {l0 l1 l2 l3 : Option Value} : EE 171 32 [l0, l1, l2, l3] (.int (nI 6) :: st) M = EE 171 314 [l0, l1, l2, l3] st M := e_tab d171_32 (by decide +kernel)
theorem s171_32_7 {M : Mm} {st : List Value} {l0 l1 l2 l3 : Option Value} : EE 171 32 [l0, l1, l2, l3] (.int (nI 7) :: st) M = EE 171 357 [l0, l1, l2, l3] st M := e_tab d171_32 (by decide +kernel)
theorem s171_32_8 {M : Mm} {st : List Value} {l0 l1 l2 l3 : Option Value} : EE 171 32 [l0, l1, l2, l3] (.int (nI 8) :: st) M = EE 171 380 [l0, l1, l2, l3] st M := e_tab d171_32 (by decide +kernel)
theorem s171_32_9 {M : Mm} {st : List Value} {l0 l1 l2 l3 : Option Value} : EE 171 32 [l0, l1, l2, l3] (.int (nI 9) :: st) M = EE 171 393 [l0, l1, l2, l3] st M := e_tab d171_32 (by decide +kernel)
theorem s171_32_10 {M : Mm} {st : List Value} {l0 l1 l2 l3 : Option Value} : EE 171 32 [l0, l1, l2, l3] (.int (nI 10) :: st) M = EE 171 426 [l0, l1, l2, l3] st M := e_tab d171_32 (by decide +kernel)
theorem s171_32_11 {M : Mm} {st : List Value} {l0 l1 l2 l3 : Option Value} : EE 171 32 [l0, l1, l2, l3] (.int (nI 11) :: st) M = EE 171 459 [l0, l1, l2, l3] st M := e_tab d171_32 (by decide +kernel)
theorem s171_32_12 {M : Mm} {st : List Value} {l0 l1 l2 l3 : Option Value} : EE 171 32 [l0, l1, l2, l3] (.int (nI 12) :: st) M = EE 171 482 [l0, l1, l2, l3] st M := e_tab d171_32 (by decide +kernel)
theorem s171_32_13 {M : Mm} {st : List Value} {l0 l1 l2 l3 : Option Value} : EE 171 32 [l0, l1, l2, l3] (.int (nI 13) :: st) M = EE 171 505 [l0, l1, l2, l3] st M := e_tab d171_32 (by decide +kernel)
theorem s171_32_14 {M : Mm} {st : List Value} {l0 l1 l2 l3 : Option Value} : EE 171 32 [l0, l1, l2, l3] (.int (nI 14) :: st) M = EE 171 538 [l0, l1, l2, l3] st M := e_tab d171_32 (by decide +kernel)
theorem s171_32_15 {M : Mm} {st : List Value} {l0 l1 l2 l3 : Option Value} : EE 171 32 [l0, l1, l2, l3] (.int (nI 15) :: st) M = EE 171 551 [l0, l1, l2, l3] st M := e_tab d171_32 (by decide +kernel)
theorem s171_32_16 {M : Mm} {st : List Value} {l0 l1 l2 l3 : Option Value} : EE 171 32 [l0, l1, l2, l3] (.int (nI 16) :: st) M = EE 171 574 [l0, l1, l2, l3] st M := e_tab d171_32 (by decide +kernel)
theorem s171_32_17 {M : Mm} {st : List Value} {l0 l1 l2 l3 : Option Value} : EE 171 32 [l0, l1, l2, l3] (.int (nI 17) :: st) M = EE 171 598 [l0, l1, l2, l3] st M := e_tab d171_32 (by decide +kernel)
theorem s171_32_18 {M : Mm} {st : List Value} {l0 l1 l2 l3 : Option Value} : EE 171 32 [l0, l1, l2, l3] (.int (nI 18) :: st) M = EE 171 611 [l0, l1, l2, l3] st M := e_tab d171_32 (by decide +kernel)
theorem s171_32_19 {M : Mm} {st : List Value} {l0 l1 l2 l3 : Option Value} : EE 171 32 [l0, l1, l2, l3] (.int (nI 19) :: st) M = EE 171 634 [l0, l1, l2, l3] st M := e_tab d171_32 (by decide +kernel)
theorem s171_32_20 {M : Mm} {st : List Value} {l0 l1 l2 l3 : Option Value} : EE 171 32 [l0, l1, l2, l3] (.int (nI 20) :: st) M = EE 171 667 [l0, l1, l2, l3] st M := e_tab d171_32 (by decide +kernel)
theorem s171_32_21 {M : Mm} {st : List Value} {l0 l1 l2 l3 : Option Value} : EE 171 32 [l0, l1, l2, l3] (.int (nI 21) :: st) M = EE 171 720 [l0, l1, l2, l3] st M := e_tab d171_32 (by decide +kernel)
theorem s171_32_22 {M : Mm} {st : List Value} {l0 l1 l2 l3 : Option Value} : EE 171 32 [l0, l1, l2, l3] (.int (nI 22) :: st) M = EE 171 733 [l0, l1, l2, l3] st M := e_tab d171_32 (by decide +kernel)
theorem s171_32_23 {M : Mm} {st : List Value} {l0 l1 l2 l3 : Option Value} : EE 171 32 [l0, l1, l2, l3] (.int (nI 23) :: st) M = EE 171 746 [l0, l1, l2, l3] st M := e_tab d171_32 (by decide +kernel)
theorem s171_32_24 {M : Mm} {st : List Value} {l0 l1 l2 l3 : Option Value} : EE 171 32 [l0, l1, l2, l3] (.int (nI 24) :: st) M = EE 171 759 [l0, l1, l2, l3] st M := e_tab d171_32 (by decide +kernel)
theorem s171_32_25 {M : Mm} {st : List Value} {l0 l1 l2 l3 : Option Value} : EE 171 32 [l0, l1, l2, l3] (.int (nI 25) :: st) M = EE 171 772 [l0, l1, l2, l3] st M := e_tab d171_32 (by decide +kernel)
theorem s171_32_26 {M : Mm} {st : List Value} {l0 l1 l2 l3 : Option Value} : EE 171 32 [l0, l1, l2, l3] (.int (nI 26) :: st) M = EE 171 795 [l0, l1, l2, l3] st M := e_tab d171_32 (by decide +kernel)
theorem s171_32_d {M : Mm} {st : List Value} {l0 l1 l2 l3 : Option Value} {x : Int32} (h : x.toInt < 0 ∨ 26 < x.toInt) : EE 171 32 [l0, l1, l2, l3] (.int x :: st) M = EE 171 818 [l0, l1, l2, l3] st M := e_tab d171_32 (by rw [if_pos h]; decide +kernel)
theorem d171_156 : decode (cod 171) 156 = .ok (.aload_n 1, 1) := by decide +kernel
theorem s171_156 {M : Mm} {st : List Value} {l0 l2 l3 : Option Value} {x : Nat} : EE 171 156 [l0, some (.ref x), l2, l3] st M = EE 171 157 [l0, some (.ref x), l2, l3] (.ref x :: st) M := e_ld d171_156 rfl rfl rfl rfl rfl rfl
theorem d171_157 : decode (cod 171) 157 = .ok (.aload_n 0, 1) := by decide +kernel
theorem s171_157 {M : Mm} {st : List Value} {l1 l2 l3 : Option Value} {x : Nat} : EE 171 157 [some (.ref x), l1, l2, l3] st M = EE 171 158 [some (.ref x), l1, l2, l3] (.ref x :: st) M := e_ld d171_157 rfl rfl rfl rfl rfl rfl
theorem d171_158 : decode (cod 171) 158 = .ok (.iload_n 3, 1) := by decide +kernel
theorem s171_158 {M : Mm} {st : List Value} {l0 l1 l2 : Option Value} {x : Int32} : EE 171 158 [l0, l1, l2, some (.int x)] st M = EE 171 159 [l0, l1, l2, some (.int x)] (.int x :: st) M := e_ld d171_158 rfl rfl rfl rfl rfl rfl
theorem d171_159 : decode (cod 171) 159 = .ok (.iconst 1, 1) := by decide +kernel
theorem s171_159 {M : Mm} {st : List Value} {l0 l1 l2 l3 : Option Value} : EE 171 159 [l0, l1, l2, l3] st M = EE 171 160 [l0, l1, l2, l3] (.int (nI 1) :: st) M := e_con d171_159 k_con_1
theorem d171_160 : decode (cod 171) 160 = .ok (.iadd, 1) := by decide +kernel
theorem s171_160 {M : Mm} {st : List Value} {l0 l1 l2 l3 : Option Value} {x y : Int32} : EE 171 160 [l0, l1, l2, l3] (.int y :: .int x :: st) M = EE 171 161 [l0, l1, l2, l3] (.int (x + y) :: st) M := e_II d171_160 rfl rfl rfl rfl rfl rfl
theorem d171_161 : decode (cod 171) 161 = .ok (.iaload, 1) := by decide +kernel
theorem s171_161 {n : Nat} {I : Nat → Nat → Int32} {R : Nat → Nat → Option Nat} {st : List Value} {l0 l1 l2 l3 : Option Value} {j : Int32} {a : Nat} : EE 171 161 [l0, l1, l2, l3] (.int j :: .ref a :: st) (n, I, R) = (ardI 5 n I a j).bind (fun z => EE 171 162 [l0, l1, l2, l3] (.int z :: st) (n, I, R)) := e_iald d171_161
theorem d171_162 : decode (cod 171) 162 = .ok (.aload_n 0, 1) := by decide +kernel
theorem s171_162 {M : Mm} {st : List Value} {l1 l2 l3 : Option Value} {x : Nat} : EE 171 162 [some (.ref x), l1, l2, l3] st M = EE 171 163 [some (.ref x), l1, l2, l3] (.ref x :: st) M := e_ld d171_162 rfl rfl rfl rfl rfl rfl
theorem d171_163 : decode (cod 171) 163 = .ok (.iload_n 3, 1) := by decide +kernel
theorem s171_163 {M : Mm} {st : List Value} {l0 l1 l2 : Option Value} {x : Int32} : EE 171 163 [l0, l1, l2, some (.int x)] st M = EE 171 164 [l0, l1, l2, some (.int x)] (.int x :: st) M := e_ld d171_163 rfl rfl rfl rfl rfl rfl
theorem d171_164 : decode (cod 171) 164 = .ok (.iconst 2, 1) := by decide +kernel
theorem s171_164 {M : Mm} {st : List Value} {l0 l1 l2 l3 : Option Value} : EE 171 164 [l0, l1, l2, l3] st M = EE 171 165 [l0, l1, l2, l3] (.int (nI 2) :: st) M := e_con d171_164 k_con_2
theorem d171_165 : decode (cod 171) 165 = .ok (.iadd, 1) := by decide +kernel
theorem s171_165 {M : Mm} {st : List Value} {l0 l1 l2 l3 : Option Value} {x y : Int32} : EE 171 165 [l0, l1, l2, l3] (.int y :: .int x :: st) M = EE 171 166 [l0, l1, l2, l3] (.int (x + y) :: st) M := e_II d171_165 rfl rfl rfl rfl rfl rfl
theorem d171_166 : decode (cod 171) 166 = .ok (.iaload, 1) := by decide +kernel
theorem s171_166 {n : Nat} {I : Nat → Nat → Int32} {R : Nat → Nat → Option Nat} {st : List Value} {l0 l1 l2 l3 : Option Value} {j : Int32} {a : Nat} : EE 171 166 [l0, l1, l2, l3] (.int j :: .ref a :: st) (n, I, R) = (ardI 5 n I a j).bind (fun z => EE 171 167 [l0, l1, l2, l3] (.int z :: st) (n, I, R)) := e_iald d171_166
theorem d171_167 : decode (cod 171) 167 = .ok (.invokevirtual 13, 3) := by decide +kernel
theorem s171_167 {l0 l1 l2 l3 : Option Value} {a : Nat} {M : Mm} {b0 : Int32} {b1 : Int32} {st : List Value} (hl : st.length ≤ 4) (ho : isO "HandoverDesk" M.1 a = true) : EE 171 167 [l0, l1, l2, l3] (.int b1 :: .int b0 :: .ref a :: st) M = (FF 44 (.ref a :: [.int b0, .int b1]) M).bind (fun z => EE 171 170 [l0, l1, l2, l3] (psh z.1 st) z.2) := e_calv (av := [.int b0, .int b1]) d171_167 c4_13 rfl rfl rfl r171_44 rfl hl ho
theorem d171_170 : decode (cod 171) 170 = .ok (.aload_n 2, 1) := by decide +kernel
theorem s171_170 {M : Mm} {st : List Value} {l0 l1 l3 : Option Value} {x : Nat} : EE 171 170 [l0, l1, some (.ref x), l3] st M = EE 171 171 [l0, l1, some (.ref x), l3] (.ref x :: st) M := e_ld d171_170 rfl rfl rfl rfl rfl rfl
theorem d171_171 : decode (cod 171) 171 = .ok (.aload_n 0, 1) := by decide +kernel
theorem s171_171 {M : Mm} {st : List Value} {l1 l2 l3 : Option Value} {x : Nat} : EE 171 171 [some (.ref x), l1, l2, l3] st M = EE 171 172 [some (.ref x), l1, l2, l3] (.ref x :: st) M := e_ld d171_171 rfl rfl rfl rfl rfl rfl
theorem d171_172 : decode (cod 171) 172 = .ok (.iload_n 3, 1) := by decide +kernel
theorem s171_172 {M : Mm} {st : List Value} {l0 l1 l2 : Option Value} {x : Int32} : EE 171 172 [l0, l1, l2, some (.int x)] st M = EE 171 173 [l0, l1, l2, some (.int x)] (.int x :: st) M := e_ld d171_172 rfl rfl rfl rfl rfl rfl
theorem d171_173 : decode (cod 171) 173 = .ok (.iconst 1, 1) := by decide +kernel
theorem s171_173 {M : Mm} {st : List Value} {l0 l1 l2 l3 : Option Value} : EE 171 173 [l0, l1, l2, l3] st M = EE 171 174 [l0, l1, l2, l3] (.int (nI 1) :: st) M := e_con d171_173 k_con_1
theorem d171_174 : decode (cod 171) 174 = .ok (.iadd, 1) := by decide +kernel
theorem s171_174 {M : Mm} {st : List Value} {l0 l1 l2 l3 : Option Value} {x y : Int32} : EE 171 174 [l0, l1, l2, l3] (.int y :: .int x :: st) M = EE 171 175 [l0, l1, l2, l3] (.int (x + y) :: st) M := e_II d171_174 rfl rfl rfl rfl rfl rfl
theorem d171_175 : decode (cod 171) 175 = .ok (.iaload, 1) := by decide +kernel
theorem s171_175 {n : Nat} {I : Nat → Nat → Int32} {R : Nat → Nat → Option Nat} {st : List Value} {l0 l1 l2 l3 : Option Value} {j : Int32} {a : Nat} : EE 171 175 [l0, l1, l2, l3] (.int j :: .ref a :: st) (n, I, R) = (ardI 5 n I a j).bind (fun z => EE 171 176 [l0, l1, l2, l3] (.int z :: st) (n, I, R)) := e_iald d171_175
theorem d171_176 : decode (cod 171) 176 = .ok (.aload_n 0, 1) := by decide +kernel
theorem s171_176 {M : Mm} {st : List Value} {l1 l2 l3 : Option Value} {x : Nat} : EE 171 176 [some (.ref x), l1, l2, l3] st M = EE 171 177 [some (.ref x), l1, l2, l3] (.ref x :: st) M := e_ld d171_176 rfl rfl rfl rfl rfl rfl
theorem d171_177 : decode (cod 171) 177 = .ok (.iload_n 3, 1) := by decide +kernel
theorem s171_177 {M : Mm} {st : List Value} {l0 l1 l2 : Option Value} {x : Int32} : EE 171 177 [l0, l1, l2, some (.int x)] st M = EE 171 178 [l0, l1, l2, some (.int x)] (.int x :: st) M := e_ld d171_177 rfl rfl rfl rfl rfl rfl
theorem d171_178 : decode (cod 171) 178 = .ok (.iconst 2, 1) := by decide +kernel
theorem s171_178 {M : Mm} {st : List Value} {l0 l1 l2 l3 : Option Value} : EE 171 178 [l0, l1, l2, l3] st M = EE 171 179 [l0, l1, l2, l3] (.int (nI 2) :: st) M := e_con d171_178 k_con_2
theorem d171_179 : decode (cod 171) 179 = .ok (.iadd, 1) := by decide +kernel
theorem s171_179 {M : Mm} {st : List Value} {l0 l1 l2 l3 : Option Value} {x y : Int32} : EE 171 179 [l0, l1, l2, l3] (.int y :: .int x :: st) M = EE 171 180 [l0, l1, l2, l3] (.int (x + y) :: st) M := e_II d171_179 rfl rfl rfl rfl rfl rfl
theorem d171_180 : decode (cod 171) 180 = .ok (.iaload, 1) := by decide +kernel
theorem s171_180 {n : Nat} {I : Nat → Nat → Int32} {R : Nat → Nat → Option Nat} {st : List Value} {l0 l1 l2 l3 : Option Value} {j : Int32} {a : Nat} : EE 171 180 [l0, l1, l2, l3] (.int j :: .ref a :: st) (n, I, R) = (ardI 5 n I a j).bind (fun z => EE 171 181 [l0, l1, l2, l3] (.int z :: st) (n, I, R)) := e_iald d171_180
theorem d171_181 : decode (cod 171) 181 = .ok (.invokevirtual 17, 3) := by decide +kernel
theorem s171_181 {l0 l1 l2 l3 : Option Value} {a : Nat} {M : Mm} {b0 : Int32} {b1 : Int32} {st : List Value} (hl : st.length ≤ 4) (ho : isO "HandoverDeskModel" M.1 a = true) : EE 171 181 [l0, l1, l2, l3] (.int b1 :: .int b0 :: .ref a :: st) M = (FF 87 (.ref a :: [.int b0, .int b1]) M).bind (fun z => EE 171 184 [l0, l1, l2, l3] (psh z.1 st) z.2) := e_calv (av := [.int b0, .int b1]) d171_181 c4_17 rfl rfl rfl r171_87 rfl hl ho
theorem d171_184 : decode (cod 171) 184 = .ok (.if_icmp .eq 634, 3) := by decide +kernel
theorem s171_184 {M : Mm} {st : List Value} {l0 l1 l2 l3 : Option Value} {x y : Int32} : EE 171 184 [l0, l1, l2, l3] (.int y :: .int x :: st) M = if x = y then EE 171 818 [l0, l1, l2, l3] st M else EE 171 187 [l0, l1, l2, l3] st M := e_ceq d171_184 (by decide)
theorem d171_187 : decode (cod 171) 187 = .ok (.iconst 0, 1) := by decide +kernel
theorem s171_187 {M : Mm} {st : List Value} {l0 l1 l2 l3 : Option Value} : EE 171 187 [l0, l1, l2, l3] st M = EE 171 188 [l0, l1, l2, l3] (.int (nI 0) :: st) M := e_con d171_187 k_con_0
theorem d171_188 : decode (cod 171) 188 = .ok (.ireturn, 1) := by decide +kernel
theorem s171_188 {M : Mm} {l0 l1 l2 l3 : Option Value} {v : Int32} (h : narrow .boolean (.int v) = .int v) : EE 171 188 [l0, l1, l2, l3] [.int v] M = some (some (.int v), M) := e_iret d171_188 rfl h
theorem d171_189 : decode (cod 171) 189 = .ok (.aload_n 1, 1) := by decide +kernel
theorem s171_189 {M : Mm} {st : List Value} {l0 l2 l3 : Option Value} {x : Nat} : EE 171 189 [l0, some (.ref x), l2, l3] st M = EE 171 190 [l0, some (.ref x), l2, l3] (.ref x :: st) M := e_ld d171_189 rfl rfl rfl rfl rfl rfl
theorem d171_190 : decode (cod 171) 190 = .ok (.aload_n 0, 1) := by decide +kernel
theorem s171_190 {M : Mm} {st : List Value} {l1 l2 l3 : Option Value} {x : Nat} : EE 171 190 [some (.ref x), l1, l2, l3] st M = EE 171 191 [some (.ref x), l1, l2, l3] (.ref x :: st) M := e_ld d171_190 rfl rfl rfl rfl rfl rfl
theorem d171_191 : decode (cod 171) 191 = .ok (.iload_n 3, 1) := by decide +kernel
theorem s171_191 {M : Mm} {st : List Value} {l0 l1 l2 : Option Value} {x : Int32} : EE 171 191 [l0, l1, l2, some (.int x)] st M = EE 171 192 [l0, l1, l2, some (.int x)] (.int x :: st) M := e_ld d171_191 rfl rfl rfl rfl rfl rfl
theorem d171_192 : decode (cod 171) 192 = .ok (.iconst 1, 1) := by decide +kernel
theorem s171_192 {M : Mm} {st : List Value} {l0 l1 l2 l3 : Option Value} : EE 171 192 [l0, l1, l2, l3] st M = EE 171 193 [l0, l1, l2, l3] (.int (nI 1) :: st) M := e_con d171_192 k_con_1
theorem d171_193 : decode (cod 171) 193 = .ok (.iadd, 1) := by decide +kernel
theorem s171_193 {M : Mm} {st : List Value} {l0 l1 l2 l3 : Option Value} {x y : Int32} : EE 171 193 [l0, l1, l2, l3] (.int y :: .int x :: st) M = EE 171 194 [l0, l1, l2, l3] (.int (x + y) :: st) M := e_II d171_193 rfl rfl rfl rfl rfl rfl
theorem d171_194 : decode (cod 171) 194 = .ok (.iaload, 1) := by decide +kernel
theorem s171_194 {n : Nat} {I : Nat → Nat → Int32} {R : Nat → Nat → Option Nat} {st : List Value} {l0 l1 l2 l3 : Option Value} {j : Int32} {a : Nat} : EE 171 194 [l0, l1, l2, l3] (.int j :: .ref a :: st) (n, I, R) = (ardI 5 n I a j).bind (fun z => EE 171 195 [l0, l1, l2, l3] (.int z :: st) (n, I, R)) := e_iald d171_194
theorem d171_195 : decode (cod 171) 195 = .ok (.aload_n 0, 1) := by decide +kernel
theorem s171_195 {M : Mm} {st : List Value} {l1 l2 l3 : Option Value} {x : Nat} : EE 171 195 [some (.ref x), l1, l2, l3] st M = EE 171 196 [some (.ref x), l1, l2, l3] (.ref x :: st) M := e_ld d171_195 rfl rfl rfl rfl rfl rfl
theorem d171_196 : decode (cod 171) 196 = .ok (.iload_n 3, 1) := by decide +kernel
theorem s171_196 {M : Mm} {st : List Value} {l0 l1 l2 : Option Value} {x : Int32} : EE 171 196 [l0, l1, l2, some (.int x)] st M = EE 171 197 [l0, l1, l2, some (.int x)] (.int x :: st) M := e_ld d171_196 rfl rfl rfl rfl rfl rfl
theorem d171_197 : decode (cod 171) 197 = .ok (.iconst 2, 1) := by decide +kernel
theorem s171_197 {M : Mm} {st : List Value} {l0 l1 l2 l3 : Option Value} : EE 171 197 [l0, l1, l2, l3] st M = EE 171 198 [l0, l1, l2, l3] (.int (nI 2) :: st) M := e_con d171_197 k_con_2
theorem d171_198 : decode (cod 171) 198 = .ok (.iadd, 1) := by decide +kernel
theorem s171_198 {M : Mm} {st : List Value} {l0 l1 l2 l3 : Option Value} {x y : Int32} : EE 171 198 [l0, l1, l2, l3] (.int y :: .int x :: st) M = EE 171 199 [l0, l1, l2, l3] (.int (x + y) :: st) M := e_II d171_198 rfl rfl rfl rfl rfl rfl
theorem d171_199 : decode (cod 171) 199 = .ok (.iaload, 1) := by decide +kernel
theorem s171_199 {n : Nat} {I : Nat → Nat → Int32} {R : Nat → Nat → Option Nat} {st : List Value} {l0 l1 l2 l3 : Option Value} {j : Int32} {a : Nat} : EE 171 199 [l0, l1, l2, l3] (.int j :: .ref a :: st) (n, I, R) = (ardI 5 n I a j).bind (fun z => EE 171 200 [l0, l1, l2, l3] (.int z :: st) (n, I, R)) := e_iald d171_199
theorem d171_200 : decode (cod 171) 200 = .ok (.invokevirtual 18, 3) := by decide +kernel
theorem s171_200 {l0 l1 l2 l3 : Option Value} {a : Nat} {M : Mm} {b0 : Int32} {b1 : Int32} {st : List Value} (hl : st.length ≤ 4) (ho : isO "HandoverDesk" M.1 a = true) : EE 171 200 [l0, l1, l2, l3] (.int b1 :: .int b0 :: .ref a :: st) M = (FF 48 (.ref a :: [.int b0, .int b1]) M).bind (fun z => EE 171 203 [l0, l1, l2, l3] (psh z.1 st) z.2) := e_calv (av := [.int b0, .int b1]) d171_200 c4_18 rfl rfl rfl r171_48 rfl hl ho
theorem d171_203 : decode (cod 171) 203 = .ok (.aload_n 2, 1) := by decide +kernel
theorem s171_203 {M : Mm} {st : List Value} {l0 l1 l3 : Option Value} {x : Nat} : EE 171 203 [l0, l1, some (.ref x), l3] st M = EE 171 204 [l0, l1, some (.ref x), l3] (.ref x :: st) M := e_ld d171_203 rfl rfl rfl rfl rfl rfl
theorem d171_204 : decode (cod 171) 204 = .ok (.aload_n 0, 1) := by decide +kernel
theorem s171_204 {M : Mm} {st : List Value} {l1 l2 l3 : Option Value} {x : Nat} : EE 171 204 [some (.ref x), l1, l2, l3] st M = EE 171 205 [some (.ref x), l1, l2, l3] (.ref x :: st) M := e_ld d171_204 rfl rfl rfl rfl rfl rfl
theorem d171_205 : decode (cod 171) 205 = .ok (.iload_n 3, 1) := by decide +kernel
theorem s171_205 {M : Mm} {st : List Value} {l0 l1 l2 : Option Value} {x : Int32} : EE 171 205 [l0, l1, l2, some (.int x)] st M = EE 171 206 [l0, l1, l2, some (.int x)] (.int x :: st) M := e_ld d171_205 rfl rfl rfl rfl rfl rfl
theorem d171_206 : decode (cod 171) 206 = .ok (.iconst 1, 1) := by decide +kernel
theorem s171_206 {M : Mm} {st : List Value} {l0 l1 l2 l3 : Option Value} : EE 171 206 [l0, l1, l2, l3] st M = EE 171 207 [l0, l1, l2, l3] (.int (nI 1) :: st) M := e_con d171_206 k_con_1
theorem d171_207 : decode (cod 171) 207 = .ok (.iadd, 1) := by decide +kernel
theorem s171_207 {M : Mm} {st : List Value} {l0 l1 l2 l3 : Option Value} {x y : Int32} : EE 171 207 [l0, l1, l2, l3] (.int y :: .int x :: st) M = EE 171 208 [l0, l1, l2, l3] (.int (x + y) :: st) M := e_II d171_207 rfl rfl rfl rfl rfl rfl
theorem d171_208 : decode (cod 171) 208 = .ok (.iaload, 1) := by decide +kernel
theorem s171_208 {n : Nat} {I : Nat → Nat → Int32} {R : Nat → Nat → Option Nat} {st : List Value} {l0 l1 l2 l3 : Option Value} {j : Int32} {a : Nat} : EE 171 208 [l0, l1, l2, l3] (.int j :: .ref a :: st) (n, I, R) = (ardI 5 n I a j).bind (fun z => EE 171 209 [l0, l1, l2, l3] (.int z :: st) (n, I, R)) := e_iald d171_208
theorem d171_209 : decode (cod 171) 209 = .ok (.aload_n 0, 1) := by decide +kernel
theorem s171_209 {M : Mm} {st : List Value} {l1 l2 l3 : Option Value} {x : Nat} : EE 171 209 [some (.ref x), l1, l2, l3] st M = EE 171 210 [some (.ref x), l1, l2, l3] (.ref x :: st) M := e_ld d171_209 rfl rfl rfl rfl rfl rfl
theorem d171_210 : decode (cod 171) 210 = .ok (.iload_n 3, 1) := by decide +kernel
theorem s171_210 {M : Mm} {st : List Value} {l0 l1 l2 : Option Value} {x : Int32} : EE 171 210 [l0, l1, l2, some (.int x)] st M = EE 171 211 [l0, l1, l2, some (.int x)] (.int x :: st) M := e_ld d171_210 rfl rfl rfl rfl rfl rfl
theorem d171_211 : decode (cod 171) 211 = .ok (.iconst 2, 1) := by decide +kernel
theorem s171_211 {M : Mm} {st : List Value} {l0 l1 l2 l3 : Option Value} : EE 171 211 [l0, l1, l2, l3] st M = EE 171 212 [l0, l1, l2, l3] (.int (nI 2) :: st) M := e_con d171_211 k_con_2
theorem d171_212 : decode (cod 171) 212 = .ok (.iadd, 1) := by decide +kernel
theorem s171_212 {M : Mm} {st : List Value} {l0 l1 l2 l3 : Option Value} {x y : Int32} : EE 171 212 [l0, l1, l2, l3] (.int y :: .int x :: st) M = EE 171 213 [l0, l1, l2, l3] (.int (x + y) :: st) M := e_II d171_212 rfl rfl rfl rfl rfl rfl
theorem d171_213 : decode (cod 171) 213 = .ok (.iaload, 1) := by decide +kernel
theorem s171_213 {n : Nat} {I : Nat → Nat → Int32} {R : Nat → Nat → Option Nat} {st : List Value} {l0 l1 l2 l3 : Option Value} {j : Int32} {a : Nat} : EE 171 213 [l0, l1, l2, l3] (.int j :: .ref a :: st) (n, I, R) = (ardI 5 n I a j).bind (fun z => EE 171 214 [l0, l1, l2, l3] (.int z :: st) (n, I, R)) := e_iald d171_213
theorem d171_214 : decode (cod 171) 214 = .ok (.invokevirtual 21, 3) := by decide +kernel
theorem s171_214 {l0 l1 l2 l3 : Option Value} {a : Nat} {M : Mm} {b0 : Int32} {b1 : Int32} {st : List Value} (hl : st.length ≤ 4) (ho : isO "HandoverDeskModel" M.1 a = true) : EE 171 214 [l0, l1, l2, l3] (.int b1 :: .int b0 :: .ref a :: st) M = (FF 89 (.ref a :: [.int b0, .int b1]) M).bind (fun z => EE 171 217 [l0, l1, l2, l3] (psh z.1 st) z.2) := e_calv (av := [.int b0, .int b1]) d171_214 c4_21 rfl rfl rfl r171_89 rfl hl ho
theorem d171_217 : decode (cod 171) 217 = .ok (.if_icmp .eq 601, 3) := by decide +kernel
theorem s171_217 {M : Mm} {st : List Value} {l0 l1 l2 l3 : Option Value} {x y : Int32} : EE 171 217 [l0, l1, l2, l3] (.int y :: .int x :: st) M = if x = y then EE 171 818 [l0, l1, l2, l3] st M else EE 171 220 [l0, l1, l2, l3] st M := e_ceq d171_217 (by decide)
theorem d171_220 : decode (cod 171) 220 = .ok (.iconst 0, 1) := by decide +kernel
theorem s171_220 {M : Mm} {st : List Value} {l0 l1 l2 l3 : Option Value} : EE 171 220 [l0, l1, l2, l3] st M = EE 171 221 [l0, l1, l2, l3] (.int (nI 0) :: st) M := e_con d171_220 k_con_0
theorem d171_221 : decode (cod 171) 221 = .ok (.ireturn, 1) := by decide +kernel
theorem s171_221 {M : Mm} {l0 l1 l2 l3 : Option Value} {v : Int32} (h : narrow .boolean (.int v) = .int v) : EE 171 221 [l0, l1, l2, l3] [.int v] M = some (some (.int v), M) := e_iret d171_221 rfl h
theorem d171_222 : decode (cod 171) 222 = .ok (.aload_n 1, 1) := by decide +kernel
theorem s171_222 {M : Mm} {st : List Value} {l0 l2 l3 : Option Value} {x : Nat} : EE 171 222 [l0, some (.ref x), l2, l3] st M = EE 171 223 [l0, some (.ref x), l2, l3] (.ref x :: st) M := e_ld d171_222 rfl rfl rfl rfl rfl rfl
theorem d171_223 : decode (cod 171) 223 = .ok (.aload_n 0, 1) := by decide +kernel
theorem s171_223 {M : Mm} {st : List Value} {l1 l2 l3 : Option Value} {x : Nat} : EE 171 223 [some (.ref x), l1, l2, l3] st M = EE 171 224 [some (.ref x), l1, l2, l3] (.ref x :: st) M := e_ld d171_223 rfl rfl rfl rfl rfl rfl
theorem d171_224 : decode (cod 171) 224 = .ok (.iload_n 3, 1) := by decide +kernel
theorem s171_224 {M : Mm} {st : List Value} {l0 l1 l2 : Option Value} {x : Int32} : EE 171 224 [l0, l1, l2, some (.int x)] st M = EE 171 225 [l0, l1, l2, some (.int x)] (.int x :: st) M := e_ld d171_224 rfl rfl rfl rfl rfl rfl
theorem d171_225 : decode (cod 171) 225 = .ok (.iconst 1, 1) := by decide +kernel
theorem s171_225 {M : Mm} {st : List Value} {l0 l1 l2 l3 : Option Value} : EE 171 225 [l0, l1, l2, l3] st M = EE 171 226 [l0, l1, l2, l3] (.int (nI 1) :: st) M := e_con d171_225 k_con_1
theorem d171_226 : decode (cod 171) 226 = .ok (.iadd, 1) := by decide +kernel
theorem s171_226 {M : Mm} {st : List Value} {l0 l1 l2 l3 : Option Value} {x y : Int32} : EE 171 226 [l0, l1, l2, l3] (.int y :: .int x :: st) M = EE 171 227 [l0, l1, l2, l3] (.int (x + y) :: st) M := e_II d171_226 rfl rfl rfl rfl rfl rfl
theorem d171_227 : decode (cod 171) 227 = .ok (.iaload, 1) := by decide +kernel
theorem s171_227 {n : Nat} {I : Nat → Nat → Int32} {R : Nat → Nat → Option Nat} {st : List Value} {l0 l1 l2 l3 : Option Value} {j : Int32} {a : Nat} : EE 171 227 [l0, l1, l2, l3] (.int j :: .ref a :: st) (n, I, R) = (ardI 5 n I a j).bind (fun z => EE 171 228 [l0, l1, l2, l3] (.int z :: st) (n, I, R)) := e_iald d171_227
theorem d171_228 : decode (cod 171) 228 = .ok (.aload_n 0, 1) := by decide +kernel
theorem s171_228 {M : Mm} {st : List Value} {l1 l2 l3 : Option Value} {x : Nat} : EE 171 228 [some (.ref x), l1, l2, l3] st M = EE 171 229 [some (.ref x), l1, l2, l3] (.ref x :: st) M := e_ld d171_228 rfl rfl rfl rfl rfl rfl
theorem d171_229 : decode (cod 171) 229 = .ok (.iload_n 3, 1) := by decide +kernel
theorem s171_229 {M : Mm} {st : List Value} {l0 l1 l2 : Option Value} {x : Int32} : EE 171 229 [l0, l1, l2, some (.int x)] st M = EE 171 230 [l0, l1, l2, some (.int x)] (.int x :: st) M := e_ld d171_229 rfl rfl rfl rfl rfl rfl
theorem d171_230 : decode (cod 171) 230 = .ok (.iconst 2, 1) := by decide +kernel
theorem s171_230 {M : Mm} {st : List Value} {l0 l1 l2 l3 : Option Value} : EE 171 230 [l0, l1, l2, l3] st M = EE 171 231 [l0, l1, l2, l3] (.int (nI 2) :: st) M := e_con d171_230 k_con_2
theorem d171_231 : decode (cod 171) 231 = .ok (.iadd, 1) := by decide +kernel
theorem s171_231 {M : Mm} {st : List Value} {l0 l1 l2 l3 : Option Value} {x y : Int32} : EE 171 231 [l0, l1, l2, l3] (.int y :: .int x :: st) M = EE 171 232 [l0, l1, l2, l3] (.int (x + y) :: st) M := e_II d171_231 rfl rfl rfl rfl rfl rfl
theorem d171_232 : decode (cod 171) 232 = .ok (.iaload, 1) := by decide +kernel
theorem s171_232 {n : Nat} {I : Nat → Nat → Int32} {R : Nat → Nat → Option Nat} {st : List Value} {l0 l1 l2 l3 : Option Value} {j : Int32} {a : Nat} : EE 171 232 [l0, l1, l2, l3] (.int j :: .ref a :: st) (n, I, R) = (ardI 5 n I a j).bind (fun z => EE 171 233 [l0, l1, l2, l3] (.int z :: st) (n, I, R)) := e_iald d171_232
theorem d171_233 : decode (cod 171) 233 = .ok (.invokevirtual 22, 3) := by decide +kernel
theorem s171_233 {l0 l1 l2 l3 : Option Value} {a : Nat} {M : Mm} {b0 : Int32} {b1 : Int32} {st : List Value} (hl : st.length ≤ 4) (ho : isO "HandoverDesk" M.1 a = true) : EE 171 233 [l0, l1, l2, l3] (.int b1 :: .int b0 :: .ref a :: st) M = (FF 51 (.ref a :: [.int b0, .int b1]) M).bind (fun z => EE 171 236 [l0, l1, l2, l3] (psh z.1 st) z.2) := e_calv (av := [.int b0, .int b1]) d171_233 c4_22 rfl rfl rfl r171_51 rfl hl ho
theorem d171_236 : decode (cod 171) 236 = .ok (.aload_n 2, 1) := by decide +kernel
theorem s171_236 {M : Mm} {st : List Value} {l0 l1 l3 : Option Value} {x : Nat} : EE 171 236 [l0, l1, some (.ref x), l3] st M = EE 171 237 [l0, l1, some (.ref x), l3] (.ref x :: st) M := e_ld d171_236 rfl rfl rfl rfl rfl rfl
theorem d171_237 : decode (cod 171) 237 = .ok (.aload_n 0, 1) := by decide +kernel
theorem s171_237 {M : Mm} {st : List Value} {l1 l2 l3 : Option Value} {x : Nat} : EE 171 237 [some (.ref x), l1, l2, l3] st M = EE 171 238 [some (.ref x), l1, l2, l3] (.ref x :: st) M := e_ld d171_237 rfl rfl rfl rfl rfl rfl
theorem d171_238 : decode (cod 171) 238 = .ok (.iload_n 3, 1) := by decide +kernel
theorem s171_238 {M : Mm} {st : List Value} {l0 l1 l2 : Option Value} {x : Int32} : EE 171 238 [l0, l1, l2, some (.int x)] st M = EE 171 239 [l0, l1, l2, some (.int x)] (.int x :: st) M := e_ld d171_238 rfl rfl rfl rfl rfl rfl
theorem d171_239 : decode (cod 171) 239 = .ok (.iconst 1, 1) := by decide +kernel
theorem s171_239 {M : Mm} {st : List Value} {l0 l1 l2 l3 : Option Value} : EE 171 239 [l0, l1, l2, l3] st M = EE 171 240 [l0, l1, l2, l3] (.int (nI 1) :: st) M := e_con d171_239 k_con_1
theorem d171_240 : decode (cod 171) 240 = .ok (.iadd, 1) := by decide +kernel
theorem s171_240 {M : Mm} {st : List Value} {l0 l1 l2 l3 : Option Value} {x y : Int32} : EE 171 240 [l0, l1, l2, l3] (.int y :: .int x :: st) M = EE 171 241 [l0, l1, l2, l3] (.int (x + y) :: st) M := e_II d171_240 rfl rfl rfl rfl rfl rfl
theorem d171_241 : decode (cod 171) 241 = .ok (.iaload, 1) := by decide +kernel
theorem s171_241 {n : Nat} {I : Nat → Nat → Int32} {R : Nat → Nat → Option Nat} {st : List Value} {l0 l1 l2 l3 : Option Value} {j : Int32} {a : Nat} : EE 171 241 [l0, l1, l2, l3] (.int j :: .ref a :: st) (n, I, R) = (ardI 5 n I a j).bind (fun z => EE 171 242 [l0, l1, l2, l3] (.int z :: st) (n, I, R)) := e_iald d171_241
theorem d171_242 : decode (cod 171) 242 = .ok (.aload_n 0, 1) := by decide +kernel
theorem s171_242 {M : Mm} {st : List Value} {l1 l2 l3 : Option Value} {x : Nat} : EE 171 242 [some (.ref x), l1, l2, l3] st M = EE 171 243 [some (.ref x), l1, l2, l3] (.ref x :: st) M := e_ld d171_242 rfl rfl rfl rfl rfl rfl
theorem d171_243 : decode (cod 171) 243 = .ok (.iload_n 3, 1) := by decide +kernel
theorem s171_243 {M : Mm} {st : List Value} {l0 l1 l2 : Option Value} {x : Int32} : EE 171 243 [l0, l1, l2, some (.int x)] st M = EE 171 244 [l0, l1, l2, some (.int x)] (.int x :: st) M := e_ld d171_243 rfl rfl rfl rfl rfl rfl
theorem d171_244 : decode (cod 171) 244 = .ok (.iconst 2, 1) := by decide +kernel
theorem s171_244 {M : Mm} {st : List Value} {l0 l1 l2 l3 : Option Value} : EE 171 244 [l0, l1, l2, l3] st M = EE 171 245 [l0, l1, l2, l3] (.int (nI 2) :: st) M := e_con d171_244 k_con_2
theorem d171_245 : decode (cod 171) 245 = .ok (.iadd, 1) := by decide +kernel
theorem s171_245 {M : Mm} {st : List Value} {l0 l1 l2 l3 : Option Value} {x y : Int32} : EE 171 245 [l0, l1, l2, l3] (.int y :: .int x :: st) M = EE 171 246 [l0, l1, l2, l3] (.int (x + y) :: st) M := e_II d171_245 rfl rfl rfl rfl rfl rfl
theorem d171_246 : decode (cod 171) 246 = .ok (.iaload, 1) := by decide +kernel
theorem s171_246 {n : Nat} {I : Nat → Nat → Int32} {R : Nat → Nat → Option Nat} {st : List Value} {l0 l1 l2 l3 : Option Value} {j : Int32} {a : Nat} : EE 171 246 [l0, l1, l2, l3] (.int j :: .ref a :: st) (n, I, R) = (ardI 5 n I a j).bind (fun z => EE 171 247 [l0, l1, l2, l3] (.int z :: st) (n, I, R)) := e_iald d171_246
theorem d171_247 : decode (cod 171) 247 = .ok (.invokevirtual 25, 3) := by decide +kernel
theorem s171_247 {l0 l1 l2 l3 : Option Value} {a : Nat} {M : Mm} {b0 : Int32} {b1 : Int32} {st : List Value} (hl : st.length ≤ 4) (ho : isO "HandoverDeskModel" M.1 a = true) : EE 171 247 [l0, l1, l2, l3] (.int b1 :: .int b0 :: .ref a :: st) M = (FF 94 (.ref a :: [.int b0, .int b1]) M).bind (fun z => EE 171 250 [l0, l1, l2, l3] (psh z.1 st) z.2) := e_calv (av := [.int b0, .int b1]) d171_247 c4_25 rfl rfl rfl r171_94 rfl hl ho
theorem d171_250 : decode (cod 171) 250 = .ok (.if_icmp .eq 568, 3) := by decide +kernel
theorem s171_250 {M : Mm} {st : List Value} {l0 l1 l2 l3 : Option Value} {x y : Int32} : EE 171 250 [l0, l1, l2, l3] (.int y :: .int x :: st) M = if x = y then EE 171 818 [l0, l1, l2, l3] st M else EE 171 253 [l0, l1, l2, l3] st M := e_ceq d171_250 (by decide)
theorem d171_253 : decode (cod 171) 253 = .ok (.iconst 0, 1) := by decide +kernel
theorem s171_253 {M : Mm} {st : List Value} {l0 l1 l2 l3 : Option Value} : EE 171 253 [l0, l1, l2, l3] st M = EE 171 254 [l0, l1, l2, l3] (.int (nI 0) :: st) M := e_con d171_253 k_con_0
theorem d171_254 : decode (cod 171) 254 = .ok (.ireturn, 1) := by decide +kernel
theorem s171_254 {M : Mm} {l0 l1 l2 l3 : Option Value} {v : Int32} (h : narrow .boolean (.int v) = .int v) : EE 171 254 [l0, l1, l2, l3] [.int v] M = some (some (.int v), M) := e_iret d171_254 rfl h
theorem d171_255 : decode (cod 171) 255 = .ok (.aload_n 1, 1) := by decide +kernel
theorem s171_255 {M : Mm} {st : List Value} {l0 l2 l3 : Option Value} {x : Nat} : EE 171 255 [l0, some (.ref x), l2, l3] st M = EE 171 256 [l0, some (.ref x), l2, l3] (.ref x :: st) M := e_ld d171_255 rfl rfl rfl rfl rfl rfl
theorem d171_256 : decode (cod 171) 256 = .ok (.invokevirtual 26, 3) := by decide +kernel
theorem s171_256 {l0 l1 l2 l3 : Option Value} {a : Nat} {M : Mm} {st : List Value} (hl : st.length ≤ 4) (ho : isO "HandoverDesk" M.1 a = true) : EE 171 256 [l0, l1, l2, l3] (.ref a :: st) M = (FF 52 (.ref a :: []) M).bind (fun z => EE 171 259 [l0, l1, l2, l3] (psh z.1 st) z.2) := e_calv (av := []) d171_256 c4_26 rfl rfl rfl r171_52 rfl hl ho
theorem d171_259 : decode (cod 171) 259 = .ok (.aload_n 2, 1) := by decide +kernel
theorem s171_259 {M : Mm} {st : List Value} {l0 l1 l3 : Option Value} {x : Nat} : EE 171 259 [l0, l1, some (.ref x), l3] st M = EE 171 260 [l0, l1, some (.ref x), l3] (.ref x :: st) M := e_ld d171_259 rfl rfl rfl rfl rfl rfl
theorem d171_260 : decode (cod 171) 260 = .ok (.invokevirtual 30, 3) := by decide +kernel
theorem s171_260 {l0 l1 l2 l3 : Option Value} {a : Nat} {M : Mm} {st : List Value} (hl : st.length ≤ 4) (ho : isO "HandoverDeskModel" M.1 a = true) : EE 171 260 [l0, l1, l2, l3] (.ref a :: st) M = (FF 96 (.ref a :: []) M).bind (fun z => EE 171 263 [l0, l1, l2, l3] (psh z.1 st) z.2) := e_calv (av := []) d171_260 c4_30 rfl rfl rfl r171_96 rfl hl ho
theorem d171_263 : decode (cod 171) 263 = .ok (.if_icmp .eq 555, 3) := by decide +kernel
theorem s171_263 {M : Mm} {st : List Value} {l0 l1 l2 l3 : Option Value} {x y : Int32} : EE 171 263 [l0, l1, l2, l3] (.int y :: .int x :: st) M = if x = y then EE 171 818 [l0, l1, l2, l3] st M else EE 171 266 [l0, l1, l2, l3] st M := e_ceq d171_263 (by decide)
theorem d171_266 : decode (cod 171) 266 = .ok (.iconst 0, 1) := by decide +kernel
theorem s171_266 {M : Mm} {st : List Value} {l0 l1 l2 l3 : Option Value} : EE 171 266 [l0, l1, l2, l3] st M = EE 171 267 [l0, l1, l2, l3] (.int (nI 0) :: st) M := e_con d171_266 k_con_0
theorem d171_267 : decode (cod 171) 267 = .ok (.ireturn, 1) := by decide +kernel
theorem s171_267 {M : Mm} {l0 l1 l2 l3 : Option Value} {v : Int32} (h : narrow .boolean (.int v) = .int v) : EE 171 267 [l0, l1, l2, l3] [.int v] M = some (some (.int v), M) := e_iret d171_267 rfl h
theorem d171_268 : decode (cod 171) 268 = .ok (.aload_n 1, 1) := by decide +kernel
theorem s171_268 {M : Mm} {st : List Value} {l0 l2 l3 : Option Value} {x : Nat} : EE 171 268 [l0, some (.ref x), l2, l3] st M = EE 171 269 [l0, some (.ref x), l2, l3] (.ref x :: st) M := e_ld d171_268 rfl rfl rfl rfl rfl rfl
theorem d171_269 : decode (cod 171) 269 = .ok (.aload_n 0, 1) := by decide +kernel
theorem s171_269 {M : Mm} {st : List Value} {l1 l2 l3 : Option Value} {x : Nat} : EE 171 269 [some (.ref x), l1, l2, l3] st M = EE 171 270 [some (.ref x), l1, l2, l3] (.ref x :: st) M := e_ld d171_269 rfl rfl rfl rfl rfl rfl
theorem d171_270 : decode (cod 171) 270 = .ok (.iload_n 3, 1) := by decide +kernel
theorem s171_270 {M : Mm} {st : List Value} {l0 l1 l2 : Option Value} {x : Int32} : EE 171 270 [l0, l1, l2, some (.int x)] st M = EE 171 271 [l0, l1, l2, some (.int x)] (.int x :: st) M := e_ld d171_270 rfl rfl rfl rfl rfl rfl
theorem d171_271 : decode (cod 171) 271 = .ok (.iconst 1, 1) := by decide +kernel
theorem s171_271 {M : Mm} {st : List Value} {l0 l1 l2 l3 : Option Value} : EE 171 271 [l0, l1, l2, l3] st M = EE 171 272 [l0, l1, l2, l3] (.int (nI 1) :: st) M := e_con d171_271 k_con_1
theorem d171_272 : decode (cod 171) 272 = .ok (.iadd, 1) := by decide +kernel
theorem s171_272 {M : Mm} {st : List Value} {l0 l1 l2 l3 : Option Value} {x y : Int32} : EE 171 272 [l0, l1, l2, l3] (.int y :: .int x :: st) M = EE 171 273 [l0, l1, l2, l3] (.int (x + y) :: st) M := e_II d171_272 rfl rfl rfl rfl rfl rfl
theorem d171_273 : decode (cod 171) 273 = .ok (.iaload, 1) := by decide +kernel
theorem s171_273 {n : Nat} {I : Nat → Nat → Int32} {R : Nat → Nat → Option Nat} {st : List Value} {l0 l1 l2 l3 : Option Value} {j : Int32} {a : Nat} : EE 171 273 [l0, l1, l2, l3] (.int j :: .ref a :: st) (n, I, R) = (ardI 5 n I a j).bind (fun z => EE 171 274 [l0, l1, l2, l3] (.int z :: st) (n, I, R)) := e_iald d171_273
theorem d171_274 : decode (cod 171) 274 = .ok (.invokevirtual 31, 3) := by decide +kernel
theorem s171_274 {l0 l1 l2 l3 : Option Value} {a : Nat} {M : Mm} {b0 : Int32} {st : List Value} (hl : st.length ≤ 4) (ho : isO "HandoverDesk" M.1 a = true) : EE 171 274 [l0, l1, l2, l3] (.int b0 :: .ref a :: st) M = (FF 53 (.ref a :: [.int b0]) M).bind (fun z => EE 171 277 [l0, l1, l2, l3] (psh z.1 st) z.2) := e_calv (av := [.int b0]) d171_274 c4_31 rfl rfl rfl r171_53 rfl hl ho
theorem d171_277 : decode (cod 171) 277 = .ok (.aload_n 2, 1) := by decide +kernel
theorem s171_277 {M : Mm} {st : List Value} {l0 l1 l3 : Option Value} {x : Nat} : EE 171 277 [l0, l1, some (.ref x), l3] st M = EE 171 278 [l0, l1, some (.ref x), l3] (.ref x :: st) M := e_ld d171_277 rfl rfl rfl rfl rfl rfl
theorem d171_278 : decode (cod 171) 278 = .ok (.aload_n 0, 1) := by decide +kernel
theorem s171_278 {M : Mm} {st : List Value} {l1 l2 l3 : Option Value} {x : Nat} : EE 171 278 [some (.ref x), l1, l2, l3] st M = EE 171 279 [some (.ref x), l1, l2, l3] (.ref x :: st) M := e_ld d171_278 rfl rfl rfl rfl rfl rfl
theorem d171_279 : decode (cod 171) 279 = .ok (.iload_n 3, 1) := by decide +kernel
theorem s171_279 {M : Mm} {st : List Value} {l0 l1 l2 : Option Value} {x : Int32} : EE 171 279 [l0, l1, l2, some (.int x)] st M = EE 171 280 [l0, l1, l2, some (.int x)] (.int x :: st) M := e_ld d171_279 rfl rfl rfl rfl rfl rfl
theorem d171_280 : decode (cod 171) 280 = .ok (.iconst 1, 1) := by decide +kernel
theorem s171_280 {M : Mm} {st : List Value} {l0 l1 l2 l3 : Option Value} : EE 171 280 [l0, l1, l2, l3] st M = EE 171 281 [l0, l1, l2, l3] (.int (nI 1) :: st) M := e_con d171_280 k_con_1
theorem d171_281 : decode (cod 171) 281 = .ok (.iadd, 1) := by decide +kernel
theorem s171_281 {M : Mm} {st : List Value} {l0 l1 l2 l3 : Option Value} {x y : Int32} : EE 171 281 [l0, l1, l2, l3] (.int y :: .int x :: st) M = EE 171 282 [l0, l1, l2, l3] (.int (x + y) :: st) M := e_II d171_281 rfl rfl rfl rfl rfl rfl
theorem d171_282 : decode (cod 171) 282 = .ok (.iaload, 1) := by decide +kernel
theorem s171_282 {n : Nat} {I : Nat → Nat → Int32} {R : Nat → Nat → Option Nat} {st : List Value} {l0 l1 l2 l3 : Option Value} {j : Int32} {a : Nat} : EE 171 282 [l0, l1, l2, l3] (.int j :: .ref a :: st) (n, I, R) = (ardI 5 n I a j).bind (fun z => EE 171 283 [l0, l1, l2, l3] (.int z :: st) (n, I, R)) := e_iald d171_282
theorem d171_283 : decode (cod 171) 283 = .ok (.invokevirtual 35, 3) := by decide +kernel
theorem s171_283 {l0 l1 l2 l3 : Option Value} {a : Nat} {M : Mm} {b0 : Int32} {st : List Value} (hl : st.length ≤ 4) (ho : isO "HandoverDeskModel" M.1 a = true) : EE 171 283 [l0, l1, l2, l3] (.int b0 :: .ref a :: st) M = (FF 98 (.ref a :: [.int b0]) M).bind (fun z => EE 171 286 [l0, l1, l2, l3] (psh z.1 st) z.2) := e_calv (av := [.int b0]) d171_283 c4_35 rfl rfl rfl r171_98 rfl hl ho
theorem d171_286 : decode (cod 171) 286 = .ok (.if_icmp .eq 532, 3) := by decide +kernel
theorem s171_286 {M : Mm} {st : List Value} {l0 l1 l2 l3 : Option Value} {x y : Int32} : EE 171 286 [l0, l1, l2, l3] (.int y :: .int x :: st) M = if x = y then EE 171 818 [l0, l1, l2, l3] st M else EE 171 289 [l0, l1, l2, l3] st M := e_ceq d171_286 (by decide)
theorem d171_289 : decode (cod 171) 289 = .ok (.iconst 0, 1) := by decide +kernel
theorem s171_289 {M : Mm} {st : List Value} {l0 l1 l2 l3 : Option Value} : EE 171 289 [l0, l1, l2, l3] st M = EE 171 290 [l0, l1, l2, l3] (.int (nI 0) :: st) M := e_con d171_289 k_con_0
theorem d171_290 : decode (cod 171) 290 = .ok (.ireturn, 1) := by decide +kernel
theorem s171_290 {M : Mm} {l0 l1 l2 l3 : Option Value} {v : Int32} (h : narrow .boolean (.int v) = .int v) : EE 171 290 [l0, l1, l2, l3] [.int v] M = some (some (.int v), M) := e_iret d171_290 rfl h
theorem d171_291 : decode (cod 171) 291 = .ok (.aload_n 1, 1) := by decide +kernel
theorem s171_291 {M : Mm} {st : List Value} {l0 l2 l3 : Option Value} {x : Nat} : EE 171 291 [l0, some (.ref x), l2, l3] st M = EE 171 292 [l0, some (.ref x), l2, l3] (.ref x :: st) M := e_ld d171_291 rfl rfl rfl rfl rfl rfl
theorem d171_292 : decode (cod 171) 292 = .ok (.aload_n 0, 1) := by decide +kernel
theorem s171_292 {M : Mm} {st : List Value} {l1 l2 l3 : Option Value} {x : Nat} : EE 171 292 [some (.ref x), l1, l2, l3] st M = EE 171 293 [some (.ref x), l1, l2, l3] (.ref x :: st) M := e_ld d171_292 rfl rfl rfl rfl rfl rfl
theorem d171_293 : decode (cod 171) 293 = .ok (.iload_n 3, 1) := by decide +kernel
theorem s171_293 {M : Mm} {st : List Value} {l0 l1 l2 : Option Value} {x : Int32} : EE 171 293 [l0, l1, l2, some (.int x)] st M = EE 171 294 [l0, l1, l2, some (.int x)] (.int x :: st) M := e_ld d171_293 rfl rfl rfl rfl rfl rfl
theorem d171_294 : decode (cod 171) 294 = .ok (.iconst 1, 1) := by decide +kernel
theorem s171_294 {M : Mm} {st : List Value} {l0 l1 l2 l3 : Option Value} : EE 171 294 [l0, l1, l2, l3] st M = EE 171 295 [l0, l1, l2, l3] (.int (nI 1) :: st) M := e_con d171_294 k_con_1
theorem d171_295 : decode (cod 171) 295 = .ok (.iadd, 1) := by decide +kernel
theorem s171_295 {M : Mm} {st : List Value} {l0 l1 l2 l3 : Option Value} {x y : Int32} : EE 171 295 [l0, l1, l2, l3] (.int y :: .int x :: st) M = EE 171 296 [l0, l1, l2, l3] (.int (x + y) :: st) M := e_II d171_295 rfl rfl rfl rfl rfl rfl
theorem d171_296 : decode (cod 171) 296 = .ok (.iaload, 1) := by decide +kernel
theorem s171_296 {n : Nat} {I : Nat → Nat → Int32} {R : Nat → Nat → Option Nat} {st : List Value} {l0 l1 l2 l3 : Option Value} {j : Int32} {a : Nat} : EE 171 296 [l0, l1, l2, l3] (.int j :: .ref a :: st) (n, I, R) = (ardI 5 n I a j).bind (fun z => EE 171 297 [l0, l1, l2, l3] (.int z :: st) (n, I, R)) := e_iald d171_296
theorem d171_297 : decode (cod 171) 297 = .ok (.invokevirtual 36, 3) := by decide +kernel
theorem s171_297 {l0 l1 l2 l3 : Option Value} {a : Nat} {M : Mm} {b0 : Int32} {st : List Value} (hl : st.length ≤ 4) (ho : isO "HandoverDesk" M.1 a = true) : EE 171 297 [l0, l1, l2, l3] (.int b0 :: .ref a :: st) M = (FF 54 (.ref a :: [.int b0]) M).bind (fun z => EE 171 300 [l0, l1, l2, l3] (psh z.1 st) z.2) := e_calv (av := [.int b0]) d171_297 c4_36 rfl rfl rfl r171_54 rfl hl ho
theorem d171_300 : decode (cod 171) 300 = .ok (.aload_n 2, 1) := by decide +kernel
theorem s171_300 {M : Mm} {st : List Value} {l0 l1 l3 : Option Value} {x : Nat} : EE 171 300 [l0, l1, some (.ref x), l3] st M = EE 171 301 [l0, l1, some (.ref x), l3] (.ref x :: st) M := e_ld d171_300 rfl rfl rfl rfl rfl rfl
theorem d171_301 : decode (cod 171) 301 = .ok (.aload_n 0, 1) := by decide +kernel
theorem s171_301 {M : Mm} {st : List Value} {l1 l2 l3 : Option Value} {x : Nat} : EE 171 301 [some (.ref x), l1, l2, l3] st M = EE 171 302 [some (.ref x), l1, l2, l3] (.ref x :: st) M := e_ld d171_301 rfl rfl rfl rfl rfl rfl
theorem d171_302 : decode (cod 171) 302 = .ok (.iload_n 3, 1) := by decide +kernel
theorem s171_302 {M : Mm} {st : List Value} {l0 l1 l2 : Option Value} {x : Int32} : EE 171 302 [l0, l1, l2, some (.int x)] st M = EE 171 303 [l0, l1, l2, some (.int x)] (.int x :: st) M := e_ld d171_302 rfl rfl rfl rfl rfl rfl
theorem d171_303 : decode (cod 171) 303 = .ok (.iconst 1, 1) := by decide +kernel
theorem s171_303 {M : Mm} {st : List Value} {l0 l1 l2 l3 : Option Value} : EE 171 303 [l0, l1, l2, l3] st M = EE 171 304 [l0, l1, l2, l3] (.int (nI 1) :: st) M := e_con d171_303 k_con_1
theorem d171_304 : decode (cod 171) 304 = .ok (.iadd, 1) := by decide +kernel
theorem s171_304 {M : Mm} {st : List Value} {l0 l1 l2 l3 : Option Value} {x y : Int32} : EE 171 304 [l0, l1, l2, l3] (.int y :: .int x :: st) M = EE 171 305 [l0, l1, l2, l3] (.int (x + y) :: st) M := e_II d171_304 rfl rfl rfl rfl rfl rfl
theorem d171_305 : decode (cod 171) 305 = .ok (.iaload, 1) := by decide +kernel
theorem s171_305 {n : Nat} {I : Nat → Nat → Int32} {R : Nat → Nat → Option Nat} {st : List Value} {l0 l1 l2 l3 : Option Value} {j : Int32} {a : Nat} : EE 171 305 [l0, l1, l2, l3] (.int j :: .ref a :: st) (n, I, R) = (ardI 5 n I a j).bind (fun z => EE 171 306 [l0, l1, l2, l3] (.int z :: st) (n, I, R)) := e_iald d171_305
theorem d171_306 : decode (cod 171) 306 = .ok (.invokevirtual 39, 3) := by decide +kernel
theorem s171_306 {l0 l1 l2 l3 : Option Value} {a : Nat} {M : Mm} {b0 : Int32} {st : List Value} (hl : st.length ≤ 4) (ho : isO "HandoverDeskModel" M.1 a = true) : EE 171 306 [l0, l1, l2, l3] (.int b0 :: .ref a :: st) M = (FF 101 (.ref a :: [.int b0]) M).bind (fun z => EE 171 309 [l0, l1, l2, l3] (psh z.1 st) z.2) := e_calv (av := [.int b0]) d171_306 c4_39 rfl rfl rfl r171_101 rfl hl ho
theorem d171_309 : decode (cod 171) 309 = .ok (.if_icmp .eq 509, 3) := by decide +kernel
theorem s171_309 {M : Mm} {st : List Value} {l0 l1 l2 l3 : Option Value} {x y : Int32} : EE 171 309 [l0, l1, l2, l3] (.int y :: .int x :: st) M = if x = y then EE 171 818 [l0, l1, l2, l3] st M else EE 171 312 [l0, l1, l2, l3] st M := e_ceq d171_309 (by decide)
theorem d171_312 : decode (cod 171) 312 = .ok (.iconst 0, 1) := by decide +kernel
theorem s171_312 {M : Mm} {st : List Value} {l0 l1 l2 l3 : Option Value} : EE 171 312 [l0, l1, l2, l3] st M = EE 171 313 [l0, l1, l2, l3] (.int (nI 0) :: st) M := e_con d171_312 k_con_0
theorem d171_313 : decode (cod 171) 313 = .ok (.ireturn, 1) := by decide +kernel
theorem s171_313 {M : Mm} {l0 l1 l2 l3 : Option Value} {v : Int32} (h : narrow .boolean (.int v) = .int v) : EE 171 313 [l0, l1, l2, l3] [.int v] M = some (some (.int v), M) := e_iret d171_313 rfl h
theorem d171_314 : decode (cod 171) 314 = .ok (.aload_n 1, 1) := by decide +kernel
theorem s171_314 {M : Mm} {st : List Value} {l0 l2 l3 : Option Value} {x : Nat} : EE 171 314 [l0, some (.ref x), l2, l3] st M = EE 171 315 [l0, some (.ref x), l2, l3] (.ref x :: st) M := e_ld d171_314 rfl rfl rfl rfl rfl rfl
theorem d171_315 : decode (cod 171) 315 = .ok (.aload_n 0, 1) := by decide +kernel
theorem s171_315 {M : Mm} {st : List Value} {l1 l2 l3 : Option Value} {x : Nat} : EE 171 315 [some (.ref x), l1, l2, l3] st M = EE 171 316 [some (.ref x), l1, l2, l3] (.ref x :: st) M := e_ld d171_315 rfl rfl rfl rfl rfl rfl
theorem d171_316 : decode (cod 171) 316 = .ok (.iload_n 3, 1) := by decide +kernel
theorem s171_316 {M : Mm} {st : List Value} {l0 l1 l2 : Option Value} {x : Int32} : EE 171 316 [l0, l1, l2, some (.int x)] st M = EE 171 317 [l0, l1, l2, some (.int x)] (.int x :: st) M := e_ld d171_316 rfl rfl rfl rfl rfl rfl
theorem d171_317 : decode (cod 171) 317 = .ok (.iconst 1, 1) := by decide +kernel
theorem s171_317 {M : Mm} {st : List Value} {l0 l1 l2 l3 : Option Value} : EE 171 317 [l0, l1, l2, l3] st M = EE 171 318 [l0, l1, l2, l3] (.int (nI 1) :: st) M := e_con d171_317 k_con_1
theorem d171_318 : decode (cod 171) 318 = .ok (.iadd, 1) := by decide +kernel
theorem s171_318 {M : Mm} {st : List Value} {l0 l1 l2 l3 : Option Value} {x y : Int32} : EE 171 318 [l0, l1, l2, l3] (.int y :: .int x :: st) M = EE 171 319 [l0, l1, l2, l3] (.int (x + y) :: st) M := e_II d171_318 rfl rfl rfl rfl rfl rfl
theorem d171_319 : decode (cod 171) 319 = .ok (.iaload, 1) := by decide +kernel
theorem s171_319 {n : Nat} {I : Nat → Nat → Int32} {R : Nat → Nat → Option Nat} {st : List Value} {l0 l1 l2 l3 : Option Value} {j : Int32} {a : Nat} : EE 171 319 [l0, l1, l2, l3] (.int j :: .ref a :: st) (n, I, R) = (ardI 5 n I a j).bind (fun z => EE 171 320 [l0, l1, l2, l3] (.int z :: st) (n, I, R)) := e_iald d171_319
theorem d171_320 : decode (cod 171) 320 = .ok (.aload_n 0, 1) := by decide +kernel
theorem s171_320 {M : Mm} {st : List Value} {l1 l2 l3 : Option Value} {x : Nat} : EE 171 320 [some (.ref x), l1, l2, l3] st M = EE 171 321 [some (.ref x), l1, l2, l3] (.ref x :: st) M := e_ld d171_320 rfl rfl rfl rfl rfl rfl
theorem d171_321 : decode (cod 171) 321 = .ok (.iload_n 3, 1) := by decide +kernel
theorem s171_321 {M : Mm} {st : List Value} {l0 l1 l2 : Option Value} {x : Int32} : EE 171 321 [l0, l1, l2, some (.int x)] st M = EE 171 322 [l0, l1, l2, some (.int x)] (.int x :: st) M := e_ld d171_321 rfl rfl rfl rfl rfl rfl
theorem d171_322 : decode (cod 171) 322 = .ok (.iconst 2, 1) := by decide +kernel
theorem s171_322 {M : Mm} {st : List Value} {l0 l1 l2 l3 : Option Value} : EE 171 322 [l0, l1, l2, l3] st M = EE 171 323 [l0, l1, l2, l3] (.int (nI 2) :: st) M := e_con d171_322 k_con_2
theorem d171_323 : decode (cod 171) 323 = .ok (.iadd, 1) := by decide +kernel
theorem s171_323 {M : Mm} {st : List Value} {l0 l1 l2 l3 : Option Value} {x y : Int32} : EE 171 323 [l0, l1, l2, l3] (.int y :: .int x :: st) M = EE 171 324 [l0, l1, l2, l3] (.int (x + y) :: st) M := e_II d171_323 rfl rfl rfl rfl rfl rfl
theorem d171_324 : decode (cod 171) 324 = .ok (.iaload, 1) := by decide +kernel
theorem s171_324 {n : Nat} {I : Nat → Nat → Int32} {R : Nat → Nat → Option Nat} {st : List Value} {l0 l1 l2 l3 : Option Value} {j : Int32} {a : Nat} : EE 171 324 [l0, l1, l2, l3] (.int j :: .ref a :: st) (n, I, R) = (ardI 5 n I a j).bind (fun z => EE 171 325 [l0, l1, l2, l3] (.int z :: st) (n, I, R)) := e_iald d171_324
theorem d171_325 : decode (cod 171) 325 = .ok (.aload_n 0, 1) := by decide +kernel
theorem s171_325 {M : Mm} {st : List Value} {l1 l2 l3 : Option Value} {x : Nat} : EE 171 325 [some (.ref x), l1, l2, l3] st M = EE 171 326 [some (.ref x), l1, l2, l3] (.ref x :: st) M := e_ld d171_325 rfl rfl rfl rfl rfl rfl
theorem d171_326 : decode (cod 171) 326 = .ok (.iload_n 3, 1) := by decide +kernel
theorem s171_326 {M : Mm} {st : List Value} {l0 l1 l2 : Option Value} {x : Int32} : EE 171 326 [l0, l1, l2, some (.int x)] st M = EE 171 327 [l0, l1, l2, some (.int x)] (.int x :: st) M := e_ld d171_326 rfl rfl rfl rfl rfl rfl
theorem d171_327 : decode (cod 171) 327 = .ok (.iconst 3, 1) := by decide +kernel
theorem s171_327 {M : Mm} {st : List Value} {l0 l1 l2 l3 : Option Value} : EE 171 327 [l0, l1, l2, l3] st M = EE 171 328 [l0, l1, l2, l3] (.int (nI 3) :: st) M := e_con d171_327 k_con_3
theorem d171_328 : decode (cod 171) 328 = .ok (.iadd, 1) := by decide +kernel
theorem s171_328 {M : Mm} {st : List Value} {l0 l1 l2 l3 : Option Value} {x y : Int32} : EE 171 328 [l0, l1, l2, l3] (.int y :: .int x :: st) M = EE 171 329 [l0, l1, l2, l3] (.int (x + y) :: st) M := e_II d171_328 rfl rfl rfl rfl rfl rfl
theorem d171_329 : decode (cod 171) 329 = .ok (.iaload, 1) := by decide +kernel
theorem s171_329 {n : Nat} {I : Nat → Nat → Int32} {R : Nat → Nat → Option Nat} {st : List Value} {l0 l1 l2 l3 : Option Value} {j : Int32} {a : Nat} : EE 171 329 [l0, l1, l2, l3] (.int j :: .ref a :: st) (n, I, R) = (ardI 5 n I a j).bind (fun z => EE 171 330 [l0, l1, l2, l3] (.int z :: st) (n, I, R)) := e_iald d171_329
theorem d171_330 : decode (cod 171) 330 = .ok (.invokevirtual 40, 3) := by decide +kernel
theorem s171_330 {l0 l1 l2 l3 : Option Value} {a : Nat} {M : Mm} {b0 : Int32} {b1 : Int32} {b2 : Int32} {st : List Value} (hl : st.length ≤ 4) (ho : isO "HandoverDesk" M.1 a = true) : EE 171 330 [l0, l1, l2, l3] (.int b2 :: .int b1 :: .int b0 :: .ref a :: st) M = (FF 55 (.ref a :: [.int b0, .int b1, .int b2]) M).bind (fun z => EE 171 333 [l0, l1, l2, l3] (psh z.1 st) z.2) := e_calv (av := [.int b0, .int b1, .int b2]) d171_330 c4_40 rfl rfl rfl r171_55 rfl hl ho
theorem d171_333 : decode (cod 171) 333 = .ok (.aload_n 2, 1) := by decide +kernel
theorem s171_333 {M : Mm} {st : List Value} {l0 l1 l3 : Option Value} {x : Nat} : EE 171 333 [l0, l1, some (.ref x), l3] st M = EE 171 334 [l0, l1, some (.ref x), l3] (.ref x :: st) M := e_ld d171_333 rfl rfl rfl rfl rfl rfl
theorem d171_334 : decode (cod 171) 334 = .ok (.aload_n 0, 1) := by decide +kernel
theorem s171_334 {M : Mm} {st : List Value} {l1 l2 l3 : Option Value} {x : Nat} : EE 171 334 [some (.ref x), l1, l2, l3] st M = EE 171 335 [some (.ref x), l1, l2, l3] (.ref x :: st) M := e_ld d171_334 rfl rfl rfl rfl rfl rfl
theorem d171_335 : decode (cod 171) 335 = .ok (.iload_n 3, 1) := by decide +kernel
theorem s171_335 {M : Mm} {st : List Value} {l0 l1 l2 : Option Value} {x : Int32} : EE 171 335 [l0, l1, l2, some (.int x)] st M = EE 171 336 [l0, l1, l2, some (.int x)] (.int x :: st) M := e_ld d171_335 rfl rfl rfl rfl rfl rfl
theorem d171_336 : decode (cod 171) 336 = .ok (.iconst 1, 1) := by decide +kernel
theorem s171_336 {M : Mm} {st : List Value} {l0 l1 l2 l3 : Option Value} : EE 171 336 [l0, l1, l2, l3] st M = EE 171 337 [l0, l1, l2, l3] (.int (nI 1) :: st) M := e_con d171_336 k_con_1
theorem d171_337 : decode (cod 171) 337 = .ok (.iadd, 1) := by decide +kernel
theorem s171_337 {M : Mm} {st : List Value} {l0 l1 l2 l3 : Option Value} {x y : Int32} : EE 171 337 [l0, l1, l2, l3] (.int y :: .int x :: st) M = EE 171 338 [l0, l1, l2, l3] (.int (x + y) :: st) M := e_II d171_337 rfl rfl rfl rfl rfl rfl
theorem d171_338 : decode (cod 171) 338 = .ok (.iaload, 1) := by decide +kernel
theorem s171_338 {n : Nat} {I : Nat → Nat → Int32} {R : Nat → Nat → Option Nat} {st : List Value} {l0 l1 l2 l3 : Option Value} {j : Int32} {a : Nat} : EE 171 338 [l0, l1, l2, l3] (.int j :: .ref a :: st) (n, I, R) = (ardI 5 n I a j).bind (fun z => EE 171 339 [l0, l1, l2, l3] (.int z :: st) (n, I, R)) := e_iald d171_338
theorem d171_339 : decode (cod 171) 339 = .ok (.aload_n 0, 1) := by decide +kernel
theorem s171_339 {M : Mm} {st : List Value} {l1 l2 l3 : Option Value} {x : Nat} : EE 171 339 [some (.ref x), l1, l2, l3] st M = EE 171 340 [some (.ref x), l1, l2, l3] (.ref x :: st) M := e_ld d171_339 rfl rfl rfl rfl rfl rfl
theorem d171_340 : decode (cod 171) 340 = .ok (.iload_n 3, 1) := by decide +kernel
theorem s171_340 {M : Mm} {st : List Value} {l0 l1 l2 : Option Value} {x : Int32} : EE 171 340 [l0, l1, l2, some (.int x)] st M = EE 171 341 [l0, l1, l2, some (.int x)] (.int x :: st) M := e_ld d171_340 rfl rfl rfl rfl rfl rfl
theorem d171_341 : decode (cod 171) 341 = .ok (.iconst 2, 1) := by decide +kernel
theorem s171_341 {M : Mm} {st : List Value} {l0 l1 l2 l3 : Option Value} : EE 171 341 [l0, l1, l2, l3] st M = EE 171 342 [l0, l1, l2, l3] (.int (nI 2) :: st) M := e_con d171_341 k_con_2
theorem d171_342 : decode (cod 171) 342 = .ok (.iadd, 1) := by decide +kernel
theorem s171_342 {M : Mm} {st : List Value} {l0 l1 l2 l3 : Option Value} {x y : Int32} : EE 171 342 [l0, l1, l2, l3] (.int y :: .int x :: st) M = EE 171 343 [l0, l1, l2, l3] (.int (x + y) :: st) M := e_II d171_342 rfl rfl rfl rfl rfl rfl
theorem d171_343 : decode (cod 171) 343 = .ok (.iaload, 1) := by decide +kernel
theorem s171_343 {n : Nat} {I : Nat → Nat → Int32} {R : Nat → Nat → Option Nat} {st : List Value} {l0 l1 l2 l3 : Option Value} {j : Int32} {a : Nat} : EE 171 343 [l0, l1, l2, l3] (.int j :: .ref a :: st) (n, I, R) = (ardI 5 n I a j).bind (fun z => EE 171 344 [l0, l1, l2, l3] (.int z :: st) (n, I, R)) := e_iald d171_343
theorem d171_344 : decode (cod 171) 344 = .ok (.aload_n 0, 1) := by decide +kernel
theorem s171_344 {M : Mm} {st : List Value} {l1 l2 l3 : Option Value} {x : Nat} : EE 171 344 [some (.ref x), l1, l2, l3] st M = EE 171 345 [some (.ref x), l1, l2, l3] (.ref x :: st) M := e_ld d171_344 rfl rfl rfl rfl rfl rfl
theorem d171_345 : decode (cod 171) 345 = .ok (.iload_n 3, 1) := by decide +kernel
theorem s171_345 {M : Mm} {st : List Value} {l0 l1 l2 : Option Value} {x : Int32} : EE 171 345 [l0, l1, l2, some (.int x)] st M = EE 171 346 [l0, l1, l2, some (.int x)] (.int x :: st) M := e_ld d171_345 rfl rfl rfl rfl rfl rfl
theorem d171_346 : decode (cod 171) 346 = .ok (.iconst 3, 1) := by decide +kernel
theorem s171_346 {M : Mm} {st : List Value} {l0 l1 l2 l3 : Option Value} : EE 171 346 [l0, l1, l2, l3] st M = EE 171 347 [l0, l1, l2, l3] (.int (nI 3) :: st) M := e_con d171_346 k_con_3
theorem d171_347 : decode (cod 171) 347 = .ok (.iadd, 1) := by decide +kernel
theorem s171_347 {M : Mm} {st : List Value} {l0 l1 l2 l3 : Option Value} {x y : Int32} : EE 171 347 [l0, l1, l2, l3] (.int y :: .int x :: st) M = EE 171 348 [l0, l1, l2, l3] (.int (x + y) :: st) M := e_II d171_347 rfl rfl rfl rfl rfl rfl
theorem d171_348 : decode (cod 171) 348 = .ok (.iaload, 1) := by decide +kernel
theorem s171_348 {n : Nat} {I : Nat → Nat → Int32} {R : Nat → Nat → Option Nat} {st : List Value} {l0 l1 l2 l3 : Option Value} {j : Int32} {a : Nat} : EE 171 348 [l0, l1, l2, l3] (.int j :: .ref a :: st) (n, I, R) = (ardI 5 n I a j).bind (fun z => EE 171 349 [l0, l1, l2, l3] (.int z :: st) (n, I, R)) := e_iald d171_348
theorem d171_349 : decode (cod 171) 349 = .ok (.invokevirtual 44, 3) := by decide +kernel
theorem s171_349 {l0 l1 l2 l3 : Option Value} {a : Nat} {M : Mm} {b0 : Int32} {b1 : Int32} {b2 : Int32} {st : List Value} (hl : st.length ≤ 4) (ho : isO "HandoverDeskModel" M.1 a = true) : EE 171 349 [l0, l1, l2, l3] (.int b2 :: .int b1 :: .int b0 :: .ref a :: st) M = (FF 104 (.ref a :: [.int b0, .int b1, .int b2]) M).bind (fun z => EE 171 352 [l0, l1, l2, l3] (psh z.1 st) z.2) := e_calv (av := [.int b0, .int b1, .int b2]) d171_349 c4_44 rfl rfl rfl r171_104 rfl hl ho
theorem d171_352 : decode (cod 171) 352 = .ok (.if_icmp .eq 466, 3) := by decide +kernel
theorem s171_352 {M : Mm} {st : List Value} {l0 l1 l2 l3 : Option Value} {x y : Int32} : EE 171 352 [l0, l1, l2, l3] (.int y :: .int x :: st) M = if x = y then EE 171 818 [l0, l1, l2, l3] st M else EE 171 355 [l0, l1, l2, l3] st M := e_ceq d171_352 (by decide)
theorem d171_355 : decode (cod 171) 355 = .ok (.iconst 0, 1) := by decide +kernel
theorem s171_355 {M : Mm} {st : List Value} {l0 l1 l2 l3 : Option Value} : EE 171 355 [l0, l1, l2, l3] st M = EE 171 356 [l0, l1, l2, l3] (.int (nI 0) :: st) M := e_con d171_355 k_con_0
theorem d171_356 : decode (cod 171) 356 = .ok (.ireturn, 1) := by decide +kernel
theorem s171_356 {M : Mm} {l0 l1 l2 l3 : Option Value} {v : Int32} (h : narrow .boolean (.int v) = .int v) : EE 171 356 [l0, l1, l2, l3] [.int v] M = some (some (.int v), M) := e_iret d171_356 rfl h
theorem d171_357 : decode (cod 171) 357 = .ok (.aload_n 1, 1) := by decide +kernel
theorem s171_357 {M : Mm} {st : List Value} {l0 l2 l3 : Option Value} {x : Nat} : EE 171 357 [l0, some (.ref x), l2, l3] st M = EE 171 358 [l0, some (.ref x), l2, l3] (.ref x :: st) M := e_ld d171_357 rfl rfl rfl rfl rfl rfl
theorem d171_358 : decode (cod 171) 358 = .ok (.aload_n 0, 1) := by decide +kernel
theorem s171_358 {M : Mm} {st : List Value} {l1 l2 l3 : Option Value} {x : Nat} : EE 171 358 [some (.ref x), l1, l2, l3] st M = EE 171 359 [some (.ref x), l1, l2, l3] (.ref x :: st) M := e_ld d171_358 rfl rfl rfl rfl rfl rfl
theorem d171_359 : decode (cod 171) 359 = .ok (.iload_n 3, 1) := by decide +kernel
theorem s171_359 {M : Mm} {st : List Value} {l0 l1 l2 : Option Value} {x : Int32} : EE 171 359 [l0, l1, l2, some (.int x)] st M = EE 171 360 [l0, l1, l2, some (.int x)] (.int x :: st) M := e_ld d171_359 rfl rfl rfl rfl rfl rfl
theorem d171_360 : decode (cod 171) 360 = .ok (.iconst 1, 1) := by decide +kernel
theorem s171_360 {M : Mm} {st : List Value} {l0 l1 l2 l3 : Option Value} : EE 171 360 [l0, l1, l2, l3] st M = EE 171 361 [l0, l1, l2, l3] (.int (nI 1) :: st) M := e_con d171_360 k_con_1
theorem d171_361 : decode (cod 171) 361 = .ok (.iadd, 1) := by decide +kernel
theorem s171_361 {M : Mm} {st : List Value} {l0 l1 l2 l3 : Option Value} {x y : Int32} : EE 171 361 [l0, l1, l2, l3] (.int y :: .int x :: st) M = EE 171 362 [l0, l1, l2, l3] (.int (x + y) :: st) M := e_II d171_361 rfl rfl rfl rfl rfl rfl
theorem d171_362 : decode (cod 171) 362 = .ok (.iaload, 1) := by decide +kernel
theorem s171_362 {n : Nat} {I : Nat → Nat → Int32} {R : Nat → Nat → Option Nat} {st : List Value} {l0 l1 l2 l3 : Option Value} {j : Int32} {a : Nat} : EE 171 362 [l0, l1, l2, l3] (.int j :: .ref a :: st) (n, I, R) = (ardI 5 n I a j).bind (fun z => EE 171 363 [l0, l1, l2, l3] (.int z :: st) (n, I, R)) := e_iald d171_362
theorem d171_363 : decode (cod 171) 363 = .ok (.invokevirtual 45, 3) := by decide +kernel
theorem s171_363 {l0 l1 l2 l3 : Option Value} {a : Nat} {M : Mm} {b0 : Int32} {st : List Value} (hl : st.length ≤ 4) (ho : isO "HandoverDesk" M.1 a = true) : EE 171 363 [l0, l1, l2, l3] (.int b0 :: .ref a :: st) M = (FF 56 (.ref a :: [.int b0]) M).bind (fun z => EE 171 366 [l0, l1, l2, l3] (psh z.1 st) z.2) := e_calv (av := [.int b0]) d171_363 c4_45 rfl rfl rfl r171_56 rfl hl ho
theorem d171_366 : decode (cod 171) 366 = .ok (.aload_n 2, 1) := by decide +kernel
theorem s171_366 {M : Mm} {st : List Value} {l0 l1 l3 : Option Value} {x : Nat} : EE 171 366 [l0, l1, some (.ref x), l3] st M = EE 171 367 [l0, l1, some (.ref x), l3] (.ref x :: st) M := e_ld d171_366 rfl rfl rfl rfl rfl rfl
theorem d171_367 : decode (cod 171) 367 = .ok (.aload_n 0, 1) := by decide +kernel
theorem s171_367 {M : Mm} {st : List Value} {l1 l2 l3 : Option Value} {x : Nat} : EE 171 367 [some (.ref x), l1, l2, l3] st M = EE 171 368 [some (.ref x), l1, l2, l3] (.ref x :: st) M := e_ld d171_367 rfl rfl rfl rfl rfl rfl
theorem d171_368 : decode (cod 171) 368 = .ok (.iload_n 3, 1) := by decide +kernel
theorem s171_368 {M : Mm} {st : List Value} {l0 l1 l2 : Option Value} {x : Int32} : EE 171 368 [l0, l1, l2, some (.int x)] st M = EE 171 369 [l0, l1, l2, some (.int x)] (.int x :: st) M := e_ld d171_368 rfl rfl rfl rfl rfl rfl
theorem d171_369 : decode (cod 171) 369 = .ok (.iconst 1, 1) := by decide +kernel
theorem s171_369 {M : Mm} {st : List Value} {l0 l1 l2 l3 : Option Value} : EE 171 369 [l0, l1, l2, l3] st M = EE 171 370 [l0, l1, l2, l3] (.int (nI 1) :: st) M := e_con d171_369 k_con_1
theorem d171_370 : decode (cod 171) 370 = .ok (.iadd, 1) := by decide +kernel
theorem s171_370 {M : Mm} {st : List Value} {l0 l1 l2 l3 : Option Value} {x y : Int32} : EE 171 370 [l0, l1, l2, l3] (.int y :: .int x :: st) M = EE 171 371 [l0, l1, l2, l3] (.int (x + y) :: st) M := e_II d171_370 rfl rfl rfl rfl rfl rfl
theorem d171_371 : decode (cod 171) 371 = .ok (.iaload, 1) := by decide +kernel
theorem s171_371 {n : Nat} {I : Nat → Nat → Int32} {R : Nat → Nat → Option Nat} {st : List Value} {l0 l1 l2 l3 : Option Value} {j : Int32} {a : Nat} : EE 171 371 [l0, l1, l2, l3] (.int j :: .ref a :: st) (n, I, R) = (ardI 5 n I a j).bind (fun z => EE 171 372 [l0, l1, l2, l3] (.int z :: st) (n, I, R)) := e_iald d171_371
theorem d171_372 : decode (cod 171) 372 = .ok (.invokevirtual 48, 3) := by decide +kernel
theorem s171_372 {l0 l1 l2 l3 : Option Value} {a : Nat} {M : Mm} {b0 : Int32} {st : List Value} (hl : st.length ≤ 4) (ho : isO "HandoverDeskModel" M.1 a = true) : EE 171 372 [l0, l1, l2, l3] (.int b0 :: .ref a :: st) M = (FF 109 (.ref a :: [.int b0]) M).bind (fun z => EE 171 375 [l0, l1, l2, l3] (psh z.1 st) z.2) := e_calv (av := [.int b0]) d171_372 c4_48 rfl rfl rfl r171_109 rfl hl ho
theorem d171_375 : decode (cod 171) 375 = .ok (.if_icmp .eq 443, 3) := by decide +kernel
theorem s171_375 {M : Mm} {st : List Value} {l0 l1 l2 l3 : Option Value} {x y : Int32} : EE 171 375 [l0, l1, l2, l3] (.int y :: .int x :: st) M = if x = y then EE 171 818 [l0, l1, l2, l3] st M else EE 171 378 [l0, l1, l2, l3] st M := e_ceq d171_375 (by decide)
theorem d171_378 : decode (cod 171) 378 = .ok (.iconst 0, 1) := by decide +kernel
theorem s171_378 {M : Mm} {st : List Value} {l0 l1 l2 l3 : Option Value} : EE 171 378 [l0, l1, l2, l3] st M = EE 171 379 [l0, l1, l2, l3] (.int (nI 0) :: st) M := e_con d171_378 k_con_0
theorem d171_379 : decode (cod 171) 379 = .ok (.ireturn, 1) := by decide +kernel
theorem s171_379 {M : Mm} {l0 l1 l2 l3 : Option Value} {v : Int32} (h : narrow .boolean (.int v) = .int v) : EE 171 379 [l0, l1, l2, l3] [.int v] M = some (some (.int v), M) := e_iret d171_379 rfl h
theorem d171_380 : decode (cod 171) 380 = .ok (.aload_n 1, 1) := by decide +kernel
theorem s171_380 {M : Mm} {st : List Value} {l0 l2 l3 : Option Value} {x : Nat} : EE 171 380 [l0, some (.ref x), l2, l3] st M = EE 171 381 [l0, some (.ref x), l2, l3] (.ref x :: st) M := e_ld d171_380 rfl rfl rfl rfl rfl rfl
theorem d171_381 : decode (cod 171) 381 = .ok (.invokevirtual 49, 3) := by decide +kernel
theorem s171_381 {l0 l1 l2 l3 : Option Value} {a : Nat} {M : Mm} {st : List Value} (hl : st.length ≤ 4) (ho : isO "HandoverDesk" M.1 a = true) : EE 171 381 [l0, l1, l2, l3] (.ref a :: st) M = (FF 57 (.ref a :: []) M).bind (fun z => EE 171 384 [l0, l1, l2, l3] (psh z.1 st) z.2) := e_calv (av := []) d171_381 c4_49 rfl rfl rfl r171_57 rfl hl ho
theorem d171_384 : decode (cod 171) 384 = .ok (.aload_n 2, 1) := by decide +kernel
theorem s171_384 {M : Mm} {st : List Value} {l0 l1 l3 : Option Value} {x : Nat} : EE 171 384 [l0, l1, some (.ref x), l3] st M = EE 171 385 [l0, l1, some (.ref x), l3] (.ref x :: st) M := e_ld d171_384 rfl rfl rfl rfl rfl rfl
theorem d171_385 : decode (cod 171) 385 = .ok (.invokevirtual 52, 3) := by decide +kernel
theorem s171_385 {l0 l1 l2 l3 : Option Value} {a : Nat} {M : Mm} {st : List Value} (hl : st.length ≤ 4) (ho : isO "HandoverDeskModel" M.1 a = true) : EE 171 385 [l0, l1, l2, l3] (.ref a :: st) M = (FF 114 (.ref a :: []) M).bind (fun z => EE 171 388 [l0, l1, l2, l3] (psh z.1 st) z.2) := e_calv (av := []) d171_385 c4_52 rfl rfl rfl r171_114 rfl hl ho
theorem d171_388 : decode (cod 171) 388 = .ok (.if_icmp .eq 430, 3) := by decide +kernel
theorem s171_388 {M : Mm} {st : List Value} {l0 l1 l2 l3 : Option Value} {x y : Int32} : EE 171 388 [l0, l1, l2, l3] (.int y :: .int x :: st) M = if x = y then EE 171 818 [l0, l1, l2, l3] st M else EE 171 391 [l0, l1, l2, l3] st M := e_ceq d171_388 (by decide)
theorem d171_391 : decode (cod 171) 391 = .ok (.iconst 0, 1) := by decide +kernel
theorem s171_391 {M : Mm} {st : List Value} {l0 l1 l2 l3 : Option Value} : EE 171 391 [l0, l1, l2, l3] st M = EE 171 392 [l0, l1, l2, l3] (.int (nI 0) :: st) M := e_con d171_391 k_con_0
theorem d171_392 : decode (cod 171) 392 = .ok (.ireturn, 1) := by decide +kernel
theorem s171_392 {M : Mm} {l0 l1 l2 l3 : Option Value} {v : Int32} (h : narrow .boolean (.int v) = .int v) : EE 171 392 [l0, l1, l2, l3] [.int v] M = some (some (.int v), M) := e_iret d171_392 rfl h
theorem d171_393 : decode (cod 171) 393 = .ok (.aload_n 1, 1) := by decide +kernel
theorem s171_393 {M : Mm} {st : List Value} {l0 l2 l3 : Option Value} {x : Nat} : EE 171 393 [l0, some (.ref x), l2, l3] st M = EE 171 394 [l0, some (.ref x), l2, l3] (.ref x :: st) M := e_ld d171_393 rfl rfl rfl rfl rfl rfl
theorem d171_394 : decode (cod 171) 394 = .ok (.aload_n 0, 1) := by decide +kernel
theorem s171_394 {M : Mm} {st : List Value} {l1 l2 l3 : Option Value} {x : Nat} : EE 171 394 [some (.ref x), l1, l2, l3] st M = EE 171 395 [some (.ref x), l1, l2, l3] (.ref x :: st) M := e_ld d171_394 rfl rfl rfl rfl rfl rfl
theorem d171_395 : decode (cod 171) 395 = .ok (.iload_n 3, 1) := by decide +kernel
theorem s171_395 {M : Mm} {st : List Value} {l0 l1 l2 : Option Value} {x : Int32} : EE 171 395 [l0, l1, l2, some (.int x)] st M = EE 171 396 [l0, l1, l2, some (.int x)] (.int x :: st) M := e_ld d171_395 rfl rfl rfl rfl rfl rfl
theorem d171_396 : decode (cod 171) 396 = .ok (.iconst 1, 1) := by decide +kernel
theorem s171_396 {M : Mm} {st : List Value} {l0 l1 l2 l3 : Option Value} : EE 171 396 [l0, l1, l2, l3] st M = EE 171 397 [l0, l1, l2, l3] (.int (nI 1) :: st) M := e_con d171_396 k_con_1
theorem d171_397 : decode (cod 171) 397 = .ok (.iadd, 1) := by decide +kernel
theorem s171_397 {M : Mm} {st : List Value} {l0 l1 l2 l3 : Option Value} {x y : Int32} : EE 171 397 [l0, l1, l2, l3] (.int y :: .int x :: st) M = EE 171 398 [l0, l1, l2, l3] (.int (x + y) :: st) M := e_II d171_397 rfl rfl rfl rfl rfl rfl
theorem d171_398 : decode (cod 171) 398 = .ok (.iaload, 1) := by decide +kernel
theorem s171_398 {n : Nat} {I : Nat → Nat → Int32} {R : Nat → Nat → Option Nat} {st : List Value} {l0 l1 l2 l3 : Option Value} {j : Int32} {a : Nat} : EE 171 398 [l0, l1, l2, l3] (.int j :: .ref a :: st) (n, I, R) = (ardI 5 n I a j).bind (fun z => EE 171 399 [l0, l1, l2, l3] (.int z :: st) (n, I, R)) := e_iald d171_398
theorem d171_399 : decode (cod 171) 399 = .ok (.aload_n 0, 1) := by decide +kernel
theorem s171_399 {M : Mm} {st : List Value} {l1 l2 l3 : Option Value} {x : Nat} : EE 171 399 [some (.ref x), l1, l2, l3] st M = EE 171 400 [some (.ref x), l1, l2, l3] (.ref x :: st) M := e_ld d171_399 rfl rfl rfl rfl rfl rfl
theorem d171_400 : decode (cod 171) 400 = .ok (.iload_n 3, 1) := by decide +kernel
theorem s171_400 {M : Mm} {st : List Value} {l0 l1 l2 : Option Value} {x : Int32} : EE 171 400 [l0, l1, l2, some (.int x)] st M = EE 171 401 [l0, l1, l2, some (.int x)] (.int x :: st) M := e_ld d171_400 rfl rfl rfl rfl rfl rfl
theorem d171_401 : decode (cod 171) 401 = .ok (.iconst 2, 1) := by decide +kernel
theorem s171_401 {M : Mm} {st : List Value} {l0 l1 l2 l3 : Option Value} : EE 171 401 [l0, l1, l2, l3] st M = EE 171 402 [l0, l1, l2, l3] (.int (nI 2) :: st) M := e_con d171_401 k_con_2
theorem d171_402 : decode (cod 171) 402 = .ok (.iadd, 1) := by decide +kernel
theorem s171_402 {M : Mm} {st : List Value} {l0 l1 l2 l3 : Option Value} {x y : Int32} : EE 171 402 [l0, l1, l2, l3] (.int y :: .int x :: st) M = EE 171 403 [l0, l1, l2, l3] (.int (x + y) :: st) M := e_II d171_402 rfl rfl rfl rfl rfl rfl
theorem d171_403 : decode (cod 171) 403 = .ok (.iaload, 1) := by decide +kernel
theorem s171_403 {n : Nat} {I : Nat → Nat → Int32} {R : Nat → Nat → Option Nat} {st : List Value} {l0 l1 l2 l3 : Option Value} {j : Int32} {a : Nat} : EE 171 403 [l0, l1, l2, l3] (.int j :: .ref a :: st) (n, I, R) = (ardI 5 n I a j).bind (fun z => EE 171 404 [l0, l1, l2, l3] (.int z :: st) (n, I, R)) := e_iald d171_403
theorem d171_404 : decode (cod 171) 404 = .ok (.invokevirtual 53, 3) := by decide +kernel
theorem s171_404 {l0 l1 l2 l3 : Option Value} {a : Nat} {M : Mm} {b0 : Int32} {b1 : Int32} {st : List Value} (hl : st.length ≤ 4) (ho : isO "HandoverDesk" M.1 a = true) : EE 171 404 [l0, l1, l2, l3] (.int b1 :: .int b0 :: .ref a :: st) M = (FF 58 (.ref a :: [.int b0, .int b1]) M).bind (fun z => EE 171 407 [l0, l1, l2, l3] (psh z.1 st) z.2) := e_calv (av := [.int b0, .int b1]) d171_404 c4_53 rfl rfl rfl r171_58 rfl hl ho
theorem d171_407 : decode (cod 171) 407 = .ok (.aload_n 2, 1) := by decide +kernel
theorem s171_407 {M : Mm} {st : List Value} {l0 l1 l3 : Option Value} {x : Nat} : EE 171 407 [l0, l1, some (.ref x), l3] st M = EE 171 408 [l0, l1, some (.ref x), l3] (.ref x :: st) M := e_ld d171_407 rfl rfl rfl rfl rfl rfl
theorem d171_408 : decode (cod 171) 408 = .ok (.aload_n 0, 1) := by decide +kernel
theorem s171_408 {M : Mm} {st : List Value} {l1 l2 l3 : Option Value} {x : Nat} : EE 171 408 [some (.ref x), l1, l2, l3] st M = EE 171 409 [some (.ref x), l1, l2, l3] (.ref x :: st) M := e_ld d171_408 rfl rfl rfl rfl rfl rfl
theorem d171_409 : decode (cod 171) 409 = .ok (.iload_n 3, 1) := by decide +kernel
theorem s171_409 {M : Mm} {st : List Value} {l0 l1 l2 : Option Value} {x : Int32} : EE 171 409 [l0, l1, l2, some (.int x)] st M = EE 171 410 [l0, l1, l2, some (.int x)] (.int x :: st) M := e_ld d171_409 rfl rfl rfl rfl rfl rfl
theorem d171_410 : decode (cod 171) 410 = .ok (.iconst 1, 1) := by decide +kernel
theorem s171_410 {M : Mm} {st : List Value} {l0 l1 l2 l3 : Option Value} : EE 171 410 [l0, l1, l2, l3] st M = EE 171 411 [l0, l1, l2, l3] (.int (nI 1) :: st) M := e_con d171_410 k_con_1
theorem d171_411 : decode (cod 171) 411 = .ok (.iadd, 1) := by decide +kernel
theorem s171_411 {M : Mm} {st : List Value} {l0 l1 l2 l3 : Option Value} {x y : Int32} : EE 171 411 [l0, l1, l2, l3] (.int y :: .int x :: st) M = EE 171 412 [l0, l1, l2, l3] (.int (x + y) :: st) M := e_II d171_411 rfl rfl rfl rfl rfl rfl
theorem d171_412 : decode (cod 171) 412 = .ok (.iaload, 1) := by decide +kernel
theorem s171_412 {n : Nat} {I : Nat → Nat → Int32} {R : Nat → Nat → Option Nat} {st : List Value} {l0 l1 l2 l3 : Option Value} {j : Int32} {a : Nat} : EE 171 412 [l0, l1, l2, l3] (.int j :: .ref a :: st) (n, I, R) = (ardI 5 n I a j).bind (fun z => EE 171 413 [l0, l1, l2, l3] (.int z :: st) (n, I, R)) := e_iald d171_412
theorem d171_413 : decode (cod 171) 413 = .ok (.aload_n 0, 1) := by decide +kernel
theorem s171_413 {M : Mm} {st : List Value} {l1 l2 l3 : Option Value} {x : Nat} : EE 171 413 [some (.ref x), l1, l2, l3] st M = EE 171 414 [some (.ref x), l1, l2, l3] (.ref x :: st) M := e_ld d171_413 rfl rfl rfl rfl rfl rfl
theorem d171_414 : decode (cod 171) 414 = .ok (.iload_n 3, 1) := by decide +kernel
theorem s171_414 {M : Mm} {st : List Value} {l0 l1 l2 : Option Value} {x : Int32} : EE 171 414 [l0, l1, l2, some (.int x)] st M = EE 171 415 [l0, l1, l2, some (.int x)] (.int x :: st) M := e_ld d171_414 rfl rfl rfl rfl rfl rfl
theorem d171_415 : decode (cod 171) 415 = .ok (.iconst 2, 1) := by decide +kernel
theorem s171_415 {M : Mm} {st : List Value} {l0 l1 l2 l3 : Option Value} : EE 171 415 [l0, l1, l2, l3] st M = EE 171 416 [l0, l1, l2, l3] (.int (nI 2) :: st) M := e_con d171_415 k_con_2
theorem d171_416 : decode (cod 171) 416 = .ok (.iadd, 1) := by decide +kernel
theorem s171_416 {M : Mm} {st : List Value} {l0 l1 l2 l3 : Option Value} {x y : Int32} : EE 171 416 [l0, l1, l2, l3] (.int y :: .int x :: st) M = EE 171 417 [l0, l1, l2, l3] (.int (x + y) :: st) M := e_II d171_416 rfl rfl rfl rfl rfl rfl
theorem d171_417 : decode (cod 171) 417 = .ok (.iaload, 1) := by decide +kernel
theorem s171_417 {n : Nat} {I : Nat → Nat → Int32} {R : Nat → Nat → Option Nat} {st : List Value} {l0 l1 l2 l3 : Option Value} {j : Int32} {a : Nat} : EE 171 417 [l0, l1, l2, l3] (.int j :: .ref a :: st) (n, I, R) = (ardI 5 n I a j).bind (fun z => EE 171 418 [l0, l1, l2, l3] (.int z :: st) (n, I, R)) := e_iald d171_417
theorem d171_418 : decode (cod 171) 418 = .ok (.invokevirtual 56, 3) := by decide +kernel
theorem s171_418 {l0 l1 l2 l3 : Option Value} {a : Nat} {M : Mm} {b0 : Int32} {b1 : Int32} {st : List Value} (hl : st.length ≤ 4) (ho : isO "HandoverDeskModel" M.1 a = true) : EE 171 418 [l0, l1, l2, l3] (.int b1 :: .int b0 :: .ref a :: st) M = (FF 121 (.ref a :: [.int b0, .int b1]) M).bind (fun z => EE 171 421 [l0, l1, l2, l3] (psh z.1 st) z.2) := e_calv (av := [.int b0, .int b1]) d171_418 c4_56 rfl rfl rfl r171_121 rfl hl ho
theorem d171_421 : decode (cod 171) 421 = .ok (.if_icmp .eq 397, 3) := by decide +kernel
theorem s171_421 {M : Mm} {st : List Value} {l0 l1 l2 l3 : Option Value} {x y : Int32} : EE 171 421 [l0, l1, l2, l3] (.int y :: .int x :: st) M = if x = y then EE 171 818 [l0, l1, l2, l3] st M else EE 171 424 [l0, l1, l2, l3] st M := e_ceq d171_421 (by decide)
theorem d171_424 : decode (cod 171) 424 = .ok (.iconst 0, 1) := by decide +kernel
theorem s171_424 {M : Mm} {st : List Value} {l0 l1 l2 l3 : Option Value} : EE 171 424 [l0, l1, l2, l3] st M = EE 171 425 [l0, l1, l2, l3] (.int (nI 0) :: st) M := e_con d171_424 k_con_0
theorem d171_425 : decode (cod 171) 425 = .ok (.ireturn, 1) := by decide +kernel
theorem s171_425 {M : Mm} {l0 l1 l2 l3 : Option Value} {v : Int32} (h : narrow .boolean (.int v) = .int v) : EE 171 425 [l0, l1, l2, l3] [.int v] M = some (some (.int v), M) := e_iret d171_425 rfl h
theorem d171_426 : decode (cod 171) 426 = .ok (.aload_n 1, 1) := by decide +kernel
theorem s171_426 {M : Mm} {st : List Value} {l0 l2 l3 : Option Value} {x : Nat} : EE 171 426 [l0, some (.ref x), l2, l3] st M = EE 171 427 [l0, some (.ref x), l2, l3] (.ref x :: st) M := e_ld d171_426 rfl rfl rfl rfl rfl rfl
theorem d171_427 : decode (cod 171) 427 = .ok (.aload_n 0, 1) := by decide +kernel
theorem s171_427 {M : Mm} {st : List Value} {l1 l2 l3 : Option Value} {x : Nat} : EE 171 427 [some (.ref x), l1, l2, l3] st M = EE 171 428 [some (.ref x), l1, l2, l3] (.ref x :: st) M := e_ld d171_427 rfl rfl rfl rfl rfl rfl
theorem d171_428 : decode (cod 171) 428 = .ok (.iload_n 3, 1) := by decide +kernel
theorem s171_428 {M : Mm} {st : List Value} {l0 l1 l2 : Option Value} {x : Int32} : EE 171 428 [l0, l1, l2, some (.int x)] st M = EE 171 429 [l0, l1, l2, some (.int x)] (.int x :: st) M := e_ld d171_428 rfl rfl rfl rfl rfl rfl
theorem d171_429 : decode (cod 171) 429 = .ok (.iconst 1, 1) := by decide +kernel
theorem s171_429 {M : Mm} {st : List Value} {l0 l1 l2 l3 : Option Value} : EE 171 429 [l0, l1, l2, l3] st M = EE 171 430 [l0, l1, l2, l3] (.int (nI 1) :: st) M := e_con d171_429 k_con_1
theorem d171_430 : decode (cod 171) 430 = .ok (.iadd, 1) := by decide +kernel
theorem s171_430 {M : Mm} {st : List Value} {l0 l1 l2 l3 : Option Value} {x y : Int32} : EE 171 430 [l0, l1, l2, l3] (.int y :: .int x :: st) M = EE 171 431 [l0, l1, l2, l3] (.int (x + y) :: st) M := e_II d171_430 rfl rfl rfl rfl rfl rfl
theorem d171_431 : decode (cod 171) 431 = .ok (.iaload, 1) := by decide +kernel
theorem s171_431 {n : Nat} {I : Nat → Nat → Int32} {R : Nat → Nat → Option Nat} {st : List Value} {l0 l1 l2 l3 : Option Value} {j : Int32} {a : Nat} : EE 171 431 [l0, l1, l2, l3] (.int j :: .ref a :: st) (n, I, R) = (ardI 5 n I a j).bind (fun z => EE 171 432 [l0, l1, l2, l3] (.int z :: st) (n, I, R)) := e_iald d171_431
theorem d171_432 : decode (cod 171) 432 = .ok (.aload_n 0, 1) := by decide +kernel
theorem s171_432 {M : Mm} {st : List Value} {l1 l2 l3 : Option Value} {x : Nat} : EE 171 432 [some (.ref x), l1, l2, l3] st M = EE 171 433 [some (.ref x), l1, l2, l3] (.ref x :: st) M := e_ld d171_432 rfl rfl rfl rfl rfl rfl
theorem d171_433 : decode (cod 171) 433 = .ok (.iload_n 3, 1) := by decide +kernel
theorem s171_433 {M : Mm} {st : List Value} {l0 l1 l2 : Option Value} {x : Int32} : EE 171 433 [l0, l1, l2, some (.int x)] st M = EE 171 434 [l0, l1, l2, some (.int x)] (.int x :: st) M := e_ld d171_433 rfl rfl rfl rfl rfl rfl
theorem d171_434 : decode (cod 171) 434 = .ok (.iconst 2, 1) := by decide +kernel
theorem s171_434 {M : Mm} {st : List Value} {l0 l1 l2 l3 : Option Value} : EE 171 434 [l0, l1, l2, l3] st M = EE 171 435 [l0, l1, l2, l3] (.int (nI 2) :: st) M := e_con d171_434 k_con_2
theorem d171_435 : decode (cod 171) 435 = .ok (.iadd, 1) := by decide +kernel
theorem s171_435 {M : Mm} {st : List Value} {l0 l1 l2 l3 : Option Value} {x y : Int32} : EE 171 435 [l0, l1, l2, l3] (.int y :: .int x :: st) M = EE 171 436 [l0, l1, l2, l3] (.int (x + y) :: st) M := e_II d171_435 rfl rfl rfl rfl rfl rfl
theorem d171_436 : decode (cod 171) 436 = .ok (.iaload, 1) := by decide +kernel
theorem s171_436 {n : Nat} {I : Nat → Nat → Int32} {R : Nat → Nat → Option Nat} {st : List Value} {l0 l1 l2 l3 : Option Value} {j : Int32} {a : Nat} : EE 171 436 [l0, l1, l2, l3] (.int j :: .ref a :: st) (n, I, R) = (ardI 5 n I a j).bind (fun z => EE 171 437 [l0, l1, l2, l3] (.int z :: st) (n, I, R)) := e_iald d171_436
theorem d171_437 : decode (cod 171) 437 = .ok (.invokevirtual 57, 3) := by decide +kernel
theorem s171_437 {l0 l1 l2 l3 : Option Value} {a : Nat} {M : Mm} {b0 : Int32} {b1 : Int32} {st : List Value} (hl : st.length ≤ 4) (ho : isO "HandoverDesk" M.1 a = true) : EE 171 437 [l0, l1, l2, l3] (.int b1 :: .int b0 :: .ref a :: st) M = (FF 59 (.ref a :: [.int b0, .int b1]) M).bind (fun z => EE 171 440 [l0, l1, l2, l3] (psh z.1 st) z.2) := e_calv (av := [.int b0, .int b1]) d171_437 c4_57 rfl rfl rfl r171_59 rfl hl ho
theorem d171_440 : decode (cod 171) 440 = .ok (.aload_n 2, 1) := by decide +kernel
theorem s171_440 {M : Mm} {st : List Value} {l0 l1 l3 : Option Value} {x : Nat} : EE 171 440 [l0, l1, some (.ref x), l3] st M = EE 171 441 [l0, l1, some (.ref x), l3] (.ref x :: st) M := e_ld d171_440 rfl rfl rfl rfl rfl rfl
theorem d171_441 : decode (cod 171) 441 = .ok (.aload_n 0, 1) := by decide +kernel
theorem s171_441 {M : Mm} {st : List Value} {l1 l2 l3 : Option Value} {x : Nat} : EE 171 441 [some (.ref x), l1, l2, l3] st M = EE 171 442 [some (.ref x), l1, l2, l3] (.ref x :: st) M := e_ld d171_441 rfl rfl rfl rfl rfl rfl
theorem d171_442 : decode (cod 171) 442 = .ok (.iload_n 3, 1) := by decide +kernel
theorem s171_442 {M : Mm} {st : List Value} {l0 l1 l2 : Option Value} {x : Int32} : EE 171 442 [l0, l1, l2, some (.int x)] st M = EE 171 443 [l0, l1, l2, some (.int x)] (.int x :: st) M := e_ld d171_442 rfl rfl rfl rfl rfl rfl
theorem d171_443 : decode (cod 171) 443 = .ok (.iconst 1, 1) := by decide +kernel
theorem s171_443 {M : Mm} {st : List Value} {l0 l1 l2 l3 : Option Value} : EE 171 443 [l0, l1, l2, l3] st M = EE 171 444 [l0, l1, l2, l3] (.int (nI 1) :: st) M := e_con d171_443 k_con_1
theorem d171_444 : decode (cod 171) 444 = .ok (.iadd, 1) := by decide +kernel
theorem s171_444 {M : Mm} {st : List Value} {l0 l1 l2 l3 : Option Value} {x y : Int32} : EE 171 444 [l0, l1, l2, l3] (.int y :: .int x :: st) M = EE 171 445 [l0, l1, l2, l3] (.int (x + y) :: st) M := e_II d171_444 rfl rfl rfl rfl rfl rfl
theorem d171_445 : decode (cod 171) 445 = .ok (.iaload, 1) := by decide +kernel
theorem s171_445 {n : Nat} {I : Nat → Nat → Int32} {R : Nat → Nat → Option Nat} {st : List Value} {l0 l1 l2 l3 : Option Value} {j : Int32} {a : Nat} : EE 171 445 [l0, l1, l2, l3] (.int j :: .ref a :: st) (n, I, R) = (ardI 5 n I a j).bind (fun z => EE 171 446 [l0, l1, l2, l3] (.int z :: st) (n, I, R)) := e_iald d171_445
theorem d171_446 : decode (cod 171) 446 = .ok (.aload_n 0, 1) := by decide +kernel
theorem s171_446 {M : Mm} {st : List Value} {l1 l2 l3 : Option Value} {x : Nat} : EE 171 446 [some (.ref x), l1, l2, l3] st M = EE 171 447 [some (.ref x), l1, l2, l3] (.ref x :: st) M := e_ld d171_446 rfl rfl rfl rfl rfl rfl
theorem d171_447 : decode (cod 171) 447 = .ok (.iload_n 3, 1) := by decide +kernel
theorem s171_447 {M : Mm} {st : List Value} {l0 l1 l2 : Option Value} {x : Int32} : EE 171 447 [l0, l1, l2, some (.int x)] st M = EE 171 448 [l0, l1, l2, some (.int x)] (.int x :: st) M := e_ld d171_447 rfl rfl rfl rfl rfl rfl
theorem d171_448 : decode (cod 171) 448 = .ok (.iconst 2, 1) := by decide +kernel
theorem s171_448 {M : Mm} {st : List Value} {l0 l1 l2 l3 : Option Value} : EE 171 448 [l0, l1, l2, l3] st M = EE 171 449 [l0, l1, l2, l3] (.int (nI 2) :: st) M := e_con d171_448 k_con_2
theorem d171_449 : decode (cod 171) 449 = .ok (.iadd, 1) := by decide +kernel
theorem s171_449 {M : Mm} {st : List Value} {l0 l1 l2 l3 : Option Value} {x y : Int32} : EE 171 449 [l0, l1, l2, l3] (.int y :: .int x :: st) M = EE 171 450 [l0, l1, l2, l3] (.int (x + y) :: st) M := e_II d171_449 rfl rfl rfl rfl rfl rfl
theorem d171_450 : decode (cod 171) 450 = .ok (.iaload, 1) := by decide +kernel
theorem s171_450 {n : Nat} {I : Nat → Nat → Int32} {R : Nat → Nat → Option Nat} {st : List Value} {l0 l1 l2 l3 : Option Value} {j : Int32} {a : Nat} : EE 171 450 [l0, l1, l2, l3] (.int j :: .ref a :: st) (n, I, R) = (ardI 5 n I a j).bind (fun z => EE 171 451 [l0, l1, l2, l3] (.int z :: st) (n, I, R)) := e_iald d171_450
theorem d171_451 : decode (cod 171) 451 = .ok (.invokevirtual 60, 3) := by decide +kernel
theorem s171_451 {l0 l1 l2 l3 : Option Value} {a : Nat} {M : Mm} {b0 : Int32} {b1 : Int32} {st : List Value} (hl : st.length ≤ 4) (ho : isO "HandoverDeskModel" M.1 a = true) : EE 171 451 [l0, l1, l2, l3] (.int b1 :: .int b0 :: .ref a :: st) M = (FF 122 (.ref a :: [.int b0, .int b1]) M).bind (fun z => EE 171 454 [l0, l1, l2, l3] (psh z.1 st) z.2) := e_calv (av := [.int b0, .int b1]) d171_451 c4_60 rfl rfl rfl r171_122 rfl hl ho
theorem d171_454 : decode (cod 171) 454 = .ok (.if_icmp .eq 364, 3) := by decide +kernel
theorem s171_454 {M : Mm} {st : List Value} {l0 l1 l2 l3 : Option Value} {x y : Int32} : EE 171 454 [l0, l1, l2, l3] (.int y :: .int x :: st) M = if x = y then EE 171 818 [l0, l1, l2, l3] st M else EE 171 457 [l0, l1, l2, l3] st M := e_ceq d171_454 (by decide)
theorem d171_457 : decode (cod 171) 457 = .ok (.iconst 0, 1) := by decide +kernel
theorem s171_457 {M : Mm} {st : List Value} {l0 l1 l2 l3 : Option Value} : EE 171 457 [l0, l1, l2, l3] st M = EE 171 458 [l0, l1, l2, l3] (.int (nI 0) :: st) M := e_con d171_457 k_con_0
theorem d171_458 : decode (cod 171) 458 = .ok (.ireturn, 1) := by decide +kernel
theorem s171_458 {M : Mm} {l0 l1 l2 l3 : Option Value} {v : Int32} (h : narrow .boolean (.int v) = .int v) : EE 171 458 [l0, l1, l2, l3] [.int v] M = some (some (.int v), M) := e_iret d171_458 rfl h
theorem d171_459 : decode (cod 171) 459 = .ok (.aload_n 1, 1) := by decide +kernel
theorem s171_459 {M : Mm} {st : List Value} {l0 l2 l3 : Option Value} {x : Nat} : EE 171 459 [l0, some (.ref x), l2, l3] st M = EE 171 460 [l0, some (.ref x), l2, l3] (.ref x :: st) M := e_ld d171_459 rfl rfl rfl rfl rfl rfl
theorem d171_460 : decode (cod 171) 460 = .ok (.aload_n 0, 1) := by decide +kernel
theorem s171_460 {M : Mm} {st : List Value} {l1 l2 l3 : Option Value} {x : Nat} : EE 171 460 [some (.ref x), l1, l2, l3] st M = EE 171 461 [some (.ref x), l1, l2, l3] (.ref x :: st) M := e_ld d171_460 rfl rfl rfl rfl rfl rfl
theorem d171_461 : decode (cod 171) 461 = .ok (.iload_n 3, 1) := by decide +kernel
theorem s171_461 {M : Mm} {st : List Value} {l0 l1 l2 : Option Value} {x : Int32} : EE 171 461 [l0, l1, l2, some (.int x)] st M = EE 171 462 [l0, l1, l2, some (.int x)] (.int x :: st) M := e_ld d171_461 rfl rfl rfl rfl rfl rfl
theorem d171_462 : decode (cod 171) 462 = .ok (.iconst 1, 1) := by decide +kernel
theorem s171_462 {M : Mm} {st : List Value} {l0 l1 l2 l3 : Option Value} : EE 171 462 [l0, l1, l2, l3] st M = EE 171 463 [l0, l1, l2, l3] (.int (nI 1) :: st) M := e_con d171_462 k_con_1
theorem d171_463 : decode (cod 171) 463 = .ok (.iadd, 1) := by decide +kernel
theorem s171_463 {M : Mm} {st : List Value} {l0 l1 l2 l3 : Option Value} {x y : Int32} : EE 171 463 [l0, l1, l2, l3] (.int y :: .int x :: st) M = EE 171 464 [l0, l1, l2, l3] (.int (x + y) :: st) M := e_II d171_463 rfl rfl rfl rfl rfl rfl
theorem d171_464 : decode (cod 171) 464 = .ok (.iaload, 1) := by decide +kernel
theorem s171_464 {n : Nat} {I : Nat → Nat → Int32} {R : Nat → Nat → Option Nat} {st : List Value} {l0 l1 l2 l3 : Option Value} {j : Int32} {a : Nat} : EE 171 464 [l0, l1, l2, l3] (.int j :: .ref a :: st) (n, I, R) = (ardI 5 n I a j).bind (fun z => EE 171 465 [l0, l1, l2, l3] (.int z :: st) (n, I, R)) := e_iald d171_464
theorem d171_465 : decode (cod 171) 465 = .ok (.invokevirtual 61, 3) := by decide +kernel
theorem s171_465 {l0 l1 l2 l3 : Option Value} {a : Nat} {M : Mm} {b0 : Int32} {st : List Value} (hl : st.length ≤ 4) (ho : isO "HandoverDesk" M.1 a = true) : EE 171 465 [l0, l1, l2, l3] (.int b0 :: .ref a :: st) M = (FF 60 (.ref a :: [.int b0]) M).bind (fun z => EE 171 468 [l0, l1, l2, l3] (psh z.1 st) z.2) := e_calv (av := [.int b0]) d171_465 c4_61 rfl rfl rfl r171_60 rfl hl ho
theorem d171_468 : decode (cod 171) 468 = .ok (.aload_n 2, 1) := by decide +kernel
theorem s171_468 {M : Mm} {st : List Value} {l0 l1 l3 : Option Value} {x : Nat} : EE 171 468 [l0, l1, some (.ref x), l3] st M = EE 171 469 [l0, l1, some (.ref x), l3] (.ref x :: st) M := e_ld d171_468 rfl rfl rfl rfl rfl rfl
theorem d171_469 : decode (cod 171) 469 = .ok (.aload_n 0, 1) := by decide +kernel
theorem s171_469 {M : Mm} {st : List Value} {l1 l2 l3 : Option Value} {x : Nat} : EE 171 469 [some (.ref x), l1, l2, l3] st M = EE 171 470 [some (.ref x), l1, l2, l3] (.ref x :: st) M := e_ld d171_469 rfl rfl rfl rfl rfl rfl
theorem d171_470 : decode (cod 171) 470 = .ok (.iload_n 3, 1) := by decide +kernel
theorem s171_470 {M : Mm} {st : List Value} {l0 l1 l2 : Option Value} {x : Int32} : EE 171 470 [l0, l1, l2, some (.int x)] st M = EE 171 471 [l0, l1, l2, some (.int x)] (.int x :: st) M := e_ld d171_470 rfl rfl rfl rfl rfl rfl
theorem d171_471 : decode (cod 171) 471 = .ok (.iconst 1, 1) := by decide +kernel
theorem s171_471 {M : Mm} {st : List Value} {l0 l1 l2 l3 : Option Value} : EE 171 471 [l0, l1, l2, l3] st M = EE 171 472 [l0, l1, l2, l3] (.int (nI 1) :: st) M := e_con d171_471 k_con_1
theorem d171_472 : decode (cod 171) 472 = .ok (.iadd, 1) := by decide +kernel
theorem s171_472 {M : Mm} {st : List Value} {l0 l1 l2 l3 : Option Value} {x y : Int32} : EE 171 472 [l0, l1, l2, l3] (.int y :: .int x :: st) M = EE 171 473 [l0, l1, l2, l3] (.int (x + y) :: st) M := e_II d171_472 rfl rfl rfl rfl rfl rfl
theorem d171_473 : decode (cod 171) 473 = .ok (.iaload, 1) := by decide +kernel
theorem s171_473 {n : Nat} {I : Nat → Nat → Int32} {R : Nat → Nat → Option Nat} {st : List Value} {l0 l1 l2 l3 : Option Value} {j : Int32} {a : Nat} : EE 171 473 [l0, l1, l2, l3] (.int j :: .ref a :: st) (n, I, R) = (ardI 5 n I a j).bind (fun z => EE 171 474 [l0, l1, l2, l3] (.int z :: st) (n, I, R)) := e_iald d171_473
theorem d171_474 : decode (cod 171) 474 = .ok (.invokevirtual 64, 3) := by decide +kernel
theorem s171_474 {l0 l1 l2 l3 : Option Value} {a : Nat} {M : Mm} {b0 : Int32} {st : List Value} (hl : st.length ≤ 4) (ho : isO "HandoverDeskModel" M.1 a = true) : EE 171 474 [l0, l1, l2, l3] (.int b0 :: .ref a :: st) M = (FF 124 (.ref a :: [.int b0]) M).bind (fun z => EE 171 477 [l0, l1, l2, l3] (psh z.1 st) z.2) := e_calv (av := [.int b0]) d171_474 c4_64 rfl rfl rfl r171_124 rfl hl ho
theorem d171_477 : decode (cod 171) 477 = .ok (.if_icmp .eq 341, 3) := by decide +kernel
theorem s171_477 {M : Mm} {st : List Value} {l0 l1 l2 l3 : Option Value} {x y : Int32} : EE 171 477 [l0, l1, l2, l3] (.int y :: .int x :: st) M = if x = y then EE 171 818 [l0, l1, l2, l3] st M else EE 171 480 [l0, l1, l2, l3] st M := e_ceq d171_477 (by decide)
theorem d171_480 : decode (cod 171) 480 = .ok (.iconst 0, 1) := by decide +kernel
theorem s171_480 {M : Mm} {st : List Value} {l0 l1 l2 l3 : Option Value} : EE 171 480 [l0, l1, l2, l3] st M = EE 171 481 [l0, l1, l2, l3] (.int (nI 0) :: st) M := e_con d171_480 k_con_0
theorem d171_481 : decode (cod 171) 481 = .ok (.ireturn, 1) := by decide +kernel
theorem s171_481 {M : Mm} {l0 l1 l2 l3 : Option Value} {v : Int32} (h : narrow .boolean (.int v) = .int v) : EE 171 481 [l0, l1, l2, l3] [.int v] M = some (some (.int v), M) := e_iret d171_481 rfl h
theorem d171_482 : decode (cod 171) 482 = .ok (.aload_n 1, 1) := by decide +kernel
theorem s171_482 {M : Mm} {st : List Value} {l0 l2 l3 : Option Value} {x : Nat} : EE 171 482 [l0, some (.ref x), l2, l3] st M = EE 171 483 [l0, some (.ref x), l2, l3] (.ref x :: st) M := e_ld d171_482 rfl rfl rfl rfl rfl rfl
theorem d171_483 : decode (cod 171) 483 = .ok (.aload_n 0, 1) := by decide +kernel
theorem s171_483 {M : Mm} {st : List Value} {l1 l2 l3 : Option Value} {x : Nat} : EE 171 483 [some (.ref x), l1, l2, l3] st M = EE 171 484 [some (.ref x), l1, l2, l3] (.ref x :: st) M := e_ld d171_483 rfl rfl rfl rfl rfl rfl
theorem d171_484 : decode (cod 171) 484 = .ok (.iload_n 3, 1) := by decide +kernel
theorem s171_484 {M : Mm} {st : List Value} {l0 l1 l2 : Option Value} {x : Int32} : EE 171 484 [l0, l1, l2, some (.int x)] st M = EE 171 485 [l0, l1, l2, some (.int x)] (.int x :: st) M := e_ld d171_484 rfl rfl rfl rfl rfl rfl
theorem d171_485 : decode (cod 171) 485 = .ok (.iconst 1, 1) := by decide +kernel
theorem s171_485 {M : Mm} {st : List Value} {l0 l1 l2 l3 : Option Value} : EE 171 485 [l0, l1, l2, l3] st M = EE 171 486 [l0, l1, l2, l3] (.int (nI 1) :: st) M := e_con d171_485 k_con_1
theorem d171_486 : decode (cod 171) 486 = .ok (.iadd, 1) := by decide +kernel
theorem s171_486 {M : Mm} {st : List Value} {l0 l1 l2 l3 : Option Value} {x y : Int32} : EE 171 486 [l0, l1, l2, l3] (.int y :: .int x :: st) M = EE 171 487 [l0, l1, l2, l3] (.int (x + y) :: st) M := e_II d171_486 rfl rfl rfl rfl rfl rfl
theorem d171_487 : decode (cod 171) 487 = .ok (.iaload, 1) := by decide +kernel
theorem s171_487 {n : Nat} {I : Nat → Nat → Int32} {R : Nat → Nat → Option Nat} {st : List Value} {l0 l1 l2 l3 : Option Value} {j : Int32} {a : Nat} : EE 171 487 [l0, l1, l2, l3] (.int j :: .ref a :: st) (n, I, R) = (ardI 5 n I a j).bind (fun z => EE 171 488 [l0, l1, l2, l3] (.int z :: st) (n, I, R)) := e_iald d171_487
theorem d171_488 : decode (cod 171) 488 = .ok (.invokevirtual 65, 3) := by decide +kernel
theorem s171_488 {l0 l1 l2 l3 : Option Value} {a : Nat} {M : Mm} {b0 : Int32} {st : List Value} (hl : st.length ≤ 4) (ho : isO "HandoverDesk" M.1 a = true) : EE 171 488 [l0, l1, l2, l3] (.int b0 :: .ref a :: st) M = (FF 61 (.ref a :: [.int b0]) M).bind (fun z => EE 171 491 [l0, l1, l2, l3] (psh z.1 st) z.2) := e_calv (av := [.int b0]) d171_488 c4_65 rfl rfl rfl r171_61 rfl hl ho
theorem d171_491 : decode (cod 171) 491 = .ok (.aload_n 2, 1) := by decide +kernel
theorem s171_491 {M : Mm} {st : List Value} {l0 l1 l3 : Option Value} {x : Nat} : EE 171 491 [l0, l1, some (.ref x), l3] st M = EE 171 492 [l0, l1, some (.ref x), l3] (.ref x :: st) M := e_ld d171_491 rfl rfl rfl rfl rfl rfl
theorem d171_492 : decode (cod 171) 492 = .ok (.aload_n 0, 1) := by decide +kernel
theorem s171_492 {M : Mm} {st : List Value} {l1 l2 l3 : Option Value} {x : Nat} : EE 171 492 [some (.ref x), l1, l2, l3] st M = EE 171 493 [some (.ref x), l1, l2, l3] (.ref x :: st) M := e_ld d171_492 rfl rfl rfl rfl rfl rfl
theorem d171_493 : decode (cod 171) 493 = .ok (.iload_n 3, 1) := by decide +kernel
theorem s171_493 {M : Mm} {st : List Value} {l0 l1 l2 : Option Value} {x : Int32} : EE 171 493 [l0, l1, l2, some (.int x)] st M = EE 171 494 [l0, l1, l2, some (.int x)] (.int x :: st) M := e_ld d171_493 rfl rfl rfl rfl rfl rfl
theorem d171_494 : decode (cod 171) 494 = .ok (.iconst 1, 1) := by decide +kernel
theorem s171_494 {M : Mm} {st : List Value} {l0 l1 l2 l3 : Option Value} : EE 171 494 [l0, l1, l2, l3] st M = EE 171 495 [l0, l1, l2, l3] (.int (nI 1) :: st) M := e_con d171_494 k_con_1
theorem d171_495 : decode (cod 171) 495 = .ok (.iadd, 1) := by decide +kernel
theorem s171_495 {M : Mm} {st : List Value} {l0 l1 l2 l3 : Option Value} {x y : Int32} : EE 171 495 [l0, l1, l2, l3] (.int y :: .int x :: st) M = EE 171 496 [l0, l1, l2, l3] (.int (x + y) :: st) M := e_II d171_495 rfl rfl rfl rfl rfl rfl
theorem d171_496 : decode (cod 171) 496 = .ok (.iaload, 1) := by decide +kernel
theorem s171_496 {n : Nat} {I : Nat → Nat → Int32} {R : Nat → Nat → Option Nat} {st : List Value} {l0 l1 l2 l3 : Option Value} {j : Int32} {a : Nat} : EE 171 496 [l0, l1, l2, l3] (.int j :: .ref a :: st) (n, I, R) = (ardI 5 n I a j).bind (fun z => EE 171 497 [l0, l1, l2, l3] (.int z :: st) (n, I, R)) := e_iald d171_496
theorem d171_497 : decode (cod 171) 497 = .ok (.invokevirtual 68, 3) := by decide +kernel
theorem s171_497 {l0 l1 l2 l3 : Option Value} {a : Nat} {M : Mm} {b0 : Int32} {st : List Value} (hl : st.length ≤ 4) (ho : isO "HandoverDeskModel" M.1 a = true) : EE 171 497 [l0, l1, l2, l3] (.int b0 :: .ref a :: st) M = (FF 125 (.ref a :: [.int b0]) M).bind (fun z => EE 171 500 [l0, l1, l2, l3] (psh z.1 st) z.2) := e_calv (av := [.int b0]) d171_497 c4_68 rfl rfl rfl r171_125 rfl hl ho
theorem d171_500 : decode (cod 171) 500 = .ok (.if_icmp .eq 318, 3) := by decide +kernel
theorem s171_500 {M : Mm} {st : List Value} {l0 l1 l2 l3 : Option Value} {x y : Int32} : EE 171 500 [l0, l1, l2, l3] (.int y :: .int x :: st) M = if x = y then EE 171 818 [l0, l1, l2, l3] st M else EE 171 503 [l0, l1, l2, l3] st M := e_ceq d171_500 (by decide)
theorem d171_503 : decode (cod 171) 503 = .ok (.iconst 0, 1) := by decide +kernel
theorem s171_503 {M : Mm} {st : List Value} {l0 l1 l2 l3 : Option Value} : EE 171 503 [l0, l1, l2, l3] st M = EE 171 504 [l0, l1, l2, l3] (.int (nI 0) :: st) M := e_con d171_503 k_con_0
theorem d171_504 : decode (cod 171) 504 = .ok (.ireturn, 1) := by decide +kernel
theorem s171_504 {M : Mm} {l0 l1 l2 l3 : Option Value} {v : Int32} (h : narrow .boolean (.int v) = .int v) : EE 171 504 [l0, l1, l2, l3] [.int v] M = some (some (.int v), M) := e_iret d171_504 rfl h
theorem d171_505 : decode (cod 171) 505 = .ok (.aload_n 1, 1) := by decide +kernel
theorem s171_505 {M : Mm} {st : List Value} {l0 l2 l3 : Option Value} {x : Nat} : EE 171 505 [l0, some (.ref x), l2, l3] st M = EE 171 506 [l0, some (.ref x), l2, l3] (.ref x :: st) M := e_ld d171_505 rfl rfl rfl rfl rfl rfl
theorem d171_506 : decode (cod 171) 506 = .ok (.aload_n 0, 1) := by decide +kernel
theorem s171_506 {M : Mm} {st : List Value} {l1 l2 l3 : Option Value} {x : Nat} : EE 171 506 [some (.ref x), l1, l2, l3] st M = EE 171 507 [some (.ref x), l1, l2, l3] (.ref x :: st) M := e_ld d171_506 rfl rfl rfl rfl rfl rfl
theorem d171_507 : decode (cod 171) 507 = .ok (.iload_n 3, 1) := by decide +kernel
theorem s171_507 {M : Mm} {st : List Value} {l0 l1 l2 : Option Value} {x : Int32} : EE 171 507 [l0, l1, l2, some (.int x)] st M = EE 171 508 [l0, l1, l2, some (.int x)] (.int x :: st) M := e_ld d171_507 rfl rfl rfl rfl rfl rfl
theorem d171_508 : decode (cod 171) 508 = .ok (.iconst 1, 1) := by decide +kernel
theorem s171_508 {M : Mm} {st : List Value} {l0 l1 l2 l3 : Option Value} : EE 171 508 [l0, l1, l2, l3] st M = EE 171 509 [l0, l1, l2, l3] (.int (nI 1) :: st) M := e_con d171_508 k_con_1
theorem d171_509 : decode (cod 171) 509 = .ok (.iadd, 1) := by decide +kernel
theorem s171_509 {M : Mm} {st : List Value} {l0 l1 l2 l3 : Option Value} {x y : Int32} : EE 171 509 [l0, l1, l2, l3] (.int y :: .int x :: st) M = EE 171 510 [l0, l1, l2, l3] (.int (x + y) :: st) M := e_II d171_509 rfl rfl rfl rfl rfl rfl
theorem d171_510 : decode (cod 171) 510 = .ok (.iaload, 1) := by decide +kernel
theorem s171_510 {n : Nat} {I : Nat → Nat → Int32} {R : Nat → Nat → Option Nat} {st : List Value} {l0 l1 l2 l3 : Option Value} {j : Int32} {a : Nat} : EE 171 510 [l0, l1, l2, l3] (.int j :: .ref a :: st) (n, I, R) = (ardI 5 n I a j).bind (fun z => EE 171 511 [l0, l1, l2, l3] (.int z :: st) (n, I, R)) := e_iald d171_510
theorem d171_511 : decode (cod 171) 511 = .ok (.aload_n 0, 1) := by decide +kernel
theorem s171_511 {M : Mm} {st : List Value} {l1 l2 l3 : Option Value} {x : Nat} : EE 171 511 [some (.ref x), l1, l2, l3] st M = EE 171 512 [some (.ref x), l1, l2, l3] (.ref x :: st) M := e_ld d171_511 rfl rfl rfl rfl rfl rfl
theorem d171_512 : decode (cod 171) 512 = .ok (.iload_n 3, 1) := by decide +kernel
theorem s171_512 {M : Mm} {st : List Value} {l0 l1 l2 : Option Value} {x : Int32} : EE 171 512 [l0, l1, l2, some (.int x)] st M = EE 171 513 [l0, l1, l2, some (.int x)] (.int x :: st) M := e_ld d171_512 rfl rfl rfl rfl rfl rfl
theorem d171_513 : decode (cod 171) 513 = .ok (.iconst 2, 1) := by decide +kernel
theorem s171_513 {M : Mm} {st : List Value} {l0 l1 l2 l3 : Option Value} : EE 171 513 [l0, l1, l2, l3] st M = EE 171 514 [l0, l1, l2, l3] (.int (nI 2) :: st) M := e_con d171_513 k_con_2
theorem d171_514 : decode (cod 171) 514 = .ok (.iadd, 1) := by decide +kernel
theorem s171_514 {M : Mm} {st : List Value} {l0 l1 l2 l3 : Option Value} {x y : Int32} : EE 171 514 [l0, l1, l2, l3] (.int y :: .int x :: st) M = EE 171 515 [l0, l1, l2, l3] (.int (x + y) :: st) M := e_II d171_514 rfl rfl rfl rfl rfl rfl
theorem d171_515 : decode (cod 171) 515 = .ok (.iaload, 1) := by decide +kernel
theorem s171_515 {n : Nat} {I : Nat → Nat → Int32} {R : Nat → Nat → Option Nat} {st : List Value} {l0 l1 l2 l3 : Option Value} {j : Int32} {a : Nat} : EE 171 515 [l0, l1, l2, l3] (.int j :: .ref a :: st) (n, I, R) = (ardI 5 n I a j).bind (fun z => EE 171 516 [l0, l1, l2, l3] (.int z :: st) (n, I, R)) := e_iald d171_515
theorem d171_516 : decode (cod 171) 516 = .ok (.invokevirtual 69, 3) := by decide +kernel
theorem s171_516 {l0 l1 l2 l3 : Option Value} {a : Nat} {M : Mm} {b0 : Int32} {b1 : Int32} {st : List Value} (hl : st.length ≤ 4) (ho : isO "HandoverDesk" M.1 a = true) : EE 171 516 [l0, l1, l2, l3] (.int b1 :: .int b0 :: .ref a :: st) M = (FF 62 (.ref a :: [.int b0, .int b1]) M).bind (fun z => EE 171 519 [l0, l1, l2, l3] (psh z.1 st) z.2) := e_calv (av := [.int b0, .int b1]) d171_516 c4_69 rfl rfl rfl r171_62 rfl hl ho
theorem d171_519 : decode (cod 171) 519 = .ok (.aload_n 2, 1) := by decide +kernel
theorem s171_519 {M : Mm} {st : List Value} {l0 l1 l3 : Option Value} {x : Nat} : EE 171 519 [l0, l1, some (.ref x), l3] st M = EE 171 520 [l0, l1, some (.ref x), l3] (.ref x :: st) M := e_ld d171_519 rfl rfl rfl rfl rfl rfl
theorem d171_520 : decode (cod 171) 520 = .ok (.aload_n 0, 1) := by decide +kernel
theorem s171_520 {M : Mm} {st : List Value} {l1 l2 l3 : Option Value} {x : Nat} : EE 171 520 [some (.ref x), l1, l2, l3] st M = EE 171 521 [some (.ref x), l1, l2, l3] (.ref x :: st) M := e_ld d171_520 rfl rfl rfl rfl rfl rfl
theorem d171_521 : decode (cod 171) 521 = .ok (.iload_n 3, 1) := by decide +kernel
theorem s171_521 {M : Mm} {st : List Value} {l0 l1 l2 : Option Value} {x : Int32} : EE 171 521 [l0, l1, l2, some (.int x)] st M = EE 171 522 [l0, l1, l2, some (.int x)] (.int x :: st) M := e_ld d171_521 rfl rfl rfl rfl rfl rfl
theorem d171_522 : decode (cod 171) 522 = .ok (.iconst 1, 1) := by decide +kernel
theorem s171_522 {M : Mm} {st : List Value} {l0 l1 l2 l3 : Option Value} : EE 171 522 [l0, l1, l2, l3] st M = EE 171 523 [l0, l1, l2, l3] (.int (nI 1) :: st) M := e_con d171_522 k_con_1
theorem d171_523 : decode (cod 171) 523 = .ok (.iadd, 1) := by decide +kernel
theorem s171_523 {M : Mm} {st : List Value} {l0 l1 l2 l3 : Option Value} {x y : Int32} : EE 171 523 [l0, l1, l2, l3] (.int y :: .int x :: st) M = EE 171 524 [l0, l1, l2, l3] (.int (x + y) :: st) M := e_II d171_523 rfl rfl rfl rfl rfl rfl
theorem d171_524 : decode (cod 171) 524 = .ok (.iaload, 1) := by decide +kernel
theorem s171_524 {n : Nat} {I : Nat → Nat → Int32} {R : Nat → Nat → Option Nat} {st : List Value} {l0 l1 l2 l3 : Option Value} {j : Int32} {a : Nat} : EE 171 524 [l0, l1, l2, l3] (.int j :: .ref a :: st) (n, I, R) = (ardI 5 n I a j).bind (fun z => EE 171 525 [l0, l1, l2, l3] (.int z :: st) (n, I, R)) := e_iald d171_524
theorem d171_525 : decode (cod 171) 525 = .ok (.aload_n 0, 1) := by decide +kernel
theorem s171_525 {M : Mm} {st : List Value} {l1 l2 l3 : Option Value} {x : Nat} : EE 171 525 [some (.ref x), l1, l2, l3] st M = EE 171 526 [some (.ref x), l1, l2, l3] (.ref x :: st) M := e_ld d171_525 rfl rfl rfl rfl rfl rfl
theorem d171_526 : decode (cod 171) 526 = .ok (.iload_n 3, 1) := by decide +kernel
theorem s171_526 {M : Mm} {st : List Value} {l0 l1 l2 : Option Value} {x : Int32} : EE 171 526 [l0, l1, l2, some (.int x)] st M = EE 171 527 [l0, l1, l2, some (.int x)] (.int x :: st) M := e_ld d171_526 rfl rfl rfl rfl rfl rfl
theorem d171_527 : decode (cod 171) 527 = .ok (.iconst 2, 1) := by decide +kernel
theorem s171_527 {M : Mm} {st : List Value} {l0 l1 l2 l3 : Option Value} : EE 171 527 [l0, l1, l2, l3] st M = EE 171 528 [l0, l1, l2, l3] (.int (nI 2) :: st) M := e_con d171_527 k_con_2
theorem d171_528 : decode (cod 171) 528 = .ok (.iadd, 1) := by decide +kernel
theorem s171_528 {M : Mm} {st : List Value} {l0 l1 l2 l3 : Option Value} {x y : Int32} : EE 171 528 [l0, l1, l2, l3] (.int y :: .int x :: st) M = EE 171 529 [l0, l1, l2, l3] (.int (x + y) :: st) M := e_II d171_528 rfl rfl rfl rfl rfl rfl
theorem d171_529 : decode (cod 171) 529 = .ok (.iaload, 1) := by decide +kernel
theorem s171_529 {n : Nat} {I : Nat → Nat → Int32} {R : Nat → Nat → Option Nat} {st : List Value} {l0 l1 l2 l3 : Option Value} {j : Int32} {a : Nat} : EE 171 529 [l0, l1, l2, l3] (.int j :: .ref a :: st) (n, I, R) = (ardI 5 n I a j).bind (fun z => EE 171 530 [l0, l1, l2, l3] (.int z :: st) (n, I, R)) := e_iald d171_529
theorem d171_530 : decode (cod 171) 530 = .ok (.invokevirtual 72, 3) := by decide +kernel
theorem s171_530 {l0 l1 l2 l3 : Option Value} {a : Nat} {M : Mm} {b0 : Int32} {b1 : Int32} {st : List Value} (hl : st.length ≤ 4) (ho : isO "HandoverDeskModel" M.1 a = true) : EE 171 530 [l0, l1, l2, l3] (.int b1 :: .int b0 :: .ref a :: st) M = (FF 128 (.ref a :: [.int b0, .int b1]) M).bind (fun z => EE 171 533 [l0, l1, l2, l3] (psh z.1 st) z.2) := e_calv (av := [.int b0, .int b1]) d171_530 c4_72 rfl rfl rfl r171_128 rfl hl ho
theorem d171_533 : decode (cod 171) 533 = .ok (.if_icmp .eq 285, 3) := by decide +kernel
theorem s171_533 {M : Mm} {st : List Value} {l0 l1 l2 l3 : Option Value} {x y : Int32} : EE 171 533 [l0, l1, l2, l3] (.int y :: .int x :: st) M = if x = y then EE 171 818 [l0, l1, l2, l3] st M else EE 171 536 [l0, l1, l2, l3] st M := e_ceq d171_533 (by decide)
theorem d171_536 : decode (cod 171) 536 = .ok (.iconst 0, 1) := by decide +kernel
theorem s171_536 {M : Mm} {st : List Value} {l0 l1 l2 l3 : Option Value} : EE 171 536 [l0, l1, l2, l3] st M = EE 171 537 [l0, l1, l2, l3] (.int (nI 0) :: st) M := e_con d171_536 k_con_0
theorem d171_537 : decode (cod 171) 537 = .ok (.ireturn, 1) := by decide +kernel
theorem s171_537 {M : Mm} {l0 l1 l2 l3 : Option Value} {v : Int32} (h : narrow .boolean (.int v) = .int v) : EE 171 537 [l0, l1, l2, l3] [.int v] M = some (some (.int v), M) := e_iret d171_537 rfl h
theorem d171_538 : decode (cod 171) 538 = .ok (.aload_n 1, 1) := by decide +kernel
theorem s171_538 {M : Mm} {st : List Value} {l0 l2 l3 : Option Value} {x : Nat} : EE 171 538 [l0, some (.ref x), l2, l3] st M = EE 171 539 [l0, some (.ref x), l2, l3] (.ref x :: st) M := e_ld d171_538 rfl rfl rfl rfl rfl rfl
theorem d171_539 : decode (cod 171) 539 = .ok (.invokevirtual 73, 3) := by decide +kernel
theorem s171_539 {l0 l1 l2 l3 : Option Value} {a : Nat} {M : Mm} {st : List Value} (hl : st.length ≤ 4) (ho : isO "HandoverDesk" M.1 a = true) : EE 171 539 [l0, l1, l2, l3] (.ref a :: st) M = (FF 63 (.ref a :: []) M).bind (fun z => EE 171 542 [l0, l1, l2, l3] (psh z.1 st) z.2) := e_calv (av := []) d171_539 c4_73 rfl rfl rfl r171_63 rfl hl ho
theorem d171_542 : decode (cod 171) 542 = .ok (.aload_n 2, 1) := by decide +kernel
theorem s171_542 {M : Mm} {st : List Value} {l0 l1 l3 : Option Value} {x : Nat} : EE 171 542 [l0, l1, some (.ref x), l3] st M = EE 171 543 [l0, l1, some (.ref x), l3] (.ref x :: st) M := e_ld d171_542 rfl rfl rfl rfl rfl rfl
theorem d171_543 : decode (cod 171) 543 = .ok (.invokevirtual 76, 3) := by decide +kernel
theorem s171_543 {l0 l1 l2 l3 : Option Value} {a : Nat} {M : Mm} {st : List Value} (hl : st.length ≤ 4) (ho : isO "HandoverDeskModel" M.1 a = true) : EE 171 543 [l0, l1, l2, l3] (.ref a :: st) M = (FF 129 (.ref a :: []) M).bind (fun z => EE 171 546 [l0, l1, l2, l3] (psh z.1 st) z.2) := e_calv (av := []) d171_543 c4_76 rfl rfl rfl r171_129 rfl hl ho
theorem d171_546 : decode (cod 171) 546 = .ok (.if_icmp .eq 272, 3) := by decide +kernel
theorem s171_546 {M : Mm} {st : List Value} {l0 l1 l2 l3 : Option Value} {x y : Int32} : EE 171 546 [l0, l1, l2, l3] (.int y :: .int x :: st) M = if x = y then EE 171 818 [l0, l1, l2, l3] st M else EE 171 549 [l0, l1, l2, l3] st M := e_ceq d171_546 (by decide)
theorem d171_549 : decode (cod 171) 549 = .ok (.iconst 0, 1) := by decide +kernel
theorem s171_549 {M : Mm} {st : List Value} {l0 l1 l2 l3 : Option Value} : EE 171 549 [l0, l1, l2, l3] st M = EE 171 550 [l0, l1, l2, l3] (.int (nI 0) :: st) M := e_con d171_549 k_con_0
theorem d171_550 : decode (cod 171) 550 = .ok (.ireturn, 1) := by decide +kernel
theorem s171_550 {M : Mm} {l0 l1 l2 l3 : Option Value} {v : Int32} (h : narrow .boolean (.int v) = .int v) : EE 171 550 [l0, l1, l2, l3] [.int v] M = some (some (.int v), M) := e_iret d171_550 rfl h
theorem d171_551 : decode (cod 171) 551 = .ok (.aload_n 1, 1) := by decide +kernel
theorem s171_551 {M : Mm} {st : List Value} {l0 l2 l3 : Option Value} {x : Nat} : EE 171 551 [l0, some (.ref x), l2, l3] st M = EE 171 552 [l0, some (.ref x), l2, l3] (.ref x :: st) M := e_ld d171_551 rfl rfl rfl rfl rfl rfl
theorem d171_552 : decode (cod 171) 552 = .ok (.aload_n 0, 1) := by decide +kernel
theorem s171_552 {M : Mm} {st : List Value} {l1 l2 l3 : Option Value} {x : Nat} : EE 171 552 [some (.ref x), l1, l2, l3] st M = EE 171 553 [some (.ref x), l1, l2, l3] (.ref x :: st) M := e_ld d171_552 rfl rfl rfl rfl rfl rfl
theorem d171_553 : decode (cod 171) 553 = .ok (.iload_n 3, 1) := by decide +kernel
theorem s171_553 {M : Mm} {st : List Value} {l0 l1 l2 : Option Value} {x : Int32} : EE 171 553 [l0, l1, l2, some (.int x)] st M = EE 171 554 [l0, l1, l2, some (.int x)] (.int x :: st) M := e_ld d171_553 rfl rfl rfl rfl rfl rfl
theorem d171_554 : decode (cod 171) 554 = .ok (.iconst 1, 1) := by decide +kernel
theorem s171_554 {M : Mm} {st : List Value} {l0 l1 l2 l3 : Option Value} : EE 171 554 [l0, l1, l2, l3] st M = EE 171 555 [l0, l1, l2, l3] (.int (nI 1) :: st) M := e_con d171_554 k_con_1
theorem d171_555 : decode (cod 171) 555 = .ok (.iadd, 1) := by decide +kernel
theorem s171_555 {M : Mm} {st : List Value} {l0 l1 l2 l3 : Option Value} {x y : Int32} : EE 171 555 [l0, l1, l2, l3] (.int y :: .int x :: st) M = EE 171 556 [l0, l1, l2, l3] (.int (x + y) :: st) M := e_II d171_555 rfl rfl rfl rfl rfl rfl
theorem d171_556 : decode (cod 171) 556 = .ok (.iaload, 1) := by decide +kernel
theorem s171_556 {n : Nat} {I : Nat → Nat → Int32} {R : Nat → Nat → Option Nat} {st : List Value} {l0 l1 l2 l3 : Option Value} {j : Int32} {a : Nat} : EE 171 556 [l0, l1, l2, l3] (.int j :: .ref a :: st) (n, I, R) = (ardI 5 n I a j).bind (fun z => EE 171 557 [l0, l1, l2, l3] (.int z :: st) (n, I, R)) := e_iald d171_556
theorem d171_557 : decode (cod 171) 557 = .ok (.invokevirtual 77, 3) := by decide +kernel
theorem s171_557 {l0 l1 l2 l3 : Option Value} {a : Nat} {M : Mm} {b0 : Int32} {st : List Value} (hl : st.length ≤ 4) (ho : isO "HandoverDesk" M.1 a = true) : EE 171 557 [l0, l1, l2, l3] (.int b0 :: .ref a :: st) M = (FF 64 (.ref a :: [.int b0]) M).bind (fun z => EE 171 560 [l0, l1, l2, l3] (psh z.1 st) z.2) := e_calv (av := [.int b0]) d171_557 c4_77 rfl rfl rfl r171_64 rfl hl ho
theorem d171_560 : decode (cod 171) 560 = .ok (.aload_n 2, 1) := by decide +kernel
theorem s171_560 {M : Mm} {st : List Value} {l0 l1 l3 : Option Value} {x : Nat} : EE 171 560 [l0, l1, some (.ref x), l3] st M = EE 171 561 [l0, l1, some (.ref x), l3] (.ref x :: st) M := e_ld d171_560 rfl rfl rfl rfl rfl rfl
theorem d171_561 : decode (cod 171) 561 = .ok (.aload_n 0, 1) := by decide +kernel
theorem s171_561 {M : Mm} {st : List Value} {l1 l2 l3 : Option Value} {x : Nat} : EE 171 561 [some (.ref x), l1, l2, l3] st M = EE 171 562 [some (.ref x), l1, l2, l3] (.ref x :: st) M := e_ld d171_561 rfl rfl rfl rfl rfl rfl
theorem d171_562 : decode (cod 171) 562 = .ok (.iload_n 3, 1) := by decide +kernel
theorem s171_562 {M : Mm} {st : List Value} {l0 l1 l2 : Option Value} {x : Int32} : EE 171 562 [l0, l1, l2, some (.int x)] st M = EE 171 563 [l0, l1, l2, some (.int x)] (.int x :: st) M := e_ld d171_562 rfl rfl rfl rfl rfl rfl
theorem d171_563 : decode (cod 171) 563 = .ok (.iconst 1, 1) := by decide +kernel
theorem s171_563 {M : Mm} {st : List Value} {l0 l1 l2 l3 : Option Value} : EE 171 563 [l0, l1, l2, l3] st M = EE 171 564 [l0, l1, l2, l3] (.int (nI 1) :: st) M := e_con d171_563 k_con_1
theorem d171_564 : decode (cod 171) 564 = .ok (.iadd, 1) := by decide +kernel
theorem s171_564 {M : Mm} {st : List Value} {l0 l1 l2 l3 : Option Value} {x y : Int32} : EE 171 564 [l0, l1, l2, l3] (.int y :: .int x :: st) M = EE 171 565 [l0, l1, l2, l3] (.int (x + y) :: st) M := e_II d171_564 rfl rfl rfl rfl rfl rfl
theorem d171_565 : decode (cod 171) 565 = .ok (.iaload, 1) := by decide +kernel
theorem s171_565 {n : Nat} {I : Nat → Nat → Int32} {R : Nat → Nat → Option Nat} {st : List Value} {l0 l1 l2 l3 : Option Value} {j : Int32} {a : Nat} : EE 171 565 [l0, l1, l2, l3] (.int j :: .ref a :: st) (n, I, R) = (ardI 5 n I a j).bind (fun z => EE 171 566 [l0, l1, l2, l3] (.int z :: st) (n, I, R)) := e_iald d171_565
theorem d171_566 : decode (cod 171) 566 = .ok (.invokevirtual 80, 3) := by decide +kernel
theorem s171_566 {l0 l1 l2 l3 : Option Value} {a : Nat} {M : Mm} {b0 : Int32} {st : List Value} (hl : st.length ≤ 4) (ho : isO "HandoverDeskModel" M.1 a = true) : EE 171 566 [l0, l1, l2, l3] (.int b0 :: .ref a :: st) M = (FF 130 (.ref a :: [.int b0]) M).bind (fun z => EE 171 569 [l0, l1, l2, l3] (psh z.1 st) z.2) := e_calv (av := [.int b0]) d171_566 c4_80 rfl rfl rfl r171_130 rfl hl ho
theorem d171_569 : decode (cod 171) 569 = .ok (.if_icmp .eq 249, 3) := by decide +kernel
theorem s171_569 {M : Mm} {st : List Value} {l0 l1 l2 l3 : Option Value} {x y : Int32} : EE 171 569 [l0, l1, l2, l3] (.int y :: .int x :: st) M = if x = y then EE 171 818 [l0, l1, l2, l3] st M else EE 171 572 [l0, l1, l2, l3] st M := e_ceq d171_569 (by decide)
theorem d171_572 : decode (cod 171) 572 = .ok (.iconst 0, 1) := by decide +kernel
theorem s171_572 {M : Mm} {st : List Value} {l0 l1 l2 l3 : Option Value} : EE 171 572 [l0, l1, l2, l3] st M = EE 171 573 [l0, l1, l2, l3] (.int (nI 0) :: st) M := e_con d171_572 k_con_0
theorem d171_573 : decode (cod 171) 573 = .ok (.ireturn, 1) := by decide +kernel
theorem s171_573 {M : Mm} {l0 l1 l2 l3 : Option Value} {v : Int32} (h : narrow .boolean (.int v) = .int v) : EE 171 573 [l0, l1, l2, l3] [.int v] M = some (some (.int v), M) := e_iret d171_573 rfl h
theorem d171_574 : decode (cod 171) 574 = .ok (.aload_n 1, 1) := by decide +kernel
theorem s171_574 {M : Mm} {st : List Value} {l0 l2 l3 : Option Value} {x : Nat} : EE 171 574 [l0, some (.ref x), l2, l3] st M = EE 171 575 [l0, some (.ref x), l2, l3] (.ref x :: st) M := e_ld d171_574 rfl rfl rfl rfl rfl rfl
theorem d171_575 : decode (cod 171) 575 = .ok (.aload_n 0, 1) := by decide +kernel
theorem s171_575 {M : Mm} {st : List Value} {l1 l2 l3 : Option Value} {x : Nat} : EE 171 575 [some (.ref x), l1, l2, l3] st M = EE 171 576 [some (.ref x), l1, l2, l3] (.ref x :: st) M := e_ld d171_575 rfl rfl rfl rfl rfl rfl
theorem d171_576 : decode (cod 171) 576 = .ok (.iload_n 3, 1) := by decide +kernel
theorem s171_576 {M : Mm} {st : List Value} {l0 l1 l2 : Option Value} {x : Int32} : EE 171 576 [l0, l1, l2, some (.int x)] st M = EE 171 577 [l0, l1, l2, some (.int x)] (.int x :: st) M := e_ld d171_576 rfl rfl rfl rfl rfl rfl
theorem d171_577 : decode (cod 171) 577 = .ok (.iconst 1, 1) := by decide +kernel
theorem s171_577 {M : Mm} {st : List Value} {l0 l1 l2 l3 : Option Value} : EE 171 577 [l0, l1, l2, l3] st M = EE 171 578 [l0, l1, l2, l3] (.int (nI 1) :: st) M := e_con d171_577 k_con_1
theorem d171_578 : decode (cod 171) 578 = .ok (.iadd, 1) := by decide +kernel
theorem s171_578 {M : Mm} {st : List Value} {l0 l1 l2 l3 : Option Value} {x y : Int32} : EE 171 578 [l0, l1, l2, l3] (.int y :: .int x :: st) M = EE 171 579 [l0, l1, l2, l3] (.int (x + y) :: st) M := e_II d171_578 rfl rfl rfl rfl rfl rfl
theorem d171_579 : decode (cod 171) 579 = .ok (.iaload, 1) := by decide +kernel
theorem s171_579 {n : Nat} {I : Nat → Nat → Int32} {R : Nat → Nat → Option Nat} {st : List Value} {l0 l1 l2 l3 : Option Value} {j : Int32} {a : Nat} : EE 171 579 [l0, l1, l2, l3] (.int j :: .ref a :: st) (n, I, R) = (ardI 5 n I a j).bind (fun z => EE 171 580 [l0, l1, l2, l3] (.int z :: st) (n, I, R)) := e_iald d171_579
theorem d171_580 : decode (cod 171) 580 = .ok (.invokevirtual 81, 3) := by decide +kernel
theorem s171_580 {l0 l1 l2 l3 : Option Value} {a : Nat} {M : Mm} {b0 : Int32} {st : List Value} (hl : st.length ≤ 4) (ho : isO "HandoverDesk" M.1 a = true) : EE 171 580 [l0, l1, l2, l3] (.int b0 :: .ref a :: st) M = (FF 66 (.ref a :: [.int b0]) M).bind (fun z => EE 171 583 [l0, l1, l2, l3] (psh z.1 st) z.2) := e_calv (av := [.int b0]) d171_580 c4_81 rfl rfl rfl r171_66 rfl hl ho
theorem d171_583 : decode (cod 171) 583 = .ok (.aload_n 2, 1) := by decide +kernel
theorem s171_583 {M : Mm} {st : List Value} {l0 l1 l3 : Option Value} {x : Nat} : EE 171 583 [l0, l1, some (.ref x), l3] st M = EE 171 584 [l0, l1, some (.ref x), l3] (.ref x :: st) M := e_ld d171_583 rfl rfl rfl rfl rfl rfl
theorem d171_584 : decode (cod 171) 584 = .ok (.aload_n 0, 1) := by decide +kernel
theorem s171_584 {M : Mm} {st : List Value} {l1 l2 l3 : Option Value} {x : Nat} : EE 171 584 [some (.ref x), l1, l2, l3] st M = EE 171 585 [some (.ref x), l1, l2, l3] (.ref x :: st) M := e_ld d171_584 rfl rfl rfl rfl rfl rfl
theorem d171_585 : decode (cod 171) 585 = .ok (.iload_n 3, 1) := by decide +kernel
theorem s171_585 {M : Mm} {st : List Value} {l0 l1 l2 : Option Value} {x : Int32} : EE 171 585 [l0, l1, l2, some (.int x)] st M = EE 171 586 [l0, l1, l2, some (.int x)] (.int x :: st) M := e_ld d171_585 rfl rfl rfl rfl rfl rfl
theorem d171_586 : decode (cod 171) 586 = .ok (.iconst 1, 1) := by decide +kernel
theorem s171_586 {M : Mm} {st : List Value} {l0 l1 l2 l3 : Option Value} : EE 171 586 [l0, l1, l2, l3] st M = EE 171 587 [l0, l1, l2, l3] (.int (nI 1) :: st) M := e_con d171_586 k_con_1
theorem d171_587 : decode (cod 171) 587 = .ok (.iadd, 1) := by decide +kernel
theorem s171_587 {M : Mm} {st : List Value} {l0 l1 l2 l3 : Option Value} {x y : Int32} : EE 171 587 [l0, l1, l2, l3] (.int y :: .int x :: st) M = EE 171 588 [l0, l1, l2, l3] (.int (x + y) :: st) M := e_II d171_587 rfl rfl rfl rfl rfl rfl
theorem d171_588 : decode (cod 171) 588 = .ok (.iaload, 1) := by decide +kernel
theorem s171_588 {n : Nat} {I : Nat → Nat → Int32} {R : Nat → Nat → Option Nat} {st : List Value} {l0 l1 l2 l3 : Option Value} {j : Int32} {a : Nat} : EE 171 588 [l0, l1, l2, l3] (.int j :: .ref a :: st) (n, I, R) = (ardI 5 n I a j).bind (fun z => EE 171 589 [l0, l1, l2, l3] (.int z :: st) (n, I, R)) := e_iald d171_588
theorem d171_589 : decode (cod 171) 589 = .ok (.invokevirtual 85, 3) := by decide +kernel
theorem s171_589 {l0 l1 l2 l3 : Option Value} {a : Nat} {M : Mm} {b0 : Int32} {st : List Value} (hl : st.length ≤ 4) (ho : isO "HandoverDeskModel" M.1 a = true) : EE 171 589 [l0, l1, l2, l3] (.int b0 :: .ref a :: st) M = (FF 131 (.ref a :: [.int b0]) M).bind (fun z => EE 171 592 [l0, l1, l2, l3] (psh z.1 st) z.2) := e_calv (av := [.int b0]) d171_589 c4_85 rfl rfl rfl r171_131 rfl hl ho
theorem d171_592 : decode (cod 171) 592 = .ok (.lcmp, 1) := by decide +kernel
theorem s171_592 {M : Mm} {st : List Value} {l0 l1 l2 l3 : Option Value} {x y : Int64} : EE 171 592 [l0, l1, l2, l3] (.long y :: .long x :: st) M = EE 171 593 [l0, l1, l2, l3] (.int (lg_cmp x y) :: st) M := e_lcmp d171_592
theorem d171_593 : decode (cod 171) 593 = .ok (.ifCond .eq 225, 3) := by decide +kernel
theorem s171_593 {M : Mm} {st : List Value} {l0 l1 l2 l3 : Option Value} {x : Int32} : EE 171 593 [l0, l1, l2, l3] (.int x :: st) M = if x = 0 then EE 171 818 [l0, l1, l2, l3] st M else EE 171 596 [l0, l1, l2, l3] st M := e_eq0 d171_593 (by decide)
theorem d171_596 : decode (cod 171) 596 = .ok (.iconst 0, 1) := by decide +kernel
theorem s171_596 {M : Mm} {st : List Value} {l0 l1 l2 l3 : Option Value} : EE 171 596 [l0, l1, l2, l3] st M = EE 171 597 [l0, l1, l2, l3] (.int (nI 0) :: st) M := e_con d171_596 k_con_0
theorem d171_597 : decode (cod 171) 597 = .ok (.ireturn, 1) := by decide +kernel
theorem s171_597 {M : Mm} {l0 l1 l2 l3 : Option Value} {v : Int32} (h : narrow .boolean (.int v) = .int v) : EE 171 597 [l0, l1, l2, l3] [.int v] M = some (some (.int v), M) := e_iret d171_597 rfl h
theorem d171_598 : decode (cod 171) 598 = .ok (.aload_n 1, 1) := by decide +kernel
theorem s171_598 {M : Mm} {st : List Value} {l0 l2 l3 : Option Value} {x : Nat} : EE 171 598 [l0, some (.ref x), l2, l3] st M = EE 171 599 [l0, some (.ref x), l2, l3] (.ref x :: st) M := e_ld d171_598 rfl rfl rfl rfl rfl rfl
theorem d171_599 : decode (cod 171) 599 = .ok (.invokevirtual 86, 3) := by decide +kernel
theorem s171_599 {l0 l1 l2 l3 : Option Value} {a : Nat} {M : Mm} {st : List Value} (hl : st.length ≤ 4) (ho : isO "HandoverDesk" M.1 a = true) : EE 171 599 [l0, l1, l2, l3] (.ref a :: st) M = (FF 68 (.ref a :: []) M).bind (fun z => EE 171 602 [l0, l1, l2, l3] (psh z.1 st) z.2) := e_calv (av := []) d171_599 c4_86 rfl rfl rfl r171_68 rfl hl ho
theorem d171_602 : decode (cod 171) 602 = .ok (.aload_n 2, 1) := by decide +kernel
theorem s171_602 {M : Mm} {st : List Value} {l0 l1 l3 : Option Value} {x : Nat} : EE 171 602 [l0, l1, some (.ref x), l3] st M = EE 171 603 [l0, l1, some (.ref x), l3] (.ref x :: st) M := e_ld d171_602 rfl rfl rfl rfl rfl rfl
theorem d171_603 : decode (cod 171) 603 = .ok (.invokevirtual 89, 3) := by decide +kernel
theorem s171_603 {l0 l1 l2 l3 : Option Value} {a : Nat} {M : Mm} {st : List Value} (hl : st.length ≤ 4) (ho : isO "HandoverDeskModel" M.1 a = true) : EE 171 603 [l0, l1, l2, l3] (.ref a :: st) M = (FF 132 (.ref a :: []) M).bind (fun z => EE 171 606 [l0, l1, l2, l3] (psh z.1 st) z.2) := e_calv (av := []) d171_603 c4_89 rfl rfl rfl r171_132 rfl hl ho
theorem d171_606 : decode (cod 171) 606 = .ok (.if_icmp .eq 212, 3) := by decide +kernel
theorem s171_606 {M : Mm} {st : List Value} {l0 l1 l2 l3 : Option Value} {x y : Int32} : EE 171 606 [l0, l1, l2, l3] (.int y :: .int x :: st) M = if x = y then EE 171 818 [l0, l1, l2, l3] st M else EE 171 609 [l0, l1, l2, l3] st M := e_ceq d171_606 (by decide)
theorem d171_609 : decode (cod 171) 609 = .ok (.iconst 0, 1) := by decide +kernel
theorem s171_609 {M : Mm} {st : List Value} {l0 l1 l2 l3 : Option Value} : EE 171 609 [l0, l1, l2, l3] st M = EE 171 610 [l0, l1, l2, l3] (.int (nI 0) :: st) M := e_con d171_609 k_con_0
theorem d171_610 : decode (cod 171) 610 = .ok (.ireturn, 1) := by decide +kernel
theorem s171_610 {M : Mm} {l0 l1 l2 l3 : Option Value} {v : Int32} (h : narrow .boolean (.int v) = .int v) : EE 171 610 [l0, l1, l2, l3] [.int v] M = some (some (.int v), M) := e_iret d171_610 rfl h
theorem d171_611 : decode (cod 171) 611 = .ok (.aload_n 1, 1) := by decide +kernel
theorem s171_611 {M : Mm} {st : List Value} {l0 l2 l3 : Option Value} {x : Nat} : EE 171 611 [l0, some (.ref x), l2, l3] st M = EE 171 612 [l0, some (.ref x), l2, l3] (.ref x :: st) M := e_ld d171_611 rfl rfl rfl rfl rfl rfl
theorem d171_612 : decode (cod 171) 612 = .ok (.aload_n 0, 1) := by decide +kernel
theorem s171_612 {M : Mm} {st : List Value} {l1 l2 l3 : Option Value} {x : Nat} : EE 171 612 [some (.ref x), l1, l2, l3] st M = EE 171 613 [some (.ref x), l1, l2, l3] (.ref x :: st) M := e_ld d171_612 rfl rfl rfl rfl rfl rfl
theorem d171_613 : decode (cod 171) 613 = .ok (.iload_n 3, 1) := by decide +kernel
theorem s171_613 {M : Mm} {st : List Value} {l0 l1 l2 : Option Value} {x : Int32} : EE 171 613 [l0, l1, l2, some (.int x)] st M = EE 171 614 [l0, l1, l2, some (.int x)] (.int x :: st) M := e_ld d171_613 rfl rfl rfl rfl rfl rfl
theorem d171_614 : decode (cod 171) 614 = .ok (.iconst 1, 1) := by decide +kernel
theorem s171_614 {M : Mm} {st : List Value} {l0 l1 l2 l3 : Option Value} : EE 171 614 [l0, l1, l2, l3] st M = EE 171 615 [l0, l1, l2, l3] (.int (nI 1) :: st) M := e_con d171_614 k_con_1
theorem d171_615 : decode (cod 171) 615 = .ok (.iadd, 1) := by decide +kernel
theorem s171_615 {M : Mm} {st : List Value} {l0 l1 l2 l3 : Option Value} {x y : Int32} : EE 171 615 [l0, l1, l2, l3] (.int y :: .int x :: st) M = EE 171 616 [l0, l1, l2, l3] (.int (x + y) :: st) M := e_II d171_615 rfl rfl rfl rfl rfl rfl
theorem d171_616 : decode (cod 171) 616 = .ok (.iaload, 1) := by decide +kernel
theorem s171_616 {n : Nat} {I : Nat → Nat → Int32} {R : Nat → Nat → Option Nat} {st : List Value} {l0 l1 l2 l3 : Option Value} {j : Int32} {a : Nat} : EE 171 616 [l0, l1, l2, l3] (.int j :: .ref a :: st) (n, I, R) = (ardI 5 n I a j).bind (fun z => EE 171 617 [l0, l1, l2, l3] (.int z :: st) (n, I, R)) := e_iald d171_616
theorem d171_617 : decode (cod 171) 617 = .ok (.invokevirtual 90, 3) := by decide +kernel
theorem s171_617 {l0 l1 l2 l3 : Option Value} {a : Nat} {M : Mm} {b0 : Int32} {st : List Value} (hl : st.length ≤ 4) (ho : isO "HandoverDesk" M.1 a = true) : EE 171 617 [l0, l1, l2, l3] (.int b0 :: .ref a :: st) M = (FF 69 (.ref a :: [.int b0]) M).bind (fun z => EE 171 620 [l0, l1, l2, l3] (psh z.1 st) z.2) := e_calv (av := [.int b0]) d171_617 c4_90 rfl rfl rfl r171_69 rfl hl ho
theorem d171_620 : decode (cod 171) 620 = .ok (.aload_n 2, 1) := by decide +kernel
theorem s171_620 {M : Mm} {st : List Value} {l0 l1 l3 : Option Value} {x : Nat} : EE 171 620 [l0, l1, some (.ref x), l3] st M = EE 171 621 [l0, l1, some (.ref x), l3] (.ref x :: st) M := e_ld d171_620 rfl rfl rfl rfl rfl rfl
theorem d171_621 : decode (cod 171) 621 = .ok (.aload_n 0, 1) := by decide +kernel
theorem s171_621 {M : Mm} {st : List Value} {l1 l2 l3 : Option Value} {x : Nat} : EE 171 621 [some (.ref x), l1, l2, l3] st M = EE 171 622 [some (.ref x), l1, l2, l3] (.ref x :: st) M := e_ld d171_621 rfl rfl rfl rfl rfl rfl
theorem d171_622 : decode (cod 171) 622 = .ok (.iload_n 3, 1) := by decide +kernel
theorem s171_622 {M : Mm} {st : List Value} {l0 l1 l2 : Option Value} {x : Int32} : EE 171 622 [l0, l1, l2, some (.int x)] st M = EE 171 623 [l0, l1, l2, some (.int x)] (.int x :: st) M := e_ld d171_622 rfl rfl rfl rfl rfl rfl
theorem d171_623 : decode (cod 171) 623 = .ok (.iconst 1, 1) := by decide +kernel
theorem s171_623 {M : Mm} {st : List Value} {l0 l1 l2 l3 : Option Value} : EE 171 623 [l0, l1, l2, l3] st M = EE 171 624 [l0, l1, l2, l3] (.int (nI 1) :: st) M := e_con d171_623 k_con_1
theorem d171_624 : decode (cod 171) 624 = .ok (.iadd, 1) := by decide +kernel
theorem s171_624 {M : Mm} {st : List Value} {l0 l1 l2 l3 : Option Value} {x y : Int32} : EE 171 624 [l0, l1, l2, l3] (.int y :: .int x :: st) M = EE 171 625 [l0, l1, l2, l3] (.int (x + y) :: st) M := e_II d171_624 rfl rfl rfl rfl rfl rfl
theorem d171_625 : decode (cod 171) 625 = .ok (.iaload, 1) := by decide +kernel
theorem s171_625 {n : Nat} {I : Nat → Nat → Int32} {R : Nat → Nat → Option Nat} {st : List Value} {l0 l1 l2 l3 : Option Value} {j : Int32} {a : Nat} : EE 171 625 [l0, l1, l2, l3] (.int j :: .ref a :: st) (n, I, R) = (ardI 5 n I a j).bind (fun z => EE 171 626 [l0, l1, l2, l3] (.int z :: st) (n, I, R)) := e_iald d171_625
theorem d171_626 : decode (cod 171) 626 = .ok (.invokevirtual 93, 3) := by decide +kernel
theorem s171_626 {l0 l1 l2 l3 : Option Value} {a : Nat} {M : Mm} {b0 : Int32} {st : List Value} (hl : st.length ≤ 4) (ho : isO "HandoverDeskModel" M.1 a = true) : EE 171 626 [l0, l1, l2, l3] (.int b0 :: .ref a :: st) M = (FF 134 (.ref a :: [.int b0]) M).bind (fun z => EE 171 629 [l0, l1, l2, l3] (psh z.1 st) z.2) := e_calv (av := [.int b0]) d171_626 c4_93 rfl rfl rfl r171_134 rfl hl ho
theorem d171_629 : decode (cod 171) 629 = .ok (.if_icmp .eq 189, 3) := by decide +kernel
theorem s171_629 {M : Mm} {st : List Value} {l0 l1 l2 l3 : Option Value} {x y : Int32} : EE 171 629 [l0, l1, l2, l3] (.int y :: .int x :: st) M = if x = y then EE 171 818 [l0, l1, l2, l3] st M else EE 171 632 [l0, l1, l2, l3] st M := e_ceq d171_629 (by decide)
theorem d171_632 : decode (cod 171) 632 = .ok (.iconst 0, 1) := by decide +kernel
theorem s171_632 {M : Mm} {st : List Value} {l0 l1 l2 l3 : Option Value} : EE 171 632 [l0, l1, l2, l3] st M = EE 171 633 [l0, l1, l2, l3] (.int (nI 0) :: st) M := e_con d171_632 k_con_0
theorem d171_633 : decode (cod 171) 633 = .ok (.ireturn, 1) := by decide +kernel
theorem s171_633 {M : Mm} {l0 l1 l2 l3 : Option Value} {v : Int32} (h : narrow .boolean (.int v) = .int v) : EE 171 633 [l0, l1, l2, l3] [.int v] M = some (some (.int v), M) := e_iret d171_633 rfl h
theorem d171_634 : decode (cod 171) 634 = .ok (.aload_n 1, 1) := by decide +kernel
theorem s171_634 {M : Mm} {st : List Value} {l0 l2 l3 : Option Value} {x : Nat} : EE 171 634 [l0, some (.ref x), l2, l3] st M = EE 171 635 [l0, some (.ref x), l2, l3] (.ref x :: st) M := e_ld d171_634 rfl rfl rfl rfl rfl rfl
theorem d171_635 : decode (cod 171) 635 = .ok (.aload_n 0, 1) := by decide +kernel
theorem s171_635 {M : Mm} {st : List Value} {l1 l2 l3 : Option Value} {x : Nat} : EE 171 635 [some (.ref x), l1, l2, l3] st M = EE 171 636 [some (.ref x), l1, l2, l3] (.ref x :: st) M := e_ld d171_635 rfl rfl rfl rfl rfl rfl
theorem d171_636 : decode (cod 171) 636 = .ok (.iload_n 3, 1) := by decide +kernel
theorem s171_636 {M : Mm} {st : List Value} {l0 l1 l2 : Option Value} {x : Int32} : EE 171 636 [l0, l1, l2, some (.int x)] st M = EE 171 637 [l0, l1, l2, some (.int x)] (.int x :: st) M := e_ld d171_636 rfl rfl rfl rfl rfl rfl
theorem d171_637 : decode (cod 171) 637 = .ok (.iconst 1, 1) := by decide +kernel
theorem s171_637 {M : Mm} {st : List Value} {l0 l1 l2 l3 : Option Value} : EE 171 637 [l0, l1, l2, l3] st M = EE 171 638 [l0, l1, l2, l3] (.int (nI 1) :: st) M := e_con d171_637 k_con_1
theorem d171_638 : decode (cod 171) 638 = .ok (.iadd, 1) := by decide +kernel
theorem s171_638 {M : Mm} {st : List Value} {l0 l1 l2 l3 : Option Value} {x y : Int32} : EE 171 638 [l0, l1, l2, l3] (.int y :: .int x :: st) M = EE 171 639 [l0, l1, l2, l3] (.int (x + y) :: st) M := e_II d171_638 rfl rfl rfl rfl rfl rfl
theorem d171_639 : decode (cod 171) 639 = .ok (.iaload, 1) := by decide +kernel
theorem s171_639 {n : Nat} {I : Nat → Nat → Int32} {R : Nat → Nat → Option Nat} {st : List Value} {l0 l1 l2 l3 : Option Value} {j : Int32} {a : Nat} : EE 171 639 [l0, l1, l2, l3] (.int j :: .ref a :: st) (n, I, R) = (ardI 5 n I a j).bind (fun z => EE 171 640 [l0, l1, l2, l3] (.int z :: st) (n, I, R)) := e_iald d171_639
theorem d171_640 : decode (cod 171) 640 = .ok (.aload_n 0, 1) := by decide +kernel
theorem s171_640 {M : Mm} {st : List Value} {l1 l2 l3 : Option Value} {x : Nat} : EE 171 640 [some (.ref x), l1, l2, l3] st M = EE 171 641 [some (.ref x), l1, l2, l3] (.ref x :: st) M := e_ld d171_640 rfl rfl rfl rfl rfl rfl
theorem d171_641 : decode (cod 171) 641 = .ok (.iload_n 3, 1) := by decide +kernel
theorem s171_641 {M : Mm} {st : List Value} {l0 l1 l2 : Option Value} {x : Int32} : EE 171 641 [l0, l1, l2, some (.int x)] st M = EE 171 642 [l0, l1, l2, some (.int x)] (.int x :: st) M := e_ld d171_641 rfl rfl rfl rfl rfl rfl
theorem d171_642 : decode (cod 171) 642 = .ok (.iconst 2, 1) := by decide +kernel
theorem s171_642 {M : Mm} {st : List Value} {l0 l1 l2 l3 : Option Value} : EE 171 642 [l0, l1, l2, l3] st M = EE 171 643 [l0, l1, l2, l3] (.int (nI 2) :: st) M := e_con d171_642 k_con_2
theorem d171_643 : decode (cod 171) 643 = .ok (.iadd, 1) := by decide +kernel
theorem s171_643 {M : Mm} {st : List Value} {l0 l1 l2 l3 : Option Value} {x y : Int32} : EE 171 643 [l0, l1, l2, l3] (.int y :: .int x :: st) M = EE 171 644 [l0, l1, l2, l3] (.int (x + y) :: st) M := e_II d171_643 rfl rfl rfl rfl rfl rfl
theorem d171_644 : decode (cod 171) 644 = .ok (.iaload, 1) := by decide +kernel
theorem s171_644 {n : Nat} {I : Nat → Nat → Int32} {R : Nat → Nat → Option Nat} {st : List Value} {l0 l1 l2 l3 : Option Value} {j : Int32} {a : Nat} : EE 171 644 [l0, l1, l2, l3] (.int j :: .ref a :: st) (n, I, R) = (ardI 5 n I a j).bind (fun z => EE 171 645 [l0, l1, l2, l3] (.int z :: st) (n, I, R)) := e_iald d171_644
theorem d171_645 : decode (cod 171) 645 = .ok (.invokevirtual 94, 3) := by decide +kernel
theorem s171_645 {l0 l1 l2 l3 : Option Value} {a : Nat} {M : Mm} {b0 : Int32} {b1 : Int32} {st : List Value} (hl : st.length ≤ 4) (ho : isO "HandoverDesk" M.1 a = true) : EE 171 645 [l0, l1, l2, l3] (.int b1 :: .int b0 :: .ref a :: st) M = (FF 70 (.ref a :: [.int b0, .int b1]) M).bind (fun z => EE 171 648 [l0, l1, l2, l3] (psh z.1 st) z.2) := e_calv (av := [.int b0, .int b1]) d171_645 c4_94 rfl rfl rfl r171_70 rfl hl ho
theorem d171_648 : decode (cod 171) 648 = .ok (.aload_n 2, 1) := by decide +kernel
theorem s171_648 {M : Mm} {st : List Value} {l0 l1 l3 : Option Value} {x : Nat} : EE 171 648 [l0, l1, some (.ref x), l3] st M = EE 171 649 [l0, l1, some (.ref x), l3] (.ref x :: st) M := e_ld d171_648 rfl rfl rfl rfl rfl rfl
theorem d171_649 : decode (cod 171) 649 = .ok (.aload_n 0, 1) := by decide +kernel
theorem s171_649 {M : Mm} {st : List Value} {l1 l2 l3 : Option Value} {x : Nat} : EE 171 649 [some (.ref x), l1, l2, l3] st M = EE 171 650 [some (.ref x), l1, l2, l3] (.ref x :: st) M := e_ld d171_649 rfl rfl rfl rfl rfl rfl
theorem d171_650 : decode (cod 171) 650 = .ok (.iload_n 3, 1) := by decide +kernel
theorem s171_650 {M : Mm} {st : List Value} {l0 l1 l2 : Option Value} {x : Int32} : EE 171 650 [l0, l1, l2, some (.int x)] st M = EE 171 651 [l0, l1, l2, some (.int x)] (.int x :: st) M := e_ld d171_650 rfl rfl rfl rfl rfl rfl
theorem d171_651 : decode (cod 171) 651 = .ok (.iconst 1, 1) := by decide +kernel
theorem s171_651 {M : Mm} {st : List Value} {l0 l1 l2 l3 : Option Value} : EE 171 651 [l0, l1, l2, l3] st M = EE 171 652 [l0, l1, l2, l3] (.int (nI 1) :: st) M := e_con d171_651 k_con_1
theorem d171_652 : decode (cod 171) 652 = .ok (.iadd, 1) := by decide +kernel
theorem s171_652 {M : Mm} {st : List Value} {l0 l1 l2 l3 : Option Value} {x y : Int32} : EE 171 652 [l0, l1, l2, l3] (.int y :: .int x :: st) M = EE 171 653 [l0, l1, l2, l3] (.int (x + y) :: st) M := e_II d171_652 rfl rfl rfl rfl rfl rfl
theorem d171_653 : decode (cod 171) 653 = .ok (.iaload, 1) := by decide +kernel
theorem s171_653 {n : Nat} {I : Nat → Nat → Int32} {R : Nat → Nat → Option Nat} {st : List Value} {l0 l1 l2 l3 : Option Value} {j : Int32} {a : Nat} : EE 171 653 [l0, l1, l2, l3] (.int j :: .ref a :: st) (n, I, R) = (ardI 5 n I a j).bind (fun z => EE 171 654 [l0, l1, l2, l3] (.int z :: st) (n, I, R)) := e_iald d171_653
theorem d171_654 : decode (cod 171) 654 = .ok (.aload_n 0, 1) := by decide +kernel
theorem s171_654 {M : Mm} {st : List Value} {l1 l2 l3 : Option Value} {x : Nat} : EE 171 654 [some (.ref x), l1, l2, l3] st M = EE 171 655 [some (.ref x), l1, l2, l3] (.ref x :: st) M := e_ld d171_654 rfl rfl rfl rfl rfl rfl
theorem d171_655 : decode (cod 171) 655 = .ok (.iload_n 3, 1) := by decide +kernel
theorem s171_655 {M : Mm} {st : List Value} {l0 l1 l2 : Option Value} {x : Int32} : EE 171 655 [l0, l1, l2, some (.int x)] st M = EE 171 656 [l0, l1, l2, some (.int x)] (.int x :: st) M := e_ld d171_655 rfl rfl rfl rfl rfl rfl
theorem d171_656 : decode (cod 171) 656 = .ok (.iconst 2, 1) := by decide +kernel
theorem s171_656 {M : Mm} {st : List Value} {l0 l1 l2 l3 : Option Value} : EE 171 656 [l0, l1, l2, l3] st M = EE 171 657 [l0, l1, l2, l3] (.int (nI 2) :: st) M := e_con d171_656 k_con_2
theorem d171_657 : decode (cod 171) 657 = .ok (.iadd, 1) := by decide +kernel
theorem s171_657 {M : Mm} {st : List Value} {l0 l1 l2 l3 : Option Value} {x y : Int32} : EE 171 657 [l0, l1, l2, l3] (.int y :: .int x :: st) M = EE 171 658 [l0, l1, l2, l3] (.int (x + y) :: st) M := e_II d171_657 rfl rfl rfl rfl rfl rfl
theorem d171_658 : decode (cod 171) 658 = .ok (.iaload, 1) := by decide +kernel
theorem s171_658 {n : Nat} {I : Nat → Nat → Int32} {R : Nat → Nat → Option Nat} {st : List Value} {l0 l1 l2 l3 : Option Value} {j : Int32} {a : Nat} : EE 171 658 [l0, l1, l2, l3] (.int j :: .ref a :: st) (n, I, R) = (ardI 5 n I a j).bind (fun z => EE 171 659 [l0, l1, l2, l3] (.int z :: st) (n, I, R)) := e_iald d171_658
theorem d171_659 : decode (cod 171) 659 = .ok (.invokevirtual 97, 3) := by decide +kernel
theorem s171_659 {l0 l1 l2 l3 : Option Value} {a : Nat} {M : Mm} {b0 : Int32} {b1 : Int32} {st : List Value} (hl : st.length ≤ 4) (ho : isO "HandoverDeskModel" M.1 a = true) : EE 171 659 [l0, l1, l2, l3] (.int b1 :: .int b0 :: .ref a :: st) M = (FF 135 (.ref a :: [.int b0, .int b1]) M).bind (fun z => EE 171 662 [l0, l1, l2, l3] (psh z.1 st) z.2) := e_calv (av := [.int b0, .int b1]) d171_659 c4_97 rfl rfl rfl r171_135 rfl hl ho
theorem d171_662 : decode (cod 171) 662 = .ok (.if_icmp .eq 156, 3) := by decide +kernel
theorem s171_662 {M : Mm} {st : List Value} {l0 l1 l2 l3 : Option Value} {x y : Int32} : EE 171 662 [l0, l1, l2, l3] (.int y :: .int x :: st) M = if x = y then EE 171 818 [l0, l1, l2, l3] st M else EE 171 665 [l0, l1, l2, l3] st M := e_ceq d171_662 (by decide)
theorem d171_665 : decode (cod 171) 665 = .ok (.iconst 0, 1) := by decide +kernel
theorem s171_665 {M : Mm} {st : List Value} {l0 l1 l2 l3 : Option Value} : EE 171 665 [l0, l1, l2, l3] st M = EE 171 666 [l0, l1, l2, l3] (.int (nI 0) :: st) M := e_con d171_665 k_con_0
theorem d171_666 : decode (cod 171) 666 = .ok (.ireturn, 1) := by decide +kernel
theorem s171_666 {M : Mm} {l0 l1 l2 l3 : Option Value} {v : Int32} (h : narrow .boolean (.int v) = .int v) : EE 171 666 [l0, l1, l2, l3] [.int v] M = some (some (.int v), M) := e_iret d171_666 rfl h
theorem d171_667 : decode (cod 171) 667 = .ok (.aload_n 1, 1) := by decide +kernel
theorem s171_667 {M : Mm} {st : List Value} {l0 l2 l3 : Option Value} {x : Nat} : EE 171 667 [l0, some (.ref x), l2, l3] st M = EE 171 668 [l0, some (.ref x), l2, l3] (.ref x :: st) M := e_ld d171_667 rfl rfl rfl rfl rfl rfl
theorem d171_668 : decode (cod 171) 668 = .ok (.aload_n 0, 1) := by decide +kernel
theorem s171_668 {M : Mm} {st : List Value} {l1 l2 l3 : Option Value} {x : Nat} : EE 171 668 [some (.ref x), l1, l2, l3] st M = EE 171 669 [some (.ref x), l1, l2, l3] (.ref x :: st) M := e_ld d171_668 rfl rfl rfl rfl rfl rfl
theorem d171_669 : decode (cod 171) 669 = .ok (.iload_n 3, 1) := by decide +kernel
theorem s171_669 {M : Mm} {st : List Value} {l0 l1 l2 : Option Value} {x : Int32} : EE 171 669 [l0, l1, l2, some (.int x)] st M = EE 171 670 [l0, l1, l2, some (.int x)] (.int x :: st) M := e_ld d171_669 rfl rfl rfl rfl rfl rfl
theorem d171_670 : decode (cod 171) 670 = .ok (.iconst 1, 1) := by decide +kernel
theorem s171_670 {M : Mm} {st : List Value} {l0 l1 l2 l3 : Option Value} : EE 171 670 [l0, l1, l2, l3] st M = EE 171 671 [l0, l1, l2, l3] (.int (nI 1) :: st) M := e_con d171_670 k_con_1
theorem d171_671 : decode (cod 171) 671 = .ok (.iadd, 1) := by decide +kernel
theorem s171_671 {M : Mm} {st : List Value} {l0 l1 l2 l3 : Option Value} {x y : Int32} : EE 171 671 [l0, l1, l2, l3] (.int y :: .int x :: st) M = EE 171 672 [l0, l1, l2, l3] (.int (x + y) :: st) M := e_II d171_671 rfl rfl rfl rfl rfl rfl
theorem d171_672 : decode (cod 171) 672 = .ok (.iaload, 1) := by decide +kernel
theorem s171_672 {n : Nat} {I : Nat → Nat → Int32} {R : Nat → Nat → Option Nat} {st : List Value} {l0 l1 l2 l3 : Option Value} {j : Int32} {a : Nat} : EE 171 672 [l0, l1, l2, l3] (.int j :: .ref a :: st) (n, I, R) = (ardI 5 n I a j).bind (fun z => EE 171 673 [l0, l1, l2, l3] (.int z :: st) (n, I, R)) := e_iald d171_672
theorem d171_673 : decode (cod 171) 673 = .ok (.i2l, 1) := by decide +kernel
theorem s171_673 {M : Mm} {st : List Value} {l0 l1 l2 l3 : Option Value} {x : Int32} : EE 171 673 [l0, l1, l2, l3] (.int x :: st) M = EE 171 674 [l0, l1, l2, l3] (.long x.toInt64 :: st) M := e_U d171_673 rfl rfl rfl rfl rfl (bn_i2l x) rfl
theorem d171_674 : decode (cod 171) 674 = .ok (.bipush 32, 2) := by decide +kernel
theorem s171_674 {M : Mm} {st : List Value} {l0 l1 l2 l3 : Option Value} : EE 171 674 [l0, l1, l2, l3] st M = EE 171 676 [l0, l1, l2, l3] (.int (nI 32) :: st) M := e_bip d171_674 k_bip_32
theorem d171_676 : decode (cod 171) 676 = .ok (.lshl, 1) := by decide +kernel
theorem s171_676 {M : Mm} {st : List Value} {l0 l1 l2 l3 : Option Value} {x : Int64} {y : Int32} : EE 171 676 [l0, l1, l2, l3] (.int y :: .long x :: st) M = EE 171 677 [l0, l1, l2, l3] (.long (x <<< (y.toInt64 &&& 63)) :: st) M := e_sh d171_676 rfl rfl rfl rfl rfl rfl
theorem d171_677 : decode (cod 171) 677 = .ok (.aload_n 0, 1) := by decide +kernel
theorem s171_677 {M : Mm} {st : List Value} {l1 l2 l3 : Option Value} {x : Nat} : EE 171 677 [some (.ref x), l1, l2, l3] st M = EE 171 678 [some (.ref x), l1, l2, l3] (.ref x :: st) M := e_ld d171_677 rfl rfl rfl rfl rfl rfl
theorem d171_678 : decode (cod 171) 678 = .ok (.iload_n 3, 1) := by decide +kernel
theorem s171_678 {M : Mm} {st : List Value} {l0 l1 l2 : Option Value} {x : Int32} : EE 171 678 [l0, l1, l2, some (.int x)] st M = EE 171 679 [l0, l1, l2, some (.int x)] (.int x :: st) M := e_ld d171_678 rfl rfl rfl rfl rfl rfl
theorem d171_679 : decode (cod 171) 679 = .ok (.iconst 2, 1) := by decide +kernel
theorem s171_679 {M : Mm} {st : List Value} {l0 l1 l2 l3 : Option Value} : EE 171 679 [l0, l1, l2, l3] st M = EE 171 680 [l0, l1, l2, l3] (.int (nI 2) :: st) M := e_con d171_679 k_con_2
theorem d171_680 : decode (cod 171) 680 = .ok (.iadd, 1) := by decide +kernel
theorem s171_680 {M : Mm} {st : List Value} {l0 l1 l2 l3 : Option Value} {x y : Int32} : EE 171 680 [l0, l1, l2, l3] (.int y :: .int x :: st) M = EE 171 681 [l0, l1, l2, l3] (.int (x + y) :: st) M := e_II d171_680 rfl rfl rfl rfl rfl rfl
theorem d171_681 : decode (cod 171) 681 = .ok (.iaload, 1) := by decide +kernel
theorem s171_681 {n : Nat} {I : Nat → Nat → Int32} {R : Nat → Nat → Option Nat} {st : List Value} {l0 l1 l2 l3 : Option Value} {j : Int32} {a : Nat} : EE 171 681 [l0, l1, l2, l3] (.int j :: .ref a :: st) (n, I, R) = (ardI 5 n I a j).bind (fun z => EE 171 682 [l0, l1, l2, l3] (.int z :: st) (n, I, R)) := e_iald d171_681
theorem d171_682 : decode (cod 171) 682 = .ok (.i2l, 1) := by decide +kernel
theorem s171_682 {M : Mm} {st : List Value} {l0 l1 l2 l3 : Option Value} {x : Int32} : EE 171 682 [l0, l1, l2, l3] (.int x :: st) M = EE 171 683 [l0, l1, l2, l3] (.long x.toInt64 :: st) M := e_U d171_682 rfl rfl rfl rfl rfl (bn_i2l x) rfl
theorem d171_683 : decode (cod 171) 683 = .ok (.ldc2_w 98, 3) := by decide +kernel
theorem s171_683 {M : Mm} {st : List Value} {l0 l1 l2 l3 : Option Value} : EE 171 683 [l0, l1, l2, l3] st M = EE 171 686 [l0, l1, l2, l3] (.long (4294967295) :: st) M := e_ldc2 d171_683 q4_98
theorem d171_686 : decode (cod 171) 686 = .ok (.land, 1) := by decide +kernel
theorem s171_686 {M : Mm} {st : List Value} {l0 l1 l2 l3 : Option Value} {x y : Int64} : EE 171 686 [l0, l1, l2, l3] (.long y :: .long x :: st) M = EE 171 687 [l0, l1, l2, l3] (.long (x &&& y) :: st) M := e_LL d171_686 rfl rfl rfl rfl rfl rfl
theorem d171_687 : decode (cod 171) 687 = .ok (.lor, 1) := by decide +kernel
theorem s171_687 {M : Mm} {st : List Value} {l0 l1 l2 l3 : Option Value} {x y : Int64} : EE 171 687 [l0, l1, l2, l3] (.long y :: .long x :: st) M = EE 171 688 [l0, l1, l2, l3] (.long (x ||| y) :: st) M := e_LL d171_687 rfl rfl rfl rfl rfl rfl
theorem d171_688 : decode (cod 171) 688 = .ok (.invokevirtual 100, 3) := by decide +kernel
theorem s171_688 {l0 l1 l2 l3 : Option Value} {a : Nat} {M : Mm} {b0 : Int64} {st : List Value} (hl : st.length ≤ 4) (ho : isO "HandoverDesk" M.1 a = true) : EE 171 688 [l0, l1, l2, l3] (.long b0 :: .ref a :: st) M = (FF 72 (.ref a :: [.long b0]) M).bind (fun z => EE 171 691 [l0, l1, l2, l3] (psh z.1 st) z.2) := e_calv (av := [.long b0]) d171_688 c4_100 rfl rfl rfl r171_72 rfl hl ho
theorem d171_691 : decode (cod 171) 691 = .ok (.aload_n 2, 1) := by decide +kernel
theorem s171_691 {M : Mm} {st : List Value} {l0 l1 l3 : Option Value} {x : Nat} : EE 171 691 [l0, l1, some (.ref x), l3] st M = EE 171 692 [l0, l1, some (.ref x), l3] (.ref x :: st) M := e_ld d171_691 rfl rfl rfl rfl rfl rfl
theorem d171_692 : decode (cod 171) 692 = .ok (.aload_n 0, 1) := by decide +kernel
theorem s171_692 {M : Mm} {st : List Value} {l1 l2 l3 : Option Value} {x : Nat} : EE 171 692 [some (.ref x), l1, l2, l3] st M = EE 171 693 [some (.ref x), l1, l2, l3] (.ref x :: st) M := e_ld d171_692 rfl rfl rfl rfl rfl rfl
theorem d171_693 : decode (cod 171) 693 = .ok (.iload_n 3, 1) := by decide +kernel
theorem s171_693 {M : Mm} {st : List Value} {l0 l1 l2 : Option Value} {x : Int32} : EE 171 693 [l0, l1, l2, some (.int x)] st M = EE 171 694 [l0, l1, l2, some (.int x)] (.int x :: st) M := e_ld d171_693 rfl rfl rfl rfl rfl rfl
theorem d171_694 : decode (cod 171) 694 = .ok (.iconst 1, 1) := by decide +kernel
theorem s171_694 {M : Mm} {st : List Value} {l0 l1 l2 l3 : Option Value} : EE 171 694 [l0, l1, l2, l3] st M = EE 171 695 [l0, l1, l2, l3] (.int (nI 1) :: st) M := e_con d171_694 k_con_1
theorem d171_695 : decode (cod 171) 695 = .ok (.iadd, 1) := by decide +kernel
theorem s171_695 {M : Mm} {st : List Value} {l0 l1 l2 l3 : Option Value} {x y : Int32} : EE 171 695 [l0, l1, l2, l3] (.int y :: .int x :: st) M = EE 171 696 [l0, l1, l2, l3] (.int (x + y) :: st) M := e_II d171_695 rfl rfl rfl rfl rfl rfl
theorem d171_696 : decode (cod 171) 696 = .ok (.iaload, 1) := by decide +kernel
theorem s171_696 {n : Nat} {I : Nat → Nat → Int32} {R : Nat → Nat → Option Nat} {st : List Value} {l0 l1 l2 l3 : Option Value} {j : Int32} {a : Nat} : EE 171 696 [l0, l1, l2, l3] (.int j :: .ref a :: st) (n, I, R) = (ardI 5 n I a j).bind (fun z => EE 171 697 [l0, l1, l2, l3] (.int z :: st) (n, I, R)) := e_iald d171_696
theorem d171_697 : decode (cod 171) 697 = .ok (.i2l, 1) := by decide +kernel
theorem s171_697 {M : Mm} {st : List Value} {l0 l1 l2 l3 : Option Value} {x : Int32} : EE 171 697 [l0, l1, l2, l3] (.int x :: st) M = EE 171 698 [l0, l1, l2, l3] (.long x.toInt64 :: st) M := e_U d171_697 rfl rfl rfl rfl rfl (bn_i2l x) rfl
theorem d171_698 : decode (cod 171) 698 = .ok (.bipush 32, 2) := by decide +kernel
theorem s171_698 {M : Mm} {st : List Value} {l0 l1 l2 l3 : Option Value} : EE 171 698 [l0, l1, l2, l3] st M = EE 171 700 [l0, l1, l2, l3] (.int (nI 32) :: st) M := e_bip d171_698 k_bip_32
theorem d171_700 : decode (cod 171) 700 = .ok (.lshl, 1) := by decide +kernel
theorem s171_700 {M : Mm} {st : List Value} {l0 l1 l2 l3 : Option Value} {x : Int64} {y : Int32} : EE 171 700 [l0, l1, l2, l3] (.int y :: .long x :: st) M = EE 171 701 [l0, l1, l2, l3] (.long (x <<< (y.toInt64 &&& 63)) :: st) M := e_sh d171_700 rfl rfl rfl rfl rfl rfl
theorem d171_701 : decode (cod 171) 701 = .ok (.aload_n 0, 1) := by decide +kernel
theorem s171_701 {M : Mm} {st : List Value} {l1 l2 l3 : Option Value} {x : Nat} : EE 171 701 [some (.ref x), l1, l2, l3] st M = EE 171 702 [some (.ref x), l1, l2, l3] (.ref x :: st) M := e_ld d171_701 rfl rfl rfl rfl rfl rfl
theorem d171_702 : decode (cod 171) 702 = .ok (.iload_n 3, 1) := by decide +kernel
theorem s171_702 {M : Mm} {st : List Value} {l0 l1 l2 : Option Value} {x : Int32} : EE 171 702 [l0, l1, l2, some (.int x)] st M = EE 171 703 [l0, l1, l2, some (.int x)] (.int x :: st) M := e_ld d171_702 rfl rfl rfl rfl rfl rfl
theorem d171_703 : decode (cod 171) 703 = .ok (.iconst 2, 1) := by decide +kernel
theorem s171_703 {M : Mm} {st : List Value} {l0 l1 l2 l3 : Option Value} : EE 171 703 [l0, l1, l2, l3] st M = EE 171 704 [l0, l1, l2, l3] (.int (nI 2) :: st) M := e_con d171_703 k_con_2
theorem d171_704 : decode (cod 171) 704 = .ok (.iadd, 1) := by decide +kernel
theorem s171_704 {M : Mm} {st : List Value} {l0 l1 l2 l3 : Option Value} {x y : Int32} : EE 171 704 [l0, l1, l2, l3] (.int y :: .int x :: st) M = EE 171 705 [l0, l1, l2, l3] (.int (x + y) :: st) M := e_II d171_704 rfl rfl rfl rfl rfl rfl
theorem d171_705 : decode (cod 171) 705 = .ok (.iaload, 1) := by decide +kernel
theorem s171_705 {n : Nat} {I : Nat → Nat → Int32} {R : Nat → Nat → Option Nat} {st : List Value} {l0 l1 l2 l3 : Option Value} {j : Int32} {a : Nat} : EE 171 705 [l0, l1, l2, l3] (.int j :: .ref a :: st) (n, I, R) = (ardI 5 n I a j).bind (fun z => EE 171 706 [l0, l1, l2, l3] (.int z :: st) (n, I, R)) := e_iald d171_705
theorem d171_706 : decode (cod 171) 706 = .ok (.i2l, 1) := by decide +kernel
theorem s171_706 {M : Mm} {st : List Value} {l0 l1 l2 l3 : Option Value} {x : Int32} : EE 171 706 [l0, l1, l2, l3] (.int x :: st) M = EE 171 707 [l0, l1, l2, l3] (.long x.toInt64 :: st) M := e_U d171_706 rfl rfl rfl rfl rfl (bn_i2l x) rfl
theorem d171_707 : decode (cod 171) 707 = .ok (.ldc2_w 98, 3) := by decide +kernel
theorem s171_707 {M : Mm} {st : List Value} {l0 l1 l2 l3 : Option Value} : EE 171 707 [l0, l1, l2, l3] st M = EE 171 710 [l0, l1, l2, l3] (.long (4294967295) :: st) M := e_ldc2 d171_707 q4_98
theorem d171_710 : decode (cod 171) 710 = .ok (.land, 1) := by decide +kernel
theorem s171_710 {M : Mm} {st : List Value} {l0 l1 l2 l3 : Option Value} {x y : Int64} : EE 171 710 [l0, l1, l2, l3] (.long y :: .long x :: st) M = EE 171 711 [l0, l1, l2, l3] (.long (x &&& y) :: st) M := e_LL d171_710 rfl rfl rfl rfl rfl rfl
theorem d171_711 : decode (cod 171) 711 = .ok (.lor, 1) := by decide +kernel
theorem s171_711 {M : Mm} {st : List Value} {l0 l1 l2 l3 : Option Value} {x y : Int64} : EE 171 711 [l0, l1, l2, l3] (.long y :: .long x :: st) M = EE 171 712 [l0, l1, l2, l3] (.long (x ||| y) :: st) M := e_LL d171_711 rfl rfl rfl rfl rfl rfl
theorem d171_712 : decode (cod 171) 712 = .ok (.invokevirtual 104, 3) := by decide +kernel
theorem s171_712 {l0 l1 l2 l3 : Option Value} {a : Nat} {M : Mm} {b0 : Int64} {st : List Value} (hl : st.length ≤ 4) (ho : isO "HandoverDeskModel" M.1 a = true) : EE 171 712 [l0, l1, l2, l3] (.long b0 :: .ref a :: st) M = (FF 137 (.ref a :: [.long b0]) M).bind (fun z => EE 171 715 [l0, l1, l2, l3] (psh z.1 st) z.2) := e_calv (av := [.long b0]) d171_712 c4_104 rfl rfl rfl r171_137 rfl hl ho
theorem d171_715 : decode (cod 171) 715 = .ok (.if_icmp .eq 103, 3) := by decide +kernel
theorem s171_715 {M : Mm} {st : List Value} {l0 l1 l2 l3 : Option Value} {x y : Int32} : EE 171 715 [l0, l1, l2, l3] (.int y :: .int x :: st) M = if x = y then EE 171 818 [l0, l1, l2, l3] st M else EE 171 718 [l0, l1, l2, l3] st M := e_ceq d171_715 (by decide)
theorem d171_718 : decode (cod 171) 718 = .ok (.iconst 0, 1) := by decide +kernel
theorem s171_718 {M : Mm} {st : List Value} {l0 l1 l2 l3 : Option Value} : EE 171 718 [l0, l1, l2, l3] st M = EE 171 719 [l0, l1, l2, l3] (.int (nI 0) :: st) M := e_con d171_718 k_con_0
theorem d171_719 : decode (cod 171) 719 = .ok (.ireturn, 1) := by decide +kernel
theorem s171_719 {M : Mm} {l0 l1 l2 l3 : Option Value} {v : Int32} (h : narrow .boolean (.int v) = .int v) : EE 171 719 [l0, l1, l2, l3] [.int v] M = some (some (.int v), M) := e_iret d171_719 rfl h
theorem d171_720 : decode (cod 171) 720 = .ok (.aload_n 1, 1) := by decide +kernel
theorem s171_720 {M : Mm} {st : List Value} {l0 l2 l3 : Option Value} {x : Nat} : EE 171 720 [l0, some (.ref x), l2, l3] st M = EE 171 721 [l0, some (.ref x), l2, l3] (.ref x :: st) M := e_ld d171_720 rfl rfl rfl rfl rfl rfl
theorem d171_721 : decode (cod 171) 721 = .ok (.invokevirtual 105, 3) := by decide +kernel
theorem s171_721 {l0 l1 l2 l3 : Option Value} {a : Nat} {M : Mm} {st : List Value} (hl : st.length ≤ 4) (ho : isO "HandoverDesk" M.1 a = true) : EE 171 721 [l0, l1, l2, l3] (.ref a :: st) M = (FF 73 (.ref a :: []) M).bind (fun z => EE 171 724 [l0, l1, l2, l3] (psh z.1 st) z.2) := e_calv (av := []) d171_721 c4_105 rfl rfl rfl r171_73 rfl hl ho
theorem d171_724 : decode (cod 171) 724 = .ok (.aload_n 2, 1) := by decide +kernel
theorem s171_724 {M : Mm} {st : List Value} {l0 l1 l3 : Option Value} {x : Nat} : EE 171 724 [l0, l1, some (.ref x), l3] st M = EE 171 725 [l0, l1, some (.ref x), l3] (.ref x :: st) M := e_ld d171_724 rfl rfl rfl rfl rfl rfl
theorem d171_725 : decode (cod 171) 725 = .ok (.invokevirtual 108, 3) := by decide +kernel
theorem s171_725 {l0 l1 l2 l3 : Option Value} {a : Nat} {M : Mm} {st : List Value} (hl : st.length ≤ 4) (ho : isO "HandoverDeskModel" M.1 a = true) : EE 171 725 [l0, l1, l2, l3] (.ref a :: st) M = (FF 140 (.ref a :: []) M).bind (fun z => EE 171 728 [l0, l1, l2, l3] (psh z.1 st) z.2) := e_calv (av := []) d171_725 c4_108 rfl rfl rfl r171_140 rfl hl ho
theorem d171_728 : decode (cod 171) 728 = .ok (.if_icmp .eq 90, 3) := by decide +kernel
theorem s171_728 {M : Mm} {st : List Value} {l0 l1 l2 l3 : Option Value} {x y : Int32} : EE 171 728 [l0, l1, l2, l3] (.int y :: .int x :: st) M = if x = y then EE 171 818 [l0, l1, l2, l3] st M else EE 171 731 [l0, l1, l2, l3] st M := e_ceq d171_728 (by decide)
theorem d171_731 : decode (cod 171) 731 = .ok (.iconst 0, 1) := by decide +kernel
theorem s171_731 {M : Mm} {st : List Value} {l0 l1 l2 l3 : Option Value} : EE 171 731 [l0, l1, l2, l3] st M = EE 171 732 [l0, l1, l2, l3] (.int (nI 0) :: st) M := e_con d171_731 k_con_0
theorem d171_732 : decode (cod 171) 732 = .ok (.ireturn, 1) := by decide +kernel
theorem s171_732 {M : Mm} {l0 l1 l2 l3 : Option Value} {v : Int32} (h : narrow .boolean (.int v) = .int v) : EE 171 732 [l0, l1, l2, l3] [.int v] M = some (some (.int v), M) := e_iret d171_732 rfl h
theorem d171_733 : decode (cod 171) 733 = .ok (.aload_n 1, 1) := by decide +kernel
theorem s171_733 {M : Mm} {st : List Value} {l0 l2 l3 : Option Value} {x : Nat} : EE 171 733 [l0, some (.ref x), l2, l3] st M = EE 171 734 [l0, some (.ref x), l2, l3] (.ref x :: st) M := e_ld d171_733 rfl rfl rfl rfl rfl rfl
theorem d171_734 : decode (cod 171) 734 = .ok (.invokevirtual 109, 3) := by decide +kernel
theorem s171_734 {l0 l1 l2 l3 : Option Value} {a : Nat} {M : Mm} {st : List Value} (hl : st.length ≤ 4) (ho : isO "HandoverDesk" M.1 a = true) : EE 171 734 [l0, l1, l2, l3] (.ref a :: st) M = (FF 74 (.ref a :: []) M).bind (fun z => EE 171 737 [l0, l1, l2, l3] (psh z.1 st) z.2) := e_calv (av := []) d171_734 c4_109 rfl rfl rfl r171_74 rfl hl ho
theorem d171_737 : decode (cod 171) 737 = .ok (.aload_n 2, 1) := by decide +kernel
theorem s171_737 {M : Mm} {st : List Value} {l0 l1 l3 : Option Value} {x : Nat} : EE 171 737 [l0, l1, some (.ref x), l3] st M = EE 171 738 [l0, l1, some (.ref x), l3] (.ref x :: st) M := e_ld d171_737 rfl rfl rfl rfl rfl rfl
theorem d171_738 : decode (cod 171) 738 = .ok (.invokevirtual 112, 3) := by decide +kernel
theorem s171_738 {l0 l1 l2 l3 : Option Value} {a : Nat} {M : Mm} {st : List Value} (hl : st.length ≤ 4) (ho : isO "HandoverDeskModel" M.1 a = true) : EE 171 738 [l0, l1, l2, l3] (.ref a :: st) M = (FF 141 (.ref a :: []) M).bind (fun z => EE 171 741 [l0, l1, l2, l3] (psh z.1 st) z.2) := e_calv (av := []) d171_738 c4_112 rfl rfl rfl r171_141 rfl hl ho
theorem d171_741 : decode (cod 171) 741 = .ok (.if_icmp .eq 77, 3) := by decide +kernel
theorem s171_741 {M : Mm} {st : List Value} {l0 l1 l2 l3 : Option Value} {x y : Int32} : EE 171 741 [l0, l1, l2, l3] (.int y :: .int x :: st) M = if x = y then EE 171 818 [l0, l1, l2, l3] st M else EE 171 744 [l0, l1, l2, l3] st M := e_ceq d171_741 (by decide)
theorem d171_744 : decode (cod 171) 744 = .ok (.iconst 0, 1) := by decide +kernel
theorem s171_744 {M : Mm} {st : List Value} {l0 l1 l2 l3 : Option Value} : EE 171 744 [l0, l1, l2, l3] st M = EE 171 745 [l0, l1, l2, l3] (.int (nI 0) :: st) M := e_con d171_744 k_con_0
theorem d171_745 : decode (cod 171) 745 = .ok (.ireturn, 1) := by decide +kernel
theorem s171_745 {M : Mm} {l0 l1 l2 l3 : Option Value} {v : Int32} (h : narrow .boolean (.int v) = .int v) : EE 171 745 [l0, l1, l2, l3] [.int v] M = some (some (.int v), M) := e_iret d171_745 rfl h
theorem d171_746 : decode (cod 171) 746 = .ok (.aload_n 1, 1) := by decide +kernel
theorem s171_746 {M : Mm} {st : List Value} {l0 l2 l3 : Option Value} {x : Nat} : EE 171 746 [l0, some (.ref x), l2, l3] st M = EE 171 747 [l0, some (.ref x), l2, l3] (.ref x :: st) M := e_ld d171_746 rfl rfl rfl rfl rfl rfl
theorem d171_747 : decode (cod 171) 747 = .ok (.invokevirtual 113, 3) := by decide +kernel
theorem s171_747 {l0 l1 l2 l3 : Option Value} {a : Nat} {M : Mm} {st : List Value} (hl : st.length ≤ 4) (ho : isO "HandoverDesk" M.1 a = true) : EE 171 747 [l0, l1, l2, l3] (.ref a :: st) M = (FF 75 (.ref a :: []) M).bind (fun z => EE 171 750 [l0, l1, l2, l3] (psh z.1 st) z.2) := e_calv (av := []) d171_747 c4_113 rfl rfl rfl r171_75 rfl hl ho
theorem d171_750 : decode (cod 171) 750 = .ok (.aload_n 2, 1) := by decide +kernel
theorem s171_750 {M : Mm} {st : List Value} {l0 l1 l3 : Option Value} {x : Nat} : EE 171 750 [l0, l1, some (.ref x), l3] st M = EE 171 751 [l0, l1, some (.ref x), l3] (.ref x :: st) M := e_ld d171_750 rfl rfl rfl rfl rfl rfl
theorem d171_751 : decode (cod 171) 751 = .ok (.invokevirtual 116, 3) := by decide +kernel
theorem s171_751 {l0 l1 l2 l3 : Option Value} {a : Nat} {M : Mm} {st : List Value} (hl : st.length ≤ 4) (ho : isO "HandoverDeskModel" M.1 a = true) : EE 171 751 [l0, l1, l2, l3] (.ref a :: st) M = (FF 148 (.ref a :: []) M).bind (fun z => EE 171 754 [l0, l1, l2, l3] (psh z.1 st) z.2) := e_calv (av := []) d171_751 c4_116 rfl rfl rfl r171_148 rfl hl ho
theorem d171_754 : decode (cod 171) 754 = .ok (.if_icmp .eq 64, 3) := by decide +kernel
theorem s171_754 {M : Mm} {st : List Value} {l0 l1 l2 l3 : Option Value} {x y : Int32} : EE 171 754 [l0, l1, l2, l3] (.int y :: .int x :: st) M = if x = y then EE 171 818 [l0, l1, l2, l3] st M else EE 171 757 [l0, l1, l2, l3] st M := e_ceq d171_754 (by decide)
theorem d171_757 : decode (cod 171) 757 = .ok (.iconst 0, 1) := by decide +kernel
theorem s171_757 {M : Mm} {st : List Value} {l0 l1 l2 l3 : Option Value} : EE 171 757 [l0, l1, l2, l3] st M = EE 171 758 [l0, l1, l2, l3] (.int (nI 0) :: st) M := e_con d171_757 k_con_0
theorem d171_758 : decode (cod 171) 758 = .ok (.ireturn, 1) := by decide +kernel
theorem s171_758 {M : Mm} {l0 l1 l2 l3 : Option Value} {v : Int32} (h : narrow .boolean (.int v) = .int v) : EE 171 758 [l0, l1, l2, l3] [.int v] M = some (some (.int v), M) := e_iret d171_758 rfl h
theorem d171_759 : decode (cod 171) 759 = .ok (.aload_n 1, 1) := by decide +kernel
theorem s171_759 {M : Mm} {st : List Value} {l0 l2 l3 : Option Value} {x : Nat} : EE 171 759 [l0, some (.ref x), l2, l3] st M = EE 171 760 [l0, some (.ref x), l2, l3] (.ref x :: st) M := e_ld d171_759 rfl rfl rfl rfl rfl rfl
theorem d171_760 : decode (cod 171) 760 = .ok (.invokevirtual 117, 3) := by decide +kernel
theorem s171_760 {l0 l1 l2 l3 : Option Value} {a : Nat} {M : Mm} {st : List Value} (hl : st.length ≤ 4) (ho : isO "HandoverDesk" M.1 a = true) : EE 171 760 [l0, l1, l2, l3] (.ref a :: st) M = (FF 76 (.ref a :: []) M).bind (fun z => EE 171 763 [l0, l1, l2, l3] (psh z.1 st) z.2) := e_calv (av := []) d171_760 c4_117 rfl rfl rfl r171_76 rfl hl ho
theorem d171_763 : decode (cod 171) 763 = .ok (.aload_n 2, 1) := by decide +kernel
theorem s171_763 {M : Mm} {st : List Value} {l0 l1 l3 : Option Value} {x : Nat} : EE 171 763 [l0, l1, some (.ref x), l3] st M = EE 171 764 [l0, l1, some (.ref x), l3] (.ref x :: st) M := e_ld d171_763 rfl rfl rfl rfl rfl rfl
theorem d171_764 : decode (cod 171) 764 = .ok (.invokevirtual 120, 3) := by decide +kernel
theorem s171_764 {l0 l1 l2 l3 : Option Value} {a : Nat} {M : Mm} {st : List Value} (hl : st.length ≤ 4) (ho : isO "HandoverDeskModel" M.1 a = true) : EE 171 764 [l0, l1, l2, l3] (.ref a :: st) M = (FF 81 (.ref a :: []) M).bind (fun z => EE 171 767 [l0, l1, l2, l3] (psh z.1 st) z.2) := e_calv (av := []) d171_764 c4_120 rfl rfl rfl r171_81 rfl hl ho
theorem d171_767 : decode (cod 171) 767 = .ok (.if_icmp .eq 51, 3) := by decide +kernel
theorem s171_767 {M : Mm} {st : List Value} {l0 l1 l2 l3 : Option Value} {x y : Int32} : EE 171 767 [l0, l1, l2, l3] (.int y :: .int x :: st) M = if x = y then EE 171 818 [l0, l1, l2, l3] st M else EE 171 770 [l0, l1, l2, l3] st M := e_ceq d171_767 (by decide)
theorem d171_770 : decode (cod 171) 770 = .ok (.iconst 0, 1) := by decide +kernel
theorem s171_770 {M : Mm} {st : List Value} {l0 l1 l2 l3 : Option Value} : EE 171 770 [l0, l1, l2, l3] st M = EE 171 771 [l0, l1, l2, l3] (.int (nI 0) :: st) M := e_con d171_770 k_con_0
theorem d171_771 : decode (cod 171) 771 = .ok (.ireturn, 1) := by decide +kernel
theorem s171_771 {M : Mm} {l0 l1 l2 l3 : Option Value} {v : Int32} (h : narrow .boolean (.int v) = .int v) : EE 171 771 [l0, l1, l2, l3] [.int v] M = some (some (.int v), M) := e_iret d171_771 rfl h
theorem d171_772 : decode (cod 171) 772 = .ok (.aload_n 1, 1) := by decide +kernel
theorem s171_772 {M : Mm} {st : List Value} {l0 l2 l3 : Option Value} {x : Nat} : EE 171 772 [l0, some (.ref x), l2, l3] st M = EE 171 773 [l0, some (.ref x), l2, l3] (.ref x :: st) M := e_ld d171_772 rfl rfl rfl rfl rfl rfl
theorem d171_773 : decode (cod 171) 773 = .ok (.aload_n 0, 1) := by decide +kernel
theorem s171_773 {M : Mm} {st : List Value} {l1 l2 l3 : Option Value} {x : Nat} : EE 171 773 [some (.ref x), l1, l2, l3] st M = EE 171 774 [some (.ref x), l1, l2, l3] (.ref x :: st) M := e_ld d171_773 rfl rfl rfl rfl rfl rfl
theorem d171_774 : decode (cod 171) 774 = .ok (.iload_n 3, 1) := by decide +kernel
theorem s171_774 {M : Mm} {st : List Value} {l0 l1 l2 : Option Value} {x : Int32} : EE 171 774 [l0, l1, l2, some (.int x)] st M = EE 171 775 [l0, l1, l2, some (.int x)] (.int x :: st) M := e_ld d171_774 rfl rfl rfl rfl rfl rfl
theorem d171_775 : decode (cod 171) 775 = .ok (.iconst 1, 1) := by decide +kernel
theorem s171_775 {M : Mm} {st : List Value} {l0 l1 l2 l3 : Option Value} : EE 171 775 [l0, l1, l2, l3] st M = EE 171 776 [l0, l1, l2, l3] (.int (nI 1) :: st) M := e_con d171_775 k_con_1
theorem d171_776 : decode (cod 171) 776 = .ok (.iadd, 1) := by decide +kernel
theorem s171_776 {M : Mm} {st : List Value} {l0 l1 l2 l3 : Option Value} {x y : Int32} : EE 171 776 [l0, l1, l2, l3] (.int y :: .int x :: st) M = EE 171 777 [l0, l1, l2, l3] (.int (x + y) :: st) M := e_II d171_776 rfl rfl rfl rfl rfl rfl
theorem d171_777 : decode (cod 171) 777 = .ok (.iaload, 1) := by decide +kernel
theorem s171_777 {n : Nat} {I : Nat → Nat → Int32} {R : Nat → Nat → Option Nat} {st : List Value} {l0 l1 l2 l3 : Option Value} {j : Int32} {a : Nat} : EE 171 777 [l0, l1, l2, l3] (.int j :: .ref a :: st) (n, I, R) = (ardI 5 n I a j).bind (fun z => EE 171 778 [l0, l1, l2, l3] (.int z :: st) (n, I, R)) := e_iald d171_777
theorem d171_778 : decode (cod 171) 778 = .ok (.invokevirtual 121, 3) := by decide +kernel
theorem s171_778 {l0 l1 l2 l3 : Option Value} {a : Nat} {M : Mm} {b0 : Int32} {st : List Value} (hl : st.length ≤ 4) (ho : isO "HandoverDesk" M.1 a = true) : EE 171 778 [l0, l1, l2, l3] (.int b0 :: .ref a :: st) M = (FF 77 (.ref a :: [.int b0]) M).bind (fun z => EE 171 781 [l0, l1, l2, l3] (psh z.1 st) z.2) := e_calv (av := [.int b0]) d171_778 c4_121 rfl rfl rfl r171_77 rfl hl ho
theorem d171_781 : decode (cod 171) 781 = .ok (.aload_n 2, 1) := by decide +kernel
theorem s171_781 {M : Mm} {st : List Value} {l0 l1 l3 : Option Value} {x : Nat} : EE 171 781 [l0, l1, some (.ref x), l3] st M = EE 171 782 [l0, l1, some (.ref x), l3] (.ref x :: st) M := e_ld d171_781 rfl rfl rfl rfl rfl rfl
theorem d171_782 : decode (cod 171) 782 = .ok (.aload_n 0, 1) := by decide +kernel
theorem s171_782 {M : Mm} {st : List Value} {l1 l2 l3 : Option Value} {x : Nat} : EE 171 782 [some (.ref x), l1, l2, l3] st M = EE 171 783 [some (.ref x), l1, l2, l3] (.ref x :: st) M := e_ld d171_782 rfl rfl rfl rfl rfl rfl
theorem d171_783 : decode (cod 171) 783 = .ok (.iload_n 3, 1) := by decide +kernel
theorem s171_783 {M : Mm} {st : List Value} {l0 l1 l2 : Option Value} {x : Int32} : EE 171 783 [l0, l1, l2, some (.int x)] st M = EE 171 784 [l0, l1, l2, some (.int x)] (.int x :: st) M := e_ld d171_783 rfl rfl rfl rfl rfl rfl
theorem d171_784 : decode (cod 171) 784 = .ok (.iconst 1, 1) := by decide +kernel
theorem s171_784 {M : Mm} {st : List Value} {l0 l1 l2 l3 : Option Value} : EE 171 784 [l0, l1, l2, l3] st M = EE 171 785 [l0, l1, l2, l3] (.int (nI 1) :: st) M := e_con d171_784 k_con_1
theorem d171_785 : decode (cod 171) 785 = .ok (.iadd, 1) := by decide +kernel
theorem s171_785 {M : Mm} {st : List Value} {l0 l1 l2 l3 : Option Value} {x y : Int32} : EE 171 785 [l0, l1, l2, l3] (.int y :: .int x :: st) M = EE 171 786 [l0, l1, l2, l3] (.int (x + y) :: st) M := e_II d171_785 rfl rfl rfl rfl rfl rfl
theorem d171_786 : decode (cod 171) 786 = .ok (.iaload, 1) := by decide +kernel
theorem s171_786 {n : Nat} {I : Nat → Nat → Int32} {R : Nat → Nat → Option Nat} {st : List Value} {l0 l1 l2 l3 : Option Value} {j : Int32} {a : Nat} : EE 171 786 [l0, l1, l2, l3] (.int j :: .ref a :: st) (n, I, R) = (ardI 5 n I a j).bind (fun z => EE 171 787 [l0, l1, l2, l3] (.int z :: st) (n, I, R)) := e_iald d171_786
theorem d171_787 : decode (cod 171) 787 = .ok (.invokevirtual 124, 3) := by decide +kernel
theorem s171_787 {l0 l1 l2 l3 : Option Value} {a : Nat} {M : Mm} {b0 : Int32} {st : List Value} (hl : st.length ≤ 4) (ho : isO "HandoverDeskModel" M.1 a = true) : EE 171 787 [l0, l1, l2, l3] (.int b0 :: .ref a :: st) M = (FF 83 (.ref a :: [.int b0]) M).bind (fun z => EE 171 790 [l0, l1, l2, l3] (psh z.1 st) z.2) := e_calv (av := [.int b0]) d171_787 c4_124 rfl rfl rfl r171_83 rfl hl ho
theorem d171_790 : decode (cod 171) 790 = .ok (.if_icmp .eq 28, 3) := by decide +kernel
theorem s171_790 {M : Mm} {st : List Value} {l0 l1 l2 l3 : Option Value} {x y : Int32} : EE 171 790 [l0, l1, l2, l3] (.int y :: .int x :: st) M = if x = y then EE 171 818 [l0, l1, l2, l3] st M else EE 171 793 [l0, l1, l2, l3] st M := e_ceq d171_790 (by decide)
theorem d171_793 : decode (cod 171) 793 = .ok (.iconst 0, 1) := by decide +kernel
theorem s171_793 {M : Mm} {st : List Value} {l0 l1 l2 l3 : Option Value} : EE 171 793 [l0, l1, l2, l3] st M = EE 171 794 [l0, l1, l2, l3] (.int (nI 0) :: st) M := e_con d171_793 k_con_0
theorem d171_794 : decode (cod 171) 794 = .ok (.ireturn, 1) := by decide +kernel
theorem s171_794 {M : Mm} {l0 l1 l2 l3 : Option Value} {v : Int32} (h : narrow .boolean (.int v) = .int v) : EE 171 794 [l0, l1, l2, l3] [.int v] M = some (some (.int v), M) := e_iret d171_794 rfl h
theorem d171_795 : decode (cod 171) 795 = .ok (.aload_n 1, 1) := by decide +kernel
theorem s171_795 {M : Mm} {st : List Value} {l0 l2 l3 : Option Value} {x : Nat} : EE 171 795 [l0, some (.ref x), l2, l3] st M = EE 171 796 [l0, some (.ref x), l2, l3] (.ref x :: st) M := e_ld d171_795 rfl rfl rfl rfl rfl rfl
theorem d171_796 : decode (cod 171) 796 = .ok (.aload_n 0, 1) := by decide +kernel
theorem s171_796 {M : Mm} {st : List Value} {l1 l2 l3 : Option Value} {x : Nat} : EE 171 796 [some (.ref x), l1, l2, l3] st M = EE 171 797 [some (.ref x), l1, l2, l3] (.ref x :: st) M := e_ld d171_796 rfl rfl rfl rfl rfl rfl
theorem d171_797 : decode (cod 171) 797 = .ok (.iload_n 3, 1) := by decide +kernel
theorem s171_797 {M : Mm} {st : List Value} {l0 l1 l2 : Option Value} {x : Int32} : EE 171 797 [l0, l1, l2, some (.int x)] st M = EE 171 798 [l0, l1, l2, some (.int x)] (.int x :: st) M := e_ld d171_797 rfl rfl rfl rfl rfl rfl
theorem d171_798 : decode (cod 171) 798 = .ok (.iconst 1, 1) := by decide +kernel
theorem s171_798 {M : Mm} {st : List Value} {l0 l1 l2 l3 : Option Value} : EE 171 798 [l0, l1, l2, l3] st M = EE 171 799 [l0, l1, l2, l3] (.int (nI 1) :: st) M := e_con d171_798 k_con_1
theorem d171_799 : decode (cod 171) 799 = .ok (.iadd, 1) := by decide +kernel
theorem s171_799 {M : Mm} {st : List Value} {l0 l1 l2 l3 : Option Value} {x y : Int32} : EE 171 799 [l0, l1, l2, l3] (.int y :: .int x :: st) M = EE 171 800 [l0, l1, l2, l3] (.int (x + y) :: st) M := e_II d171_799 rfl rfl rfl rfl rfl rfl
theorem d171_800 : decode (cod 171) 800 = .ok (.iaload, 1) := by decide +kernel
theorem s171_800 {n : Nat} {I : Nat → Nat → Int32} {R : Nat → Nat → Option Nat} {st : List Value} {l0 l1 l2 l3 : Option Value} {j : Int32} {a : Nat} : EE 171 800 [l0, l1, l2, l3] (.int j :: .ref a :: st) (n, I, R) = (ardI 5 n I a j).bind (fun z => EE 171 801 [l0, l1, l2, l3] (.int z :: st) (n, I, R)) := e_iald d171_800
theorem d171_801 : decode (cod 171) 801 = .ok (.invokevirtual 125, 3) := by decide +kernel
theorem s171_801 {l0 l1 l2 l3 : Option Value} {a : Nat} {M : Mm} {b0 : Int32} {st : List Value} (hl : st.length ≤ 4) (ho : isO "HandoverDesk" M.1 a = true) : EE 171 801 [l0, l1, l2, l3] (.int b0 :: .ref a :: st) M = (FF 79 (.ref a :: [.int b0]) M).bind (fun z => EE 171 804 [l0, l1, l2, l3] (psh z.1 st) z.2) := e_calv (av := [.int b0]) d171_801 c4_125 rfl rfl rfl r171_79 rfl hl ho
theorem d171_804 : decode (cod 171) 804 = .ok (.aload_n 2, 1) := by decide +kernel
theorem s171_804 {M : Mm} {st : List Value} {l0 l1 l3 : Option Value} {x : Nat} : EE 171 804 [l0, l1, some (.ref x), l3] st M = EE 171 805 [l0, l1, some (.ref x), l3] (.ref x :: st) M := e_ld d171_804 rfl rfl rfl rfl rfl rfl
theorem d171_805 : decode (cod 171) 805 = .ok (.aload_n 0, 1) := by decide +kernel
theorem s171_805 {M : Mm} {st : List Value} {l1 l2 l3 : Option Value} {x : Nat} : EE 171 805 [some (.ref x), l1, l2, l3] st M = EE 171 806 [some (.ref x), l1, l2, l3] (.ref x :: st) M := e_ld d171_805 rfl rfl rfl rfl rfl rfl
theorem d171_806 : decode (cod 171) 806 = .ok (.iload_n 3, 1) := by decide +kernel
theorem s171_806 {M : Mm} {st : List Value} {l0 l1 l2 : Option Value} {x : Int32} : EE 171 806 [l0, l1, l2, some (.int x)] st M = EE 171 807 [l0, l1, l2, some (.int x)] (.int x :: st) M := e_ld d171_806 rfl rfl rfl rfl rfl rfl
theorem d171_807 : decode (cod 171) 807 = .ok (.iconst 1, 1) := by decide +kernel
theorem s171_807 {M : Mm} {st : List Value} {l0 l1 l2 l3 : Option Value} : EE 171 807 [l0, l1, l2, l3] st M = EE 171 808 [l0, l1, l2, l3] (.int (nI 1) :: st) M := e_con d171_807 k_con_1
theorem d171_808 : decode (cod 171) 808 = .ok (.iadd, 1) := by decide +kernel
theorem s171_808 {M : Mm} {st : List Value} {l0 l1 l2 l3 : Option Value} {x y : Int32} : EE 171 808 [l0, l1, l2, l3] (.int y :: .int x :: st) M = EE 171 809 [l0, l1, l2, l3] (.int (x + y) :: st) M := e_II d171_808 rfl rfl rfl rfl rfl rfl
theorem d171_809 : decode (cod 171) 809 = .ok (.iaload, 1) := by decide +kernel
theorem s171_809 {n : Nat} {I : Nat → Nat → Int32} {R : Nat → Nat → Option Nat} {st : List Value} {l0 l1 l2 l3 : Option Value} {j : Int32} {a : Nat} : EE 171 809 [l0, l1, l2, l3] (.int j :: .ref a :: st) (n, I, R) = (ardI 5 n I a j).bind (fun z => EE 171 810 [l0, l1, l2, l3] (.int z :: st) (n, I, R)) := e_iald d171_809
theorem d171_810 : decode (cod 171) 810 = .ok (.invokevirtual 128, 3) := by decide +kernel
theorem s171_810 {l0 l1 l2 l3 : Option Value} {a : Nat} {M : Mm} {b0 : Int32} {st : List Value} (hl : st.length ≤ 4) (ho : isO "HandoverDeskModel" M.1 a = true) : EE 171 810 [l0, l1, l2, l3] (.int b0 :: .ref a :: st) M = (FF 85 (.ref a :: [.int b0]) M).bind (fun z => EE 171 813 [l0, l1, l2, l3] (psh z.1 st) z.2) := e_calv (av := [.int b0]) d171_810 c4_128 rfl rfl rfl r171_85 rfl hl ho
theorem d171_813 : decode (cod 171) 813 = .ok (.if_icmp .eq 5, 3) := by decide +kernel
theorem s171_813 {M : Mm} {st : List Value} {l0 l1 l2 l3 : Option Value} {x y : Int32} : EE 171 813 [l0, l1, l2, l3] (.int y :: .int x :: st) M = if x = y then EE 171 818 [l0, l1, l2, l3] st M else EE 171 816 [l0, l1, l2, l3] st M := e_ceq d171_813 (by decide)
theorem d171_816 : decode (cod 171) 816 = .ok (.iconst 0, 1) := by decide +kernel
theorem s171_816 {M : Mm} {st : List Value} {l0 l1 l2 l3 : Option Value} : EE 171 816 [l0, l1, l2, l3] st M = EE 171 817 [l0, l1, l2, l3] (.int (nI 0) :: st) M := e_con d171_816 k_con_0
theorem d171_817 : decode (cod 171) 817 = .ok (.ireturn, 1) := by decide +kernel
theorem s171_817 {M : Mm} {l0 l1 l2 l3 : Option Value} {v : Int32} (h : narrow .boolean (.int v) = .int v) : EE 171 817 [l0, l1, l2, l3] [.int v] M = some (some (.int v), M) := e_iret d171_817 rfl h
theorem d171_818 : decode (cod 171) 818 = .ok (.iinc 3 4, 3) := by decide +kernel
theorem s171_818 {M : Mm} {st : List Value} {l0 l1 l2 : Option Value} {x : Int32} : EE 171 818 [l0, l1, l2, some (.int x)] st M = EE 171 821 [l0, l1, cln l2, some (.int (x + nI 4))] st M := e_iinc d171_818 rfl (congrArg (fun z => x + z) k_inc_4) rfl
theorem d171_821 : decode (cod 171) 821 = .ok (.goto (-803), 3) := by decide +kernel
theorem s171_821 {M : Mm} {st : List Value} {l0 l1 l2 l3 : Option Value} : EE 171 821 [l0, l1, l2, l3] st M = EE 171 18 [l0, l1, l2, l3] st M := e_goto d171_821 (by decide)
theorem d171_824 : decode (cod 171) 824 = .ok (.iconst 1, 1) := by decide +kernel
theorem s171_824 {M : Mm} {st : List Value} {l0 l1 l2 l3 : Option Value} : EE 171 824 [l0, l1, l2, l3] st M = EE 171 825 [l0, l1, l2, l3] (.int (nI 1) :: st) M := e_con d171_824 k_con_1
theorem d171_825 : decode (cod 171) 825 = .ok (.ireturn, 1) := by decide +kernel
theorem s171_825 {M : Mm} {l0 l1 l2 l3 : Option Value} {v : Int32} (h : narrow .boolean (.int v) = .int v) : EE 171 825 [l0, l1, l2, l3] [.int v] M = some (some (.int v), M) := e_iret d171_825 rfl h
theorem FE171 {b0 : Nat} {M : Mm} : FF 171 [.ref b0] M = EE 171 0 [some (.ref b0), none, none, none] [] M := FF_eq 171 _ _ (Nat.le_of_ble_eq_true rfl)
