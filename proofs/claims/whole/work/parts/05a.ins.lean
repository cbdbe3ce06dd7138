section
variable {K pc : Nat} {ls : Lo} {st : List Value} {M : Mm} {n : Nat} {I : Nat → Nat → Int32} {R : Nat → Nat → Option Nat}
theorem e_alenb {a : Nat} (d : decode (cod K) pc = .ok (.arraylength, 1)) : EE K pc ls (.ref a :: st) (n, I, R) = (aln n I a).bind (fun z => EE K (pc + 1) ls (.int z :: st) (n, I, R)) := by
  cases h : aln n I a with
  | none => exact e_none d rfl rfl rfl rfl rfl rfl rfl (by simp only [stM, h, Option.map_none]) rfl
  | some z => exact e_alen d h
theorem e_divN {x y : Nat} (d : decode (cod K) pc = .ok (.idiv, 1)) (h1 : x < 2 ^ 31) (h2 : 0 < y) (h3 : y < 2 ^ 31) : EE K pc ls (.int (nI y) :: .int (nI x) :: st) M = EE K (pc + 1) ls (.int (nI (x / y)) :: st) M := by
  rw [e_div d (nI_ne0 h2 h3), pk_div h1 h2 h3]
theorem e_remN {x y : Nat} (d : decode (cod K) pc = .ok (.irem, 1)) (h1 : x < 2 ^ 31) (h2 : 0 < y) (h3 : y < 2 ^ 31) : EE K pc ls (.int (nI y) :: .int (nI x) :: st) M = EE K (pc + 1) ls (.int (nI (x % y)) :: st) M := by
  rw [e_rem d (nI_ne0 h2 h3), pk_rem h1 h2 h3]
def mnM (M : Mm) : Mm := (M.1 + 7, (bn (bn (bn (bn (bn (bn (bn M))))))).2.1, up (bn (bn (bn (bn (bn (bn (bn M))))))).2.2 (adr M.1) (fun j => if j < 6 then some (adr M.1 + 1 + j) else none))
theorem e_mna {x : Nat} (d : decode (cod K) pc = .ok (.multianewarray x 2, 4)) (hm : mna (ow K) x = true) (h : M.1 + 7 ≤ 210 ∧ kd (adr M.1) = 9 ∧ adr M.1 + 6 < 208 ∧ (List.range 6).all (fun j => adr (M.1 + 1 + j) == adr M.1 + 1 + j) = true) : EE K pc ls (.int (nI 10) :: .int (nI 6) :: st) M = EE K (pc + 4) ls (.ref (adr M.1) :: st) (mnM M) :=
  e_M (c' := (pc + 4, ls, .ref (adr M.1) :: st, mnM M)) d rfl rfl rfl rfl rfl rfl rfl (if_pos ⟨hm, rfl, h.1, h.2.1, rfl, rfl, h.2.2⟩)
end

theorem k_bip_m6 : (Int8.ofInt (-6)).toInt32 = (-6) := by decide +kernel
theorem k_bip_m5 : (Int8.ofInt (-5)).toInt32 = (-5) := by decide +kernel
theorem k_bip_m4 : (Int8.ofInt (-4)).toInt32 = (-4) := by decide +kernel
theorem k_bip_m3 : (Int8.ofInt (-3)).toInt32 = (-3) := by decide +kernel
theorem k_bip_m2 : (Int8.ofInt (-2)).toInt32 = (-2) := by decide +kernel
theorem k_bip_6 : (Int8.ofInt 6).toInt32 = nI 6 := by decide +kernel
theorem k_bip_7 : (Int8.ofInt 7).toInt32 = nI 7 := by decide +kernel
theorem k_bip_8 : (Int8.ofInt 8).toInt32 = nI 8 := by decide +kernel
theorem k_bip_9 : (Int8.ofInt 9).toInt32 = nI 9 := by decide +kernel
theorem k_bip_10 : (Int8.ofInt 10).toInt32 = nI 10 := by decide +kernel
theorem k_bip_11 : (Int8.ofInt 11).toInt32 = nI 11 := by decide +kernel
theorem k_bip_12 : (Int8.ofInt 12).toInt32 = nI 12 := by decide +kernel
theorem k_bip_13 : (Int8.ofInt 13).toInt32 = nI 13 := by decide +kernel
theorem k_bip_14 : (Int8.ofInt 14).toInt32 = nI 14 := by decide +kernel
theorem k_bip_16 : (Int8.ofInt 16).toInt32 = nI 16 := by decide +kernel
theorem k_bip_17 : (Int8.ofInt 17).toInt32 = nI 17 := by decide +kernel
theorem k_bip_18 : (Int8.ofInt 18).toInt32 = nI 18 := by decide +kernel
theorem k_bip_20 : (Int8.ofInt 20).toInt32 = nI 20 := by decide +kernel
theorem k_bip_23 : (Int8.ofInt 23).toInt32 = nI 23 := by decide +kernel
theorem k_bip_26 : (Int8.ofInt 26).toInt32 = nI 26 := by decide +kernel
theorem k_bip_31 : (Int8.ofInt 31).toInt32 = nI 31 := by decide +kernel
theorem k_bip_32 : (Int8.ofInt 32).toInt32 = nI 32 := by decide +kernel
theorem k_bip_33 : (Int8.ofInt 33).toInt32 = nI 33 := by decide +kernel
theorem k_bip_38 : (Int8.ofInt 38).toInt32 = nI 38 := by decide +kernel
theorem k_bip_40 : (Int8.ofInt 40).toInt32 = nI 40 := by decide +kernel
theorem k_bip_43 : (Int8.ofInt 43).toInt32 = nI 43 := by decide +kernel
theorem k_bip_46 : (Int8.ofInt 46).toInt32 = nI 46 := by decide +kernel
theorem k_bip_48 : (Int8.ofInt 48).toInt32 = nI 48 := by decide +kernel
theorem k_bip_50 : (Int8.ofInt 50).toInt32 = nI 50 := by decide +kernel
theorem k_bip_52 : (Int8.ofInt 52).toInt32 = nI 52 := by decide +kernel
theorem k_bip_53 : (Int8.ofInt 53).toInt32 = nI 53 := by decide +kernel
theorem k_bip_57 : (Int8.ofInt 57).toInt32 = nI 57 := by decide +kernel
theorem k_bip_58 : (Int8.ofInt 58).toInt32 = nI 58 := by decide +kernel
theorem k_bip_59 : (Int8.ofInt 59).toInt32 = nI 59 := by decide +kernel
theorem k_bip_60 : (Int8.ofInt 60).toInt32 = nI 60 := by decide +kernel
theorem k_bip_61 : (Int8.ofInt 61).toInt32 = nI 61 := by decide +kernel
theorem k_bip_63 : (Int8.ofInt 63).toInt32 = nI 63 := by decide +kernel
theorem k_bip_80 : (Int8.ofInt 80).toInt32 = nI 80 := by decide +kernel
theorem k_bip_99 : (Int8.ofInt 99).toInt32 = nI 99 := by decide +kernel
theorem k_bip_100 : (Int8.ofInt 100).toInt32 = nI 100 := by decide +kernel
theorem k_bip_118 : (Int8.ofInt 118).toInt32 = nI 118 := by decide +kernel
theorem k_bip_126 : (Int8.ofInt 126).toInt32 = nI 126 := by decide +kernel
theorem k_bip_127 : (Int8.ofInt 127).toInt32 = nI 127 := by decide +kernel
theorem k_con_m1 : Int32.ofInt (-1) = (-1) := by decide +kernel
theorem k_con_0 : Int32.ofInt 0 = nI 0 := by decide +kernel
theorem k_con_1 : Int32.ofInt 1 = nI 1 := by decide +kernel
theorem k_con_2 : Int32.ofInt 2 = nI 2 := by decide +kernel
theorem k_con_3 : Int32.ofInt 3 = nI 3 := by decide +kernel
theorem k_con_4 : Int32.ofInt 4 = nI 4 := by decide +kernel
theorem k_con_5 : Int32.ofInt 5 = nI 5 := by decide +kernel
theorem k_inc_m1 : Int32.ofInt (-1) = (-1) := by decide +kernel
theorem k_inc_1 : Int32.ofInt 1 = nI 1 := by decide +kernel
theorem k_inc_4 : Int32.ofInt 4 = nI 4 := by decide +kernel
theorem k_sip_128 : (Int16.ofInt 128).toInt32 = nI 128 := by decide +kernel
theorem k_sip_138 : (Int16.ofInt 138).toInt32 = nI 138 := by decide +kernel
theorem k_sip_148 : (Int16.ofInt 148).toInt32 = nI 148 := by decide +kernel
theorem k_sip_164 : (Int16.ofInt 164).toInt32 = nI 164 := by decide +kernel
theorem k_sip_255 : (Int16.ofInt 255).toInt32 = nI 255 := by decide +kernel
theorem k_sip_296 : (Int16.ofInt 296).toInt32 = nI 296 := by decide +kernel
theorem k_sip_740 : (Int16.ofInt 740).toInt32 = nI 740 := by decide +kernel
theorem k_sip_888 : (Int16.ofInt 888).toInt32 = nI 888 := by decide +kernel
theorem k_sip_999 : (Int16.ofInt 999).toInt32 = nI 999 := by decide +kernel
theorem k_sip_1023 : (Int16.ofInt 1023).toInt32 = nI 1023 := by decide +kernel
theorem k_sip_2046 : (Int16.ofInt 2046).toInt32 = nI 2046 := by decide +kernel
theorem c0_25 : cal 0 25 = some (0, 25, 1, 2, 467, 468, 0, 41, 1) := rfl
theorem c0_36 : cal 0 36 = some (0, 36, 0, 4, 485, 486, 487, 41, 0) := rfl
theorem c0_39 : cal 0 39 = some (0, 39, 0, 5, 489, 490, 491, 41, 0) := rfl
theorem c0_43 : cal 0 43 = some (0, 43, 0, 6, 493, 495, 10, 41, 1) := rfl
theorem c0_49 : cal 0 49 = some (0, 49, 0, 155, 498, 499, 500, 47, 1) := rfl
theorem c0_59 : cal 0 59 = some (0, 59, 1, 7, 582, 583, 0, 41, 1) := rfl
theorem c0_63 : cal 0 63 = some (0, 63, 0, 158, 590, 513, 514, 47, 0) := rfl
theorem c0_66 : cal 0 66 = some (0, 66, 0, 160, 591, 592, 593, 47, 1) := rfl
theorem c0_70 : cal 0 70 = some (0, 70, 0, 8, 611, 613, 11, 41, 1) := rfl
theorem c0_83 : cal 0 83 = some (0, 83, 0, 9, 615, 617, 12, 41, 1) := rfl
theorem c0_86 : cal 0 86 = some (0, 86, 0, 10, 619, 621, 13, 41, 0) := rfl
theorem c1_102 : cal 1 102 = some (1, 102, 0, 37, 409, 376, 377, 39, 1) := rfl
theorem c1_106 : cal 1 106 = some (1, 106, 1, 154, 399, 400, 0, 44, 1) := rfl
theorem c1_111 : cal 1 111 = some (1, 111, 4, 45, 212, 213, 0, 38, 1) := rfl
theorem c1_120 : cal 1 120 = some (1, 120, 4, 50, 238, 239, 0, 38, 1) := rfl
theorem c1_123 : cal 1 123 = some (1, 123, 0, 21, 281, 282, 283, 39, 1) := rfl
theorem c1_126 : cal 1 126 = some (1, 126, 1, 151, 297, 298, 0, 43, 2) := rfl
theorem c1_129 : cal 1 129 = some (1, 129, 0, 24, 300, 302, 2, 39, 3) := rfl
theorem c1_133 : cal 1 133 = some (1, 133, 0, 27, 319, 320, 321, 39, 1) := rfl
theorem c1_136 : cal 1 136 = some (1, 136, 0, 30, 335, 336, 337, 39, 0) := rfl
theorem c1_139 : cal 1 139 = some (1, 139, 0, 31, 339, 341, 3, 39, 1) := rfl
theorem c1_143 : cal 1 143 = some (1, 143, 0, 32, 343, 345, 4, 39, 3) := rfl
theorem c1_147 : cal 1 147 = some (1, 147, 0, 34, 351, 353, 6, 39, 1) := rfl
theorem c1_150 : cal 1 150 = some (1, 150, 0, 35, 355, 357, 7, 39, 1) := rfl
theorem c1_153 : cal 1 153 = some (1, 153, 0, 36, 359, 361, 8, 39, 1) := rfl
theorem c1_157 : cal 1 157 = some (1, 157, 0, 33, 347, 349, 5, 39, 2) := rfl
theorem c1_161 : cal 1 161 = some (1, 161, 0, 16, 634, 254, 255, 39, 0) := rfl
theorem c1_164 : cal 1 164 = some (1, 164, 0, 17, 635, 262, 263, 39, 1) := rfl
theorem c1_167 : cal 1 167 = some (1, 167, 0, 20, 636, 278, 279, 39, 1) := rfl
theorem c1_170 : cal 1 170 = some (1, 170, 0, 25, 637, 309, 310, 39, 1) := rfl
theorem c1_173 : cal 1 173 = some (1, 173, 0, 22, 638, 290, 291, 39, 3) := rfl
theorem c1_177 : cal 1 177 = some (1, 177, 0, 14, 639, 232, 233, 39, 2) := rfl
theorem c1_180 : cal 1 180 = some (1, 180, 0, 15, 640, 246, 247, 39, 2) := rfl
theorem c1_183 : cal 1 183 = some (1, 183, 0, 28, 641, 328, 329, 39, 0) := rfl
theorem c1_186 : cal 1 186 = some (1, 186, 0, 29, 642, 332, 333, 39, 1) := rfl
theorem c1_75 : cal 1 75 = some (1, 75, 1, 152, 316, 317, 0, 43, 2) := rfl
theorem c1_81 : cal 1 81 = some (1, 81, 4, 49, 235, 236, 0, 38, 1) := rfl
theorem c1_85 : cal 1 85 = some (1, 85, 0, 18, 265, 266, 267, 39, 1) := rfl
theorem c1_88 : cal 1 88 = some (1, 88, 0, 23, 293, 294, 295, 39, 2) := rfl
theorem c1_91 : cal 1 91 = some (1, 91, 0, 26, 312, 313, 314, 39, 0) := rfl
theorem c1_95 : cal 1 95 = some (1, 95, 0, 38, 379, 380, 381, 39, 2) := rfl
theorem c1_99 : cal 1 99 = some (1, 99, 0, 19, 269, 270, 271, 39, 1) := rfl
theorem c10_59 : cal 10 59 = some (10, 59, 1, 168, 883, 884, 0, 45, 1) := rfl
theorem c11_122 : cal 11 122 = some (11, 122, 1, 170, 898, 899, 0, 46, 1) := rfl
theorem c2_100 : cal 2 100 = some (2, 100, 0, 37, 375, 376, 377, 39, 1) := rfl
theorem c2_103 : cal 2 103 = some (2, 103, 0, 21, 383, 282, 283, 39, 1) := rfl
theorem c2_106 : cal 2 106 = some (2, 106, 0, 27, 384, 320, 321, 39, 1) := rfl
theorem c2_11 : cal 2 11 = some (2, 11, 2, 11, 62, 63, 0, 39, 0) := rfl
theorem c2_126 : cal 2 126 = some (2, 126, 1, 45, 393, 213, 0, 38, 1) := rfl
theorem c2_135 : cal 2 135 = some (2, 135, 0, 26, 394, 313, 314, 39, 0) := rfl
theorem c2_141 : cal 2 141 = some (2, 141, 0, 39, 395, 396, 397, 39, 0) := rfl
theorem c2_159 : cal 2 159 = some (2, 159, 0, 40, 405, 406, 407, 39, 1) := rfl
theorem c2_168 : cal 2 168 = some (2, 168, 1, 50, 414, 239, 0, 38, 1) := rfl
theorem c2_177 : cal 2 177 = some (2, 177, 1, 65, 423, 424, 0, 38, 1) := rfl
theorem c2_183 : cal 2 183 = some (2, 183, 0, 41, 433, 434, 435, 39, 1) := rfl
theorem c2_186 : cal 2 186 = some (2, 186, 1, 67, 437, 438, 0, 38, 1) := rfl
theorem c2_190 : cal 2 190 = some (2, 190, 0, 71, 455, 457, 9, 38, 3) := rfl
theorem c2_193 : cal 2 193 = some (2, 193, 0, 1, 463, 464, 465, 41, 1) := rfl
theorem c2_197 : cal 2 197 = some (2, 197, 0, 3, 481, 482, 483, 41, 0) := rfl
theorem c2_200 : cal 2 200 = some (2, 200, 0, 4, 628, 486, 487, 41, 0) := rfl
theorem c2_203 : cal 2 203 = some (2, 203, 0, 5, 629, 490, 491, 41, 0) := rfl
theorem c2_214 : cal 2 214 = some (2, 214, 0, 42, 630, 631, 632, 39, 2) := rfl
theorem c2_218 : cal 2 218 = some (2, 218, 1, 78, 651, 652, 0, 38, 1) := rfl
theorem c2_221 : cal 2 221 = some (2, 221, 0, 47, 223, 225, 1, 38, 0) := rfl
theorem c2_32 : cal 2 32 = some (2, 32, 2, 0, 144, 145, 0, 41, 0) := rfl
theorem c2_46 : cal 2 46 = some (2, 46, 0, 12, 204, 205, 206, 39, 1) := rfl
theorem c2_50 : cal 2 50 = some (2, 50, 0, 13, 208, 209, 210, 39, 2) := rfl
theorem c2_54 : cal 2 54 = some (2, 54, 0, 46, 219, 221, 0, 38, 1) := rfl
theorem c2_58 : cal 2 58 = some (2, 58, 0, 14, 231, 232, 233, 39, 2) := rfl
theorem c2_61 : cal 2 61 = some (2, 61, 0, 15, 245, 246, 247, 39, 2) := rfl
theorem c2_64 : cal 2 64 = some (2, 64, 0, 16, 253, 254, 255, 39, 0) := rfl
theorem c2_68 : cal 2 68 = some (2, 68, 0, 17, 261, 262, 263, 39, 1) := rfl
theorem c2_71 : cal 2 71 = some (2, 71, 0, 20, 277, 278, 279, 39, 1) := rfl
theorem c2_74 : cal 2 74 = some (2, 74, 0, 22, 289, 290, 291, 39, 3) := rfl
theorem c2_78 : cal 2 78 = some (2, 78, 0, 25, 308, 309, 310, 39, 1) := rfl
theorem c2_81 : cal 2 81 = some (2, 81, 0, 28, 327, 328, 329, 39, 0) := rfl
theorem c2_84 : cal 2 84 = some (2, 84, 0, 29, 331, 332, 333, 39, 1) := rfl
theorem c2_87 : cal 2 87 = some (2, 87, 1, 49, 367, 236, 0, 38, 1) := rfl
theorem c2_91 : cal 2 91 = some (2, 91, 0, 18, 368, 266, 267, 39, 1) := rfl
theorem c2_94 : cal 2 94 = some (2, 94, 0, 23, 369, 294, 295, 39, 2) := rfl
theorem c2_97 : cal 2 97 = some (2, 97, 0, 19, 374, 270, 271, 39, 1) := rfl
theorem c3_101 : cal 3 101 = some (3, 101, 0, 97, 755, 757, 16, 42, 0) := rfl
theorem c3_104 : cal 3 104 = some (3, 104, 0, 99, 763, 765, 17, 42, 1) := rfl
theorem c3_107 : cal 3 107 = some (3, 107, 0, 100, 767, 769, 18, 42, 1) := rfl
theorem c3_111 : cal 3 111 = some (3, 111, 0, 103, 779, 781, 20, 42, 1) := rfl
theorem c3_114 : cal 3 114 = some (3, 114, 0, 102, 775, 777, 19, 42, 1) := rfl
theorem c3_117 : cal 3 117 = some (3, 117, 0, 105, 787, 789, 21, 42, 3) := rfl
theorem c3_121 : cal 3 121 = some (3, 121, 0, 106, 791, 793, 22, 42, 3) := rfl
theorem c3_124 : cal 3 124 = some (3, 124, 0, 112, 812, 814, 24, 42, 1) := rfl
theorem c3_127 : cal 3 127 = some (3, 127, 0, 110, 805, 807, 23, 42, 1) := rfl
theorem c3_130 : cal 3 130 = some (3, 130, 0, 113, 816, 818, 25, 42, 1) := rfl
theorem c3_133 : cal 3 133 = some (3, 133, 1, 115, 824, 825, 0, 42, 1) := rfl
theorem c3_137 : cal 3 137 = some (3, 137, 0, 126, 861, 863, 26, 42, 0) := rfl
theorem c3_141 : cal 3 141 = some (3, 141, 1, 127, 865, 866, 0, 42, 2) := rfl
theorem c3_147 : cal 3 147 = some (3, 147, 1, 167, 880, 881, 0, 45, 1) := rfl
theorem c3_155 : cal 3 155 = some (3, 155, 1, 169, 895, 896, 0, 46, 1) := rfl
theorem c3_161 : cal 3 161 = some (3, 161, 0, 133, 909, 911, 27, 42, 0) := rfl
theorem c3_164 : cal 3 164 = some (3, 164, 0, 136, 921, 923, 28, 42, 3) := rfl
theorem c3_169 : cal 3 169 = some (3, 169, 1, 139, 932, 933, 0, 42, 2) := rfl
theorem c3_173 : cal 3 173 = some (3, 173, 1, 138, 929, 930, 0, 42, 1) := rfl
theorem c3_179 : cal 3 179 = some (3, 179, 0, 145, 956, 958, 32, 42, 2) := rfl
theorem c3_185 : cal 3 185 = some (3, 185, 0, 144, 952, 954, 31, 42, 2) := rfl
theorem c3_188 : cal 3 188 = some (3, 188, 0, 146, 960, 962, 33, 42, 1) := rfl
theorem c3_191 : cal 3 191 = some (3, 191, 0, 147, 964, 966, 34, 42, 1) := rfl
theorem c3_194 : cal 3 194 = some (3, 194, 0, 143, 948, 950, 30, 42, 0) := rfl
theorem c3_198 : cal 3 198 = some (3, 198, 0, 142, 944, 946, 29, 42, 0) := rfl
theorem c3_201 : cal 3 201 = some (3, 201, 0, 150, 976, 978, 36, 42, 4) := rfl
theorem c3_205 : cal 3 205 = some (3, 205, 0, 149, 972, 974, 35, 42, 1) := rfl
theorem c3_32 : cal 3 32 = some (3, 32, 1, 84, 709, 710, 0, 42, 3) := rfl
theorem c3_40 : cal 3 40 = some (3, 40, 1, 82, 702, 703, 0, 42, 4) := rfl
theorem c3_44 : cal 3 44 = some (3, 44, 0, 86, 716, 718, 14, 42, 0) := rfl
theorem c3_47 : cal 3 47 = some (3, 47, 1, 107, 795, 796, 0, 42, 2) := rfl
theorem c3_51 : cal 3 51 = some (3, 51, 1, 118, 833, 834, 0, 42, 3) := rfl
theorem c3_55 : cal 3 55 = some (3, 55, 1, 117, 830, 831, 0, 42, 3) := rfl
theorem c3_59 : cal 3 59 = some (3, 59, 1, 108, 798, 799, 0, 42, 4) := rfl
theorem c3_63 : cal 3 63 = some (3, 63, 1, 111, 809, 810, 0, 42, 2) := rfl
theorem c3_67 : cal 3 67 = some (3, 67, 1, 116, 827, 828, 0, 42, 3) := rfl
theorem c3_71 : cal 3 71 = some (3, 71, 1, 119, 836, 837, 0, 42, 2) := rfl
theorem c3_75 : cal 3 75 = some (3, 75, 1, 120, 839, 840, 0, 42, 2) := rfl
theorem c3_78 : cal 3 78 = some (3, 78, 1, 123, 850, 851, 0, 42, 2) := rfl
theorem c3_81 : cal 3 81 = some (3, 81, 1, 88, 724, 725, 0, 42, 2) := rfl
theorem c3_85 : cal 3 85 = some (3, 85, 1, 91, 734, 735, 0, 42, 1) := rfl
theorem c3_89 : cal 3 89 = some (3, 89, 1, 92, 737, 738, 0, 42, 1) := rfl
theorem c3_92 : cal 3 92 = some (3, 92, 1, 90, 731, 732, 0, 42, 2) := rfl
theorem c3_95 : cal 3 95 = some (3, 95, 0, 93, 740, 742, 15, 42, 2) := rfl
theorem c3_98 : cal 3 98 = some (3, 98, 1, 95, 748, 749, 0, 42, 2) := rfl
theorem c4_100 : cal 4 100 = some (4, 100, 0, 72, 459, 460, 461, 38, 1) := rfl
theorem c4_104 : cal 4 104 = some (4, 104, 0, 137, 925, 926, 927, 42, 1) := rfl
theorem c4_105 : cal 4 105 = some (4, 105, 0, 73, 473, 474, 475, 38, 0) := rfl
theorem c4_108 : cal 4 108 = some (4, 108, 0, 140, 936, 937, 938, 42, 0) := rfl
theorem c4_109 : cal 4 109 = some (4, 109, 0, 74, 477, 478, 479, 38, 0) := rfl
theorem c4_112 : cal 4 112 = some (4, 112, 0, 141, 940, 941, 942, 42, 0) := rfl
theorem c4_113 : cal 4 113 = some (4, 113, 0, 75, 624, 625, 626, 38, 0) := rfl
theorem c4_116 : cal 4 116 = some (4, 116, 0, 148, 968, 969, 970, 42, 0) := rfl
theorem c4_117 : cal 4 117 = some (4, 117, 0, 76, 643, 644, 645, 38, 0) := rfl
theorem c4_12 : cal 4 12 = some (4, 12, 2, 80, 660, 661, 0, 42, 0) := rfl
theorem c4_120 : cal 4 120 = some (4, 120, 0, 81, 698, 699, 700, 42, 0) := rfl
theorem c4_121 : cal 4 121 = some (4, 121, 0, 77, 647, 648, 649, 38, 1) := rfl
theorem c4_124 : cal 4 124 = some (4, 124, 0, 83, 705, 706, 707, 42, 1) := rfl
theorem c4_125 : cal 4 125 = some (4, 125, 0, 79, 654, 655, 656, 38, 1) := rfl
theorem c4_128 : cal 4 128 = some (4, 128, 0, 85, 712, 713, 714, 42, 1) := rfl
theorem c4_13 : cal 4 13 = some (4, 13, 0, 44, 200, 201, 202, 38, 2) := rfl
theorem c4_17 : cal 4 17 = some (4, 17, 0, 87, 720, 721, 722, 42, 2) := rfl
theorem c4_18 : cal 4 18 = some (4, 18, 0, 48, 227, 228, 229, 38, 2) := rfl
theorem c4_21 : cal 4 21 = some (4, 21, 0, 89, 727, 728, 729, 42, 2) := rfl
theorem c4_22 : cal 4 22 = some (4, 22, 0, 51, 241, 242, 243, 38, 2) := rfl
theorem c4_25 : cal 4 25 = some (4, 25, 0, 94, 744, 745, 746, 42, 2) := rfl
theorem c4_26 : cal 4 26 = some (4, 26, 0, 52, 249, 250, 251, 38, 0) := rfl
theorem c4_30 : cal 4 30 = some (4, 30, 0, 96, 751, 752, 753, 42, 0) := rfl
theorem c4_31 : cal 4 31 = some (4, 31, 0, 53, 257, 258, 259, 38, 1) := rfl
theorem c4_35 : cal 4 35 = some (4, 35, 0, 98, 759, 760, 761, 42, 1) := rfl
theorem c4_36 : cal 4 36 = some (4, 36, 0, 54, 273, 274, 275, 38, 1) := rfl
theorem c4_39 : cal 4 39 = some (4, 39, 0, 101, 771, 772, 773, 42, 1) := rfl
theorem c4_40 : cal 4 40 = some (4, 40, 0, 55, 285, 286, 287, 38, 3) := rfl
theorem c4_44 : cal 4 44 = some (4, 44, 0, 104, 783, 784, 785, 42, 3) := rfl
theorem c4_45 : cal 4 45 = some (4, 45, 0, 56, 304, 305, 306, 38, 1) := rfl
theorem c4_48 : cal 4 48 = some (4, 48, 0, 109, 801, 802, 803, 42, 1) := rfl
theorem c4_49 : cal 4 49 = some (4, 49, 0, 57, 323, 324, 325, 38, 0) := rfl
theorem c4_52 : cal 4 52 = some (4, 52, 0, 114, 820, 821, 822, 42, 0) := rfl
theorem c4_53 : cal 4 53 = some (4, 53, 0, 58, 363, 364, 365, 38, 2) := rfl
theorem c4_56 : cal 4 56 = some (4, 56, 0, 121, 842, 843, 844, 42, 2) := rfl
theorem c4_57 : cal 4 57 = some (4, 57, 0, 59, 370, 371, 372, 38, 2) := rfl
theorem c4_60 : cal 4 60 = some (4, 60, 0, 122, 846, 847, 848, 42, 2) := rfl
theorem c4_61 : cal 4 61 = some (4, 61, 0, 60, 385, 386, 387, 38, 1) := rfl
theorem c4_64 : cal 4 64 = some (4, 64, 0, 124, 853, 854, 855, 42, 1) := rfl
theorem c4_65 : cal 4 65 = some (4, 65, 0, 61, 389, 390, 391, 38, 1) := rfl
theorem c4_68 : cal 4 68 = some (4, 68, 0, 125, 857, 858, 859, 42, 1) := rfl
theorem c4_69 : cal 4 69 = some (4, 69, 0, 62, 410, 411, 412, 38, 2) := rfl
theorem c4_72 : cal 4 72 = some (4, 72, 0, 128, 868, 869, 870, 42, 2) := rfl
theorem c4_73 : cal 4 73 = some (4, 73, 0, 63, 415, 416, 417, 38, 0) := rfl
theorem c4_76 : cal 4 76 = some (4, 76, 0, 129, 872, 873, 874, 42, 0) := rfl
theorem c4_77 : cal 4 77 = some (4, 77, 0, 64, 419, 420, 421, 38, 1) := rfl
theorem c4_80 : cal 4 80 = some (4, 80, 0, 130, 876, 877, 878, 42, 1) := rfl
theorem c4_81 : cal 4 81 = some (4, 81, 0, 66, 428, 429, 430, 38, 1) := rfl
theorem c4_85 : cal 4 85 = some (4, 85, 0, 131, 890, 891, 892, 42, 1) := rfl
theorem c4_86 : cal 4 86 = some (4, 86, 0, 68, 443, 444, 445, 38, 0) := rfl
theorem c4_89 : cal 4 89 = some (4, 89, 0, 132, 905, 906, 907, 42, 0) := rfl
theorem c4_9 : cal 4 9 = some (4, 9, 2, 43, 54, 55, 0, 38, 0) := rfl
theorem c4_90 : cal 4 90 = some (4, 90, 0, 69, 447, 448, 449, 38, 1) := rfl
theorem c4_93 : cal 4 93 = some (4, 93, 0, 134, 913, 914, 915, 42, 1) := rfl
theorem c4_94 : cal 4 94 = some (4, 94, 0, 70, 451, 452, 453, 38, 2) := rfl
theorem c4_97 : cal 4 97 = some (4, 97, 0, 135, 917, 918, 919, 42, 2) := rfl
theorem c7_1059 : cal 7 1059 = some (7, 1059, 1, 166, 601, 602, 0, 50, 3) := rfl
theorem c7_335 : cal 7 335 = some (7, 335, 0, 159, 516, 517, 518, 47, 0) := rfl
theorem c7_492 : cal 7 492 = some (7, 492, 0, 157, 506, 507, 508, 47, 0) := rfl
theorem c7_495 : cal 7 495 = some (7, 495, 1, 165, 595, 596, 0, 48, 2) := rfl
theorem c7_505 : cal 7 505 = some (7, 505, 0, 158, 512, 513, 514, 47, 0) := rfl
theorem c7_633 : cal 7 633 = some (7, 633, 0, 156, 502, 503, 504, 47, 2) := rfl
theorem c7_637 : cal 7 637 = some (7, 637, 1, 162, 520, 521, 0, 48, 4) := rfl
theorem c8_38 : cal 8 38 = some (8, 38, 1, 151, 529, 298, 0, 43, 2) := rfl
theorem c8_88 : cal 8 88 = some (8, 88, 1, 163, 523, 524, 0, 48, 1) := rfl
theorem c8_9 : cal 8 9 = some (8, 9, 1, 161, 598, 599, 0, 47, 2) := rfl
theorem c8_92 : cal 8 92 = some (8, 92, 1, 153, 526, 527, 0, 43, 2) := rfl
theorem c8_95 : cal 8 95 = some (8, 95, 1, 164, 530, 531, 0, 48, 4) := rfl
theorem f0_15 : fld 0 15 = some (0, 15, 0, 1, 149, true) := rfl
theorem f0_29 : fld 0 29 = some (0, 29, 0, 2, 151, false) := rfl
theorem f0_33 : fld 0 33 = some (0, 33, 0, 4, 155, false) := rfl
theorem f0_55 : fld 0 55 = some (0, 55, 0, 3, 153, false) := rfl
theorem f0_9 : fld 0 9 = some (0, 9, 0, 0, 148, true) := rfl
theorem f1_24 : fld 1 24 = some (1, 24, 1, 1, 75, true) := rfl
theorem f1_27 : fld 1 27 = some (1, 27, 1, 2, 77, true) := rfl
theorem f1_32 : fld 1 32 = some (1, 32, 1, 3, 79, true) := rfl
theorem f1_35 : fld 1 35 = some (1, 35, 1, 4, 80, true) := rfl
theorem f1_38 : fld 1 38 = some (1, 38, 1, 5, 82, true) := rfl
theorem f1_41 : fld 1 41 = some (1, 41, 1, 6, 84, true) := rfl
theorem f1_44 : fld 1 44 = some (1, 44, 1, 7, 86, true) := rfl
theorem f1_47 : fld 1 47 = some (1, 47, 1, 8, 88, false) := rfl
theorem f1_51 : fld 1 51 = some (1, 51, 1, 9, 90, false) := rfl
theorem f1_54 : fld 1 54 = some (1, 54, 1, 10, 91, false) := rfl
theorem f1_57 : fld 1 57 = some (1, 57, 1, 11, 93, false) := rfl
theorem f1_60 : fld 1 60 = some (1, 60, 1, 12, 95, false) := rfl
theorem f1_63 : fld 1 63 = some (1, 63, 1, 13, 97, false) := rfl
theorem f1_66 : fld 1 66 = some (1, 66, 1, 14, 99, false) := rfl
theorem f1_69 : fld 1 69 = some (1, 69, 1, 15, 101, false) := rfl
theorem f1_72 : fld 1 72 = some (1, 72, 1, 16, 103, false) := rfl
theorem f1_9 : fld 1 9 = some (1, 9, 1, 0, 73, true) := rfl
theorem f2_109 : fld 2 109 = some (2, 109, 1, 5, 83, true) := rfl
theorem f2_113 : fld 2 113 = some (2, 113, 1, 6, 85, true) := rfl
theorem f2_116 : fld 2 116 = some (2, 116, 1, 7, 87, true) := rfl
theorem f2_119 : fld 2 119 = some (2, 119, 1, 10, 92, false) := rfl
theorem f2_12 : fld 2 12 = some (2, 12, 2, 0, 169, false) := rfl
theorem f2_123 : fld 2 123 = some (2, 123, 1, 4, 81, true) := rfl
theorem f2_129 : fld 2 129 = some (2, 129, 1, 0, 74, true) := rfl
theorem f2_132 : fld 2 132 = some (2, 132, 1, 11, 94, false) := rfl
theorem f2_138 : fld 2 138 = some (2, 138, 1, 8, 89, false) := rfl
theorem f2_144 : fld 2 144 = some (2, 144, 1, 12, 96, false) := rfl
theorem f2_147 : fld 2 147 = some (2, 147, 1, 13, 98, false) := rfl
theorem f2_150 : fld 2 150 = some (2, 150, 1, 14, 100, false) := rfl
theorem f2_153 : fld 2 153 = some (2, 153, 1, 15, 102, false) := rfl
theorem f2_156 : fld 2 156 = some (2, 156, 1, 16, 104, false) := rfl
theorem f2_16 : fld 2 16 = some (2, 16, 2, 1, 170, false) := rfl
theorem f2_162 : fld 2 162 = some (2, 162, 0, 2, 152, false) := rfl
theorem f2_165 : fld 2 165 = some (2, 165, 2, 3, 172, false) := rfl
theorem f2_171 : fld 2 171 = some (2, 171, 1, 1, 76, true) := rfl
theorem f2_174 : fld 2 174 = some (2, 174, 1, 2, 78, true) := rfl
theorem f2_19 : fld 2 19 = some (2, 19, 2, 2, 171, true) := rfl
theorem f2_207 : fld 2 207 = some (2, 207, 0, 3, 154, false) := rfl
theorem f2_211 : fld 2 211 = some (2, 211, 0, 1, 150, true) := rfl
theorem f2_23 : fld 2 23 = some (2, 23, 2, 4, 173, true) := rfl
theorem f2_26 : fld 2 26 = some (2, 26, 2, 5, 174, true) := rfl
theorem f2_33 : fld 2 33 = some (2, 33, 2, 6, 175, true) := rfl
theorem f2_37 : fld 2 37 = some (2, 37, 2, 7, 176, true) := rfl
theorem f2_40 : fld 2 40 = some (2, 40, 2, 8, 177, true) := rfl
theorem f2_43 : fld 2 43 = some (2, 43, 2, 9, 178, true) := rfl
theorem f3_13 : fld 3 13 = some (3, 13, 3, 1, 665, true) := rfl
theorem f3_144 : fld 3 144 = some (3, 144, 3, 7, 671, false) := rfl
theorem f3_16 : fld 3 16 = some (3, 16, 3, 2, 666, true) := rfl
theorem f3_177 : fld 3 177 = some (3, 177, 3, 8, 672, false) := rfl
theorem f3_182 : fld 3 182 = some (3, 182, 3, 10, 674, false) := rfl
theorem f3_19 : fld 3 19 = some (3, 19, 3, 4, 668, true) := rfl
theorem f3_22 : fld 3 22 = some (3, 22, 3, 5, 669, true) := rfl
theorem f3_26 : fld 3 26 = some (3, 26, 3, 6, 670, true) := rfl
theorem f3_29 : fld 3 29 = some (3, 29, 3, 9, 673, true) := rfl
theorem f3_36 : fld 3 36 = some (3, 36, 3, 3, 667, false) := rfl
theorem f3_7 : fld 3 7 = some (3, 7, 3, 0, 664, true) := rfl
theorem f7_15 : fld 7 15 = some (7, 15, 100, 1, 981, true) := rfl
theorem f7_9 : fld 7 9 = some (7, 9, 100, 0, 982, true) := rfl
theorem g1_114 : gst 1 114 = some (1, 114, 1002, 0) := rfl
theorem g1_117 : gst 1 117 = some (1, 117, 1003, 0) := rfl
theorem g1_15 : gst 1 15 = some (1, 15, 1001, 0) := rfl
theorem g7_1053 : gst 7 1053 = some (7, 1053, 1004, 551) := rfl
theorem g7_38 : gst 7 38 = some (7, 38, 1, 510) := rfl
theorem k0_47 : kon 0 47 = some (0, 47, .ref 1010) := rfl
theorem k0_73 : kon 0 73 = some (0, 73, .ref 1011) := rfl
theorem k0_75 : kon 0 75 = some (0, 75, .ref 1012) := rfl
theorem k0_77 : kon 0 77 = some (0, 77, .ref 1013) := rfl
theorem k0_79 : kon 0 79 = some (0, 79, .ref 1014) := rfl
theorem k0_81 : kon 0 81 = some (0, 81, .ref 1015) := rfl
theorem k10_77 : kon 10 77 = some (10, 77, .int 2143289344) := rfl
theorem k2_224 : kon 2 224 = some (2, 224, .float 1258291200) := rfl
theorem k2_225 : kon 2 225 = some (2, 225, .int 8388608) := rfl
theorem k6_265 : kon 6 265 = some (6, 265, .int 1431655765) := rfl
theorem k6_266 : kon 6 266 = some (6, 266, .int 858993459) := rfl
theorem k6_267 : kon 6 267 = some (6, 267, .int 252645135) := rfl
theorem n2_30 : nwc 2 30 = some (2, 30, 0) := rfl
theorem n2_9 : nwc 2 9 = some (2, 9, 1) := rfl
theorem n4_10 : nwc 4 10 = some (4, 10, 3) := rfl
theorem n4_7 : nwc 4 7 = some (4, 7, 2) := rfl
theorem q0_19 : ko2 0 19 = some (0, 19, .long (255)) := rfl
theorem q0_21 : ko2 0 21 = some (0, 21, .long (33)) := rfl
theorem q0_23 : ko2 0 23 = some (0, 23, .long (126)) := rfl
theorem q11_137 : ko2 11 137 = some (11, 137, .long (9221120237041090560)) := rfl
theorem q2_181 : ko2 2 181 = some (2, 181, .long (-1)) := rfl
theorem q2_226 : ko2 2 226 = some (2, 226, .double 4611686018427387904) := rfl
theorem q2_228 : ko2 2 228 = some (2, 228, .double 4841369599423283200) := rfl
theorem q2_230 : ko2 2 230 = some (2, 230, .long (4503599627370496)) := rfl
theorem q3_153 : ko2 3 153 = some (3, 153, .long (-1)) := rfl
theorem q3_167 : ko2 3 167 = some (3, 167, .long (255)) := rfl
theorem q4_98 : ko2 4 98 = some (4, 98, .long (4294967295)) := rfl
theorem r1_2 : rk 2 < rk 1 ∧ mxl 2 ≤ 18 := by decide +kernel
theorem r10_9 : rk 9 < rk 10 ∧ mxl 9 ≤ 18 := by decide +kernel
theorem r101_102 : rk 102 < rk 101 ∧ mxl 102 ≤ 18 := by decide +kernel
theorem r101_86 : rk 86 < rk 101 ∧ mxl 86 ≤ 18 := by decide +kernel
theorem r101_99 : rk 99 < rk 101 ∧ mxl 99 ≤ 18 := by decide +kernel
theorem r102_103 : rk 103 < rk 102 ∧ mxl 103 ≤ 18 := by decide +kernel
theorem r104_105 : rk 105 < rk 104 ∧ mxl 105 ≤ 18 := by decide +kernel
theorem r104_106 : rk 106 < rk 104 ∧ mxl 106 ≤ 18 := by decide +kernel
theorem r104_86 : rk 86 < rk 104 ∧ mxl 86 ≤ 18 := by decide +kernel
theorem r105_84 : rk 84 < rk 105 ∧ mxl 84 ≤ 18 := by decide +kernel
theorem r105_91 : rk 91 < rk 105 ∧ mxl 91 ≤ 18 := by decide +kernel
theorem r105_99 : rk 99 < rk 105 ∧ mxl 99 ≤ 18 := by decide +kernel
theorem r106_107 : rk 107 < rk 106 ∧ mxl 107 ≤ 18 := by decide +kernel
theorem r106_108 : rk 108 < rk 106 ∧ mxl 108 ≤ 18 := by decide +kernel
theorem r109_110 : rk 110 < rk 109 ∧ mxl 110 ≤ 18 := by decide +kernel
theorem r109_113 : rk 113 < rk 109 ∧ mxl 113 ≤ 18 := by decide +kernel
theorem r109_86 : rk 86 < rk 109 ∧ mxl 86 ≤ 18 := by decide +kernel
theorem r110_107 : rk 107 < rk 110 ∧ mxl 107 ≤ 18 := by decide +kernel
theorem r110_111 : rk 111 < rk 110 ∧ mxl 111 ≤ 18 := by decide +kernel
theorem r110_112 : rk 112 < rk 110 ∧ mxl 112 ≤ 18 := by decide +kernel
theorem r110_99 : rk 99 < rk 110 ∧ mxl 99 ≤ 18 := by decide +kernel
theorem r112_107 : rk 107 < rk 112 ∧ mxl 107 ≤ 18 := by decide +kernel
theorem r113_107 : rk 107 < rk 113 ∧ mxl 107 ≤ 18 := by decide +kernel
theorem r113_111 : rk 111 < rk 113 ∧ mxl 111 ≤ 18 := by decide +kernel
theorem r113_112 : rk 112 < rk 113 ∧ mxl 112 ≤ 18 := by decide +kernel
theorem r114_115 : rk 115 < rk 114 ∧ mxl 115 ≤ 18 := by decide +kernel
theorem r114_86 : rk 86 < rk 114 ∧ mxl 86 ≤ 18 := by decide +kernel
theorem r115_107 : rk 107 < rk 115 ∧ mxl 107 ≤ 18 := by decide +kernel
theorem r115_108 : rk 108 < rk 115 ∧ mxl 108 ≤ 18 := by decide +kernel
theorem r115_111 : rk 111 < rk 115 ∧ mxl 111 ≤ 18 := by decide +kernel
theorem r115_116 : rk 116 < rk 115 ∧ mxl 116 ≤ 18 := by decide +kernel
theorem r115_119 : rk 119 < rk 115 ∧ mxl 119 ≤ 18 := by decide +kernel
theorem r115_120 : rk 120 < rk 115 ∧ mxl 120 ≤ 18 := by decide +kernel
theorem r116_107 : rk 107 < rk 116 ∧ mxl 107 ≤ 18 := by decide +kernel
theorem r116_108 : rk 108 < rk 116 ∧ mxl 108 ≤ 18 := by decide +kernel
theorem r116_117 : rk 117 < rk 116 ∧ mxl 117 ≤ 18 := by decide +kernel
theorem r117_107 : rk 107 < rk 117 ∧ mxl 107 ≤ 18 := by decide +kernel
theorem r117_118 : rk 118 < rk 117 ∧ mxl 118 ≤ 18 := by decide +kernel
theorem r118_107 : rk 107 < rk 118 ∧ mxl 107 ≤ 18 := by decide +kernel
theorem r119_107 : rk 107 < rk 119 ∧ mxl 107 ≤ 18 := by decide +kernel
theorem r120_118 : rk 118 < rk 120 ∧ mxl 118 ≤ 18 := by decide +kernel
theorem r121_107 : rk 107 < rk 121 ∧ mxl 107 ≤ 18 := by decide +kernel
theorem r121_91 : rk 91 < rk 121 ∧ mxl 91 ≤ 18 := by decide +kernel
theorem r121_99 : rk 99 < rk 121 ∧ mxl 99 ≤ 18 := by decide +kernel
theorem r122_103 : rk 103 < rk 122 ∧ mxl 103 ≤ 18 := by decide +kernel
theorem r122_112 : rk 112 < rk 122 ∧ mxl 112 ≤ 18 := by decide +kernel
theorem r122_123 : rk 123 < rk 122 ∧ mxl 123 ≤ 18 := by decide +kernel
theorem r122_84 : rk 84 < rk 122 ∧ mxl 84 ≤ 18 := by decide +kernel
theorem r122_99 : rk 99 < rk 122 ∧ mxl 99 ≤ 18 := by decide +kernel
theorem r123_111 : rk 111 < rk 123 ∧ mxl 111 ≤ 18 := by decide +kernel
theorem r123_118 : rk 118 < rk 123 ∧ mxl 118 ≤ 18 := by decide +kernel
theorem r124_84 : rk 84 < rk 124 ∧ mxl 84 ≤ 18 := by decide +kernel
theorem r125_111 : rk 111 < rk 125 ∧ mxl 111 ≤ 18 := by decide +kernel
theorem r125_126 : rk 126 < rk 125 ∧ mxl 126 ≤ 18 := by decide +kernel
theorem r125_127 : rk 127 < rk 125 ∧ mxl 127 ≤ 18 := by decide +kernel
theorem r125_84 : rk 84 < rk 125 ∧ mxl 84 ≤ 18 := by decide +kernel
theorem r127_123 : rk 123 < rk 127 ∧ mxl 123 ≤ 18 := by decide +kernel
theorem r128_84 : rk 84 < rk 128 ∧ mxl 84 ≤ 18 := by decide +kernel
theorem r128_92 : rk 92 < rk 128 ∧ mxl 92 ≤ 18 := by decide +kernel
theorem r129_123 : rk 123 < rk 129 ∧ mxl 123 ≤ 18 := by decide +kernel
theorem r13_45 : rk 45 < rk 13 ∧ mxl 45 ≤ 18 := by decide +kernel
theorem r130_167 : rk 167 < rk 130 ∧ mxl 167 ≤ 18 := by decide +kernel
theorem r130_99 : rk 99 < rk 130 ∧ mxl 99 ≤ 18 := by decide +kernel
theorem r131_107 : rk 107 < rk 131 ∧ mxl 107 ≤ 18 := by decide +kernel
theorem r131_126 : rk 126 < rk 131 ∧ mxl 126 ≤ 18 := by decide +kernel
theorem r131_169 : rk 169 < rk 131 ∧ mxl 169 ≤ 18 := by decide +kernel
theorem r131_91 : rk 91 < rk 131 ∧ mxl 91 ≤ 18 := by decide +kernel
theorem r132_115 : rk 115 < rk 132 ∧ mxl 115 ≤ 18 := by decide +kernel
theorem r132_133 : rk 133 < rk 132 ∧ mxl 133 ≤ 18 := by decide +kernel
theorem r133_82 : rk 82 < rk 133 ∧ mxl 82 ≤ 18 := by decide +kernel
theorem r134_115 : rk 115 < rk 134 ∧ mxl 115 ≤ 18 := by decide +kernel
theorem r134_127 : rk 127 < rk 134 ∧ mxl 127 ≤ 18 := by decide +kernel
theorem r134_133 : rk 133 < rk 134 ∧ mxl 133 ≤ 18 := by decide +kernel
theorem r134_84 : rk 84 < rk 134 ∧ mxl 84 ≤ 18 := by decide +kernel
theorem r135_136 : rk 136 < rk 135 ∧ mxl 136 ≤ 18 := by decide +kernel
theorem r135_84 : rk 84 < rk 135 ∧ mxl 84 ≤ 18 := by decide +kernel
theorem r136_115 : rk 115 < rk 136 ∧ mxl 115 ≤ 18 := by decide +kernel
theorem r136_133 : rk 133 < rk 136 ∧ mxl 133 ≤ 18 := by decide +kernel
theorem r137_138 : rk 138 < rk 137 ∧ mxl 138 ≤ 18 := by decide +kernel
theorem r137_139 : rk 139 < rk 137 ∧ mxl 139 ≤ 18 := by decide +kernel
theorem r138_139 : rk 139 < rk 138 ∧ mxl 139 ≤ 18 := by decide +kernel
theorem r138_84 : rk 84 < rk 138 ∧ mxl 84 ≤ 18 := by decide +kernel
theorem r14_49 : rk 49 < rk 14 ∧ mxl 49 ≤ 18 := by decide +kernel
theorem r14_50 : rk 50 < rk 14 ∧ mxl 50 ≤ 18 := by decide +kernel
theorem r141_142 : rk 142 < rk 141 ∧ mxl 142 ≤ 18 := by decide +kernel
theorem r142_143 : rk 143 < rk 142 ∧ mxl 143 ≤ 18 := by decide +kernel
theorem r142_146 : rk 146 < rk 142 ∧ mxl 146 ≤ 18 := by decide +kernel
theorem r143_144 : rk 144 < rk 143 ∧ mxl 144 ≤ 18 := by decide +kernel
theorem r143_146 : rk 146 < rk 143 ∧ mxl 146 ≤ 18 := by decide +kernel
theorem r143_147 : rk 147 < rk 143 ∧ mxl 147 ≤ 18 := by decide +kernel
theorem r144_145 : rk 145 < rk 144 ∧ mxl 145 ≤ 18 := by decide +kernel
theorem r145_84 : rk 84 < rk 145 ∧ mxl 84 ≤ 18 := by decide +kernel
theorem r146_145 : rk 145 < rk 146 ∧ mxl 145 ≤ 18 := by decide +kernel
theorem r147_145 : rk 145 < rk 147 ∧ mxl 145 ≤ 18 := by decide +kernel
theorem r148_142 : rk 142 < rk 148 ∧ mxl 142 ≤ 18 := by decide +kernel
theorem r148_149 : rk 149 < rk 148 ∧ mxl 149 ≤ 18 := by decide +kernel
theorem r148_86 : rk 86 < rk 148 ∧ mxl 86 ≤ 18 := by decide +kernel
theorem r149_100 : rk 100 < rk 149 ∧ mxl 100 ≤ 18 := by decide +kernel
theorem r149_102 : rk 102 < rk 149 ∧ mxl 102 ≤ 18 := by decide +kernel
theorem r149_106 : rk 106 < rk 149 ∧ mxl 106 ≤ 18 := by decide +kernel
theorem r149_113 : rk 113 < rk 149 ∧ mxl 113 ≤ 18 := by decide +kernel
theorem r149_115 : rk 115 < rk 149 ∧ mxl 115 ≤ 18 := by decide +kernel
theorem r149_150 : rk 150 < rk 149 ∧ mxl 150 ≤ 18 := by decide +kernel
theorem r149_93 : rk 93 < rk 149 ∧ mxl 93 ≤ 18 := by decide +kernel
theorem r149_97 : rk 97 < rk 149 ∧ mxl 97 ≤ 18 := by decide +kernel
theorem r15_50 : rk 50 < rk 15 ∧ mxl 50 ≤ 18 := by decide +kernel
theorem r150_105 : rk 105 < rk 150 ∧ mxl 105 ≤ 18 := by decide +kernel
theorem r150_110 : rk 110 < rk 150 ∧ mxl 110 ≤ 18 := by decide +kernel
theorem r150_90 : rk 90 < rk 150 ∧ mxl 90 ≤ 18 := by decide +kernel
theorem r150_95 : rk 95 < rk 150 ∧ mxl 95 ≤ 18 := by decide +kernel
theorem r150_99 : rk 99 < rk 150 ∧ mxl 99 ≤ 18 := by decide +kernel
theorem r155_156 : rk 156 < rk 155 ∧ mxl 156 ≤ 18 := by decide +kernel
theorem r156_157 : rk 157 < rk 156 ∧ mxl 157 ≤ 18 := by decide +kernel
theorem r156_158 : rk 158 < rk 156 ∧ mxl 158 ≤ 18 := by decide +kernel
theorem r156_162 : rk 162 < rk 156 ∧ mxl 162 ≤ 18 := by decide +kernel
theorem r158_159 : rk 159 < rk 158 ∧ mxl 159 ≤ 18 := by decide +kernel
theorem r160_157 : rk 157 < rk 160 ∧ mxl 157 ≤ 18 := by decide +kernel
theorem r160_165 : rk 165 < rk 160 ∧ mxl 165 ≤ 18 := by decide +kernel
theorem r161_166 : rk 166 < rk 161 ∧ mxl 166 ≤ 18 := by decide +kernel
theorem r162_151 : rk 151 < rk 162 ∧ mxl 151 ≤ 18 := by decide +kernel
theorem r162_153 : rk 153 < rk 162 ∧ mxl 153 ≤ 18 := by decide +kernel
theorem r162_163 : rk 163 < rk 162 ∧ mxl 163 ≤ 18 := by decide +kernel
theorem r162_164 : rk 164 < rk 162 ∧ mxl 164 ≤ 18 := by decide +kernel
theorem r165_161 : rk 161 < rk 165 ∧ mxl 161 ≤ 18 := by decide +kernel
theorem r167_168 : rk 168 < rk 167 ∧ mxl 168 ≤ 18 := by decide +kernel
theorem r169_170 : rk 170 < rk 169 ∧ mxl 170 ≤ 18 := by decide +kernel
theorem r17_18 : rk 18 < rk 17 ∧ mxl 18 ≤ 18 := by decide +kernel
theorem r17_19 : rk 19 < rk 17 ∧ mxl 19 ≤ 18 := by decide +kernel
theorem r171_101 : rk 101 < rk 171 ∧ mxl 101 ≤ 18 := by decide +kernel
theorem r171_104 : rk 104 < rk 171 ∧ mxl 104 ≤ 18 := by decide +kernel
theorem r171_109 : rk 109 < rk 171 ∧ mxl 109 ≤ 18 := by decide +kernel
theorem r171_114 : rk 114 < rk 171 ∧ mxl 114 ≤ 18 := by decide +kernel
theorem r171_121 : rk 121 < rk 171 ∧ mxl 121 ≤ 18 := by decide +kernel
theorem r171_122 : rk 122 < rk 171 ∧ mxl 122 ≤ 18 := by decide +kernel
theorem r171_124 : rk 124 < rk 171 ∧ mxl 124 ≤ 18 := by decide +kernel
theorem r171_125 : rk 125 < rk 171 ∧ mxl 125 ≤ 18 := by decide +kernel
theorem r171_128 : rk 128 < rk 171 ∧ mxl 128 ≤ 18 := by decide +kernel
theorem r171_129 : rk 129 < rk 171 ∧ mxl 129 ≤ 18 := by decide +kernel
theorem r171_130 : rk 130 < rk 171 ∧ mxl 130 ≤ 18 := by decide +kernel
theorem r171_131 : rk 131 < rk 171 ∧ mxl 131 ≤ 18 := by decide +kernel
theorem r171_132 : rk 132 < rk 171 ∧ mxl 132 ≤ 18 := by decide +kernel
theorem r171_134 : rk 134 < rk 171 ∧ mxl 134 ≤ 18 := by decide +kernel
theorem r171_135 : rk 135 < rk 171 ∧ mxl 135 ≤ 18 := by decide +kernel
theorem r171_137 : rk 137 < rk 171 ∧ mxl 137 ≤ 18 := by decide +kernel
theorem r171_140 : rk 140 < rk 171 ∧ mxl 140 ≤ 18 := by decide +kernel
theorem r171_141 : rk 141 < rk 171 ∧ mxl 141 ≤ 18 := by decide +kernel
theorem r171_148 : rk 148 < rk 171 ∧ mxl 148 ≤ 18 := by decide +kernel
theorem r171_43 : rk 43 < rk 171 ∧ mxl 43 ≤ 18 := by decide +kernel
theorem r171_44 : rk 44 < rk 171 ∧ mxl 44 ≤ 18 := by decide +kernel
theorem r171_48 : rk 48 < rk 171 ∧ mxl 48 ≤ 18 := by decide +kernel
theorem r171_51 : rk 51 < rk 171 ∧ mxl 51 ≤ 18 := by decide +kernel
theorem r171_52 : rk 52 < rk 171 ∧ mxl 52 ≤ 18 := by decide +kernel
theorem r171_53 : rk 53 < rk 171 ∧ mxl 53 ≤ 18 := by decide +kernel
theorem r171_54 : rk 54 < rk 171 ∧ mxl 54 ≤ 18 := by decide +kernel
theorem r171_55 : rk 55 < rk 171 ∧ mxl 55 ≤ 18 := by decide +kernel
theorem r171_56 : rk 56 < rk 171 ∧ mxl 56 ≤ 18 := by decide +kernel
theorem r171_57 : rk 57 < rk 171 ∧ mxl 57 ≤ 18 := by decide +kernel
theorem r171_58 : rk 58 < rk 171 ∧ mxl 58 ≤ 18 := by decide +kernel
theorem r171_59 : rk 59 < rk 171 ∧ mxl 59 ≤ 18 := by decide +kernel
theorem r171_60 : rk 60 < rk 171 ∧ mxl 60 ≤ 18 := by decide +kernel
theorem r171_61 : rk 61 < rk 171 ∧ mxl 61 ≤ 18 := by decide +kernel
theorem r171_62 : rk 62 < rk 171 ∧ mxl 62 ≤ 18 := by decide +kernel
theorem r171_63 : rk 63 < rk 171 ∧ mxl 63 ≤ 18 := by decide +kernel
theorem r171_64 : rk 64 < rk 171 ∧ mxl 64 ≤ 18 := by decide +kernel
theorem r171_66 : rk 66 < rk 171 ∧ mxl 66 ≤ 18 := by decide +kernel
theorem r171_68 : rk 68 < rk 171 ∧ mxl 68 ≤ 18 := by decide +kernel
theorem r171_69 : rk 69 < rk 171 ∧ mxl 69 ≤ 18 := by decide +kernel
theorem r171_70 : rk 70 < rk 171 ∧ mxl 70 ≤ 18 := by decide +kernel
theorem r171_72 : rk 72 < rk 171 ∧ mxl 72 ≤ 18 := by decide +kernel
theorem r171_73 : rk 73 < rk 171 ∧ mxl 73 ≤ 18 := by decide +kernel
theorem r171_74 : rk 74 < rk 171 ∧ mxl 74 ≤ 18 := by decide +kernel
theorem r171_75 : rk 75 < rk 171 ∧ mxl 75 ≤ 18 := by decide +kernel
theorem r171_76 : rk 76 < rk 171 ∧ mxl 76 ≤ 18 := by decide +kernel
theorem r171_77 : rk 77 < rk 171 ∧ mxl 77 ≤ 18 := by decide +kernel
theorem r171_79 : rk 79 < rk 171 ∧ mxl 79 ≤ 18 := by decide +kernel
theorem r171_80 : rk 80 < rk 171 ∧ mxl 80 ≤ 18 := by decide +kernel
theorem r171_81 : rk 81 < rk 171 ∧ mxl 81 ≤ 18 := by decide +kernel
theorem r171_83 : rk 83 < rk 171 ∧ mxl 83 ≤ 18 := by decide +kernel
theorem r171_85 : rk 85 < rk 171 ∧ mxl 85 ≤ 18 := by decide +kernel
theorem r171_87 : rk 87 < rk 171 ∧ mxl 87 ≤ 18 := by decide +kernel
theorem r171_89 : rk 89 < rk 171 ∧ mxl 89 ≤ 18 := by decide +kernel
theorem r171_94 : rk 94 < rk 171 ∧ mxl 94 ≤ 18 := by decide +kernel
theorem r171_96 : rk 96 < rk 171 ∧ mxl 96 ≤ 18 := by decide +kernel
theorem r171_98 : rk 98 < rk 171 ∧ mxl 98 ≤ 18 := by decide +kernel
theorem r20_18 : rk 18 < rk 20 ∧ mxl 18 ≤ 18 := by decide +kernel
theorem r20_21 : rk 21 < rk 20 ∧ mxl 21 ≤ 18 := by decide +kernel
theorem r22_151 : rk 151 < rk 22 ∧ mxl 151 ≤ 18 := by decide +kernel
theorem r22_18 : rk 18 < rk 22 ∧ mxl 18 ≤ 18 := by decide +kernel
theorem r22_23 : rk 23 < rk 22 ∧ mxl 23 ≤ 18 := by decide +kernel
theorem r22_24 : rk 24 < rk 22 ∧ mxl 24 ≤ 18 := by decide +kernel
theorem r22_49 : rk 49 < rk 22 ∧ mxl 49 ≤ 18 := by decide +kernel
theorem r23_18 : rk 18 < rk 23 ∧ mxl 18 ≤ 18 := by decide +kernel
theorem r23_49 : rk 49 < rk 23 ∧ mxl 49 ≤ 18 := by decide +kernel
theorem r24_18 : rk 18 < rk 24 ∧ mxl 18 ≤ 18 := by decide +kernel
theorem r24_49 : rk 49 < rk 24 ∧ mxl 49 ≤ 18 := by decide +kernel
theorem r25_18 : rk 18 < rk 25 ∧ mxl 18 ≤ 18 := by decide +kernel
theorem r25_19 : rk 19 < rk 25 ∧ mxl 19 ≤ 18 := by decide +kernel
theorem r25_23 : rk 23 < rk 25 ∧ mxl 23 ≤ 18 := by decide +kernel
theorem r25_24 : rk 24 < rk 25 ∧ mxl 24 ≤ 18 := by decide +kernel
theorem r25_26 : rk 26 < rk 25 ∧ mxl 26 ≤ 18 := by decide +kernel
theorem r25_27 : rk 27 < rk 25 ∧ mxl 27 ≤ 18 := by decide +kernel
theorem r26_152 : rk 152 < rk 26 ∧ mxl 152 ≤ 18 := by decide +kernel
theorem r27_23 : rk 23 < rk 27 ∧ mxl 23 ≤ 18 := by decide +kernel
theorem r28_152 : rk 152 < rk 28 ∧ mxl 152 ≤ 18 := by decide +kernel
theorem r29_26 : rk 26 < rk 29 ∧ mxl 26 ≤ 18 := by decide +kernel
theorem r29_30 : rk 30 < rk 29 ∧ mxl 30 ≤ 18 := by decide +kernel
theorem r29_31 : rk 31 < rk 29 ∧ mxl 31 ≤ 18 := by decide +kernel
theorem r29_32 : rk 32 < rk 29 ∧ mxl 32 ≤ 18 := by decide +kernel
theorem r29_34 : rk 34 < rk 29 ∧ mxl 34 ≤ 18 := by decide +kernel
theorem r29_35 : rk 35 < rk 29 ∧ mxl 35 ≤ 18 := by decide +kernel
theorem r29_36 : rk 36 < rk 29 ∧ mxl 36 ≤ 18 := by decide +kernel
theorem r29_49 : rk 49 < rk 29 ∧ mxl 49 ≤ 18 := by decide +kernel
theorem r3_4 : rk 4 < rk 3 ∧ mxl 4 ≤ 18 := by decide +kernel
theorem r3_5 : rk 5 < rk 3 ∧ mxl 5 ≤ 18 := by decide +kernel
theorem r30_152 : rk 152 < rk 30 ∧ mxl 152 ≤ 18 := by decide +kernel
theorem r31_151 : rk 151 < rk 31 ∧ mxl 151 ≤ 18 := by decide +kernel
theorem r31_19 : rk 19 < rk 31 ∧ mxl 19 ≤ 18 := by decide +kernel
theorem r32_151 : rk 151 < rk 32 ∧ mxl 151 ≤ 18 := by decide +kernel
theorem r32_19 : rk 19 < rk 32 ∧ mxl 19 ≤ 18 := by decide +kernel
theorem r32_33 : rk 33 < rk 32 ∧ mxl 33 ≤ 18 := by decide +kernel
theorem r33_19 : rk 19 < rk 33 ∧ mxl 19 ≤ 18 := by decide +kernel
theorem r35_19 : rk 19 < rk 35 ∧ mxl 19 ≤ 18 := by decide +kernel
theorem r36_19 : rk 19 < rk 36 ∧ mxl 19 ≤ 18 := by decide +kernel
theorem r37_26 : rk 26 < rk 37 ∧ mxl 26 ≤ 18 := by decide +kernel
theorem r37_38 : rk 38 < rk 37 ∧ mxl 38 ≤ 18 := by decide +kernel
theorem r38_23 : rk 23 < rk 38 ∧ mxl 23 ≤ 18 := by decide +kernel
theorem r39_154 : rk 154 < rk 39 ∧ mxl 154 ≤ 18 := by decide +kernel
theorem r40_19 : rk 19 < rk 40 ∧ mxl 19 ≤ 18 := by decide +kernel
theorem r40_37 : rk 37 < rk 40 ∧ mxl 37 ≤ 18 := by decide +kernel
theorem r41_19 : rk 19 < rk 41 ∧ mxl 19 ≤ 18 := by decide +kernel
theorem r41_23 : rk 23 < rk 41 ∧ mxl 23 ≤ 18 := by decide +kernel
theorem r42_14 : rk 14 < rk 42 ∧ mxl 14 ≤ 18 := by decide +kernel
theorem r42_15 : rk 15 < rk 42 ∧ mxl 15 ≤ 18 := by decide +kernel
theorem r42_16 : rk 16 < rk 42 ∧ mxl 16 ≤ 18 := by decide +kernel
theorem r42_17 : rk 17 < rk 42 ∧ mxl 17 ≤ 18 := by decide +kernel
theorem r42_20 : rk 20 < rk 42 ∧ mxl 20 ≤ 18 := by decide +kernel
theorem r42_22 : rk 22 < rk 42 ∧ mxl 22 ≤ 18 := by decide +kernel
theorem r42_25 : rk 25 < rk 42 ∧ mxl 25 ≤ 18 := by decide +kernel
theorem r42_28 : rk 28 < rk 42 ∧ mxl 28 ≤ 18 := by decide +kernel
theorem r42_29 : rk 29 < rk 42 ∧ mxl 29 ≤ 18 := by decide +kernel
theorem r43_0 : rk 0 < rk 43 ∧ mxl 0 ≤ 18 := by decide +kernel
theorem r43_11 : rk 11 < rk 43 ∧ mxl 11 ≤ 18 := by decide +kernel
theorem r44_12 : rk 12 < rk 44 ∧ mxl 12 ≤ 18 := by decide +kernel
theorem r44_13 : rk 13 < rk 44 ∧ mxl 13 ≤ 18 := by decide +kernel
theorem r44_46 : rk 46 < rk 44 ∧ mxl 46 ≤ 18 := by decide +kernel
theorem r46_47 : rk 47 < rk 46 ∧ mxl 47 ≤ 18 := by decide +kernel
theorem r48_12 : rk 12 < rk 48 ∧ mxl 12 ≤ 18 := by decide +kernel
theorem r48_14 : rk 14 < rk 48 ∧ mxl 14 ≤ 18 := by decide +kernel
theorem r48_46 : rk 46 < rk 48 ∧ mxl 46 ≤ 18 := by decide +kernel
theorem r5_155 : rk 155 < rk 5 ∧ mxl 155 ≤ 18 := by decide +kernel
theorem r5_158 : rk 158 < rk 5 ∧ mxl 158 ≤ 18 := by decide +kernel
theorem r5_160 : rk 160 < rk 5 ∧ mxl 160 ≤ 18 := by decide +kernel
theorem r5_6 : rk 6 < rk 5 ∧ mxl 6 ≤ 18 := by decide +kernel
theorem r5_7 : rk 7 < rk 5 ∧ mxl 7 ≤ 18 := by decide +kernel
theorem r5_8 : rk 8 < rk 5 ∧ mxl 8 ≤ 18 := by decide +kernel
theorem r51_12 : rk 12 < rk 51 ∧ mxl 12 ≤ 18 := by decide +kernel
theorem r51_15 : rk 15 < rk 51 ∧ mxl 15 ≤ 18 := by decide +kernel
theorem r51_46 : rk 46 < rk 51 ∧ mxl 46 ≤ 18 := by decide +kernel
theorem r52_12 : rk 12 < rk 52 ∧ mxl 12 ≤ 18 := by decide +kernel
theorem r52_16 : rk 16 < rk 52 ∧ mxl 16 ≤ 18 := by decide +kernel
theorem r52_46 : rk 46 < rk 52 ∧ mxl 46 ≤ 18 := by decide +kernel
theorem r53_12 : rk 12 < rk 53 ∧ mxl 12 ≤ 18 := by decide +kernel
theorem r53_17 : rk 17 < rk 53 ∧ mxl 17 ≤ 18 := by decide +kernel
theorem r53_46 : rk 46 < rk 53 ∧ mxl 46 ≤ 18 := by decide +kernel
theorem r54_12 : rk 12 < rk 54 ∧ mxl 12 ≤ 18 := by decide +kernel
theorem r54_20 : rk 20 < rk 54 ∧ mxl 20 ≤ 18 := by decide +kernel
theorem r54_46 : rk 46 < rk 54 ∧ mxl 46 ≤ 18 := by decide +kernel
theorem r55_12 : rk 12 < rk 55 ∧ mxl 12 ≤ 18 := by decide +kernel
theorem r55_22 : rk 22 < rk 55 ∧ mxl 22 ≤ 18 := by decide +kernel
theorem r55_46 : rk 46 < rk 55 ∧ mxl 46 ≤ 18 := by decide +kernel
theorem r56_12 : rk 12 < rk 56 ∧ mxl 12 ≤ 18 := by decide +kernel
theorem r56_25 : rk 25 < rk 56 ∧ mxl 25 ≤ 18 := by decide +kernel
theorem r56_46 : rk 46 < rk 56 ∧ mxl 46 ≤ 18 := by decide +kernel
theorem r57_12 : rk 12 < rk 57 ∧ mxl 12 ≤ 18 := by decide +kernel
theorem r57_28 : rk 28 < rk 57 ∧ mxl 28 ≤ 18 := by decide +kernel
theorem r57_29 : rk 29 < rk 57 ∧ mxl 29 ≤ 18 := by decide +kernel
theorem r57_46 : rk 46 < rk 57 ∧ mxl 46 ≤ 18 := by decide +kernel
theorem r58_18 : rk 18 < rk 58 ∧ mxl 18 ≤ 18 := by decide +kernel
theorem r58_23 : rk 23 < rk 58 ∧ mxl 23 ≤ 18 := by decide +kernel
theorem r58_49 : rk 49 < rk 58 ∧ mxl 49 ≤ 18 := by decide +kernel
theorem r59_18 : rk 18 < rk 59 ∧ mxl 18 ≤ 18 := by decide +kernel
theorem r59_19 : rk 19 < rk 59 ∧ mxl 19 ≤ 18 := by decide +kernel
theorem r59_21 : rk 21 < rk 59 ∧ mxl 21 ≤ 18 := by decide +kernel
theorem r59_27 : rk 27 < rk 59 ∧ mxl 27 ≤ 18 := by decide +kernel
theorem r59_37 : rk 37 < rk 59 ∧ mxl 37 ≤ 18 := by decide +kernel
theorem r61_26 : rk 26 < rk 61 ∧ mxl 26 ≤ 18 := by decide +kernel
theorem r61_39 : rk 39 < rk 61 ∧ mxl 39 ≤ 18 := by decide +kernel
theorem r61_40 : rk 40 < rk 61 ∧ mxl 40 ≤ 18 := by decide +kernel
theorem r61_45 : rk 45 < rk 61 ∧ mxl 45 ≤ 18 := by decide +kernel
theorem r62_50 : rk 50 < rk 62 ∧ mxl 50 ≤ 18 := by decide +kernel
theorem r63_19 : rk 19 < rk 63 ∧ mxl 19 ≤ 18 := by decide +kernel
theorem r63_37 : rk 37 < rk 63 ∧ mxl 37 ≤ 18 := by decide +kernel
theorem r64_18 : rk 18 < rk 64 ∧ mxl 18 ≤ 18 := by decide +kernel
theorem r64_65 : rk 65 < rk 64 ∧ mxl 65 ≤ 18 := by decide +kernel
theorem r66_39 : rk 39 < rk 66 ∧ mxl 39 ≤ 18 := by decide +kernel
theorem r66_41 : rk 41 < rk 66 ∧ mxl 41 ≤ 18 := by decide +kernel
theorem r66_49 : rk 49 < rk 66 ∧ mxl 49 ≤ 18 := by decide +kernel
theorem r66_67 : rk 67 < rk 66 ∧ mxl 67 ≤ 18 := by decide +kernel
theorem r68_12 : rk 12 < rk 68 ∧ mxl 12 ≤ 18 := by decide +kernel
theorem r68_29 : rk 29 < rk 68 ∧ mxl 29 ≤ 18 := by decide +kernel
theorem r69_12 : rk 12 < rk 69 ∧ mxl 12 ≤ 18 := by decide +kernel
theorem r69_28 : rk 28 < rk 69 ∧ mxl 28 ≤ 18 := by decide +kernel
theorem r69_29 : rk 29 < rk 69 ∧ mxl 29 ≤ 18 := by decide +kernel
theorem r69_40 : rk 40 < rk 69 ∧ mxl 40 ≤ 18 := by decide +kernel
theorem r70_12 : rk 12 < rk 70 ∧ mxl 12 ≤ 18 := by decide +kernel
theorem r70_29 : rk 29 < rk 70 ∧ mxl 29 ≤ 18 := by decide +kernel
theorem r70_71 : rk 71 < rk 70 ∧ mxl 71 ≤ 18 := by decide +kernel
theorem r71_12 : rk 12 < rk 71 ∧ mxl 12 ≤ 18 := by decide +kernel
theorem r71_29 : rk 29 < rk 71 ∧ mxl 29 ≤ 18 := by decide +kernel
theorem r72_1 : rk 1 < rk 72 ∧ mxl 1 ≤ 18 := by decide +kernel
theorem r74_3 : rk 3 < rk 74 ∧ mxl 3 ≤ 18 := by decide +kernel
theorem r75_12 : rk 12 < rk 75 ∧ mxl 12 ≤ 18 := by decide +kernel
theorem r75_3 : rk 3 < rk 75 ∧ mxl 3 ≤ 18 := by decide +kernel
theorem r75_4 : rk 4 < rk 75 ∧ mxl 4 ≤ 18 := by decide +kernel
theorem r75_42 : rk 42 < rk 75 ∧ mxl 42 ≤ 18 := by decide +kernel
theorem r75_46 : rk 46 < rk 75 ∧ mxl 46 ≤ 18 := by decide +kernel
theorem r75_5 : rk 5 < rk 75 ∧ mxl 5 ≤ 18 := by decide +kernel
theorem r77_12 : rk 12 < rk 77 ∧ mxl 12 ≤ 18 := by decide +kernel
theorem r77_78 : rk 78 < rk 77 ∧ mxl 78 ≤ 18 := by decide +kernel
theorem r79_12 : rk 12 < rk 79 ∧ mxl 12 ≤ 18 := by decide +kernel
theorem r79_46 : rk 46 < rk 79 ∧ mxl 46 ≤ 18 := by decide +kernel
theorem r79_78 : rk 78 < rk 79 ∧ mxl 78 ≤ 18 := by decide +kernel
theorem r8_10 : rk 10 < rk 8 ∧ mxl 10 ≤ 18 := by decide +kernel
theorem r8_6 : rk 6 < rk 8 ∧ mxl 6 ≤ 18 := by decide +kernel
theorem r8_9 : rk 9 < rk 8 ∧ mxl 9 ≤ 18 := by decide +kernel
theorem r81_82 : rk 82 < rk 81 ∧ mxl 82 ≤ 18 := by decide +kernel
theorem r83_82 : rk 82 < rk 83 ∧ mxl 82 ≤ 18 := by decide +kernel
theorem r83_84 : rk 84 < rk 83 ∧ mxl 84 ≤ 18 := by decide +kernel
theorem r85_82 : rk 82 < rk 85 ∧ mxl 82 ≤ 18 := by decide +kernel
theorem r85_84 : rk 84 < rk 85 ∧ mxl 84 ≤ 18 := by decide +kernel
theorem r85_86 : rk 86 < rk 85 ∧ mxl 86 ≤ 18 := by decide +kernel
theorem r86_82 : rk 82 < rk 86 ∧ mxl 82 ≤ 18 := by decide +kernel
theorem r87_84 : rk 84 < rk 87 ∧ mxl 84 ≤ 18 := by decide +kernel
theorem r87_86 : rk 86 < rk 87 ∧ mxl 86 ≤ 18 := by decide +kernel
theorem r87_88 : rk 88 < rk 87 ∧ mxl 88 ≤ 18 := by decide +kernel
theorem r88_84 : rk 84 < rk 88 ∧ mxl 84 ≤ 18 := by decide +kernel
theorem r89_86 : rk 86 < rk 89 ∧ mxl 86 ≤ 18 := by decide +kernel
theorem r89_90 : rk 90 < rk 89 ∧ mxl 90 ≤ 18 := by decide +kernel
theorem r89_93 : rk 93 < rk 89 ∧ mxl 93 ≤ 18 := by decide +kernel
theorem r90_91 : rk 91 < rk 90 ∧ mxl 91 ≤ 18 := by decide +kernel
theorem r90_92 : rk 92 < rk 90 ∧ mxl 92 ≤ 18 := by decide +kernel
theorem r91_84 : rk 84 < rk 91 ∧ mxl 84 ≤ 18 := by decide +kernel
theorem r92_84 : rk 84 < rk 92 ∧ mxl 84 ≤ 18 := by decide +kernel
theorem r94_86 : rk 86 < rk 94 ∧ mxl 86 ≤ 18 := by decide +kernel
theorem r94_93 : rk 93 < rk 94 ∧ mxl 93 ≤ 18 := by decide +kernel
theorem r94_95 : rk 95 < rk 94 ∧ mxl 95 ≤ 18 := by decide +kernel
theorem r95_84 : rk 84 < rk 95 ∧ mxl 84 ≤ 18 := by decide +kernel
theorem r95_92 : rk 92 < rk 95 ∧ mxl 92 ≤ 18 := by decide +kernel
theorem r96_86 : rk 86 < rk 96 ∧ mxl 86 ≤ 18 := by decide +kernel
theorem r96_97 : rk 97 < rk 96 ∧ mxl 97 ≤ 18 := by decide +kernel
theorem r98_100 : rk 100 < rk 98 ∧ mxl 100 ≤ 18 := by decide +kernel
theorem r98_86 : rk 86 < rk 98 ∧ mxl 86 ≤ 18 := by decide +kernel
theorem r98_99 : rk 99 < rk 98 ∧ mxl 99 ≤ 18 := by decide +kernel
theorem r99_84 : rk 84 < rk 99 ∧ mxl 84 ≤ 18 := by decide +kernel
theorem t0_3 : cal 0 3 = none := rfl
theorem t0_3n : nat 0 3 = some 4 := rfl
theorem t1_18 : cal 1 18 = none := rfl
theorem t1_18n : nat 1 18 = some 1 := rfl
theorem t1_3 : cal 1 3 = none := rfl
theorem t1_3n : nat 1 3 = some 4 := rfl
theorem t10_74 : cal 10 74 = none := rfl
theorem t10_74n : nat 10 74 = some 2 := rfl
theorem t11_134 : cal 11 134 = none := rfl
theorem t11_134n : nat 11 134 = some 3 := rfl
theorem t2_3 : cal 2 3 = none := rfl
theorem t2_3n : nat 2 3 = some 4 := rfl
theorem t3_1 : cal 3 1 = none := rfl
theorem t3_1n : nat 3 1 = some 4 := rfl
