section
variable {K pc : Nat} {ls : Lo} {st : List Value} {M : Mm} {n : Nat} {I : Nat → Nat → Int32} {R : Nat → Nat → Option Nat}
theorem e_alenb {a : Nat} (d : decode (cod K) pc = .ok (.arraylength, 1)) : EE K pc ls (.ref a :: st) (n, I, R) = (aln n I a).bind (fun z => EE K (pc + 1) ls (.int z :: st) (n, I, R)) := by
  cases h : aln n I a with
  | none => exact e_none d rfl rfl rfl rfl rfl rfl rfl (by simp only [stM, h, Option.map_none]) rfl
  | some z => exact e_alen d h
theorem e_divN {x y : Nat} (d : decode (cod K) pc = .ok (.idiv, 1)) (h1 : x < 2 ^ 31) (h2 : 0 < y) (h3 : y < 2 ^ 31) : EE K pc ls (.int (nI y) :: .int (nI x) :: st) M = EE K (pc + 1) ls (.int (nI (x / y)) :: st) M := by
  rw [e_div d (nI_ne0 h2 h3), pk_div h1 h2 h3]
theorem e_remN {x y : Nat} (d : decode (cod K) pc = .ok (.irem, 1)) (h1 : x < 2 ^ 31) (h2 : 0 < y) (h3 : y < 2 ^ 31) : EE K pc ls (.int (nI y) :: .int (nI x) :: st) M = EE K (pc + 1) ls (.int (nI (x % y)) :: st) M := by
  rw [e_rem d (nI_ne0 h2 h3), pk_rem h1 h2 h3]
def mnM (M : Mm) : Mm := (M.1 + 7, (bn (bn (bn (bn (bn (bn (bn M))))))).2.1, up (bn (bn (bn (bn (bn (bn (bn M))))))).2.2 (adr M.1) (fun j => if j < 6 then some (adr M.1 + 1 + j) else none))
theorem e_mna {x : Nat} (d : decode (cod K) pc = .ok (.multianewarray x 2, 4)) (hm : mna (ow K) x = true) (h : M.1 + 7 ≤ 202 ∧ kd (adr M.1) = 9 ∧ adr M.1 + 6 < 208 ∧ (List.range 6).all (fun j => adr (M.1 + 1 + j) == adr M.1 + 1 + j) = true) : EE K pc ls (.int (nI 10) :: .int (nI 6) :: st) M = EE K (pc + 4) ls (.ref (adr M.1) :: st) (mnM M) :=
  e_M (c' := (pc + 4, ls, .ref (adr M.1) :: st, mnM M)) d rfl rfl rfl rfl rfl rfl rfl (if_pos ⟨hm, rfl, h.1, h.2.1, rfl, rfl, h.2.2⟩)
end

theorem k_bip_m20 : (Int8.ofInt (-20)).toInt32 = (-20) := by decide +kernel
theorem k_bip_m6 : (Int8.ofInt (-6)).toInt32 = (-6) := by decide +kernel
theorem k_bip_m5 : (Int8.ofInt (-5)).toInt32 = (-5) := by decide +kernel
theorem k_bip_m4 : (Int8.ofInt (-4)).toInt32 = (-4) := by decide +kernel
theorem k_bip_m2 : (Int8.ofInt (-2)).toInt32 = (-2) := by decide +kernel
theorem k_bip_6 : (Int8.ofInt 6).toInt32 = nI 6 := by decide +kernel
theorem k_bip_7 : (Int8.ofInt 7).toInt32 = nI 7 := by decide +kernel
theorem k_bip_8 : (Int8.ofInt 8).toInt32 = nI 8 := by decide +kernel
theorem k_bip_9 : (Int8.ofInt 9).toInt32 = nI 9 := by decide +kernel
theorem k_bip_10 : (Int8.ofInt 10).toInt32 = nI 10 := by decide +kernel
theorem k_bip_11 : (Int8.ofInt 11).toInt32 = nI 11 := by decide +kernel
theorem k_bip_12 : (Int8.ofInt 12).toInt32 = nI 12 := by decide +kernel
theorem k_bip_14 : (Int8.ofInt 14).toInt32 = nI 14 := by decide +kernel
theorem k_bip_15 : (Int8.ofInt 15).toInt32 = nI 15 := by decide +kernel
theorem k_bip_16 : (Int8.ofInt 16).toInt32 = nI 16 := by decide +kernel
theorem k_bip_18 : (Int8.ofInt 18).toInt32 = nI 18 := by decide +kernel
theorem k_bip_20 : (Int8.ofInt 20).toInt32 = nI 20 := by decide +kernel
theorem k_bip_23 : (Int8.ofInt 23).toInt32 = nI 23 := by decide +kernel
theorem k_bip_30 : (Int8.ofInt 30).toInt32 = nI 30 := by decide +kernel
theorem k_bip_50 : (Int8.ofInt 50).toInt32 = nI 50 := by decide +kernel
theorem k_bip_52 : (Int8.ofInt 52).toInt32 = nI 52 := by decide +kernel
theorem k_bip_60 : (Int8.ofInt 60).toInt32 = nI 60 := by decide +kernel
theorem k_bip_62 : (Int8.ofInt 62).toInt32 = nI 62 := by decide +kernel
theorem k_bip_63 : (Int8.ofInt 63).toInt32 = nI 63 := by decide +kernel
theorem k_bip_80 : (Int8.ofInt 80).toInt32 = nI 80 := by decide +kernel
theorem k_bip_99 : (Int8.ofInt 99).toInt32 = nI 99 := by decide +kernel
theorem k_bip_100 : (Int8.ofInt 100).toInt32 = nI 100 := by decide +kernel
theorem k_bip_103 : (Int8.ofInt 103).toInt32 = nI 103 := by decide +kernel
theorem k_bip_127 : (Int8.ofInt 127).toInt32 = nI 127 := by decide +kernel
theorem k_con_m1 : Int32.ofInt (-1) = (-1) := by decide +kernel
theorem k_con_0 : Int32.ofInt 0 = nI 0 := by decide +kernel
theorem k_con_1 : Int32.ofInt 1 = nI 1 := by decide +kernel
theorem k_con_2 : Int32.ofInt 2 = nI 2 := by decide +kernel
theorem k_con_3 : Int32.ofInt 3 = nI 3 := by decide +kernel
theorem k_con_4 : Int32.ofInt 4 = nI 4 := by decide +kernel
theorem k_con_5 : Int32.ofInt 5 = nI 5 := by decide +kernel
theorem k_inc_m1 : Int32.ofInt (-1) = (-1) := by decide +kernel
theorem k_inc_1 : Int32.ofInt 1 = nI 1 := by decide +kernel
theorem k_sip_977 : (Int16.ofInt 977).toInt32 = nI 977 := by decide +kernel
theorem k_sip_1023 : (Int16.ofInt 1023).toInt32 = nI 1023 := by decide +kernel
theorem k_sip_2046 : (Int16.ofInt 2046).toInt32 = nI 2046 := by decide +kernel
theorem c1_102 : cal 1 102 = some (1, 102, 0, 37, 250, 251, 252, 11, 1) := rfl
theorem c1_106 : cal 1 106 = some (1, 106, 1, 154, 240, 241, 0, 15, 1) := rfl
theorem c1_111 : cal 1 111 = some (1, 111, 4, 45, 418, 233, 0, 10, 1) := rfl
theorem c1_120 : cal 1 120 = some (1, 120, 4, 50, 401, 271, 0, 10, 1) := rfl
theorem c1_123 : cal 1 123 = some (1, 123, 0, 21, 371, 297, 298, 11, 1) := rfl
theorem c1_126 : cal 1 126 = some (1, 126, 1, 151, 197, 198, 0, 14, 2) := rfl
theorem c1_129 : cal 1 129 = some (1, 129, 0, 24, 380, 382, 8, 11, 3) := rfl
theorem c1_133 : cal 1 133 = some (1, 133, 0, 27, 392, 301, 302, 11, 1) := rfl
theorem c1_136 : cal 1 136 = some (1, 136, 0, 30, 182, 183, 184, 11, 0) := rfl
theorem c1_139 : cal 1 139 = some (1, 139, 0, 31, 189, 191, 0, 11, 1) := rfl
theorem c1_143 : cal 1 143 = some (1, 143, 0, 32, 200, 202, 1, 11, 3) := rfl
theorem c1_147 : cal 1 147 = some (1, 147, 0, 34, 208, 210, 3, 11, 1) := rfl
theorem c1_150 : cal 1 150 = some (1, 150, 0, 35, 212, 214, 4, 11, 1) := rfl
theorem c1_153 : cal 1 153 = some (1, 153, 0, 36, 216, 218, 5, 11, 1) := rfl
theorem c1_157 : cal 1 157 = some (1, 157, 0, 33, 204, 206, 2, 11, 2) := rfl
theorem c1_75 : cal 1 75 = some (1, 75, 1, 152, 171, 172, 0, 14, 2) := rfl
theorem c1_81 : cal 1 81 = some (1, 81, 4, 49, 186, 187, 0, 10, 1) := rfl
theorem c1_85 : cal 1 85 = some (1, 85, 0, 18, 262, 263, 264, 11, 1) := rfl
theorem c1_88 : cal 1 88 = some (1, 88, 0, 23, 258, 259, 260, 11, 2) := rfl
theorem c1_91 : cal 1 91 = some (1, 91, 0, 26, 178, 179, 180, 11, 0) := rfl
theorem c1_95 : cal 1 95 = some (1, 95, 0, 38, 254, 255, 256, 11, 2) := rfl
theorem c1_99 : cal 1 99 = some (1, 99, 0, 19, 193, 194, 195, 11, 1) := rfl
theorem c2_100 : cal 2 100 = some (2, 100, 0, 37, 295, 251, 252, 11, 1) := rfl
theorem c2_103 : cal 2 103 = some (2, 103, 0, 21, 296, 297, 298, 11, 1) := rfl
theorem c2_106 : cal 2 106 = some (2, 106, 0, 27, 300, 301, 302, 11, 1) := rfl
theorem c2_11 : cal 2 11 = some (2, 11, 2, 11, 26, 27, 0, 11, 0) := rfl
theorem c2_126 : cal 2 126 = some (2, 126, 1, 45, 232, 233, 0, 10, 1) := rfl
theorem c2_135 : cal 2 135 = some (2, 135, 0, 26, 235, 179, 180, 11, 0) := rfl
theorem c2_141 : cal 2 141 = some (2, 141, 0, 39, 236, 237, 238, 11, 0) := rfl
theorem c2_159 : cal 2 159 = some (2, 159, 0, 40, 246, 247, 248, 11, 1) := rfl
theorem c2_168 : cal 2 168 = some (2, 168, 1, 50, 270, 271, 0, 10, 1) := rfl
theorem c2_177 : cal 2 177 = some (2, 177, 1, 65, 312, 313, 0, 10, 1) := rfl
theorem c2_183 : cal 2 183 = some (2, 183, 0, 41, 326, 327, 328, 11, 1) := rfl
theorem c2_186 : cal 2 186 = some (2, 186, 1, 67, 330, 331, 0, 10, 1) := rfl
theorem c2_221 : cal 2 221 = some (2, 221, 0, 47, 224, 226, 7, 10, 0) := rfl
theorem c2_32 : cal 2 32 = some (2, 32, 2, 0, 108, 109, 0, 13, 0) := rfl
theorem c2_46 : cal 2 46 = some (2, 46, 0, 12, 163, 164, 165, 11, 1) := rfl
theorem c2_50 : cal 2 50 = some (2, 50, 0, 13, 414, 415, 416, 11, 2) := rfl
theorem c2_54 : cal 2 54 = some (2, 54, 0, 46, 220, 222, 6, 10, 1) := rfl
theorem c2_58 : cal 2 58 = some (2, 58, 0, 14, 397, 398, 399, 11, 2) := rfl
theorem c2_61 : cal 2 61 = some (2, 61, 0, 15, 406, 407, 408, 11, 2) := rfl
theorem c2_64 : cal 2 64 = some (2, 64, 0, 16, 351, 352, 353, 11, 0) := rfl
theorem c2_68 : cal 2 68 = some (2, 68, 0, 17, 359, 360, 361, 11, 1) := rfl
theorem c2_71 : cal 2 71 = some (2, 71, 0, 20, 367, 368, 369, 11, 1) := rfl
theorem c2_74 : cal 2 74 = some (2, 74, 0, 22, 376, 377, 378, 11, 3) := rfl
theorem c2_78 : cal 2 78 = some (2, 78, 0, 25, 388, 389, 390, 11, 1) := rfl
theorem c2_81 : cal 2 81 = some (2, 81, 0, 28, 167, 168, 169, 11, 0) := rfl
theorem c2_84 : cal 2 84 = some (2, 84, 0, 29, 174, 175, 176, 11, 1) := rfl
theorem c2_87 : cal 2 87 = some (2, 87, 1, 49, 287, 187, 0, 10, 1) := rfl
theorem c2_91 : cal 2 91 = some (2, 91, 0, 18, 288, 263, 264, 11, 1) := rfl
theorem c2_94 : cal 2 94 = some (2, 94, 0, 23, 289, 259, 260, 11, 2) := rfl
theorem c2_97 : cal 2 97 = some (2, 97, 0, 19, 294, 194, 195, 11, 1) := rfl
theorem c4_15 : cal 4 15 = some (4, 15, 0, 61, 228, 229, 230, 10, 1) := rfl
theorem c4_19 : cal 4 19 = some (4, 19, 0, 59, 290, 291, 292, 10, 2) := rfl
theorem c4_22 : cal 4 22 = some (4, 22, 0, 60, 304, 305, 306, 10, 1) := rfl
theorem c4_25 : cal 4 25 = some (4, 25, 0, 64, 308, 309, 310, 10, 1) := rfl
theorem c4_28 : cal 4 28 = some (4, 28, 0, 62, 266, 267, 268, 10, 2) := rfl
theorem c4_31 : cal 4 31 = some (4, 31, 1, 82, 280, 281, 0, 9, 2) := rfl
theorem c4_37 : cal 4 37 = some (4, 37, 0, 63, 317, 318, 319, 10, 0) := rfl
theorem c4_41 : cal 4 41 = some (4, 41, 0, 66, 321, 322, 323, 10, 1) := rfl
theorem c4_45 : cal 4 45 = some (4, 45, 1, 81, 339, 340, 0, 9, 2) := rfl
theorem c4_49 : cal 4 49 = some (4, 49, 1, 80, 343, 344, 0, 9, 2) := rfl
theorem c4_52 : cal 4 52 = some (4, 52, 0, 52, 347, 348, 349, 10, 0) := rfl
theorem c4_55 : cal 4 55 = some (4, 55, 0, 53, 355, 356, 357, 10, 1) := rfl
theorem c4_58 : cal 4 58 = some (4, 58, 0, 54, 363, 364, 365, 10, 1) := rfl
theorem c4_61 : cal 4 61 = some (4, 61, 0, 55, 372, 373, 374, 10, 3) := rfl
theorem c4_65 : cal 4 65 = some (4, 65, 0, 56, 384, 385, 386, 10, 1) := rfl
theorem c4_68 : cal 4 68 = some (4, 68, 0, 48, 393, 394, 395, 10, 2) := rfl
theorem c4_71 : cal 4 71 = some (4, 71, 0, 51, 402, 403, 404, 10, 2) := rfl
theorem c4_74 : cal 4 74 = some (4, 74, 0, 44, 410, 411, 412, 10, 2) := rfl
theorem c4_77 : cal 4 77 = some (4, 77, 0, 76, 423, 424, 425, 10, 0) := rfl
theorem c4_80 : cal 4 80 = some (4, 80, 2, 43, 18, 19, 0, 10, 0) := rfl
theorem c4_81 : cal 4 81 = some (4, 81, 1, 84, 336, 337, 0, 9, 3) := rfl
theorem c4_85 : cal 4 85 = some (4, 85, 0, 69, 273, 274, 275, 10, 1) := rfl
theorem c4_88 : cal 4 88 = some (4, 88, 0, 57, 159, 160, 161, 10, 0) := rfl
theorem c4_9 : cal 4 9 = some (4, 9, 0, 58, 283, 284, 285, 10, 2) := rfl
theorem c4_91 : cal 4 91 = some (4, 91, 1, 83, 277, 278, 0, 9, 1) := rfl
theorem f0_15 : fld 0 15 = some (0, 15, 0, 1, 113, true) := rfl
theorem f0_9 : fld 0 9 = some (0, 9, 0, 0, 112, true) := rfl
theorem f1_24 : fld 1 24 = some (1, 24, 1, 1, 39, true) := rfl
theorem f1_27 : fld 1 27 = some (1, 27, 1, 2, 41, true) := rfl
theorem f1_32 : fld 1 32 = some (1, 32, 1, 3, 43, true) := rfl
theorem f1_35 : fld 1 35 = some (1, 35, 1, 4, 44, true) := rfl
theorem f1_38 : fld 1 38 = some (1, 38, 1, 5, 46, true) := rfl
theorem f1_41 : fld 1 41 = some (1, 41, 1, 6, 48, true) := rfl
theorem f1_44 : fld 1 44 = some (1, 44, 1, 7, 50, true) := rfl
theorem f1_47 : fld 1 47 = some (1, 47, 1, 8, 52, false) := rfl
theorem f1_51 : fld 1 51 = some (1, 51, 1, 9, 54, false) := rfl
theorem f1_54 : fld 1 54 = some (1, 54, 1, 10, 55, false) := rfl
theorem f1_57 : fld 1 57 = some (1, 57, 1, 11, 57, false) := rfl
theorem f1_60 : fld 1 60 = some (1, 60, 1, 12, 59, false) := rfl
theorem f1_63 : fld 1 63 = some (1, 63, 1, 13, 61, false) := rfl
theorem f1_66 : fld 1 66 = some (1, 66, 1, 14, 63, false) := rfl
theorem f1_69 : fld 1 69 = some (1, 69, 1, 15, 65, false) := rfl
theorem f1_72 : fld 1 72 = some (1, 72, 1, 16, 67, false) := rfl
theorem f1_9 : fld 1 9 = some (1, 9, 1, 0, 37, true) := rfl
theorem f2_109 : fld 2 109 = some (2, 109, 1, 5, 47, true) := rfl
theorem f2_113 : fld 2 113 = some (2, 113, 1, 6, 49, true) := rfl
theorem f2_116 : fld 2 116 = some (2, 116, 1, 7, 51, true) := rfl
theorem f2_119 : fld 2 119 = some (2, 119, 1, 10, 56, false) := rfl
theorem f2_12 : fld 2 12 = some (2, 12, 2, 0, 128, false) := rfl
theorem f2_123 : fld 2 123 = some (2, 123, 1, 4, 45, true) := rfl
theorem f2_129 : fld 2 129 = some (2, 129, 1, 0, 38, true) := rfl
theorem f2_132 : fld 2 132 = some (2, 132, 1, 11, 58, false) := rfl
theorem f2_138 : fld 2 138 = some (2, 138, 1, 8, 53, false) := rfl
theorem f2_144 : fld 2 144 = some (2, 144, 1, 12, 60, false) := rfl
theorem f2_147 : fld 2 147 = some (2, 147, 1, 13, 62, false) := rfl
theorem f2_150 : fld 2 150 = some (2, 150, 1, 14, 64, false) := rfl
theorem f2_153 : fld 2 153 = some (2, 153, 1, 15, 66, false) := rfl
theorem f2_156 : fld 2 156 = some (2, 156, 1, 16, 68, false) := rfl
theorem f2_16 : fld 2 16 = some (2, 16, 2, 1, 129, false) := rfl
theorem f2_162 : fld 2 162 = some (2, 162, 0, 2, 114, false) := rfl
theorem f2_165 : fld 2 165 = some (2, 165, 2, 3, 131, false) := rfl
theorem f2_171 : fld 2 171 = some (2, 171, 1, 1, 40, true) := rfl
theorem f2_174 : fld 2 174 = some (2, 174, 1, 2, 42, true) := rfl
theorem f2_19 : fld 2 19 = some (2, 19, 2, 2, 130, true) := rfl
theorem f2_23 : fld 2 23 = some (2, 23, 2, 4, 132, true) := rfl
theorem f2_26 : fld 2 26 = some (2, 26, 2, 5, 133, true) := rfl
theorem f2_33 : fld 2 33 = some (2, 33, 2, 6, 134, true) := rfl
theorem f2_37 : fld 2 37 = some (2, 37, 2, 7, 135, true) := rfl
theorem f2_40 : fld 2 40 = some (2, 40, 2, 8, 136, true) := rfl
theorem f2_43 : fld 2 43 = some (2, 43, 2, 9, 137, true) := rfl
theorem g1_114 : gst 1 114 = some (1, 114, 1002, 0) := rfl
theorem g1_117 : gst 1 117 = some (1, 117, 1003, 0) := rfl
theorem g1_15 : gst 1 15 = some (1, 15, 1001, 0) := rfl
theorem k2_224 : kon 2 224 = some (2, 224, .float 1258291200) := rfl
theorem k2_225 : kon 2 225 = some (2, 225, .int 8388608) := rfl
theorem k4_7 : kon 4 7 = some (4, 7, .int 2147483647) := rfl
theorem k4_8 : kon 4 8 = some (4, 8, .int 40503) := rfl
theorem k6_265 : kon 6 265 = some (6, 265, .int 1431655765) := rfl
theorem k6_266 : kon 6 266 = some (6, 266, .int 858993459) := rfl
theorem k6_267 : kon 6 267 = some (6, 267, .int 252645135) := rfl
theorem n2_30 : nwc 2 30 = some (2, 30, 0) := rfl
theorem n2_9 : nwc 2 9 = some (2, 9, 1) := rfl
theorem n4_10 : nwc 4 10 = some (4, 10, 2) := rfl
theorem q2_181 : ko2 2 181 = some (2, 181, .long (-1)) := rfl
theorem q2_226 : ko2 2 226 = some (2, 226, .double 4611686018427387904) := rfl
theorem q2_228 : ko2 2 228 = some (2, 228, .double 4841369599423283200) := rfl
theorem q2_230 : ko2 2 230 = some (2, 230, .long (4503599627370496)) := rfl
theorem r13_45 : rk 45 < rk 13 ∧ mxl 45 ≤ 18 := by decide +kernel
theorem r14_49 : rk 49 < rk 14 ∧ mxl 49 ≤ 18 := by decide +kernel
theorem r14_50 : rk 50 < rk 14 ∧ mxl 50 ≤ 18 := by decide +kernel
theorem r15_50 : rk 50 < rk 15 ∧ mxl 50 ≤ 18 := by decide +kernel
theorem r17_18 : rk 18 < rk 17 ∧ mxl 18 ≤ 18 := by decide +kernel
theorem r17_19 : rk 19 < rk 17 ∧ mxl 19 ≤ 18 := by decide +kernel
theorem r171_43 : rk 43 < rk 171 ∧ mxl 43 ≤ 18 := by decide +kernel
theorem r171_57 : rk 57 < rk 171 ∧ mxl 57 ≤ 18 := by decide +kernel
theorem r171_61 : rk 61 < rk 171 ∧ mxl 61 ≤ 18 := by decide +kernel
theorem r171_62 : rk 62 < rk 171 ∧ mxl 62 ≤ 18 := by decide +kernel
theorem r171_69 : rk 69 < rk 171 ∧ mxl 69 ≤ 18 := by decide +kernel
theorem r171_83 : rk 83 < rk 171 ∧ mxl 83 ≤ 18 := by decide +kernel
theorem r171_84 : rk 84 < rk 171 ∧ mxl 84 ≤ 18 := by decide +kernel
theorem r20_18 : rk 18 < rk 20 ∧ mxl 18 ≤ 18 := by decide +kernel
theorem r20_21 : rk 21 < rk 20 ∧ mxl 21 ≤ 18 := by decide +kernel
theorem r22_151 : rk 151 < rk 22 ∧ mxl 151 ≤ 18 := by decide +kernel
theorem r22_18 : rk 18 < rk 22 ∧ mxl 18 ≤ 18 := by decide +kernel
theorem r22_23 : rk 23 < rk 22 ∧ mxl 23 ≤ 18 := by decide +kernel
theorem r22_24 : rk 24 < rk 22 ∧ mxl 24 ≤ 18 := by decide +kernel
theorem r22_49 : rk 49 < rk 22 ∧ mxl 49 ≤ 18 := by decide +kernel
theorem r23_18 : rk 18 < rk 23 ∧ mxl 18 ≤ 18 := by decide +kernel
theorem r23_49 : rk 49 < rk 23 ∧ mxl 49 ≤ 18 := by decide +kernel
theorem r24_18 : rk 18 < rk 24 ∧ mxl 18 ≤ 18 := by decide +kernel
theorem r24_49 : rk 49 < rk 24 ∧ mxl 49 ≤ 18 := by decide +kernel
theorem r25_18 : rk 18 < rk 25 ∧ mxl 18 ≤ 18 := by decide +kernel
theorem r25_19 : rk 19 < rk 25 ∧ mxl 19 ≤ 18 := by decide +kernel
theorem r25_23 : rk 23 < rk 25 ∧ mxl 23 ≤ 18 := by decide +kernel
theorem r25_24 : rk 24 < rk 25 ∧ mxl 24 ≤ 18 := by decide +kernel
theorem r25_26 : rk 26 < rk 25 ∧ mxl 26 ≤ 18 := by decide +kernel
theorem r25_27 : rk 27 < rk 25 ∧ mxl 27 ≤ 18 := by decide +kernel
theorem r26_152 : rk 152 < rk 26 ∧ mxl 152 ≤ 18 := by decide +kernel
theorem r27_23 : rk 23 < rk 27 ∧ mxl 23 ≤ 18 := by decide +kernel
theorem r28_152 : rk 152 < rk 28 ∧ mxl 152 ≤ 18 := by decide +kernel
theorem r29_26 : rk 26 < rk 29 ∧ mxl 26 ≤ 18 := by decide +kernel
theorem r29_30 : rk 30 < rk 29 ∧ mxl 30 ≤ 18 := by decide +kernel
theorem r29_31 : rk 31 < rk 29 ∧ mxl 31 ≤ 18 := by decide +kernel
theorem r29_32 : rk 32 < rk 29 ∧ mxl 32 ≤ 18 := by decide +kernel
theorem r29_34 : rk 34 < rk 29 ∧ mxl 34 ≤ 18 := by decide +kernel
theorem r29_35 : rk 35 < rk 29 ∧ mxl 35 ≤ 18 := by decide +kernel
theorem r29_36 : rk 36 < rk 29 ∧ mxl 36 ≤ 18 := by decide +kernel
theorem r29_49 : rk 49 < rk 29 ∧ mxl 49 ≤ 18 := by decide +kernel
theorem r30_152 : rk 152 < rk 30 ∧ mxl 152 ≤ 18 := by decide +kernel
theorem r31_151 : rk 151 < rk 31 ∧ mxl 151 ≤ 18 := by decide +kernel
theorem r31_19 : rk 19 < rk 31 ∧ mxl 19 ≤ 18 := by decide +kernel
theorem r32_151 : rk 151 < rk 32 ∧ mxl 151 ≤ 18 := by decide +kernel
theorem r32_19 : rk 19 < rk 32 ∧ mxl 19 ≤ 18 := by decide +kernel
theorem r32_33 : rk 33 < rk 32 ∧ mxl 33 ≤ 18 := by decide +kernel
theorem r33_19 : rk 19 < rk 33 ∧ mxl 19 ≤ 18 := by decide +kernel
theorem r35_19 : rk 19 < rk 35 ∧ mxl 19 ≤ 18 := by decide +kernel
theorem r36_19 : rk 19 < rk 36 ∧ mxl 19 ≤ 18 := by decide +kernel
theorem r37_26 : rk 26 < rk 37 ∧ mxl 26 ≤ 18 := by decide +kernel
theorem r37_38 : rk 38 < rk 37 ∧ mxl 38 ≤ 18 := by decide +kernel
theorem r38_23 : rk 23 < rk 38 ∧ mxl 23 ≤ 18 := by decide +kernel
theorem r39_154 : rk 154 < rk 39 ∧ mxl 154 ≤ 18 := by decide +kernel
theorem r40_19 : rk 19 < rk 40 ∧ mxl 19 ≤ 18 := by decide +kernel
theorem r40_37 : rk 37 < rk 40 ∧ mxl 37 ≤ 18 := by decide +kernel
theorem r41_19 : rk 19 < rk 41 ∧ mxl 19 ≤ 18 := by decide +kernel
theorem r41_23 : rk 23 < rk 41 ∧ mxl 23 ≤ 18 := by decide +kernel
theorem r43_0 : rk 0 < rk 43 ∧ mxl 0 ≤ 18 := by decide +kernel
theorem r43_11 : rk 11 < rk 43 ∧ mxl 11 ≤ 18 := by decide +kernel
theorem r44_12 : rk 12 < rk 44 ∧ mxl 12 ≤ 18 := by decide +kernel
theorem r44_13 : rk 13 < rk 44 ∧ mxl 13 ≤ 18 := by decide +kernel
theorem r44_46 : rk 46 < rk 44 ∧ mxl 46 ≤ 18 := by decide +kernel
theorem r46_47 : rk 47 < rk 46 ∧ mxl 47 ≤ 18 := by decide +kernel
theorem r48_12 : rk 12 < rk 48 ∧ mxl 12 ≤ 18 := by decide +kernel
theorem r48_14 : rk 14 < rk 48 ∧ mxl 14 ≤ 18 := by decide +kernel
theorem r48_46 : rk 46 < rk 48 ∧ mxl 46 ≤ 18 := by decide +kernel
theorem r51_12 : rk 12 < rk 51 ∧ mxl 12 ≤ 18 := by decide +kernel
theorem r51_15 : rk 15 < rk 51 ∧ mxl 15 ≤ 18 := by decide +kernel
theorem r51_46 : rk 46 < rk 51 ∧ mxl 46 ≤ 18 := by decide +kernel
theorem r52_12 : rk 12 < rk 52 ∧ mxl 12 ≤ 18 := by decide +kernel
theorem r52_16 : rk 16 < rk 52 ∧ mxl 16 ≤ 18 := by decide +kernel
theorem r52_46 : rk 46 < rk 52 ∧ mxl 46 ≤ 18 := by decide +kernel
theorem r53_12 : rk 12 < rk 53 ∧ mxl 12 ≤ 18 := by decide +kernel
theorem r53_17 : rk 17 < rk 53 ∧ mxl 17 ≤ 18 := by decide +kernel
theorem r53_46 : rk 46 < rk 53 ∧ mxl 46 ≤ 18 := by decide +kernel
theorem r54_12 : rk 12 < rk 54 ∧ mxl 12 ≤ 18 := by decide +kernel
theorem r54_20 : rk 20 < rk 54 ∧ mxl 20 ≤ 18 := by decide +kernel
theorem r54_46 : rk 46 < rk 54 ∧ mxl 46 ≤ 18 := by decide +kernel
theorem r55_12 : rk 12 < rk 55 ∧ mxl 12 ≤ 18 := by decide +kernel
theorem r55_22 : rk 22 < rk 55 ∧ mxl 22 ≤ 18 := by decide +kernel
theorem r55_46 : rk 46 < rk 55 ∧ mxl 46 ≤ 18 := by decide +kernel
theorem r56_12 : rk 12 < rk 56 ∧ mxl 12 ≤ 18 := by decide +kernel
theorem r56_25 : rk 25 < rk 56 ∧ mxl 25 ≤ 18 := by decide +kernel
theorem r56_46 : rk 46 < rk 56 ∧ mxl 46 ≤ 18 := by decide +kernel
theorem r57_12 : rk 12 < rk 57 ∧ mxl 12 ≤ 18 := by decide +kernel
theorem r57_28 : rk 28 < rk 57 ∧ mxl 28 ≤ 18 := by decide +kernel
theorem r57_29 : rk 29 < rk 57 ∧ mxl 29 ≤ 18 := by decide +kernel
theorem r57_46 : rk 46 < rk 57 ∧ mxl 46 ≤ 18 := by decide +kernel
theorem r58_18 : rk 18 < rk 58 ∧ mxl 18 ≤ 18 := by decide +kernel
theorem r58_23 : rk 23 < rk 58 ∧ mxl 23 ≤ 18 := by decide +kernel
theorem r58_49 : rk 49 < rk 58 ∧ mxl 49 ≤ 18 := by decide +kernel
theorem r59_18 : rk 18 < rk 59 ∧ mxl 18 ≤ 18 := by decide +kernel
theorem r59_19 : rk 19 < rk 59 ∧ mxl 19 ≤ 18 := by decide +kernel
theorem r59_21 : rk 21 < rk 59 ∧ mxl 21 ≤ 18 := by decide +kernel
theorem r59_27 : rk 27 < rk 59 ∧ mxl 27 ≤ 18 := by decide +kernel
theorem r59_37 : rk 37 < rk 59 ∧ mxl 37 ≤ 18 := by decide +kernel
theorem r61_26 : rk 26 < rk 61 ∧ mxl 26 ≤ 18 := by decide +kernel
theorem r61_39 : rk 39 < rk 61 ∧ mxl 39 ≤ 18 := by decide +kernel
theorem r61_40 : rk 40 < rk 61 ∧ mxl 40 ≤ 18 := by decide +kernel
theorem r61_45 : rk 45 < rk 61 ∧ mxl 45 ≤ 18 := by decide +kernel
theorem r62_50 : rk 50 < rk 62 ∧ mxl 50 ≤ 18 := by decide +kernel
theorem r63_19 : rk 19 < rk 63 ∧ mxl 19 ≤ 18 := by decide +kernel
theorem r63_37 : rk 37 < rk 63 ∧ mxl 37 ≤ 18 := by decide +kernel
theorem r64_18 : rk 18 < rk 64 ∧ mxl 18 ≤ 18 := by decide +kernel
theorem r64_65 : rk 65 < rk 64 ∧ mxl 65 ≤ 18 := by decide +kernel
theorem r66_39 : rk 39 < rk 66 ∧ mxl 39 ≤ 18 := by decide +kernel
theorem r66_41 : rk 41 < rk 66 ∧ mxl 41 ≤ 18 := by decide +kernel
theorem r66_49 : rk 49 < rk 66 ∧ mxl 49 ≤ 18 := by decide +kernel
theorem r66_67 : rk 67 < rk 66 ∧ mxl 67 ≤ 18 := by decide +kernel
theorem r69_12 : rk 12 < rk 69 ∧ mxl 12 ≤ 18 := by decide +kernel
theorem r69_28 : rk 28 < rk 69 ∧ mxl 28 ≤ 18 := by decide +kernel
theorem r69_29 : rk 29 < rk 69 ∧ mxl 29 ≤ 18 := by decide +kernel
theorem r69_40 : rk 40 < rk 69 ∧ mxl 40 ≤ 18 := by decide +kernel
theorem r82_58 : rk 58 < rk 82 ∧ mxl 58 ≤ 18 := by decide +kernel
theorem r82_59 : rk 59 < rk 82 ∧ mxl 59 ≤ 18 := by decide +kernel
theorem r82_60 : rk 60 < rk 82 ∧ mxl 60 ≤ 18 := by decide +kernel
theorem r82_61 : rk 61 < rk 82 ∧ mxl 61 ≤ 18 := by decide +kernel
theorem r82_64 : rk 64 < rk 82 ∧ mxl 64 ≤ 18 := by decide +kernel
theorem r83_59 : rk 59 < rk 83 ∧ mxl 59 ≤ 18 := by decide +kernel
theorem r83_60 : rk 60 < rk 83 ∧ mxl 60 ≤ 18 := by decide +kernel
theorem r83_61 : rk 61 < rk 83 ∧ mxl 61 ≤ 18 := by decide +kernel
theorem r83_62 : rk 62 < rk 83 ∧ mxl 62 ≤ 18 := by decide +kernel
theorem r83_63 : rk 63 < rk 83 ∧ mxl 63 ≤ 18 := by decide +kernel
theorem r83_66 : rk 66 < rk 83 ∧ mxl 66 ≤ 18 := by decide +kernel
theorem r83_82 : rk 82 < rk 83 ∧ mxl 82 ≤ 18 := by decide +kernel
theorem r84_44 : rk 44 < rk 84 ∧ mxl 44 ≤ 18 := by decide +kernel
theorem r84_48 : rk 48 < rk 84 ∧ mxl 48 ≤ 18 := by decide +kernel
theorem r84_51 : rk 51 < rk 84 ∧ mxl 51 ≤ 18 := by decide +kernel
theorem r84_52 : rk 52 < rk 84 ∧ mxl 52 ≤ 18 := by decide +kernel
theorem r84_53 : rk 53 < rk 84 ∧ mxl 53 ≤ 18 := by decide +kernel
theorem r84_54 : rk 54 < rk 84 ∧ mxl 54 ≤ 18 := by decide +kernel
theorem r84_55 : rk 55 < rk 84 ∧ mxl 55 ≤ 18 := by decide +kernel
theorem r84_56 : rk 56 < rk 84 ∧ mxl 56 ≤ 18 := by decide +kernel
theorem r84_76 : rk 76 < rk 84 ∧ mxl 76 ≤ 18 := by decide +kernel
theorem r84_80 : rk 80 < rk 84 ∧ mxl 80 ≤ 18 := by decide +kernel
theorem r84_81 : rk 81 < rk 84 ∧ mxl 81 ≤ 18 := by decide +kernel
theorem t0_3 : cal 0 3 = none := rfl
theorem t0_3n : nat 0 3 = some 4 := rfl
theorem t1_18 : cal 1 18 = none := rfl
theorem t1_18n : nat 1 18 = some 1 := rfl
theorem t1_3 : cal 1 3 = none := rfl
theorem t1_3n : nat 1 3 = some 4 := rfl
theorem t2_3 : cal 2 3 = none := rfl
theorem t2_3n : nat 2 3 = some 4 := rfl
