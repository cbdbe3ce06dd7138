theorem gT_0 : GoodIn lw_tbl wsX00 := goodIn_p _ [] rfl (by decide +kernel)
theorem gT_1 : GoodIn lw_tbl wsX10 := goodIn_p _ [] rfl (by decide +kernel)
theorem gT_2 : GoodIn lw_tbl wsX20 := goodIn_p _ [] rfl (by decide +kernel)
theorem gT_3 : GoodIn lw_tbl wsX30 := goodIn_p _ [] rfl (by decide +kernel)
def okf (o : Nat) (c : Fi) : Bool := (c.1 == o) &&
  (if c.2.2.1 = 100 then gw c.2.2.2.2.1 (.fieldLink (cn o) c.2.1 "java/lang/String" (if c.2.2.2.1 = 0 then "value" else "coder") (if c.2.2.2.1 = 0 then "[B" else "B")) && decide (c.2.2.2.2.2 = true)
   else match vwCl[c.2.2.1]? with
     | some q => gw c.2.2.2.2.1 (.fieldLink (cn o) c.2.1 (q.2.1 c.2.2.2.1).1 (q.2.1 c.2.2.2.1).2.1 (q.2.1 c.2.2.2.1).2.2.1) && decide (c.2.2.2.2.2 = (q.2.1 c.2.2.2.1).2.2.2) && decide (c.2.2.2.1 < q.2.2) && decide ((q.2.1 c.2.2.2.1).1 = cn c.2.2.1)
     | none => false)
theorem okf_0_0 : ((fldL 0).drop 0 |>.take 10).all (okf 0) = true := by decide +kernel
theorem okf_0 : (fldL 0).all (okf 0) = true := by
  have h : fldL 0 = ((fldL 0).drop 0 |>.take 10) := rfl
  rw [h]
  simp only [List.all_append, okf_0_0, Bool.and_self]
theorem okf_1_0 : ((fldL 1).drop 0 |>.take 10).all (okf 1) = true := by decide +kernel
theorem okf_1_1 : ((fldL 1).drop 10 |>.take 10).all (okf 1) = true := by decide +kernel
theorem okf_1 : (fldL 1).all (okf 1) = true := by
  have h : fldL 1 = ((fldL 1).drop 0 |>.take 10) ++ (((fldL 1).drop 10 |>.take 10)) := rfl
  rw [h]
  simp only [List.all_append, okf_1_0, okf_1_1, Bool.and_self]
theorem okf_2_0 : ((fldL 2).drop 0 |>.take 10).all (okf 2) = true := by decide +kernel
theorem okf_2_1 : ((fldL 2).drop 10 |>.take 10).all (okf 2) = true := by decide +kernel
theorem okf_2_2 : ((fldL 2).drop 20 |>.take 10).all (okf 2) = true := by decide +kernel
theorem okf_2 : (fldL 2).all (okf 2) = true := by
  have h : fldL 2 = ((fldL 2).drop 0 |>.take 10) ++ (((fldL 2).drop 10 |>.take 10) ++ (((fldL 2).drop 20 |>.take 10))) := rfl
  rw [h]
  simp only [List.all_append, okf_2_0, okf_2_1, okf_2_2, Bool.and_self]
theorem okf_3_0 : ((fldL 3).drop 0 |>.take 10).all (okf 3) = true := by decide +kernel
theorem okf_3_1 : ((fldL 3).drop 10 |>.take 10).all (okf 3) = true := by decide +kernel
theorem okf_3 : (fldL 3).all (okf 3) = true := by
  have h : fldL 3 = ((fldL 3).drop 0 |>.take 10) ++ (((fldL 3).drop 10 |>.take 10)) := rfl
  rw [h]
  simp only [List.all_append, okf_3_0, okf_3_1, Bool.and_self]
theorem okf_7_0 : ((fldL 7).drop 0 |>.take 10).all (okf 7) = true := by decide +kernel
theorem okf_7 : (fldL 7).all (okf 7) = true := by
  have h : fldL 7 = ((fldL 7).drop 0 |>.take 10) := rfl
  rw [h]
  simp only [List.all_append, okf_7_0, Bool.and_self]
theorem fld_ok {o i : Nat} {c : Fi} (h : fld o i = some c) : okf o c = true ∧ c.2.1 = i := by
  unfold fld at h
  have hm := List.mem_of_find?_eq_some h
  have hp := List.find?_some h
  refine ⟨?_, by simpa using hp⟩
  unfold fldL at hm
  split at hm
  · exact List.all_eq_true.mp okf_0 _ hm
  · exact List.all_eq_true.mp okf_1 _ hm
  · exact List.all_eq_true.mp okf_2 _ hm
  · exact List.all_eq_true.mp okf_3 _ hm
  · exact List.all_eq_true.mp okf_7 _ hm
  · cases hm
theorem cal_ok {o i : Nat} {c : Ci} (h : cal o i = some c) : okc o c = true ∧ c.2.1 = i := by
  unfold cal at h
  have hm := List.mem_of_find?_eq_some h
  have hp := List.find?_some h
  refine ⟨?_, by simpa using hp⟩
  unfold calL at hm
  split at hm
  · exact List.all_eq_true.mp okc_0 _ hm
  · exact List.all_eq_true.mp okc_1 _ hm
  · exact List.all_eq_true.mp okc_2 _ hm
  · exact List.all_eq_true.mp okc_3 _ hm
  · exact List.all_eq_true.mp okc_4 _ hm
  · exact List.all_eq_true.mp okc_7 _ hm
  · exact List.all_eq_true.mp okc_8 _ hm
  · exact List.all_eq_true.mp okc_10 _ hm
  · exact List.all_eq_true.mp okc_11 _ hm
  · cases hm
theorem wg_7_38 : (.fieldLink "java/lang/String" 38 "java/lang/String" "COMPACT_STRINGS" "Z" : Cond) ∈ lw_tbl ∧ goodWord (.fieldLink "java/lang/String" 38 "java/lang/String" "COMPACT_STRINGS" "Z" : Cond) = true := gw_of (i := 510) (by decide +kernel)
theorem wg_7_1053 : (.fieldLink "java/lang/String" 1053 "jdk/internal/util/Preconditions" "SIOOBE_FORMATTER" "Ljava/util/function/BiFunction;" : Cond) ∈ lw_tbl ∧ goodWord (.fieldLink "java/lang/String" 1053 "jdk/internal/util/Preconditions" "SIOOBE_FORMATTER" "Ljava/util/function/BiFunction;" : Cond) = true := gw_of (i := 551) (by decide +kernel)
theorem wk_2_181 : (.constantLong "HandoverDesk" 181 (-1) : Cond) ∈ lw_tbl ∧ goodWord (.constantLong "HandoverDesk" 181 (-1) : Cond) = true := gw_of (i := 432) (by decide +kernel)
theorem wk_2_224 : (.constantFloat "HandoverDesk" 224 (1258291200) : Cond) ∈ lw_tbl ∧ goodWord (.constantFloat "HandoverDesk" 224 (1258291200) : Cond) = true := gw_of (i := 426) (by decide +kernel)
theorem wk_2_225 : (.constant "HandoverDesk" 225 (8388608) : Cond) ∈ lw_tbl ∧ goodWord (.constant "HandoverDesk" 225 (8388608) : Cond) = true := gw_of (i := 427) (by decide +kernel)
theorem wk_2_226 : (.constantDouble "HandoverDesk" 226 (4611686018427387904) : Cond) ∈ lw_tbl ∧ goodWord (.constantDouble "HandoverDesk" 226 (4611686018427387904) : Cond) = true := gw_of (i := 440) (by decide +kernel)
theorem wk_2_228 : (.constantDouble "HandoverDesk" 228 (4841369599423283200) : Cond) ∈ lw_tbl ∧ goodWord (.constantDouble "HandoverDesk" 228 (4841369599423283200) : Cond) = true := gw_of (i := 441) (by decide +kernel)
theorem wk_2_230 : (.constantLong "HandoverDesk" 230 (4503599627370496) : Cond) ∈ lw_tbl ∧ goodWord (.constantLong "HandoverDesk" 230 (4503599627370496) : Cond) = true := gw_of (i := 442) (by decide +kernel)
theorem wk_0_19 : (.constantLong "HandoverDesk$Pad" 19 (255) : Cond) ∈ lw_tbl ∧ goodWord (.constantLong "HandoverDesk$Pad" 19 (255) : Cond) = true := gw_of (i := 470) (by decide +kernel)
theorem wk_0_21 : (.constantLong "HandoverDesk$Pad" 21 (33) : Cond) ∈ lw_tbl ∧ goodWord (.constantLong "HandoverDesk$Pad" 21 (33) : Cond) = true := gw_of (i := 471) (by decide +kernel)
theorem wk_0_23 : (.constantLong "HandoverDesk$Pad" 23 (126) : Cond) ∈ lw_tbl ∧ goodWord (.constantLong "HandoverDesk$Pad" 23 (126) : Cond) = true := gw_of (i := 472) (by decide +kernel)
theorem wk_4_98 : (.constantLong "HandoverDeskLaw" 98 (4294967295) : Cond) ∈ lw_tbl ∧ goodWord (.constantLong "HandoverDeskLaw" 98 (4294967295) : Cond) = true := gw_of (i := 980) (by decide +kernel)
theorem wk_3_153 : (.constantLong "HandoverDeskModel" 153 (-1) : Cond) ∈ lw_tbl ∧ goodWord (.constantLong "HandoverDeskModel" 153 (-1) : Cond) = true := gw_of (i := 894) (by decide +kernel)
theorem wk_3_167 : (.constantLong "HandoverDeskModel" 167 (255) : Cond) ∈ lw_tbl ∧ goodWord (.constantLong "HandoverDeskModel" 167 (255) : Cond) = true := gw_of (i := 935) (by decide +kernel)
theorem wk_11_137 : (.constantLong "java/lang/Double" 137 (9221120237041090560) : Cond) ∈ lw_tbl ∧ goodWord (.constantLong "java/lang/Double" 137 (9221120237041090560) : Cond) = true := gw_of (i := 904) (by decide +kernel)
theorem wk_10_77 : (.constant "java/lang/Float" 77 (2143289344) : Cond) ∈ lw_tbl ∧ goodWord (.constant "java/lang/Float" 77 (2143289344) : Cond) = true := gw_of (i := 889) (by decide +kernel)
theorem wk_6_265 : (.constant "java/lang/Integer" 265 (1431655765) : Cond) ∈ lw_tbl ∧ goodWord (.constant "java/lang/Integer" 265 (1431655765) : Cond) = true := gw_of (i := 402) (by decide +kernel)
theorem wk_6_266 : (.constant "java/lang/Integer" 266 (858993459) : Cond) ∈ lw_tbl ∧ goodWord (.constant "java/lang/Integer" 266 (858993459) : Cond) = true := gw_of (i := 403) (by decide +kernel)
theorem wk_6_267 : (.constant "java/lang/Integer" 267 (252645135) : Cond) ∈ lw_tbl ∧ goodWord (.constant "java/lang/Integer" 267 (252645135) : Cond) = true := gw_of (i := 404) (by decide +kernel)
theorem wa_link : (.methodLink RX1 18 arraycopyName : Cond) ∈ lw_tbl ∧ goodWord (.methodLink RX1 18 arraycopyName : Cond) = true := gw_of (i := 68) (by decide +kernel)
theorem wa_nat : (.native arraycopyName : Cond) ∈ lw_tbl ∧ goodWord (.native arraycopyName : Cond) = true := gw_of (i := 70) (by decide +kernel)
theorem wa_sta : (.static arraycopyName : Cond) ∈ lw_tbl ∧ goodWord (.static arraycopyName : Cond) = true := gw_of (i := 69) (by decide +kernel)
theorem wa_ini : (.initialized "java/lang/System" : Cond) ∈ lw_tbl ∧ goodWord (.initialized "java/lang/System" : Cond) = true := gw_of (i := 40) (by decide +kernel)
theorem wf_link : (.methodLink "java/lang/Float" 74 ⟨"java/lang/Float", "floatToRawIntBits", "(F)I"⟩ : Cond) ∈ lw_tbl ∧ goodWord (.methodLink "java/lang/Float" 74 ⟨"java/lang/Float", "floatToRawIntBits", "(F)I"⟩ : Cond) = true := gw_of (i := 886) (by decide +kernel)
theorem wf_nat : (.native ⟨"java/lang/Float", "floatToRawIntBits", "(F)I"⟩ : Cond) ∈ lw_tbl ∧ goodWord (.native ⟨"java/lang/Float", "floatToRawIntBits", "(F)I"⟩ : Cond) = true := gw_of (i := 888) (by decide +kernel)
theorem wf_sta : (.static ⟨"java/lang/Float", "floatToRawIntBits", "(F)I"⟩ : Cond) ∈ lw_tbl ∧ goodWord (.static ⟨"java/lang/Float", "floatToRawIntBits", "(F)I"⟩ : Cond) = true := gw_of (i := 887) (by decide +kernel)
theorem wf_ini : (.initialized "java/lang/Float" : Cond) ∈ lw_tbl ∧ goodWord (.initialized "java/lang/Float" : Cond) = true := gw_of (i := 45) (by decide +kernel)
theorem wd_link : (.methodLink "java/lang/Double" 134 ⟨"java/lang/Double", "doubleToRawLongBits", "(D)J"⟩ : Cond) ∈ lw_tbl ∧ goodWord (.methodLink "java/lang/Double" 134 ⟨"java/lang/Double", "doubleToRawLongBits", "(D)J"⟩ : Cond) = true := gw_of (i := 901) (by decide +kernel)
theorem wd_nat : (.native ⟨"java/lang/Double", "doubleToRawLongBits", "(D)J"⟩ : Cond) ∈ lw_tbl ∧ goodWord (.native ⟨"java/lang/Double", "doubleToRawLongBits", "(D)J"⟩ : Cond) = true := gw_of (i := 903) (by decide +kernel)
theorem wd_sta : (.static ⟨"java/lang/Double", "doubleToRawLongBits", "(D)J"⟩ : Cond) ∈ lw_tbl ∧ goodWord (.static ⟨"java/lang/Double", "doubleToRawLongBits", "(D)J"⟩ : Cond) = true := gw_of (i := 902) (by decide +kernel)
theorem wd_ini : (.initialized "java/lang/Double" : Cond) ∈ lw_tbl ∧ goodWord (.initialized "java/lang/Double" : Cond) = true := gw_of (i := 46) (by decide +kernel)
theorem wo_0 : (.methodLink "HandoverDesk$Pad" 3 objectInit : Cond) ∈ lw_tbl ∧ goodWord (.methodLink "HandoverDesk$Pad" 3 objectInit : Cond) = true := gw_of (i := 147) (by decide +kernel)
theorem wo_1 : (.methodLink "HandoverDesk$State" 3 objectInit : Cond) ∈ lw_tbl ∧ goodWord (.methodLink "HandoverDesk$State" 3 objectInit : Cond) = true := gw_of (i := 65) (by decide +kernel)
theorem wo_2 : (.methodLink "HandoverDesk" 3 objectInit : Cond) ∈ lw_tbl ∧ goodWord (.methodLink "HandoverDesk" 3 objectInit : Cond) = true := gw_of (i := 57) (by decide +kernel)
theorem wo_3 : (.methodLink "HandoverDeskModel" 1 objectInit : Cond) ∈ lw_tbl ∧ goodWord (.methodLink "HandoverDeskModel" 1 objectInit : Cond) = true := gw_of (i := 663) (by decide +kernel)
theorem wo_inst : (.instanceMethod objectInit : Cond) ∈ lw_tbl ∧ goodWord (.instanceMethod objectInit : Cond) = true := gw_of (i := 58) (by decide +kernel)
theorem wo_code : (.code objectInit ⟨#[0xb1]⟩ 1 none : Cond) ∈ lw_tbl ∧ goodWord (.code objectInit ⟨#[0xb1]⟩ 1 none : Cond) = true := ⟨List.mem_of_getElem? (i := 59) rfl, by decide +kernel⟩
theorem wn_2_9 : (.classLink "HandoverDesk" 9 "HandoverDesk$State" : Cond) ∈ lw_tbl ∧ goodWord (.classLink "HandoverDesk" 9 "HandoverDesk$State" : Cond) = true := gw_of (i := 60) (by decide +kernel)
theorem wn_2_30 : (.classLink "HandoverDesk" 30 "HandoverDesk$Pad" : Cond) ∈ lw_tbl ∧ goodWord (.classLink "HandoverDesk" 30 "HandoverDesk$Pad" : Cond) = true := gw_of (i := 142) (by decide +kernel)
theorem wn_4_7 : (.classLink "HandoverDeskLaw" 7 "HandoverDesk" : Cond) ∈ lw_tbl ∧ goodWord (.classLink "HandoverDeskLaw" 7 "HandoverDesk" : Cond) = true := gw_of (i := 52) (by decide +kernel)
theorem wn_4_10 : (.classLink "HandoverDeskLaw" 10 "HandoverDeskModel" : Cond) ∈ lw_tbl ∧ goodWord (.classLink "HandoverDeskLaw" 10 "HandoverDeskModel" : Cond) = true := gw_of (i := 658) (by decide +kernel)
theorem wi_0 : (.instantiable RX0 5 : Cond) ∈ lw_tbl ∧ goodWord (.instantiable RX0 5 : Cond) = true := gw_of (i := 143) (by decide +kernel)
theorem wz_0 : (.initialized RX0 : Cond) ∈ lw_tbl ∧ goodWord (.initialized RX0 : Cond) = true := gw_of (i := 41) (by decide +kernel)
theorem wi_1 : (.instantiable RX1 17 : Cond) ∈ lw_tbl ∧ goodWord (.instantiable RX1 17 : Cond) = true := gw_of (i := 61) (by decide +kernel)
theorem wz_1 : (.initialized RX1 : Cond) ∈ lw_tbl ∧ goodWord (.initialized RX1 : Cond) = true := gw_of (i := 39) (by decide +kernel)
theorem wi_2 : (.instantiable RX2 10 : Cond) ∈ lw_tbl ∧ goodWord (.instantiable RX2 10 : Cond) = true := gw_of (i := 53) (by decide +kernel)
theorem wz_2 : (.initialized RX2 : Cond) ∈ lw_tbl ∧ goodWord (.initialized RX2 : Cond) = true := gw_of (i := 38) (by decide +kernel)
theorem wi_3 : (.instantiable RX3 11 : Cond) ∈ lw_tbl ∧ goodWord (.instantiable RX3 11 : Cond) = true := gw_of (i := 659) (by decide +kernel)
theorem wz_3 : (.initialized RX3 : Cond) ∈ lw_tbl ∧ goodWord (.initialized RX3 : Cond) = true := gw_of (i := 42) (by decide +kernel)
theorem wy_int : (.arrayClass .int : Cond) ∈ lw_tbl ∧ goodWord (.arrayClass .int : Cond) = true := gw_of (i := 140) (by decide +kernel)
theorem wy_char : (.arrayClass .char : Cond) ∈ lw_tbl ∧ goodWord (.arrayClass .char : Cond) = true := gw_of (i := 168) (by decide +kernel)
theorem wy_boolean : (.arrayClass .boolean : Cond) ∈ lw_tbl ∧ goodWord (.arrayClass .boolean : Cond) = true := gw_of (i := 167) (by decide +kernel)
theorem wm_link : (.classLink RX1 30 "[[I" : Cond) ∈ lw_tbl ∧ goodWord (.classLink RX1 30 "[[I" : Cond) = true := gw_of (i := 71) (by decide +kernel)
theorem wq_link : (.classLink RX2 9 RX1 : Cond) ∈ lw_tbl ∧ goodWord (.classLink RX2 9 RX1 : Cond) = true := gw_of (i := 60) (by decide +kernel)
theorem wl_FIRST_SETTING : (.laysStatic "HandoverDesk" "FIRST_SETTING" "[I" : Cond) ∈ lw_tbl := List.mem_of_getElem? (i := 67) (by decide +kernel)
theorem wl_LEAST_SETTING : (.laysStatic "HandoverDesk" "LEAST_SETTING" "[I" : Cond) ∈ lw_tbl := List.mem_of_getElem? (i := 216) (by decide +kernel)
theorem wl_MOST_SETTING : (.laysStatic "HandoverDesk" "MOST_SETTING" "[I" : Cond) ∈ lw_tbl := List.mem_of_getElem? (i := 218) (by decide +kernel)
theorem wl_COMPACT_STRINGS : (.laysStatic "java/lang/String" "COMPACT_STRINGS" "Z" : Cond) ∈ lw_tbl := List.mem_of_getElem? (i := 511) (by decide +kernel)
theorem wl_SIOOBE_FORMATTER : (.laysStatic "jdk/internal/util/Preconditions" "SIOOBE_FORMATTER" "Ljava/util/function/BiFunction;" : Cond) ∈ lw_tbl := List.mem_of_getElem? (i := 552) (by decide +kernel)
theorem wzz_desk : (.initialized "HandoverDesk" : Cond) ∈ lw_tbl ∧ goodWord (.initialized "HandoverDesk" : Cond) = true := gw_of (i := 38) (by decide +kernel)
theorem wzz_str : (.initialized "java/lang/String" : Cond) ∈ lw_tbl ∧ goodWord (.initialized "java/lang/String" : Cond) = true := gw_of (i := 47) (by decide +kernel)
theorem wzz_pre : (.initialized "jdk/internal/util/Preconditions" : Cond) ∈ lw_tbl ∧ goodWord (.initialized "jdk/internal/util/Preconditions" : Cond) = true := gw_of (i := 50) (by decide +kernel)
theorem wr_0 : (.stringRef "HandoverDesk$Pad" 47 "oxkclrme" : Cond) ∈ lw_tbl := List.mem_of_getElem? (i := 497) (by decide +kernel)
theorem wr_1 : (.stringRef "HandoverDesk$Pad" 73 "t" : Cond) ∈ lw_tbl := List.mem_of_getElem? (i := 585) (by decide +kernel)
theorem wr_2 : (.stringRef "HandoverDesk$Pad" 75 "w.t+n" : Cond) ∈ lw_tbl := List.mem_of_getElem? (i := 586) (by decide +kernel)
theorem wr_3 : (.stringRef "HandoverDesk$Pad" 77 "n=w" : Cond) ∈ lw_tbl := List.mem_of_getElem? (i := 587) (by decide +kernel)
theorem wr_4 : (.stringRef "HandoverDesk$Pad" 79 "n=n" : Cond) ∈ lw_tbl := List.mem_of_getElem? (i := 588) (by decide +kernel)
theorem wr_5 : (.stringRef "HandoverDesk$Pad" 81 "" : Cond) ∈ lw_tbl := List.mem_of_getElem? (i := 589) (by decide +kernel)
theorem wnm_0 : (.methodLinkNest "HandoverDesk$State" 111 ⟨"HandoverDesk", "isSetting", "(I)Z"⟩ "HandoverDesk" : Cond) ∈ lw_tbl := List.mem_of_getElem? (i := 212) (by decide +kernel)
theorem wnm_1 : (.methodLinkNest "HandoverDesk$State" 81 ⟨"HandoverDesk", "isWorker", "(I)Z"⟩ "HandoverDesk" : Cond) ∈ lw_tbl := List.mem_of_getElem? (i := 235) (by decide +kernel)
theorem wnm_2 : (.methodLinkNest "HandoverDesk$State" 120 ⟨"HandoverDesk", "isPlace", "(I)Z"⟩ "HandoverDesk" : Cond) ∈ lw_tbl := List.mem_of_getElem? (i := 238) (by decide +kernel)
theorem wnf_0 : (.fieldLinkNest "HandoverDesk$State" 15 "HandoverDesk" "FIRST_SETTING" "[I" "HandoverDesk" : Cond) ∈ lw_tbl := List.mem_of_getElem? (i := 66) (by decide +kernel)
theorem wnf_1 : (.fieldLinkNest "HandoverDesk$State" 114 "HandoverDesk" "LEAST_SETTING" "[I" "HandoverDesk" : Cond) ∈ lw_tbl := List.mem_of_getElem? (i := 215) (by decide +kernel)
theorem wnf_2 : (.fieldLinkNest "HandoverDesk$State" 117 "HandoverDesk" "MOST_SETTING" "[I" "HandoverDesk" : Cond) ∈ lw_tbl := List.mem_of_getElem? (i := 217) (by decide +kernel)
theorem wao_i : (.arrayOver (.array .int) : Cond) ∈ lw_tbl := List.mem_of_getElem? (i := 72) (by decide +kernel)
theorem wao_s : (.arrayOver (.object RX1) : Cond) ∈ lw_tbl := List.mem_of_getElem? (i := 141) (by decide +kernel)
theorem cwd_good : ∀ K, K < 171 → goodWord (cwd K) = true := fun K _ => rfl
