theorem gT_0 : GoodIn lw_tbl wsX00 := goodIn_p _ [] rfl (by decide +kernel)
theorem gT_1 : GoodIn lw_tbl wsX10 := goodIn_p _ [] rfl (by decide +kernel)
theorem gT_2 : GoodIn lw_tbl wsX20 := goodIn_p _ [] rfl (by decide +kernel)
def okf (o : Nat) (c : Fi) : Bool := (c.1 == o) &&
  (if c.2.2.1 = 100 then gw c.2.2.2.2.1 (.fieldLink (cn o) c.2.1 "java/lang/String" (if c.2.2.2.1 = 0 then "value" else "coder") (if c.2.2.2.1 = 0 then "[B" else "B")) && decide (c.2.2.2.2.2 = true)
   else match vwCl[c.2.2.1]? with
     | some q => gw c.2.2.2.2.1 (.fieldLink (cn o) c.2.1 (q.2.1 c.2.2.2.1).1 (q.2.1 c.2.2.2.1).2.1 (q.2.1 c.2.2.2.1).2.2.1) && decide (c.2.2.2.2.2 = (q.2.1 c.2.2.2.1).2.2.2) && decide (c.2.2.2.1 < q.2.2) && decide ((q.2.1 c.2.2.2.1).1 = cn c.2.2.1)
     | none => false)
theorem okf_0_0 : ((fldL 0).drop 0 |>.take 10).all (okf 0) = true := by decide +kernel
theorem okf_0 : (fldL 0).all (okf 0) = true := by
  have h : fldL 0 = ((fldL 0).drop 0 |>.take 10) := rfl
  rw [h]
  simp only [List.all_append, okf_0_0, Bool.and_self]
theorem okf_1_0 : ((fldL 1).drop 0 |>.take 10).all (okf 1) = true := by decide +kernel
theorem okf_1_1 : ((fldL 1).drop 10 |>.take 10).all (okf 1) = true := by decide +kernel
theorem okf_1 : (fldL 1).all (okf 1) = true := by
  have h : fldL 1 = ((fldL 1).drop 0 |>.take 10) ++ (((fldL 1).drop 10 |>.take 10)) := rfl
  rw [h]
  simp only [List.all_append, okf_1_0, okf_1_1, Bool.and_self]
theorem okf_2_0 : ((fldL 2).drop 0 |>.take 10).all (okf 2) = true := by decide +kernel
theorem okf_2_1 : ((fldL 2).drop 10 |>.take 10).all (okf 2) = true := by decide +kernel
theorem okf_2_2 : ((fldL 2).drop 20 |>.take 10).all (okf 2) = true := by decide +kernel
theorem okf_2 : (fldL 2).all (okf 2) = true := by
  have h : fldL 2 = ((fldL 2).drop 0 |>.take 10) ++ (((fldL 2).drop 10 |>.take 10) ++ (((fldL 2).drop 20 |>.take 10))) := rfl
  rw [h]
  simp only [List.all_append, okf_2_0, okf_2_1, okf_2_2, Bool.and_self]
theorem fld_ok {o i : Nat} {c : Fi} (h : fld o i = some c) : okf o c = true ∧ c.2.1 = i := by
  unfold fld at h
  have hm := List.mem_of_find?_eq_some h
  have hp := List.find?_some h
  refine ⟨?_, by simpa using hp⟩
  unfold fldL at hm
  split at hm
  · exact List.all_eq_true.mp okf_0 _ hm
  · exact List.all_eq_true.mp okf_1 _ hm
  · exact List.all_eq_true.mp okf_2 _ hm
  · cases hm
theorem cal_ok {o i : Nat} {c : Ci} (h : cal o i = some c) : okc o c = true ∧ c.2.1 = i := by
  unfold cal at h
  have hm := List.mem_of_find?_eq_some h
  have hp := List.find?_some h
  refine ⟨?_, by simpa using hp⟩
  unfold calL at hm
  split at hm
  · exact List.all_eq_true.mp okc_1 _ hm
  · exact List.all_eq_true.mp okc_2 _ hm
  · exact List.all_eq_true.mp okc_4 _ hm
  · cases hm
theorem wk_2_181 : (.constantLong "HandoverDesk" 181 (-1) : Cond) ∈ lw_tbl ∧ goodWord (.constantLong "HandoverDesk" 181 (-1) : Cond) = true := gw_of (i := 325) (by decide +kernel)
theorem wk_2_224 : (.constantFloat "HandoverDesk" 224 (1258291200) : Cond) ∈ lw_tbl ∧ goodWord (.constantFloat "HandoverDesk" 224 (1258291200) : Cond) = true := gw_of (i := 315) (by decide +kernel)
theorem wk_2_225 : (.constant "HandoverDesk" 225 (8388608) : Cond) ∈ lw_tbl ∧ goodWord (.constant "HandoverDesk" 225 (8388608) : Cond) = true := gw_of (i := 316) (by decide +kernel)
theorem wk_2_226 : (.constantDouble "HandoverDesk" 226 (4611686018427387904) : Cond) ∈ lw_tbl ∧ goodWord (.constantDouble "HandoverDesk" 226 (4611686018427387904) : Cond) = true := gw_of (i := 333) (by decide +kernel)
theorem wk_2_228 : (.constantDouble "HandoverDesk" 228 (4841369599423283200) : Cond) ∈ lw_tbl ∧ goodWord (.constantDouble "HandoverDesk" 228 (4841369599423283200) : Cond) = true := gw_of (i := 334) (by decide +kernel)
theorem wk_2_230 : (.constantLong "HandoverDesk" 230 (4503599627370496) : Cond) ∈ lw_tbl ∧ goodWord (.constantLong "HandoverDesk" 230 (4503599627370496) : Cond) = true := gw_of (i := 335) (by decide +kernel)
theorem wk_4_7 : (.constant "HandoverDeskLaw" 7 (2147483647) : Cond) ∈ lw_tbl ∧ goodWord (.constant "HandoverDeskLaw" 7 (2147483647) : Cond) = true := gw_of (i := 346) (by decide +kernel)
theorem wk_4_8 : (.constant "HandoverDeskLaw" 8 (40503) : Cond) ∈ lw_tbl ∧ goodWord (.constant "HandoverDeskLaw" 8 (40503) : Cond) = true := gw_of (i := 342) (by decide +kernel)
theorem wk_6_265 : (.constant "java/lang/Integer" 265 (1431655765) : Cond) ∈ lw_tbl ∧ goodWord (.constant "java/lang/Integer" 265 (1431655765) : Cond) = true := gw_of (i := 243) (by decide +kernel)
theorem wk_6_266 : (.constant "java/lang/Integer" 266 (858993459) : Cond) ∈ lw_tbl ∧ goodWord (.constant "java/lang/Integer" 266 (858993459) : Cond) = true := gw_of (i := 244) (by decide +kernel)
theorem wk_6_267 : (.constant "java/lang/Integer" 267 (252645135) : Cond) ∈ lw_tbl ∧ goodWord (.constant "java/lang/Integer" 267 (252645135) : Cond) = true := gw_of (i := 245) (by decide +kernel)
theorem wa_link : (.methodLink RX1 18 arraycopyName : Cond) ∈ lw_tbl ∧ goodWord (.methodLink RX1 18 arraycopyName : Cond) = true := gw_of (i := 32) (by decide +kernel)
theorem wa_nat : (.native arraycopyName : Cond) ∈ lw_tbl ∧ goodWord (.native arraycopyName : Cond) = true := gw_of (i := 34) (by decide +kernel)
theorem wa_sta : (.static arraycopyName : Cond) ∈ lw_tbl ∧ goodWord (.static arraycopyName : Cond) = true := gw_of (i := 33) (by decide +kernel)
theorem wa_ini : (.initialized "java/lang/System" : Cond) ∈ lw_tbl ∧ goodWord (.initialized "java/lang/System" : Cond) = true := gw_of (i := 12) (by decide +kernel)
theorem wo_0 : (.methodLink "HandoverDesk$Pad" 3 objectInit : Cond) ∈ lw_tbl ∧ goodWord (.methodLink "HandoverDesk$Pad" 3 objectInit : Cond) = true := gw_of (i := 111) (by decide +kernel)
theorem wo_1 : (.methodLink "HandoverDesk$State" 3 objectInit : Cond) ∈ lw_tbl ∧ goodWord (.methodLink "HandoverDesk$State" 3 objectInit : Cond) = true := gw_of (i := 29) (by decide +kernel)
theorem wo_2 : (.methodLink "HandoverDesk" 3 objectInit : Cond) ∈ lw_tbl ∧ goodWord (.methodLink "HandoverDesk" 3 objectInit : Cond) = true := gw_of (i := 21) (by decide +kernel)
theorem wo_inst : (.instanceMethod objectInit : Cond) ∈ lw_tbl ∧ goodWord (.instanceMethod objectInit : Cond) = true := gw_of (i := 22) (by decide +kernel)
theorem wo_code : (.code objectInit ⟨#[0xb1]⟩ 1 none : Cond) ∈ lw_tbl ∧ goodWord (.code objectInit ⟨#[0xb1]⟩ 1 none : Cond) = true := ⟨List.mem_of_getElem? (i := 23) rfl, by decide +kernel⟩
theorem wn_2_9 : (.classLink "HandoverDesk" 9 "HandoverDesk$State" : Cond) ∈ lw_tbl ∧ goodWord (.classLink "HandoverDesk" 9 "HandoverDesk$State" : Cond) = true := gw_of (i := 24) (by decide +kernel)
theorem wn_2_30 : (.classLink "HandoverDesk" 30 "HandoverDesk$Pad" : Cond) ∈ lw_tbl ∧ goodWord (.classLink "HandoverDesk" 30 "HandoverDesk$Pad" : Cond) = true := gw_of (i := 106) (by decide +kernel)
theorem wn_4_10 : (.classLink "HandoverDeskLaw" 10 "HandoverDesk" : Cond) ∈ lw_tbl ∧ goodWord (.classLink "HandoverDeskLaw" 10 "HandoverDesk" : Cond) = true := gw_of (i := 16) (by decide +kernel)
theorem wi_0 : (.instantiable RX0 5 : Cond) ∈ lw_tbl ∧ goodWord (.instantiable RX0 5 : Cond) = true := gw_of (i := 107) (by decide +kernel)
theorem wz_0 : (.initialized RX0 : Cond) ∈ lw_tbl ∧ goodWord (.initialized RX0 : Cond) = true := gw_of (i := 13) (by decide +kernel)
theorem wi_1 : (.instantiable RX1 17 : Cond) ∈ lw_tbl ∧ goodWord (.instantiable RX1 17 : Cond) = true := gw_of (i := 25) (by decide +kernel)
theorem wz_1 : (.initialized RX1 : Cond) ∈ lw_tbl ∧ goodWord (.initialized RX1 : Cond) = true := gw_of (i := 11) (by decide +kernel)
theorem wi_2 : (.instantiable RX2 10 : Cond) ∈ lw_tbl ∧ goodWord (.instantiable RX2 10 : Cond) = true := gw_of (i := 17) (by decide +kernel)
theorem wz_2 : (.initialized RX2 : Cond) ∈ lw_tbl ∧ goodWord (.initialized RX2 : Cond) = true := gw_of (i := 10) (by decide +kernel)
theorem wy_int : (.arrayClass .int : Cond) ∈ lw_tbl ∧ goodWord (.arrayClass .int : Cond) = true := gw_of (i := 104) (by decide +kernel)
theorem wy_char : (.arrayClass .char : Cond) ∈ lw_tbl ∧ goodWord (.arrayClass .char : Cond) = true := gw_of (i := 127) (by decide +kernel)
theorem wy_boolean : (.arrayClass .boolean : Cond) ∈ lw_tbl ∧ goodWord (.arrayClass .boolean : Cond) = true := gw_of (i := 126) (by decide +kernel)
theorem wm_link : (.classLink RX1 30 "[[I" : Cond) ∈ lw_tbl ∧ goodWord (.classLink RX1 30 "[[I" : Cond) = true := gw_of (i := 35) (by decide +kernel)
theorem wq_link : (.classLink RX2 9 RX1 : Cond) ∈ lw_tbl ∧ goodWord (.classLink RX2 9 RX1 : Cond) = true := gw_of (i := 24) (by decide +kernel)
theorem wl_FIRST_SETTING : (.laysStatic "HandoverDesk" "FIRST_SETTING" "[I" : Cond) ∈ lw_tbl := List.mem_of_getElem? (i := 31) (by decide +kernel)
theorem wl_LEAST_SETTING : (.laysStatic "HandoverDesk" "LEAST_SETTING" "[I" : Cond) ∈ lw_tbl := List.mem_of_getElem? (i := 420) (by decide +kernel)
theorem wl_MOST_SETTING : (.laysStatic "HandoverDesk" "MOST_SETTING" "[I" : Cond) ∈ lw_tbl := List.mem_of_getElem? (i := 422) (by decide +kernel)
theorem wzz_desk : (.initialized "HandoverDesk" : Cond) ∈ lw_tbl ∧ goodWord (.initialized "HandoverDesk" : Cond) = true := gw_of (i := 10) (by decide +kernel)
theorem wnm_0 : (.methodLinkNest "HandoverDesk$State" 111 ⟨"HandoverDesk", "isSetting", "(I)Z"⟩ "HandoverDesk" : Cond) ∈ lw_tbl := List.mem_of_getElem? (i := 418) (by decide +kernel)
theorem wnm_1 : (.methodLinkNest "HandoverDesk$State" 81 ⟨"HandoverDesk", "isWorker", "(I)Z"⟩ "HandoverDesk" : Cond) ∈ lw_tbl := List.mem_of_getElem? (i := 186) (by decide +kernel)
theorem wnm_2 : (.methodLinkNest "HandoverDesk$State" 120 ⟨"HandoverDesk", "isPlace", "(I)Z"⟩ "HandoverDesk" : Cond) ∈ lw_tbl := List.mem_of_getElem? (i := 401) (by decide +kernel)
theorem wnf_0 : (.fieldLinkNest "HandoverDesk$State" 15 "HandoverDesk" "FIRST_SETTING" "[I" "HandoverDesk" : Cond) ∈ lw_tbl := List.mem_of_getElem? (i := 30) (by decide +kernel)
theorem wnf_1 : (.fieldLinkNest "HandoverDesk$State" 114 "HandoverDesk" "LEAST_SETTING" "[I" "HandoverDesk" : Cond) ∈ lw_tbl := List.mem_of_getElem? (i := 419) (by decide +kernel)
theorem wnf_2 : (.fieldLinkNest "HandoverDesk$State" 117 "HandoverDesk" "MOST_SETTING" "[I" "HandoverDesk" : Cond) ∈ lw_tbl := List.mem_of_getElem? (i := 421) (by decide +kernel)
theorem wao_i : (.arrayOver (.array .int) : Cond) ∈ lw_tbl := List.mem_of_getElem? (i := 36) (by decide +kernel)
theorem wao_s : (.arrayOver (.object RX1) : Cond) ∈ lw_tbl := List.mem_of_getElem? (i := 105) (by decide +kernel)
theorem cwd_good : ∀ K, K < 171 → goodWord (cwd K) = true := fun K _ => rfl
