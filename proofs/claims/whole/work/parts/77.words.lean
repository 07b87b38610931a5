/-! ===== every word that a call of the law's asks is among the law's tables, by its place ===== -/
theorem wm_0 : (.initialized RL : Cond) ∈ lw_tbl := List.mem_of_getElem? (i := 24) (by decide +kernel)
theorem wm_1 : (.static yL_cell : Cond) ∈ lw_tbl := List.mem_of_getElem? (i := 433) (by decide +kernel)
theorem wm_2 : (.methodLink RL 15 yL_cell : Cond) ∈ lw_tbl := List.mem_of_getElem? (i := 432) (by decide +kernel)
set_option maxRecDepth 100000 in
theorem wm_3 : (.code yL_cell cL_cell 2 (some .int) : Cond) ∈ lw_tbl := List.mem_of_getElem? (i := 434) rfl
theorem in_wsL_cell : ∀ w ∈ wsL_cell, w ∈ lw_tbl := by
  unfold wsL_cell
  exact List.forall_mem_cons.mpr ⟨wm_3, (fun _ h => absurd h List.not_mem_nil)⟩
set_option maxRecDepth 100000 in
theorem wm_4 : (.code yX5_init cX5_init 3 none : Cond) ∈ lw_tbl := List.mem_of_getElem? (i := 42) rfl
theorem wm_5 : (.arrayClass .int : Cond) ∈ lw_tbl := List.mem_of_getElem? (i := 65) (by decide +kernel)
theorem wm_6 : (.fieldLink RX5 39 "FixityRows" "collected" "LFixityRows$Octets;" : Cond) ∈ lw_tbl := List.mem_of_getElem? (i := 168) (by decide +kernel)
theorem wm_7 : (.initialized RX2 : Cond) ∈ lw_tbl := List.mem_of_getElem? (i := 29) (by decide +kernel)
theorem wm_8 : (.instantiable RX2 2 : Cond) ∈ lw_tbl := List.mem_of_getElem? (i := 81) (by decide +kernel)
theorem wm_9 : (.classLink RX5 36 RX2 : Cond) ∈ lw_tbl := List.mem_of_getElem? (i := 80) (by decide +kernel)
theorem wm_10 : (.fieldLink RX5 32 "FixityRows" "shortDigest" "LFixityRows$ShortDigest;" : Cond) ∈ lw_tbl := List.mem_of_getElem? (i := 167) (by decide +kernel)
theorem wm_11 : (.initialized RX4 : Cond) ∈ lw_tbl := List.mem_of_getElem? (i := 28) (by decide +kernel)
theorem wm_12 : (.instantiable RX4 1 : Cond) ∈ lw_tbl := List.mem_of_getElem? (i := 67) (by decide +kernel)
theorem wm_13 : (.classLink RX5 29 RX4 : Cond) ∈ lw_tbl := List.mem_of_getElem? (i := 66) (by decide +kernel)
theorem wm_14 : (.fieldLink RX5 25 "FixityRows" "longDigest" "LFixityRows$LongDigest;" : Cond) ∈ lw_tbl := List.mem_of_getElem? (i := 166) (by decide +kernel)
theorem wm_15 : (.initialized RX1 : Cond) ∈ lw_tbl := List.mem_of_getElem? (i := 27) (by decide +kernel)
theorem wm_16 : (.instantiable RX1 2 : Cond) ∈ lw_tbl := List.mem_of_getElem? (i := 53) (by decide +kernel)
theorem wm_17 : (.classLink RX5 22 RX1 : Cond) ∈ lw_tbl := List.mem_of_getElem? (i := 52) (by decide +kernel)
theorem wm_18 : (.fieldLink RX5 18 "FixityRows" "capacity" "I" : Cond) ∈ lw_tbl := List.mem_of_getElem? (i := 165) (by decide +kernel)
set_option maxRecDepth 100000 in
theorem wm_19 : (.code Lib.Math.max.name Lib.Math.max.code 2 (some .int) : Cond) ∈ lw_tbl := List.mem_of_getElem? (i := 51) rfl
theorem wm_20 : (.static Lib.Math.max.name : Cond) ∈ lw_tbl := List.mem_of_getElem? (i := 50) (by decide +kernel)
theorem wm_21 : (.methodLink RX5 15 Lib.Math.max.name : Cond) ∈ lw_tbl := List.mem_of_getElem? (i := 49) (by decide +kernel)
set_option maxRecDepth 100000 in
theorem wm_22 : (.code Lib.Math.min.name Lib.Math.min.code 2 (some .int) : Cond) ∈ lw_tbl := List.mem_of_getElem? (i := 48) rfl
theorem wm_23 : (.initialized "java/lang/Math" : Cond) ∈ lw_tbl := List.mem_of_getElem? (i := 26) (by decide +kernel)
theorem wm_24 : (.static Lib.Math.min.name : Cond) ∈ lw_tbl := List.mem_of_getElem? (i := 47) (by decide +kernel)
theorem wm_25 : (.methodLink RX5 9 Lib.Math.min.name : Cond) ∈ lw_tbl := List.mem_of_getElem? (i := 46) (by decide +kernel)
set_option maxRecDepth 100000 in
theorem wm_26 : (.code objectInit ⟨#[0xb1]⟩ 1 none : Cond) ∈ lw_tbl := List.mem_of_getElem? (i := 45) rfl
theorem wm_27 : (.instanceMethod objectInit : Cond) ∈ lw_tbl := List.mem_of_getElem? (i := 44) (by decide +kernel)
theorem wm_28 : (.methodLink RX5 1 objectInit : Cond) ∈ lw_tbl := List.mem_of_getElem? (i := 43) (by decide +kernel)
theorem in_wsX5_init_r1 : ∀ w ∈ wsX5_init_r1, w ∈ lw_tbl := by
  unfold wsX5_init_r1
  exact List.forall_mem_cons.mpr ⟨wm_28, List.forall_mem_cons.mpr ⟨wm_27, List.forall_mem_cons.mpr ⟨wm_26, List.forall_mem_cons.mpr ⟨wm_25, List.forall_mem_cons.mpr ⟨wm_24, List.forall_mem_cons.mpr ⟨wm_23, List.forall_mem_cons.mpr ⟨wm_22, List.forall_mem_cons.mpr ⟨wm_21, List.forall_mem_cons.mpr ⟨wm_20, List.forall_mem_cons.mpr ⟨wm_19, List.forall_mem_cons.mpr ⟨wm_18, List.forall_mem_cons.mpr ⟨wm_17, List.forall_mem_cons.mpr ⟨wm_16, List.forall_mem_cons.mpr ⟨wm_15, List.forall_mem_cons.mpr ⟨wm_14, List.forall_mem_cons.mpr ⟨wm_13, List.forall_mem_cons.mpr ⟨wm_12, List.forall_mem_cons.mpr ⟨wm_11, List.forall_mem_cons.mpr ⟨wm_10, List.forall_mem_cons.mpr ⟨wm_9, List.forall_mem_cons.mpr ⟨wm_8, List.forall_mem_cons.mpr ⟨wm_7, List.forall_mem_cons.mpr ⟨wm_6, List.forall_mem_cons.mpr ⟨wm_5, (fun _ h => absurd h List.not_mem_nil)⟩⟩⟩⟩⟩⟩⟩⟩⟩⟩⟩⟩⟩⟩⟩⟩⟩⟩⟩⟩⟩⟩⟩⟩
theorem wm_29 : (.methodLink RX4 13 yX4_entry : Cond) ∈ lw_tbl := List.mem_of_getElem? (i := 72) (by decide +kernel)
theorem wm_30 : (.fieldLink RX4 9 "FixityRows$ShortDigest" "table" "[I" : Cond) ∈ lw_tbl := List.mem_of_getElem? (i := 76) (by decide +kernel)
theorem wm_31 : (.methodLink RX4 1 objectInit : Cond) ∈ lw_tbl := List.mem_of_getElem? (i := 71) (by decide +kernel)
set_option maxRecDepth 100000 in
theorem wm_32 : (.code yX4_init cX4_init 2 none : Cond) ∈ lw_tbl := List.mem_of_getElem? (i := 70) rfl
theorem wm_33 : (.instanceMethod yX4_init : Cond) ∈ lw_tbl := List.mem_of_getElem? (i := 69) (by decide +kernel)
theorem wm_34 : (.methodLink RX5 31 yX4_init : Cond) ∈ lw_tbl := List.mem_of_getElem? (i := 68) (by decide +kernel)
theorem wm_35 : (.fieldLink RX1 15 "FixityRows$LongDigest" "w" "[I" : Cond) ∈ lw_tbl := List.mem_of_getElem? (i := 59) (by decide +kernel)
theorem wm_36 : (.fieldLink RX1 9 "FixityRows$LongDigest" "eight" "[I" : Cond) ∈ lw_tbl := List.mem_of_getElem? (i := 58) (by decide +kernel)
theorem wm_37 : (.methodLink RX1 3 objectInit : Cond) ∈ lw_tbl := List.mem_of_getElem? (i := 57) (by decide +kernel)
set_option maxRecDepth 100000 in
theorem wm_38 : (.code yX1_init cX1_init 1 none : Cond) ∈ lw_tbl := List.mem_of_getElem? (i := 56) rfl
theorem wm_39 : (.instanceMethod yX1_init : Cond) ∈ lw_tbl := List.mem_of_getElem? (i := 55) (by decide +kernel)
theorem wm_40 : (.fieldLink RX5 68 "FixityRows" "workedDay" "I" : Cond) ∈ lw_tbl := List.mem_of_getElem? (i := 177) (by decide +kernel)
theorem wm_41 : (.fieldLink RX5 64 "FixityRows" "checkedFits" "[Z" : Cond) ∈ lw_tbl := List.mem_of_getElem? (i := 175) (by decide +kernel)
theorem wm_42 : (.arrayClass .boolean : Cond) ∈ lw_tbl := List.mem_of_getElem? (i := 205) (by decide +kernel)
theorem wm_43 : (.fieldLink RX5 61 "FixityRows" "checkedFiles" "[I" : Cond) ∈ lw_tbl := List.mem_of_getElem? (i := 174) (by decide +kernel)
theorem wm_44 : (.fieldLink RX5 57 "FixityRows" "rows" "LFixityRows$RowChain;" : Cond) ∈ lw_tbl := List.mem_of_getElem? (i := 173) (by decide +kernel)
theorem wm_45 : (.initialized RX3 : Cond) ∈ lw_tbl := List.mem_of_getElem? (i := 31) (by decide +kernel)
theorem wm_46 : (.instantiable RX3 7 : Cond) ∈ lw_tbl := List.mem_of_getElem? (i := 132) (by decide +kernel)
theorem wm_47 : (.classLink RX5 54 RX3 : Cond) ∈ lw_tbl := List.mem_of_getElem? (i := 131) (by decide +kernel)
theorem wm_48 : (.initialized RX0 : Cond) ∈ lw_tbl := List.mem_of_getElem? (i := 30) (by decide +kernel)
theorem wm_49 : (.instantiable RX0 8 : Cond) ∈ lw_tbl := List.mem_of_getElem? (i := 95) (by decide +kernel)
theorem wm_50 : (.fieldLink RX5 49 "FixityRows" "files" "[LFixityRows$KeptFile;" : Cond) ∈ lw_tbl := List.mem_of_getElem? (i := 171) (by decide +kernel)
theorem wm_51 : (.classLink RX5 47 RX0 : Cond) ∈ lw_tbl := List.mem_of_getElem? (i := 93) (by decide +kernel)
theorem wm_52 : (.fieldLink RX5 43 "FixityRows" "latestDigest" "[I" : Cond) ∈ lw_tbl := List.mem_of_getElem? (i := 169) (by decide +kernel)
theorem in_wsX5_init_r2 : ∀ w ∈ wsX5_init_r2, w ∈ lw_tbl := by
  unfold wsX5_init_r2
  exact List.forall_mem_cons.mpr ⟨wm_52, List.forall_mem_cons.mpr ⟨wm_51, List.forall_mem_cons.mpr ⟨wm_50, List.forall_mem_cons.mpr ⟨wm_49, List.forall_mem_cons.mpr ⟨wm_48, List.forall_mem_cons.mpr ⟨wm_47, List.forall_mem_cons.mpr ⟨wm_46, List.forall_mem_cons.mpr ⟨wm_45, List.forall_mem_cons.mpr ⟨wm_44, List.forall_mem_cons.mpr ⟨wm_43, List.forall_mem_cons.mpr ⟨wm_42, List.forall_mem_cons.mpr ⟨wm_41, List.forall_mem_cons.mpr ⟨wm_40, List.forall_mem_cons.mpr ⟨wm_39, List.forall_mem_cons.mpr ⟨wm_38, List.forall_mem_cons.mpr ⟨wm_37, List.forall_mem_cons.mpr ⟨wm_36, List.forall_mem_cons.mpr ⟨wm_35, List.forall_mem_cons.mpr ⟨wm_34, List.forall_mem_cons.mpr ⟨wm_33, List.forall_mem_cons.mpr ⟨wm_32, List.forall_mem_cons.mpr ⟨wm_31, List.forall_mem_cons.mpr ⟨wm_30, List.forall_mem_cons.mpr ⟨wm_29, (fun _ h => absurd h List.not_mem_nil)⟩⟩⟩⟩⟩⟩⟩⟩⟩⟩⟩⟩⟩⟩⟩⟩⟩⟩⟩⟩⟩⟩⟩⟩
theorem wm_53 : (.fieldLink RX3 29 "FixityRows$RowChain" "fileNumbers" "[I" : Cond) ∈ lw_tbl := List.mem_of_getElem? (i := 146) (by decide +kernel)
theorem wm_54 : (.fieldLink RX3 25 "FixityRows$RowChain" "kinds" "[I" : Cond) ∈ lw_tbl := List.mem_of_getElem? (i := 145) (by decide +kernel)
theorem wm_55 : (.fieldLink RX3 21 "FixityRows$RowChain" "sealed" "LFixityRows$Octets;" : Cond) ∈ lw_tbl := List.mem_of_getElem? (i := 144) (by decide +kernel)
theorem wm_56 : (.classLink RX3 18 RX2 : Cond) ∈ lw_tbl := List.mem_of_getElem? (i := 139) (by decide +kernel)
theorem wm_57 : (.fieldLink RX3 12 "FixityRows$RowChain" "longDigest" "LFixityRows$LongDigest;" : Cond) ∈ lw_tbl := List.mem_of_getElem? (i := 143) (by decide +kernel)
theorem wm_58 : (.classLink RX3 9 RX1 : Cond) ∈ lw_tbl := List.mem_of_getElem? (i := 137) (by decide +kernel)
theorem wm_59 : (.methodLink RX3 3 objectInit : Cond) ∈ lw_tbl := List.mem_of_getElem? (i := 136) (by decide +kernel)
set_option maxRecDepth 100000 in
theorem wm_60 : (.code yX3_init cX3_init 1 none : Cond) ∈ lw_tbl := List.mem_of_getElem? (i := 135) rfl
theorem wm_61 : (.instanceMethod yX3_init : Cond) ∈ lw_tbl := List.mem_of_getElem? (i := 134) (by decide +kernel)
theorem wm_62 : (.fieldLink RX0 26 "FixityRows$KeptFile" "nextDay" "I" : Cond) ∈ lw_tbl := List.mem_of_getElem? (i := 110) (by decide +kernel)
theorem wm_63 : (.fieldLink RX0 22 "FixityRows$KeptFile" "fittedDay" "I" : Cond) ∈ lw_tbl := List.mem_of_getElem? (i := 108) (by decide +kernel)
theorem wm_64 : (.fieldLink RX0 18 "FixityRows$KeptFile" "longWords" "[I" : Cond) ∈ lw_tbl := List.mem_of_getElem? (i := 104) (by decide +kernel)
theorem wm_65 : (.fieldLink RX0 12 "FixityRows$KeptFile" "octets" "LFixityRows$Octets;" : Cond) ∈ lw_tbl := List.mem_of_getElem? (i := 102) (by decide +kernel)
theorem wm_66 : (.classLink RX0 9 RX2 : Cond) ∈ lw_tbl := List.mem_of_getElem? (i := 100) (by decide +kernel)
theorem wm_67 : (.methodLink RX0 3 objectInit : Cond) ∈ lw_tbl := List.mem_of_getElem? (i := 99) (by decide +kernel)
set_option maxRecDepth 100000 in
theorem wm_68 : (.code yX0_init cX0_init 1 none : Cond) ∈ lw_tbl := List.mem_of_getElem? (i := 98) rfl
theorem wm_69 : (.instanceMethod yX0_init : Cond) ∈ lw_tbl := List.mem_of_getElem? (i := 97) (by decide +kernel)
theorem wm_70 : (.fieldLink RX2 9 "FixityRows$Octets" "values" "[I" : Cond) ∈ lw_tbl := List.mem_of_getElem? (i := 86) (by decide +kernel)
theorem wm_71 : (.methodLink RX2 3 objectInit : Cond) ∈ lw_tbl := List.mem_of_getElem? (i := 85) (by decide +kernel)
set_option maxRecDepth 100000 in
theorem wm_72 : (.code yX2_init cX2_init 1 none : Cond) ∈ lw_tbl := List.mem_of_getElem? (i := 84) rfl
theorem wm_73 : (.instanceMethod yX2_init : Cond) ∈ lw_tbl := List.mem_of_getElem? (i := 83) (by decide +kernel)
theorem wm_74 : (.constant RX4 26 (-306674912) : Cond) ∈ lw_tbl := List.mem_of_getElem? (i := 75) (by decide +kernel)
set_option maxRecDepth 100000 in
theorem wm_75 : (.code yX4_entry cX4_entry 4 (some .int) : Cond) ∈ lw_tbl := List.mem_of_getElem? (i := 74) rfl
theorem wm_76 : (.static yX4_entry : Cond) ∈ lw_tbl := List.mem_of_getElem? (i := 73) (by decide +kernel)
theorem in_wsX5_init_r3 : ∀ w ∈ wsX5_init_r3, w ∈ lw_tbl := by
  unfold wsX5_init_r3
  exact List.forall_mem_cons.mpr ⟨wm_76, List.forall_mem_cons.mpr ⟨wm_75, List.forall_mem_cons.mpr ⟨wm_74, List.forall_mem_cons.mpr ⟨wm_73, List.forall_mem_cons.mpr ⟨wm_72, List.forall_mem_cons.mpr ⟨wm_71, List.forall_mem_cons.mpr ⟨wm_70, List.forall_mem_cons.mpr ⟨wm_69, List.forall_mem_cons.mpr ⟨wm_68, List.forall_mem_cons.mpr ⟨wm_67, List.forall_mem_cons.mpr ⟨wm_66, List.forall_mem_cons.mpr ⟨wm_65, List.forall_mem_cons.mpr ⟨wm_64, List.forall_mem_cons.mpr ⟨wm_63, List.forall_mem_cons.mpr ⟨wm_62, List.forall_mem_cons.mpr ⟨wm_61, List.forall_mem_cons.mpr ⟨wm_60, List.forall_mem_cons.mpr ⟨wm_59, List.forall_mem_cons.mpr ⟨wm_58, List.forall_mem_cons.mpr ⟨wm_57, List.forall_mem_cons.mpr ⟨wm_56, List.forall_mem_cons.mpr ⟨wm_55, List.forall_mem_cons.mpr ⟨wm_54, List.forall_mem_cons.mpr ⟨wm_53, (fun _ h => absurd h List.not_mem_nil)⟩⟩⟩⟩⟩⟩⟩⟩⟩⟩⟩⟩⟩⟩⟩⟩⟩⟩⟩⟩⟩⟩⟩⟩
theorem wm_77 : (.fieldLink RX3 37 "FixityRows$RowChain" "digests" "[[I" : Cond) ∈ lw_tbl := List.mem_of_getElem? (i := 148) (by decide +kernel)
theorem wm_78 : (.classLink RX3 35 "[[I" : Cond) ∈ lw_tbl := List.mem_of_getElem? (i := 141) (by decide +kernel)
theorem wm_79 : (.fieldLink RX3 32 "FixityRows$RowChain" "days" "[I" : Cond) ∈ lw_tbl := List.mem_of_getElem? (i := 147) (by decide +kernel)
theorem in_wsX5_init_r4 : ∀ w ∈ wsX5_init_r4, w ∈ lw_tbl := by
  unfold wsX5_init_r4
  exact List.forall_mem_cons.mpr ⟨wm_79, List.forall_mem_cons.mpr ⟨wm_78, List.forall_mem_cons.mpr ⟨wm_77, (fun _ h => absurd h List.not_mem_nil)⟩⟩⟩
theorem in_wsX50 : ∀ w ∈ wsX50, w ∈ lw_tbl := by
  intro w h
  obtain ⟨k, hk, rfl⟩ := List.mem_map.mp h
  rw [List.mem_range] at hk
  rcases (show k = 0 ∨ k = 1 ∨ k = 2 ∨ k = 3 ∨ k = 4 ∨ k = 5 ∨ k = 6 ∨ k = 7 ∨ k = 8 ∨ k = 9 ∨ k = 10 ∨ k = 11 ∨ k = 12 by omega) with rfl | rfl | rfl | rfl | rfl | rfl | rfl | rfl | rfl | rfl | rfl | rfl | rfl
  · exact List.mem_of_getElem? (i := 178) (by decide +kernel)
  · exact List.mem_of_getElem? (i := 180) (by decide +kernel)
  · exact List.mem_of_getElem? (i := 182) (by decide +kernel)
  · exact List.mem_of_getElem? (i := 184) (by decide +kernel)
  · exact List.mem_of_getElem? (i := 186) (by decide +kernel)
  · exact List.mem_of_getElem? (i := 188) (by decide +kernel)
  · exact List.mem_of_getElem? (i := 190) (by decide +kernel)
  · exact List.mem_of_getElem? (i := 192) (by decide +kernel)
  · exact List.mem_of_getElem? (i := 194) (by decide +kernel)
  · exact List.mem_of_getElem? (i := 196) (by decide +kernel)
  · exact List.mem_of_getElem? (i := 198) (by decide +kernel)
  · exact List.mem_of_getElem? (i := 200) (by decide +kernel)
  · exact List.mem_of_getElem? (i := 202) (by decide +kernel)
theorem in_wsX10 : ∀ w ∈ wsX10, w ∈ lw_tbl := by
  intro w h
  obtain ⟨k, hk, rfl⟩ := List.mem_map.mp h
  rw [List.mem_range] at hk
  rcases (show k = 0 ∨ k = 1 by omega) with rfl | rfl
  · exact List.mem_of_getElem? (i := 60) (by decide +kernel)
  · exact List.mem_of_getElem? (i := 62) (by decide +kernel)
theorem in_wsX40 : ∀ w ∈ wsX40, w ∈ lw_tbl := by
  intro w h
  obtain ⟨k, hk, rfl⟩ := List.mem_map.mp h
  rw [List.mem_range] at hk
  rcases (show k = 0 by omega) with rfl
  · exact List.mem_of_getElem? (i := 77) (by decide +kernel)
theorem in_wsX20 : ∀ w ∈ wsX20, w ∈ lw_tbl := by
  intro w h
  obtain ⟨k, hk, rfl⟩ := List.mem_map.mp h
  rw [List.mem_range] at hk
  rcases (show k = 0 ∨ k = 1 by omega) with rfl | rfl
  · exact List.mem_of_getElem? (i := 88) (by decide +kernel)
  · exact List.mem_of_getElem? (i := 90) (by decide +kernel)
theorem in_wsX00 : ∀ w ∈ wsX00, w ∈ lw_tbl := by
  intro w h
  obtain ⟨k, hk, rfl⟩ := List.mem_map.mp h
  rw [List.mem_range] at hk
  rcases (show k = 0 ∨ k = 1 ∨ k = 2 ∨ k = 3 ∨ k = 4 ∨ k = 5 ∨ k = 6 ∨ k = 7 by omega) with rfl | rfl | rfl | rfl | rfl | rfl | rfl | rfl
  · exact List.mem_of_getElem? (i := 114) (by decide +kernel)
  · exact List.mem_of_getElem? (i := 116) (by decide +kernel)
  · exact List.mem_of_getElem? (i := 118) (by decide +kernel)
  · exact List.mem_of_getElem? (i := 120) (by decide +kernel)
  · exact List.mem_of_getElem? (i := 122) (by decide +kernel)
  · exact List.mem_of_getElem? (i := 124) (by decide +kernel)
  · exact List.mem_of_getElem? (i := 126) (by decide +kernel)
  · exact List.mem_of_getElem? (i := 128) (by decide +kernel)
theorem in_wsX30 : ∀ w ∈ wsX30, w ∈ lw_tbl := by
  intro w h
  obtain ⟨k, hk, rfl⟩ := List.mem_map.mp h
  rw [List.mem_range] at hk
  rcases (show k = 0 ∨ k = 1 ∨ k = 2 ∨ k = 3 ∨ k = 4 ∨ k = 5 ∨ k = 6 by omega) with rfl | rfl | rfl | rfl | rfl | rfl | rfl
  · exact List.mem_of_getElem? (i := 150) (by decide +kernel)
  · exact List.mem_of_getElem? (i := 152) (by decide +kernel)
  · exact List.mem_of_getElem? (i := 154) (by decide +kernel)
  · exact List.mem_of_getElem? (i := 156) (by decide +kernel)
  · exact List.mem_of_getElem? (i := 158) (by decide +kernel)
  · exact List.mem_of_getElem? (i := 160) (by decide +kernel)
  · exact List.mem_of_getElem? (i := 162) (by decide +kernel)
theorem in_wsX5_init : ∀ w ∈ wsX5_init, w ∈ lw_tbl := by
  unfold wsX5_init
  exact List.forall_mem_cons.mpr ⟨wm_4, List.forall_mem_append.mpr ⟨List.forall_mem_append.mpr ⟨List.forall_mem_append.mpr ⟨List.forall_mem_append.mpr ⟨List.forall_mem_append.mpr ⟨List.forall_mem_append.mpr ⟨List.forall_mem_append.mpr ⟨in_wsX5_init_r1, List.forall_mem_append.mpr ⟨in_wsX5_init_r2, List.forall_mem_append.mpr ⟨in_wsX5_init_r3, in_wsX5_init_r4⟩⟩⟩, in_wsX50⟩, in_wsX10⟩, in_wsX40⟩, in_wsX20⟩, in_wsX00⟩, in_wsX30⟩⟩
set_option maxRecDepth 100000 in
theorem wm_80 : (.code yX6_init cX6_init 3 none : Cond) ∈ lw_tbl := List.mem_of_getElem? (i := 518) rfl
theorem wm_81 : (.fieldLink RX6 64 "FixityRowsModel" "buffer" "[B" : Cond) ∈ lw_tbl := List.mem_of_getElem? (i := 617) (by decide +kernel)
theorem wm_82 : (.fieldLink RX6 61 "FixityRowsModel" "show" "[B" : Cond) ∈ lw_tbl := List.mem_of_getElem? (i := 615) (by decide +kernel)
theorem wm_83 : (.fieldLink RX6 58 "FixityRowsModel" "rowDigest" "[B" : Cond) ∈ lw_tbl := List.mem_of_getElem? (i := 613) (by decide +kernel)
theorem wm_84 : (.fieldLink RX6 55 "FixityRowsModel" "rowDay" "[I" : Cond) ∈ lw_tbl := List.mem_of_getElem? (i := 612) (by decide +kernel)
theorem wm_85 : (.fieldLink RX6 52 "FixityRowsModel" "rowFile" "[I" : Cond) ∈ lw_tbl := List.mem_of_getElem? (i := 611) (by decide +kernel)
theorem wm_86 : (.fieldLink RX6 49 "FixityRowsModel" "rowWhat" "[I" : Cond) ∈ lw_tbl := List.mem_of_getElem? (i := 610) (by decide +kernel)
theorem wm_87 : (.fieldLink RX6 45 "FixityRowsModel" "toldFits" "[Z" : Cond) ∈ lw_tbl := List.mem_of_getElem? (i := 608) (by decide +kernel)
theorem wm_88 : (.fieldLink RX6 42 "FixityRowsModel" "toldFile" "[I" : Cond) ∈ lw_tbl := List.mem_of_getElem? (i := 607) (by decide +kernel)
theorem wm_89 : (.fieldLink RX6 38 "FixityRowsModel" "worked" "I" : Cond) ∈ lw_tbl := List.mem_of_getElem? (i := 605) (by decide +kernel)
theorem wm_90 : (.fieldLink RX6 35 "FixityRowsModel" "span" "[I" : Cond) ∈ lw_tbl := List.mem_of_getElem? (i := 604) (by decide +kernel)
theorem wm_91 : (.fieldLink RX6 32 "FixityRowsModel" "due" "[I" : Cond) ∈ lw_tbl := List.mem_of_getElem? (i := 603) (by decide +kernel)
theorem wm_92 : (.fieldLink RX6 29 "FixityRowsModel" "mended" "[I" : Cond) ∈ lw_tbl := List.mem_of_getElem? (i := 602) (by decide +kernel)
theorem wm_93 : (.fieldLink RX6 26 "FixityRowsModel" "fitted" "[I" : Cond) ∈ lw_tbl := List.mem_of_getElem? (i := 601) (by decide +kernel)
theorem wm_94 : (.fieldLink RX6 23 "FixityRowsModel" "wanted" "[B" : Cond) ∈ lw_tbl := List.mem_of_getElem? (i := 600) (by decide +kernel)
theorem wm_95 : (.fieldLink RX6 20 "FixityRowsModel" "algorithms" "[I" : Cond) ∈ lw_tbl := List.mem_of_getElem? (i := 599) (by decide +kernel)
theorem wm_96 : (.fieldLink RX6 16 "FixityRowsModel" "size" "[I" : Cond) ∈ lw_tbl := List.mem_of_getElem? (i := 598) (by decide +kernel)
theorem wm_97 : (.fieldLink RX6 13 "FixityRowsModel" "bytes" "[B" : Cond) ∈ lw_tbl := List.mem_of_getElem? (i := 597) (by decide +kernel)
theorem wm_98 : (.fieldLink RX6 7 "FixityRowsModel" "said" "[B" : Cond) ∈ lw_tbl := List.mem_of_getElem? (i := 595) (by decide +kernel)
theorem wm_99 : (.arrayClass .byte : Cond) ∈ lw_tbl := List.mem_of_getElem? (i := 513) (by decide +kernel)
theorem wm_100 : (.methodLink RX6 1 objectInit : Cond) ∈ lw_tbl := List.mem_of_getElem? (i := 519) (by decide +kernel)
theorem in_wsX6_init_r1 : ∀ w ∈ wsX6_init_r1, w ∈ lw_tbl := by
  unfold wsX6_init_r1
  exact List.forall_mem_cons.mpr ⟨wm_100, List.forall_mem_cons.mpr ⟨wm_27, List.forall_mem_cons.mpr ⟨wm_26, List.forall_mem_cons.mpr ⟨wm_99, List.forall_mem_cons.mpr ⟨wm_98, List.forall_mem_cons.mpr ⟨wm_97, List.forall_mem_cons.mpr ⟨wm_5, List.forall_mem_cons.mpr ⟨wm_96, List.forall_mem_cons.mpr ⟨wm_95, List.forall_mem_cons.mpr ⟨wm_94, List.forall_mem_cons.mpr ⟨wm_93, List.forall_mem_cons.mpr ⟨wm_92, List.forall_mem_cons.mpr ⟨wm_91, List.forall_mem_cons.mpr ⟨wm_90, List.forall_mem_cons.mpr ⟨wm_89, List.forall_mem_cons.mpr ⟨wm_88, List.forall_mem_cons.mpr ⟨wm_42, List.forall_mem_cons.mpr ⟨wm_87, List.forall_mem_cons.mpr ⟨wm_86, List.forall_mem_cons.mpr ⟨wm_85, List.forall_mem_cons.mpr ⟨wm_84, List.forall_mem_cons.mpr ⟨wm_83, List.forall_mem_cons.mpr ⟨wm_82, List.forall_mem_cons.mpr ⟨wm_81, (fun _ h => absurd h List.not_mem_nil)⟩⟩⟩⟩⟩⟩⟩⟩⟩⟩⟩⟩⟩⟩⟩⟩⟩⟩⟩⟩⟩⟩⟩⟩
theorem wm_101 : (.constant RX6 100 (607225278) : Cond) ∈ lw_tbl := List.mem_of_getElem? (i := 538) (by decide +kernel)
theorem wm_102 : (.constant RX6 99 (310598401) : Cond) ∈ lw_tbl := List.mem_of_getElem? (i := 537) (by decide +kernel)
theorem wm_103 : (.constant RX6 98 (-670586216) : Cond) ∈ lw_tbl := List.mem_of_getElem? (i := 536) (by decide +kernel)
theorem wm_104 : (.constant RX6 97 (-1424204075) : Cond) ∈ lw_tbl := List.mem_of_getElem? (i := 535) (by decide +kernel)
theorem wm_105 : (.constant RX6 96 (-1841331548) : Cond) ∈ lw_tbl := List.mem_of_getElem? (i := 534) (by decide +kernel)
theorem wm_106 : (.constant RX6 95 (1508970993) : Cond) ∈ lw_tbl := List.mem_of_getElem? (i := 533) (by decide +kernel)
theorem wm_107 : (.constant RX6 94 (961987163) : Cond) ∈ lw_tbl := List.mem_of_getElem? (i := 532) (by decide +kernel)
theorem wm_108 : (.constant RX6 93 (-373957723) : Cond) ∈ lw_tbl := List.mem_of_getElem? (i := 531) (by decide +kernel)
theorem wm_109 : (.constant RX6 92 (-1245643825) : Cond) ∈ lw_tbl := List.mem_of_getElem? (i := 530) (by decide +kernel)
theorem wm_110 : (.constant RX6 91 (1899447441) : Cond) ∈ lw_tbl := List.mem_of_getElem? (i := 529) (by decide +kernel)
theorem wm_111 : (.constant RX6 90 (1116352408) : Cond) ∈ lw_tbl := List.mem_of_getElem? (i := 528) (by decide +kernel)
theorem wm_112 : (.fieldLink RX6 87 "FixityRowsModel" "begins" "[I" : Cond) ∈ lw_tbl := List.mem_of_getElem? (i := 622) (by decide +kernel)
theorem wm_113 : (.constant RX6 86 (1541459225) : Cond) ∈ lw_tbl := List.mem_of_getElem? (i := 527) (by decide +kernel)
theorem wm_114 : (.constant RX6 85 (528734635) : Cond) ∈ lw_tbl := List.mem_of_getElem? (i := 526) (by decide +kernel)
theorem wm_115 : (.constant RX6 84 (-1694144372) : Cond) ∈ lw_tbl := List.mem_of_getElem? (i := 525) (by decide +kernel)
theorem wm_116 : (.constant RX6 83 (1359893119) : Cond) ∈ lw_tbl := List.mem_of_getElem? (i := 524) (by decide +kernel)
theorem wm_117 : (.constant RX6 82 (-1521486534) : Cond) ∈ lw_tbl := List.mem_of_getElem? (i := 523) (by decide +kernel)
theorem wm_118 : (.constant RX6 81 (1013904242) : Cond) ∈ lw_tbl := List.mem_of_getElem? (i := 522) (by decide +kernel)
theorem wm_119 : (.constant RX6 80 (-1150833019) : Cond) ∈ lw_tbl := List.mem_of_getElem? (i := 521) (by decide +kernel)
theorem wm_120 : (.constant RX6 79 (1779033703) : Cond) ∈ lw_tbl := List.mem_of_getElem? (i := 520) (by decide +kernel)
theorem wm_121 : (.fieldLink RX6 76 "FixityRowsModel" "v" "[I" : Cond) ∈ lw_tbl := List.mem_of_getElem? (i := 621) (by decide +kernel)
theorem wm_122 : (.fieldLink RX6 73 "FixityRowsModel" "h" "[I" : Cond) ∈ lw_tbl := List.mem_of_getElem? (i := 620) (by decide +kernel)
theorem wm_123 : (.fieldLink RX6 70 "FixityRowsModel" "w" "[I" : Cond) ∈ lw_tbl := List.mem_of_getElem? (i := 619) (by decide +kernel)
theorem wm_124 : (.fieldLink RX6 67 "FixityRowsModel" "made" "[B" : Cond) ∈ lw_tbl := List.mem_of_getElem? (i := 618) (by decide +kernel)
theorem in_wsX6_init_r2 : ∀ w ∈ wsX6_init_r2, w ∈ lw_tbl := by
  unfold wsX6_init_r2
  exact List.forall_mem_cons.mpr ⟨wm_124, List.forall_mem_cons.mpr ⟨wm_123, List.forall_mem_cons.mpr ⟨wm_122, List.forall_mem_cons.mpr ⟨wm_121, List.forall_mem_cons.mpr ⟨wm_120, List.forall_mem_cons.mpr ⟨wm_119, List.forall_mem_cons.mpr ⟨wm_118, List.forall_mem_cons.mpr ⟨wm_117, List.forall_mem_cons.mpr ⟨wm_116, List.forall_mem_cons.mpr ⟨wm_115, List.forall_mem_cons.mpr ⟨wm_114, List.forall_mem_cons.mpr ⟨wm_113, List.forall_mem_cons.mpr ⟨wm_112, List.forall_mem_cons.mpr ⟨wm_111, List.forall_mem_cons.mpr ⟨wm_110, List.forall_mem_cons.mpr ⟨wm_109, List.forall_mem_cons.mpr ⟨wm_108, List.forall_mem_cons.mpr ⟨wm_107, List.forall_mem_cons.mpr ⟨wm_106, List.forall_mem_cons.mpr ⟨wm_105, List.forall_mem_cons.mpr ⟨wm_104, List.forall_mem_cons.mpr ⟨wm_103, List.forall_mem_cons.mpr ⟨wm_102, List.forall_mem_cons.mpr ⟨wm_101, (fun _ h => absurd h List.not_mem_nil)⟩⟩⟩⟩⟩⟩⟩⟩⟩⟩⟩⟩⟩⟩⟩⟩⟩⟩⟩⟩⟩⟩⟩⟩
theorem wm_125 : (.constant RX6 124 (1294757372) : Cond) ∈ lw_tbl := List.mem_of_getElem? (i := 562) (by decide +kernel)
theorem wm_126 : (.constant RX6 123 (773529912) : Cond) ∈ lw_tbl := List.mem_of_getElem? (i := 561) (by decide +kernel)
theorem wm_127 : (.constant RX6 122 (666307205) : Cond) ∈ lw_tbl := List.mem_of_getElem? (i := 560) (by decide +kernel)
theorem wm_128 : (.constant RX6 121 (338241895) : Cond) ∈ lw_tbl := List.mem_of_getElem? (i := 559) (by decide +kernel)
theorem wm_129 : (.constant RX6 120 (113926993) : Cond) ∈ lw_tbl := List.mem_of_getElem? (i := 558) (by decide +kernel)
theorem wm_130 : (.constant RX6 119 (-710438585) : Cond) ∈ lw_tbl := List.mem_of_getElem? (i := 557) (by decide +kernel)
theorem wm_131 : (.constant RX6 118 (-958395405) : Cond) ∈ lw_tbl := List.mem_of_getElem? (i := 556) (by decide +kernel)
theorem wm_132 : (.constant RX6 117 (-1084653625) : Cond) ∈ lw_tbl := List.mem_of_getElem? (i := 555) (by decide +kernel)
theorem wm_133 : (.constant RX6 116 (-1341970488) : Cond) ∈ lw_tbl := List.mem_of_getElem? (i := 554) (by decide +kernel)
theorem wm_134 : (.constant RX6 115 (-1473132947) : Cond) ∈ lw_tbl := List.mem_of_getElem? (i := 553) (by decide +kernel)
theorem wm_135 : (.constant RX6 114 (-1740746414) : Cond) ∈ lw_tbl := List.mem_of_getElem? (i := 552) (by decide +kernel)
theorem wm_136 : (.constant RX6 113 (1996064986) : Cond) ∈ lw_tbl := List.mem_of_getElem? (i := 551) (by decide +kernel)
theorem wm_137 : (.constant RX6 112 (1555081692) : Cond) ∈ lw_tbl := List.mem_of_getElem? (i := 550) (by decide +kernel)
theorem wm_138 : (.constant RX6 111 (1249150122) : Cond) ∈ lw_tbl := List.mem_of_getElem? (i := 549) (by decide +kernel)
theorem wm_139 : (.constant RX6 110 (770255983) : Cond) ∈ lw_tbl := List.mem_of_getElem? (i := 548) (by decide +kernel)
theorem wm_140 : (.constant RX6 109 (604807628) : Cond) ∈ lw_tbl := List.mem_of_getElem? (i := 547) (by decide +kernel)
theorem wm_141 : (.constant RX6 108 (264347078) : Cond) ∈ lw_tbl := List.mem_of_getElem? (i := 546) (by decide +kernel)
theorem wm_142 : (.constant RX6 107 (-272742522) : Cond) ∈ lw_tbl := List.mem_of_getElem? (i := 545) (by decide +kernel)
theorem wm_143 : (.constant RX6 106 (-459576895) : Cond) ∈ lw_tbl := List.mem_of_getElem? (i := 544) (by decide +kernel)
theorem wm_144 : (.constant RX6 105 (-1046744716) : Cond) ∈ lw_tbl := List.mem_of_getElem? (i := 543) (by decide +kernel)
theorem wm_145 : (.constant RX6 104 (-1680079193) : Cond) ∈ lw_tbl := List.mem_of_getElem? (i := 542) (by decide +kernel)
theorem wm_146 : (.constant RX6 103 (-2132889090) : Cond) ∈ lw_tbl := List.mem_of_getElem? (i := 541) (by decide +kernel)
theorem wm_147 : (.constant RX6 102 (1925078388) : Cond) ∈ lw_tbl := List.mem_of_getElem? (i := 540) (by decide +kernel)
theorem wm_148 : (.constant RX6 101 (1426881987) : Cond) ∈ lw_tbl := List.mem_of_getElem? (i := 539) (by decide +kernel)
theorem in_wsX6_init_r3 : ∀ w ∈ wsX6_init_r3, w ∈ lw_tbl := by
  unfold wsX6_init_r3
  exact List.forall_mem_cons.mpr ⟨wm_148, List.forall_mem_cons.mpr ⟨wm_147, List.forall_mem_cons.mpr ⟨wm_146, List.forall_mem_cons.mpr ⟨wm_145, List.forall_mem_cons.mpr ⟨wm_144, List.forall_mem_cons.mpr ⟨wm_143, List.forall_mem_cons.mpr ⟨wm_142, List.forall_mem_cons.mpr ⟨wm_141, List.forall_mem_cons.mpr ⟨wm_140, List.forall_mem_cons.mpr ⟨wm_139, List.forall_mem_cons.mpr ⟨wm_138, List.forall_mem_cons.mpr ⟨wm_137, List.forall_mem_cons.mpr ⟨wm_136, List.forall_mem_cons.mpr ⟨wm_135, List.forall_mem_cons.mpr ⟨wm_134, List.forall_mem_cons.mpr ⟨wm_133, List.forall_mem_cons.mpr ⟨wm_132, List.forall_mem_cons.mpr ⟨wm_131, List.forall_mem_cons.mpr ⟨wm_130, List.forall_mem_cons.mpr ⟨wm_129, List.forall_mem_cons.mpr ⟨wm_128, List.forall_mem_cons.mpr ⟨wm_127, List.forall_mem_cons.mpr ⟨wm_126, List.forall_mem_cons.mpr ⟨wm_125, (fun _ h => absurd h List.not_mem_nil)⟩⟩⟩⟩⟩⟩⟩⟩⟩⟩⟩⟩⟩⟩⟩⟩⟩⟩⟩⟩⟩⟩⟩⟩
theorem wm_149 : (.constant RX6 148 (-2067236844) : Cond) ∈ lw_tbl := List.mem_of_getElem? (i := 586) (by decide +kernel)
theorem wm_150 : (.constant RX6 147 (2024104815) : Cond) ∈ lw_tbl := List.mem_of_getElem? (i := 585) (by decide +kernel)
theorem wm_151 : (.constant RX6 146 (1955562222) : Cond) ∈ lw_tbl := List.mem_of_getElem? (i := 584) (by decide +kernel)
theorem wm_152 : (.constant RX6 145 (1747873779) : Cond) ∈ lw_tbl := List.mem_of_getElem? (i := 583) (by decide +kernel)
theorem wm_153 : (.constant RX6 144 (1537002063) : Cond) ∈ lw_tbl := List.mem_of_getElem? (i := 582) (by decide +kernel)
theorem wm_154 : (.constant RX6 143 (1322822218) : Cond) ∈ lw_tbl := List.mem_of_getElem? (i := 581) (by decide +kernel)
theorem wm_155 : (.constant RX6 142 (958139571) : Cond) ∈ lw_tbl := List.mem_of_getElem? (i := 580) (by decide +kernel)
theorem wm_156 : (.constant RX6 141 (883997877) : Cond) ∈ lw_tbl := List.mem_of_getElem? (i := 579) (by decide +kernel)
theorem wm_157 : (.constant RX6 140 (659060556) : Cond) ∈ lw_tbl := List.mem_of_getElem? (i := 578) (by decide +kernel)
theorem wm_158 : (.constant RX6 139 (506948616) : Cond) ∈ lw_tbl := List.mem_of_getElem? (i := 577) (by decide +kernel)
theorem wm_159 : (.constant RX6 138 (430227734) : Cond) ∈ lw_tbl := List.mem_of_getElem? (i := 576) (by decide +kernel)
theorem wm_160 : (.constant RX6 137 (275423344) : Cond) ∈ lw_tbl := List.mem_of_getElem? (i := 575) (by decide +kernel)
theorem wm_161 : (.constant RX6 136 (-200395387) : Cond) ∈ lw_tbl := List.mem_of_getElem? (i := 574) (by decide +kernel)
theorem wm_162 : (.constant RX6 135 (-694614492) : Cond) ∈ lw_tbl := List.mem_of_getElem? (i := 573) (by decide +kernel)
theorem wm_163 : (.constant RX6 134 (-778901479) : Cond) ∈ lw_tbl := List.mem_of_getElem? (i := 572) (by decide +kernel)
theorem wm_164 : (.constant RX6 133 (-949202525) : Cond) ∈ lw_tbl := List.mem_of_getElem? (i := 571) (by decide +kernel)
theorem wm_165 : (.constant RX6 132 (-1035236496) : Cond) ∈ lw_tbl := List.mem_of_getElem? (i := 570) (by decide +kernel)
theorem wm_166 : (.constant RX6 131 (-1474664885) : Cond) ∈ lw_tbl := List.mem_of_getElem? (i := 569) (by decide +kernel)
theorem wm_167 : (.constant RX6 130 (-1564481375) : Cond) ∈ lw_tbl := List.mem_of_getElem? (i := 568) (by decide +kernel)
theorem wm_168 : (.constant RX6 129 (-1838011259) : Cond) ∈ lw_tbl := List.mem_of_getElem? (i := 567) (by decide +kernel)
theorem wm_169 : (.constant RX6 128 (-2117940946) : Cond) ∈ lw_tbl := List.mem_of_getElem? (i := 566) (by decide +kernel)
theorem wm_170 : (.constant RX6 127 (1986661051) : Cond) ∈ lw_tbl := List.mem_of_getElem? (i := 565) (by decide +kernel)
theorem wm_171 : (.constant RX6 126 (1695183700) : Cond) ∈ lw_tbl := List.mem_of_getElem? (i := 564) (by decide +kernel)
theorem wm_172 : (.constant RX6 125 (1396182291) : Cond) ∈ lw_tbl := List.mem_of_getElem? (i := 563) (by decide +kernel)
theorem in_wsX6_init_r4 : ∀ w ∈ wsX6_init_r4, w ∈ lw_tbl := by
  unfold wsX6_init_r4
  exact List.forall_mem_cons.mpr ⟨wm_172, List.forall_mem_cons.mpr ⟨wm_171, List.forall_mem_cons.mpr ⟨wm_170, List.forall_mem_cons.mpr ⟨wm_169, List.forall_mem_cons.mpr ⟨wm_168, List.forall_mem_cons.mpr ⟨wm_167, List.forall_mem_cons.mpr ⟨wm_166, List.forall_mem_cons.mpr ⟨wm_165, List.forall_mem_cons.mpr ⟨wm_164, List.forall_mem_cons.mpr ⟨wm_163, List.forall_mem_cons.mpr ⟨wm_162, List.forall_mem_cons.mpr ⟨wm_161, List.forall_mem_cons.mpr ⟨wm_160, List.forall_mem_cons.mpr ⟨wm_159, List.forall_mem_cons.mpr ⟨wm_158, List.forall_mem_cons.mpr ⟨wm_157, List.forall_mem_cons.mpr ⟨wm_156, List.forall_mem_cons.mpr ⟨wm_155, List.forall_mem_cons.mpr ⟨wm_154, List.forall_mem_cons.mpr ⟨wm_153, List.forall_mem_cons.mpr ⟨wm_152, List.forall_mem_cons.mpr ⟨wm_151, List.forall_mem_cons.mpr ⟨wm_150, List.forall_mem_cons.mpr ⟨wm_149, (fun _ h => absurd h List.not_mem_nil)⟩⟩⟩⟩⟩⟩⟩⟩⟩⟩⟩⟩⟩⟩⟩⟩⟩⟩⟩⟩⟩⟩⟩⟩
theorem wm_173 : (.fieldLink RX6 157 "FixityRowsModel" "capacity" "I" : Cond) ∈ lw_tbl := List.mem_of_getElem? (i := 593) (by decide +kernel)
theorem wm_174 : (.fieldLink RX6 154 "FixityRowsModel" "adds" "[I" : Cond) ∈ lw_tbl := List.mem_of_getElem? (i := 623) (by decide +kernel)
theorem wm_175 : (.constant RX6 153 (-965641998) : Cond) ∈ lw_tbl := List.mem_of_getElem? (i := 591) (by decide +kernel)
theorem wm_176 : (.constant RX6 152 (-1090935817) : Cond) ∈ lw_tbl := List.mem_of_getElem? (i := 590) (by decide +kernel)
theorem wm_177 : (.constant RX6 151 (-1538233109) : Cond) ∈ lw_tbl := List.mem_of_getElem? (i := 589) (by decide +kernel)
theorem wm_178 : (.constant RX6 150 (-1866530822) : Cond) ∈ lw_tbl := List.mem_of_getElem? (i := 588) (by decide +kernel)
theorem wm_179 : (.constant RX6 149 (-1933114872) : Cond) ∈ lw_tbl := List.mem_of_getElem? (i := 587) (by decide +kernel)
theorem in_wsX6_init_r5 : ∀ w ∈ wsX6_init_r5, w ∈ lw_tbl := by
  unfold wsX6_init_r5
  exact List.forall_mem_cons.mpr ⟨wm_179, List.forall_mem_cons.mpr ⟨wm_178, List.forall_mem_cons.mpr ⟨wm_177, List.forall_mem_cons.mpr ⟨wm_176, List.forall_mem_cons.mpr ⟨wm_175, List.forall_mem_cons.mpr ⟨wm_174, List.forall_mem_cons.mpr ⟨wm_173, (fun _ h => absurd h List.not_mem_nil)⟩⟩⟩⟩⟩⟩⟩
theorem in_wsX60 : ∀ w ∈ wsX60, w ∈ lw_tbl := by
  intro w h
  obtain ⟨k, hk, rfl⟩ := List.mem_map.mp h
  rw [List.mem_range] at hk
  rcases (show k = 0 ∨ k = 1 ∨ k = 2 ∨ k = 3 ∨ k = 4 ∨ k = 5 ∨ k = 6 ∨ k = 7 ∨ k = 8 ∨ k = 9 ∨ k = 10 ∨ k = 11 ∨ k = 12 ∨ k = 13 ∨ k = 14 ∨ k = 15 ∨ k = 16 ∨ k = 17 ∨ k = 18 ∨ k = 19 ∨ k = 20 ∨ k = 21 ∨ k = 22 ∨ k = 23 ∨ k = 24 ∨ k = 25 ∨ k = 26 ∨ k = 27 ∨ k = 28 ∨ k = 29 ∨ k = 30 ∨ k = 31 by omega) with rfl | rfl | rfl | rfl | rfl | rfl | rfl | rfl | rfl | rfl | rfl | rfl | rfl | rfl | rfl | rfl | rfl | rfl | rfl | rfl | rfl | rfl | rfl | rfl | rfl | rfl | rfl | rfl | rfl | rfl | rfl | rfl
  · exact List.mem_of_getElem? (i := 624) (by decide +kernel)
  · exact List.mem_of_getElem? (i := 626) (by decide +kernel)
  · exact List.mem_of_getElem? (i := 628) (by decide +kernel)
  · exact List.mem_of_getElem? (i := 630) (by decide +kernel)
  · exact List.mem_of_getElem? (i := 632) (by decide +kernel)
  · exact List.mem_of_getElem? (i := 634) (by decide +kernel)
  · exact List.mem_of_getElem? (i := 636) (by decide +kernel)
  · exact List.mem_of_getElem? (i := 638) (by decide +kernel)
  · exact List.mem_of_getElem? (i := 640) (by decide +kernel)
  · exact List.mem_of_getElem? (i := 642) (by decide +kernel)
  · exact List.mem_of_getElem? (i := 644) (by decide +kernel)
  · exact List.mem_of_getElem? (i := 646) (by decide +kernel)
  · exact List.mem_of_getElem? (i := 648) (by decide +kernel)
  · exact List.mem_of_getElem? (i := 650) (by decide +kernel)
  · exact List.mem_of_getElem? (i := 652) (by decide +kernel)
  · exact List.mem_of_getElem? (i := 654) (by decide +kernel)
  · exact List.mem_of_getElem? (i := 656) (by decide +kernel)
  · exact List.mem_of_getElem? (i := 658) (by decide +kernel)
  · exact List.mem_of_getElem? (i := 660) (by decide +kernel)
  · exact List.mem_of_getElem? (i := 662) (by decide +kernel)
  · exact List.mem_of_getElem? (i := 664) (by decide +kernel)
  · exact List.mem_of_getElem? (i := 666) (by decide +kernel)
  · exact List.mem_of_getElem? (i := 668) (by decide +kernel)
  · exact List.mem_of_getElem? (i := 670) (by decide +kernel)
  · exact List.mem_of_getElem? (i := 672) (by decide +kernel)
  · exact List.mem_of_getElem? (i := 674) (by decide +kernel)
  · exact List.mem_of_getElem? (i := 676) (by decide +kernel)
  · exact List.mem_of_getElem? (i := 678) (by decide +kernel)
  · exact List.mem_of_getElem? (i := 680) (by decide +kernel)
  · exact List.mem_of_getElem? (i := 682) (by decide +kernel)
  · exact List.mem_of_getElem? (i := 684) (by decide +kernel)
  · exact List.mem_of_getElem? (i := 686) (by decide +kernel)
theorem in_wsX6_init : ∀ w ∈ wsX6_init, w ∈ lw_tbl := by
  unfold wsX6_init
  exact List.forall_mem_cons.mpr ⟨wm_80, List.forall_mem_append.mpr ⟨List.forall_mem_append.mpr ⟨in_wsX6_init_r1, List.forall_mem_append.mpr ⟨in_wsX6_init_r2, List.forall_mem_append.mpr ⟨in_wsX6_init_r3, List.forall_mem_append.mpr ⟨in_wsX6_init_r4, in_wsX6_init_r5⟩⟩⟩⟩, in_wsX60⟩⟩
theorem wm_180 : (.initialized RX5 : Cond) ∈ lw_tbl := List.mem_of_getElem? (i := 25) (by decide +kernel)
theorem wm_181 : (.selects RX5 yX5_octet yX5_octet : Cond) ∈ lw_tbl := List.mem_of_getElem? (i := 208) (by decide +kernel)
theorem wm_182 : (.instanceMethod yX5_octet : Cond) ∈ lw_tbl := List.mem_of_getElem? (i := 207) (by decide +kernel)
theorem wm_183 : (.methodLink RL 27 yX5_octet : Cond) ∈ lw_tbl := List.mem_of_getElem? (i := 206) (by decide +kernel)
set_option maxRecDepth 100000 in
theorem wm_184 : (.code yX5_octet cX5_octet 2 none : Cond) ∈ lw_tbl := List.mem_of_getElem? (i := 209) rfl
theorem wm_185 : (.fieldLink RX2 15 "FixityRows$Octets" "size" "I" : Cond) ∈ lw_tbl := List.mem_of_getElem? (i := 87) (by decide +kernel)
set_option maxRecDepth 100000 in
theorem wm_186 : (.code yX2_push cX2_push 2 none : Cond) ∈ lw_tbl := List.mem_of_getElem? (i := 213) rfl
theorem wm_187 : (.selects RX2 yX2_push yX2_push : Cond) ∈ lw_tbl := List.mem_of_getElem? (i := 212) (by decide +kernel)
theorem wm_188 : (.instanceMethod yX2_push : Cond) ∈ lw_tbl := List.mem_of_getElem? (i := 211) (by decide +kernel)
theorem wm_189 : (.methodLink RX5 71 yX2_push : Cond) ∈ lw_tbl := List.mem_of_getElem? (i := 210) (by decide +kernel)
theorem in_wsX5_octet : ∀ w ∈ wsX5_octet, w ∈ lw_tbl := by
  unfold wsX5_octet
  exact List.forall_mem_cons.mpr ⟨wm_184, List.forall_mem_append.mpr ⟨List.forall_mem_append.mpr ⟨List.forall_mem_cons.mpr ⟨wm_6, List.forall_mem_cons.mpr ⟨wm_189, List.forall_mem_cons.mpr ⟨wm_188, List.forall_mem_cons.mpr ⟨wm_187, List.forall_mem_cons.mpr ⟨wm_7, List.forall_mem_cons.mpr ⟨wm_186, List.forall_mem_cons.mpr ⟨wm_185, List.forall_mem_cons.mpr ⟨wm_70, (fun _ h => absurd h List.not_mem_nil)⟩⟩⟩⟩⟩⟩⟩⟩, in_wsX50⟩, in_wsX20⟩⟩
theorem wm_190 : (.initialized RX6 : Cond) ∈ lw_tbl := List.mem_of_getElem? (i := 32) (by decide +kernel)
theorem wm_191 : (.selects RX6 yX6_octet yX6_octet : Cond) ∈ lw_tbl := List.mem_of_getElem? (i := 695) (by decide +kernel)
theorem wm_192 : (.instanceMethod yX6_octet : Cond) ∈ lw_tbl := List.mem_of_getElem? (i := 694) (by decide +kernel)
theorem wm_193 : (.methodLink RL 30 yX6_octet : Cond) ∈ lw_tbl := List.mem_of_getElem? (i := 693) (by decide +kernel)
set_option maxRecDepth 100000 in
theorem wm_194 : (.code yX6_octet cX6_octet 2 none : Cond) ∈ lw_tbl := List.mem_of_getElem? (i := 696) rfl
theorem wm_195 : (.fieldLink RX6 209 "FixityRowsModel" "collected" "I" : Cond) ∈ lw_tbl := List.mem_of_getElem? (i := 594) (by decide +kernel)
theorem wm_196 : (.fieldLink RX6 160 "FixityRowsModel" "thrown" "I" : Cond) ∈ lw_tbl := List.mem_of_getElem? (i := 592) (by decide +kernel)
theorem in_wsX6_octet : ∀ w ∈ wsX6_octet, w ∈ lw_tbl := by
  unfold wsX6_octet
  exact List.forall_mem_cons.mpr ⟨wm_194, List.forall_mem_append.mpr ⟨List.forall_mem_cons.mpr ⟨wm_196, List.forall_mem_cons.mpr ⟨wm_195, List.forall_mem_cons.mpr ⟨wm_98, (fun _ h => absurd h List.not_mem_nil)⟩⟩⟩, in_wsX60⟩⟩
theorem wm_197 : (.selects RX5 yX5_digest yX5_digest : Cond) ∈ lw_tbl := List.mem_of_getElem? (i := 216) (by decide +kernel)
theorem wm_198 : (.instanceMethod yX5_digest : Cond) ∈ lw_tbl := List.mem_of_getElem? (i := 215) (by decide +kernel)
theorem wm_199 : (.methodLink RL 31 yX5_digest : Cond) ∈ lw_tbl := List.mem_of_getElem? (i := 214) (by decide +kernel)
set_option maxRecDepth 100000 in
theorem wm_200 : (.code yX5_digest cX5_digest 2 (some .int) : Cond) ∈ lw_tbl := List.mem_of_getElem? (i := 217) rfl
theorem wm_201 : (.instanceMethod yX2_value : Cond) ∈ lw_tbl := List.mem_of_getElem? (i := 232) (by decide +kernel)
theorem wm_202 : (.methodLink RX1 37 yX2_value : Cond) ∈ lw_tbl := List.mem_of_getElem? (i := 231) (by decide +kernel)
set_option maxRecDepth 100000 in
theorem wm_203 : (.code yX1_paddedWord cX1_paddedWord 6 (some .int) : Cond) ∈ lw_tbl := List.mem_of_getElem? (i := 230) rfl
theorem wm_204 : (.static yX1_paddedWord : Cond) ∈ lw_tbl := List.mem_of_getElem? (i := 229) (by decide +kernel)
theorem wm_205 : (.methodLink RX1 27 yX1_paddedWord : Cond) ∈ lw_tbl := List.mem_of_getElem? (i := 228) (by decide +kernel)
set_option maxRecDepth 100000 in
theorem wm_206 : (.code yX2_count cX2_count 1 (some .int) : Cond) ∈ lw_tbl := List.mem_of_getElem? (i := 227) rfl
theorem wm_207 : (.selects RX2 yX2_count yX2_count : Cond) ∈ lw_tbl := List.mem_of_getElem? (i := 226) (by decide +kernel)
theorem wm_208 : (.instanceMethod yX2_count : Cond) ∈ lw_tbl := List.mem_of_getElem? (i := 225) (by decide +kernel)
theorem wm_209 : (.methodLink RX1 21 yX2_count : Cond) ∈ lw_tbl := List.mem_of_getElem? (i := 224) (by decide +kernel)
theorem wm_210 : (.fieldLink RX1 18 "FixityRows$LongDigest" "ROOTS" "[I" : Cond) ∈ lw_tbl := List.mem_of_getElem? (i := 222) (by decide +kernel)
set_option maxRecDepth 100000 in
theorem wm_211 : (.code yX1_compute cX1_compute 6 none : Cond) ∈ lw_tbl := List.mem_of_getElem? (i := 221) rfl
theorem wm_212 : (.selects RX1 yX1_compute yX1_compute : Cond) ∈ lw_tbl := List.mem_of_getElem? (i := 220) (by decide +kernel)
theorem wm_213 : (.instanceMethod yX1_compute : Cond) ∈ lw_tbl := List.mem_of_getElem? (i := 219) (by decide +kernel)
theorem wm_214 : (.methodLink RX5 75 yX1_compute : Cond) ∈ lw_tbl := List.mem_of_getElem? (i := 218) (by decide +kernel)
theorem wm_215 : (.fieldLink RX5 83 "FixityRows" "latestLength" "I" : Cond) ∈ lw_tbl := List.mem_of_getElem? (i := 170) (by decide +kernel)
theorem in_wsX5_digest_r1 : ∀ w ∈ wsX5_digest_r1, w ∈ lw_tbl := by
  unfold wsX5_digest_r1
  exact List.forall_mem_cons.mpr ⟨wm_14, List.forall_mem_cons.mpr ⟨wm_6, List.forall_mem_cons.mpr ⟨wm_52, List.forall_mem_cons.mpr ⟨wm_215, List.forall_mem_cons.mpr ⟨wm_10, List.forall_mem_cons.mpr ⟨wm_214, List.forall_mem_cons.mpr ⟨wm_213, List.forall_mem_cons.mpr ⟨wm_212, List.forall_mem_cons.mpr ⟨wm_15, List.forall_mem_cons.mpr ⟨wm_211, List.forall_mem_cons.mpr ⟨wm_36, List.forall_mem_cons.mpr ⟨wm_210, List.forall_mem_cons.mpr ⟨wm_35, List.forall_mem_cons.mpr ⟨wm_209, List.forall_mem_cons.mpr ⟨wm_208, List.forall_mem_cons.mpr ⟨wm_207, List.forall_mem_cons.mpr ⟨wm_7, List.forall_mem_cons.mpr ⟨wm_206, List.forall_mem_cons.mpr ⟨wm_185, List.forall_mem_cons.mpr ⟨wm_205, List.forall_mem_cons.mpr ⟨wm_204, List.forall_mem_cons.mpr ⟨wm_203, List.forall_mem_cons.mpr ⟨wm_202, List.forall_mem_cons.mpr ⟨wm_201, (fun _ h => absurd h List.not_mem_nil)⟩⟩⟩⟩⟩⟩⟩⟩⟩⟩⟩⟩⟩⟩⟩⟩⟩⟩⟩⟩⟩⟩⟩⟩
set_option maxRecDepth 100000 in
theorem wm_216 : (.code yX1_bigSigma0 cX1_bigSigma0 1 (some .int) : Cond) ∈ lw_tbl := List.mem_of_getElem? (i := 256) rfl
theorem wm_217 : (.static yX1_bigSigma0 : Cond) ∈ lw_tbl := List.mem_of_getElem? (i := 255) (by decide +kernel)
theorem wm_218 : (.methodLink RX1 53 yX1_bigSigma0 : Cond) ∈ lw_tbl := List.mem_of_getElem? (i := 254) (by decide +kernel)
set_option maxRecDepth 100000 in
theorem wm_219 : (.code yX1_bigSigma1 cX1_bigSigma1 1 (some .int) : Cond) ∈ lw_tbl := List.mem_of_getElem? (i := 251) rfl
theorem wm_220 : (.static yX1_bigSigma1 : Cond) ∈ lw_tbl := List.mem_of_getElem? (i := 250) (by decide +kernel)
theorem wm_221 : (.methodLink RX1 47 yX1_bigSigma1 : Cond) ∈ lw_tbl := List.mem_of_getElem? (i := 249) (by decide +kernel)
theorem wm_222 : (.fieldLink RX1 50 "FixityRows$LongDigest" "K" "[I" : Cond) ∈ lw_tbl := List.mem_of_getElem? (i := 252) (by decide +kernel)
set_option maxRecDepth 100000 in
theorem wm_223 : (.code yX1_mix cX1_mix 12 none : Cond) ∈ lw_tbl := List.mem_of_getElem? (i := 248) rfl
theorem wm_224 : (.selects RX1 yX1_mix yX1_mix : Cond) ∈ lw_tbl := List.mem_of_getElem? (i := 1) (by decide +kernel)
theorem wm_225 : (.instanceMethod yX1_mix : Cond) ∈ lw_tbl := List.mem_of_getElem? (i := 247) (by decide +kernel)
theorem wm_226 : (.methodLink RX1 34 yX1_mix : Cond) ∈ lw_tbl := List.mem_of_getElem? (i := 245) (by decide +kernel)
set_option maxRecDepth 100000 in
theorem wm_227 : (.code yX1_smallSigma1 cX1_smallSigma1 1 (some .int) : Cond) ∈ lw_tbl := List.mem_of_getElem? (i := 244) rfl
theorem wm_228 : (.static yX1_smallSigma1 : Cond) ∈ lw_tbl := List.mem_of_getElem? (i := 243) (by decide +kernel)
theorem wm_229 : (.methodLink RX1 44 yX1_smallSigma1 : Cond) ∈ lw_tbl := List.mem_of_getElem? (i := 242) (by decide +kernel)
set_option maxRecDepth 100000 in
theorem wm_230 : (.code yX1_smallSigma0 cX1_smallSigma0 1 (some .int) : Cond) ∈ lw_tbl := List.mem_of_getElem? (i := 241) rfl
theorem wm_231 : (.static yX1_smallSigma0 : Cond) ∈ lw_tbl := List.mem_of_getElem? (i := 240) (by decide +kernel)
theorem wm_232 : (.methodLink RX1 41 yX1_smallSigma0 : Cond) ∈ lw_tbl := List.mem_of_getElem? (i := 239) (by decide +kernel)
set_option maxRecDepth 100000 in
theorem wm_233 : (.code yX1_widen cX1_widen 2 none : Cond) ∈ lw_tbl := List.mem_of_getElem? (i := 238) rfl
theorem wm_234 : (.selects RX1 yX1_widen yX1_widen : Cond) ∈ lw_tbl := List.mem_of_getElem? (i := 0) (by decide +kernel)
theorem wm_235 : (.instanceMethod yX1_widen : Cond) ∈ lw_tbl := List.mem_of_getElem? (i := 237) (by decide +kernel)
theorem wm_236 : (.methodLink RX1 31 yX1_widen : Cond) ∈ lw_tbl := List.mem_of_getElem? (i := 235) (by decide +kernel)
set_option maxRecDepth 100000 in
theorem wm_237 : (.code yX2_value cX2_value 2 (some .int) : Cond) ∈ lw_tbl := List.mem_of_getElem? (i := 234) rfl
theorem wm_238 : (.selects RX2 yX2_value yX2_value : Cond) ∈ lw_tbl := List.mem_of_getElem? (i := 233) (by decide +kernel)
theorem in_wsX5_digest_r2 : ∀ w ∈ wsX5_digest_r2, w ∈ lw_tbl := by
  unfold wsX5_digest_r2
  exact List.forall_mem_cons.mpr ⟨wm_238, List.forall_mem_cons.mpr ⟨wm_237, List.forall_mem_cons.mpr ⟨wm_70, List.forall_mem_cons.mpr ⟨wm_236, List.forall_mem_cons.mpr ⟨wm_235, List.forall_mem_cons.mpr ⟨wm_234, List.forall_mem_cons.mpr ⟨wm_233, List.forall_mem_cons.mpr ⟨wm_232, List.forall_mem_cons.mpr ⟨wm_231, List.forall_mem_cons.mpr ⟨wm_230, List.forall_mem_cons.mpr ⟨wm_229, List.forall_mem_cons.mpr ⟨wm_228, List.forall_mem_cons.mpr ⟨wm_227, List.forall_mem_cons.mpr ⟨wm_226, List.forall_mem_cons.mpr ⟨wm_225, List.forall_mem_cons.mpr ⟨wm_224, List.forall_mem_cons.mpr ⟨wm_223, List.forall_mem_cons.mpr ⟨wm_222, List.forall_mem_cons.mpr ⟨wm_221, List.forall_mem_cons.mpr ⟨wm_220, List.forall_mem_cons.mpr ⟨wm_219, List.forall_mem_cons.mpr ⟨wm_218, List.forall_mem_cons.mpr ⟨wm_217, List.forall_mem_cons.mpr ⟨wm_216, (fun _ h => absurd h List.not_mem_nil)⟩⟩⟩⟩⟩⟩⟩⟩⟩⟩⟩⟩⟩⟩⟩⟩⟩⟩⟩⟩⟩⟩⟩⟩
theorem wm_239 : (.methodLink RX4 23 yX2_value : Cond) ∈ lw_tbl := List.mem_of_getElem? (i := 266) (by decide +kernel)
theorem wm_240 : (.methodLink RX4 17 yX2_count : Cond) ∈ lw_tbl := List.mem_of_getElem? (i := 265) (by decide +kernel)
set_option maxRecDepth 100000 in
theorem wm_241 : (.code yX4_compute cX4_compute 4 (some .int) : Cond) ∈ lw_tbl := List.mem_of_getElem? (i := 264) rfl
theorem wm_242 : (.selects RX4 yX4_compute yX4_compute : Cond) ∈ lw_tbl := List.mem_of_getElem? (i := 263) (by decide +kernel)
theorem wm_243 : (.instanceMethod yX4_compute : Cond) ∈ lw_tbl := List.mem_of_getElem? (i := 262) (by decide +kernel)
theorem wm_244 : (.methodLink RX5 86 yX4_compute : Cond) ∈ lw_tbl := List.mem_of_getElem? (i := 261) (by decide +kernel)
set_option maxRecDepth 100000 in
theorem wm_245 : (.code yX1_copyTo cX1_copyTo 3 none : Cond) ∈ lw_tbl := List.mem_of_getElem? (i := 260) rfl
theorem wm_246 : (.selects RX1 yX1_copyTo yX1_copyTo : Cond) ∈ lw_tbl := List.mem_of_getElem? (i := 259) (by decide +kernel)
theorem wm_247 : (.instanceMethod yX1_copyTo : Cond) ∈ lw_tbl := List.mem_of_getElem? (i := 258) (by decide +kernel)
theorem wm_248 : (.methodLink RX5 79 yX1_copyTo : Cond) ∈ lw_tbl := List.mem_of_getElem? (i := 257) (by decide +kernel)
theorem in_wsX5_digest_r3 : ∀ w ∈ wsX5_digest_r3, w ∈ lw_tbl := by
  unfold wsX5_digest_r3
  exact List.forall_mem_cons.mpr ⟨wm_248, List.forall_mem_cons.mpr ⟨wm_247, List.forall_mem_cons.mpr ⟨wm_246, List.forall_mem_cons.mpr ⟨wm_245, List.forall_mem_cons.mpr ⟨wm_244, List.forall_mem_cons.mpr ⟨wm_243, List.forall_mem_cons.mpr ⟨wm_242, List.forall_mem_cons.mpr ⟨wm_11, List.forall_mem_cons.mpr ⟨wm_241, List.forall_mem_cons.mpr ⟨wm_30, List.forall_mem_cons.mpr ⟨wm_240, List.forall_mem_cons.mpr ⟨wm_239, (fun _ h => absurd h List.not_mem_nil)⟩⟩⟩⟩⟩⟩⟩⟩⟩⟩⟩⟩
theorem in_wsX5_digest : ∀ w ∈ wsX5_digest, w ∈ lw_tbl := by
  unfold wsX5_digest
  exact List.forall_mem_cons.mpr ⟨wm_200, List.forall_mem_append.mpr ⟨List.forall_mem_append.mpr ⟨List.forall_mem_append.mpr ⟨List.forall_mem_append.mpr ⟨List.forall_mem_append.mpr ⟨in_wsX5_digest_r1, List.forall_mem_append.mpr ⟨in_wsX5_digest_r2, in_wsX5_digest_r3⟩⟩, in_wsX50⟩, in_wsX10⟩, in_wsX20⟩, in_wsX40⟩⟩
theorem wm_249 : (.selects RX6 yX6_digest yX6_digest : Cond) ∈ lw_tbl := List.mem_of_getElem? (i := 699) (by decide +kernel)
theorem wm_250 : (.instanceMethod yX6_digest : Cond) ∈ lw_tbl := List.mem_of_getElem? (i := 698) (by decide +kernel)
theorem wm_251 : (.methodLink RL 34 yX6_digest : Cond) ∈ lw_tbl := List.mem_of_getElem? (i := 697) (by decide +kernel)
set_option maxRecDepth 100000 in
theorem wm_252 : (.code yX6_digest cX6_digest 3 (some .int) : Cond) ∈ lw_tbl := List.mem_of_getElem? (i := 700) rfl
theorem wm_253 : (.instanceMethod yX6_block : Cond) ∈ lw_tbl := List.mem_of_getElem? (i := 714) (by decide +kernel)
theorem wm_254 : (.methodLink RX6 182 yX6_block : Cond) ∈ lw_tbl := List.mem_of_getElem? (i := 712) (by decide +kernel)
set_option maxRecDepth 100000 in
theorem wm_255 : (.code yX6_long1 cX6_long1 4 none : Cond) ∈ lw_tbl := List.mem_of_getElem? (i := 711) rfl
theorem wm_256 : (.selects RX6 yX6_long1 yX6_long1 : Cond) ∈ lw_tbl := List.mem_of_getElem? (i := 11) (by decide +kernel)
theorem wm_257 : (.instanceMethod yX6_long1 : Cond) ∈ lw_tbl := List.mem_of_getElem? (i := 710) (by decide +kernel)
theorem wm_258 : (.methodLink RX6 187 yX6_long1 : Cond) ∈ lw_tbl := List.mem_of_getElem? (i := 708) (by decide +kernel)
theorem wm_259 : (.fieldLink RX6 179 "FixityRowsModel" "filled" "I" : Cond) ∈ lw_tbl := List.mem_of_getElem? (i := 616) (by decide +kernel)
set_option maxRecDepth 100000 in
theorem wm_260 : (.code yX6_gather cX6_gather 2 none : Cond) ∈ lw_tbl := List.mem_of_getElem? (i := 707) rfl
theorem wm_261 : (.selects RX6 yX6_gather yX6_gather : Cond) ∈ lw_tbl := List.mem_of_getElem? (i := 10) (by decide +kernel)
theorem wm_262 : (.instanceMethod yX6_gather : Cond) ∈ lw_tbl := List.mem_of_getElem? (i := 706) (by decide +kernel)
theorem wm_263 : (.methodLink RX6 212 yX6_gather : Cond) ∈ lw_tbl := List.mem_of_getElem? (i := 704) (by decide +kernel)
set_option maxRecDepth 100000 in
theorem wm_264 : (.code yX6_in cX6_in 3 (some .boolean) : Cond) ∈ lw_tbl := List.mem_of_getElem? (i := 703) rfl
theorem wm_265 : (.static yX6_in : Cond) ∈ lw_tbl := List.mem_of_getElem? (i := 702) (by decide +kernel)
theorem wm_266 : (.methodLink RX6 166 yX6_in : Cond) ∈ lw_tbl := List.mem_of_getElem? (i := 701) (by decide +kernel)
theorem wm_267 : (.fieldLink RX6 215 "FixityRowsModel" "shown" "I" : Cond) ∈ lw_tbl := List.mem_of_getElem? (i := 614) (by decide +kernel)
theorem in_wsX6_digest_r1 : ∀ w ∈ wsX6_digest_r1, w ∈ lw_tbl := by
  unfold wsX6_digest_r1
  exact List.forall_mem_cons.mpr ⟨wm_196, List.forall_mem_cons.mpr ⟨wm_267, List.forall_mem_cons.mpr ⟨wm_82, List.forall_mem_cons.mpr ⟨wm_124, List.forall_mem_cons.mpr ⟨wm_266, List.forall_mem_cons.mpr ⟨wm_265, List.forall_mem_cons.mpr ⟨wm_190, List.forall_mem_cons.mpr ⟨wm_264, List.forall_mem_cons.mpr ⟨wm_263, List.forall_mem_cons.mpr ⟨wm_262, List.forall_mem_cons.mpr ⟨wm_261, List.forall_mem_cons.mpr ⟨wm_260, List.forall_mem_cons.mpr ⟨wm_195, List.forall_mem_cons.mpr ⟨wm_259, List.forall_mem_cons.mpr ⟨wm_81, List.forall_mem_cons.mpr ⟨wm_98, List.forall_mem_cons.mpr ⟨wm_258, List.forall_mem_cons.mpr ⟨wm_257, List.forall_mem_cons.mpr ⟨wm_256, List.forall_mem_cons.mpr ⟨wm_255, List.forall_mem_cons.mpr ⟨wm_122, List.forall_mem_cons.mpr ⟨wm_112, List.forall_mem_cons.mpr ⟨wm_254, List.forall_mem_cons.mpr ⟨wm_253, (fun _ h => absurd h List.not_mem_nil)⟩⟩⟩⟩⟩⟩⟩⟩⟩⟩⟩⟩⟩⟩⟩⟩⟩⟩⟩⟩⟩⟩⟩⟩
theorem wm_268 : (.constant RX6 186 (-306674912) : Cond) ∈ lw_tbl := List.mem_of_getElem? (i := 726) (by decide +kernel)
set_option maxRecDepth 100000 in
theorem wm_269 : (.code yX6_short1 cX6_short1 4 none : Cond) ∈ lw_tbl := List.mem_of_getElem? (i := 725) rfl
theorem wm_270 : (.selects RX6 yX6_short1 yX6_short1 : Cond) ∈ lw_tbl := List.mem_of_getElem? (i := 13) (by decide +kernel)
theorem wm_271 : (.instanceMethod yX6_short1 : Cond) ∈ lw_tbl := List.mem_of_getElem? (i := 724) (by decide +kernel)
theorem wm_272 : (.methodLink RX6 190 yX6_short1 : Cond) ∈ lw_tbl := List.mem_of_getElem? (i := 722) (by decide +kernel)
set_option maxRecDepth 100000 in
theorem wm_273 : (.code yX6_mixed cX6_mixed 4 (some .int) : Cond) ∈ lw_tbl := List.mem_of_getElem? (i := 721) rfl
theorem wm_274 : (.static yX6_mixed : Cond) ∈ lw_tbl := List.mem_of_getElem? (i := 720) (by decide +kernel)
theorem wm_275 : (.methodLink RX6 175 yX6_mixed : Cond) ∈ lw_tbl := List.mem_of_getElem? (i := 719) (by decide +kernel)
set_option maxRecDepth 100000 in
theorem wm_276 : (.code yX6_turned cX6_turned 2 (some .int) : Cond) ∈ lw_tbl := List.mem_of_getElem? (i := 718) rfl
theorem wm_277 : (.static yX6_turned : Cond) ∈ lw_tbl := List.mem_of_getElem? (i := 717) (by decide +kernel)
theorem wm_278 : (.methodLink RX6 171 yX6_turned : Cond) ∈ lw_tbl := List.mem_of_getElem? (i := 716) (by decide +kernel)
set_option maxRecDepth 100000 in
theorem wm_279 : (.code yX6_block cX6_block 6 none : Cond) ∈ lw_tbl := List.mem_of_getElem? (i := 715) rfl
theorem wm_280 : (.selects RX6 yX6_block yX6_block : Cond) ∈ lw_tbl := List.mem_of_getElem? (i := 12) (by decide +kernel)
theorem in_wsX6_digest_r2 : ∀ w ∈ wsX6_digest_r2, w ∈ lw_tbl := by
  unfold wsX6_digest_r2
  exact List.forall_mem_cons.mpr ⟨wm_280, List.forall_mem_cons.mpr ⟨wm_279, List.forall_mem_cons.mpr ⟨wm_123, List.forall_mem_cons.mpr ⟨wm_121, List.forall_mem_cons.mpr ⟨wm_174, List.forall_mem_cons.mpr ⟨wm_278, List.forall_mem_cons.mpr ⟨wm_277, List.forall_mem_cons.mpr ⟨wm_276, List.forall_mem_cons.mpr ⟨wm_275, List.forall_mem_cons.mpr ⟨wm_274, List.forall_mem_cons.mpr ⟨wm_273, List.forall_mem_cons.mpr ⟨wm_272, List.forall_mem_cons.mpr ⟨wm_271, List.forall_mem_cons.mpr ⟨wm_270, List.forall_mem_cons.mpr ⟨wm_269, List.forall_mem_cons.mpr ⟨wm_268, (fun _ h => absurd h List.not_mem_nil)⟩⟩⟩⟩⟩⟩⟩⟩⟩⟩⟩⟩⟩⟩⟩⟩
theorem in_wsX6_digest : ∀ w ∈ wsX6_digest, w ∈ lw_tbl := by
  unfold wsX6_digest
  exact List.forall_mem_cons.mpr ⟨wm_252, List.forall_mem_append.mpr ⟨List.forall_mem_append.mpr ⟨in_wsX6_digest_r1, in_wsX6_digest_r2⟩, in_wsX60⟩⟩
theorem wm_281 : (.selects RX6 yX6_at yX6_at : Cond) ∈ lw_tbl := List.mem_of_getElem? (i := 729) (by decide +kernel)
theorem wm_282 : (.instanceMethod yX6_at : Cond) ∈ lw_tbl := List.mem_of_getElem? (i := 728) (by decide +kernel)
theorem wm_283 : (.methodLink RL 38 yX6_at : Cond) ∈ lw_tbl := List.mem_of_getElem? (i := 727) (by decide +kernel)
set_option maxRecDepth 100000 in
theorem wm_284 : (.code yX6_at cX6_at 2 (some .int) : Cond) ∈ lw_tbl := List.mem_of_getElem? (i := 730) rfl
theorem in_wsX6_at : ∀ w ∈ wsX6_at, w ∈ lw_tbl := by
  unfold wsX6_at
  exact List.forall_mem_cons.mpr ⟨wm_284, List.forall_mem_append.mpr ⟨List.forall_mem_cons.mpr ⟨wm_267, List.forall_mem_cons.mpr ⟨wm_196, List.forall_mem_cons.mpr ⟨wm_82, List.forall_mem_cons.mpr ⟨wm_266, List.forall_mem_cons.mpr ⟨wm_265, List.forall_mem_cons.mpr ⟨wm_190, List.forall_mem_cons.mpr ⟨wm_264, (fun _ h => absurd h List.not_mem_nil)⟩⟩⟩⟩⟩⟩⟩, in_wsX60⟩⟩
theorem wm_285 : (.selects RX6 yX6_thrown yX6_thrown : Cond) ∈ lw_tbl := List.mem_of_getElem? (i := 691) (by decide +kernel)
theorem wm_286 : (.instanceMethod yX6_thrown : Cond) ∈ lw_tbl := List.mem_of_getElem? (i := 690) (by decide +kernel)
theorem wm_287 : (.methodLink RL 39 yX6_thrown : Cond) ∈ lw_tbl := List.mem_of_getElem? (i := 689) (by decide +kernel)
set_option maxRecDepth 100000 in
theorem wm_288 : (.code yX6_thrown cX6_thrown 1 (some .int) : Cond) ∈ lw_tbl := List.mem_of_getElem? (i := 692) rfl
theorem in_wsX6_thrown : ∀ w ∈ wsX6_thrown, w ∈ lw_tbl := by
  unfold wsX6_thrown
  exact List.forall_mem_cons.mpr ⟨wm_288, List.forall_mem_append.mpr ⟨List.forall_mem_cons.mpr ⟨wm_196, (fun _ h => absurd h List.not_mem_nil)⟩, in_wsX60⟩⟩
theorem wm_289 : (.selects RX5 yX5_file yX5_file : Cond) ∈ lw_tbl := List.mem_of_getElem? (i := 269) (by decide +kernel)
theorem wm_290 : (.instanceMethod yX5_file : Cond) ∈ lw_tbl := List.mem_of_getElem? (i := 268) (by decide +kernel)
theorem wm_291 : (.methodLink RL 43 yX5_file : Cond) ∈ lw_tbl := List.mem_of_getElem? (i := 267) (by decide +kernel)
set_option maxRecDepth 100000 in
theorem wm_292 : (.code yX5_file cX5_file 5 (some .int) : Cond) ∈ lw_tbl := List.mem_of_getElem? (i := 270) rfl
set_option maxRecDepth 100000 in
theorem wm_293 : (.code yX2_copyFrom cX2_copyFrom 3 none : Cond) ∈ lw_tbl := List.mem_of_getElem? (i := 278) rfl
theorem wm_294 : (.selects RX2 yX2_copyFrom yX2_copyFrom : Cond) ∈ lw_tbl := List.mem_of_getElem? (i := 277) (by decide +kernel)
theorem wm_295 : (.instanceMethod yX2_copyFrom : Cond) ∈ lw_tbl := List.mem_of_getElem? (i := 276) (by decide +kernel)
theorem wm_296 : (.methodLink RX5 106 yX2_copyFrom : Cond) ∈ lw_tbl := List.mem_of_getElem? (i := 275) (by decide +kernel)
theorem wm_297 : (.constant RX5 201 (1000000) : Cond) ∈ lw_tbl := List.mem_of_getElem? (i := 274) (by decide +kernel)
set_option maxRecDepth 100000 in
theorem wm_298 : (.code yX5_isDay cX5_isDay 1 (some .boolean) : Cond) ∈ lw_tbl := List.mem_of_getElem? (i := 273) rfl
theorem wm_299 : (.static yX5_isDay : Cond) ∈ lw_tbl := List.mem_of_getElem? (i := 272) (by decide +kernel)
theorem wm_300 : (.methodLink RX5 96 yX5_isDay : Cond) ∈ lw_tbl := List.mem_of_getElem? (i := 271) (by decide +kernel)
theorem wm_301 : (.fieldLink RX5 100 "FixityRows" "fileCount" "I" : Cond) ∈ lw_tbl := List.mem_of_getElem? (i := 172) (by decide +kernel)
theorem in_wsX5_file_r1 : ∀ w ∈ wsX5_file_r1, w ∈ lw_tbl := by
  unfold wsX5_file_r1
  exact List.forall_mem_cons.mpr ⟨wm_301, List.forall_mem_cons.mpr ⟨wm_50, List.forall_mem_cons.mpr ⟨wm_6, List.forall_mem_cons.mpr ⟨wm_14, List.forall_mem_cons.mpr ⟨wm_10, List.forall_mem_cons.mpr ⟨wm_44, List.forall_mem_cons.mpr ⟨wm_300, List.forall_mem_cons.mpr ⟨wm_299, List.forall_mem_cons.mpr ⟨wm_180, List.forall_mem_cons.mpr ⟨wm_298, List.forall_mem_cons.mpr ⟨wm_297, List.forall_mem_cons.mpr ⟨wm_296, List.forall_mem_cons.mpr ⟨wm_295, List.forall_mem_cons.mpr ⟨wm_294, List.forall_mem_cons.mpr ⟨wm_7, List.forall_mem_cons.mpr ⟨wm_293, List.forall_mem_cons.mpr ⟨wm_185, List.forall_mem_cons.mpr ⟨wm_70, List.forall_mem_cons.mpr ⟨wm_214, List.forall_mem_cons.mpr ⟨wm_213, List.forall_mem_cons.mpr ⟨wm_212, List.forall_mem_cons.mpr ⟨wm_15, List.forall_mem_cons.mpr ⟨wm_211, List.forall_mem_cons.mpr ⟨wm_36, (fun _ h => absurd h List.not_mem_nil)⟩⟩⟩⟩⟩⟩⟩⟩⟩⟩⟩⟩⟩⟩⟩⟩⟩⟩⟩⟩⟩⟩⟩⟩
theorem in_wsX5_file_r2 : ∀ w ∈ wsX5_file_r2, w ∈ lw_tbl := by
  unfold wsX5_file_r2
  exact List.forall_mem_cons.mpr ⟨wm_210, List.forall_mem_cons.mpr ⟨wm_35, List.forall_mem_cons.mpr ⟨wm_209, List.forall_mem_cons.mpr ⟨wm_208, List.forall_mem_cons.mpr ⟨wm_207, List.forall_mem_cons.mpr ⟨wm_206, List.forall_mem_cons.mpr ⟨wm_205, List.forall_mem_cons.mpr ⟨wm_204, List.forall_mem_cons.mpr ⟨wm_203, List.forall_mem_cons.mpr ⟨wm_202, List.forall_mem_cons.mpr ⟨wm_201, List.forall_mem_cons.mpr ⟨wm_238, List.forall_mem_cons.mpr ⟨wm_237, List.forall_mem_cons.mpr ⟨wm_236, List.forall_mem_cons.mpr ⟨wm_235, List.forall_mem_cons.mpr ⟨wm_234, List.forall_mem_cons.mpr ⟨wm_233, List.forall_mem_cons.mpr ⟨wm_232, List.forall_mem_cons.mpr ⟨wm_231, List.forall_mem_cons.mpr ⟨wm_230, List.forall_mem_cons.mpr ⟨wm_229, List.forall_mem_cons.mpr ⟨wm_228, List.forall_mem_cons.mpr ⟨wm_227, List.forall_mem_cons.mpr ⟨wm_226, (fun _ h => absurd h List.not_mem_nil)⟩⟩⟩⟩⟩⟩⟩⟩⟩⟩⟩⟩⟩⟩⟩⟩⟩⟩⟩⟩⟩⟩⟩⟩
theorem wm_302 : (.instanceMethod yX2_shorten : Cond) ∈ lw_tbl := List.mem_of_getElem? (i := 280) (by decide +kernel)
theorem wm_303 : (.methodLink RX5 118 yX2_shorten : Cond) ∈ lw_tbl := List.mem_of_getElem? (i := 279) (by decide +kernel)
theorem in_wsX5_file_r3 : ∀ w ∈ wsX5_file_r3, w ∈ lw_tbl := by
  unfold wsX5_file_r3
  exact List.forall_mem_cons.mpr ⟨wm_225, List.forall_mem_cons.mpr ⟨wm_224, List.forall_mem_cons.mpr ⟨wm_223, List.forall_mem_cons.mpr ⟨wm_222, List.forall_mem_cons.mpr ⟨wm_221, List.forall_mem_cons.mpr ⟨wm_220, List.forall_mem_cons.mpr ⟨wm_219, List.forall_mem_cons.mpr ⟨wm_218, List.forall_mem_cons.mpr ⟨wm_217, List.forall_mem_cons.mpr ⟨wm_216, List.forall_mem_cons.mpr ⟨wm_248, List.forall_mem_cons.mpr ⟨wm_247, List.forall_mem_cons.mpr ⟨wm_246, List.forall_mem_cons.mpr ⟨wm_245, List.forall_mem_cons.mpr ⟨wm_244, List.forall_mem_cons.mpr ⟨wm_243, List.forall_mem_cons.mpr ⟨wm_242, List.forall_mem_cons.mpr ⟨wm_11, List.forall_mem_cons.mpr ⟨wm_241, List.forall_mem_cons.mpr ⟨wm_30, List.forall_mem_cons.mpr ⟨wm_240, List.forall_mem_cons.mpr ⟨wm_239, List.forall_mem_cons.mpr ⟨wm_303, List.forall_mem_cons.mpr ⟨wm_302, (fun _ h => absurd h List.not_mem_nil)⟩⟩⟩⟩⟩⟩⟩⟩⟩⟩⟩⟩⟩⟩⟩⟩⟩⟩⟩⟩⟩⟩⟩⟩
theorem wm_304 : (.methodLink RX3 63 yX2_pushWord : Cond) ∈ lw_tbl := List.mem_of_getElem? (i := 296) (by decide +kernel)
set_option maxRecDepth 100000 in
theorem wm_305 : (.code yX3_has cX3_has 2 (some .boolean) : Cond) ∈ lw_tbl := List.mem_of_getElem? (i := 295) rfl
theorem wm_306 : (.selects RX3 yX3_has yX3_has : Cond) ∈ lw_tbl := List.mem_of_getElem? (i := 294) (by decide +kernel)
theorem wm_307 : (.instanceMethod yX3_has : Cond) ∈ lw_tbl := List.mem_of_getElem? (i := 293) (by decide +kernel)
theorem wm_308 : (.methodLink RX3 44 yX3_has : Cond) ∈ lw_tbl := List.mem_of_getElem? (i := 292) (by decide +kernel)
theorem wm_309 : (.methodLink RX3 60 yX2_shorten : Cond) ∈ lw_tbl := List.mem_of_getElem? (i := 291) (by decide +kernel)
set_option maxRecDepth 100000 in
theorem wm_310 : (.code yX3_computeDigestOf cX3_computeDigestOf 3 none : Cond) ∈ lw_tbl := List.mem_of_getElem? (i := 290) rfl
theorem wm_311 : (.selects RX3 yX3_computeDigestOf yX3_computeDigestOf : Cond) ∈ lw_tbl := List.mem_of_getElem? (i := 2) (by decide +kernel)
theorem wm_312 : (.instanceMethod yX3_computeDigestOf : Cond) ∈ lw_tbl := List.mem_of_getElem? (i := 289) (by decide +kernel)
theorem wm_313 : (.methodLink RX3 48 yX3_computeDigestOf : Cond) ∈ lw_tbl := List.mem_of_getElem? (i := 287) (by decide +kernel)
theorem wm_314 : (.fieldLink RX3 40 "FixityRows$RowChain" "count" "I" : Cond) ∈ lw_tbl := List.mem_of_getElem? (i := 149) (by decide +kernel)
set_option maxRecDepth 100000 in
theorem wm_315 : (.code yX3_append cX3_append 5 none : Cond) ∈ lw_tbl := List.mem_of_getElem? (i := 286) rfl
theorem wm_316 : (.selects RX3 yX3_append yX3_append : Cond) ∈ lw_tbl := List.mem_of_getElem? (i := 285) (by decide +kernel)
theorem wm_317 : (.instanceMethod yX3_append : Cond) ∈ lw_tbl := List.mem_of_getElem? (i := 284) (by decide +kernel)
theorem wm_318 : (.methodLink RX5 121 yX3_append : Cond) ∈ lw_tbl := List.mem_of_getElem? (i := 283) (by decide +kernel)
set_option maxRecDepth 100000 in
theorem wm_319 : (.code yX2_shorten cX2_shorten 2 none : Cond) ∈ lw_tbl := List.mem_of_getElem? (i := 282) rfl
theorem wm_320 : (.selects RX2 yX2_shorten yX2_shorten : Cond) ∈ lw_tbl := List.mem_of_getElem? (i := 281) (by decide +kernel)
theorem in_wsX5_file_r4 : ∀ w ∈ wsX5_file_r4, w ∈ lw_tbl := by
  unfold wsX5_file_r4
  exact List.forall_mem_cons.mpr ⟨wm_320, List.forall_mem_cons.mpr ⟨wm_319, List.forall_mem_cons.mpr ⟨wm_318, List.forall_mem_cons.mpr ⟨wm_317, List.forall_mem_cons.mpr ⟨wm_316, List.forall_mem_cons.mpr ⟨wm_45, List.forall_mem_cons.mpr ⟨wm_315, List.forall_mem_cons.mpr ⟨wm_314, List.forall_mem_cons.mpr ⟨wm_54, List.forall_mem_cons.mpr ⟨wm_53, List.forall_mem_cons.mpr ⟨wm_79, List.forall_mem_cons.mpr ⟨wm_57, List.forall_mem_cons.mpr ⟨wm_77, List.forall_mem_cons.mpr ⟨wm_313, List.forall_mem_cons.mpr ⟨wm_312, List.forall_mem_cons.mpr ⟨wm_311, List.forall_mem_cons.mpr ⟨wm_310, List.forall_mem_cons.mpr ⟨wm_55, List.forall_mem_cons.mpr ⟨wm_309, List.forall_mem_cons.mpr ⟨wm_308, List.forall_mem_cons.mpr ⟨wm_307, List.forall_mem_cons.mpr ⟨wm_306, List.forall_mem_cons.mpr ⟨wm_305, List.forall_mem_cons.mpr ⟨wm_304, (fun _ h => absurd h List.not_mem_nil)⟩⟩⟩⟩⟩⟩⟩⟩⟩⟩⟩⟩⟩⟩⟩⟩⟩⟩⟩⟩⟩⟩⟩⟩
theorem wm_321 : (.methodLink RX3 52 yX1_copyTo : Cond) ∈ lw_tbl := List.mem_of_getElem? (i := 314) (by decide +kernel)
theorem wm_322 : (.methodLink RX3 76 yX1_compute : Cond) ∈ lw_tbl := List.mem_of_getElem? (i := 313) (by decide +kernel)
set_option maxRecDepth 100000 in
theorem wm_323 : (.code yX3_dayOf cX3_dayOf 2 (some .int) : Cond) ∈ lw_tbl := List.mem_of_getElem? (i := 312) rfl
theorem wm_324 : (.selects RX3 yX3_dayOf yX3_dayOf : Cond) ∈ lw_tbl := List.mem_of_getElem? (i := 311) (by decide +kernel)
theorem wm_325 : (.instanceMethod yX3_dayOf : Cond) ∈ lw_tbl := List.mem_of_getElem? (i := 310) (by decide +kernel)
theorem wm_326 : (.methodLink RX3 73 yX3_dayOf : Cond) ∈ lw_tbl := List.mem_of_getElem? (i := 309) (by decide +kernel)
set_option maxRecDepth 100000 in
theorem wm_327 : (.code yX3_fileOf cX3_fileOf 2 (some .int) : Cond) ∈ lw_tbl := List.mem_of_getElem? (i := 308) rfl
theorem wm_328 : (.selects RX3 yX3_fileOf yX3_fileOf : Cond) ∈ lw_tbl := List.mem_of_getElem? (i := 307) (by decide +kernel)
theorem wm_329 : (.instanceMethod yX3_fileOf : Cond) ∈ lw_tbl := List.mem_of_getElem? (i := 306) (by decide +kernel)
theorem wm_330 : (.methodLink RX3 70 yX3_fileOf : Cond) ∈ lw_tbl := List.mem_of_getElem? (i := 305) (by decide +kernel)
set_option maxRecDepth 100000 in
theorem wm_331 : (.code yX3_kindOf cX3_kindOf 2 (some .int) : Cond) ∈ lw_tbl := List.mem_of_getElem? (i := 304) rfl
theorem wm_332 : (.selects RX3 yX3_kindOf yX3_kindOf : Cond) ∈ lw_tbl := List.mem_of_getElem? (i := 303) (by decide +kernel)
theorem wm_333 : (.instanceMethod yX3_kindOf : Cond) ∈ lw_tbl := List.mem_of_getElem? (i := 302) (by decide +kernel)
theorem wm_334 : (.methodLink RX3 66 yX3_kindOf : Cond) ∈ lw_tbl := List.mem_of_getElem? (i := 301) (by decide +kernel)
theorem wm_335 : (.methodLink RX2 19 yX2_push : Cond) ∈ lw_tbl := List.mem_of_getElem? (i := 300) (by decide +kernel)
set_option maxRecDepth 100000 in
theorem wm_336 : (.code yX2_pushWord cX2_pushWord 3 none : Cond) ∈ lw_tbl := List.mem_of_getElem? (i := 299) rfl
theorem wm_337 : (.selects RX2 yX2_pushWord yX2_pushWord : Cond) ∈ lw_tbl := List.mem_of_getElem? (i := 298) (by decide +kernel)
theorem wm_338 : (.instanceMethod yX2_pushWord : Cond) ∈ lw_tbl := List.mem_of_getElem? (i := 297) (by decide +kernel)
theorem in_wsX5_file_r5 : ∀ w ∈ wsX5_file_r5, w ∈ lw_tbl := by
  unfold wsX5_file_r5
  exact List.forall_mem_cons.mpr ⟨wm_338, List.forall_mem_cons.mpr ⟨wm_337, List.forall_mem_cons.mpr ⟨wm_336, List.forall_mem_cons.mpr ⟨wm_335, List.forall_mem_cons.mpr ⟨wm_188, List.forall_mem_cons.mpr ⟨wm_187, List.forall_mem_cons.mpr ⟨wm_186, List.forall_mem_cons.mpr ⟨wm_334, List.forall_mem_cons.mpr ⟨wm_333, List.forall_mem_cons.mpr ⟨wm_332, List.forall_mem_cons.mpr ⟨wm_331, List.forall_mem_cons.mpr ⟨wm_330, List.forall_mem_cons.mpr ⟨wm_329, List.forall_mem_cons.mpr ⟨wm_328, List.forall_mem_cons.mpr ⟨wm_327, List.forall_mem_cons.mpr ⟨wm_326, List.forall_mem_cons.mpr ⟨wm_325, List.forall_mem_cons.mpr ⟨wm_324, List.forall_mem_cons.mpr ⟨wm_323, List.forall_mem_cons.mpr ⟨wm_322, List.forall_mem_cons.mpr ⟨wm_321, (fun _ h => absurd h List.not_mem_nil)⟩⟩⟩⟩⟩⟩⟩⟩⟩⟩⟩⟩⟩⟩⟩⟩⟩⟩⟩⟩⟩
theorem in_wsX5_file : ∀ w ∈ wsX5_file, w ∈ lw_tbl := by
  unfold wsX5_file
  exact List.forall_mem_cons.mpr ⟨wm_292, List.forall_mem_append.mpr ⟨List.forall_mem_append.mpr ⟨List.forall_mem_append.mpr ⟨List.forall_mem_append.mpr ⟨List.forall_mem_append.mpr ⟨List.forall_mem_append.mpr ⟨List.forall_mem_append.mpr ⟨in_wsX5_file_r1, List.forall_mem_append.mpr ⟨in_wsX5_file_r2, List.forall_mem_append.mpr ⟨in_wsX5_file_r3, List.forall_mem_append.mpr ⟨in_wsX5_file_r4, in_wsX5_file_r5⟩⟩⟩⟩, in_wsX50⟩, in_wsX00⟩, in_wsX20⟩, in_wsX10⟩, in_wsX40⟩, in_wsX30⟩⟩
theorem wm_339 : (.selects RX6 yX6_file yX6_file : Cond) ∈ lw_tbl := List.mem_of_getElem? (i := 733) (by decide +kernel)
theorem wm_340 : (.instanceMethod yX6_file : Cond) ∈ lw_tbl := List.mem_of_getElem? (i := 732) (by decide +kernel)
theorem wm_341 : (.methodLink RL 47 yX6_file : Cond) ∈ lw_tbl := List.mem_of_getElem? (i := 731) (by decide +kernel)
set_option maxRecDepth 100000 in
theorem wm_342 : (.code yX6_file cX6_file 5 (some .int) : Cond) ∈ lw_tbl := List.mem_of_getElem? (i := 734) rfl
theorem wm_343 : (.constant RX6 170 (1000000) : Cond) ∈ lw_tbl := List.mem_of_getElem? (i := 738) (by decide +kernel)
set_option maxRecDepth 100000 in
theorem wm_344 : (.code yX6_isDay cX6_isDay 1 (some .boolean) : Cond) ∈ lw_tbl := List.mem_of_getElem? (i := 737) rfl
theorem wm_345 : (.static yX6_isDay : Cond) ∈ lw_tbl := List.mem_of_getElem? (i := 736) (by decide +kernel)
theorem wm_346 : (.methodLink RX6 218 yX6_isDay : Cond) ∈ lw_tbl := List.mem_of_getElem? (i := 735) (by decide +kernel)
theorem wm_347 : (.fieldLink RX6 163 "FixityRowsModel" "files" "I" : Cond) ∈ lw_tbl := List.mem_of_getElem? (i := 596) (by decide +kernel)
theorem in_wsX6_file_r1 : ∀ w ∈ wsX6_file_r1, w ∈ lw_tbl := by
  unfold wsX6_file_r1
  exact List.forall_mem_cons.mpr ⟨wm_196, List.forall_mem_cons.mpr ⟨wm_347, List.forall_mem_cons.mpr ⟨wm_94, List.forall_mem_cons.mpr ⟨wm_124, List.forall_mem_cons.mpr ⟨wm_95, List.forall_mem_cons.mpr ⟨wm_96, List.forall_mem_cons.mpr ⟨wm_195, List.forall_mem_cons.mpr ⟨wm_97, List.forall_mem_cons.mpr ⟨wm_98, List.forall_mem_cons.mpr ⟨wm_266, List.forall_mem_cons.mpr ⟨wm_265, List.forall_mem_cons.mpr ⟨wm_190, List.forall_mem_cons.mpr ⟨wm_264, List.forall_mem_cons.mpr ⟨wm_346, List.forall_mem_cons.mpr ⟨wm_345, List.forall_mem_cons.mpr ⟨wm_344, List.forall_mem_cons.mpr ⟨wm_343, List.forall_mem_cons.mpr ⟨wm_263, List.forall_mem_cons.mpr ⟨wm_262, List.forall_mem_cons.mpr ⟨wm_261, List.forall_mem_cons.mpr ⟨wm_260, List.forall_mem_cons.mpr ⟨wm_259, List.forall_mem_cons.mpr ⟨wm_81, List.forall_mem_cons.mpr ⟨wm_258, (fun _ h => absurd h List.not_mem_nil)⟩⟩⟩⟩⟩⟩⟩⟩⟩⟩⟩⟩⟩⟩⟩⟩⟩⟩⟩⟩⟩⟩⟩⟩
theorem wm_348 : (.methodLink RX6 221 yX6_enter : Cond) ∈ lw_tbl := List.mem_of_getElem? (i := 739) (by decide +kernel)
theorem in_wsX6_file_r2 : ∀ w ∈ wsX6_file_r2, w ∈ lw_tbl := by
  unfold wsX6_file_r2
  exact List.forall_mem_cons.mpr ⟨wm_257, List.forall_mem_cons.mpr ⟨wm_256, List.forall_mem_cons.mpr ⟨wm_255, List.forall_mem_cons.mpr ⟨wm_122, List.forall_mem_cons.mpr ⟨wm_112, List.forall_mem_cons.mpr ⟨wm_254, List.forall_mem_cons.mpr ⟨wm_253, List.forall_mem_cons.mpr ⟨wm_280, List.forall_mem_cons.mpr ⟨wm_279, List.forall_mem_cons.mpr ⟨wm_123, List.forall_mem_cons.mpr ⟨wm_121, List.forall_mem_cons.mpr ⟨wm_174, List.forall_mem_cons.mpr ⟨wm_278, List.forall_mem_cons.mpr ⟨wm_277, List.forall_mem_cons.mpr ⟨wm_276, List.forall_mem_cons.mpr ⟨wm_275, List.forall_mem_cons.mpr ⟨wm_274, List.forall_mem_cons.mpr ⟨wm_273, List.forall_mem_cons.mpr ⟨wm_272, List.forall_mem_cons.mpr ⟨wm_271, List.forall_mem_cons.mpr ⟨wm_270, List.forall_mem_cons.mpr ⟨wm_269, List.forall_mem_cons.mpr ⟨wm_268, List.forall_mem_cons.mpr ⟨wm_348, (fun _ h => absurd h List.not_mem_nil)⟩⟩⟩⟩⟩⟩⟩⟩⟩⟩⟩⟩⟩⟩⟩⟩⟩⟩⟩⟩⟩⟩⟩⟩
set_option maxRecDepth 100000 in
theorem wm_349 : (.code yX6_number cX6_number 3 none : Cond) ∈ lw_tbl := List.mem_of_getElem? (i := 750) rfl
theorem wm_350 : (.selects RX6 yX6_number yX6_number : Cond) ∈ lw_tbl := List.mem_of_getElem? (i := 16) (by decide +kernel)
theorem wm_351 : (.instanceMethod yX6_number : Cond) ∈ lw_tbl := List.mem_of_getElem? (i := 749) (by decide +kernel)
theorem wm_352 : (.methodLink RX6 200 yX6_number : Cond) ∈ lw_tbl := List.mem_of_getElem? (i := 747) (by decide +kernel)
set_option maxRecDepth 100000 in
theorem wm_353 : (.code yX6_chained cX6_chained 3 none : Cond) ∈ lw_tbl := List.mem_of_getElem? (i := 746) rfl
theorem wm_354 : (.selects RX6 yX6_chained yX6_chained : Cond) ∈ lw_tbl := List.mem_of_getElem? (i := 15) (by decide +kernel)
theorem wm_355 : (.instanceMethod yX6_chained : Cond) ∈ lw_tbl := List.mem_of_getElem? (i := 745) (by decide +kernel)
theorem wm_356 : (.methodLink RX6 206 yX6_chained : Cond) ∈ lw_tbl := List.mem_of_getElem? (i := 743) (by decide +kernel)
theorem wm_357 : (.fieldLink RX6 203 "FixityRowsModel" "rows" "I" : Cond) ∈ lw_tbl := List.mem_of_getElem? (i := 609) (by decide +kernel)
set_option maxRecDepth 100000 in
theorem wm_358 : (.code yX6_enter cX6_enter 5 none : Cond) ∈ lw_tbl := List.mem_of_getElem? (i := 742) rfl
theorem wm_359 : (.selects RX6 yX6_enter yX6_enter : Cond) ∈ lw_tbl := List.mem_of_getElem? (i := 14) (by decide +kernel)
theorem wm_360 : (.instanceMethod yX6_enter : Cond) ∈ lw_tbl := List.mem_of_getElem? (i := 741) (by decide +kernel)
theorem in_wsX6_file_r3 : ∀ w ∈ wsX6_file_r3, w ∈ lw_tbl := by
  unfold wsX6_file_r3
  exact List.forall_mem_cons.mpr ⟨wm_360, List.forall_mem_cons.mpr ⟨wm_359, List.forall_mem_cons.mpr ⟨wm_358, List.forall_mem_cons.mpr ⟨wm_357, List.forall_mem_cons.mpr ⟨wm_86, List.forall_mem_cons.mpr ⟨wm_85, List.forall_mem_cons.mpr ⟨wm_84, List.forall_mem_cons.mpr ⟨wm_83, List.forall_mem_cons.mpr ⟨wm_356, List.forall_mem_cons.mpr ⟨wm_355, List.forall_mem_cons.mpr ⟨wm_354, List.forall_mem_cons.mpr ⟨wm_353, List.forall_mem_cons.mpr ⟨wm_352, List.forall_mem_cons.mpr ⟨wm_351, List.forall_mem_cons.mpr ⟨wm_350, List.forall_mem_cons.mpr ⟨wm_349, (fun _ h => absurd h List.not_mem_nil)⟩⟩⟩⟩⟩⟩⟩⟩⟩⟩⟩⟩⟩⟩⟩⟩
theorem in_wsX6_file : ∀ w ∈ wsX6_file, w ∈ lw_tbl := by
  unfold wsX6_file
  exact List.forall_mem_cons.mpr ⟨wm_342, List.forall_mem_append.mpr ⟨List.forall_mem_append.mpr ⟨in_wsX6_file_r1, List.forall_mem_append.mpr ⟨in_wsX6_file_r2, in_wsX6_file_r3⟩⟩, in_wsX60⟩⟩
theorem wm_361 : (.selects RX5 yX5_alter yX5_alter : Cond) ∈ lw_tbl := List.mem_of_getElem? (i := 317) (by decide +kernel)
theorem wm_362 : (.instanceMethod yX5_alter : Cond) ∈ lw_tbl := List.mem_of_getElem? (i := 316) (by decide +kernel)
theorem wm_363 : (.methodLink RL 48 yX5_alter : Cond) ∈ lw_tbl := List.mem_of_getElem? (i := 315) (by decide +kernel)
set_option maxRecDepth 100000 in
theorem wm_364 : (.code yX5_alter cX5_alter 6 (some .int) : Cond) ∈ lw_tbl := List.mem_of_getElem? (i := 318) rfl
theorem wm_365 : (.methodLink RX2 23 yX2_has : Cond) ∈ lw_tbl := List.mem_of_getElem? (i := 332) (by decide +kernel)
set_option maxRecDepth 100000 in
theorem wm_366 : (.code yX2_replace cX2_replace 3 none : Cond) ∈ lw_tbl := List.mem_of_getElem? (i := 331) rfl
theorem wm_367 : (.selects RX2 yX2_replace yX2_replace : Cond) ∈ lw_tbl := List.mem_of_getElem? (i := 330) (by decide +kernel)
theorem wm_368 : (.instanceMethod yX2_replace : Cond) ∈ lw_tbl := List.mem_of_getElem? (i := 329) (by decide +kernel)
theorem wm_369 : (.methodLink RX5 135 yX2_replace : Cond) ∈ lw_tbl := List.mem_of_getElem? (i := 328) (by decide +kernel)
theorem wm_370 : (.methodLink RX5 131 yX2_value : Cond) ∈ lw_tbl := List.mem_of_getElem? (i := 327) (by decide +kernel)
set_option maxRecDepth 100000 in
theorem wm_371 : (.code yX2_has cX2_has 2 (some .boolean) : Cond) ∈ lw_tbl := List.mem_of_getElem? (i := 326) rfl
theorem wm_372 : (.selects RX2 yX2_has yX2_has : Cond) ∈ lw_tbl := List.mem_of_getElem? (i := 325) (by decide +kernel)
theorem wm_373 : (.instanceMethod yX2_has : Cond) ∈ lw_tbl := List.mem_of_getElem? (i := 324) (by decide +kernel)
theorem wm_374 : (.methodLink RX5 128 yX2_has : Cond) ∈ lw_tbl := List.mem_of_getElem? (i := 323) (by decide +kernel)
set_option maxRecDepth 100000 in
theorem wm_375 : (.code yX5_isFile cX5_isFile 2 (some .boolean) : Cond) ∈ lw_tbl := List.mem_of_getElem? (i := 322) rfl
theorem wm_376 : (.selects RX5 yX5_isFile yX5_isFile : Cond) ∈ lw_tbl := List.mem_of_getElem? (i := 3) (by decide +kernel)
theorem wm_377 : (.instanceMethod yX5_isFile : Cond) ∈ lw_tbl := List.mem_of_getElem? (i := 321) (by decide +kernel)
theorem wm_378 : (.methodLink RX5 125 yX5_isFile : Cond) ∈ lw_tbl := List.mem_of_getElem? (i := 319) (by decide +kernel)
theorem in_wsX5_alter : ∀ w ∈ wsX5_alter, w ∈ lw_tbl := by
  unfold wsX5_alter
  exact List.forall_mem_cons.mpr ⟨wm_364, List.forall_mem_append.mpr ⟨List.forall_mem_append.mpr ⟨List.forall_mem_append.mpr ⟨List.forall_mem_cons.mpr ⟨wm_50, List.forall_mem_cons.mpr ⟨wm_378, List.forall_mem_cons.mpr ⟨wm_377, List.forall_mem_cons.mpr ⟨wm_376, List.forall_mem_cons.mpr ⟨wm_180, List.forall_mem_cons.mpr ⟨wm_375, List.forall_mem_cons.mpr ⟨wm_301, List.forall_mem_cons.mpr ⟨wm_374, List.forall_mem_cons.mpr ⟨wm_373, List.forall_mem_cons.mpr ⟨wm_372, List.forall_mem_cons.mpr ⟨wm_7, List.forall_mem_cons.mpr ⟨wm_371, List.forall_mem_cons.mpr ⟨wm_185, List.forall_mem_cons.mpr ⟨wm_370, List.forall_mem_cons.mpr ⟨wm_201, List.forall_mem_cons.mpr ⟨wm_238, List.forall_mem_cons.mpr ⟨wm_237, List.forall_mem_cons.mpr ⟨wm_70, List.forall_mem_cons.mpr ⟨wm_369, List.forall_mem_cons.mpr ⟨wm_368, List.forall_mem_cons.mpr ⟨wm_367, List.forall_mem_cons.mpr ⟨wm_366, List.forall_mem_cons.mpr ⟨wm_365, (fun _ h => absurd h List.not_mem_nil)⟩⟩⟩⟩⟩⟩⟩⟩⟩⟩⟩⟩⟩⟩⟩⟩⟩⟩⟩⟩⟩⟩⟩, in_wsX50⟩, in_wsX00⟩, in_wsX20⟩⟩
theorem wm_379 : (.selects RX6 yX6_alter yX6_alter : Cond) ∈ lw_tbl := List.mem_of_getElem? (i := 753) (by decide +kernel)
theorem wm_380 : (.instanceMethod yX6_alter : Cond) ∈ lw_tbl := List.mem_of_getElem? (i := 752) (by decide +kernel)
theorem wm_381 : (.methodLink RL 52 yX6_alter : Cond) ∈ lw_tbl := List.mem_of_getElem? (i := 751) (by decide +kernel)
set_option maxRecDepth 100000 in
theorem wm_382 : (.code yX6_alter cX6_alter 5 (some .int) : Cond) ∈ lw_tbl := List.mem_of_getElem? (i := 754) rfl
set_option maxRecDepth 100000 in
theorem wm_383 : (.code yX6_isFile cX6_isFile 2 (some .boolean) : Cond) ∈ lw_tbl := List.mem_of_getElem? (i := 758) rfl
theorem wm_384 : (.selects RX6 yX6_isFile yX6_isFile : Cond) ∈ lw_tbl := List.mem_of_getElem? (i := 17) (by decide +kernel)
theorem wm_385 : (.instanceMethod yX6_isFile : Cond) ∈ lw_tbl := List.mem_of_getElem? (i := 757) (by decide +kernel)
theorem wm_386 : (.methodLink RX6 225 yX6_isFile : Cond) ∈ lw_tbl := List.mem_of_getElem? (i := 755) (by decide +kernel)
theorem in_wsX6_alter : ∀ w ∈ wsX6_alter, w ∈ lw_tbl := by
  unfold wsX6_alter
  exact List.forall_mem_cons.mpr ⟨wm_382, List.forall_mem_append.mpr ⟨List.forall_mem_cons.mpr ⟨wm_196, List.forall_mem_cons.mpr ⟨wm_96, List.forall_mem_cons.mpr ⟨wm_97, List.forall_mem_cons.mpr ⟨wm_386, List.forall_mem_cons.mpr ⟨wm_385, List.forall_mem_cons.mpr ⟨wm_384, List.forall_mem_cons.mpr ⟨wm_190, List.forall_mem_cons.mpr ⟨wm_383, List.forall_mem_cons.mpr ⟨wm_347, List.forall_mem_cons.mpr ⟨wm_266, List.forall_mem_cons.mpr ⟨wm_265, List.forall_mem_cons.mpr ⟨wm_264, (fun _ h => absurd h List.not_mem_nil)⟩⟩⟩⟩⟩⟩⟩⟩⟩⟩⟩⟩, in_wsX60⟩⟩
theorem wm_387 : (.selects RX5 yX5_cut yX5_cut : Cond) ∈ lw_tbl := List.mem_of_getElem? (i := 335) (by decide +kernel)
theorem wm_388 : (.instanceMethod yX5_cut : Cond) ∈ lw_tbl := List.mem_of_getElem? (i := 334) (by decide +kernel)
theorem wm_389 : (.methodLink RL 53 yX5_cut : Cond) ∈ lw_tbl := List.mem_of_getElem? (i := 333) (by decide +kernel)
set_option maxRecDepth 100000 in
theorem wm_390 : (.code yX5_cut cX5_cut 5 (some .int) : Cond) ∈ lw_tbl := List.mem_of_getElem? (i := 336) rfl
theorem wm_391 : (.methodLink RX5 139 yX2_count : Cond) ∈ lw_tbl := List.mem_of_getElem? (i := 337) (by decide +kernel)
theorem in_wsX5_cut : ∀ w ∈ wsX5_cut, w ∈ lw_tbl := by
  unfold wsX5_cut
  exact List.forall_mem_cons.mpr ⟨wm_390, List.forall_mem_append.mpr ⟨List.forall_mem_append.mpr ⟨List.forall_mem_append.mpr ⟨List.forall_mem_cons.mpr ⟨wm_50, List.forall_mem_cons.mpr ⟨wm_378, List.forall_mem_cons.mpr ⟨wm_377, List.forall_mem_cons.mpr ⟨wm_376, List.forall_mem_cons.mpr ⟨wm_180, List.forall_mem_cons.mpr ⟨wm_375, List.forall_mem_cons.mpr ⟨wm_301, List.forall_mem_cons.mpr ⟨wm_391, List.forall_mem_cons.mpr ⟨wm_208, List.forall_mem_cons.mpr ⟨wm_207, List.forall_mem_cons.mpr ⟨wm_7, List.forall_mem_cons.mpr ⟨wm_206, List.forall_mem_cons.mpr ⟨wm_185, List.forall_mem_cons.mpr ⟨wm_303, List.forall_mem_cons.mpr ⟨wm_302, List.forall_mem_cons.mpr ⟨wm_320, List.forall_mem_cons.mpr ⟨wm_319, (fun _ h => absurd h List.not_mem_nil)⟩⟩⟩⟩⟩⟩⟩⟩⟩⟩⟩⟩⟩⟩⟩⟩⟩, in_wsX50⟩, in_wsX00⟩, in_wsX20⟩⟩
theorem wm_392 : (.selects RX6 yX6_cut yX6_cut : Cond) ∈ lw_tbl := List.mem_of_getElem? (i := 761) (by decide +kernel)
theorem wm_393 : (.instanceMethod yX6_cut : Cond) ∈ lw_tbl := List.mem_of_getElem? (i := 760) (by decide +kernel)
theorem wm_394 : (.methodLink RL 56 yX6_cut : Cond) ∈ lw_tbl := List.mem_of_getElem? (i := 759) (by decide +kernel)
set_option maxRecDepth 100000 in
theorem wm_395 : (.code yX6_cut cX6_cut 4 (some .int) : Cond) ∈ lw_tbl := List.mem_of_getElem? (i := 762) rfl
theorem in_wsX6_cut : ∀ w ∈ wsX6_cut, w ∈ lw_tbl := by
  unfold wsX6_cut
  exact List.forall_mem_cons.mpr ⟨wm_395, List.forall_mem_append.mpr ⟨List.forall_mem_cons.mpr ⟨wm_196, List.forall_mem_cons.mpr ⟨wm_96, List.forall_mem_cons.mpr ⟨wm_386, List.forall_mem_cons.mpr ⟨wm_385, List.forall_mem_cons.mpr ⟨wm_384, List.forall_mem_cons.mpr ⟨wm_190, List.forall_mem_cons.mpr ⟨wm_383, List.forall_mem_cons.mpr ⟨wm_347, List.forall_mem_cons.mpr ⟨wm_266, List.forall_mem_cons.mpr ⟨wm_265, List.forall_mem_cons.mpr ⟨wm_264, (fun _ h => absurd h List.not_mem_nil)⟩⟩⟩⟩⟩⟩⟩⟩⟩⟩⟩, in_wsX60⟩⟩
theorem wm_396 : (.selects RX5 yX5_read yX5_read : Cond) ∈ lw_tbl := List.mem_of_getElem? (i := 340) (by decide +kernel)
theorem wm_397 : (.instanceMethod yX5_read : Cond) ∈ lw_tbl := List.mem_of_getElem? (i := 339) (by decide +kernel)
theorem wm_398 : (.methodLink RL 57 yX5_read : Cond) ∈ lw_tbl := List.mem_of_getElem? (i := 338) (by decide +kernel)
set_option maxRecDepth 100000 in
theorem wm_399 : (.code yX5_read cX5_read 3 (some .int) : Cond) ∈ lw_tbl := List.mem_of_getElem? (i := 341) rfl
set_option maxRecDepth 100000 in
theorem wm_400 : (.code yX5_matches cX5_matches 3 (some .boolean) : Cond) ∈ lw_tbl := List.mem_of_getElem? (i := 349) rfl
theorem wm_401 : (.selects RX5 yX5_matches yX5_matches : Cond) ∈ lw_tbl := List.mem_of_getElem? (i := 5) (by decide +kernel)
theorem wm_402 : (.instanceMethod yX5_matches : Cond) ∈ lw_tbl := List.mem_of_getElem? (i := 348) (by decide +kernel)
theorem wm_403 : (.methodLink RX5 162 yX5_matches : Cond) ∈ lw_tbl := List.mem_of_getElem? (i := 346) (by decide +kernel)
set_option maxRecDepth 100000 in
theorem wm_404 : (.code yX5_check cX5_check 5 (some .boolean) : Cond) ∈ lw_tbl := List.mem_of_getElem? (i := 345) rfl
theorem wm_405 : (.selects RX5 yX5_check yX5_check : Cond) ∈ lw_tbl := List.mem_of_getElem? (i := 4) (by decide +kernel)
theorem wm_406 : (.instanceMethod yX5_check : Cond) ∈ lw_tbl := List.mem_of_getElem? (i := 344) (by decide +kernel)
theorem wm_407 : (.methodLink RX5 143 yX5_check : Cond) ∈ lw_tbl := List.mem_of_getElem? (i := 342) (by decide +kernel)
theorem in_wsX5_read_r1 : ∀ w ∈ wsX5_read_r1, w ∈ lw_tbl := by
  unfold wsX5_read_r1
  exact List.forall_mem_cons.mpr ⟨wm_378, List.forall_mem_cons.mpr ⟨wm_377, List.forall_mem_cons.mpr ⟨wm_376, List.forall_mem_cons.mpr ⟨wm_180, List.forall_mem_cons.mpr ⟨wm_375, List.forall_mem_cons.mpr ⟨wm_301, List.forall_mem_cons.mpr ⟨wm_300, List.forall_mem_cons.mpr ⟨wm_299, List.forall_mem_cons.mpr ⟨wm_298, List.forall_mem_cons.mpr ⟨wm_297, List.forall_mem_cons.mpr ⟨wm_407, List.forall_mem_cons.mpr ⟨wm_406, List.forall_mem_cons.mpr ⟨wm_405, List.forall_mem_cons.mpr ⟨wm_404, List.forall_mem_cons.mpr ⟨wm_50, List.forall_mem_cons.mpr ⟨wm_44, List.forall_mem_cons.mpr ⟨wm_403, List.forall_mem_cons.mpr ⟨wm_402, List.forall_mem_cons.mpr ⟨wm_401, List.forall_mem_cons.mpr ⟨wm_400, List.forall_mem_cons.mpr ⟨wm_10, List.forall_mem_cons.mpr ⟨wm_14, List.forall_mem_cons.mpr ⟨wm_244, List.forall_mem_cons.mpr ⟨wm_243, (fun _ h => absurd h List.not_mem_nil)⟩⟩⟩⟩⟩⟩⟩⟩⟩⟩⟩⟩⟩⟩⟩⟩⟩⟩⟩⟩⟩⟩⟩⟩
theorem in_wsX5_read_r2 : ∀ w ∈ wsX5_read_r2, w ∈ lw_tbl := by
  unfold wsX5_read_r2
  exact List.forall_mem_cons.mpr ⟨wm_242, List.forall_mem_cons.mpr ⟨wm_11, List.forall_mem_cons.mpr ⟨wm_241, List.forall_mem_cons.mpr ⟨wm_30, List.forall_mem_cons.mpr ⟨wm_240, List.forall_mem_cons.mpr ⟨wm_208, List.forall_mem_cons.mpr ⟨wm_207, List.forall_mem_cons.mpr ⟨wm_7, List.forall_mem_cons.mpr ⟨wm_206, List.forall_mem_cons.mpr ⟨wm_185, List.forall_mem_cons.mpr ⟨wm_239, List.forall_mem_cons.mpr ⟨wm_201, List.forall_mem_cons.mpr ⟨wm_238, List.forall_mem_cons.mpr ⟨wm_237, List.forall_mem_cons.mpr ⟨wm_70, List.forall_mem_cons.mpr ⟨wm_214, List.forall_mem_cons.mpr ⟨wm_213, List.forall_mem_cons.mpr ⟨wm_212, List.forall_mem_cons.mpr ⟨wm_15, List.forall_mem_cons.mpr ⟨wm_211, List.forall_mem_cons.mpr ⟨wm_36, List.forall_mem_cons.mpr ⟨wm_210, List.forall_mem_cons.mpr ⟨wm_35, List.forall_mem_cons.mpr ⟨wm_209, (fun _ h => absurd h List.not_mem_nil)⟩⟩⟩⟩⟩⟩⟩⟩⟩⟩⟩⟩⟩⟩⟩⟩⟩⟩⟩⟩⟩⟩⟩⟩
theorem in_wsX5_read_r3 : ∀ w ∈ wsX5_read_r3, w ∈ lw_tbl := by
  unfold wsX5_read_r3
  exact List.forall_mem_cons.mpr ⟨wm_205, List.forall_mem_cons.mpr ⟨wm_204, List.forall_mem_cons.mpr ⟨wm_203, List.forall_mem_cons.mpr ⟨wm_202, List.forall_mem_cons.mpr ⟨wm_236, List.forall_mem_cons.mpr ⟨wm_235, List.forall_mem_cons.mpr ⟨wm_234, List.forall_mem_cons.mpr ⟨wm_233, List.forall_mem_cons.mpr ⟨wm_232, List.forall_mem_cons.mpr ⟨wm_231, List.forall_mem_cons.mpr ⟨wm_230, List.forall_mem_cons.mpr ⟨wm_229, List.forall_mem_cons.mpr ⟨wm_228, List.forall_mem_cons.mpr ⟨wm_227, List.forall_mem_cons.mpr ⟨wm_226, List.forall_mem_cons.mpr ⟨wm_225, List.forall_mem_cons.mpr ⟨wm_224, List.forall_mem_cons.mpr ⟨wm_223, List.forall_mem_cons.mpr ⟨wm_222, List.forall_mem_cons.mpr ⟨wm_221, List.forall_mem_cons.mpr ⟨wm_220, List.forall_mem_cons.mpr ⟨wm_219, List.forall_mem_cons.mpr ⟨wm_218, List.forall_mem_cons.mpr ⟨wm_217, (fun _ h => absurd h List.not_mem_nil)⟩⟩⟩⟩⟩⟩⟩⟩⟩⟩⟩⟩⟩⟩⟩⟩⟩⟩⟩⟩⟩⟩⟩⟩
set_option maxRecDepth 100000 in
theorem wm_408 : (.code yX1_equalTo cX1_equalTo 3 (some .boolean) : Cond) ∈ lw_tbl := List.mem_of_getElem? (i := 353) rfl
theorem wm_409 : (.selects RX1 yX1_equalTo yX1_equalTo : Cond) ∈ lw_tbl := List.mem_of_getElem? (i := 352) (by decide +kernel)
theorem wm_410 : (.instanceMethod yX1_equalTo : Cond) ∈ lw_tbl := List.mem_of_getElem? (i := 351) (by decide +kernel)
theorem wm_411 : (.methodLink RX5 202 yX1_equalTo : Cond) ∈ lw_tbl := List.mem_of_getElem? (i := 350) (by decide +kernel)
theorem in_wsX5_read_r4 : ∀ w ∈ wsX5_read_r4, w ∈ lw_tbl := by
  unfold wsX5_read_r4
  exact List.forall_mem_cons.mpr ⟨wm_216, List.forall_mem_cons.mpr ⟨wm_411, List.forall_mem_cons.mpr ⟨wm_410, List.forall_mem_cons.mpr ⟨wm_409, List.forall_mem_cons.mpr ⟨wm_408, List.forall_mem_cons.mpr ⟨wm_318, List.forall_mem_cons.mpr ⟨wm_317, List.forall_mem_cons.mpr ⟨wm_316, List.forall_mem_cons.mpr ⟨wm_45, List.forall_mem_cons.mpr ⟨wm_315, List.forall_mem_cons.mpr ⟨wm_314, List.forall_mem_cons.mpr ⟨wm_54, List.forall_mem_cons.mpr ⟨wm_53, List.forall_mem_cons.mpr ⟨wm_79, List.forall_mem_cons.mpr ⟨wm_57, List.forall_mem_cons.mpr ⟨wm_77, List.forall_mem_cons.mpr ⟨wm_313, List.forall_mem_cons.mpr ⟨wm_312, List.forall_mem_cons.mpr ⟨wm_311, List.forall_mem_cons.mpr ⟨wm_310, List.forall_mem_cons.mpr ⟨wm_55, List.forall_mem_cons.mpr ⟨wm_309, List.forall_mem_cons.mpr ⟨wm_302, List.forall_mem_cons.mpr ⟨wm_320, (fun _ h => absurd h List.not_mem_nil)⟩⟩⟩⟩⟩⟩⟩⟩⟩⟩⟩⟩⟩⟩⟩⟩⟩⟩⟩⟩⟩⟩⟩⟩
theorem in_wsX5_read_r5 : ∀ w ∈ wsX5_read_r5, w ∈ lw_tbl := by
  unfold wsX5_read_r5
  exact List.forall_mem_cons.mpr ⟨wm_319, List.forall_mem_cons.mpr ⟨wm_308, List.forall_mem_cons.mpr ⟨wm_307, List.forall_mem_cons.mpr ⟨wm_306, List.forall_mem_cons.mpr ⟨wm_305, List.forall_mem_cons.mpr ⟨wm_304, List.forall_mem_cons.mpr ⟨wm_338, List.forall_mem_cons.mpr ⟨wm_337, List.forall_mem_cons.mpr ⟨wm_336, List.forall_mem_cons.mpr ⟨wm_335, List.forall_mem_cons.mpr ⟨wm_188, List.forall_mem_cons.mpr ⟨wm_187, List.forall_mem_cons.mpr ⟨wm_186, List.forall_mem_cons.mpr ⟨wm_334, List.forall_mem_cons.mpr ⟨wm_333, List.forall_mem_cons.mpr ⟨wm_332, List.forall_mem_cons.mpr ⟨wm_331, List.forall_mem_cons.mpr ⟨wm_330, List.forall_mem_cons.mpr ⟨wm_329, List.forall_mem_cons.mpr ⟨wm_328, List.forall_mem_cons.mpr ⟨wm_327, List.forall_mem_cons.mpr ⟨wm_326, List.forall_mem_cons.mpr ⟨wm_325, List.forall_mem_cons.mpr ⟨wm_324, (fun _ h => absurd h List.not_mem_nil)⟩⟩⟩⟩⟩⟩⟩⟩⟩⟩⟩⟩⟩⟩⟩⟩⟩⟩⟩⟩⟩⟩⟩⟩
theorem in_wsX5_read_r6 : ∀ w ∈ wsX5_read_r6, w ∈ lw_tbl := by
  unfold wsX5_read_r6
  exact List.forall_mem_cons.mpr ⟨wm_323, List.forall_mem_cons.mpr ⟨wm_322, List.forall_mem_cons.mpr ⟨wm_321, List.forall_mem_cons.mpr ⟨wm_247, List.forall_mem_cons.mpr ⟨wm_246, List.forall_mem_cons.mpr ⟨wm_245, (fun _ h => absurd h List.not_mem_nil)⟩⟩⟩⟩⟩⟩
theorem in_wsX5_read : ∀ w ∈ wsX5_read, w ∈ lw_tbl := by
  unfold wsX5_read
  exact List.forall_mem_cons.mpr ⟨wm_399, List.forall_mem_append.mpr ⟨List.forall_mem_append.mpr ⟨List.forall_mem_append.mpr ⟨List.forall_mem_append.mpr ⟨List.forall_mem_append.mpr ⟨List.forall_mem_append.mpr ⟨List.forall_mem_append.mpr ⟨in_wsX5_read_r1, List.forall_mem_append.mpr ⟨in_wsX5_read_r2, List.forall_mem_append.mpr ⟨in_wsX5_read_r3, List.forall_mem_append.mpr ⟨in_wsX5_read_r4, List.forall_mem_append.mpr ⟨in_wsX5_read_r5, in_wsX5_read_r6⟩⟩⟩⟩⟩, in_wsX50⟩, in_wsX00⟩, in_wsX40⟩, in_wsX20⟩, in_wsX10⟩, in_wsX30⟩⟩
theorem wm_412 : (.selects RX6 yX6_read yX6_read : Cond) ∈ lw_tbl := List.mem_of_getElem? (i := 765) (by decide +kernel)
theorem wm_413 : (.instanceMethod yX6_read : Cond) ∈ lw_tbl := List.mem_of_getElem? (i := 764) (by decide +kernel)
theorem wm_414 : (.methodLink RL 60 yX6_read : Cond) ∈ lw_tbl := List.mem_of_getElem? (i := 763) (by decide +kernel)
set_option maxRecDepth 100000 in
theorem wm_415 : (.code yX6_read cX6_read 3 (some .int) : Cond) ∈ lw_tbl := List.mem_of_getElem? (i := 766) rfl
theorem wm_416 : (.methodLink RX6 193 yX6_fill : Cond) ∈ lw_tbl := List.mem_of_getElem? (i := 775) (by decide +kernel)
set_option maxRecDepth 100000 in
theorem wm_417 : (.code yX6_fits cX6_fits 2 (some .boolean) : Cond) ∈ lw_tbl := List.mem_of_getElem? (i := 774) rfl
theorem wm_418 : (.selects RX6 yX6_fits yX6_fits : Cond) ∈ lw_tbl := List.mem_of_getElem? (i := 19) (by decide +kernel)
theorem wm_419 : (.instanceMethod yX6_fits : Cond) ∈ lw_tbl := List.mem_of_getElem? (i := 773) (by decide +kernel)
theorem wm_420 : (.methodLink RX6 228 yX6_fits : Cond) ∈ lw_tbl := List.mem_of_getElem? (i := 771) (by decide +kernel)
set_option maxRecDepth 100000 in
theorem wm_421 : (.code yX6_check cX6_check 4 (some .boolean) : Cond) ∈ lw_tbl := List.mem_of_getElem? (i := 770) rfl
theorem wm_422 : (.selects RX6 yX6_check yX6_check : Cond) ∈ lw_tbl := List.mem_of_getElem? (i := 18) (by decide +kernel)
theorem wm_423 : (.instanceMethod yX6_check : Cond) ∈ lw_tbl := List.mem_of_getElem? (i := 769) (by decide +kernel)
theorem wm_424 : (.methodLink RX6 231 yX6_check : Cond) ∈ lw_tbl := List.mem_of_getElem? (i := 767) (by decide +kernel)
theorem in_wsX6_read_r1 : ∀ w ∈ wsX6_read_r1, w ∈ lw_tbl := by
  unfold wsX6_read_r1
  exact List.forall_mem_cons.mpr ⟨wm_196, List.forall_mem_cons.mpr ⟨wm_386, List.forall_mem_cons.mpr ⟨wm_385, List.forall_mem_cons.mpr ⟨wm_384, List.forall_mem_cons.mpr ⟨wm_190, List.forall_mem_cons.mpr ⟨wm_383, List.forall_mem_cons.mpr ⟨wm_347, List.forall_mem_cons.mpr ⟨wm_266, List.forall_mem_cons.mpr ⟨wm_265, List.forall_mem_cons.mpr ⟨wm_264, List.forall_mem_cons.mpr ⟨wm_346, List.forall_mem_cons.mpr ⟨wm_345, List.forall_mem_cons.mpr ⟨wm_344, List.forall_mem_cons.mpr ⟨wm_343, List.forall_mem_cons.mpr ⟨wm_424, List.forall_mem_cons.mpr ⟨wm_423, List.forall_mem_cons.mpr ⟨wm_422, List.forall_mem_cons.mpr ⟨wm_421, List.forall_mem_cons.mpr ⟨wm_93, List.forall_mem_cons.mpr ⟨wm_420, List.forall_mem_cons.mpr ⟨wm_419, List.forall_mem_cons.mpr ⟨wm_418, List.forall_mem_cons.mpr ⟨wm_417, List.forall_mem_cons.mpr ⟨wm_416, (fun _ h => absurd h List.not_mem_nil)⟩⟩⟩⟩⟩⟩⟩⟩⟩⟩⟩⟩⟩⟩⟩⟩⟩⟩⟩⟩⟩⟩⟩⟩
set_option maxRecDepth 100000 in
theorem wm_425 : (.code yX6_has cX6_has 4 (some .boolean) : Cond) ∈ lw_tbl := List.mem_of_getElem? (i := 782) rfl
theorem wm_426 : (.selects RX6 yX6_has yX6_has : Cond) ∈ lw_tbl := List.mem_of_getElem? (i := 21) (by decide +kernel)
theorem wm_427 : (.instanceMethod yX6_has : Cond) ∈ lw_tbl := List.mem_of_getElem? (i := 781) (by decide +kernel)
theorem wm_428 : (.methodLink RX6 196 yX6_has : Cond) ∈ lw_tbl := List.mem_of_getElem? (i := 779) (by decide +kernel)
set_option maxRecDepth 100000 in
theorem wm_429 : (.code yX6_fill cX6_fill 3 none : Cond) ∈ lw_tbl := List.mem_of_getElem? (i := 778) rfl
theorem wm_430 : (.selects RX6 yX6_fill yX6_fill : Cond) ∈ lw_tbl := List.mem_of_getElem? (i := 20) (by decide +kernel)
theorem wm_431 : (.instanceMethod yX6_fill : Cond) ∈ lw_tbl := List.mem_of_getElem? (i := 777) (by decide +kernel)
theorem in_wsX6_read_r2 : ∀ w ∈ wsX6_read_r2, w ∈ lw_tbl := by
  unfold wsX6_read_r2
  exact List.forall_mem_cons.mpr ⟨wm_431, List.forall_mem_cons.mpr ⟨wm_430, List.forall_mem_cons.mpr ⟨wm_429, List.forall_mem_cons.mpr ⟨wm_96, List.forall_mem_cons.mpr ⟨wm_259, List.forall_mem_cons.mpr ⟨wm_81, List.forall_mem_cons.mpr ⟨wm_97, List.forall_mem_cons.mpr ⟨wm_428, List.forall_mem_cons.mpr ⟨wm_427, List.forall_mem_cons.mpr ⟨wm_426, List.forall_mem_cons.mpr ⟨wm_425, List.forall_mem_cons.mpr ⟨wm_95, List.forall_mem_cons.mpr ⟨wm_124, List.forall_mem_cons.mpr ⟨wm_94, List.forall_mem_cons.mpr ⟨wm_258, List.forall_mem_cons.mpr ⟨wm_257, List.forall_mem_cons.mpr ⟨wm_256, List.forall_mem_cons.mpr ⟨wm_255, List.forall_mem_cons.mpr ⟨wm_122, List.forall_mem_cons.mpr ⟨wm_112, List.forall_mem_cons.mpr ⟨wm_254, List.forall_mem_cons.mpr ⟨wm_253, List.forall_mem_cons.mpr ⟨wm_280, List.forall_mem_cons.mpr ⟨wm_279, (fun _ h => absurd h List.not_mem_nil)⟩⟩⟩⟩⟩⟩⟩⟩⟩⟩⟩⟩⟩⟩⟩⟩⟩⟩⟩⟩⟩⟩⟩⟩
theorem in_wsX6_read_r3 : ∀ w ∈ wsX6_read_r3, w ∈ lw_tbl := by
  unfold wsX6_read_r3
  exact List.forall_mem_cons.mpr ⟨wm_123, List.forall_mem_cons.mpr ⟨wm_121, List.forall_mem_cons.mpr ⟨wm_174, List.forall_mem_cons.mpr ⟨wm_278, List.forall_mem_cons.mpr ⟨wm_277, List.forall_mem_cons.mpr ⟨wm_276, List.forall_mem_cons.mpr ⟨wm_275, List.forall_mem_cons.mpr ⟨wm_274, List.forall_mem_cons.mpr ⟨wm_273, List.forall_mem_cons.mpr ⟨wm_272, List.forall_mem_cons.mpr ⟨wm_271, List.forall_mem_cons.mpr ⟨wm_270, List.forall_mem_cons.mpr ⟨wm_269, List.forall_mem_cons.mpr ⟨wm_268, List.forall_mem_cons.mpr ⟨wm_348, List.forall_mem_cons.mpr ⟨wm_360, List.forall_mem_cons.mpr ⟨wm_359, List.forall_mem_cons.mpr ⟨wm_358, List.forall_mem_cons.mpr ⟨wm_357, List.forall_mem_cons.mpr ⟨wm_86, List.forall_mem_cons.mpr ⟨wm_85, List.forall_mem_cons.mpr ⟨wm_84, List.forall_mem_cons.mpr ⟨wm_83, List.forall_mem_cons.mpr ⟨wm_356, (fun _ h => absurd h List.not_mem_nil)⟩⟩⟩⟩⟩⟩⟩⟩⟩⟩⟩⟩⟩⟩⟩⟩⟩⟩⟩⟩⟩⟩⟩⟩
theorem in_wsX6_read_r4 : ∀ w ∈ wsX6_read_r4, w ∈ lw_tbl := by
  unfold wsX6_read_r4
  exact List.forall_mem_cons.mpr ⟨wm_355, List.forall_mem_cons.mpr ⟨wm_354, List.forall_mem_cons.mpr ⟨wm_353, List.forall_mem_cons.mpr ⟨wm_352, List.forall_mem_cons.mpr ⟨wm_351, List.forall_mem_cons.mpr ⟨wm_350, List.forall_mem_cons.mpr ⟨wm_349, (fun _ h => absurd h List.not_mem_nil)⟩⟩⟩⟩⟩⟩⟩
theorem in_wsX6_read : ∀ w ∈ wsX6_read, w ∈ lw_tbl := by
  unfold wsX6_read
  exact List.forall_mem_cons.mpr ⟨wm_415, List.forall_mem_append.mpr ⟨List.forall_mem_append.mpr ⟨in_wsX6_read_r1, List.forall_mem_append.mpr ⟨in_wsX6_read_r2, List.forall_mem_append.mpr ⟨in_wsX6_read_r3, in_wsX6_read_r4⟩⟩⟩, in_wsX60⟩⟩
theorem wm_432 : (.selects RX5 yX5_schedule yX5_schedule : Cond) ∈ lw_tbl := List.mem_of_getElem? (i := 356) (by decide +kernel)
theorem wm_433 : (.instanceMethod yX5_schedule : Cond) ∈ lw_tbl := List.mem_of_getElem? (i := 355) (by decide +kernel)
theorem wm_434 : (.methodLink RL 61 yX5_schedule : Cond) ∈ lw_tbl := List.mem_of_getElem? (i := 354) (by decide +kernel)
set_option maxRecDepth 100000 in
theorem wm_435 : (.code yX5_schedule cX5_schedule 4 (some .int) : Cond) ∈ lw_tbl := List.mem_of_getElem? (i := 357) rfl
theorem wm_436 : (.fieldLink RX0 29 "FixityRows$KeptFile" "span" "I" : Cond) ∈ lw_tbl := List.mem_of_getElem? (i := 112) (by decide +kernel)
set_option maxRecDepth 100000 in
theorem wm_437 : (.code yX0_plan cX0_plan 3 none : Cond) ∈ lw_tbl := List.mem_of_getElem? (i := 361) rfl
theorem wm_438 : (.selects RX0 yX0_plan yX0_plan : Cond) ∈ lw_tbl := List.mem_of_getElem? (i := 360) (by decide +kernel)
theorem wm_439 : (.instanceMethod yX0_plan : Cond) ∈ lw_tbl := List.mem_of_getElem? (i := 359) (by decide +kernel)
theorem wm_440 : (.methodLink RX5 147 yX0_plan : Cond) ∈ lw_tbl := List.mem_of_getElem? (i := 358) (by decide +kernel)
theorem in_wsX5_schedule : ∀ w ∈ wsX5_schedule, w ∈ lw_tbl := by
  unfold wsX5_schedule
  exact List.forall_mem_cons.mpr ⟨wm_435, List.forall_mem_append.mpr ⟨List.forall_mem_append.mpr ⟨List.forall_mem_cons.mpr ⟨wm_50, List.forall_mem_cons.mpr ⟨wm_378, List.forall_mem_cons.mpr ⟨wm_377, List.forall_mem_cons.mpr ⟨wm_376, List.forall_mem_cons.mpr ⟨wm_180, List.forall_mem_cons.mpr ⟨wm_375, List.forall_mem_cons.mpr ⟨wm_301, List.forall_mem_cons.mpr ⟨wm_300, List.forall_mem_cons.mpr ⟨wm_299, List.forall_mem_cons.mpr ⟨wm_298, List.forall_mem_cons.mpr ⟨wm_297, List.forall_mem_cons.mpr ⟨wm_440, List.forall_mem_cons.mpr ⟨wm_439, List.forall_mem_cons.mpr ⟨wm_438, List.forall_mem_cons.mpr ⟨wm_48, List.forall_mem_cons.mpr ⟨wm_437, List.forall_mem_cons.mpr ⟨wm_62, List.forall_mem_cons.mpr ⟨wm_436, (fun _ h => absurd h List.not_mem_nil)⟩⟩⟩⟩⟩⟩⟩⟩⟩⟩⟩⟩⟩⟩⟩⟩⟩⟩, in_wsX50⟩, in_wsX00⟩⟩
theorem wm_441 : (.selects RX6 yX6_schedule yX6_schedule : Cond) ∈ lw_tbl := List.mem_of_getElem? (i := 785) (by decide +kernel)
theorem wm_442 : (.instanceMethod yX6_schedule : Cond) ∈ lw_tbl := List.mem_of_getElem? (i := 784) (by decide +kernel)
theorem wm_443 : (.methodLink RL 64 yX6_schedule : Cond) ∈ lw_tbl := List.mem_of_getElem? (i := 783) (by decide +kernel)
set_option maxRecDepth 100000 in
theorem wm_444 : (.code yX6_schedule cX6_schedule 4 (some .int) : Cond) ∈ lw_tbl := List.mem_of_getElem? (i := 786) rfl
theorem in_wsX6_schedule : ∀ w ∈ wsX6_schedule, w ∈ lw_tbl := by
  unfold wsX6_schedule
  exact List.forall_mem_cons.mpr ⟨wm_444, List.forall_mem_append.mpr ⟨List.forall_mem_cons.mpr ⟨wm_196, List.forall_mem_cons.mpr ⟨wm_91, List.forall_mem_cons.mpr ⟨wm_90, List.forall_mem_cons.mpr ⟨wm_386, List.forall_mem_cons.mpr ⟨wm_385, List.forall_mem_cons.mpr ⟨wm_384, List.forall_mem_cons.mpr ⟨wm_190, List.forall_mem_cons.mpr ⟨wm_383, List.forall_mem_cons.mpr ⟨wm_347, List.forall_mem_cons.mpr ⟨wm_266, List.forall_mem_cons.mpr ⟨wm_265, List.forall_mem_cons.mpr ⟨wm_264, List.forall_mem_cons.mpr ⟨wm_346, List.forall_mem_cons.mpr ⟨wm_345, List.forall_mem_cons.mpr ⟨wm_344, List.forall_mem_cons.mpr ⟨wm_343, (fun _ h => absurd h List.not_mem_nil)⟩⟩⟩⟩⟩⟩⟩⟩⟩⟩⟩⟩⟩⟩⟩⟩, in_wsX60⟩⟩
theorem wm_445 : (.selects RX5 yX5_due yX5_due : Cond) ∈ lw_tbl := List.mem_of_getElem? (i := 364) (by decide +kernel)
theorem wm_446 : (.instanceMethod yX5_due : Cond) ∈ lw_tbl := List.mem_of_getElem? (i := 363) (by decide +kernel)
theorem wm_447 : (.methodLink RL 65 yX5_due : Cond) ∈ lw_tbl := List.mem_of_getElem? (i := 362) (by decide +kernel)
set_option maxRecDepth 100000 in
theorem wm_448 : (.code yX5_due cX5_due 4 (some .int) : Cond) ∈ lw_tbl := List.mem_of_getElem? (i := 365) rfl
set_option maxRecDepth 100000 in
theorem wm_449 : (.code yX0_isWaiting cX0_isWaiting 2 (some .boolean) : Cond) ∈ lw_tbl := List.mem_of_getElem? (i := 373) rfl
theorem wm_450 : (.selects RX0 yX0_isWaiting yX0_isWaiting : Cond) ∈ lw_tbl := List.mem_of_getElem? (i := 372) (by decide +kernel)
theorem wm_451 : (.instanceMethod yX0_isWaiting : Cond) ∈ lw_tbl := List.mem_of_getElem? (i := 371) (by decide +kernel)
theorem wm_452 : (.methodLink RX5 206 yX0_isWaiting : Cond) ∈ lw_tbl := List.mem_of_getElem? (i := 370) (by decide +kernel)
set_option maxRecDepth 100000 in
theorem wm_453 : (.code yX5_longestWaiting cX5_longestWaiting 6 (some .int) : Cond) ∈ lw_tbl := List.mem_of_getElem? (i := 369) rfl
theorem wm_454 : (.selects RX5 yX5_longestWaiting yX5_longestWaiting : Cond) ∈ lw_tbl := List.mem_of_getElem? (i := 6) (by decide +kernel)
theorem wm_455 : (.instanceMethod yX5_longestWaiting : Cond) ∈ lw_tbl := List.mem_of_getElem? (i := 368) (by decide +kernel)
theorem wm_456 : (.methodLink RX5 153 yX5_longestWaiting : Cond) ∈ lw_tbl := List.mem_of_getElem? (i := 366) (by decide +kernel)
theorem wm_457 : (.fieldLink RX5 150 "FixityRows" "checkedCount" "I" : Cond) ∈ lw_tbl := List.mem_of_getElem? (i := 176) (by decide +kernel)
theorem in_wsX5_due_r1 : ∀ w ∈ wsX5_due_r1, w ∈ lw_tbl := by
  unfold wsX5_due_r1
  exact List.forall_mem_cons.mpr ⟨wm_40, List.forall_mem_cons.mpr ⟨wm_457, List.forall_mem_cons.mpr ⟨wm_18, List.forall_mem_cons.mpr ⟨wm_43, List.forall_mem_cons.mpr ⟨wm_41, List.forall_mem_cons.mpr ⟨wm_50, List.forall_mem_cons.mpr ⟨wm_300, List.forall_mem_cons.mpr ⟨wm_299, List.forall_mem_cons.mpr ⟨wm_180, List.forall_mem_cons.mpr ⟨wm_298, List.forall_mem_cons.mpr ⟨wm_297, List.forall_mem_cons.mpr ⟨wm_456, List.forall_mem_cons.mpr ⟨wm_455, List.forall_mem_cons.mpr ⟨wm_454, List.forall_mem_cons.mpr ⟨wm_453, List.forall_mem_cons.mpr ⟨wm_301, List.forall_mem_cons.mpr ⟨wm_452, List.forall_mem_cons.mpr ⟨wm_451, List.forall_mem_cons.mpr ⟨wm_450, List.forall_mem_cons.mpr ⟨wm_48, List.forall_mem_cons.mpr ⟨wm_449, List.forall_mem_cons.mpr ⟨wm_436, List.forall_mem_cons.mpr ⟨wm_62, List.forall_mem_cons.mpr ⟨wm_407, (fun _ h => absurd h List.not_mem_nil)⟩⟩⟩⟩⟩⟩⟩⟩⟩⟩⟩⟩⟩⟩⟩⟩⟩⟩⟩⟩⟩⟩⟩⟩
theorem in_wsX5_due_r2 : ∀ w ∈ wsX5_due_r2, w ∈ lw_tbl := by
  unfold wsX5_due_r2
  exact List.forall_mem_cons.mpr ⟨wm_406, List.forall_mem_cons.mpr ⟨wm_405, List.forall_mem_cons.mpr ⟨wm_404, List.forall_mem_cons.mpr ⟨wm_44, List.forall_mem_cons.mpr ⟨wm_403, List.forall_mem_cons.mpr ⟨wm_402, List.forall_mem_cons.mpr ⟨wm_401, List.forall_mem_cons.mpr ⟨wm_400, List.forall_mem_cons.mpr ⟨wm_10, List.forall_mem_cons.mpr ⟨wm_14, List.forall_mem_cons.mpr ⟨wm_244, List.forall_mem_cons.mpr ⟨wm_243, List.forall_mem_cons.mpr ⟨wm_242, List.forall_mem_cons.mpr ⟨wm_11, List.forall_mem_cons.mpr ⟨wm_241, List.forall_mem_cons.mpr ⟨wm_30, List.forall_mem_cons.mpr ⟨wm_240, List.forall_mem_cons.mpr ⟨wm_208, List.forall_mem_cons.mpr ⟨wm_207, List.forall_mem_cons.mpr ⟨wm_7, List.forall_mem_cons.mpr ⟨wm_206, List.forall_mem_cons.mpr ⟨wm_185, List.forall_mem_cons.mpr ⟨wm_239, List.forall_mem_cons.mpr ⟨wm_201, (fun _ h => absurd h List.not_mem_nil)⟩⟩⟩⟩⟩⟩⟩⟩⟩⟩⟩⟩⟩⟩⟩⟩⟩⟩⟩⟩⟩⟩⟩⟩
theorem in_wsX5_due_r3 : ∀ w ∈ wsX5_due_r3, w ∈ lw_tbl := by
  unfold wsX5_due_r3
  exact List.forall_mem_cons.mpr ⟨wm_238, List.forall_mem_cons.mpr ⟨wm_237, List.forall_mem_cons.mpr ⟨wm_70, List.forall_mem_cons.mpr ⟨wm_214, List.forall_mem_cons.mpr ⟨wm_213, List.forall_mem_cons.mpr ⟨wm_212, List.forall_mem_cons.mpr ⟨wm_15, List.forall_mem_cons.mpr ⟨wm_211, List.forall_mem_cons.mpr ⟨wm_36, List.forall_mem_cons.mpr ⟨wm_210, List.forall_mem_cons.mpr ⟨wm_35, List.forall_mem_cons.mpr ⟨wm_209, List.forall_mem_cons.mpr ⟨wm_205, List.forall_mem_cons.mpr ⟨wm_204, List.forall_mem_cons.mpr ⟨wm_203, List.forall_mem_cons.mpr ⟨wm_202, List.forall_mem_cons.mpr ⟨wm_236, List.forall_mem_cons.mpr ⟨wm_235, List.forall_mem_cons.mpr ⟨wm_234, List.forall_mem_cons.mpr ⟨wm_233, List.forall_mem_cons.mpr ⟨wm_232, List.forall_mem_cons.mpr ⟨wm_231, List.forall_mem_cons.mpr ⟨wm_230, List.forall_mem_cons.mpr ⟨wm_229, (fun _ h => absurd h List.not_mem_nil)⟩⟩⟩⟩⟩⟩⟩⟩⟩⟩⟩⟩⟩⟩⟩⟩⟩⟩⟩⟩⟩⟩⟩⟩
theorem in_wsX5_due_r4 : ∀ w ∈ wsX5_due_r4, w ∈ lw_tbl := by
  unfold wsX5_due_r4
  exact List.forall_mem_cons.mpr ⟨wm_228, List.forall_mem_cons.mpr ⟨wm_227, List.forall_mem_cons.mpr ⟨wm_226, List.forall_mem_cons.mpr ⟨wm_225, List.forall_mem_cons.mpr ⟨wm_224, List.forall_mem_cons.mpr ⟨wm_223, List.forall_mem_cons.mpr ⟨wm_222, List.forall_mem_cons.mpr ⟨wm_221, List.forall_mem_cons.mpr ⟨wm_220, List.forall_mem_cons.mpr ⟨wm_219, List.forall_mem_cons.mpr ⟨wm_218, List.forall_mem_cons.mpr ⟨wm_217, List.forall_mem_cons.mpr ⟨wm_216, List.forall_mem_cons.mpr ⟨wm_411, List.forall_mem_cons.mpr ⟨wm_410, List.forall_mem_cons.mpr ⟨wm_409, List.forall_mem_cons.mpr ⟨wm_408, List.forall_mem_cons.mpr ⟨wm_318, List.forall_mem_cons.mpr ⟨wm_317, List.forall_mem_cons.mpr ⟨wm_316, List.forall_mem_cons.mpr ⟨wm_45, List.forall_mem_cons.mpr ⟨wm_315, List.forall_mem_cons.mpr ⟨wm_314, List.forall_mem_cons.mpr ⟨wm_54, (fun _ h => absurd h List.not_mem_nil)⟩⟩⟩⟩⟩⟩⟩⟩⟩⟩⟩⟩⟩⟩⟩⟩⟩⟩⟩⟩⟩⟩⟩⟩
theorem in_wsX5_due_r5 : ∀ w ∈ wsX5_due_r5, w ∈ lw_tbl := by
  unfold wsX5_due_r5
  exact List.forall_mem_cons.mpr ⟨wm_53, List.forall_mem_cons.mpr ⟨wm_79, List.forall_mem_cons.mpr ⟨wm_57, List.forall_mem_cons.mpr ⟨wm_77, List.forall_mem_cons.mpr ⟨wm_313, List.forall_mem_cons.mpr ⟨wm_312, List.forall_mem_cons.mpr ⟨wm_311, List.forall_mem_cons.mpr ⟨wm_310, List.forall_mem_cons.mpr ⟨wm_55, List.forall_mem_cons.mpr ⟨wm_309, List.forall_mem_cons.mpr ⟨wm_302, List.forall_mem_cons.mpr ⟨wm_320, List.forall_mem_cons.mpr ⟨wm_319, List.forall_mem_cons.mpr ⟨wm_308, List.forall_mem_cons.mpr ⟨wm_307, List.forall_mem_cons.mpr ⟨wm_306, List.forall_mem_cons.mpr ⟨wm_305, List.forall_mem_cons.mpr ⟨wm_304, List.forall_mem_cons.mpr ⟨wm_338, List.forall_mem_cons.mpr ⟨wm_337, List.forall_mem_cons.mpr ⟨wm_336, List.forall_mem_cons.mpr ⟨wm_335, List.forall_mem_cons.mpr ⟨wm_188, List.forall_mem_cons.mpr ⟨wm_187, (fun _ h => absurd h List.not_mem_nil)⟩⟩⟩⟩⟩⟩⟩⟩⟩⟩⟩⟩⟩⟩⟩⟩⟩⟩⟩⟩⟩⟩⟩⟩
theorem wm_458 : (.methodLink RX5 159 yX5_countWaiting : Cond) ∈ lw_tbl := List.mem_of_getElem? (i := 379) (by decide +kernel)
theorem wm_459 : (.methodLink RX0 32 yX0_isWaiting : Cond) ∈ lw_tbl := List.mem_of_getElem? (i := 378) (by decide +kernel)
set_option maxRecDepth 100000 in
theorem wm_460 : (.code yX0_planBehind cX0_planBehind 2 none : Cond) ∈ lw_tbl := List.mem_of_getElem? (i := 377) rfl
theorem wm_461 : (.selects RX0 yX0_planBehind yX0_planBehind : Cond) ∈ lw_tbl := List.mem_of_getElem? (i := 376) (by decide +kernel)
theorem wm_462 : (.instanceMethod yX0_planBehind : Cond) ∈ lw_tbl := List.mem_of_getElem? (i := 375) (by decide +kernel)
theorem wm_463 : (.methodLink RX5 156 yX0_planBehind : Cond) ∈ lw_tbl := List.mem_of_getElem? (i := 374) (by decide +kernel)
theorem in_wsX5_due_r6 : ∀ w ∈ wsX5_due_r6, w ∈ lw_tbl := by
  unfold wsX5_due_r6
  exact List.forall_mem_cons.mpr ⟨wm_186, List.forall_mem_cons.mpr ⟨wm_334, List.forall_mem_cons.mpr ⟨wm_333, List.forall_mem_cons.mpr ⟨wm_332, List.forall_mem_cons.mpr ⟨wm_331, List.forall_mem_cons.mpr ⟨wm_330, List.forall_mem_cons.mpr ⟨wm_329, List.forall_mem_cons.mpr ⟨wm_328, List.forall_mem_cons.mpr ⟨wm_327, List.forall_mem_cons.mpr ⟨wm_326, List.forall_mem_cons.mpr ⟨wm_325, List.forall_mem_cons.mpr ⟨wm_324, List.forall_mem_cons.mpr ⟨wm_323, List.forall_mem_cons.mpr ⟨wm_322, List.forall_mem_cons.mpr ⟨wm_321, List.forall_mem_cons.mpr ⟨wm_247, List.forall_mem_cons.mpr ⟨wm_246, List.forall_mem_cons.mpr ⟨wm_245, List.forall_mem_cons.mpr ⟨wm_463, List.forall_mem_cons.mpr ⟨wm_462, List.forall_mem_cons.mpr ⟨wm_461, List.forall_mem_cons.mpr ⟨wm_460, List.forall_mem_cons.mpr ⟨wm_459, List.forall_mem_cons.mpr ⟨wm_458, (fun _ h => absurd h List.not_mem_nil)⟩⟩⟩⟩⟩⟩⟩⟩⟩⟩⟩⟩⟩⟩⟩⟩⟩⟩⟩⟩⟩⟩⟩⟩
set_option maxRecDepth 100000 in
theorem wm_464 : (.code yX5_countWaiting cX5_countWaiting 4 (some .int) : Cond) ∈ lw_tbl := List.mem_of_getElem? (i := 382) rfl
theorem wm_465 : (.selects RX5 yX5_countWaiting yX5_countWaiting : Cond) ∈ lw_tbl := List.mem_of_getElem? (i := 7) (by decide +kernel)
theorem wm_466 : (.instanceMethod yX5_countWaiting : Cond) ∈ lw_tbl := List.mem_of_getElem? (i := 381) (by decide +kernel)
theorem in_wsX5_due_r7 : ∀ w ∈ wsX5_due_r7, w ∈ lw_tbl := by
  unfold wsX5_due_r7
  exact List.forall_mem_cons.mpr ⟨wm_466, List.forall_mem_cons.mpr ⟨wm_465, List.forall_mem_cons.mpr ⟨wm_464, (fun _ h => absurd h List.not_mem_nil)⟩⟩⟩
theorem in_wsX5_due : ∀ w ∈ wsX5_due, w ∈ lw_tbl := by
  unfold wsX5_due
  exact List.forall_mem_cons.mpr ⟨wm_448, List.forall_mem_append.mpr ⟨List.forall_mem_append.mpr ⟨List.forall_mem_append.mpr ⟨List.forall_mem_append.mpr ⟨List.forall_mem_append.mpr ⟨List.forall_mem_append.mpr ⟨List.forall_mem_append.mpr ⟨in_wsX5_due_r1, List.forall_mem_append.mpr ⟨in_wsX5_due_r2, List.forall_mem_append.mpr ⟨in_wsX5_due_r3, List.forall_mem_append.mpr ⟨in_wsX5_due_r4, List.forall_mem_append.mpr ⟨in_wsX5_due_r5, List.forall_mem_append.mpr ⟨in_wsX5_due_r6, in_wsX5_due_r7⟩⟩⟩⟩⟩⟩, in_wsX50⟩, in_wsX00⟩, in_wsX40⟩, in_wsX20⟩, in_wsX10⟩, in_wsX30⟩⟩
theorem wm_467 : (.selects RX6 yX6_due yX6_due : Cond) ∈ lw_tbl := List.mem_of_getElem? (i := 789) (by decide +kernel)
theorem wm_468 : (.instanceMethod yX6_due : Cond) ∈ lw_tbl := List.mem_of_getElem? (i := 788) (by decide +kernel)
theorem wm_469 : (.methodLink RL 68 yX6_due : Cond) ∈ lw_tbl := List.mem_of_getElem? (i := 787) (by decide +kernel)
set_option maxRecDepth 100000 in
theorem wm_470 : (.code yX6_due cX6_due 4 (some .int) : Cond) ∈ lw_tbl := List.mem_of_getElem? (i := 790) rfl
theorem wm_471 : (.selects RX6 yX6_isDue yX6_isDue : Cond) ∈ lw_tbl := List.mem_of_getElem? (i := 23) (by decide +kernel)
theorem wm_472 : (.instanceMethod yX6_isDue : Cond) ∈ lw_tbl := List.mem_of_getElem? (i := 797) (by decide +kernel)
theorem wm_473 : (.methodLink RX6 235 yX6_isDue : Cond) ∈ lw_tbl := List.mem_of_getElem? (i := 795) (by decide +kernel)
set_option maxRecDepth 100000 in
theorem wm_474 : (.code yX6_first cX6_first 4 (some .int) : Cond) ∈ lw_tbl := List.mem_of_getElem? (i := 794) rfl
theorem wm_475 : (.selects RX6 yX6_first yX6_first : Cond) ∈ lw_tbl := List.mem_of_getElem? (i := 22) (by decide +kernel)
theorem wm_476 : (.instanceMethod yX6_first : Cond) ∈ lw_tbl := List.mem_of_getElem? (i := 793) (by decide +kernel)
theorem wm_477 : (.methodLink RX6 241 yX6_first : Cond) ∈ lw_tbl := List.mem_of_getElem? (i := 791) (by decide +kernel)
theorem wm_478 : (.fieldLink RX6 238 "FixityRowsModel" "told" "I" : Cond) ∈ lw_tbl := List.mem_of_getElem? (i := 606) (by decide +kernel)
theorem in_wsX6_due_r1 : ∀ w ∈ wsX6_due_r1, w ∈ lw_tbl := by
  unfold wsX6_due_r1
  exact List.forall_mem_cons.mpr ⟨wm_196, List.forall_mem_cons.mpr ⟨wm_89, List.forall_mem_cons.mpr ⟨wm_478, List.forall_mem_cons.mpr ⟨wm_173, List.forall_mem_cons.mpr ⟨wm_88, List.forall_mem_cons.mpr ⟨wm_87, List.forall_mem_cons.mpr ⟨wm_91, List.forall_mem_cons.mpr ⟨wm_90, List.forall_mem_cons.mpr ⟨wm_347, List.forall_mem_cons.mpr ⟨wm_346, List.forall_mem_cons.mpr ⟨wm_345, List.forall_mem_cons.mpr ⟨wm_190, List.forall_mem_cons.mpr ⟨wm_344, List.forall_mem_cons.mpr ⟨wm_343, List.forall_mem_cons.mpr ⟨wm_266, List.forall_mem_cons.mpr ⟨wm_265, List.forall_mem_cons.mpr ⟨wm_264, List.forall_mem_cons.mpr ⟨wm_477, List.forall_mem_cons.mpr ⟨wm_476, List.forall_mem_cons.mpr ⟨wm_475, List.forall_mem_cons.mpr ⟨wm_474, List.forall_mem_cons.mpr ⟨wm_473, List.forall_mem_cons.mpr ⟨wm_472, List.forall_mem_cons.mpr ⟨wm_471, (fun _ h => absurd h List.not_mem_nil)⟩⟩⟩⟩⟩⟩⟩⟩⟩⟩⟩⟩⟩⟩⟩⟩⟩⟩⟩⟩⟩⟩⟩⟩
set_option maxRecDepth 100000 in
theorem wm_479 : (.code yX6_isDue cX6_isDue 3 (some .boolean) : Cond) ∈ lw_tbl := List.mem_of_getElem? (i := 798) rfl
theorem in_wsX6_due_r2 : ∀ w ∈ wsX6_due_r2, w ∈ lw_tbl := by
  unfold wsX6_due_r2
  exact List.forall_mem_cons.mpr ⟨wm_479, List.forall_mem_cons.mpr ⟨wm_424, List.forall_mem_cons.mpr ⟨wm_423, List.forall_mem_cons.mpr ⟨wm_422, List.forall_mem_cons.mpr ⟨wm_421, List.forall_mem_cons.mpr ⟨wm_93, List.forall_mem_cons.mpr ⟨wm_420, List.forall_mem_cons.mpr ⟨wm_419, List.forall_mem_cons.mpr ⟨wm_418, List.forall_mem_cons.mpr ⟨wm_417, List.forall_mem_cons.mpr ⟨wm_416, List.forall_mem_cons.mpr ⟨wm_431, List.forall_mem_cons.mpr ⟨wm_430, List.forall_mem_cons.mpr ⟨wm_429, List.forall_mem_cons.mpr ⟨wm_96, List.forall_mem_cons.mpr ⟨wm_259, List.forall_mem_cons.mpr ⟨wm_81, List.forall_mem_cons.mpr ⟨wm_97, List.forall_mem_cons.mpr ⟨wm_428, List.forall_mem_cons.mpr ⟨wm_427, List.forall_mem_cons.mpr ⟨wm_426, List.forall_mem_cons.mpr ⟨wm_425, List.forall_mem_cons.mpr ⟨wm_95, List.forall_mem_cons.mpr ⟨wm_124, (fun _ h => absurd h List.not_mem_nil)⟩⟩⟩⟩⟩⟩⟩⟩⟩⟩⟩⟩⟩⟩⟩⟩⟩⟩⟩⟩⟩⟩⟩⟩
theorem in_wsX6_due_r3 : ∀ w ∈ wsX6_due_r3, w ∈ lw_tbl := by
  unfold wsX6_due_r3
  exact List.forall_mem_cons.mpr ⟨wm_94, List.forall_mem_cons.mpr ⟨wm_258, List.forall_mem_cons.mpr ⟨wm_257, List.forall_mem_cons.mpr ⟨wm_256, List.forall_mem_cons.mpr ⟨wm_255, List.forall_mem_cons.mpr ⟨wm_122, List.forall_mem_cons.mpr ⟨wm_112, List.forall_mem_cons.mpr ⟨wm_254, List.forall_mem_cons.mpr ⟨wm_253, List.forall_mem_cons.mpr ⟨wm_280, List.forall_mem_cons.mpr ⟨wm_279, List.forall_mem_cons.mpr ⟨wm_123, List.forall_mem_cons.mpr ⟨wm_121, List.forall_mem_cons.mpr ⟨wm_174, List.forall_mem_cons.mpr ⟨wm_278, List.forall_mem_cons.mpr ⟨wm_277, List.forall_mem_cons.mpr ⟨wm_276, List.forall_mem_cons.mpr ⟨wm_275, List.forall_mem_cons.mpr ⟨wm_274, List.forall_mem_cons.mpr ⟨wm_273, List.forall_mem_cons.mpr ⟨wm_272, List.forall_mem_cons.mpr ⟨wm_271, List.forall_mem_cons.mpr ⟨wm_270, List.forall_mem_cons.mpr ⟨wm_269, (fun _ h => absurd h List.not_mem_nil)⟩⟩⟩⟩⟩⟩⟩⟩⟩⟩⟩⟩⟩⟩⟩⟩⟩⟩⟩⟩⟩⟩⟩⟩
theorem in_wsX6_due_r4 : ∀ w ∈ wsX6_due_r4, w ∈ lw_tbl := by
  unfold wsX6_due_r4
  exact List.forall_mem_cons.mpr ⟨wm_268, List.forall_mem_cons.mpr ⟨wm_348, List.forall_mem_cons.mpr ⟨wm_360, List.forall_mem_cons.mpr ⟨wm_359, List.forall_mem_cons.mpr ⟨wm_358, List.forall_mem_cons.mpr ⟨wm_357, List.forall_mem_cons.mpr ⟨wm_86, List.forall_mem_cons.mpr ⟨wm_85, List.forall_mem_cons.mpr ⟨wm_84, List.forall_mem_cons.mpr ⟨wm_83, List.forall_mem_cons.mpr ⟨wm_356, List.forall_mem_cons.mpr ⟨wm_355, List.forall_mem_cons.mpr ⟨wm_354, List.forall_mem_cons.mpr ⟨wm_353, List.forall_mem_cons.mpr ⟨wm_352, List.forall_mem_cons.mpr ⟨wm_351, List.forall_mem_cons.mpr ⟨wm_350, List.forall_mem_cons.mpr ⟨wm_349, (fun _ h => absurd h List.not_mem_nil)⟩⟩⟩⟩⟩⟩⟩⟩⟩⟩⟩⟩⟩⟩⟩⟩⟩⟩
theorem in_wsX6_due : ∀ w ∈ wsX6_due, w ∈ lw_tbl := by
  unfold wsX6_due
  exact List.forall_mem_cons.mpr ⟨wm_470, List.forall_mem_append.mpr ⟨List.forall_mem_append.mpr ⟨in_wsX6_due_r1, List.forall_mem_append.mpr ⟨in_wsX6_due_r2, List.forall_mem_append.mpr ⟨in_wsX6_due_r3, in_wsX6_due_r4⟩⟩⟩, in_wsX60⟩⟩
theorem wm_480 : (.selects RX5 yX5_told yX5_told : Cond) ∈ lw_tbl := List.mem_of_getElem? (i := 385) (by decide +kernel)
theorem wm_481 : (.instanceMethod yX5_told : Cond) ∈ lw_tbl := List.mem_of_getElem? (i := 384) (by decide +kernel)
theorem wm_482 : (.methodLink RL 69 yX5_told : Cond) ∈ lw_tbl := List.mem_of_getElem? (i := 383) (by decide +kernel)
set_option maxRecDepth 100000 in
theorem wm_483 : (.code yX5_told cX5_told 3 (some .int) : Cond) ∈ lw_tbl := List.mem_of_getElem? (i := 386) rfl
theorem in_wsX5_told : ∀ w ∈ wsX5_told, w ∈ lw_tbl := by
  unfold wsX5_told
  exact List.forall_mem_cons.mpr ⟨wm_483, List.forall_mem_append.mpr ⟨List.forall_mem_cons.mpr ⟨wm_457, List.forall_mem_cons.mpr ⟨wm_43, List.forall_mem_cons.mpr ⟨wm_41, (fun _ h => absurd h List.not_mem_nil)⟩⟩⟩, in_wsX50⟩⟩
theorem wm_484 : (.selects RX6 yX6_told yX6_told : Cond) ∈ lw_tbl := List.mem_of_getElem? (i := 801) (by decide +kernel)
theorem wm_485 : (.instanceMethod yX6_told : Cond) ∈ lw_tbl := List.mem_of_getElem? (i := 800) (by decide +kernel)
theorem wm_486 : (.methodLink RL 72 yX6_told : Cond) ∈ lw_tbl := List.mem_of_getElem? (i := 799) (by decide +kernel)
set_option maxRecDepth 100000 in
theorem wm_487 : (.code yX6_told cX6_told 3 (some .int) : Cond) ∈ lw_tbl := List.mem_of_getElem? (i := 802) rfl
theorem in_wsX6_told : ∀ w ∈ wsX6_told, w ∈ lw_tbl := by
  unfold wsX6_told
  exact List.forall_mem_cons.mpr ⟨wm_487, List.forall_mem_append.mpr ⟨List.forall_mem_cons.mpr ⟨wm_196, List.forall_mem_cons.mpr ⟨wm_478, List.forall_mem_cons.mpr ⟨wm_88, List.forall_mem_cons.mpr ⟨wm_87, List.forall_mem_cons.mpr ⟨wm_266, List.forall_mem_cons.mpr ⟨wm_265, List.forall_mem_cons.mpr ⟨wm_190, List.forall_mem_cons.mpr ⟨wm_264, (fun _ h => absurd h List.not_mem_nil)⟩⟩⟩⟩⟩⟩⟩⟩, in_wsX60⟩⟩
theorem wm_488 : (.selects RX5 yX5_mend yX5_mend : Cond) ∈ lw_tbl := List.mem_of_getElem? (i := 389) (by decide +kernel)
theorem wm_489 : (.instanceMethod yX5_mend : Cond) ∈ lw_tbl := List.mem_of_getElem? (i := 388) (by decide +kernel)
theorem wm_490 : (.methodLink RL 73 yX5_mend : Cond) ∈ lw_tbl := List.mem_of_getElem? (i := 387) (by decide +kernel)
set_option maxRecDepth 100000 in
theorem wm_491 : (.code yX5_mend cX5_mend 5 (some .int) : Cond) ∈ lw_tbl := List.mem_of_getElem? (i := 390) rfl
theorem in_wsX5_mend_r1 : ∀ w ∈ wsX5_mend_r1, w ∈ lw_tbl := by
  unfold wsX5_mend_r1
  exact List.forall_mem_cons.mpr ⟨wm_50, List.forall_mem_cons.mpr ⟨wm_44, List.forall_mem_cons.mpr ⟨wm_378, List.forall_mem_cons.mpr ⟨wm_377, List.forall_mem_cons.mpr ⟨wm_376, List.forall_mem_cons.mpr ⟨wm_180, List.forall_mem_cons.mpr ⟨wm_375, List.forall_mem_cons.mpr ⟨wm_301, List.forall_mem_cons.mpr ⟨wm_300, List.forall_mem_cons.mpr ⟨wm_299, List.forall_mem_cons.mpr ⟨wm_298, List.forall_mem_cons.mpr ⟨wm_297, List.forall_mem_cons.mpr ⟨wm_403, List.forall_mem_cons.mpr ⟨wm_402, List.forall_mem_cons.mpr ⟨wm_401, List.forall_mem_cons.mpr ⟨wm_400, List.forall_mem_cons.mpr ⟨wm_10, List.forall_mem_cons.mpr ⟨wm_14, List.forall_mem_cons.mpr ⟨wm_244, List.forall_mem_cons.mpr ⟨wm_243, List.forall_mem_cons.mpr ⟨wm_242, List.forall_mem_cons.mpr ⟨wm_11, List.forall_mem_cons.mpr ⟨wm_241, List.forall_mem_cons.mpr ⟨wm_30, (fun _ h => absurd h List.not_mem_nil)⟩⟩⟩⟩⟩⟩⟩⟩⟩⟩⟩⟩⟩⟩⟩⟩⟩⟩⟩⟩⟩⟩⟩⟩
theorem in_wsX5_mend_r2 : ∀ w ∈ wsX5_mend_r2, w ∈ lw_tbl := by
  unfold wsX5_mend_r2
  exact List.forall_mem_cons.mpr ⟨wm_240, List.forall_mem_cons.mpr ⟨wm_208, List.forall_mem_cons.mpr ⟨wm_207, List.forall_mem_cons.mpr ⟨wm_7, List.forall_mem_cons.mpr ⟨wm_206, List.forall_mem_cons.mpr ⟨wm_185, List.forall_mem_cons.mpr ⟨wm_239, List.forall_mem_cons.mpr ⟨wm_201, List.forall_mem_cons.mpr ⟨wm_238, List.forall_mem_cons.mpr ⟨wm_237, List.forall_mem_cons.mpr ⟨wm_70, List.forall_mem_cons.mpr ⟨wm_214, List.forall_mem_cons.mpr ⟨wm_213, List.forall_mem_cons.mpr ⟨wm_212, List.forall_mem_cons.mpr ⟨wm_15, List.forall_mem_cons.mpr ⟨wm_211, List.forall_mem_cons.mpr ⟨wm_36, List.forall_mem_cons.mpr ⟨wm_210, List.forall_mem_cons.mpr ⟨wm_35, List.forall_mem_cons.mpr ⟨wm_209, List.forall_mem_cons.mpr ⟨wm_205, List.forall_mem_cons.mpr ⟨wm_204, List.forall_mem_cons.mpr ⟨wm_203, List.forall_mem_cons.mpr ⟨wm_202, (fun _ h => absurd h List.not_mem_nil)⟩⟩⟩⟩⟩⟩⟩⟩⟩⟩⟩⟩⟩⟩⟩⟩⟩⟩⟩⟩⟩⟩⟩⟩
theorem in_wsX5_mend_r3 : ∀ w ∈ wsX5_mend_r3, w ∈ lw_tbl := by
  unfold wsX5_mend_r3
  exact List.forall_mem_cons.mpr ⟨wm_236, List.forall_mem_cons.mpr ⟨wm_235, List.forall_mem_cons.mpr ⟨wm_234, List.forall_mem_cons.mpr ⟨wm_233, List.forall_mem_cons.mpr ⟨wm_232, List.forall_mem_cons.mpr ⟨wm_231, List.forall_mem_cons.mpr ⟨wm_230, List.forall_mem_cons.mpr ⟨wm_229, List.forall_mem_cons.mpr ⟨wm_228, List.forall_mem_cons.mpr ⟨wm_227, List.forall_mem_cons.mpr ⟨wm_226, List.forall_mem_cons.mpr ⟨wm_225, List.forall_mem_cons.mpr ⟨wm_224, List.forall_mem_cons.mpr ⟨wm_223, List.forall_mem_cons.mpr ⟨wm_222, List.forall_mem_cons.mpr ⟨wm_221, List.forall_mem_cons.mpr ⟨wm_220, List.forall_mem_cons.mpr ⟨wm_219, List.forall_mem_cons.mpr ⟨wm_218, List.forall_mem_cons.mpr ⟨wm_217, List.forall_mem_cons.mpr ⟨wm_216, List.forall_mem_cons.mpr ⟨wm_411, List.forall_mem_cons.mpr ⟨wm_410, List.forall_mem_cons.mpr ⟨wm_409, (fun _ h => absurd h List.not_mem_nil)⟩⟩⟩⟩⟩⟩⟩⟩⟩⟩⟩⟩⟩⟩⟩⟩⟩⟩⟩⟩⟩⟩⟩⟩
set_option maxRecDepth 100000 in
theorem wm_492 : (.code yX5_firstCopyFor cX5_firstCopyFor 4 (some .int) : Cond) ∈ lw_tbl := List.mem_of_getElem? (i := 394) rfl
theorem wm_493 : (.selects RX5 yX5_firstCopyFor yX5_firstCopyFor : Cond) ∈ lw_tbl := List.mem_of_getElem? (i := 8) (by decide +kernel)
theorem wm_494 : (.instanceMethod yX5_firstCopyFor : Cond) ∈ lw_tbl := List.mem_of_getElem? (i := 393) (by decide +kernel)
theorem wm_495 : (.methodLink RX5 166 yX5_firstCopyFor : Cond) ∈ lw_tbl := List.mem_of_getElem? (i := 391) (by decide +kernel)
theorem in_wsX5_mend_r4 : ∀ w ∈ wsX5_mend_r4, w ∈ lw_tbl := by
  unfold wsX5_mend_r4
  exact List.forall_mem_cons.mpr ⟨wm_408, List.forall_mem_cons.mpr ⟨wm_495, List.forall_mem_cons.mpr ⟨wm_494, List.forall_mem_cons.mpr ⟨wm_493, List.forall_mem_cons.mpr ⟨wm_492, List.forall_mem_cons.mpr ⟨wm_296, List.forall_mem_cons.mpr ⟨wm_295, List.forall_mem_cons.mpr ⟨wm_294, List.forall_mem_cons.mpr ⟨wm_293, List.forall_mem_cons.mpr ⟨wm_318, List.forall_mem_cons.mpr ⟨wm_317, List.forall_mem_cons.mpr ⟨wm_316, List.forall_mem_cons.mpr ⟨wm_45, List.forall_mem_cons.mpr ⟨wm_315, List.forall_mem_cons.mpr ⟨wm_314, List.forall_mem_cons.mpr ⟨wm_54, List.forall_mem_cons.mpr ⟨wm_53, List.forall_mem_cons.mpr ⟨wm_79, List.forall_mem_cons.mpr ⟨wm_57, List.forall_mem_cons.mpr ⟨wm_77, List.forall_mem_cons.mpr ⟨wm_313, List.forall_mem_cons.mpr ⟨wm_312, List.forall_mem_cons.mpr ⟨wm_311, List.forall_mem_cons.mpr ⟨wm_310, (fun _ h => absurd h List.not_mem_nil)⟩⟩⟩⟩⟩⟩⟩⟩⟩⟩⟩⟩⟩⟩⟩⟩⟩⟩⟩⟩⟩⟩⟩⟩
theorem in_wsX5_mend_r5 : ∀ w ∈ wsX5_mend_r5, w ∈ lw_tbl := by
  unfold wsX5_mend_r5
  exact List.forall_mem_cons.mpr ⟨wm_55, List.forall_mem_cons.mpr ⟨wm_309, List.forall_mem_cons.mpr ⟨wm_302, List.forall_mem_cons.mpr ⟨wm_320, List.forall_mem_cons.mpr ⟨wm_319, List.forall_mem_cons.mpr ⟨wm_308, List.forall_mem_cons.mpr ⟨wm_307, List.forall_mem_cons.mpr ⟨wm_306, List.forall_mem_cons.mpr ⟨wm_305, List.forall_mem_cons.mpr ⟨wm_304, List.forall_mem_cons.mpr ⟨wm_338, List.forall_mem_cons.mpr ⟨wm_337, List.forall_mem_cons.mpr ⟨wm_336, List.forall_mem_cons.mpr ⟨wm_335, List.forall_mem_cons.mpr ⟨wm_188, List.forall_mem_cons.mpr ⟨wm_187, List.forall_mem_cons.mpr ⟨wm_186, List.forall_mem_cons.mpr ⟨wm_334, List.forall_mem_cons.mpr ⟨wm_333, List.forall_mem_cons.mpr ⟨wm_332, List.forall_mem_cons.mpr ⟨wm_331, List.forall_mem_cons.mpr ⟨wm_330, List.forall_mem_cons.mpr ⟨wm_329, List.forall_mem_cons.mpr ⟨wm_328, (fun _ h => absurd h List.not_mem_nil)⟩⟩⟩⟩⟩⟩⟩⟩⟩⟩⟩⟩⟩⟩⟩⟩⟩⟩⟩⟩⟩⟩⟩⟩
theorem in_wsX5_mend_r6 : ∀ w ∈ wsX5_mend_r6, w ∈ lw_tbl := by
  unfold wsX5_mend_r6
  exact List.forall_mem_cons.mpr ⟨wm_327, List.forall_mem_cons.mpr ⟨wm_326, List.forall_mem_cons.mpr ⟨wm_325, List.forall_mem_cons.mpr ⟨wm_324, List.forall_mem_cons.mpr ⟨wm_323, List.forall_mem_cons.mpr ⟨wm_322, List.forall_mem_cons.mpr ⟨wm_321, List.forall_mem_cons.mpr ⟨wm_247, List.forall_mem_cons.mpr ⟨wm_246, List.forall_mem_cons.mpr ⟨wm_245, (fun _ h => absurd h List.not_mem_nil)⟩⟩⟩⟩⟩⟩⟩⟩⟩⟩
theorem in_wsX5_mend : ∀ w ∈ wsX5_mend, w ∈ lw_tbl := by
  unfold wsX5_mend
  exact List.forall_mem_cons.mpr ⟨wm_491, List.forall_mem_append.mpr ⟨List.forall_mem_append.mpr ⟨List.forall_mem_append.mpr ⟨List.forall_mem_append.mpr ⟨List.forall_mem_append.mpr ⟨List.forall_mem_append.mpr ⟨List.forall_mem_append.mpr ⟨in_wsX5_mend_r1, List.forall_mem_append.mpr ⟨in_wsX5_mend_r2, List.forall_mem_append.mpr ⟨in_wsX5_mend_r3, List.forall_mem_append.mpr ⟨in_wsX5_mend_r4, List.forall_mem_append.mpr ⟨in_wsX5_mend_r5, in_wsX5_mend_r6⟩⟩⟩⟩⟩, in_wsX50⟩, in_wsX00⟩, in_wsX40⟩, in_wsX20⟩, in_wsX10⟩, in_wsX30⟩⟩
theorem wm_496 : (.selects RX6 yX6_mend yX6_mend : Cond) ∈ lw_tbl := List.mem_of_getElem? (i := 805) (by decide +kernel)
theorem wm_497 : (.instanceMethod yX6_mend : Cond) ∈ lw_tbl := List.mem_of_getElem? (i := 804) (by decide +kernel)
theorem wm_498 : (.methodLink RL 76 yX6_mend : Cond) ∈ lw_tbl := List.mem_of_getElem? (i := 803) (by decide +kernel)
set_option maxRecDepth 100000 in
theorem wm_499 : (.code yX6_mend cX6_mend 5 (some .int) : Cond) ∈ lw_tbl := List.mem_of_getElem? (i := 806) rfl
theorem in_wsX6_mend_r1 : ∀ w ∈ wsX6_mend_r1, w ∈ lw_tbl := by
  unfold wsX6_mend_r1
  exact List.forall_mem_cons.mpr ⟨wm_196, List.forall_mem_cons.mpr ⟨wm_347, List.forall_mem_cons.mpr ⟨wm_96, List.forall_mem_cons.mpr ⟨wm_97, List.forall_mem_cons.mpr ⟨wm_92, List.forall_mem_cons.mpr ⟨wm_386, List.forall_mem_cons.mpr ⟨wm_385, List.forall_mem_cons.mpr ⟨wm_384, List.forall_mem_cons.mpr ⟨wm_190, List.forall_mem_cons.mpr ⟨wm_383, List.forall_mem_cons.mpr ⟨wm_266, List.forall_mem_cons.mpr ⟨wm_265, List.forall_mem_cons.mpr ⟨wm_264, List.forall_mem_cons.mpr ⟨wm_346, List.forall_mem_cons.mpr ⟨wm_345, List.forall_mem_cons.mpr ⟨wm_344, List.forall_mem_cons.mpr ⟨wm_343, List.forall_mem_cons.mpr ⟨wm_420, List.forall_mem_cons.mpr ⟨wm_419, List.forall_mem_cons.mpr ⟨wm_418, List.forall_mem_cons.mpr ⟨wm_417, List.forall_mem_cons.mpr ⟨wm_416, List.forall_mem_cons.mpr ⟨wm_431, List.forall_mem_cons.mpr ⟨wm_430, (fun _ h => absurd h List.not_mem_nil)⟩⟩⟩⟩⟩⟩⟩⟩⟩⟩⟩⟩⟩⟩⟩⟩⟩⟩⟩⟩⟩⟩⟩⟩
theorem in_wsX6_mend_r2 : ∀ w ∈ wsX6_mend_r2, w ∈ lw_tbl := by
  unfold wsX6_mend_r2
  exact List.forall_mem_cons.mpr ⟨wm_429, List.forall_mem_cons.mpr ⟨wm_259, List.forall_mem_cons.mpr ⟨wm_81, List.forall_mem_cons.mpr ⟨wm_428, List.forall_mem_cons.mpr ⟨wm_427, List.forall_mem_cons.mpr ⟨wm_426, List.forall_mem_cons.mpr ⟨wm_425, List.forall_mem_cons.mpr ⟨wm_95, List.forall_mem_cons.mpr ⟨wm_124, List.forall_mem_cons.mpr ⟨wm_94, List.forall_mem_cons.mpr ⟨wm_258, List.forall_mem_cons.mpr ⟨wm_257, List.forall_mem_cons.mpr ⟨wm_256, List.forall_mem_cons.mpr ⟨wm_255, List.forall_mem_cons.mpr ⟨wm_122, List.forall_mem_cons.mpr ⟨wm_112, List.forall_mem_cons.mpr ⟨wm_254, List.forall_mem_cons.mpr ⟨wm_253, List.forall_mem_cons.mpr ⟨wm_280, List.forall_mem_cons.mpr ⟨wm_279, List.forall_mem_cons.mpr ⟨wm_123, List.forall_mem_cons.mpr ⟨wm_121, List.forall_mem_cons.mpr ⟨wm_174, List.forall_mem_cons.mpr ⟨wm_278, (fun _ h => absurd h List.not_mem_nil)⟩⟩⟩⟩⟩⟩⟩⟩⟩⟩⟩⟩⟩⟩⟩⟩⟩⟩⟩⟩⟩⟩⟩⟩
theorem in_wsX6_mend_r3 : ∀ w ∈ wsX6_mend_r3, w ∈ lw_tbl := by
  unfold wsX6_mend_r3
  exact List.forall_mem_cons.mpr ⟨wm_277, List.forall_mem_cons.mpr ⟨wm_276, List.forall_mem_cons.mpr ⟨wm_275, List.forall_mem_cons.mpr ⟨wm_274, List.forall_mem_cons.mpr ⟨wm_273, List.forall_mem_cons.mpr ⟨wm_272, List.forall_mem_cons.mpr ⟨wm_271, List.forall_mem_cons.mpr ⟨wm_270, List.forall_mem_cons.mpr ⟨wm_269, List.forall_mem_cons.mpr ⟨wm_268, List.forall_mem_cons.mpr ⟨wm_348, List.forall_mem_cons.mpr ⟨wm_360, List.forall_mem_cons.mpr ⟨wm_359, List.forall_mem_cons.mpr ⟨wm_358, List.forall_mem_cons.mpr ⟨wm_357, List.forall_mem_cons.mpr ⟨wm_86, List.forall_mem_cons.mpr ⟨wm_85, List.forall_mem_cons.mpr ⟨wm_84, List.forall_mem_cons.mpr ⟨wm_83, List.forall_mem_cons.mpr ⟨wm_356, List.forall_mem_cons.mpr ⟨wm_355, List.forall_mem_cons.mpr ⟨wm_354, List.forall_mem_cons.mpr ⟨wm_353, List.forall_mem_cons.mpr ⟨wm_352, (fun _ h => absurd h List.not_mem_nil)⟩⟩⟩⟩⟩⟩⟩⟩⟩⟩⟩⟩⟩⟩⟩⟩⟩⟩⟩⟩⟩⟩⟩⟩
theorem in_wsX6_mend_r4 : ∀ w ∈ wsX6_mend_r4, w ∈ lw_tbl := by
  unfold wsX6_mend_r4
  exact List.forall_mem_cons.mpr ⟨wm_351, List.forall_mem_cons.mpr ⟨wm_350, List.forall_mem_cons.mpr ⟨wm_349, (fun _ h => absurd h List.not_mem_nil)⟩⟩⟩
theorem in_wsX6_mend : ∀ w ∈ wsX6_mend, w ∈ lw_tbl := by
  unfold wsX6_mend
  exact List.forall_mem_cons.mpr ⟨wm_499, List.forall_mem_append.mpr ⟨List.forall_mem_append.mpr ⟨in_wsX6_mend_r1, List.forall_mem_append.mpr ⟨in_wsX6_mend_r2, List.forall_mem_append.mpr ⟨in_wsX6_mend_r3, in_wsX6_mend_r4⟩⟩⟩, in_wsX60⟩⟩
theorem wm_500 : (.selects RX5 yX5_about yX5_about : Cond) ∈ lw_tbl := List.mem_of_getElem? (i := 397) (by decide +kernel)
theorem wm_501 : (.instanceMethod yX5_about : Cond) ∈ lw_tbl := List.mem_of_getElem? (i := 396) (by decide +kernel)
theorem wm_502 : (.methodLink RL 77 yX5_about : Cond) ∈ lw_tbl := List.mem_of_getElem? (i := 395) (by decide +kernel)
set_option maxRecDepth 100000 in
theorem wm_503 : (.code yX5_about cX5_about 4 (some .int) : Cond) ∈ lw_tbl := List.mem_of_getElem? (i := 398) rfl
theorem in_wsX5_about : ∀ w ∈ wsX5_about, w ∈ lw_tbl := by
  unfold wsX5_about
  exact List.forall_mem_cons.mpr ⟨wm_503, List.forall_mem_append.mpr ⟨List.forall_mem_append.mpr ⟨List.forall_mem_append.mpr ⟨List.forall_mem_cons.mpr ⟨wm_50, List.forall_mem_cons.mpr ⟨wm_378, List.forall_mem_cons.mpr ⟨wm_377, List.forall_mem_cons.mpr ⟨wm_376, List.forall_mem_cons.mpr ⟨wm_180, List.forall_mem_cons.mpr ⟨wm_375, List.forall_mem_cons.mpr ⟨wm_301, List.forall_mem_cons.mpr ⟨wm_391, List.forall_mem_cons.mpr ⟨wm_208, List.forall_mem_cons.mpr ⟨wm_207, List.forall_mem_cons.mpr ⟨wm_7, List.forall_mem_cons.mpr ⟨wm_206, List.forall_mem_cons.mpr ⟨wm_185, (fun _ h => absurd h List.not_mem_nil)⟩⟩⟩⟩⟩⟩⟩⟩⟩⟩⟩⟩⟩, in_wsX50⟩, in_wsX00⟩, in_wsX20⟩⟩
theorem wm_504 : (.selects RX6 yX6_about yX6_about : Cond) ∈ lw_tbl := List.mem_of_getElem? (i := 809) (by decide +kernel)
theorem wm_505 : (.instanceMethod yX6_about : Cond) ∈ lw_tbl := List.mem_of_getElem? (i := 808) (by decide +kernel)
theorem wm_506 : (.methodLink RL 80 yX6_about : Cond) ∈ lw_tbl := List.mem_of_getElem? (i := 807) (by decide +kernel)
set_option maxRecDepth 100000 in
theorem wm_507 : (.code yX6_about cX6_about 3 (some .int) : Cond) ∈ lw_tbl := List.mem_of_getElem? (i := 810) rfl
theorem in_wsX6_about : ∀ w ∈ wsX6_about, w ∈ lw_tbl := by
  unfold wsX6_about
  exact List.forall_mem_cons.mpr ⟨wm_507, List.forall_mem_append.mpr ⟨List.forall_mem_cons.mpr ⟨wm_196, List.forall_mem_cons.mpr ⟨wm_96, List.forall_mem_cons.mpr ⟨wm_93, List.forall_mem_cons.mpr ⟨wm_91, List.forall_mem_cons.mpr ⟨wm_92, List.forall_mem_cons.mpr ⟨wm_386, List.forall_mem_cons.mpr ⟨wm_385, List.forall_mem_cons.mpr ⟨wm_384, List.forall_mem_cons.mpr ⟨wm_190, List.forall_mem_cons.mpr ⟨wm_383, List.forall_mem_cons.mpr ⟨wm_347, List.forall_mem_cons.mpr ⟨wm_266, List.forall_mem_cons.mpr ⟨wm_265, List.forall_mem_cons.mpr ⟨wm_264, (fun _ h => absurd h List.not_mem_nil)⟩⟩⟩⟩⟩⟩⟩⟩⟩⟩⟩⟩⟩⟩, in_wsX60⟩⟩
theorem wm_508 : (.selects RX5 yX5_row yX5_row : Cond) ∈ lw_tbl := List.mem_of_getElem? (i := 401) (by decide +kernel)
theorem wm_509 : (.instanceMethod yX5_row : Cond) ∈ lw_tbl := List.mem_of_getElem? (i := 400) (by decide +kernel)
theorem wm_510 : (.methodLink RL 81 yX5_row : Cond) ∈ lw_tbl := List.mem_of_getElem? (i := 399) (by decide +kernel)
set_option maxRecDepth 100000 in
theorem wm_511 : (.code yX5_row cX5_row 3 (some .int) : Cond) ∈ lw_tbl := List.mem_of_getElem? (i := 402) rfl
theorem wm_512 : (.methodLink RX5 189 yX3_firstWordOf : Cond) ∈ lw_tbl := List.mem_of_getElem? (i := 407) (by decide +kernel)
theorem wm_513 : (.methodLink RX5 186 yX3_dayOf : Cond) ∈ lw_tbl := List.mem_of_getElem? (i := 406) (by decide +kernel)
theorem wm_514 : (.methodLink RX5 183 yX3_fileOf : Cond) ∈ lw_tbl := List.mem_of_getElem? (i := 405) (by decide +kernel)
theorem wm_515 : (.methodLink RX5 180 yX3_kindOf : Cond) ∈ lw_tbl := List.mem_of_getElem? (i := 404) (by decide +kernel)
theorem wm_516 : (.methodLink RX5 179 yX3_has : Cond) ∈ lw_tbl := List.mem_of_getElem? (i := 403) (by decide +kernel)
theorem in_wsX5_row_r1 : ∀ w ∈ wsX5_row_r1, w ∈ lw_tbl := by
  unfold wsX5_row_r1
  exact List.forall_mem_cons.mpr ⟨wm_44, List.forall_mem_cons.mpr ⟨wm_516, List.forall_mem_cons.mpr ⟨wm_307, List.forall_mem_cons.mpr ⟨wm_306, List.forall_mem_cons.mpr ⟨wm_45, List.forall_mem_cons.mpr ⟨wm_305, List.forall_mem_cons.mpr ⟨wm_314, List.forall_mem_cons.mpr ⟨wm_515, List.forall_mem_cons.mpr ⟨wm_333, List.forall_mem_cons.mpr ⟨wm_332, List.forall_mem_cons.mpr ⟨wm_331, List.forall_mem_cons.mpr ⟨wm_54, List.forall_mem_cons.mpr ⟨wm_308, List.forall_mem_cons.mpr ⟨wm_514, List.forall_mem_cons.mpr ⟨wm_329, List.forall_mem_cons.mpr ⟨wm_328, List.forall_mem_cons.mpr ⟨wm_327, List.forall_mem_cons.mpr ⟨wm_53, List.forall_mem_cons.mpr ⟨wm_513, List.forall_mem_cons.mpr ⟨wm_325, List.forall_mem_cons.mpr ⟨wm_324, List.forall_mem_cons.mpr ⟨wm_323, List.forall_mem_cons.mpr ⟨wm_79, List.forall_mem_cons.mpr ⟨wm_512, (fun _ h => absurd h List.not_mem_nil)⟩⟩⟩⟩⟩⟩⟩⟩⟩⟩⟩⟩⟩⟩⟩⟩⟩⟩⟩⟩⟩⟩⟩⟩
set_option maxRecDepth 100000 in
theorem wm_517 : (.code yX3_firstWordOf cX3_firstWordOf 2 (some .int) : Cond) ∈ lw_tbl := List.mem_of_getElem? (i := 410) rfl
theorem wm_518 : (.selects RX3 yX3_firstWordOf yX3_firstWordOf : Cond) ∈ lw_tbl := List.mem_of_getElem? (i := 409) (by decide +kernel)
theorem wm_519 : (.instanceMethod yX3_firstWordOf : Cond) ∈ lw_tbl := List.mem_of_getElem? (i := 408) (by decide +kernel)
theorem in_wsX5_row_r2 : ∀ w ∈ wsX5_row_r2, w ∈ lw_tbl := by
  unfold wsX5_row_r2
  exact List.forall_mem_cons.mpr ⟨wm_519, List.forall_mem_cons.mpr ⟨wm_518, List.forall_mem_cons.mpr ⟨wm_517, List.forall_mem_cons.mpr ⟨wm_77, (fun _ h => absurd h List.not_mem_nil)⟩⟩⟩⟩
theorem in_wsX5_row : ∀ w ∈ wsX5_row, w ∈ lw_tbl := by
  unfold wsX5_row
  exact List.forall_mem_cons.mpr ⟨wm_511, List.forall_mem_append.mpr ⟨List.forall_mem_append.mpr ⟨List.forall_mem_append.mpr ⟨in_wsX5_row_r1, in_wsX5_row_r2⟩, in_wsX50⟩, in_wsX30⟩⟩
theorem wm_520 : (.selects RX6 yX6_row yX6_row : Cond) ∈ lw_tbl := List.mem_of_getElem? (i := 813) (by decide +kernel)
theorem wm_521 : (.instanceMethod yX6_row : Cond) ∈ lw_tbl := List.mem_of_getElem? (i := 812) (by decide +kernel)
theorem wm_522 : (.methodLink RL 84 yX6_row : Cond) ∈ lw_tbl := List.mem_of_getElem? (i := 811) (by decide +kernel)
set_option maxRecDepth 100000 in
theorem wm_523 : (.code yX6_row cX6_row 5 (some .int) : Cond) ∈ lw_tbl := List.mem_of_getElem? (i := 814) rfl
theorem in_wsX6_row : ∀ w ∈ wsX6_row, w ∈ lw_tbl := by
  unfold wsX6_row
  exact List.forall_mem_cons.mpr ⟨wm_523, List.forall_mem_append.mpr ⟨List.forall_mem_cons.mpr ⟨wm_196, List.forall_mem_cons.mpr ⟨wm_357, List.forall_mem_cons.mpr ⟨wm_86, List.forall_mem_cons.mpr ⟨wm_85, List.forall_mem_cons.mpr ⟨wm_84, List.forall_mem_cons.mpr ⟨wm_83, List.forall_mem_cons.mpr ⟨wm_266, List.forall_mem_cons.mpr ⟨wm_265, List.forall_mem_cons.mpr ⟨wm_190, List.forall_mem_cons.mpr ⟨wm_264, (fun _ h => absurd h List.not_mem_nil)⟩⟩⟩⟩⟩⟩⟩⟩⟩⟩, in_wsX60⟩⟩
theorem wm_524 : (.selects RX5 yX5_spoil yX5_spoil : Cond) ∈ lw_tbl := List.mem_of_getElem? (i := 413) (by decide +kernel)
theorem wm_525 : (.instanceMethod yX5_spoil : Cond) ∈ lw_tbl := List.mem_of_getElem? (i := 412) (by decide +kernel)
theorem wm_526 : (.methodLink RL 85 yX5_spoil : Cond) ∈ lw_tbl := List.mem_of_getElem? (i := 411) (by decide +kernel)
set_option maxRecDepth 100000 in
theorem wm_527 : (.code yX5_spoil cX5_spoil 3 (some .int) : Cond) ∈ lw_tbl := List.mem_of_getElem? (i := 414) rfl
set_option maxRecDepth 100000 in
theorem wm_528 : (.code yX3_changeDay cX3_changeDay 3 none : Cond) ∈ lw_tbl := List.mem_of_getElem? (i := 422) rfl
theorem wm_529 : (.selects RX3 yX3_changeDay yX3_changeDay : Cond) ∈ lw_tbl := List.mem_of_getElem? (i := 421) (by decide +kernel)
theorem wm_530 : (.instanceMethod yX3_changeDay : Cond) ∈ lw_tbl := List.mem_of_getElem? (i := 420) (by decide +kernel)
theorem wm_531 : (.methodLink RX5 195 yX3_changeDay : Cond) ∈ lw_tbl := List.mem_of_getElem? (i := 419) (by decide +kernel)
set_option maxRecDepth 100000 in
theorem wm_532 : (.code yX3_remove cX3_remove 4 none : Cond) ∈ lw_tbl := List.mem_of_getElem? (i := 418) rfl
theorem wm_533 : (.selects RX3 yX3_remove yX3_remove : Cond) ∈ lw_tbl := List.mem_of_getElem? (i := 417) (by decide +kernel)
theorem wm_534 : (.instanceMethod yX3_remove : Cond) ∈ lw_tbl := List.mem_of_getElem? (i := 416) (by decide +kernel)
theorem wm_535 : (.methodLink RX5 192 yX3_remove : Cond) ∈ lw_tbl := List.mem_of_getElem? (i := 415) (by decide +kernel)
theorem in_wsX5_spoil : ∀ w ∈ wsX5_spoil, w ∈ lw_tbl := by
  unfold wsX5_spoil
  exact List.forall_mem_cons.mpr ⟨wm_527, List.forall_mem_append.mpr ⟨List.forall_mem_append.mpr ⟨List.forall_mem_cons.mpr ⟨wm_44, List.forall_mem_cons.mpr ⟨wm_516, List.forall_mem_cons.mpr ⟨wm_307, List.forall_mem_cons.mpr ⟨wm_306, List.forall_mem_cons.mpr ⟨wm_45, List.forall_mem_cons.mpr ⟨wm_305, List.forall_mem_cons.mpr ⟨wm_314, List.forall_mem_cons.mpr ⟨wm_535, List.forall_mem_cons.mpr ⟨wm_534, List.forall_mem_cons.mpr ⟨wm_533, List.forall_mem_cons.mpr ⟨wm_532, List.forall_mem_cons.mpr ⟨wm_54, List.forall_mem_cons.mpr ⟨wm_53, List.forall_mem_cons.mpr ⟨wm_79, List.forall_mem_cons.mpr ⟨wm_77, List.forall_mem_cons.mpr ⟨wm_308, List.forall_mem_cons.mpr ⟨wm_531, List.forall_mem_cons.mpr ⟨wm_530, List.forall_mem_cons.mpr ⟨wm_529, List.forall_mem_cons.mpr ⟨wm_528, (fun _ h => absurd h List.not_mem_nil)⟩⟩⟩⟩⟩⟩⟩⟩⟩⟩⟩⟩⟩⟩⟩⟩⟩⟩⟩⟩, in_wsX50⟩, in_wsX30⟩⟩
theorem wm_536 : (.selects RX6 yX6_spoil yX6_spoil : Cond) ∈ lw_tbl := List.mem_of_getElem? (i := 817) (by decide +kernel)
theorem wm_537 : (.instanceMethod yX6_spoil : Cond) ∈ lw_tbl := List.mem_of_getElem? (i := 816) (by decide +kernel)
theorem wm_538 : (.methodLink RL 88 yX6_spoil : Cond) ∈ lw_tbl := List.mem_of_getElem? (i := 815) (by decide +kernel)
set_option maxRecDepth 100000 in
theorem wm_539 : (.code yX6_spoil cX6_spoil 5 (some .int) : Cond) ∈ lw_tbl := List.mem_of_getElem? (i := 818) rfl
theorem in_wsX6_spoil : ∀ w ∈ wsX6_spoil, w ∈ lw_tbl := by
  unfold wsX6_spoil
  exact List.forall_mem_cons.mpr ⟨wm_539, List.forall_mem_append.mpr ⟨List.forall_mem_cons.mpr ⟨wm_196, List.forall_mem_cons.mpr ⟨wm_357, List.forall_mem_cons.mpr ⟨wm_84, List.forall_mem_cons.mpr ⟨wm_86, List.forall_mem_cons.mpr ⟨wm_85, List.forall_mem_cons.mpr ⟨wm_83, List.forall_mem_cons.mpr ⟨wm_266, List.forall_mem_cons.mpr ⟨wm_265, List.forall_mem_cons.mpr ⟨wm_190, List.forall_mem_cons.mpr ⟨wm_264, (fun _ h => absurd h List.not_mem_nil)⟩⟩⟩⟩⟩⟩⟩⟩⟩⟩, in_wsX60⟩⟩
theorem wm_540 : (.selects RX5 yX5_chain yX5_chain : Cond) ∈ lw_tbl := List.mem_of_getElem? (i := 425) (by decide +kernel)
theorem wm_541 : (.instanceMethod yX5_chain : Cond) ∈ lw_tbl := List.mem_of_getElem? (i := 424) (by decide +kernel)
theorem wm_542 : (.methodLink RL 89 yX5_chain : Cond) ∈ lw_tbl := List.mem_of_getElem? (i := 423) (by decide +kernel)
set_option maxRecDepth 100000 in
theorem wm_543 : (.code yX5_chain cX5_chain 1 (some .int) : Cond) ∈ lw_tbl := List.mem_of_getElem? (i := 426) rfl
set_option maxRecDepth 100000 in
theorem wm_544 : (.code yX3_firstBroken cX3_firstBroken 2 (some .int) : Cond) ∈ lw_tbl := List.mem_of_getElem? (i := 430) rfl
theorem wm_545 : (.selects RX3 yX3_firstBroken yX3_firstBroken : Cond) ∈ lw_tbl := List.mem_of_getElem? (i := 429) (by decide +kernel)
theorem wm_546 : (.instanceMethod yX3_firstBroken : Cond) ∈ lw_tbl := List.mem_of_getElem? (i := 428) (by decide +kernel)
theorem wm_547 : (.methodLink RX5 198 yX3_firstBroken : Cond) ∈ lw_tbl := List.mem_of_getElem? (i := 427) (by decide +kernel)
theorem in_wsX5_chain_r1 : ∀ w ∈ wsX5_chain_r1, w ∈ lw_tbl := by
  unfold wsX5_chain_r1
  exact List.forall_mem_cons.mpr ⟨wm_44, List.forall_mem_cons.mpr ⟨wm_547, List.forall_mem_cons.mpr ⟨wm_546, List.forall_mem_cons.mpr ⟨wm_545, List.forall_mem_cons.mpr ⟨wm_45, List.forall_mem_cons.mpr ⟨wm_544, List.forall_mem_cons.mpr ⟨wm_314, List.forall_mem_cons.mpr ⟨wm_57, List.forall_mem_cons.mpr ⟨wm_77, List.forall_mem_cons.mpr ⟨wm_313, List.forall_mem_cons.mpr ⟨wm_312, List.forall_mem_cons.mpr ⟨wm_311, List.forall_mem_cons.mpr ⟨wm_310, List.forall_mem_cons.mpr ⟨wm_55, List.forall_mem_cons.mpr ⟨wm_309, List.forall_mem_cons.mpr ⟨wm_302, List.forall_mem_cons.mpr ⟨wm_320, List.forall_mem_cons.mpr ⟨wm_7, List.forall_mem_cons.mpr ⟨wm_319, List.forall_mem_cons.mpr ⟨wm_185, List.forall_mem_cons.mpr ⟨wm_308, List.forall_mem_cons.mpr ⟨wm_307, List.forall_mem_cons.mpr ⟨wm_306, List.forall_mem_cons.mpr ⟨wm_305, (fun _ h => absurd h List.not_mem_nil)⟩⟩⟩⟩⟩⟩⟩⟩⟩⟩⟩⟩⟩⟩⟩⟩⟩⟩⟩⟩⟩⟩⟩⟩
theorem in_wsX5_chain_r2 : ∀ w ∈ wsX5_chain_r2, w ∈ lw_tbl := by
  unfold wsX5_chain_r2
  exact List.forall_mem_cons.mpr ⟨wm_304, List.forall_mem_cons.mpr ⟨wm_338, List.forall_mem_cons.mpr ⟨wm_337, List.forall_mem_cons.mpr ⟨wm_336, List.forall_mem_cons.mpr ⟨wm_335, List.forall_mem_cons.mpr ⟨wm_188, List.forall_mem_cons.mpr ⟨wm_187, List.forall_mem_cons.mpr ⟨wm_186, List.forall_mem_cons.mpr ⟨wm_70, List.forall_mem_cons.mpr ⟨wm_334, List.forall_mem_cons.mpr ⟨wm_333, List.forall_mem_cons.mpr ⟨wm_332, List.forall_mem_cons.mpr ⟨wm_331, List.forall_mem_cons.mpr ⟨wm_54, List.forall_mem_cons.mpr ⟨wm_330, List.forall_mem_cons.mpr ⟨wm_329, List.forall_mem_cons.mpr ⟨wm_328, List.forall_mem_cons.mpr ⟨wm_327, List.forall_mem_cons.mpr ⟨wm_53, List.forall_mem_cons.mpr ⟨wm_326, List.forall_mem_cons.mpr ⟨wm_325, List.forall_mem_cons.mpr ⟨wm_324, List.forall_mem_cons.mpr ⟨wm_323, List.forall_mem_cons.mpr ⟨wm_79, (fun _ h => absurd h List.not_mem_nil)⟩⟩⟩⟩⟩⟩⟩⟩⟩⟩⟩⟩⟩⟩⟩⟩⟩⟩⟩⟩⟩⟩⟩⟩
theorem in_wsX5_chain_r3 : ∀ w ∈ wsX5_chain_r3, w ∈ lw_tbl := by
  unfold wsX5_chain_r3
  exact List.forall_mem_cons.mpr ⟨wm_322, List.forall_mem_cons.mpr ⟨wm_213, List.forall_mem_cons.mpr ⟨wm_212, List.forall_mem_cons.mpr ⟨wm_15, List.forall_mem_cons.mpr ⟨wm_211, List.forall_mem_cons.mpr ⟨wm_36, List.forall_mem_cons.mpr ⟨wm_210, List.forall_mem_cons.mpr ⟨wm_35, List.forall_mem_cons.mpr ⟨wm_209, List.forall_mem_cons.mpr ⟨wm_208, List.forall_mem_cons.mpr ⟨wm_207, List.forall_mem_cons.mpr ⟨wm_206, List.forall_mem_cons.mpr ⟨wm_205, List.forall_mem_cons.mpr ⟨wm_204, List.forall_mem_cons.mpr ⟨wm_203, List.forall_mem_cons.mpr ⟨wm_202, List.forall_mem_cons.mpr ⟨wm_201, List.forall_mem_cons.mpr ⟨wm_238, List.forall_mem_cons.mpr ⟨wm_237, List.forall_mem_cons.mpr ⟨wm_236, List.forall_mem_cons.mpr ⟨wm_235, List.forall_mem_cons.mpr ⟨wm_234, List.forall_mem_cons.mpr ⟨wm_233, List.forall_mem_cons.mpr ⟨wm_232, (fun _ h => absurd h List.not_mem_nil)⟩⟩⟩⟩⟩⟩⟩⟩⟩⟩⟩⟩⟩⟩⟩⟩⟩⟩⟩⟩⟩⟩⟩⟩
theorem wm_548 : (.methodLink RX3 56 yX1_equalTo : Cond) ∈ lw_tbl := List.mem_of_getElem? (i := 431) (by decide +kernel)
theorem in_wsX5_chain_r4 : ∀ w ∈ wsX5_chain_r4, w ∈ lw_tbl := by
  unfold wsX5_chain_r4
  exact List.forall_mem_cons.mpr ⟨wm_231, List.forall_mem_cons.mpr ⟨wm_230, List.forall_mem_cons.mpr ⟨wm_229, List.forall_mem_cons.mpr ⟨wm_228, List.forall_mem_cons.mpr ⟨wm_227, List.forall_mem_cons.mpr ⟨wm_226, List.forall_mem_cons.mpr ⟨wm_225, List.forall_mem_cons.mpr ⟨wm_224, List.forall_mem_cons.mpr ⟨wm_223, List.forall_mem_cons.mpr ⟨wm_222, List.forall_mem_cons.mpr ⟨wm_221, List.forall_mem_cons.mpr ⟨wm_220, List.forall_mem_cons.mpr ⟨wm_219, List.forall_mem_cons.mpr ⟨wm_218, List.forall_mem_cons.mpr ⟨wm_217, List.forall_mem_cons.mpr ⟨wm_216, List.forall_mem_cons.mpr ⟨wm_548, List.forall_mem_cons.mpr ⟨wm_410, List.forall_mem_cons.mpr ⟨wm_409, List.forall_mem_cons.mpr ⟨wm_408, (fun _ h => absurd h List.not_mem_nil)⟩⟩⟩⟩⟩⟩⟩⟩⟩⟩⟩⟩⟩⟩⟩⟩⟩⟩⟩⟩
theorem in_wsX5_chain : ∀ w ∈ wsX5_chain, w ∈ lw_tbl := by
  unfold wsX5_chain
  exact List.forall_mem_cons.mpr ⟨wm_543, List.forall_mem_append.mpr ⟨List.forall_mem_append.mpr ⟨List.forall_mem_append.mpr ⟨List.forall_mem_append.mpr ⟨List.forall_mem_append.mpr ⟨in_wsX5_chain_r1, List.forall_mem_append.mpr ⟨in_wsX5_chain_r2, List.forall_mem_append.mpr ⟨in_wsX5_chain_r3, in_wsX5_chain_r4⟩⟩⟩, in_wsX50⟩, in_wsX30⟩, in_wsX20⟩, in_wsX10⟩⟩
theorem wm_549 : (.selects RX6 yX6_chain yX6_chain : Cond) ∈ lw_tbl := List.mem_of_getElem? (i := 821) (by decide +kernel)
theorem wm_550 : (.instanceMethod yX6_chain : Cond) ∈ lw_tbl := List.mem_of_getElem? (i := 820) (by decide +kernel)
theorem wm_551 : (.methodLink RL 92 yX6_chain : Cond) ∈ lw_tbl := List.mem_of_getElem? (i := 819) (by decide +kernel)
set_option maxRecDepth 100000 in
theorem wm_552 : (.code yX6_chain cX6_chain 3 (some .int) : Cond) ∈ lw_tbl := List.mem_of_getElem? (i := 822) rfl
theorem in_wsX6_chain_r1 : ∀ w ∈ wsX6_chain_r1, w ∈ lw_tbl := by
  unfold wsX6_chain_r1
  exact List.forall_mem_cons.mpr ⟨wm_196, List.forall_mem_cons.mpr ⟨wm_357, List.forall_mem_cons.mpr ⟨wm_124, List.forall_mem_cons.mpr ⟨wm_83, List.forall_mem_cons.mpr ⟨wm_356, List.forall_mem_cons.mpr ⟨wm_355, List.forall_mem_cons.mpr ⟨wm_354, List.forall_mem_cons.mpr ⟨wm_190, List.forall_mem_cons.mpr ⟨wm_353, List.forall_mem_cons.mpr ⟨wm_259, List.forall_mem_cons.mpr ⟨wm_81, List.forall_mem_cons.mpr ⟨wm_86, List.forall_mem_cons.mpr ⟨wm_85, List.forall_mem_cons.mpr ⟨wm_84, List.forall_mem_cons.mpr ⟨wm_352, List.forall_mem_cons.mpr ⟨wm_351, List.forall_mem_cons.mpr ⟨wm_350, List.forall_mem_cons.mpr ⟨wm_349, List.forall_mem_cons.mpr ⟨wm_258, List.forall_mem_cons.mpr ⟨wm_257, List.forall_mem_cons.mpr ⟨wm_256, List.forall_mem_cons.mpr ⟨wm_255, List.forall_mem_cons.mpr ⟨wm_122, List.forall_mem_cons.mpr ⟨wm_112, (fun _ h => absurd h List.not_mem_nil)⟩⟩⟩⟩⟩⟩⟩⟩⟩⟩⟩⟩⟩⟩⟩⟩⟩⟩⟩⟩⟩⟩⟩⟩
theorem in_wsX6_chain_r2 : ∀ w ∈ wsX6_chain_r2, w ∈ lw_tbl := by
  unfold wsX6_chain_r2
  exact List.forall_mem_cons.mpr ⟨wm_254, List.forall_mem_cons.mpr ⟨wm_253, List.forall_mem_cons.mpr ⟨wm_280, List.forall_mem_cons.mpr ⟨wm_279, List.forall_mem_cons.mpr ⟨wm_123, List.forall_mem_cons.mpr ⟨wm_121, List.forall_mem_cons.mpr ⟨wm_174, List.forall_mem_cons.mpr ⟨wm_278, List.forall_mem_cons.mpr ⟨wm_277, List.forall_mem_cons.mpr ⟨wm_276, List.forall_mem_cons.mpr ⟨wm_275, List.forall_mem_cons.mpr ⟨wm_274, List.forall_mem_cons.mpr ⟨wm_273, (fun _ h => absurd h List.not_mem_nil)⟩⟩⟩⟩⟩⟩⟩⟩⟩⟩⟩⟩⟩
theorem in_wsX6_chain : ∀ w ∈ wsX6_chain, w ∈ lw_tbl := by
  unfold wsX6_chain
  exact List.forall_mem_cons.mpr ⟨wm_552, List.forall_mem_append.mpr ⟨List.forall_mem_append.mpr ⟨in_wsX6_chain_r1, in_wsX6_chain_r2⟩, in_wsX60⟩⟩
set_option maxRecDepth 100000 in
theorem wm_553 : (.codeWith yL_at cL_at 4 (some .int) [(0, 9, 12, 13)] : Cond) ∈ lw_tbl := List.mem_of_getElem? (i := 437) rfl
theorem wm_554 : (.classLink RL 13 RJx00060 : Cond) ∈ lw_tbl := List.mem_of_getElem? (i := 438) (by decide +kernel)
theorem wm_555 : (.selects RX5 yX5_at yX5_at : Cond) ∈ lw_tbl := List.mem_of_getElem? (i := 441) (by decide +kernel)
theorem wm_556 : (.instanceMethod yX5_at : Cond) ∈ lw_tbl := List.mem_of_getElem? (i := 440) (by decide +kernel)
theorem wm_557 : (.methodLink RL 7 yX5_at : Cond) ∈ lw_tbl := List.mem_of_getElem? (i := 439) (by decide +kernel)
set_option maxRecDepth 100000 in
theorem wm_558 : (.code yX5_at cX5_at 2 (some .int) : Cond) ∈ lw_tbl := List.mem_of_getElem? (i := 442) rfl
theorem wm_559 : (.initialized RJx00060 : Cond) ∈ lw_tbl := List.mem_of_getElem? (i := 37) (by decide +kernel)
theorem wm_560 : (.instantiable RJx00060 6 : Cond) ∈ lw_tbl := List.mem_of_getElem? (i := 444) (by decide +kernel)
theorem wm_561 : (.classLink RX5 89 RJx00060 : Cond) ∈ lw_tbl := List.mem_of_getElem? (i := 443) (by decide +kernel)
theorem in_wsJx000600 : ∀ w ∈ wsJx000600, w ∈ lw_tbl := by
  intro w h
  obtain ⟨k, hk, rfl⟩ := List.mem_map.mp h
  rw [List.mem_range] at hk
  rcases (show k = 0 ∨ k = 1 ∨ k = 2 ∨ k = 3 ∨ k = 4 ∨ k = 5 by omega) with rfl | rfl | rfl | rfl | rfl | rfl
  · exact List.mem_of_getElem? (i := 456) (by decide +kernel)
  · exact List.mem_of_getElem? (i := 458) (by decide +kernel)
  · exact List.mem_of_getElem? (i := 460) (by decide +kernel)
  · exact List.mem_of_getElem? (i := 462) (by decide +kernel)
  · exact List.mem_of_getElem? (i := 464) (by decide +kernel)
  · exact List.mem_of_getElem? (i := 509) (by decide +kernel)
theorem in_wsX5_at : ∀ w ∈ wsX5_at, w ∈ lw_tbl := by
  unfold wsX5_at
  exact List.forall_mem_cons.mpr ⟨wm_558, List.forall_mem_append.mpr ⟨List.forall_mem_append.mpr ⟨List.forall_mem_cons.mpr ⟨wm_215, List.forall_mem_cons.mpr ⟨wm_561, List.forall_mem_cons.mpr ⟨wm_560, List.forall_mem_cons.mpr ⟨wm_559, List.forall_mem_cons.mpr ⟨wm_52, (fun _ h => absurd h List.not_mem_nil)⟩⟩⟩⟩⟩, in_wsX50⟩, in_wsJx000600⟩⟩
theorem wm_562 : (.classLink RL 8 RX5 : Cond) ∈ lw_tbl := List.mem_of_getElem? (i := 38) (by decide +kernel)
theorem wm_563 : (.instantiable RX5 13 : Cond) ∈ lw_tbl := List.mem_of_getElem? (i := 39) (by decide +kernel)
theorem wm_564 : (.classLink RL 24 RX6 : Cond) ∈ lw_tbl := List.mem_of_getElem? (i := 514) (by decide +kernel)
theorem wm_565 : (.instantiable RX6 32 : Cond) ∈ lw_tbl := List.mem_of_getElem? (i := 515) (by decide +kernel)
theorem wm_566 : (.arrayClass .long : Cond) ∈ lw_tbl := List.mem_of_getElem? (i := 823) (by decide +kernel)
theorem wm_567 : (.methodLink RL 21 yX5_init : Cond) ∈ lw_tbl := List.mem_of_getElem? (i := 40) (by decide +kernel)
theorem wm_568 : (.instanceMethod yX5_init : Cond) ∈ lw_tbl := List.mem_of_getElem? (i := 41) (by decide +kernel)
theorem wm_569 : (.methodLink RL 26 yX6_init : Cond) ∈ lw_tbl := List.mem_of_getElem? (i := 516) (by decide +kernel)
theorem wm_570 : (.instanceMethod yX6_init : Cond) ∈ lw_tbl := List.mem_of_getElem? (i := 517) (by decide +kernel)
theorem wm_571 : (.methodLink RL 35 yL_at : Cond) ∈ lw_tbl := List.mem_of_getElem? (i := 435) (by decide +kernel)
theorem wm_572 : (.static yL_at : Cond) ∈ lw_tbl := List.mem_of_getElem? (i := 436) (by decide +kernel)
theorem gW_L_cell : GoodIn lw_tbl (va_wsS RL 15 yL_cell wsL_cell) := goodIn_sub (by
  unfold va_wsS
  exact List.forall_mem_append.mpr ⟨List.forall_mem_cons.mpr ⟨wm_2, List.forall_mem_cons.mpr ⟨wm_1, List.forall_mem_cons.mpr ⟨wm_0, (fun _ h => absurd h List.not_mem_nil)⟩⟩⟩, in_wsL_cell⟩) (by decide +kernel)
theorem gW_X5_init : GoodIn lw_tbl wsX5_init := goodIn_sub in_wsX5_init (by decide +kernel)
theorem gW_X6_init : GoodIn lw_tbl wsX6_init := goodIn_sub in_wsX6_init (by decide +kernel)
theorem gW_X5_octet : GoodIn lw_tbl (wsV RL 27 RX5 yX5_octet wsX5_octet) := goodIn_sub (by
  unfold wsV
  exact List.forall_mem_append.mpr ⟨List.forall_mem_cons.mpr ⟨wm_183, List.forall_mem_cons.mpr ⟨wm_182, List.forall_mem_cons.mpr ⟨wm_181, List.forall_mem_cons.mpr ⟨wm_180, (fun _ h => absurd h List.not_mem_nil)⟩⟩⟩⟩, in_wsX5_octet⟩) (by decide +kernel)
theorem gW_X6_octet : GoodIn lw_tbl (wsV RL 30 RX6 yX6_octet wsX6_octet) := goodIn_sub (by
  unfold wsV
  exact List.forall_mem_append.mpr ⟨List.forall_mem_cons.mpr ⟨wm_193, List.forall_mem_cons.mpr ⟨wm_192, List.forall_mem_cons.mpr ⟨wm_191, List.forall_mem_cons.mpr ⟨wm_190, (fun _ h => absurd h List.not_mem_nil)⟩⟩⟩⟩, in_wsX6_octet⟩) (by decide +kernel)
theorem gW_X5_digest : GoodIn lw_tbl (wsV RL 31 RX5 yX5_digest wsX5_digest) := goodIn_sub (by
  unfold wsV
  exact List.forall_mem_append.mpr ⟨List.forall_mem_cons.mpr ⟨wm_199, List.forall_mem_cons.mpr ⟨wm_198, List.forall_mem_cons.mpr ⟨wm_197, List.forall_mem_cons.mpr ⟨wm_180, (fun _ h => absurd h List.not_mem_nil)⟩⟩⟩⟩, in_wsX5_digest⟩) (by decide +kernel)
theorem gW_X6_digest : GoodIn lw_tbl (wsV RL 34 RX6 yX6_digest wsX6_digest) := goodIn_sub (by
  unfold wsV
  exact List.forall_mem_append.mpr ⟨List.forall_mem_cons.mpr ⟨wm_251, List.forall_mem_cons.mpr ⟨wm_250, List.forall_mem_cons.mpr ⟨wm_249, List.forall_mem_cons.mpr ⟨wm_190, (fun _ h => absurd h List.not_mem_nil)⟩⟩⟩⟩, in_wsX6_digest⟩) (by decide +kernel)
theorem gW_X6_at : GoodIn lw_tbl (wsV RL 38 RX6 yX6_at wsX6_at) := goodIn_sub (by
  unfold wsV
  exact List.forall_mem_append.mpr ⟨List.forall_mem_cons.mpr ⟨wm_283, List.forall_mem_cons.mpr ⟨wm_282, List.forall_mem_cons.mpr ⟨wm_281, List.forall_mem_cons.mpr ⟨wm_190, (fun _ h => absurd h List.not_mem_nil)⟩⟩⟩⟩, in_wsX6_at⟩) (by decide +kernel)
theorem gW_X6_thrown : GoodIn lw_tbl (wsV RL 39 RX6 yX6_thrown wsX6_thrown) := goodIn_sub (by
  unfold wsV
  exact List.forall_mem_append.mpr ⟨List.forall_mem_cons.mpr ⟨wm_287, List.forall_mem_cons.mpr ⟨wm_286, List.forall_mem_cons.mpr ⟨wm_285, List.forall_mem_cons.mpr ⟨wm_190, (fun _ h => absurd h List.not_mem_nil)⟩⟩⟩⟩, in_wsX6_thrown⟩) (by decide +kernel)
theorem gW_X5_file : GoodIn lw_tbl (wsV RL 43 RX5 yX5_file wsX5_file) := goodIn_sub (by
  unfold wsV
  exact List.forall_mem_append.mpr ⟨List.forall_mem_cons.mpr ⟨wm_291, List.forall_mem_cons.mpr ⟨wm_290, List.forall_mem_cons.mpr ⟨wm_289, List.forall_mem_cons.mpr ⟨wm_180, (fun _ h => absurd h List.not_mem_nil)⟩⟩⟩⟩, in_wsX5_file⟩) (by decide +kernel)
theorem gW_X6_file : GoodIn lw_tbl (wsV RL 47 RX6 yX6_file wsX6_file) := goodIn_sub (by
  unfold wsV
  exact List.forall_mem_append.mpr ⟨List.forall_mem_cons.mpr ⟨wm_341, List.forall_mem_cons.mpr ⟨wm_340, List.forall_mem_cons.mpr ⟨wm_339, List.forall_mem_cons.mpr ⟨wm_190, (fun _ h => absurd h List.not_mem_nil)⟩⟩⟩⟩, in_wsX6_file⟩) (by decide +kernel)
theorem gW_X5_alter : GoodIn lw_tbl (wsV RL 48 RX5 yX5_alter wsX5_alter) := goodIn_sub (by
  unfold wsV
  exact List.forall_mem_append.mpr ⟨List.forall_mem_cons.mpr ⟨wm_363, List.forall_mem_cons.mpr ⟨wm_362, List.forall_mem_cons.mpr ⟨wm_361, List.forall_mem_cons.mpr ⟨wm_180, (fun _ h => absurd h List.not_mem_nil)⟩⟩⟩⟩, in_wsX5_alter⟩) (by decide +kernel)
theorem gW_X6_alter : GoodIn lw_tbl (wsV RL 52 RX6 yX6_alter wsX6_alter) := goodIn_sub (by
  unfold wsV
  exact List.forall_mem_append.mpr ⟨List.forall_mem_cons.mpr ⟨wm_381, List.forall_mem_cons.mpr ⟨wm_380, List.forall_mem_cons.mpr ⟨wm_379, List.forall_mem_cons.mpr ⟨wm_190, (fun _ h => absurd h List.not_mem_nil)⟩⟩⟩⟩, in_wsX6_alter⟩) (by decide +kernel)
theorem gW_X5_cut : GoodIn lw_tbl (wsV RL 53 RX5 yX5_cut wsX5_cut) := goodIn_sub (by
  unfold wsV
  exact List.forall_mem_append.mpr ⟨List.forall_mem_cons.mpr ⟨wm_389, List.forall_mem_cons.mpr ⟨wm_388, List.forall_mem_cons.mpr ⟨wm_387, List.forall_mem_cons.mpr ⟨wm_180, (fun _ h => absurd h List.not_mem_nil)⟩⟩⟩⟩, in_wsX5_cut⟩) (by decide +kernel)
theorem gW_X6_cut : GoodIn lw_tbl (wsV RL 56 RX6 yX6_cut wsX6_cut) := goodIn_sub (by
  unfold wsV
  exact List.forall_mem_append.mpr ⟨List.forall_mem_cons.mpr ⟨wm_394, List.forall_mem_cons.mpr ⟨wm_393, List.forall_mem_cons.mpr ⟨wm_392, List.forall_mem_cons.mpr ⟨wm_190, (fun _ h => absurd h List.not_mem_nil)⟩⟩⟩⟩, in_wsX6_cut⟩) (by decide +kernel)
theorem gW_X5_read : GoodIn lw_tbl (wsV RL 57 RX5 yX5_read wsX5_read) := goodIn_sub (by
  unfold wsV
  exact List.forall_mem_append.mpr ⟨List.forall_mem_cons.mpr ⟨wm_398, List.forall_mem_cons.mpr ⟨wm_397, List.forall_mem_cons.mpr ⟨wm_396, List.forall_mem_cons.mpr ⟨wm_180, (fun _ h => absurd h List.not_mem_nil)⟩⟩⟩⟩, in_wsX5_read⟩) (by decide +kernel)
theorem gW_X6_read : GoodIn lw_tbl (wsV RL 60 RX6 yX6_read wsX6_read) := goodIn_sub (by
  unfold wsV
  exact List.forall_mem_append.mpr ⟨List.forall_mem_cons.mpr ⟨wm_414, List.forall_mem_cons.mpr ⟨wm_413, List.forall_mem_cons.mpr ⟨wm_412, List.forall_mem_cons.mpr ⟨wm_190, (fun _ h => absurd h List.not_mem_nil)⟩⟩⟩⟩, in_wsX6_read⟩) (by decide +kernel)
theorem gW_X5_schedule : GoodIn lw_tbl (wsV RL 61 RX5 yX5_schedule wsX5_schedule) := goodIn_sub (by
  unfold wsV
  exact List.forall_mem_append.mpr ⟨List.forall_mem_cons.mpr ⟨wm_434, List.forall_mem_cons.mpr ⟨wm_433, List.forall_mem_cons.mpr ⟨wm_432, List.forall_mem_cons.mpr ⟨wm_180, (fun _ h => absurd h List.not_mem_nil)⟩⟩⟩⟩, in_wsX5_schedule⟩) (by decide +kernel)
theorem gW_X6_schedule : GoodIn lw_tbl (wsV RL 64 RX6 yX6_schedule wsX6_schedule) := goodIn_sub (by
  unfold wsV
  exact List.forall_mem_append.mpr ⟨List.forall_mem_cons.mpr ⟨wm_443, List.forall_mem_cons.mpr ⟨wm_442, List.forall_mem_cons.mpr ⟨wm_441, List.forall_mem_cons.mpr ⟨wm_190, (fun _ h => absurd h List.not_mem_nil)⟩⟩⟩⟩, in_wsX6_schedule⟩) (by decide +kernel)
theorem gW_X5_due : GoodIn lw_tbl (wsV RL 65 RX5 yX5_due wsX5_due) := goodIn_sub (by
  unfold wsV
  exact List.forall_mem_append.mpr ⟨List.forall_mem_cons.mpr ⟨wm_447, List.forall_mem_cons.mpr ⟨wm_446, List.forall_mem_cons.mpr ⟨wm_445, List.forall_mem_cons.mpr ⟨wm_180, (fun _ h => absurd h List.not_mem_nil)⟩⟩⟩⟩, in_wsX5_due⟩) (by decide +kernel)
theorem gW_X6_due : GoodIn lw_tbl (wsV RL 68 RX6 yX6_due wsX6_due) := goodIn_sub (by
  unfold wsV
  exact List.forall_mem_append.mpr ⟨List.forall_mem_cons.mpr ⟨wm_469, List.forall_mem_cons.mpr ⟨wm_468, List.forall_mem_cons.mpr ⟨wm_467, List.forall_mem_cons.mpr ⟨wm_190, (fun _ h => absurd h List.not_mem_nil)⟩⟩⟩⟩, in_wsX6_due⟩) (by decide +kernel)
theorem gW_X5_told : GoodIn lw_tbl (wsV RL 69 RX5 yX5_told wsX5_told) := goodIn_sub (by
  unfold wsV
  exact List.forall_mem_append.mpr ⟨List.forall_mem_cons.mpr ⟨wm_482, List.forall_mem_cons.mpr ⟨wm_481, List.forall_mem_cons.mpr ⟨wm_480, List.forall_mem_cons.mpr ⟨wm_180, (fun _ h => absurd h List.not_mem_nil)⟩⟩⟩⟩, in_wsX5_told⟩) (by decide +kernel)
theorem gW_X6_told : GoodIn lw_tbl (wsV RL 72 RX6 yX6_told wsX6_told) := goodIn_sub (by
  unfold wsV
  exact List.forall_mem_append.mpr ⟨List.forall_mem_cons.mpr ⟨wm_486, List.forall_mem_cons.mpr ⟨wm_485, List.forall_mem_cons.mpr ⟨wm_484, List.forall_mem_cons.mpr ⟨wm_190, (fun _ h => absurd h List.not_mem_nil)⟩⟩⟩⟩, in_wsX6_told⟩) (by decide +kernel)
theorem gW_X5_mend : GoodIn lw_tbl (wsV RL 73 RX5 yX5_mend wsX5_mend) := goodIn_sub (by
  unfold wsV
  exact List.forall_mem_append.mpr ⟨List.forall_mem_cons.mpr ⟨wm_490, List.forall_mem_cons.mpr ⟨wm_489, List.forall_mem_cons.mpr ⟨wm_488, List.forall_mem_cons.mpr ⟨wm_180, (fun _ h => absurd h List.not_mem_nil)⟩⟩⟩⟩, in_wsX5_mend⟩) (by decide +kernel)
theorem gW_X6_mend : GoodIn lw_tbl (wsV RL 76 RX6 yX6_mend wsX6_mend) := goodIn_sub (by
  unfold wsV
  exact List.forall_mem_append.mpr ⟨List.forall_mem_cons.mpr ⟨wm_498, List.forall_mem_cons.mpr ⟨wm_497, List.forall_mem_cons.mpr ⟨wm_496, List.forall_mem_cons.mpr ⟨wm_190, (fun _ h => absurd h List.not_mem_nil)⟩⟩⟩⟩, in_wsX6_mend⟩) (by decide +kernel)
theorem gW_X5_about : GoodIn lw_tbl (wsV RL 77 RX5 yX5_about wsX5_about) := goodIn_sub (by
  unfold wsV
  exact List.forall_mem_append.mpr ⟨List.forall_mem_cons.mpr ⟨wm_502, List.forall_mem_cons.mpr ⟨wm_501, List.forall_mem_cons.mpr ⟨wm_500, List.forall_mem_cons.mpr ⟨wm_180, (fun _ h => absurd h List.not_mem_nil)⟩⟩⟩⟩, in_wsX5_about⟩) (by decide +kernel)
theorem gW_X6_about : GoodIn lw_tbl (wsV RL 80 RX6 yX6_about wsX6_about) := goodIn_sub (by
  unfold wsV
  exact List.forall_mem_append.mpr ⟨List.forall_mem_cons.mpr ⟨wm_506, List.forall_mem_cons.mpr ⟨wm_505, List.forall_mem_cons.mpr ⟨wm_504, List.forall_mem_cons.mpr ⟨wm_190, (fun _ h => absurd h List.not_mem_nil)⟩⟩⟩⟩, in_wsX6_about⟩) (by decide +kernel)
theorem gW_X5_row : GoodIn lw_tbl (wsV RL 81 RX5 yX5_row wsX5_row) := goodIn_sub (by
  unfold wsV
  exact List.forall_mem_append.mpr ⟨List.forall_mem_cons.mpr ⟨wm_510, List.forall_mem_cons.mpr ⟨wm_509, List.forall_mem_cons.mpr ⟨wm_508, List.forall_mem_cons.mpr ⟨wm_180, (fun _ h => absurd h List.not_mem_nil)⟩⟩⟩⟩, in_wsX5_row⟩) (by decide +kernel)
theorem gW_X6_row : GoodIn lw_tbl (wsV RL 84 RX6 yX6_row wsX6_row) := goodIn_sub (by
  unfold wsV
  exact List.forall_mem_append.mpr ⟨List.forall_mem_cons.mpr ⟨wm_522, List.forall_mem_cons.mpr ⟨wm_521, List.forall_mem_cons.mpr ⟨wm_520, List.forall_mem_cons.mpr ⟨wm_190, (fun _ h => absurd h List.not_mem_nil)⟩⟩⟩⟩, in_wsX6_row⟩) (by decide +kernel)
theorem gW_X5_spoil : GoodIn lw_tbl (wsV RL 85 RX5 yX5_spoil wsX5_spoil) := goodIn_sub (by
  unfold wsV
  exact List.forall_mem_append.mpr ⟨List.forall_mem_cons.mpr ⟨wm_526, List.forall_mem_cons.mpr ⟨wm_525, List.forall_mem_cons.mpr ⟨wm_524, List.forall_mem_cons.mpr ⟨wm_180, (fun _ h => absurd h List.not_mem_nil)⟩⟩⟩⟩, in_wsX5_spoil⟩) (by decide +kernel)
theorem gW_X6_spoil : GoodIn lw_tbl (wsV RL 88 RX6 yX6_spoil wsX6_spoil) := goodIn_sub (by
  unfold wsV
  exact List.forall_mem_append.mpr ⟨List.forall_mem_cons.mpr ⟨wm_538, List.forall_mem_cons.mpr ⟨wm_537, List.forall_mem_cons.mpr ⟨wm_536, List.forall_mem_cons.mpr ⟨wm_190, (fun _ h => absurd h List.not_mem_nil)⟩⟩⟩⟩, in_wsX6_spoil⟩) (by decide +kernel)
theorem gW_X5_chain : GoodIn lw_tbl (wsV RL 89 RX5 yX5_chain wsX5_chain) := goodIn_sub (by
  unfold wsV
  exact List.forall_mem_append.mpr ⟨List.forall_mem_cons.mpr ⟨wm_542, List.forall_mem_cons.mpr ⟨wm_541, List.forall_mem_cons.mpr ⟨wm_540, List.forall_mem_cons.mpr ⟨wm_180, (fun _ h => absurd h List.not_mem_nil)⟩⟩⟩⟩, in_wsX5_chain⟩) (by decide +kernel)
theorem gW_X6_chain : GoodIn lw_tbl (wsV RL 92 RX6 yX6_chain wsX6_chain) := goodIn_sub (by
  unfold wsV
  exact List.forall_mem_append.mpr ⟨List.forall_mem_cons.mpr ⟨wm_551, List.forall_mem_cons.mpr ⟨wm_550, List.forall_mem_cons.mpr ⟨wm_549, List.forall_mem_cons.mpr ⟨wm_190, (fun _ h => absurd h List.not_mem_nil)⟩⟩⟩⟩, in_wsX6_chain⟩) (by decide +kernel)
theorem in_atW : ∀ w ∈ atW, w ∈ lw_tbl := by decide +kernel
theorem gW_L_at : GoodIn lw_tbl wsL_atT := goodIn_sub (by
  unfold wsL_atT wsX5_atT
  exact List.forall_mem_cons.mpr ⟨wm_553, List.forall_mem_append.mpr ⟨List.forall_mem_cons.mpr ⟨wm_557, List.forall_mem_cons.mpr ⟨wm_556, List.forall_mem_cons.mpr ⟨wm_555, List.forall_mem_cons.mpr ⟨wm_180, List.forall_mem_cons.mpr ⟨wm_554, (fun _ h => absurd h List.not_mem_nil)⟩⟩⟩⟩⟩, List.forall_mem_append.mpr ⟨in_wsX5_at, List.forall_mem_cons.mpr ⟨wm_558, List.forall_mem_append.mpr ⟨List.forall_mem_cons.mpr ⟨wm_215, List.forall_mem_cons.mpr ⟨wm_561, List.forall_mem_cons.mpr ⟨wm_559, (fun _ h => absurd h List.not_mem_nil)⟩⟩⟩, List.forall_mem_append.mpr ⟨in_wsX50, in_atW⟩⟩⟩⟩⟩⟩) (by decide +kernel)
