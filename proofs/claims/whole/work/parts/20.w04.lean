theorem w_255 : (Cond.fieldLink "LinesPromised$Press" 30 "LinesPromised$Press" "size" "I") ∈ wG := wG_in 255 (by decide +kernel) (by decide +kernel)
theorem w_1063 : (Cond.code ⟨"LinesPromised$Press", "add", "(II)I"⟩ prog_8_method_3_code 3 (some .int)) ∈ wG := wG_in 1063 (by decide +kernel) (by decide +kernel)
theorem w_1061 : (Cond.instanceMethod ⟨"LinesPromised$Press", "add", "(II)I"⟩) ∈ wG := wG_in 1061 (by decide +kernel) (by decide +kernel)
theorem w_1062 : (Cond.selects "LinesPromised$Press" ⟨"LinesPromised$Press", "add", "(II)I"⟩ ⟨"LinesPromised$Press", "add", "(II)I"⟩) ∈ wG := wG_in 1062 (by decide +kernel) (by decide +kernel)
theorem w_306 : (Cond.fieldLink "LinesPromised" 304 "LinesPromised$World" "press" "LLinesPromised$Press;") ∈ wG := wG_in 306 (by decide +kernel) (by decide +kernel)
theorem w_256 : (Cond.fieldLink "LinesPromised" 308 "LinesPromised$Press" "size" "I") ∈ wG := wG_in 256 (by decide +kernel) (by decide +kernel)
theorem w_1060 : (Cond.methodLink "LinesPromised" 311 ⟨"LinesPromised$Press", "add", "(II)I"⟩) ∈ wG := wG_in 1060 (by decide +kernel) (by decide +kernel)
theorem w_1059 : (Cond.code ⟨"LinesPromised", "hand", "(II)I"⟩ prog_1_method_26_code 3 (some .int)) ∈ wG := wG_in 1059 (by decide +kernel) (by decide +kernel)
theorem w_1057 : (Cond.instanceMethod ⟨"LinesPromised", "hand", "(II)I"⟩) ∈ wG := wG_in 1057 (by decide +kernel) (by decide +kernel)
theorem w_1058 : (Cond.selects "LinesPromised" ⟨"LinesPromised", "hand", "(II)I"⟩ ⟨"LinesPromised", "hand", "(II)I"⟩) ∈ wG := wG_in 1058 (by decide +kernel) (by decide +kernel)
theorem w_1081 : (Cond.methodLink "LinesPromised$Press" 42 ⟨"java/lang/Math", "max", "(II)I"⟩) ∈ wG := wG_in 1081 (by decide +kernel) (by decide +kernel)
theorem w_1082 : (Cond.methodLink "LinesPromised$Press" 58 ⟨"java/lang/Math", "min", "(II)I"⟩) ∈ wG := wG_in 1082 (by decide +kernel) (by decide +kernel)
theorem w_1080 : (Cond.constant "LinesPromised$Press" 57 (i32 1000000)) ∈ wG := wG_in 1080 (by decide +kernel) (by decide +kernel)
theorem w_1079 : (Cond.code ⟨"LinesPromised$Press", "readyHour", "(II)I"⟩ prog_8_method_7_code 6 (some .int)) ∈ wG := wG_in 1079 (by decide +kernel) (by decide +kernel)
theorem w_1078 : (Cond.instanceMethod ⟨"LinesPromised$Press", "readyHour", "(II)I"⟩) ∈ wG := wG_in 1078 (by decide +kernel) (by decide +kernel)
theorem w_20 : (Cond.selects "LinesPromised$Press" ⟨"LinesPromised$Press", "readyHour", "(II)I"⟩ ⟨"LinesPromised$Press", "readyHour", "(II)I"⟩) ∈ wG := wG_in 20 (by decide +kernel) (by decide +kernel)
theorem w_1086 : (Cond.constant "java/lang/Integer" 265 (i32 1431655765)) ∈ wG := wG_in 1086 (by decide +kernel) (by decide +kernel)
theorem w_1087 : (Cond.constant "java/lang/Integer" 266 (i32 858993459)) ∈ wG := wG_in 1087 (by decide +kernel) (by decide +kernel)
theorem w_1088 : (Cond.constant "java/lang/Integer" 267 (i32 252645135)) ∈ wG := wG_in 1088 (by decide +kernel) (by decide +kernel)
theorem w_1085 : (Cond.code ⟨"java/lang/Integer", "bitCount", "(I)I"⟩ prog_16_method_49_code 1 (some .int)) ∈ wG := wG_in 1085 (by decide +kernel) (by decide +kernel)
theorem w_107 : (Cond.initialized "java/lang/Integer") ∈ wG := wG_in 107 (by decide +kernel) (by decide +kernel)
theorem w_1084 : (Cond.static ⟨"java/lang/Integer", "bitCount", "(I)I"⟩) ∈ wG := wG_in 1084 (by decide +kernel) (by decide +kernel)
theorem w_1076 : (Cond.methodLink "LinesPromised$Press" 48 ⟨"LinesPromised$Press", "readyHour", "(II)I"⟩) ∈ wG := wG_in 1076 (by decide +kernel) (by decide +kernel)
theorem w_1083 : (Cond.methodLink "LinesPromised$Press" 51 ⟨"java/lang/Integer", "bitCount", "(I)I"⟩) ∈ wG := wG_in 1083 (by decide +kernel) (by decide +kernel)
theorem w_1075 : (Cond.code ⟨"LinesPromised$Press", "most", "(IIII)I"⟩ prog_8_method_6_code 7 (some .int)) ∈ wG := wG_in 1075 (by decide +kernel) (by decide +kernel)
theorem w_1074 : (Cond.instanceMethod ⟨"LinesPromised$Press", "most", "(IIII)I"⟩) ∈ wG := wG_in 1074 (by decide +kernel) (by decide +kernel)
theorem w_19 : (Cond.selects "LinesPromised$Press" ⟨"LinesPromised$Press", "most", "(IIII)I"⟩ ⟨"LinesPromised$Press", "most", "(IIII)I"⟩) ∈ wG := wG_in 19 (by decide +kernel) (by decide +kernel)
theorem w_1072 : (Cond.methodLink "LinesPromised$Press" 34 ⟨"LinesPromised$Press", "most", "(IIII)I"⟩) ∈ wG := wG_in 1072 (by decide +kernel) (by decide +kernel)
theorem w_1092 : (Cond.code ⟨"LinesPromised$Press", "leastNext", "(IIIII)I"⟩ prog_8_method_5_code 9 (some .int)) ∈ wG := wG_in 1092 (by decide +kernel) (by decide +kernel)
theorem w_1091 : (Cond.instanceMethod ⟨"LinesPromised$Press", "leastNext", "(IIIII)I"⟩) ∈ wG := wG_in 1091 (by decide +kernel) (by decide +kernel)
theorem w_21 : (Cond.selects "LinesPromised$Press" ⟨"LinesPromised$Press", "leastNext", "(IIIII)I"⟩ ⟨"LinesPromised$Press", "leastNext", "(IIIII)I"⟩) ∈ wG := wG_in 21 (by decide +kernel) (by decide +kernel)
theorem w_1089 : (Cond.methodLink "LinesPromised$Press" 38 ⟨"LinesPromised$Press", "leastNext", "(IIIII)I"⟩) ∈ wG := wG_in 1089 (by decide +kernel) (by decide +kernel)
theorem w_1071 : (Cond.code ⟨"LinesPromised$Press", "order", "(I)I"⟩ prog_8_method_4_code 8 (some .int)) ∈ wG := wG_in 1071 (by decide +kernel) (by decide +kernel)
theorem w_1069 : (Cond.instanceMethod ⟨"LinesPromised$Press", "order", "(I)I"⟩) ∈ wG := wG_in 1069 (by decide +kernel) (by decide +kernel)
theorem w_1070 : (Cond.selects "LinesPromised$Press" ⟨"LinesPromised$Press", "order", "(I)I"⟩ ⟨"LinesPromised$Press", "order", "(I)I"⟩) ∈ wG := wG_in 1070 (by decide +kernel) (by decide +kernel)
theorem w_1068 : (Cond.methodLink "LinesPromised" 314 ⟨"LinesPromised$Press", "order", "(I)I"⟩) ∈ wG := wG_in 1068 (by decide +kernel) (by decide +kernel)
theorem w_258 : (Cond.fieldLink "LinesPromised" 318 "LinesPromised$Press" "row" "[I") ∈ wG := wG_in 258 (by decide +kernel) (by decide +kernel)
theorem w_1067 : (Cond.code ⟨"LinesPromised", "midnight", "(II)I"⟩ prog_1_method_27_code 4 (some .int)) ∈ wG := wG_in 1067 (by decide +kernel) (by decide +kernel)
theorem w_1065 : (Cond.instanceMethod ⟨"LinesPromised", "midnight", "(II)I"⟩) ∈ wG := wG_in 1065 (by decide +kernel) (by decide +kernel)
theorem w_1066 : (Cond.selects "LinesPromised" ⟨"LinesPromised", "midnight", "(II)I"⟩ ⟨"LinesPromised", "midnight", "(II)I"⟩) ∈ wG := wG_in 1066 (by decide +kernel) (by decide +kernel)
theorem w_1100 : (Cond.code ⟨"LinesPromised$Scrip", "sharesOf", "(II)I"⟩ prog_10_method_4_code 3 (some .int)) ∈ wG := wG_in 1100 (by decide +kernel) (by decide +kernel)
theorem w_1098 : (Cond.instanceMethod ⟨"LinesPromised$Scrip", "sharesOf", "(II)I"⟩) ∈ wG := wG_in 1098 (by decide +kernel) (by decide +kernel)
theorem w_1099 : (Cond.selects "LinesPromised$Scrip" ⟨"LinesPromised$Scrip", "sharesOf", "(II)I"⟩ ⟨"LinesPromised$Scrip", "sharesOf", "(II)I"⟩) ∈ wG := wG_in 1099 (by decide +kernel) (by decide +kernel)
theorem w_1104 : (Cond.code ⟨"LinesPromised$Scrip", "pass", "(IIII)V"⟩ prog_10_method_5_code 5 none) ∈ wG := wG_in 1104 (by decide +kernel) (by decide +kernel)
theorem w_1102 : (Cond.instanceMethod ⟨"LinesPromised$Scrip", "pass", "(IIII)V"⟩) ∈ wG := wG_in 1102 (by decide +kernel) (by decide +kernel)
theorem w_1103 : (Cond.selects "LinesPromised$Scrip" ⟨"LinesPromised$Scrip", "pass", "(IIII)V"⟩ ⟨"LinesPromised$Scrip", "pass", "(IIII)V"⟩) ∈ wG := wG_in 1103 (by decide +kernel) (by decide +kernel)
theorem w_1097 : (Cond.methodLink "LinesPromised" 321 ⟨"LinesPromised$Scrip", "sharesOf", "(II)I"⟩) ∈ wG := wG_in 1097 (by decide +kernel) (by decide +kernel)
theorem w_1101 : (Cond.methodLink "LinesPromised" 324 ⟨"LinesPromised$Scrip", "pass", "(IIII)V"⟩) ∈ wG := wG_in 1101 (by decide +kernel) (by decide +kernel)
theorem w_1096 : (Cond.code ⟨"LinesPromised", "scrip", "(III)I"⟩ prog_1_method_28_code 5 (some .int)) ∈ wG := wG_in 1096 (by decide +kernel) (by decide +kernel)
theorem w_1094 : (Cond.instanceMethod ⟨"LinesPromised", "scrip", "(III)I"⟩) ∈ wG := wG_in 1094 (by decide +kernel) (by decide +kernel)
theorem w_1095 : (Cond.selects "LinesPromised" ⟨"LinesPromised", "scrip", "(III)I"⟩ ⟨"LinesPromised", "scrip", "(III)I"⟩) ∈ wG := wG_in 1095 (by decide +kernel) (by decide +kernel)
theorem w_1108 : (Cond.code ⟨"LinesPromised", "held", "(II)I"⟩ prog_1_method_29_code 4 (some .int)) ∈ wG := wG_in 1108 (by decide +kernel) (by decide +kernel)
theorem w_1106 : (Cond.instanceMethod ⟨"LinesPromised", "held", "(II)I"⟩) ∈ wG := wG_in 1106 (by decide +kernel) (by decide +kernel)
theorem w_1107 : (Cond.selects "LinesPromised" ⟨"LinesPromised", "held", "(II)I"⟩ ⟨"LinesPromised", "held", "(II)I"⟩) ∈ wG := wG_in 1107 (by decide +kernel) (by decide +kernel)
theorem w_1116 : (Cond.code ⟨"LinesPromised", "partyOf", "(II)I"⟩ prog_1_method_57_code 4 (some .int)) ∈ wG := wG_in 1116 (by decide +kernel) (by decide +kernel)
theorem w_1115 : (Cond.instanceMethod ⟨"LinesPromised", "partyOf", "(II)I"⟩) ∈ wG := wG_in 1115 (by decide +kernel) (by decide +kernel)
theorem w_22 : (Cond.selects "LinesPromised" ⟨"LinesPromised", "partyOf", "(II)I"⟩ ⟨"LinesPromised", "partyOf", "(II)I"⟩) ∈ wG := wG_in 22 (by decide +kernel) (by decide +kernel)
theorem w_1113 : (Cond.methodLink "LinesPromised" 327 ⟨"LinesPromised", "partyOf", "(II)I"⟩) ∈ wG := wG_in 1113 (by decide +kernel) (by decide +kernel)
theorem w_1112 : (Cond.code ⟨"LinesPromised", "purse", "(II)I"⟩ prog_1_method_30_code 4 (some .int)) ∈ wG := wG_in 1112 (by decide +kernel) (by decide +kernel)
theorem w_1110 : (Cond.instanceMethod ⟨"LinesPromised", "purse", "(II)I"⟩) ∈ wG := wG_in 1110 (by decide +kernel) (by decide +kernel)
theorem w_1111 : (Cond.selects "LinesPromised" ⟨"LinesPromised", "purse", "(II)I"⟩ ⟨"LinesPromised", "purse", "(II)I"⟩) ∈ wG := wG_in 1111 (by decide +kernel) (by decide +kernel)
theorem w_226 : (Cond.fieldLink "LinesPromised$Scrip" 42 "LinesPromised$Scrip" "standing" "I") ∈ wG := wG_in 226 (by decide +kernel) (by decide +kernel)
theorem w_1124 : (Cond.code ⟨"LinesPromised$Scrip", "stand", "(IIIIZ)I"⟩ prog_10_method_6_code 6 (some .int)) ∈ wG := wG_in 1124 (by decide +kernel) (by decide +kernel)
theorem w_1122 : (Cond.instanceMethod ⟨"LinesPromised$Scrip", "stand", "(IIIIZ)I"⟩) ∈ wG := wG_in 1122 (by decide +kernel) (by decide +kernel)
theorem w_1123 : (Cond.selects "LinesPromised$Scrip" ⟨"LinesPromised$Scrip", "stand", "(IIIIZ)I"⟩ ⟨"LinesPromised$Scrip", "stand", "(IIIIZ)I"⟩) ∈ wG := wG_in 1123 (by decide +kernel) (by decide +kernel)
theorem w_227 : (Cond.fieldLink "LinesPromised" 330 "LinesPromised$Scrip" "standing" "I") ∈ wG := wG_in 227 (by decide +kernel) (by decide +kernel)
theorem w_1121 : (Cond.methodLink "LinesPromised" 333 ⟨"LinesPromised$Scrip", "stand", "(IIIIZ)I"⟩) ∈ wG := wG_in 1121 (by decide +kernel) (by decide +kernel)
theorem w_1120 : (Cond.code ⟨"LinesPromised", "ask", "(IIIIZ)I"⟩ prog_1_method_31_code 7 (some .int)) ∈ wG := wG_in 1120 (by decide +kernel) (by decide +kernel)
theorem w_1118 : (Cond.instanceMethod ⟨"LinesPromised", "ask", "(IIIIZ)I"⟩) ∈ wG := wG_in 1118 (by decide +kernel) (by decide +kernel)
theorem w_1119 : (Cond.selects "LinesPromised" ⟨"LinesPromised", "ask", "(IIIIZ)I"⟩ ⟨"LinesPromised", "ask", "(IIIIZ)I"⟩) ∈ wG := wG_in 1119 (by decide +kernel) (by decide +kernel)
theorem w_1136 : (Cond.code ⟨"LinesPromised$Scrip", "best", "(II)I"⟩ prog_10_method_8_code 5 (some .int)) ∈ wG := wG_in 1136 (by decide +kernel) (by decide +kernel)
theorem w_1135 : (Cond.instanceMethod ⟨"LinesPromised$Scrip", "best", "(II)I"⟩) ∈ wG := wG_in 1135 (by decide +kernel) (by decide +kernel)
theorem w_23 : (Cond.selects "LinesPromised$Scrip" ⟨"LinesPromised$Scrip", "best", "(II)I"⟩ ⟨"LinesPromised$Scrip", "best", "(II)I"⟩) ∈ wG := wG_in 23 (by decide +kernel) (by decide +kernel)
theorem w_1141 : (Cond.methodLink "LinesPromised$Scrip" 65 ⟨"java/lang/Math", "min", "(II)I"⟩) ∈ wG := wG_in 1141 (by decide +kernel) (by decide +kernel)
theorem w_1142 : (Cond.methodLink "LinesPromised$Scrip" 58 ⟨"LinesPromised$Scrip", "sharesOf", "(II)I"⟩) ∈ wG := wG_in 1142 (by decide +kernel) (by decide +kernel)
theorem w_1140 : (Cond.code ⟨"LinesPromised$Scrip", "goes", "(III)I"⟩ prog_10_method_9_code 6 (some .int)) ∈ wG := wG_in 1140 (by decide +kernel) (by decide +kernel)
theorem w_1139 : (Cond.instanceMethod ⟨"LinesPromised$Scrip", "goes", "(III)I"⟩) ∈ wG := wG_in 1139 (by decide +kernel) (by decide +kernel)
theorem w_24 : (Cond.selects "LinesPromised$Scrip" ⟨"LinesPromised$Scrip", "goes", "(III)I"⟩ ⟨"LinesPromised$Scrip", "goes", "(III)I"⟩) ∈ wG := wG_in 24 (by decide +kernel) (by decide +kernel)
theorem w_1147 : (Cond.methodLink "LinesPromised$Scrip" 70 ⟨"LinesPromised$Scrip", "pass", "(IIII)V"⟩) ∈ wG := wG_in 1147 (by decide +kernel) (by decide +kernel)
theorem w_1146 : (Cond.code ⟨"LinesPromised$Scrip", "sell", "(IIII)V"⟩ prog_10_method_10_code 5 none) ∈ wG := wG_in 1146 (by decide +kernel) (by decide +kernel)
theorem w_1145 : (Cond.instanceMethod ⟨"LinesPromised$Scrip", "sell", "(IIII)V"⟩) ∈ wG := wG_in 1145 (by decide +kernel) (by decide +kernel)
theorem w_25 : (Cond.selects "LinesPromised$Scrip" ⟨"LinesPromised$Scrip", "sell", "(IIII)V"⟩ ⟨"LinesPromised$Scrip", "sell", "(IIII)V"⟩) ∈ wG := wG_in 25 (by decide +kernel) (by decide +kernel)
theorem w_1151 : (Cond.code ⟨"LinesPromised$Scrip", "clearStanding", "(I)V"⟩ prog_10_method_11_code 4 none) ∈ wG := wG_in 1151 (by decide +kernel) (by decide +kernel)
theorem w_1150 : (Cond.instanceMethod ⟨"LinesPromised$Scrip", "clearStanding", "(I)V"⟩) ∈ wG := wG_in 1150 (by decide +kernel) (by decide +kernel)
theorem w_26 : (Cond.selects "LinesPromised$Scrip" ⟨"LinesPromised$Scrip", "clearStanding", "(I)V"⟩ ⟨"LinesPromised$Scrip", "clearStanding", "(I)V"⟩) ∈ wG := wG_in 26 (by decide +kernel) (by decide +kernel)
/-! LinesPromised$Press.add(II)I -/
theorem dX6_add_0 : decode cX6_add 0 = .ok (.aload_n 0, 1) := by decide +kernel
theorem dX6_add_1 : decode cX6_add 1 = .ok (.getfield 9, 3) := by decide +kernel
theorem dX6_add_4 : decode cX6_add 4 = .ok (.aload_n 0, 1) := by decide +kernel
theorem dX6_add_5 : decode cX6_add 5 = .ok (.getfield 30, 3) := by decide +kernel
theorem dX6_add_8 : decode cX6_add 8 = .ok (.iload_n 1, 1) := by decide +kernel
theorem dX6_add_9 : decode cX6_add 9 = .ok (.iastore, 1) := by decide +kernel
theorem dX6_add_10 : decode cX6_add 10 = .ok (.aload_n 0, 1) := by decide +kernel
theorem dX6_add_11 : decode cX6_add 11 = .ok (.getfield 15, 3) := by decide +kernel
theorem dX6_add_14 : decode cX6_add 14 = .ok (.aload_n 0, 1) := by decide +kernel
theorem dX6_add_15 : decode cX6_add 15 = .ok (.getfield 30, 3) := by decide +kernel
theorem dX6_add_18 : decode cX6_add 18 = .ok (.iload_n 2, 1) := by decide +kernel
theorem dX6_add_19 : decode cX6_add 19 = .ok (.iastore, 1) := by decide +kernel
theorem dX6_add_20 : decode cX6_add 20 = .ok (.aload_n 0, 1) := by decide +kernel
theorem dX6_add_21 : decode cX6_add 21 = .ok (.dup, 1) := by decide +kernel
theorem dX6_add_22 : decode cX6_add 22 = .ok (.getfield 30, 3) := by decide +kernel
theorem dX6_add_25 : decode cX6_add 25 = .ok (.iconst 1, 1) := by decide +kernel
theorem dX6_add_26 : decode cX6_add 26 = .ok (.iadd, 1) := by decide +kernel
theorem dX6_add_27 : decode cX6_add 27 = .ok (.putfield 30, 3) := by decide +kernel
theorem dX6_add_30 : decode cX6_add 30 = .ok (.aload_n 0, 1) := by decide +kernel
theorem dX6_add_31 : decode cX6_add 31 = .ok (.getfield 30, 3) := by decide +kernel
theorem dX6_add_34 : decode cX6_add 34 = .ok (.ireturn, 1) := by decide +kernel
theorem cm_X6_add : CM yX6_add cX6_add 3 (some .int) 2 6 := ⟨w_1061, w_1062, w_1063, w_92, ⟨by decide +kernel, by decide +kernel, by decide +kernel⟩, ⟨_, _, rfl⟩, by decide⟩
noncomputable def f_X6_add (n : Nat) (v0 v1 v2 : Int) (h : MM) : RR :=
  gf h v0 6 0 fun r1 =>
  gf h v0 6 2 fun r2 =>
  wt h r1 100 r2 v1 fun h3 =>
  gf h3 v0 6 1 fun r4 =>
  gf h3 v0 6 2 fun r5 =>
  wt h3 r4 100 r5 v2 fun h6 =>
  gf h6 v0 6 2 fun r7 =>
  pf h6 v0 6 2 (wr (r7 + 1)) fun h8 =>
  gf h8 v0 6 2 fun r9 =>
  some (r9, h8)
set_option maxRecDepth 20000 in
theorem e_X6_add {g : GT} {Z : Int × MM} {n : Nat} (C : Cx g cX6_add 3 yX6_add 0 0) (hr : Rt g (some .int) 0 Z) {v0 v1 v2 : Int} (cv0 : cK 2 v0) (cv1 : cK 0 v1) (cv2 : cK 0 v2) {h : MM} (hf : f_X6_add n v0 v1 v2 h = some Z) : G g 0 [(2, v0), (0, v1), (0, v2)] [] h := by
  have cv1 : in32 v1 := cv1
  have cv2 : in32 v2 := cv2
  unfold f_X6_add at hf
  refine r_aload_n C dX6_add_0 rfl ?_
  obtain ⟨q1, hf⟩ := gf_s hf
  refine r_gf C ct6 (j := 0) (ji := 0) dX6_add_1 q1 rfl rfl (by decide) w_253 rfl (fun c1 => ?_)
  refine r_aload_n C dX6_add_4 rfl ?_
  obtain ⟨q2, hf⟩ := gf_s hf
  refine r_gf C ct6 (j := 2) (ji := 2) dX6_add_5 q2 rfl rfl (by decide) w_255 rfl (fun c2 => ?_)
  have c2 : in32 _ := c2
  refine r_iload_n C dX6_add_8 rfl ?_
  obtain ⟨q3, hf⟩ := wt_s hf
  refine r_iast C dX6_add_9 q3 rfl cv1 ?_
  refine r_aload_n C dX6_add_10 rfl ?_
  obtain ⟨q4, hf⟩ := gf_s hf
  refine r_gf C ct6 (j := 1) (ji := 1) dX6_add_11 q4 rfl rfl (by decide) w_254 rfl (fun c4 => ?_)
  refine r_aload_n C dX6_add_14 rfl ?_
  obtain ⟨q5, hf⟩ := gf_s hf
  refine r_gf C ct6 (j := 2) (ji := 2) dX6_add_15 q5 rfl rfl (by decide) w_255 rfl (fun c5 => ?_)
  have c5 : in32 _ := c5
  refine r_iload_n C dX6_add_18 rfl ?_
  obtain ⟨q6, hf⟩ := wt_s hf
  refine r_iast C dX6_add_19 q6 rfl cv2 ?_
  refine r_aload_n C dX6_add_20 rfl ?_
  refine r_dup C dX6_add_21 (by decide) ?_
  obtain ⟨q7, hf⟩ := gf_s hf
  refine r_gf C ct6 (j := 2) (ji := 2) dX6_add_22 q7 rfl rfl (by decide) w_255 rfl (fun c7 => ?_)
  have c7 : in32 _ := c7
  refine r_iconst C dX6_add_25 ?_
  refine r_iadd C dX6_add_26 ?_
  obtain ⟨q8, hf⟩ := pf_s hf
  refine r_pf C ct6 (j := 2) (ji := 2) dX6_add_27 q8 rfl rfl (by decide) w_255 rfl (Or.inl rfl) nar_int (in32_t _) ?_
  refine r_aload_n C dX6_add_30 rfl ?_
  obtain ⟨q9, hf⟩ := gf_s hf
  refine r_gf C ct6 (j := 2) (ji := 2) dX6_add_31 q9 rfl rfl (by decide) w_255 rfl (fun c9 => ?_)
  have c9 : in32 _ := c9
  cases hf
  exact r_jret C hr dX6_add_34 c9
set_option maxRecDepth 20000 in
theorem am_X6_add (l : Launch) (n : Nat) : AM l yX6_add cX6_add 3 (some .int) 0 0 [2, 0, 0] 0 (un3 (f_X6_add n)) := by
  refine AM.intro (by decide) (fun xs hx => ?_) (fun g xs h Z hl C hr hx hf => ?_)
  · obtain ⟨a0, a1, a2, rfl, c0, c1, c2⟩ := canL_3 hx
    exact Nat.le_of_ble_eq_true rfl
  · obtain ⟨a0, a1, a2, rfl, c0, c1, c2⟩ := canL_3 hx
    have hf := (un3_e _ a0 a1 a2 _).symm.trans hf
    exact e_X6_add (n := n) C hr c0 c1 c2 hf
/-! LinesPromised.hand(II)I -/
theorem dX11_hand_0 : decode cX11_hand 0 = .ok (.iload_n 1, 1) := by decide +kernel
theorem dX11_hand_1 : decode cX11_hand 1 = .ok (.i2l, 1) := by decide +kernel
theorem dX11_hand_2 : decode cX11_hand 2 = .ok (.iconst 1, 1) := by decide +kernel
theorem dX11_hand_3 : decode cX11_hand 3 = .ok (.bipush 30, 2) := by decide +kernel
theorem dX11_hand_5 : decode cX11_hand 5 = .ok (.invokestatic 46, 3) := by decide +kernel
theorem dX11_hand_8 : decode cX11_hand 8 = .ok (.ifCond .eq 14, 3) := by decide +kernel
theorem dX11_hand_11 : decode cX11_hand 11 = .ok (.iload_n 2, 1) := by decide +kernel
theorem dX11_hand_12 : decode cX11_hand 12 = .ok (.i2l, 1) := by decide +kernel
theorem dX11_hand_13 : decode cX11_hand 13 = .ok (.iconst 1, 1) := by decide +kernel
theorem dX11_hand_14 : decode cX11_hand 14 = .ok (.bipush 30, 2) := by decide +kernel
theorem dX11_hand_16 : decode cX11_hand 16 = .ok (.invokestatic 46, 3) := by decide +kernel
theorem dX11_hand_19 : decode cX11_hand 19 = .ok (.ifCond .ne 6, 3) := by decide +kernel
theorem dX11_hand_22 : decode cX11_hand 22 = .ok (.bipush (-2), 2) := by decide +kernel
theorem dX11_hand_24 : decode cX11_hand 24 = .ok (.ireturn, 1) := by decide +kernel
theorem dX11_hand_25 : decode cX11_hand 25 = .ok (.aload_n 0, 1) := by decide +kernel
theorem dX11_hand_26 : decode cX11_hand 26 = .ok (.getfield 10, 3) := by decide +kernel
theorem dX11_hand_29 : decode cX11_hand 29 = .ok (.getfield 304, 3) := by decide +kernel
theorem dX11_hand_32 : decode cX11_hand 32 = .ok (.getfield 308, 3) := by decide +kernel
theorem dX11_hand_35 : decode cX11_hand 35 = .ok (.bipush 7, 2) := by decide +kernel
theorem dX11_hand_37 : decode cX11_hand 37 = .ok (.if_icmp .lt 6, 3) := by decide +kernel
theorem dX11_hand_40 : decode cX11_hand 40 = .ok (.bipush (-4), 2) := by decide +kernel
theorem dX11_hand_42 : decode cX11_hand 42 = .ok (.ireturn, 1) := by decide +kernel
theorem dX11_hand_43 : decode cX11_hand 43 = .ok (.aload_n 0, 1) := by decide +kernel
theorem dX11_hand_44 : decode cX11_hand 44 = .ok (.getfield 10, 3) := by decide +kernel
theorem dX11_hand_47 : decode cX11_hand 47 = .ok (.getfield 304, 3) := by decide +kernel
theorem dX11_hand_50 : decode cX11_hand 50 = .ok (.iload_n 1, 1) := by decide +kernel
theorem dX11_hand_51 : decode cX11_hand 51 = .ok (.iload_n 2, 1) := by decide +kernel
theorem dX11_hand_52 : decode cX11_hand 52 = .ok (.invokevirtual 311, 3) := by decide +kernel
theorem dX11_hand_55 : decode cX11_hand 55 = .ok (.ireturn, 1) := by decide +kernel
theorem cm_X11_hand : CM yX11_hand cX11_hand 3 (some .int) 2 11 := ⟨w_1057, w_1058, w_1059, w_87, ⟨by decide +kernel, by decide +kernel, by decide +kernel⟩, ⟨_, _, rfl⟩, by decide⟩
noncomputable def f_X11_hand_22 (n : Nat)  (h : MM) : RR :=
  some ((-2), h)
noncomputable def f_X11_hand (n : Nat) (v0 v1 v2 : Int) (h : MM) : RR :=
  bd (f_X11_within n v1 1 30 h) fun r1 h1 =>
  if r1 = 0 then
    f_X11_hand_22 n h1
  else
  bd (f_X11_within n v2 1 30 h1) fun r3 h3 =>
  if r3 = 0 then
    f_X11_hand_22 n h3
  else
  gf h3 v0 11 0 fun r5 =>
  gf h3 r5 10 3 fun r6 =>
  gf h3 r6 6 2 fun r7 =>
  if r7 < 7 then
    gf h3 v0 11 0 fun r9 =>
    gf h3 r9 10 3 fun r10 =>
    gk h3 r10 6 <|
    bd (f_X6_add n r10 v1 v2 h3) fun r11 h11 =>
    some (r11, h11)
  else
  some ((-4), h3)
set_option maxRecDepth 20000 in
theorem b_X11_hand_22 {g : GT} {Z : Int × MM} {n : Nat} (C : Cx g cX11_hand 3 yX11_hand 1 23) (hr : Rt g (some .int) 0 Z)     {h : MM} (hf : f_X11_hand_22 n   h = some Z) : G g 22 [(3, 0), (3, 0), (3, 0)] [] h := by
  unfold f_X11_hand_22 at hf
  refine r_bipush C dX11_hand_22 rfl ?_
  cases hf
  exact r_jret C hr dX11_hand_24 (in32_of rfl)
set_option maxRecDepth 20000 in
theorem e_X11_hand {g : GT} {Z : Int × MM} {n : Nat} (C : Cx g cX11_hand 3 yX11_hand 1 23) (hr : Rt g (some .int) 0 Z) {v0 v1 v2 : Int} (cv0 : cK 2 v0) (cv1 : cK 0 v1) (cv2 : cK 0 v2) {h : MM} (hf : f_X11_hand n v0 v1 v2 h = some Z) : G g 0 [(2, v0), (0, v1), (0, v2)] [] h := by
  have cv1 : in32 v1 := cv1
  have cv2 : in32 v2 := cv2
  unfold f_X11_hand at hf
  refine r_iload_n C dX11_hand_0 rfl ?_
  refine r_i2l C dX11_hand_1 cv1 ?_
  refine r_iconst C dX11_hand_2 ?_
  refine r_bipush C dX11_hand_3 rfl ?_
  obtain ⟨r1, h1, hq1, hf⟩ := bd_s hf
  refine r_cS3 C (am_X11_within (gl g) n) cm_X11_within w_466 dX11_hand_5 ⟨Nat.le_of_ble_eq_true rfl, Nat.le_of_ble_eq_true rfl⟩ (in64_i cv1) (in32_of rfl) (in32_of rfl) rfl (Nat.le_of_ble_eq_true rfl) hq1 (by decide) (fun c1 => ?_)
  have c1 : in32 _ := c1
  refine r_if_eq C dX11_hand_8 (tgt := 22) (by decide) c1 (fun n2 => ?_) (fun n2 => ?_)
  · have hf := ite_p n2 hf
    exact G.mask [false, false, false] rfl rfl (b_X11_hand_22 C hr   hf)
  · have hf := ite_n n2 hf
    refine r_iload_n C dX11_hand_11 rfl ?_
    refine r_i2l C dX11_hand_12 cv2 ?_
    refine r_iconst C dX11_hand_13 ?_
    refine r_bipush C dX11_hand_14 rfl ?_
    obtain ⟨r3, h3, hq3, hf⟩ := bd_s hf
    refine r_cS3 C (am_X11_within (gl g) n) cm_X11_within w_466 dX11_hand_16 ⟨Nat.le_of_ble_eq_true rfl, Nat.le_of_ble_eq_true rfl⟩ (in64_i cv2) (in32_of rfl) (in32_of rfl) rfl (Nat.le_of_ble_eq_true rfl) hq3 (by decide) (fun c3 => ?_)
    have c3 : in32 _ := c3
    refine r_if_ne C dX11_hand_19 (tgt := 25) (by decide) c3 (fun n4 => ?_) (fun n4 => ?_)
    · have hf := ite_n n4 hf
      refine r_aload_n C dX11_hand_25 rfl ?_
      obtain ⟨q5, hf⟩ := gf_s hf
      refine r_gf C ct11 (j := 0) (ji := 0) dX11_hand_26 q5 rfl rfl (by decide) w_440 rfl (fun c5 => ?_)
      obtain ⟨q6, hf⟩ := gf_s hf
      refine r_gf C ct10 (j := 3) (ji := 3) dX11_hand_29 q6 rfl rfl (by decide) w_306 rfl (fun c6 => ?_)
      obtain ⟨q7, hf⟩ := gf_s hf
      refine r_gf C ct6 (j := 2) (ji := 2) dX11_hand_32 q7 rfl rfl (by decide) w_256 rfl (fun c7 => ?_)
      have c7 : in32 _ := c7
      refine r_bipush C dX11_hand_35 rfl ?_
      refine r_icmp_lt C dX11_hand_37 (tgt := 43) (by decide) c7 (in32_of rfl) (fun n8 => ?_) (fun n8 => ?_)
      · have hf := ite_p n8 hf
        refine r_aload_n C dX11_hand_43 rfl ?_
        obtain ⟨q9, hf⟩ := gf_s hf
        refine r_gf C ct11 (j := 0) (ji := 0) dX11_hand_44 q9 rfl rfl (by decide) w_440 rfl (fun c9 => ?_)
        obtain ⟨q10, hf⟩ := gf_s hf
        refine r_gf C ct10 (j := 3) (ji := 3) dX11_hand_47 q10 rfl rfl (by decide) w_306 rfl (fun c10 => ?_)
        refine r_iload_n C dX11_hand_50 rfl ?_
        refine r_iload_n C dX11_hand_51 rfl ?_
        obtain ⟨p11, hf⟩ := gk_s hf
        obtain ⟨r11, h11, hq11, hf⟩ := bd_s hf
        refine r_cV2 C (am_X6_add (gl g) n) cm_X6_add w_1060 dX11_hand_52 ⟨Nat.le_of_ble_eq_true rfl, Nat.le_of_ble_eq_true rfl⟩ p11 rfl cv1 cv2 rfl (Nat.le_of_ble_eq_true rfl) hq11 (by decide) (fun c11 => ?_)
        have c11 : in32 _ := c11
        cases hf
        exact r_jret C hr dX11_hand_55 c11
      · have hf := ite_n n8 hf
        refine r_bipush C dX11_hand_40 rfl ?_
        cases hf
        exact r_jret C hr dX11_hand_42 (in32_of rfl)
    · have hf := ite_p n4 hf
      exact G.mask [false, false, false] rfl rfl (b_X11_hand_22 C hr   hf)
set_option maxRecDepth 20000 in
theorem am_X11_hand (l : Launch) (n : Nat) : AM l yX11_hand cX11_hand 3 (some .int) 1 23 [2, 0, 0] 0 (un3 (f_X11_hand n)) := by
  refine AM.intro (by decide) (fun xs hx => ?_) (fun g xs h Z hl C hr hx hf => ?_)
  · obtain ⟨a0, a1, a2, rfl, c0, c1, c2⟩ := canL_3 hx
    exact Nat.le_of_ble_eq_true rfl
  · obtain ⟨a0, a1, a2, rfl, c0, c1, c2⟩ := canL_3 hx
    have hf := (un3_e _ a0 a1 a2 _).symm.trans hf
    exact e_X11_hand (n := n) C hr c0 c1 c2 hf
/-! LinesPromised$Press.readyHour(II)I -/
theorem dX6_readyHour_0 : decode cX6_readyHour 0 = .ok (.iload_n 2, 1) := by decide +kernel
theorem dX6_readyHour_1 : decode cX6_readyHour 1 = .ok (.istore_n 3, 1) := by decide +kernel
theorem dX6_readyHour_2 : decode cX6_readyHour 2 = .ok (.iconst 0, 1) := by decide +kernel
theorem dX6_readyHour_3 : decode cX6_readyHour 3 = .ok (.istore 4, 2) := by decide +kernel
theorem dX6_readyHour_5 : decode cX6_readyHour 5 = .ok (.iload 4, 2) := by decide +kernel
theorem dX6_readyHour_7 : decode cX6_readyHour 7 = .ok (.aload_n 0, 1) := by decide +kernel
theorem dX6_readyHour_8 : decode cX6_readyHour 8 = .ok (.getfield 30, 3) := by decide +kernel
theorem dX6_readyHour_11 : decode cX6_readyHour 11 = .ok (.if_icmp .ge 28, 3) := by decide +kernel
theorem dX6_readyHour_14 : decode cX6_readyHour 14 = .ok (.iload_n 1, 1) := by decide +kernel
theorem dX6_readyHour_15 : decode cX6_readyHour 15 = .ok (.iload 4, 2) := by decide +kernel
theorem dX6_readyHour_17 : decode cX6_readyHour 17 = .ok (.ishr, 1) := by decide +kernel
theorem dX6_readyHour_18 : decode cX6_readyHour 18 = .ok (.iconst 1, 1) := by decide +kernel
theorem dX6_readyHour_19 : decode cX6_readyHour 19 = .ok (.iand, 1) := by decide +kernel
theorem dX6_readyHour_20 : decode cX6_readyHour 20 = .ok (.ifCond .eq 13, 3) := by decide +kernel
theorem dX6_readyHour_23 : decode cX6_readyHour 23 = .ok (.iload_n 3, 1) := by decide +kernel
theorem dX6_readyHour_24 : decode cX6_readyHour 24 = .ok (.aload_n 0, 1) := by decide +kernel
theorem dX6_readyHour_25 : decode cX6_readyHour 25 = .ok (.getfield 9, 3) := by decide +kernel
theorem dX6_readyHour_28 : decode cX6_readyHour 28 = .ok (.iload 4, 2) := by decide +kernel
theorem dX6_readyHour_30 : decode cX6_readyHour 30 = .ok (.iaload, 1) := by decide +kernel
theorem dX6_readyHour_31 : decode cX6_readyHour 31 = .ok (.iadd, 1) := by decide +kernel
theorem dX6_readyHour_32 : decode cX6_readyHour 32 = .ok (.istore_n 3, 1) := by decide +kernel
theorem dX6_readyHour_33 : decode cX6_readyHour 33 = .ok (.iinc 4 1, 3) := by decide +kernel
theorem dX6_readyHour_36 : decode cX6_readyHour 36 = .ok (.goto (-31), 3) := by decide +kernel
theorem dX6_readyHour_39 : decode cX6_readyHour 39 = .ok (.ldc 57, 2) := by decide +kernel
theorem dX6_readyHour_41 : decode cX6_readyHour 41 = .ok (.istore 4, 2) := by decide +kernel
theorem dX6_readyHour_43 : decode cX6_readyHour 43 = .ok (.iconst 0, 1) := by decide +kernel
theorem dX6_readyHour_44 : decode cX6_readyHour 44 = .ok (.istore 5, 2) := by decide +kernel
theorem dX6_readyHour_46 : decode cX6_readyHour 46 = .ok (.iload 5, 2) := by decide +kernel
theorem dX6_readyHour_48 : decode cX6_readyHour 48 = .ok (.aload_n 0, 1) := by decide +kernel
theorem dX6_readyHour_49 : decode cX6_readyHour 49 = .ok (.getfield 30, 3) := by decide +kernel
theorem dX6_readyHour_52 : decode cX6_readyHour 52 = .ok (.if_icmp .ge 53, 3) := by decide +kernel
theorem dX6_readyHour_55 : decode cX6_readyHour 55 = .ok (.iload_n 1, 1) := by decide +kernel
theorem dX6_readyHour_56 : decode cX6_readyHour 56 = .ok (.iload 5, 2) := by decide +kernel
theorem dX6_readyHour_58 : decode cX6_readyHour 58 = .ok (.ishr, 1) := by decide +kernel
theorem dX6_readyHour_59 : decode cX6_readyHour 59 = .ok (.iconst 1, 1) := by decide +kernel
theorem dX6_readyHour_60 : decode cX6_readyHour 60 = .ok (.iand, 1) := by decide +kernel
theorem dX6_readyHour_61 : decode cX6_readyHour 61 = .ok (.ifCond .ne 6, 3) := by decide +kernel
theorem dX6_readyHour_64 : decode cX6_readyHour 64 = .ok (.goto 35, 3) := by decide +kernel
theorem dX6_readyHour_67 : decode cX6_readyHour 67 = .ok (.iload 4, 2) := by decide +kernel
theorem dX6_readyHour_69 : decode cX6_readyHour 69 = .ok (.iload_n 3, 1) := by decide +kernel
theorem dX6_readyHour_70 : decode cX6_readyHour 70 = .ok (.aload_n 0, 1) := by decide +kernel
theorem dX6_readyHour_71 : decode cX6_readyHour 71 = .ok (.getfield 21, 3) := by decide +kernel
theorem dX6_readyHour_74 : decode cX6_readyHour 74 = .ok (.iload_n 1, 1) := by decide +kernel
theorem dX6_readyHour_75 : decode cX6_readyHour 75 = .ok (.iconst 1, 1) := by decide +kernel
theorem dX6_readyHour_76 : decode cX6_readyHour 76 = .ok (.iload 5, 2) := by decide +kernel
theorem dX6_readyHour_78 : decode cX6_readyHour 78 = .ok (.ishl, 1) := by decide +kernel
theorem dX6_readyHour_79 : decode cX6_readyHour 79 = .ok (.iconst (-1), 1) := by decide +kernel
theorem dX6_readyHour_80 : decode cX6_readyHour 80 = .ok (.ixor, 1) := by decide +kernel
theorem dX6_readyHour_81 : decode cX6_readyHour 81 = .ok (.iand, 1) := by decide +kernel
theorem dX6_readyHour_82 : decode cX6_readyHour 82 = .ok (.iaload, 1) := by decide +kernel
theorem dX6_readyHour_83 : decode cX6_readyHour 83 = .ok (.invokestatic 42, 3) := by decide +kernel
theorem dX6_readyHour_86 : decode cX6_readyHour 86 = .ok (.aload_n 0, 1) := by decide +kernel
theorem dX6_readyHour_87 : decode cX6_readyHour 87 = .ok (.getfield 15, 3) := by decide +kernel
theorem dX6_readyHour_90 : decode cX6_readyHour 90 = .ok (.iload 5, 2) := by decide +kernel
theorem dX6_readyHour_92 : decode cX6_readyHour 92 = .ok (.iaload, 1) := by decide +kernel
theorem dX6_readyHour_93 : decode cX6_readyHour 93 = .ok (.iadd, 1) := by decide +kernel
theorem dX6_readyHour_94 : decode cX6_readyHour 94 = .ok (.invokestatic 58, 3) := by decide +kernel
theorem dX6_readyHour_97 : decode cX6_readyHour 97 = .ok (.istore 4, 2) := by decide +kernel
theorem dX6_readyHour_99 : decode cX6_readyHour 99 = .ok (.iinc 5 1, 3) := by decide +kernel
theorem dX6_readyHour_102 : decode cX6_readyHour 102 = .ok (.goto (-56), 3) := by decide +kernel
theorem dX6_readyHour_105 : decode cX6_readyHour 105 = .ok (.iload 4, 2) := by decide +kernel
theorem dX6_readyHour_107 : decode cX6_readyHour 107 = .ok (.ireturn, 1) := by decide +kernel
theorem cm_X6_readyHour : CM yX6_readyHour cX6_readyHour 6 (some .int) 2 6 := ⟨w_1078, w_20, w_1079, w_92, ⟨by decide +kernel, by decide +kernel, by decide +kernel⟩, ⟨_, _, rfl⟩, by decide⟩
noncomputable def f_X6_readyHour_99 (n : Nat) (rec46 : Int → Int → MM → RR) (v0 v1 v3 v4 v5 : Int) (h : MM) : RR :=
  lb (wr (v5 + 1)) fun x1 =>
  rec46 v4 x1 h
noncomputable def f_X6_readyHour_46b (n : Nat) (rec46 : Int → Int → MM → RR) (v0 v1 v3 v4 v5 : Int) (h : MM) : RR :=
  gf h v0 6 2 fun r1 =>
  if r1 ≤ v5 then
    some (v4, h)
  else
  if ban (shr v1 v5) 1 = 0 then
    f_X6_readyHour_99 n rec46 v0 v1 v3 v4 v5 h
  else
  gf h v0 6 4 fun r4 =>
  rd h r4 100 (ban v1 (bxo (shl 1 v5) ((-1)))) fun r5 =>
  gf h v0 6 1 fun r6 =>
  rd h r6 100 v5 fun r7 =>
  lb (jmin v4 (wr ((jmax v3 r5) + r7))) fun x8 =>
  f_X6_readyHour_99 n rec46 v0 v1 v3 x8 v5 h
noncomputable def f_X6_readyHour_46 (n : Nat)  (v0 v1 v3 : Int) : Nat → Int → Int → MM → RR
  | 0, _, _, _ => none
  | k + 1, v4, v5, h => f_X6_readyHour_46b n  (f_X6_readyHour_46 n  v0 v1 v3 k) v0 v1 v3 v4 v5 h
noncomputable def f_X6_readyHour_33 (n : Nat) (rec5 : Int → Int → MM → RR) (v0 v1 v3 v4 : Int) (h : MM) : RR :=
  lb (wr (v4 + 1)) fun x1 =>
  rec5 v3 x1 h
noncomputable def f_X6_readyHour_5b (n : Nat) (rec5 : Int → Int → MM → RR) (v0 v1 v3 v4 : Int) (h : MM) : RR :=
  gf h v0 6 2 fun r1 =>
  if r1 ≤ v4 then
    f_X6_readyHour_46 n v0 v1 v3 n 1000000 0 h
  else
  if ban (shr v1 v4) 1 = 0 then
    f_X6_readyHour_33 n rec5 v0 v1 v3 v4 h
  else
  gf h v0 6 0 fun r4 =>
  rd h r4 100 v4 fun r5 =>
  lb (wr (v3 + r5)) fun x6 =>
  f_X6_readyHour_33 n rec5 v0 v1 x6 v4 h
noncomputable def f_X6_readyHour_5 (n : Nat)  (v0 v1 : Int) : Nat → Int → Int → MM → RR
  | 0, _, _, _ => none
  | k + 1, v3, v4, h => f_X6_readyHour_5b n  (f_X6_readyHour_5 n  v0 v1 k) v0 v1 v3 v4 h
noncomputable def f_X6_readyHour (n : Nat) (v0 v1 v2 : Int) (h : MM) : RR :=
  f_X6_readyHour_5 n v0 v1 n v2 0 h
set_option maxRecDepth 20000 in
theorem b_X6_readyHour_99 {g : GT} {Z : Int × MM} {n : Nat} (C : Cx g cX6_readyHour 6 yX6_readyHour 1 24) (hr : Rt g (some .int) 0 Z) {v0 v1 v3 v4 v5 : Int}  {rec46 : Int → Int → MM → RR} (L46 : ∀ (u4 u5 : Int) (h : MM), in32 u4 → in32 u5 → rec46 u4 u5 h = some Z → G g 46 [(2, v0), (0, v1), (3, 0), (0, v3), (0, u4), (0, u5)] [] h) (cv1 : in32 v1) (cv3 : in32 v3) (cv4 : in32 v4) (cv5 : in32 v5) {h : MM} (hf : f_X6_readyHour_99 n rec46 v0 v1 v3 v4 v5 h = some Z) : G g 99 [(2, v0), (0, v1), (3, 0), (0, v3), (0, v4), (0, v5)] [] h := by
  unfold f_X6_readyHour_99 at hf
  obtain ⟨x1, e1, hf⟩ := lb_s hf
  have c1 : in32 x1 := by rw [e1]; exact (in32_t _)
  refine r_iincL C dX6_readyHour_99 rfl e1 (Nat.le_of_ble_eq_true rfl) rfl ?_
  refine r_goto C dX6_readyHour_102 (tgt := 46) (by decide) ?_
  exact G.mask [true, true, false, true, true, true] rfl rfl (L46 _ _ _ cv4 c1 hf)
set_option maxRecDepth 20000 in
theorem b_X6_readyHour_46b {g : GT} {Z : Int × MM} {n : Nat} (C : Cx g cX6_readyHour 6 yX6_readyHour 1 24) (hr : Rt g (some .int) 0 Z) {v0 v1 v3 v4 v5 : Int}  {rec46 : Int → Int → MM → RR} (L46 : ∀ (u4 u5 : Int) (h : MM), in32 u4 → in32 u5 → rec46 u4 u5 h = some Z → G g 46 [(2, v0), (0, v1), (3, 0), (0, v3), (0, u4), (0, u5)] [] h) (cv1 : in32 v1) (cv3 : in32 v3) (cv4 : in32 v4) (cv5 : in32 v5) {h : MM} (hf : f_X6_readyHour_46b n rec46 v0 v1 v3 v4 v5 h = some Z) : G g 46 [(2, v0), (0, v1), (3, 0), (0, v3), (0, v4), (0, v5)] [] h := by
  unfold f_X6_readyHour_46b at hf
  refine r_iload C dX6_readyHour_46 rfl ?_
  refine r_aload_n C dX6_readyHour_48 rfl ?_
  obtain ⟨q1, hf⟩ := gf_s hf
  refine r_gf C ct6 (j := 2) (ji := 2) dX6_readyHour_49 q1 rfl rfl (by decide) w_255 rfl (fun c1 => ?_)
  have c1 : in32 _ := c1
  refine r_icmp_ge C dX6_readyHour_52 (tgt := 105) (by decide) cv5 c1 (fun n2 => ?_) (fun n2 => ?_)
  · have hf := ite_p n2 hf
    refine r_iload C dX6_readyHour_105 rfl ?_
    cases hf
    exact r_jret C hr dX6_readyHour_107 cv4
  · have hf := ite_n n2 hf
    refine r_iload_n C dX6_readyHour_55 rfl ?_
    refine r_iload C dX6_readyHour_56 rfl ?_
    refine r_ishr C dX6_readyHour_58 ?_
    refine r_iconst C dX6_readyHour_59 ?_
    refine r_iand C dX6_readyHour_60 ?_
    refine r_if_ne C dX6_readyHour_61 (tgt := 67) (by decide) (in32_t _) (fun n3 => ?_) (fun n3 => ?_)
    · have hf := ite_n n3 hf
      refine r_iload C dX6_readyHour_67 rfl ?_
      refine r_iload_n C dX6_readyHour_69 rfl ?_
      refine r_aload_n C dX6_readyHour_70 rfl ?_
      obtain ⟨q4, hf⟩ := gf_s hf
      refine r_gf C ct6 (j := 4) (ji := 4) dX6_readyHour_71 q4 rfl rfl (by decide) w_259 rfl (fun c4 => ?_)
      refine r_iload_n C dX6_readyHour_74 rfl ?_
      refine r_iconst C dX6_readyHour_75 ?_
      refine r_iload C dX6_readyHour_76 rfl ?_
      refine r_ishl C dX6_readyHour_78 ?_
      refine r_iconst C dX6_readyHour_79 ?_
      refine r_ixor C dX6_readyHour_80 ?_
      refine r_iand C dX6_readyHour_81 ?_
      obtain ⟨q5, hf⟩ := rd_s hf
      refine r_iald C dX6_readyHour_82 q5 rfl (fun c5 => ?_)
      refine r_mmax C dX6_readyHour_83 w_1081 ⟨Nat.le_of_ble_eq_true rfl, Nat.le_of_ble_eq_true rfl⟩ rfl cv3 c5 ?_
      refine r_aload_n C dX6_readyHour_86 rfl ?_
      obtain ⟨q6, hf⟩ := gf_s hf
      refine r_gf C ct6 (j := 1) (ji := 1) dX6_readyHour_87 q6 rfl rfl (by decide) w_254 rfl (fun c6 => ?_)
      refine r_iload C dX6_readyHour_90 rfl ?_
      obtain ⟨q7, hf⟩ := rd_s hf
      refine r_iald C dX6_readyHour_92 q7 rfl (fun c7 => ?_)
      refine r_iadd C dX6_readyHour_93 ?_
      refine r_mmin C dX6_readyHour_94 w_1082 ⟨Nat.le_of_ble_eq_true rfl, Nat.le_of_ble_eq_true rfl⟩ rfl cv4 (in32_t _) ?_
      obtain ⟨x8, e8, hf⟩ := lb_s hf
      have c8 : in32 x8 := by rw [e8]; exact (in32_min cv4 (in32_t _))
      refine r_istoreL C dX6_readyHour_97 e8 (Nat.le_of_ble_eq_true rfl) rfl ?_
      exact G.mask [true, true, false, true, true, true] rfl rfl (b_X6_readyHour_99 C hr L46 cv1 cv3 c8 cv5 hf)
    · have hf := ite_p n3 hf
      refine r_goto C dX6_readyHour_64 (tgt := 99) (by decide) ?_
      exact G.mask [true, true, false, true, true, true] rfl rfl (b_X6_readyHour_99 C hr L46 cv1 cv3 cv4 cv5 hf)
set_option maxRecDepth 20000 in
theorem l_X6_readyHour_46 {g : GT} {Z : Int × MM} {n : Nat} (C : Cx g cX6_readyHour 6 yX6_readyHour 1 24) (hr : Rt g (some .int) 0 Z) {v0 v1 v3 : Int}   (cv1 : in32 v1) (cv3 : in32 v3) : ∀ (k : Nat) (v4 v5 : Int) (h : MM), in32 v4 → in32 v5 → f_X6_readyHour_46 n  v0 v1 v3 k v4 v5 h = some Z → G g 46 [(2, v0), (0, v1), (3, 0), (0, v3), (0, v4), (0, v5)] [] h := by
  intro k
  induction k with
  | zero => intro v4 v5 h cv4 cv5 hf; exact absurd hf (by intro z; cases z)
  | succ k ih => intro v4 v5 h cv4 cv5 hf; exact b_X6_readyHour_46b C hr (rec46 := f_X6_readyHour_46 n  v0 v1 v3 k)  ih cv1 cv3 cv4 cv5 (show f_X6_readyHour_46b n  (f_X6_readyHour_46 n  v0 v1 v3 k) v0 v1 v3 v4 v5 h = some Z from hf)
set_option maxRecDepth 20000 in
theorem b_X6_readyHour_33 {g : GT} {Z : Int × MM} {n : Nat} (C : Cx g cX6_readyHour 6 yX6_readyHour 1 24) (hr : Rt g (some .int) 0 Z) {v0 v1 v3 v4 : Int}  {rec5 : Int → Int → MM → RR} (L5 : ∀ (u3 u4 : Int) (h : MM), in32 u3 → in32 u4 → rec5 u3 u4 h = some Z → G g 5 [(2, v0), (0, v1), (3, 0), (0, u3), (0, u4), (3, 0)] [] h) (cv1 : in32 v1) (cv3 : in32 v3) (cv4 : in32 v4) {h : MM} (hf : f_X6_readyHour_33 n rec5 v0 v1 v3 v4 h = some Z) : G g 33 [(2, v0), (0, v1), (3, 0), (0, v3), (0, v4), (3, 0)] [] h := by
  unfold f_X6_readyHour_33 at hf
  obtain ⟨x1, e1, hf⟩ := lb_s hf
  have c1 : in32 x1 := by rw [e1]; exact (in32_t _)
  refine r_iincL C dX6_readyHour_33 rfl e1 (Nat.le_of_ble_eq_true rfl) rfl ?_
  refine r_goto C dX6_readyHour_36 (tgt := 5) (by decide) ?_
  exact G.mask [true, true, false, true, true, false] rfl rfl (L5 _ _ _ cv3 c1 hf)
set_option maxRecDepth 20000 in
theorem b_X6_readyHour_5b {g : GT} {Z : Int × MM} {n : Nat} (C : Cx g cX6_readyHour 6 yX6_readyHour 1 24) (hr : Rt g (some .int) 0 Z) {v0 v1 v3 v4 : Int}  {rec5 : Int → Int → MM → RR} (L5 : ∀ (u3 u4 : Int) (h : MM), in32 u3 → in32 u4 → rec5 u3 u4 h = some Z → G g 5 [(2, v0), (0, v1), (3, 0), (0, u3), (0, u4), (3, 0)] [] h) (cv1 : in32 v1) (cv3 : in32 v3) (cv4 : in32 v4) {h : MM} (hf : f_X6_readyHour_5b n rec5 v0 v1 v3 v4 h = some Z) : G g 5 [(2, v0), (0, v1), (3, 0), (0, v3), (0, v4), (3, 0)] [] h := by
  unfold f_X6_readyHour_5b at hf
  refine r_iload C dX6_readyHour_5 rfl ?_
  refine r_aload_n C dX6_readyHour_7 rfl ?_
  obtain ⟨q1, hf⟩ := gf_s hf
  refine r_gf C ct6 (j := 2) (ji := 2) dX6_readyHour_8 q1 rfl rfl (by decide) w_255 rfl (fun c1 => ?_)
  have c1 : in32 _ := c1
  refine r_icmp_ge C dX6_readyHour_11 (tgt := 39) (by decide) cv4 c1 (fun n2 => ?_) (fun n2 => ?_)
  · have hf := ite_p n2 hf
    refine r_ldc C (v := 1000000) dX6_readyHour_39 w_1080 ?_
    refine r_istore C dX6_readyHour_41 (Nat.le_of_ble_eq_true rfl) rfl ?_
    refine r_iconst C dX6_readyHour_43 ?_
    refine r_istore C dX6_readyHour_44 (Nat.le_of_ble_eq_true rfl) rfl ?_
    exact G.mask [true, true, false, true, true, true] rfl rfl (l_X6_readyHour_46 C hr  cv1 cv3 _ _ _ _ (in32_of rfl) (in32_of rfl) hf)
  · have hf := ite_n n2 hf
    refine r_iload_n C dX6_readyHour_14 rfl ?_
    refine r_iload C dX6_readyHour_15 rfl ?_
    refine r_ishr C dX6_readyHour_17 ?_
    refine r_iconst C dX6_readyHour_18 ?_
    refine r_iand C dX6_readyHour_19 ?_
    refine r_if_eq C dX6_readyHour_20 (tgt := 33) (by decide) (in32_t _) (fun n3 => ?_) (fun n3 => ?_)
    · have hf := ite_p n3 hf
      exact G.mask [true, true, false, true, true, false] rfl rfl (b_X6_readyHour_33 C hr L5 cv1 cv3 cv4 hf)
    · have hf := ite_n n3 hf
      refine r_iload_n C dX6_readyHour_23 rfl ?_
      refine r_aload_n C dX6_readyHour_24 rfl ?_
      obtain ⟨q4, hf⟩ := gf_s hf
      refine r_gf C ct6 (j := 0) (ji := 0) dX6_readyHour_25 q4 rfl rfl (by decide) w_253 rfl (fun c4 => ?_)
      refine r_iload C dX6_readyHour_28 rfl ?_
      obtain ⟨q5, hf⟩ := rd_s hf
      refine r_iald C dX6_readyHour_30 q5 rfl (fun c5 => ?_)
      refine r_iadd C dX6_readyHour_31 ?_
      obtain ⟨x6, e6, hf⟩ := lb_s hf
      have c6 : in32 x6 := by rw [e6]; exact (in32_t _)
      refine r_istore_nL C dX6_readyHour_32 e6 (Nat.le_of_ble_eq_true rfl) rfl ?_
      exact G.mask [true, true, false, true, true, false] rfl rfl (b_X6_readyHour_33 C hr L5 cv1 c6 cv4 hf)
set_option maxRecDepth 20000 in
theorem l_X6_readyHour_5 {g : GT} {Z : Int × MM} {n : Nat} (C : Cx g cX6_readyHour 6 yX6_readyHour 1 24) (hr : Rt g (some .int) 0 Z) {v0 v1 : Int}   (cv1 : in32 v1) : ∀ (k : Nat) (v3 v4 : Int) (h : MM), in32 v3 → in32 v4 → f_X6_readyHour_5 n  v0 v1 k v3 v4 h = some Z → G g 5 [(2, v0), (0, v1), (3, 0), (0, v3), (0, v4), (3, 0)] [] h := by
  intro k
  induction k with
  | zero => intro v3 v4 h cv3 cv4 hf; exact absurd hf (by intro z; cases z)
  | succ k ih => intro v3 v4 h cv3 cv4 hf; exact b_X6_readyHour_5b C hr (rec5 := f_X6_readyHour_5 n  v0 v1 k)  ih cv1 cv3 cv4 (show f_X6_readyHour_5b n  (f_X6_readyHour_5 n  v0 v1 k) v0 v1 v3 v4 h = some Z from hf)
set_option maxRecDepth 20000 in
theorem e_X6_readyHour {g : GT} {Z : Int × MM} {n : Nat} (C : Cx g cX6_readyHour 6 yX6_readyHour 1 24) (hr : Rt g (some .int) 0 Z) {v0 v1 v2 : Int} (cv0 : cK 2 v0) (cv1 : cK 0 v1) (cv2 : cK 0 v2) {h : MM} (hf : f_X6_readyHour n v0 v1 v2 h = some Z) : G g 0 [(2, v0), (0, v1), (0, v2), (3, 0), (3, 0), (3, 0)] [] h := by
  have cv1 : in32 v1 := cv1
  have cv2 : in32 v2 := cv2
  unfold f_X6_readyHour at hf
  refine r_iload_n C dX6_readyHour_0 rfl ?_
  refine r_istore_n C dX6_readyHour_1 (Nat.le_of_ble_eq_true rfl) rfl ?_
  refine r_iconst C dX6_readyHour_2 ?_
  refine r_istore C dX6_readyHour_3 (Nat.le_of_ble_eq_true rfl) rfl ?_
  exact G.mask [true, true, false, true, true, false] rfl rfl (l_X6_readyHour_5 C hr  cv1 _ _ _ _ cv2 (in32_of rfl) hf)
set_option maxRecDepth 20000 in
theorem am_X6_readyHour (l : Launch) (n : Nat) : AM l yX6_readyHour cX6_readyHour 6 (some .int) 1 24 [2, 0, 0] 0 (un3 (f_X6_readyHour n)) := by
  refine AM.intro (by decide) (fun xs hx => ?_) (fun g xs h Z hl C hr hx hf => ?_)
  · obtain ⟨a0, a1, a2, rfl, c0, c1, c2⟩ := canL_3 hx
    exact Nat.le_of_ble_eq_true rfl
  · obtain ⟨a0, a1, a2, rfl, c0, c1, c2⟩ := canL_3 hx
    have hf := (un3_e _ a0 a1 a2 _).symm.trans hf
    exact e_X6_readyHour (n := n) C hr c0 c1 c2 hf
/-! java/lang/Integer.bitCount(I)I -/
theorem dJ6_bitCount_0f7a4_0 : decode cJ6_bitCount_0f7a4 0 = .ok (.iload_n 0, 1) := by decide +kernel
theorem dJ6_bitCount_0f7a4_1 : decode cJ6_bitCount_0f7a4 1 = .ok (.iload_n 0, 1) := by decide +kernel
theorem dJ6_bitCount_0f7a4_2 : decode cJ6_bitCount_0f7a4 2 = .ok (.iconst 1, 1) := by decide +kernel
theorem dJ6_bitCount_0f7a4_3 : decode cJ6_bitCount_0f7a4 3 = .ok (.iushr, 1) := by decide +kernel
theorem dJ6_bitCount_0f7a4_4 : decode cJ6_bitCount_0f7a4 4 = .ok (.ldc_w 265, 3) := by decide +kernel
theorem dJ6_bitCount_0f7a4_7 : decode cJ6_bitCount_0f7a4 7 = .ok (.iand, 1) := by decide +kernel
theorem dJ6_bitCount_0f7a4_8 : decode cJ6_bitCount_0f7a4 8 = .ok (.isub, 1) := by decide +kernel
theorem dJ6_bitCount_0f7a4_9 : decode cJ6_bitCount_0f7a4 9 = .ok (.istore_n 0, 1) := by decide +kernel
theorem dJ6_bitCount_0f7a4_10 : decode cJ6_bitCount_0f7a4 10 = .ok (.iload_n 0, 1) := by decide +kernel
theorem dJ6_bitCount_0f7a4_11 : decode cJ6_bitCount_0f7a4 11 = .ok (.ldc_w 266, 3) := by decide +kernel
theorem dJ6_bitCount_0f7a4_14 : decode cJ6_bitCount_0f7a4 14 = .ok (.iand, 1) := by decide +kernel
theorem dJ6_bitCount_0f7a4_15 : decode cJ6_bitCount_0f7a4 15 = .ok (.iload_n 0, 1) := by decide +kernel
theorem dJ6_bitCount_0f7a4_16 : decode cJ6_bitCount_0f7a4 16 = .ok (.iconst 2, 1) := by decide +kernel
theorem dJ6_bitCount_0f7a4_17 : decode cJ6_bitCount_0f7a4 17 = .ok (.iushr, 1) := by decide +kernel
theorem dJ6_bitCount_0f7a4_18 : decode cJ6_bitCount_0f7a4 18 = .ok (.ldc_w 266, 3) := by decide +kernel
theorem dJ6_bitCount_0f7a4_21 : decode cJ6_bitCount_0f7a4 21 = .ok (.iand, 1) := by decide +kernel
theorem dJ6_bitCount_0f7a4_22 : decode cJ6_bitCount_0f7a4 22 = .ok (.iadd, 1) := by decide +kernel
theorem dJ6_bitCount_0f7a4_23 : decode cJ6_bitCount_0f7a4 23 = .ok (.istore_n 0, 1) := by decide +kernel
theorem dJ6_bitCount_0f7a4_24 : decode cJ6_bitCount_0f7a4 24 = .ok (.iload_n 0, 1) := by decide +kernel
theorem dJ6_bitCount_0f7a4_25 : decode cJ6_bitCount_0f7a4 25 = .ok (.iload_n 0, 1) := by decide +kernel
theorem dJ6_bitCount_0f7a4_26 : decode cJ6_bitCount_0f7a4 26 = .ok (.iconst 4, 1) := by decide +kernel
theorem dJ6_bitCount_0f7a4_27 : decode cJ6_bitCount_0f7a4 27 = .ok (.iushr, 1) := by decide +kernel
theorem dJ6_bitCount_0f7a4_28 : decode cJ6_bitCount_0f7a4 28 = .ok (.iadd, 1) := by decide +kernel
theorem dJ6_bitCount_0f7a4_29 : decode cJ6_bitCount_0f7a4 29 = .ok (.ldc_w 267, 3) := by decide +kernel
theorem dJ6_bitCount_0f7a4_32 : decode cJ6_bitCount_0f7a4 32 = .ok (.iand, 1) := by decide +kernel
theorem dJ6_bitCount_0f7a4_33 : decode cJ6_bitCount_0f7a4 33 = .ok (.istore_n 0, 1) := by decide +kernel
theorem dJ6_bitCount_0f7a4_34 : decode cJ6_bitCount_0f7a4 34 = .ok (.iload_n 0, 1) := by decide +kernel
theorem dJ6_bitCount_0f7a4_35 : decode cJ6_bitCount_0f7a4 35 = .ok (.iload_n 0, 1) := by decide +kernel
theorem dJ6_bitCount_0f7a4_36 : decode cJ6_bitCount_0f7a4 36 = .ok (.bipush 8, 2) := by decide +kernel
theorem dJ6_bitCount_0f7a4_38 : decode cJ6_bitCount_0f7a4 38 = .ok (.iushr, 1) := by decide +kernel
theorem dJ6_bitCount_0f7a4_39 : decode cJ6_bitCount_0f7a4 39 = .ok (.iadd, 1) := by decide +kernel
theorem dJ6_bitCount_0f7a4_40 : decode cJ6_bitCount_0f7a4 40 = .ok (.istore_n 0, 1) := by decide +kernel
theorem dJ6_bitCount_0f7a4_41 : decode cJ6_bitCount_0f7a4 41 = .ok (.iload_n 0, 1) := by decide +kernel
theorem dJ6_bitCount_0f7a4_42 : decode cJ6_bitCount_0f7a4 42 = .ok (.iload_n 0, 1) := by decide +kernel
theorem dJ6_bitCount_0f7a4_43 : decode cJ6_bitCount_0f7a4 43 = .ok (.bipush 16, 2) := by decide +kernel
theorem dJ6_bitCount_0f7a4_45 : decode cJ6_bitCount_0f7a4 45 = .ok (.iushr, 1) := by decide +kernel
theorem dJ6_bitCount_0f7a4_46 : decode cJ6_bitCount_0f7a4 46 = .ok (.iadd, 1) := by decide +kernel
theorem dJ6_bitCount_0f7a4_47 : decode cJ6_bitCount_0f7a4 47 = .ok (.istore_n 0, 1) := by decide +kernel
theorem dJ6_bitCount_0f7a4_48 : decode cJ6_bitCount_0f7a4 48 = .ok (.iload_n 0, 1) := by decide +kernel
theorem dJ6_bitCount_0f7a4_49 : decode cJ6_bitCount_0f7a4 49 = .ok (.bipush 63, 2) := by decide +kernel
theorem dJ6_bitCount_0f7a4_51 : decode cJ6_bitCount_0f7a4 51 = .ok (.iand, 1) := by decide +kernel
theorem dJ6_bitCount_0f7a4_52 : decode cJ6_bitCount_0f7a4 52 = .ok (.ireturn, 1) := by decide +kernel
theorem cm_J6_bitCount_0f7a4 : CMs yJ6_bitCount_0f7a4 cJ6_bitCount_0f7a4 1 (some .int) 1 := ⟨w_1084, w_1085, w_107, ⟨by decide +kernel, by decide +kernel, by decide +kernel⟩⟩
noncomputable def f_J6_bitCount_0f7a4 (n : Nat) (v0 : Int) (h : MM) : RR :=
  lb (wr (v0 - (ban (ush v0 1) 1431655765))) fun x1 =>
  lb (wr ((ban x1 858993459) + (ban (ush x1 2) 858993459))) fun x2 =>
  lb (ban (wr (x2 + (ush x2 4))) 252645135) fun x3 =>
  lb (wr (x3 + (ush x3 8))) fun x4 =>
  lb (wr (x4 + (ush x4 16))) fun x5 =>
  some (ban x5 63, h)
set_option maxRecDepth 20000 in
theorem e_J6_bitCount_0f7a4 {g : GT} {Z : Int × MM} {n : Nat} (C : Cx g cJ6_bitCount_0f7a4 1 yJ6_bitCount_0f7a4 0 0) (hr : Rt g (some .int) 0 Z) {v0 : Int} (cv0 : cK 0 v0) {h : MM} (hf : f_J6_bitCount_0f7a4 n v0 h = some Z) : G g 0 [(0, v0)] [] h := by
  have cv0 : in32 v0 := cv0
  unfold f_J6_bitCount_0f7a4 at hf
  refine r_iload_n C dJ6_bitCount_0f7a4_0 rfl ?_
  refine r_iload_n C dJ6_bitCount_0f7a4_1 rfl ?_
  refine r_iconst C dJ6_bitCount_0f7a4_2 ?_
  refine r_iushr C dJ6_bitCount_0f7a4_3 ?_
  refine r_ldcw C (v := 1431655765) dJ6_bitCount_0f7a4_4 w_1086 ?_
  refine r_iand C dJ6_bitCount_0f7a4_7 ?_
  refine r_isub C dJ6_bitCount_0f7a4_8 ?_
  obtain ⟨x1, e1, hf⟩ := lb_s hf
  have c1 : in32 x1 := by rw [e1]; exact (in32_t _)
  refine r_istore_nL C dJ6_bitCount_0f7a4_9 e1 (Nat.le_of_ble_eq_true rfl) rfl ?_
  refine r_iload_n C dJ6_bitCount_0f7a4_10 rfl ?_
  refine r_ldcw C (v := 858993459) dJ6_bitCount_0f7a4_11 w_1087 ?_
  refine r_iand C dJ6_bitCount_0f7a4_14 ?_
  refine r_iload_n C dJ6_bitCount_0f7a4_15 rfl ?_
  refine r_iconst C dJ6_bitCount_0f7a4_16 ?_
  refine r_iushr C dJ6_bitCount_0f7a4_17 ?_
  refine r_ldcw C (v := 858993459) dJ6_bitCount_0f7a4_18 w_1087 ?_
  refine r_iand C dJ6_bitCount_0f7a4_21 ?_
  refine r_iadd C dJ6_bitCount_0f7a4_22 ?_
  obtain ⟨x2, e2, hf⟩ := lb_s hf
  have c2 : in32 x2 := by rw [e2]; exact (in32_t _)
  refine r_istore_nL C dJ6_bitCount_0f7a4_23 e2 (Nat.le_of_ble_eq_true rfl) rfl ?_
  refine r_iload_n C dJ6_bitCount_0f7a4_24 rfl ?_
  refine r_iload_n C dJ6_bitCount_0f7a4_25 rfl ?_
  refine r_iconst C dJ6_bitCount_0f7a4_26 ?_
  refine r_iushr C dJ6_bitCount_0f7a4_27 ?_
  refine r_iadd C dJ6_bitCount_0f7a4_28 ?_
  refine r_ldcw C (v := 252645135) dJ6_bitCount_0f7a4_29 w_1088 ?_
  refine r_iand C dJ6_bitCount_0f7a4_32 ?_
  obtain ⟨x3, e3, hf⟩ := lb_s hf
  have c3 : in32 x3 := by rw [e3]; exact (in32_t _)
  refine r_istore_nL C dJ6_bitCount_0f7a4_33 e3 (Nat.le_of_ble_eq_true rfl) rfl ?_
  refine r_iload_n C dJ6_bitCount_0f7a4_34 rfl ?_
  refine r_iload_n C dJ6_bitCount_0f7a4_35 rfl ?_
  refine r_bipush C dJ6_bitCount_0f7a4_36 rfl ?_
  refine r_iushr C dJ6_bitCount_0f7a4_38 ?_
  refine r_iadd C dJ6_bitCount_0f7a4_39 ?_
  obtain ⟨x4, e4, hf⟩ := lb_s hf
  have c4 : in32 x4 := by rw [e4]; exact (in32_t _)
  refine r_istore_nL C dJ6_bitCount_0f7a4_40 e4 (Nat.le_of_ble_eq_true rfl) rfl ?_
  refine r_iload_n C dJ6_bitCount_0f7a4_41 rfl ?_
  refine r_iload_n C dJ6_bitCount_0f7a4_42 rfl ?_
  refine r_bipush C dJ6_bitCount_0f7a4_43 rfl ?_
  refine r_iushr C dJ6_bitCount_0f7a4_45 ?_
  refine r_iadd C dJ6_bitCount_0f7a4_46 ?_
  obtain ⟨x5, e5, hf⟩ := lb_s hf
  have c5 : in32 x5 := by rw [e5]; exact (in32_t _)
  refine r_istore_nL C dJ6_bitCount_0f7a4_47 e5 (Nat.le_of_ble_eq_true rfl) rfl ?_
  refine r_iload_n C dJ6_bitCount_0f7a4_48 rfl ?_
  refine r_bipush C dJ6_bitCount_0f7a4_49 rfl ?_
  refine r_iand C dJ6_bitCount_0f7a4_51 ?_
  cases hf
  exact r_jret C hr dJ6_bitCount_0f7a4_52 (in32_t _)
set_option maxRecDepth 20000 in
theorem am_J6_bitCount_0f7a4 (l : Launch) (n : Nat) : AM l yJ6_bitCount_0f7a4 cJ6_bitCount_0f7a4 1 (some .int) 0 0 [0] 0 (un1 (f_J6_bitCount_0f7a4 n)) := by
  refine AM.intro (by decide) (fun xs hx => ?_) (fun g xs h Z hl C hr hx hf => ?_)
  · obtain ⟨a0, rfl, c0⟩ := canL_1 hx
    exact Nat.le_of_ble_eq_true rfl
  · obtain ⟨a0, rfl, c0⟩ := canL_1 hx
    have hf := (un1_e _ a0 _).symm.trans hf
    exact e_J6_bitCount_0f7a4 (n := n) C hr c0 hf
/-! LinesPromised$Press.most(IIII)I -/
theorem dX6_most_0 : decode cX6_most 0 = .ok (.iconst 0, 1) := by decide +kernel
theorem dX6_most_1 : decode cX6_most 1 = .ok (.istore 5, 2) := by decide +kernel
theorem dX6_most_3 : decode cX6_most 3 = .ok (.aload_n 0, 1) := by decide +kernel
theorem dX6_most_4 : decode cX6_most 4 = .ok (.getfield 21, 3) := by decide +kernel
theorem dX6_most_7 : decode cX6_most 7 = .ok (.iconst 0, 1) := by decide +kernel
theorem dX6_most_8 : decode cX6_most 8 = .ok (.iload_n 3, 1) := by decide +kernel
theorem dX6_most_9 : decode cX6_most 9 = .ok (.iastore, 1) := by decide +kernel
theorem dX6_most_10 : decode cX6_most 10 = .ok (.iconst 1, 1) := by decide +kernel
theorem dX6_most_11 : decode cX6_most 11 = .ok (.istore 6, 2) := by decide +kernel
theorem dX6_most_13 : decode cX6_most 13 = .ok (.iload 6, 2) := by decide +kernel
theorem dX6_most_15 : decode cX6_most 15 = .ok (.iconst 1, 1) := by decide +kernel
theorem dX6_most_16 : decode cX6_most 16 = .ok (.aload_n 0, 1) := by decide +kernel
theorem dX6_most_17 : decode cX6_most 17 = .ok (.getfield 30, 3) := by decide +kernel
theorem dX6_most_20 : decode cX6_most 20 = .ok (.ishl, 1) := by decide +kernel
theorem dX6_most_21 : decode cX6_most 21 = .ok (.if_icmp .ge 59, 3) := by decide +kernel
theorem dX6_most_24 : decode cX6_most 24 = .ok (.iload 6, 2) := by decide +kernel
theorem dX6_most_26 : decode cX6_most 26 = .ok (.iload_n 1, 1) := by decide +kernel
theorem dX6_most_27 : decode cX6_most 27 = .ok (.iconst (-1), 1) := by decide +kernel
theorem dX6_most_28 : decode cX6_most 28 = .ok (.ixor, 1) := by decide +kernel
theorem dX6_most_29 : decode cX6_most 29 = .ok (.iand, 1) := by decide +kernel
theorem dX6_most_30 : decode cX6_most 30 = .ok (.ifCond .eq 6, 3) := by decide +kernel
theorem dX6_most_33 : decode cX6_most 33 = .ok (.goto 41, 3) := by decide +kernel
theorem dX6_most_36 : decode cX6_most 36 = .ok (.aload_n 0, 1) := by decide +kernel
theorem dX6_most_37 : decode cX6_most 37 = .ok (.getfield 21, 3) := by decide +kernel
theorem dX6_most_40 : decode cX6_most 40 = .ok (.iload 6, 2) := by decide +kernel
theorem dX6_most_42 : decode cX6_most 42 = .ok (.aload_n 0, 1) := by decide +kernel
theorem dX6_most_43 : decode cX6_most 43 = .ok (.iload 6, 2) := by decide +kernel
theorem dX6_most_45 : decode cX6_most 45 = .ok (.iload_n 2, 1) := by decide +kernel
theorem dX6_most_46 : decode cX6_most 46 = .ok (.invokevirtual 48, 3) := by decide +kernel
theorem dX6_most_49 : decode cX6_most 49 = .ok (.iastore, 1) := by decide +kernel
theorem dX6_most_50 : decode cX6_most 50 = .ok (.aload_n 0, 1) := by decide +kernel
theorem dX6_most_51 : decode cX6_most 51 = .ok (.getfield 21, 3) := by decide +kernel
theorem dX6_most_54 : decode cX6_most 54 = .ok (.iload 6, 2) := by decide +kernel
theorem dX6_most_56 : decode cX6_most 56 = .ok (.iaload, 1) := by decide +kernel
theorem dX6_most_57 : decode cX6_most 57 = .ok (.iload 4, 2) := by decide +kernel
theorem dX6_most_59 : decode cX6_most 59 = .ok (.if_icmp .gt 15, 3) := by decide +kernel
theorem dX6_most_62 : decode cX6_most 62 = .ok (.iload 5, 2) := by decide +kernel
theorem dX6_most_64 : decode cX6_most 64 = .ok (.iload 6, 2) := by decide +kernel
theorem dX6_most_66 : decode cX6_most 66 = .ok (.invokestatic 51, 3) := by decide +kernel
theorem dX6_most_69 : decode cX6_most 69 = .ok (.invokestatic 42, 3) := by decide +kernel
theorem dX6_most_72 : decode cX6_most 72 = .ok (.istore 5, 2) := by decide +kernel
theorem dX6_most_74 : decode cX6_most 74 = .ok (.iinc 6 1, 3) := by decide +kernel
theorem dX6_most_77 : decode cX6_most 77 = .ok (.goto (-64), 3) := by decide +kernel
theorem dX6_most_80 : decode cX6_most 80 = .ok (.iload 5, 2) := by decide +kernel
theorem dX6_most_82 : decode cX6_most 82 = .ok (.ireturn, 1) := by decide +kernel
theorem cm_X6_most : CM yX6_most cX6_most 7 (some .int) 4 6 := ⟨w_1074, w_19, w_1075, w_92, ⟨by decide +kernel, by decide +kernel, by decide +kernel⟩, ⟨_, _, rfl⟩, by decide⟩
noncomputable def f_X6_most_74 (n : Nat) (rec13 : Int → Int → MM → RR) (v0 v1 v2 v4 v5 v6 : Int) (h : MM) : RR :=
  lb (wr (v6 + 1)) fun x1 =>
  rec13 v5 x1 h
noncomputable def f_X6_most_13b (n : Nat) (rec13 : Int → Int → MM → RR) (v0 v1 v2 v4 v5 v6 : Int) (h : MM) : RR :=
  gf h v0 6 2 fun r1 =>
  if shl 1 r1 ≤ v6 then
    some (v5, h)
  else
  if ban v6 (bxo v1 ((-1))) = 0 then
    gf h v0 6 4 fun r4 =>
    gk h v0 6 <|
    bd (f_X6_readyHour n v0 v6 v2 h) fun r5 h5 =>
    wt h5 r4 100 v6 r5 fun h6 =>
    gf h6 v0 6 4 fun r7 =>
    rd h6 r7 100 v6 fun r8 =>
    if v4 < r8 then
      f_X6_most_74 n rec13 v0 v1 v2 v4 v5 v6 h6
    else
    bd (f_J6_bitCount_0f7a4 n v6 h6) fun r10 h10 =>
    lb (jmax v5 r10) fun x11 =>
    f_X6_most_74 n rec13 v0 v1 v2 v4 x11 v6 h10
  else
  f_X6_most_74 n rec13 v0 v1 v2 v4 v5 v6 h
noncomputable def f_X6_most_13 (n : Nat)  (v0 v1 v2 v4 : Int) : Nat → Int → Int → MM → RR
  | 0, _, _, _ => none
  | k + 1, v5, v6, h => f_X6_most_13b n  (f_X6_most_13 n  v0 v1 v2 v4 k) v0 v1 v2 v4 v5 v6 h
noncomputable def f_X6_most (n : Nat) (v0 v1 v2 v3 v4 : Int) (h : MM) : RR :=
  gf h v0 6 4 fun r1 =>
  wt h r1 100 0 v3 fun h2 =>
  f_X6_most_13 n v0 v1 v2 v4 n 0 1 h2
set_option maxRecDepth 20000 in
theorem b_X6_most_74 {g : GT} {Z : Int × MM} {n : Nat} (C : Cx g cX6_most 7 yX6_most 2 49) (hr : Rt g (some .int) 0 Z) {v0 v1 v2 v4 v5 v6 : Int}  {rec13 : Int → Int → MM → RR} (L13 : ∀ (u5 u6 : Int) (h : MM), in32 u5 → in32 u6 → rec13 u5 u6 h = some Z → G g 13 [(2, v0), (0, v1), (0, v2), (3, 0), (0, v4), (0, u5), (0, u6)] [] h) (cv1 : in32 v1) (cv2 : in32 v2) (cv4 : in32 v4) (cv5 : in32 v5) (cv6 : in32 v6) {h : MM} (hf : f_X6_most_74 n rec13 v0 v1 v2 v4 v5 v6 h = some Z) : G g 74 [(2, v0), (0, v1), (0, v2), (3, 0), (0, v4), (0, v5), (0, v6)] [] h := by
  unfold f_X6_most_74 at hf
  obtain ⟨x1, e1, hf⟩ := lb_s hf
  have c1 : in32 x1 := by rw [e1]; exact (in32_t _)
  refine r_iincL C dX6_most_74 rfl e1 (Nat.le_of_ble_eq_true rfl) rfl ?_
  refine r_goto C dX6_most_77 (tgt := 13) (by decide) ?_
  exact G.mask [true, true, true, false, true, true, true] rfl rfl (L13 _ _ _ cv5 c1 hf)
set_option maxRecDepth 20000 in
theorem b_X6_most_13b {g : GT} {Z : Int × MM} {n : Nat} (C : Cx g cX6_most 7 yX6_most 2 49) (hr : Rt g (some .int) 0 Z) {v0 v1 v2 v4 v5 v6 : Int}  {rec13 : Int → Int → MM → RR} (L13 : ∀ (u5 u6 : Int) (h : MM), in32 u5 → in32 u6 → rec13 u5 u6 h = some Z → G g 13 [(2, v0), (0, v1), (0, v2), (3, 0), (0, v4), (0, u5), (0, u6)] [] h) (cv1 : in32 v1) (cv2 : in32 v2) (cv4 : in32 v4) (cv5 : in32 v5) (cv6 : in32 v6) {h : MM} (hf : f_X6_most_13b n rec13 v0 v1 v2 v4 v5 v6 h = some Z) : G g 13 [(2, v0), (0, v1), (0, v2), (3, 0), (0, v4), (0, v5), (0, v6)] [] h := by
  unfold f_X6_most_13b at hf
  refine r_iload C dX6_most_13 rfl ?_
  refine r_iconst C dX6_most_15 ?_
  refine r_aload_n C dX6_most_16 rfl ?_
  obtain ⟨q1, hf⟩ := gf_s hf
  refine r_gf C ct6 (j := 2) (ji := 2) dX6_most_17 q1 rfl rfl (by decide) w_255 rfl (fun c1 => ?_)
  have c1 : in32 _ := c1
  refine r_ishl C dX6_most_20 ?_
  refine r_icmp_ge C dX6_most_21 (tgt := 80) (by decide) cv6 (in32_t _) (fun n2 => ?_) (fun n2 => ?_)
  · have hf := ite_p n2 hf
    refine r_iload C dX6_most_80 rfl ?_
    cases hf
    exact r_jret C hr dX6_most_82 cv5
  · have hf := ite_n n2 hf
    refine r_iload C dX6_most_24 rfl ?_
    refine r_iload_n C dX6_most_26 rfl ?_
    refine r_iconst C dX6_most_27 ?_
    refine r_ixor C dX6_most_28 ?_
    refine r_iand C dX6_most_29 ?_
    refine r_if_eq C dX6_most_30 (tgt := 36) (by decide) (in32_t _) (fun n3 => ?_) (fun n3 => ?_)
    · have hf := ite_p n3 hf
      refine r_aload_n C dX6_most_36 rfl ?_
      obtain ⟨q4, hf⟩ := gf_s hf
      refine r_gf C ct6 (j := 4) (ji := 4) dX6_most_37 q4 rfl rfl (by decide) w_259 rfl (fun c4 => ?_)
      refine r_iload C dX6_most_40 rfl ?_
      refine r_aload_n C dX6_most_42 rfl ?_
      refine r_iload C dX6_most_43 rfl ?_
      refine r_iload_n C dX6_most_45 rfl ?_
      obtain ⟨p5, hf⟩ := gk_s hf
      obtain ⟨r5, h5, hq5, hf⟩ := bd_s hf
      refine r_cV2 C (am_X6_readyHour (gl g) n) cm_X6_readyHour w_1076 dX6_most_46 ⟨Nat.le_of_ble_eq_true rfl, Nat.le_of_ble_eq_true rfl⟩ p5 rfl cv6 cv2 rfl (Nat.le_of_ble_eq_true rfl) hq5 (by decide) (fun c5 => ?_)
      have c5 : in32 _ := c5
      obtain ⟨q6, hf⟩ := wt_s hf
      refine r_iast C dX6_most_49 q6 rfl c5 ?_
      refine r_aload_n C dX6_most_50 rfl ?_
      obtain ⟨q7, hf⟩ := gf_s hf
      refine r_gf C ct6 (j := 4) (ji := 4) dX6_most_51 q7 rfl rfl (by decide) w_259 rfl (fun c7 => ?_)
      refine r_iload C dX6_most_54 rfl ?_
      obtain ⟨q8, hf⟩ := rd_s hf
      refine r_iald C dX6_most_56 q8 rfl (fun c8 => ?_)
      refine r_iload C dX6_most_57 rfl ?_
      refine r_icmp_gt C dX6_most_59 (tgt := 74) (by decide) c8 cv4 (fun n9 => ?_) (fun n9 => ?_)
      · have hf := ite_p n9 hf
        exact G.mask [true, true, true, false, true, true, true] rfl rfl (b_X6_most_74 C hr L13 cv1 cv2 cv4 cv5 cv6 hf)
      · have hf := ite_n n9 hf
        refine r_iload C dX6_most_62 rfl ?_
        refine r_iload C dX6_most_64 rfl ?_
        obtain ⟨r10, h10, hq10, hf⟩ := bd_s hf
        refine r_cS1 C (am_J6_bitCount_0f7a4 (gl g) n) cm_J6_bitCount_0f7a4 w_1083 dX6_most_66 ⟨Nat.le_of_ble_eq_true rfl, Nat.le_of_ble_eq_true rfl⟩ cv6 rfl (Nat.le_of_ble_eq_true rfl) hq10 (by decide) (fun c10 => ?_)
        have c10 : in32 _ := c10
        refine r_mmax C dX6_most_69 w_1081 ⟨Nat.le_of_ble_eq_true rfl, Nat.le_of_ble_eq_true rfl⟩ rfl cv5 c10 ?_
        obtain ⟨x11, e11, hf⟩ := lb_s hf
        have c11 : in32 x11 := by rw [e11]; exact (in32_max cv5 c10)
        refine r_istoreL C dX6_most_72 e11 (Nat.le_of_ble_eq_true rfl) rfl ?_
        exact G.mask [true, true, true, false, true, true, true] rfl rfl (b_X6_most_74 C hr L13 cv1 cv2 cv4 c11 cv6 hf)
    · have hf := ite_n n3 hf
      refine r_goto C dX6_most_33 (tgt := 74) (by decide) ?_
      exact G.mask [true, true, true, false, true, true, true] rfl rfl (b_X6_most_74 C hr L13 cv1 cv2 cv4 cv5 cv6 hf)
set_option maxRecDepth 20000 in
theorem l_X6_most_13 {g : GT} {Z : Int × MM} {n : Nat} (C : Cx g cX6_most 7 yX6_most 2 49) (hr : Rt g (some .int) 0 Z) {v0 v1 v2 v4 : Int}   (cv1 : in32 v1) (cv2 : in32 v2) (cv4 : in32 v4) : ∀ (k : Nat) (v5 v6 : Int) (h : MM), in32 v5 → in32 v6 → f_X6_most_13 n  v0 v1 v2 v4 k v5 v6 h = some Z → G g 13 [(2, v0), (0, v1), (0, v2), (3, 0), (0, v4), (0, v5), (0, v6)] [] h := by
  intro k
  induction k with
  | zero => intro v5 v6 h cv5 cv6 hf; exact absurd hf (by intro z; cases z)
  | succ k ih => intro v5 v6 h cv5 cv6 hf; exact b_X6_most_13b C hr (rec13 := f_X6_most_13 n  v0 v1 v2 v4 k)  ih cv1 cv2 cv4 cv5 cv6 (show f_X6_most_13b n  (f_X6_most_13 n  v0 v1 v2 v4 k) v0 v1 v2 v4 v5 v6 h = some Z from hf)
set_option maxRecDepth 20000 in
theorem e_X6_most {g : GT} {Z : Int × MM} {n : Nat} (C : Cx g cX6_most 7 yX6_most 2 49) (hr : Rt g (some .int) 0 Z) {v0 v1 v2 v3 v4 : Int} (cv0 : cK 2 v0) (cv1 : cK 0 v1) (cv2 : cK 0 v2) (cv3 : cK 0 v3) (cv4 : cK 0 v4) {h : MM} (hf : f_X6_most n v0 v1 v2 v3 v4 h = some Z) : G g 0 [(2, v0), (0, v1), (0, v2), (0, v3), (0, v4), (3, 0), (3, 0)] [] h := by
  have cv1 : in32 v1 := cv1
  have cv2 : in32 v2 := cv2
  have cv3 : in32 v3 := cv3
  have cv4 : in32 v4 := cv4
  unfold f_X6_most at hf
  refine r_iconst C dX6_most_0 ?_
  refine r_istore C dX6_most_1 (Nat.le_of_ble_eq_true rfl) rfl ?_
  refine r_aload_n C dX6_most_3 rfl ?_
  obtain ⟨q1, hf⟩ := gf_s hf
  refine r_gf C ct6 (j := 4) (ji := 4) dX6_most_4 q1 rfl rfl (by decide) w_259 rfl (fun c1 => ?_)
  refine r_iconst C dX6_most_7 ?_
  refine r_iload_n C dX6_most_8 rfl ?_
  obtain ⟨q2, hf⟩ := wt_s hf
  refine r_iast C dX6_most_9 q2 rfl cv3 ?_
  refine r_iconst C dX6_most_10 ?_
  refine r_istore C dX6_most_11 (Nat.le_of_ble_eq_true rfl) rfl ?_
  exact G.mask [true, true, true, false, true, true, true] rfl rfl (l_X6_most_13 C hr  cv1 cv2 cv4 _ _ _ _ (in32_of rfl) (in32_of rfl) hf)
set_option maxRecDepth 20000 in
theorem am_X6_most (l : Launch) (n : Nat) : AM l yX6_most cX6_most 7 (some .int) 2 49 [2, 0, 0, 0, 0] 0 (un5 (f_X6_most n)) := by
  refine AM.intro (by decide) (fun xs hx => ?_) (fun g xs h Z hl C hr hx hf => ?_)
  · obtain ⟨a0, a1, a2, a3, a4, rfl, c0, c1, c2, c3, c4⟩ := canL_5 hx
    exact Nat.le_of_ble_eq_true rfl
  · obtain ⟨a0, a1, a2, a3, a4, rfl, c0, c1, c2, c3, c4⟩ := canL_5 hx
    have hf := (un5_e _ a0 a1 a2 a3 a4 _).symm.trans hf
    exact e_X6_most (n := n) C hr c0 c1 c2 c3 c4 hf
/-! LinesPromised$Press.leastNext(IIIII)I -/
theorem dX6_leastNext_0 : decode cX6_leastNext 0 = .ok (.iconst 0, 1) := by decide +kernel
theorem dX6_leastNext_1 : decode cX6_leastNext 1 = .ok (.istore 6, 2) := by decide +kernel
theorem dX6_leastNext_3 : decode cX6_leastNext 3 = .ok (.iload 6, 2) := by decide +kernel
theorem dX6_leastNext_5 : decode cX6_leastNext 5 = .ok (.aload_n 0, 1) := by decide +kernel
theorem dX6_leastNext_6 : decode cX6_leastNext 6 = .ok (.getfield 30, 3) := by decide +kernel
theorem dX6_leastNext_9 : decode cX6_leastNext 9 = .ok (.if_icmp .ge 83, 3) := by decide +kernel
theorem dX6_leastNext_12 : decode cX6_leastNext 12 = .ok (.iload_n 1, 1) := by decide +kernel
theorem dX6_leastNext_13 : decode cX6_leastNext 13 = .ok (.iload 6, 2) := by decide +kernel
theorem dX6_leastNext_15 : decode cX6_leastNext 15 = .ok (.ishr, 1) := by decide +kernel
theorem dX6_leastNext_16 : decode cX6_leastNext 16 = .ok (.iconst 1, 1) := by decide +kernel
theorem dX6_leastNext_17 : decode cX6_leastNext 17 = .ok (.iand, 1) := by decide +kernel
theorem dX6_leastNext_18 : decode cX6_leastNext 18 = .ok (.ifCond .ne 6, 3) := by decide +kernel
theorem dX6_leastNext_21 : decode cX6_leastNext 21 = .ok (.goto 65, 3) := by decide +kernel
theorem dX6_leastNext_24 : decode cX6_leastNext 24 = .ok (.iload_n 2, 1) := by decide +kernel
theorem dX6_leastNext_25 : decode cX6_leastNext 25 = .ok (.aload_n 0, 1) := by decide +kernel
theorem dX6_leastNext_26 : decode cX6_leastNext 26 = .ok (.getfield 9, 3) := by decide +kernel
theorem dX6_leastNext_29 : decode cX6_leastNext 29 = .ok (.iload 6, 2) := by decide +kernel
theorem dX6_leastNext_31 : decode cX6_leastNext 31 = .ok (.iaload, 1) := by decide +kernel
theorem dX6_leastNext_32 : decode cX6_leastNext 32 = .ok (.iadd, 1) := by decide +kernel
theorem dX6_leastNext_33 : decode cX6_leastNext 33 = .ok (.istore 7, 2) := by decide +kernel
theorem dX6_leastNext_35 : decode cX6_leastNext 35 = .ok (.iload 7, 2) := by decide +kernel
theorem dX6_leastNext_37 : decode cX6_leastNext 37 = .ok (.iload_n 3, 1) := by decide +kernel
theorem dX6_leastNext_38 : decode cX6_leastNext 38 = .ok (.invokestatic 42, 3) := by decide +kernel
theorem dX6_leastNext_41 : decode cX6_leastNext 41 = .ok (.aload_n 0, 1) := by decide +kernel
theorem dX6_leastNext_42 : decode cX6_leastNext 42 = .ok (.getfield 15, 3) := by decide +kernel
theorem dX6_leastNext_45 : decode cX6_leastNext 45 = .ok (.iload 6, 2) := by decide +kernel
theorem dX6_leastNext_47 : decode cX6_leastNext 47 = .ok (.iaload, 1) := by decide +kernel
theorem dX6_leastNext_48 : decode cX6_leastNext 48 = .ok (.iadd, 1) := by decide +kernel
theorem dX6_leastNext_49 : decode cX6_leastNext 49 = .ok (.istore 8, 2) := by decide +kernel
theorem dX6_leastNext_51 : decode cX6_leastNext 51 = .ok (.iload 8, 2) := by decide +kernel
theorem dX6_leastNext_53 : decode cX6_leastNext 53 = .ok (.iload 4, 2) := by decide +kernel
theorem dX6_leastNext_55 : decode cX6_leastNext 55 = .ok (.if_icmp .gt 31, 3) := by decide +kernel
theorem dX6_leastNext_58 : decode cX6_leastNext 58 = .ok (.aload_n 0, 1) := by decide +kernel
theorem dX6_leastNext_59 : decode cX6_leastNext 59 = .ok (.iload_n 1, 1) := by decide +kernel
theorem dX6_leastNext_60 : decode cX6_leastNext 60 = .ok (.iconst 1, 1) := by decide +kernel
theorem dX6_leastNext_61 : decode cX6_leastNext 61 = .ok (.iload 6, 2) := by decide +kernel
theorem dX6_leastNext_63 : decode cX6_leastNext 63 = .ok (.ishl, 1) := by decide +kernel
theorem dX6_leastNext_64 : decode cX6_leastNext 64 = .ok (.iconst (-1), 1) := by decide +kernel
theorem dX6_leastNext_65 : decode cX6_leastNext 65 = .ok (.ixor, 1) := by decide +kernel
theorem dX6_leastNext_66 : decode cX6_leastNext 66 = .ok (.iand, 1) := by decide +kernel
theorem dX6_leastNext_67 : decode cX6_leastNext 67 = .ok (.iload 7, 2) := by decide +kernel
theorem dX6_leastNext_69 : decode cX6_leastNext 69 = .ok (.iload 8, 2) := by decide +kernel
theorem dX6_leastNext_71 : decode cX6_leastNext 71 = .ok (.iload 4, 2) := by decide +kernel
theorem dX6_leastNext_73 : decode cX6_leastNext 73 = .ok (.invokevirtual 34, 3) := by decide +kernel
theorem dX6_leastNext_76 : decode cX6_leastNext 76 = .ok (.iload 5, 2) := by decide +kernel
theorem dX6_leastNext_78 : decode cX6_leastNext 78 = .ok (.iconst 1, 1) := by decide +kernel
theorem dX6_leastNext_79 : decode cX6_leastNext 79 = .ok (.isub, 1) := by decide +kernel
theorem dX6_leastNext_80 : decode cX6_leastNext 80 = .ok (.if_icmp .lt 6, 3) := by decide +kernel
theorem dX6_leastNext_83 : decode cX6_leastNext 83 = .ok (.iload 6, 2) := by decide +kernel
theorem dX6_leastNext_85 : decode cX6_leastNext 85 = .ok (.ireturn, 1) := by decide +kernel
theorem dX6_leastNext_86 : decode cX6_leastNext 86 = .ok (.iinc 6 1, 3) := by decide +kernel
theorem dX6_leastNext_89 : decode cX6_leastNext 89 = .ok (.goto (-86), 3) := by decide +kernel
theorem dX6_leastNext_92 : decode cX6_leastNext 92 = .ok (.iconst (-1), 1) := by decide +kernel
theorem dX6_leastNext_93 : decode cX6_leastNext 93 = .ok (.ireturn, 1) := by decide +kernel
theorem cm_X6_leastNext : CM yX6_leastNext cX6_leastNext 9 (some .int) 5 6 := ⟨w_1091, w_21, w_1092, w_92, ⟨by decide +kernel, by decide +kernel, by decide +kernel⟩, ⟨_, _, rfl⟩, by decide⟩
noncomputable def f_X6_leastNext_86 (n : Nat) (rec3 : Int → MM → RR) (v0 v1 v2 v3 v4 v5 v6 : Int) (h : MM) : RR :=
  lb (wr (v6 + 1)) fun x1 =>
  rec3 x1 h
noncomputable def f_X6_leastNext_3b (n : Nat) (rec3 : Int → MM → RR) (v0 v1 v2 v3 v4 v5 v6 : Int) (h : MM) : RR :=
  gf h v0 6 2 fun r1 =>
  if r1 ≤ v6 then
    some ((-1), h)
  else
  if ban (shr v1 v6) 1 = 0 then
    f_X6_leastNext_86 n rec3 v0 v1 v2 v3 v4 v5 v6 h
  else
  gf h v0 6 0 fun r4 =>
  rd h r4 100 v6 fun r5 =>
  lb (wr (v2 + r5)) fun x6 =>
  gf h v0 6 1 fun r7 =>
  rd h r7 100 v6 fun r8 =>
  lb (wr ((jmax x6 v3) + r8)) fun x9 =>
  if v4 < x9 then
    f_X6_leastNext_86 n rec3 v0 v1 v2 v3 v4 v5 v6 h
  else
  gk h v0 6 <|
  bd (f_X6_most n v0 (ban v1 (bxo (shl 1 v6) ((-1)))) x6 x9 v4 h) fun r11 h11 =>
  if r11 < wr (v5 - 1) then
    f_X6_leastNext_86 n rec3 v0 v1 v2 v3 v4 v5 v6 h11
  else
  some (v6, h11)
noncomputable def f_X6_leastNext_3 (n : Nat)  (v0 v1 v2 v3 v4 v5 : Int) : Nat → Int → MM → RR
  | 0, _, _ => none
  | k + 1, v6, h => f_X6_leastNext_3b n  (f_X6_leastNext_3 n  v0 v1 v2 v3 v4 v5 k) v0 v1 v2 v3 v4 v5 v6 h
noncomputable def f_X6_leastNext (n : Nat) (v0 v1 v2 v3 v4 v5 : Int) (h : MM) : RR :=
  f_X6_leastNext_3 n v0 v1 v2 v3 v4 v5 n 0 h
set_option maxRecDepth 20000 in
theorem b_X6_leastNext_86 {g : GT} {Z : Int × MM} {n : Nat} (C : Cx g cX6_leastNext 9 yX6_leastNext 3 75) (hr : Rt g (some .int) 0 Z) {v0 v1 v2 v3 v4 v5 v6 : Int}  {rec3 : Int → MM → RR} (L3 : ∀ (u6 : Int) (h : MM), in32 u6 → rec3 u6 h = some Z → G g 3 [(2, v0), (0, v1), (0, v2), (0, v3), (0, v4), (0, v5), (0, u6), (3, 0), (3, 0)] [] h) (cv1 : in32 v1) (cv2 : in32 v2) (cv3 : in32 v3) (cv4 : in32 v4) (cv5 : in32 v5) (cv6 : in32 v6) {h : MM} (hf : f_X6_leastNext_86 n rec3 v0 v1 v2 v3 v4 v5 v6 h = some Z) : G g 86 [(2, v0), (0, v1), (0, v2), (0, v3), (0, v4), (0, v5), (0, v6), (3, 0), (3, 0)] [] h := by
  unfold f_X6_leastNext_86 at hf
  obtain ⟨x1, e1, hf⟩ := lb_s hf
  have c1 : in32 x1 := by rw [e1]; exact (in32_t _)
  refine r_iincL C dX6_leastNext_86 rfl e1 (Nat.le_of_ble_eq_true rfl) rfl ?_
  refine r_goto C dX6_leastNext_89 (tgt := 3) (by decide) ?_
  exact G.mask [true, true, true, true, true, true, true, false, false] rfl rfl (L3 _ _ c1 hf)
set_option maxRecDepth 20000 in
theorem b_X6_leastNext_3b {g : GT} {Z : Int × MM} {n : Nat} (C : Cx g cX6_leastNext 9 yX6_leastNext 3 75) (hr : Rt g (some .int) 0 Z) {v0 v1 v2 v3 v4 v5 v6 : Int}  {rec3 : Int → MM → RR} (L3 : ∀ (u6 : Int) (h : MM), in32 u6 → rec3 u6 h = some Z → G g 3 [(2, v0), (0, v1), (0, v2), (0, v3), (0, v4), (0, v5), (0, u6), (3, 0), (3, 0)] [] h) (cv1 : in32 v1) (cv2 : in32 v2) (cv3 : in32 v3) (cv4 : in32 v4) (cv5 : in32 v5) (cv6 : in32 v6) {h : MM} (hf : f_X6_leastNext_3b n rec3 v0 v1 v2 v3 v4 v5 v6 h = some Z) : G g 3 [(2, v0), (0, v1), (0, v2), (0, v3), (0, v4), (0, v5), (0, v6), (3, 0), (3, 0)] [] h := by
  unfold f_X6_leastNext_3b at hf
  refine r_iload C dX6_leastNext_3 rfl ?_
  refine r_aload_n C dX6_leastNext_5 rfl ?_
  obtain ⟨q1, hf⟩ := gf_s hf
  refine r_gf C ct6 (j := 2) (ji := 2) dX6_leastNext_6 q1 rfl rfl (by decide) w_255 rfl (fun c1 => ?_)
  have c1 : in32 _ := c1
  refine r_icmp_ge C dX6_leastNext_9 (tgt := 92) (by decide) cv6 c1 (fun n2 => ?_) (fun n2 => ?_)
  · have hf := ite_p n2 hf
    refine r_iconst C dX6_leastNext_92 ?_
    cases hf
    exact r_jret C hr dX6_leastNext_93 (in32_of rfl)
  · have hf := ite_n n2 hf
    refine r_iload_n C dX6_leastNext_12 rfl ?_
    refine r_iload C dX6_leastNext_13 rfl ?_
    refine r_ishr C dX6_leastNext_15 ?_
    refine r_iconst C dX6_leastNext_16 ?_
    refine r_iand C dX6_leastNext_17 ?_
    refine r_if_ne C dX6_leastNext_18 (tgt := 24) (by decide) (in32_t _) (fun n3 => ?_) (fun n3 => ?_)
    · have hf := ite_n n3 hf
      refine r_iload_n C dX6_leastNext_24 rfl ?_
      refine r_aload_n C dX6_leastNext_25 rfl ?_
      obtain ⟨q4, hf⟩ := gf_s hf
      refine r_gf C ct6 (j := 0) (ji := 0) dX6_leastNext_26 q4 rfl rfl (by decide) w_253 rfl (fun c4 => ?_)
      refine r_iload C dX6_leastNext_29 rfl ?_
      obtain ⟨q5, hf⟩ := rd_s hf
      refine r_iald C dX6_leastNext_31 q5 rfl (fun c5 => ?_)
      refine r_iadd C dX6_leastNext_32 ?_
      obtain ⟨x6, e6, hf⟩ := lb_s hf
      have c6 : in32 x6 := by rw [e6]; exact (in32_t _)
      refine r_istoreL C dX6_leastNext_33 e6 (Nat.le_of_ble_eq_true rfl) rfl ?_
      refine r_iload C dX6_leastNext_35 rfl ?_
      refine r_iload_n C dX6_leastNext_37 rfl ?_
      refine r_mmax C dX6_leastNext_38 w_1081 ⟨Nat.le_of_ble_eq_true rfl, Nat.le_of_ble_eq_true rfl⟩ rfl c6 cv3 ?_
      refine r_aload_n C dX6_leastNext_41 rfl ?_
      obtain ⟨q7, hf⟩ := gf_s hf
      refine r_gf C ct6 (j := 1) (ji := 1) dX6_leastNext_42 q7 rfl rfl (by decide) w_254 rfl (fun c7 => ?_)
      refine r_iload C dX6_leastNext_45 rfl ?_
      obtain ⟨q8, hf⟩ := rd_s hf
      refine r_iald C dX6_leastNext_47 q8 rfl (fun c8 => ?_)
      refine r_iadd C dX6_leastNext_48 ?_
      obtain ⟨x9, e9, hf⟩ := lb_s hf
      have c9 : in32 x9 := by rw [e9]; exact (in32_t _)
      refine r_istoreL C dX6_leastNext_49 e9 (Nat.le_of_ble_eq_true rfl) rfl ?_
      refine r_iload C dX6_leastNext_51 rfl ?_
      refine r_iload C dX6_leastNext_53 rfl ?_
      refine r_icmp_gt C dX6_leastNext_55 (tgt := 86) (by decide) c9 cv4 (fun n10 => ?_) (fun n10 => ?_)
      · have hf := ite_p n10 hf
        exact G.mask [true, true, true, true, true, true, true, false, false] rfl rfl (b_X6_leastNext_86 C hr L3 cv1 cv2 cv3 cv4 cv5 cv6 hf)
      · have hf := ite_n n10 hf
        refine r_aload_n C dX6_leastNext_58 rfl ?_
        refine r_iload_n C dX6_leastNext_59 rfl ?_
        refine r_iconst C dX6_leastNext_60 ?_
        refine r_iload C dX6_leastNext_61 rfl ?_
        refine r_ishl C dX6_leastNext_63 ?_
        refine r_iconst C dX6_leastNext_64 ?_
        refine r_ixor C dX6_leastNext_65 ?_
        refine r_iand C dX6_leastNext_66 ?_
        refine r_iload C dX6_leastNext_67 rfl ?_
        refine r_iload C dX6_leastNext_69 rfl ?_
        refine r_iload C dX6_leastNext_71 rfl ?_
        obtain ⟨p11, hf⟩ := gk_s hf
        obtain ⟨r11, h11, hq11, hf⟩ := bd_s hf
        refine r_cV4 C (am_X6_most (gl g) n) cm_X6_most w_1072 dX6_leastNext_73 ⟨Nat.le_of_ble_eq_true rfl, Nat.le_of_ble_eq_true rfl⟩ p11 rfl (in32_t _) c6 c9 cv4 rfl (Nat.le_of_ble_eq_true rfl) hq11 (by decide) (fun c11 => ?_)
        have c11 : in32 _ := c11
        refine r_iload C dX6_leastNext_76 rfl ?_
        refine r_iconst C dX6_leastNext_78 ?_
        refine r_isub C dX6_leastNext_79 ?_
        refine r_icmp_lt C dX6_leastNext_80 (tgt := 86) (by decide) c11 (in32_t _) (fun n12 => ?_) (fun n12 => ?_)
        · have hf := ite_p n12 hf
          exact G.mask [true, true, true, true, true, true, true, false, false] rfl rfl (b_X6_leastNext_86 C hr L3 cv1 cv2 cv3 cv4 cv5 cv6 hf)
        · have hf := ite_n n12 hf
          refine r_iload C dX6_leastNext_83 rfl ?_
          cases hf
          exact r_jret C hr dX6_leastNext_85 cv6
    · have hf := ite_p n3 hf
      refine r_goto C dX6_leastNext_21 (tgt := 86) (by decide) ?_
      exact G.mask [true, true, true, true, true, true, true, false, false] rfl rfl (b_X6_leastNext_86 C hr L3 cv1 cv2 cv3 cv4 cv5 cv6 hf)
set_option maxRecDepth 20000 in
theorem l_X6_leastNext_3 {g : GT} {Z : Int × MM} {n : Nat} (C : Cx g cX6_leastNext 9 yX6_leastNext 3 75) (hr : Rt g (some .int) 0 Z) {v0 v1 v2 v3 v4 v5 : Int}   (cv1 : in32 v1) (cv2 : in32 v2) (cv3 : in32 v3) (cv4 : in32 v4) (cv5 : in32 v5) : ∀ (k : Nat) (v6 : Int) (h : MM), in32 v6 → f_X6_leastNext_3 n  v0 v1 v2 v3 v4 v5 k v6 h = some Z → G g 3 [(2, v0), (0, v1), (0, v2), (0, v3), (0, v4), (0, v5), (0, v6), (3, 0), (3, 0)] [] h := by
  intro k
  induction k with
  | zero => intro v6 h cv6 hf; exact absurd hf (by intro z; cases z)
  | succ k ih => intro v6 h cv6 hf; exact b_X6_leastNext_3b C hr (rec3 := f_X6_leastNext_3 n  v0 v1 v2 v3 v4 v5 k)  ih cv1 cv2 cv3 cv4 cv5 cv6 (show f_X6_leastNext_3b n  (f_X6_leastNext_3 n  v0 v1 v2 v3 v4 v5 k) v0 v1 v2 v3 v4 v5 v6 h = some Z from hf)
set_option maxRecDepth 20000 in
theorem e_X6_leastNext {g : GT} {Z : Int × MM} {n : Nat} (C : Cx g cX6_leastNext 9 yX6_leastNext 3 75) (hr : Rt g (some .int) 0 Z) {v0 v1 v2 v3 v4 v5 : Int} (cv0 : cK 2 v0) (cv1 : cK 0 v1) (cv2 : cK 0 v2) (cv3 : cK 0 v3) (cv4 : cK 0 v4) (cv5 : cK 0 v5) {h : MM} (hf : f_X6_leastNext n v0 v1 v2 v3 v4 v5 h = some Z) : G g 0 [(2, v0), (0, v1), (0, v2), (0, v3), (0, v4), (0, v5), (3, 0), (3, 0), (3, 0)] [] h := by
  have cv1 : in32 v1 := cv1
  have cv2 : in32 v2 := cv2
  have cv3 : in32 v3 := cv3
  have cv4 : in32 v4 := cv4
  have cv5 : in32 v5 := cv5
  unfold f_X6_leastNext at hf
  refine r_iconst C dX6_leastNext_0 ?_
  refine r_istore C dX6_leastNext_1 (Nat.le_of_ble_eq_true rfl) rfl ?_
  exact G.mask [true, true, true, true, true, true, true, false, false] rfl rfl (l_X6_leastNext_3 C hr  cv1 cv2 cv3 cv4 cv5 _ _ _ (in32_of rfl) hf)
set_option maxRecDepth 20000 in
theorem am_X6_leastNext (l : Launch) (n : Nat) : AM l yX6_leastNext cX6_leastNext 9 (some .int) 3 75 [2, 0, 0, 0, 0, 0] 0 (un6 (f_X6_leastNext n)) := by
  refine AM.intro (by decide) (fun xs hx => ?_) (fun g xs h Z hl C hr hx hf => ?_)
  · obtain ⟨a0, a1, a2, a3, a4, a5, rfl, c0, c1, c2, c3, c4, c5⟩ := canL_6 hx
    exact Nat.le_of_ble_eq_true rfl
  · obtain ⟨a0, a1, a2, a3, a4, a5, rfl, c0, c1, c2, c3, c4, c5⟩ := canL_6 hx
    have hf := (un6_e _ a0 a1 a2 a3 a4 a5 _).symm.trans hf
    exact e_X6_leastNext (n := n) C hr c0 c1 c2 c3 c4 c5 hf
/-! LinesPromised$Press.order(I)I -/
theorem dX6_order_0 : decode cX6_order 0 = .ok (.iconst 1, 1) := by decide +kernel
theorem dX6_order_1 : decode cX6_order 1 = .ok (.aload_n 0, 1) := by decide +kernel
theorem dX6_order_2 : decode cX6_order 2 = .ok (.getfield 30, 3) := by decide +kernel
theorem dX6_order_5 : decode cX6_order 5 = .ok (.ishl, 1) := by decide +kernel
theorem dX6_order_6 : decode cX6_order 6 = .ok (.iconst 1, 1) := by decide +kernel
theorem dX6_order_7 : decode cX6_order 7 = .ok (.isub, 1) := by decide +kernel
theorem dX6_order_8 : decode cX6_order 8 = .ok (.istore_n 2, 1) := by decide +kernel
theorem dX6_order_9 : decode cX6_order 9 = .ok (.aload_n 0, 1) := by decide +kernel
theorem dX6_order_10 : decode cX6_order 10 = .ok (.iload_n 2, 1) := by decide +kernel
theorem dX6_order_11 : decode cX6_order 11 = .ok (.iconst 0, 1) := by decide +kernel
theorem dX6_order_12 : decode cX6_order 12 = .ok (.iconst 0, 1) := by decide +kernel
theorem dX6_order_13 : decode cX6_order 13 = .ok (.iload_n 1, 1) := by decide +kernel
theorem dX6_order_14 : decode cX6_order 14 = .ok (.invokevirtual 34, 3) := by decide +kernel
theorem dX6_order_17 : decode cX6_order 17 = .ok (.istore_n 3, 1) := by decide +kernel
theorem dX6_order_18 : decode cX6_order 18 = .ok (.iconst 0, 1) := by decide +kernel
theorem dX6_order_19 : decode cX6_order 19 = .ok (.istore 4, 2) := by decide +kernel
theorem dX6_order_21 : decode cX6_order 21 = .ok (.iconst 0, 1) := by decide +kernel
theorem dX6_order_22 : decode cX6_order 22 = .ok (.istore 5, 2) := by decide +kernel
theorem dX6_order_24 : decode cX6_order 24 = .ok (.iconst 0, 1) := by decide +kernel
theorem dX6_order_25 : decode cX6_order 25 = .ok (.istore 6, 2) := by decide +kernel
theorem dX6_order_27 : decode cX6_order 27 = .ok (.iload 6, 2) := by decide +kernel
theorem dX6_order_29 : decode cX6_order 29 = .ok (.iload_n 3, 1) := by decide +kernel
theorem dX6_order_30 : decode cX6_order 30 = .ok (.if_icmp .ge 81, 3) := by decide +kernel
theorem dX6_order_33 : decode cX6_order 33 = .ok (.aload_n 0, 1) := by decide +kernel
theorem dX6_order_34 : decode cX6_order 34 = .ok (.iload_n 2, 1) := by decide +kernel
theorem dX6_order_35 : decode cX6_order 35 = .ok (.iload 4, 2) := by decide +kernel
theorem dX6_order_37 : decode cX6_order 37 = .ok (.iload 5, 2) := by decide +kernel
theorem dX6_order_39 : decode cX6_order 39 = .ok (.iload_n 1, 1) := by decide +kernel
theorem dX6_order_40 : decode cX6_order 40 = .ok (.iload_n 3, 1) := by decide +kernel
theorem dX6_order_41 : decode cX6_order 41 = .ok (.iload 6, 2) := by decide +kernel
theorem dX6_order_43 : decode cX6_order 43 = .ok (.isub, 1) := by decide +kernel
theorem dX6_order_44 : decode cX6_order 44 = .ok (.invokevirtual 38, 3) := by decide +kernel
theorem dX6_order_47 : decode cX6_order 47 = .ok (.istore 7, 2) := by decide +kernel
theorem dX6_order_49 : decode cX6_order 49 = .ok (.iload 7, 2) := by decide +kernel
theorem dX6_order_51 : decode cX6_order 51 = .ok (.iconst (-1), 1) := by decide +kernel
theorem dX6_order_52 : decode cX6_order 52 = .ok (.if_icmp .ne 6, 3) := by decide +kernel
theorem dX6_order_55 : decode cX6_order 55 = .ok (.iload 6, 2) := by decide +kernel
theorem dX6_order_57 : decode cX6_order 57 = .ok (.ireturn, 1) := by decide +kernel
theorem dX6_order_58 : decode cX6_order 58 = .ok (.aload_n 0, 1) := by decide +kernel
theorem dX6_order_59 : decode cX6_order 59 = .ok (.getfield 18, 3) := by decide +kernel
theorem dX6_order_62 : decode cX6_order 62 = .ok (.iload 6, 2) := by decide +kernel
theorem dX6_order_64 : decode cX6_order 64 = .ok (.iload 7, 2) := by decide +kernel
theorem dX6_order_66 : decode cX6_order 66 = .ok (.iastore, 1) := by decide +kernel
theorem dX6_order_67 : decode cX6_order 67 = .ok (.iload_n 2, 1) := by decide +kernel
theorem dX6_order_68 : decode cX6_order 68 = .ok (.iconst 1, 1) := by decide +kernel
theorem dX6_order_69 : decode cX6_order 69 = .ok (.iload 7, 2) := by decide +kernel
theorem dX6_order_71 : decode cX6_order 71 = .ok (.ishl, 1) := by decide +kernel
theorem dX6_order_72 : decode cX6_order 72 = .ok (.iconst (-1), 1) := by decide +kernel
theorem dX6_order_73 : decode cX6_order 73 = .ok (.ixor, 1) := by decide +kernel
theorem dX6_order_74 : decode cX6_order 74 = .ok (.iand, 1) := by decide +kernel
theorem dX6_order_75 : decode cX6_order 75 = .ok (.istore_n 2, 1) := by decide +kernel
theorem dX6_order_76 : decode cX6_order 76 = .ok (.iload 4, 2) := by decide +kernel
theorem dX6_order_78 : decode cX6_order 78 = .ok (.aload_n 0, 1) := by decide +kernel
theorem dX6_order_79 : decode cX6_order 79 = .ok (.getfield 9, 3) := by decide +kernel
theorem dX6_order_82 : decode cX6_order 82 = .ok (.iload 7, 2) := by decide +kernel
theorem dX6_order_84 : decode cX6_order 84 = .ok (.iaload, 1) := by decide +kernel
theorem dX6_order_85 : decode cX6_order 85 = .ok (.iadd, 1) := by decide +kernel
theorem dX6_order_86 : decode cX6_order 86 = .ok (.istore 4, 2) := by decide +kernel
theorem dX6_order_88 : decode cX6_order 88 = .ok (.iload 4, 2) := by decide +kernel
theorem dX6_order_90 : decode cX6_order 90 = .ok (.iload 5, 2) := by decide +kernel
theorem dX6_order_92 : decode cX6_order 92 = .ok (.invokestatic 42, 3) := by decide +kernel
theorem dX6_order_95 : decode cX6_order 95 = .ok (.aload_n 0, 1) := by decide +kernel
theorem dX6_order_96 : decode cX6_order 96 = .ok (.getfield 15, 3) := by decide +kernel
theorem dX6_order_99 : decode cX6_order 99 = .ok (.iload 7, 2) := by decide +kernel
theorem dX6_order_101 : decode cX6_order 101 = .ok (.iaload, 1) := by decide +kernel
theorem dX6_order_102 : decode cX6_order 102 = .ok (.iadd, 1) := by decide +kernel
theorem dX6_order_103 : decode cX6_order 103 = .ok (.istore 5, 2) := by decide +kernel
theorem dX6_order_105 : decode cX6_order 105 = .ok (.iinc 6 1, 3) := by decide +kernel
theorem dX6_order_108 : decode cX6_order 108 = .ok (.goto (-81), 3) := by decide +kernel
theorem dX6_order_111 : decode cX6_order 111 = .ok (.iload_n 3, 1) := by decide +kernel
theorem dX6_order_112 : decode cX6_order 112 = .ok (.ireturn, 1) := by decide +kernel
theorem cm_X6_order : CM yX6_order cX6_order 8 (some .int) 1 6 := ⟨w_1069, w_1070, w_1071, w_92, ⟨by decide +kernel, by decide +kernel, by decide +kernel⟩, ⟨_, _, rfl⟩, by decide⟩
noncomputable def f_X6_order_27b (n : Nat) (rec27 : Int → Int → Int → Int → MM → RR) (v0 v1 v2 v3 v4 v5 v6 : Int) (h : MM) : RR :=
  if v3 ≤ v6 then
    some (v3, h)
  else
  gk h v0 6 <|
  bd (f_X6_leastNext n v0 v2 v4 v5 v1 (wr (v3 - v6)) h) fun r2 h2 =>
  if r2 = (-1) then
    some (v6, h2)
  else
  gf h2 v0 6 3 fun r4 =>
  wt h2 r4 100 v6 r2 fun h5 =>
  lb (ban v2 (bxo (shl 1 r2) ((-1)))) fun x6 =>
  gf h5 v0 6 0 fun r7 =>
  rd h5 r7 100 r2 fun r8 =>
  lb (wr (v4 + r8)) fun x9 =>
  gf h5 v0 6 1 fun r10 =>
  rd h5 r10 100 r2 fun r11 =>
  lb (wr ((jmax x9 v5) + r11)) fun x12 =>
  lb (wr (v6 + 1)) fun x13 =>
  rec27 x6 x9 x12 x13 h5
noncomputable def f_X6_order_27 (n : Nat)  (v0 v1 v3 : Int) : Nat → Int → Int → Int → Int → MM → RR
  | 0, _, _, _, _, _ => none
  | k + 1, v2, v4, v5, v6, h => f_X6_order_27b n  (f_X6_order_27 n  v0 v1 v3 k) v0 v1 v2 v3 v4 v5 v6 h
noncomputable def f_X6_order (n : Nat) (v0 v1 : Int) (h : MM) : RR :=
  gf h v0 6 2 fun r1 =>
  lb (wr ((shl 1 r1) - 1)) fun x2 =>
  gk h v0 6 <|
  bd (f_X6_most n v0 x2 0 0 v1 h) fun r3 h3 =>
  f_X6_order_27 n v0 v1 r3 n x2 0 0 0 h3
set_option maxRecDepth 20000 in
theorem b_X6_order_27b {g : GT} {Z : Int × MM} {n : Nat} (C : Cx g cX6_order 8 yX6_order 4 103) (hr : Rt g (some .int) 0 Z) {v0 v1 v2 v3 v4 v5 v6 : Int}  {rec27 : Int → Int → Int → Int → MM → RR} (L27 : ∀ (u2 u4 u5 u6 : Int) (h : MM), in32 u2 → in32 u4 → in32 u5 → in32 u6 → rec27 u2 u4 u5 u6 h = some Z → G g 27 [(2, v0), (0, v1), (0, u2), (0, v3), (0, u4), (0, u5), (0, u6), (3, 0)] [] h) (cv1 : in32 v1) (cv2 : in32 v2) (cv3 : in32 v3) (cv4 : in32 v4) (cv5 : in32 v5) (cv6 : in32 v6) {h : MM} (hf : f_X6_order_27b n rec27 v0 v1 v2 v3 v4 v5 v6 h = some Z) : G g 27 [(2, v0), (0, v1), (0, v2), (0, v3), (0, v4), (0, v5), (0, v6), (3, 0)] [] h := by
  unfold f_X6_order_27b at hf
  refine r_iload C dX6_order_27 rfl ?_
  refine r_iload_n C dX6_order_29 rfl ?_
  refine r_icmp_ge C dX6_order_30 (tgt := 111) (by decide) cv6 cv3 (fun n1 => ?_) (fun n1 => ?_)
  · have hf := ite_p n1 hf
    refine r_iload_n C dX6_order_111 rfl ?_
    cases hf
    exact r_jret C hr dX6_order_112 cv3
  · have hf := ite_n n1 hf
    refine r_aload_n C dX6_order_33 rfl ?_
    refine r_iload_n C dX6_order_34 rfl ?_
    refine r_iload C dX6_order_35 rfl ?_
    refine r_iload C dX6_order_37 rfl ?_
    refine r_iload_n C dX6_order_39 rfl ?_
    refine r_iload_n C dX6_order_40 rfl ?_
    refine r_iload C dX6_order_41 rfl ?_
    refine r_isub C dX6_order_43 ?_
    obtain ⟨p2, hf⟩ := gk_s hf
    obtain ⟨r2, h2, hq2, hf⟩ := bd_s hf
    refine r_cV5 C (am_X6_leastNext (gl g) n) cm_X6_leastNext w_1089 dX6_order_44 ⟨Nat.le_of_ble_eq_true rfl, Nat.le_of_ble_eq_true rfl⟩ p2 rfl cv2 cv4 cv5 cv1 (in32_t _) rfl (Nat.le_of_ble_eq_true rfl) hq2 (by decide) (fun c2 => ?_)
    have c2 : in32 _ := c2
    refine r_istore C dX6_order_47 (Nat.le_of_ble_eq_true rfl) rfl ?_
    refine r_iload C dX6_order_49 rfl ?_
    refine r_iconst C dX6_order_51 ?_
    refine r_icmp_ne C dX6_order_52 (tgt := 58) (by decide) c2 (in32_of rfl) (fun n3 => ?_) (fun n3 => ?_)
    · have hf := ite_n n3 hf
      refine r_aload_n C dX6_order_58 rfl ?_
      obtain ⟨q4, hf⟩ := gf_s hf
      refine r_gf C ct6 (j := 3) (ji := 3) dX6_order_59 q4 rfl rfl (by decide) w_257 rfl (fun c4 => ?_)
      refine r_iload C dX6_order_62 rfl ?_
      refine r_iload C dX6_order_64 rfl ?_
      obtain ⟨q5, hf⟩ := wt_s hf
      refine r_iast C dX6_order_66 q5 rfl c2 ?_
      refine r_iload_n C dX6_order_67 rfl ?_
      refine r_iconst C dX6_order_68 ?_
      refine r_iload C dX6_order_69 rfl ?_
      refine r_ishl C dX6_order_71 ?_
      refine r_iconst C dX6_order_72 ?_
      refine r_ixor C dX6_order_73 ?_
      refine r_iand C dX6_order_74 ?_
      obtain ⟨x6, e6, hf⟩ := lb_s hf
      have c6 : in32 x6 := by rw [e6]; exact (in32_t _)
      refine r_istore_nL C dX6_order_75 e6 (Nat.le_of_ble_eq_true rfl) rfl ?_
      refine r_iload C dX6_order_76 rfl ?_
      refine r_aload_n C dX6_order_78 rfl ?_
      obtain ⟨q7, hf⟩ := gf_s hf
      refine r_gf C ct6 (j := 0) (ji := 0) dX6_order_79 q7 rfl rfl (by decide) w_253 rfl (fun c7 => ?_)
      refine r_iload C dX6_order_82 rfl ?_
      obtain ⟨q8, hf⟩ := rd_s hf
      refine r_iald C dX6_order_84 q8 rfl (fun c8 => ?_)
      refine r_iadd C dX6_order_85 ?_
      obtain ⟨x9, e9, hf⟩ := lb_s hf
      have c9 : in32 x9 := by rw [e9]; exact (in32_t _)
      refine r_istoreL C dX6_order_86 e9 (Nat.le_of_ble_eq_true rfl) rfl ?_
      refine r_iload C dX6_order_88 rfl ?_
      refine r_iload C dX6_order_90 rfl ?_
      refine r_mmax C dX6_order_92 w_1081 ⟨Nat.le_of_ble_eq_true rfl, Nat.le_of_ble_eq_true rfl⟩ rfl c9 cv5 ?_
      refine r_aload_n C dX6_order_95 rfl ?_
      obtain ⟨q10, hf⟩ := gf_s hf
      refine r_gf C ct6 (j := 1) (ji := 1) dX6_order_96 q10 rfl rfl (by decide) w_254 rfl (fun c10 => ?_)
      refine r_iload C dX6_order_99 rfl ?_
      obtain ⟨q11, hf⟩ := rd_s hf
      refine r_iald C dX6_order_101 q11 rfl (fun c11 => ?_)
      refine r_iadd C dX6_order_102 ?_
      obtain ⟨x12, e12, hf⟩ := lb_s hf
      have c12 : in32 x12 := by rw [e12]; exact (in32_t _)
      refine r_istoreL C dX6_order_103 e12 (Nat.le_of_ble_eq_true rfl) rfl ?_
      obtain ⟨x13, e13, hf⟩ := lb_s hf
      have c13 : in32 x13 := by rw [e13]; exact (in32_t _)
      refine r_iincL C dX6_order_105 rfl e13 (Nat.le_of_ble_eq_true rfl) rfl ?_
      refine r_goto C dX6_order_108 (tgt := 27) (by decide) ?_
      exact G.mask [true, true, true, true, true, true, true, false] rfl rfl (L27 _ _ _ _ _ c6 c9 c12 c13 hf)
    · have hf := ite_p n3 hf
      refine r_iload C dX6_order_55 rfl ?_
      cases hf
      exact r_jret C hr dX6_order_57 cv6
set_option maxRecDepth 20000 in
theorem l_X6_order_27 {g : GT} {Z : Int × MM} {n : Nat} (C : Cx g cX6_order 8 yX6_order 4 103) (hr : Rt g (some .int) 0 Z) {v0 v1 v3 : Int}   (cv1 : in32 v1) (cv3 : in32 v3) : ∀ (k : Nat) (v2 v4 v5 v6 : Int) (h : MM), in32 v2 → in32 v4 → in32 v5 → in32 v6 → f_X6_order_27 n  v0 v1 v3 k v2 v4 v5 v6 h = some Z → G g 27 [(2, v0), (0, v1), (0, v2), (0, v3), (0, v4), (0, v5), (0, v6), (3, 0)] [] h := by
  intro k
  induction k with
  | zero => intro v2 v4 v5 v6 h cv2 cv4 cv5 cv6 hf; exact absurd hf (by intro z; cases z)
  | succ k ih => intro v2 v4 v5 v6 h cv2 cv4 cv5 cv6 hf; exact b_X6_order_27b C hr (rec27 := f_X6_order_27 n  v0 v1 v3 k)  ih cv1 cv2 cv3 cv4 cv5 cv6 (show f_X6_order_27b n  (f_X6_order_27 n  v0 v1 v3 k) v0 v1 v2 v3 v4 v5 v6 h = some Z from hf)
set_option maxRecDepth 20000 in
theorem e_X6_order {g : GT} {Z : Int × MM} {n : Nat} (C : Cx g cX6_order 8 yX6_order 4 103) (hr : Rt g (some .int) 0 Z) {v0 v1 : Int} (cv0 : cK 2 v0) (cv1 : cK 0 v1) {h : MM} (hf : f_X6_order n v0 v1 h = some Z) : G g 0 [(2, v0), (0, v1), (3, 0), (3, 0), (3, 0), (3, 0), (3, 0), (3, 0)] [] h := by
  have cv1 : in32 v1 := cv1
  unfold f_X6_order at hf
  refine r_iconst C dX6_order_0 ?_
  refine r_aload_n C dX6_order_1 rfl ?_
  obtain ⟨q1, hf⟩ := gf_s hf
  refine r_gf C ct6 (j := 2) (ji := 2) dX6_order_2 q1 rfl rfl (by decide) w_255 rfl (fun c1 => ?_)
  have c1 : in32 _ := c1
  refine r_ishl C dX6_order_5 ?_
  refine r_iconst C dX6_order_6 ?_
  refine r_isub C dX6_order_7 ?_
  obtain ⟨x2, e2, hf⟩ := lb_s hf
  have c2 : in32 x2 := by rw [e2]; exact (in32_t _)
  refine r_istore_nL C dX6_order_8 e2 (Nat.le_of_ble_eq_true rfl) rfl ?_
  refine r_aload_n C dX6_order_9 rfl ?_
  refine r_iload_n C dX6_order_10 rfl ?_
  refine r_iconst C dX6_order_11 ?_
  refine r_iconst C dX6_order_12 ?_
  refine r_iload_n C dX6_order_13 rfl ?_
  obtain ⟨p3, hf⟩ := gk_s hf
  obtain ⟨r3, h3, hq3, hf⟩ := bd_s hf
  refine r_cV4 C (am_X6_most (gl g) n) cm_X6_most w_1072 dX6_order_14 ⟨Nat.le_of_ble_eq_true rfl, Nat.le_of_ble_eq_true rfl⟩ p3 rfl c2 (in32_of rfl) (in32_of rfl) cv1 rfl (Nat.le_of_ble_eq_true rfl) hq3 (by decide) (fun c3 => ?_)
  have c3 : in32 _ := c3
  refine r_istore_n C dX6_order_17 (Nat.le_of_ble_eq_true rfl) rfl ?_
  refine r_iconst C dX6_order_18 ?_
  refine r_istore C dX6_order_19 (Nat.le_of_ble_eq_true rfl) rfl ?_
  refine r_iconst C dX6_order_21 ?_
  refine r_istore C dX6_order_22 (Nat.le_of_ble_eq_true rfl) rfl ?_
  refine r_iconst C dX6_order_24 ?_
  refine r_istore C dX6_order_25 (Nat.le_of_ble_eq_true rfl) rfl ?_
  exact G.mask [true, true, true, true, true, true, true, false] rfl rfl (l_X6_order_27 C hr  cv1 c3 _ _ _ _ _ _ c2 (in32_of rfl) (in32_of rfl) (in32_of rfl) hf)
set_option maxRecDepth 20000 in
theorem am_X6_order (l : Launch) (n : Nat) : AM l yX6_order cX6_order 8 (some .int) 4 103 [2, 0] 0 (un2 (f_X6_order n)) := by
  refine AM.intro (by decide) (fun xs hx => ?_) (fun g xs h Z hl C hr hx hf => ?_)
  · obtain ⟨a0, a1, rfl, c0, c1⟩ := canL_2 hx
    exact Nat.le_of_ble_eq_true rfl
  · obtain ⟨a0, a1, rfl, c0, c1⟩ := canL_2 hx
    have hf := (un2_e _ a0 a1 _).symm.trans hf
    exact e_X6_order (n := n) C hr c0 c1 hf
/-! LinesPromised.midnight(II)I -/
theorem dX11_midnight_0 : decode cX11_midnight 0 = .ok (.iload_n 2, 1) := by decide +kernel
theorem dX11_midnight_1 : decode cX11_midnight 1 = .ok (.iconst (-1), 1) := by decide +kernel
theorem dX11_midnight_2 : decode cX11_midnight 2 = .ok (.if_icmp .ge 5, 3) := by decide +kernel
theorem dX11_midnight_5 : decode cX11_midnight 5 = .ok (.iconst (-1), 1) := by decide +kernel
theorem dX11_midnight_6 : decode cX11_midnight 6 = .ok (.ireturn, 1) := by decide +kernel
theorem dX11_midnight_7 : decode cX11_midnight 7 = .ok (.iload_n 1, 1) := by decide +kernel
theorem dX11_midnight_8 : decode cX11_midnight 8 = .ok (.i2l, 1) := by decide +kernel
theorem dX11_midnight_9 : decode cX11_midnight 9 = .ok (.iconst 1, 1) := by decide +kernel
theorem dX11_midnight_10 : decode cX11_midnight 10 = .ok (.sipush 999, 3) := by decide +kernel
theorem dX11_midnight_13 : decode cX11_midnight 13 = .ok (.invokestatic 46, 3) := by decide +kernel
theorem dX11_midnight_16 : decode cX11_midnight 16 = .ok (.ifCond .ne 6, 3) := by decide +kernel
theorem dX11_midnight_19 : decode cX11_midnight 19 = .ok (.bipush (-2), 2) := by decide +kernel
theorem dX11_midnight_21 : decode cX11_midnight 21 = .ok (.ireturn, 1) := by decide +kernel
theorem dX11_midnight_22 : decode cX11_midnight 22 = .ok (.aload_n 0, 1) := by decide +kernel
theorem dX11_midnight_23 : decode cX11_midnight 23 = .ok (.getfield 10, 3) := by decide +kernel
theorem dX11_midnight_26 : decode cX11_midnight 26 = .ok (.getfield 304, 3) := by decide +kernel
theorem dX11_midnight_29 : decode cX11_midnight 29 = .ok (.iload_n 1, 1) := by decide +kernel
theorem dX11_midnight_30 : decode cX11_midnight 30 = .ok (.invokevirtual 314, 3) := by decide +kernel
theorem dX11_midnight_33 : decode cX11_midnight 33 = .ok (.istore_n 3, 1) := by decide +kernel
theorem dX11_midnight_34 : decode cX11_midnight 34 = .ok (.iload_n 2, 1) := by decide +kernel
theorem dX11_midnight_35 : decode cX11_midnight 35 = .ok (.iconst (-1), 1) := by decide +kernel
theorem dX11_midnight_36 : decode cX11_midnight 36 = .ok (.if_icmp .ne 5, 3) := by decide +kernel
theorem dX11_midnight_39 : decode cX11_midnight 39 = .ok (.iload_n 3, 1) := by decide +kernel
theorem dX11_midnight_40 : decode cX11_midnight 40 = .ok (.ireturn, 1) := by decide +kernel
theorem dX11_midnight_41 : decode cX11_midnight 41 = .ok (.iload_n 2, 1) := by decide +kernel
theorem dX11_midnight_42 : decode cX11_midnight 42 = .ok (.iload_n 3, 1) := by decide +kernel
theorem dX11_midnight_43 : decode cX11_midnight 43 = .ok (.if_icmp .ge 18, 3) := by decide +kernel
theorem dX11_midnight_46 : decode cX11_midnight 46 = .ok (.aload_n 0, 1) := by decide +kernel
theorem dX11_midnight_47 : decode cX11_midnight 47 = .ok (.getfield 10, 3) := by decide +kernel
theorem dX11_midnight_50 : decode cX11_midnight 50 = .ok (.getfield 304, 3) := by decide +kernel
theorem dX11_midnight_53 : decode cX11_midnight 53 = .ok (.getfield 318, 3) := by decide +kernel
theorem dX11_midnight_56 : decode cX11_midnight 56 = .ok (.iload_n 2, 1) := by decide +kernel
theorem dX11_midnight_57 : decode cX11_midnight 57 = .ok (.iaload, 1) := by decide +kernel
theorem dX11_midnight_58 : decode cX11_midnight 58 = .ok (.goto 4, 3) := by decide +kernel
theorem dX11_midnight_61 : decode cX11_midnight 61 = .ok (.iconst (-1), 1) := by decide +kernel
theorem dX11_midnight_62 : decode cX11_midnight 62 = .ok (.ireturn, 1) := by decide +kernel
theorem cm_X11_midnight : CM yX11_midnight cX11_midnight 4 (some .int) 2 11 := ⟨w_1065, w_1066, w_1067, w_87, ⟨by decide +kernel, by decide +kernel, by decide +kernel⟩, ⟨_, _, rfl⟩, by decide⟩
noncomputable def f_X11_midnight_62 (n : Nat)  (s0 : Int) (h : MM) : RR :=
  some (s0, h)
noncomputable def f_X11_midnight (n : Nat) (v0 v1 v2 : Int) (h : MM) : RR :=
  if (-1) ≤ v2 then
    bd (f_X11_within n v1 1 999 h) fun r2 h2 =>
    if r2 = 0 then
      some ((-2), h2)
    else
    gf h2 v0 11 0 fun r4 =>
    gf h2 r4 10 3 fun r5 =>
    gk h2 r5 6 <|
    bd (f_X6_order n r5 v1 h2) fun r6 h6 =>
    if v2 = (-1) then
      some (r6, h6)
    else
    if r6 ≤ v2 then
      f_X11_midnight_62 n ((-1)) h6
    else
    gf h6 v0 11 0 fun r9 =>
    gf h6 r9 10 3 fun r10 =>
    gf h6 r10 6 3 fun r11 =>
    rd h6 r11 100 v2 fun r12 =>
    f_X11_midnight_62 n r12 h6
  else
  some ((-1), h)
set_option maxRecDepth 20000 in
theorem b_X11_midnight_62 {g : GT} {Z : Int × MM} {n : Nat} (C : Cx g cX11_midnight 4 yX11_midnight 5 130) (hr : Rt g (some .int) 0 Z) {s0 : Int}    (cs0 : in32 s0) {h : MM} (hf : f_X11_midnight_62 n  s0 h = some Z) : G g 62 [(3, 0), (3, 0), (3, 0), (3, 0)] [(0, s0)] h := by
  unfold f_X11_midnight_62 at hf
  cases hf
  exact r_jret C hr dX11_midnight_62 cs0
set_option maxRecDepth 20000 in
theorem e_X11_midnight {g : GT} {Z : Int × MM} {n : Nat} (C : Cx g cX11_midnight 4 yX11_midnight 5 130) (hr : Rt g (some .int) 0 Z) {v0 v1 v2 : Int} (cv0 : cK 2 v0) (cv1 : cK 0 v1) (cv2 : cK 0 v2) {h : MM} (hf : f_X11_midnight n v0 v1 v2 h = some Z) : G g 0 [(2, v0), (0, v1), (0, v2), (3, 0)] [] h := by
  have cv1 : in32 v1 := cv1
  have cv2 : in32 v2 := cv2
  unfold f_X11_midnight at hf
  refine r_iload_n C dX11_midnight_0 rfl ?_
  refine r_iconst C dX11_midnight_1 ?_
  refine r_icmp_ge C dX11_midnight_2 (tgt := 7) (by decide) cv2 (in32_of rfl) (fun n1 => ?_) (fun n1 => ?_)
  · have hf := ite_p n1 hf
    refine r_iload_n C dX11_midnight_7 rfl ?_
    refine r_i2l C dX11_midnight_8 cv1 ?_
    refine r_iconst C dX11_midnight_9 ?_
    refine r_sipush C dX11_midnight_10 rfl ?_
    obtain ⟨r2, h2, hq2, hf⟩ := bd_s hf
    refine r_cS3 C (am_X11_within (gl g) n) cm_X11_within w_466 dX11_midnight_13 ⟨Nat.le_of_ble_eq_true rfl, Nat.le_of_ble_eq_true rfl⟩ (in64_i cv1) (in32_of rfl) (in32_of rfl) rfl (Nat.le_of_ble_eq_true rfl) hq2 (by decide) (fun c2 => ?_)
    have c2 : in32 _ := c2
    refine r_if_ne C dX11_midnight_16 (tgt := 22) (by decide) c2 (fun n3 => ?_) (fun n3 => ?_)
    · have hf := ite_n n3 hf
      refine r_aload_n C dX11_midnight_22 rfl ?_
      obtain ⟨q4, hf⟩ := gf_s hf
      refine r_gf C ct11 (j := 0) (ji := 0) dX11_midnight_23 q4 rfl rfl (by decide) w_440 rfl (fun c4 => ?_)
      obtain ⟨q5, hf⟩ := gf_s hf
      refine r_gf C ct10 (j := 3) (ji := 3) dX11_midnight_26 q5 rfl rfl (by decide) w_306 rfl (fun c5 => ?_)
      refine r_iload_n C dX11_midnight_29 rfl ?_
      obtain ⟨p6, hf⟩ := gk_s hf
      obtain ⟨r6, h6, hq6, hf⟩ := bd_s hf
      refine r_cV1 C (am_X6_order (gl g) n) cm_X6_order w_1068 dX11_midnight_30 ⟨Nat.le_of_ble_eq_true rfl, Nat.le_of_ble_eq_true rfl⟩ p6 rfl cv1 rfl (Nat.le_of_ble_eq_true rfl) hq6 (by decide) (fun c6 => ?_)
      have c6 : in32 _ := c6
      refine r_istore_n C dX11_midnight_33 (Nat.le_of_ble_eq_true rfl) rfl ?_
      refine r_iload_n C dX11_midnight_34 rfl ?_
      refine r_iconst C dX11_midnight_35 ?_
      refine r_icmp_ne C dX11_midnight_36 (tgt := 41) (by decide) cv2 (in32_of rfl) (fun n7 => ?_) (fun n7 => ?_)
      · have hf := ite_n n7 hf
        refine r_iload_n C dX11_midnight_41 rfl ?_
        refine r_iload_n C dX11_midnight_42 rfl ?_
        refine r_icmp_ge C dX11_midnight_43 (tgt := 61) (by decide) cv2 c6 (fun n8 => ?_) (fun n8 => ?_)
        · have hf := ite_p n8 hf
          refine r_iconst C dX11_midnight_61 ?_
          exact G.mask [false, false, false, false] rfl rfl (b_X11_midnight_62 C hr  (in32_of rfl) hf)
        · have hf := ite_n n8 hf
          refine r_aload_n C dX11_midnight_46 rfl ?_
          obtain ⟨q9, hf⟩ := gf_s hf
          refine r_gf C ct11 (j := 0) (ji := 0) dX11_midnight_47 q9 rfl rfl (by decide) w_440 rfl (fun c9 => ?_)
          obtain ⟨q10, hf⟩ := gf_s hf
          refine r_gf C ct10 (j := 3) (ji := 3) dX11_midnight_50 q10 rfl rfl (by decide) w_306 rfl (fun c10 => ?_)
          obtain ⟨q11, hf⟩ := gf_s hf
          refine r_gf C ct6 (j := 3) (ji := 3) dX11_midnight_53 q11 rfl rfl (by decide) w_258 rfl (fun c11 => ?_)
          refine r_iload_n C dX11_midnight_56 rfl ?_
          obtain ⟨q12, hf⟩ := rd_s hf
          refine r_iald C dX11_midnight_57 q12 rfl (fun c12 => ?_)
          refine r_goto C dX11_midnight_58 (tgt := 62) (by decide) ?_
          exact G.mask [false, false, false, false] rfl rfl (b_X11_midnight_62 C hr  c12 hf)
      · have hf := ite_p n7 hf
        refine r_iload_n C dX11_midnight_39 rfl ?_
        cases hf
        exact r_jret C hr dX11_midnight_40 c6
    · have hf := ite_p n3 hf
      refine r_bipush C dX11_midnight_19 rfl ?_
      cases hf
      exact r_jret C hr dX11_midnight_21 (in32_of rfl)
  · have hf := ite_n n1 hf
    refine r_iconst C dX11_midnight_5 ?_
    cases hf
    exact r_jret C hr dX11_midnight_6 (in32_of rfl)
set_option maxRecDepth 20000 in
theorem am_X11_midnight (l : Launch) (n : Nat) : AM l yX11_midnight cX11_midnight 4 (some .int) 5 130 [2, 0, 0] 0 (un3 (f_X11_midnight n)) := by
  refine AM.intro (by decide) (fun xs hx => ?_) (fun g xs h Z hl C hr hx hf => ?_)
  · obtain ⟨a0, a1, a2, rfl, c0, c1, c2⟩ := canL_3 hx
    exact Nat.le_of_ble_eq_true rfl
  · obtain ⟨a0, a1, a2, rfl, c0, c1, c2⟩ := canL_3 hx
    have hf := (un3_e _ a0 a1 a2 _).symm.trans hf
    exact e_X11_midnight (n := n) C hr c0 c1 c2 hf
/-! LinesPromised$Scrip.sharesOf(II)I -/
theorem dX8_sharesOf_0 : decode cX8_sharesOf 0 = .ok (.aload_n 0, 1) := by decide +kernel
theorem dX8_sharesOf_1 : decode cX8_sharesOf 1 = .ok (.getfield 15, 3) := by decide +kernel
theorem dX8_sharesOf_4 : decode cX8_sharesOf 4 = .ok (.iload_n 1, 1) := by decide +kernel
theorem dX8_sharesOf_5 : decode cX8_sharesOf 5 = .ok (.bipush 9, 2) := by decide +kernel
theorem dX8_sharesOf_7 : decode cX8_sharesOf 7 = .ok (.imul, 1) := by decide +kernel
theorem dX8_sharesOf_8 : decode cX8_sharesOf 8 = .ok (.iload_n 2, 1) := by decide +kernel
theorem dX8_sharesOf_9 : decode cX8_sharesOf 9 = .ok (.iadd, 1) := by decide +kernel
theorem dX8_sharesOf_10 : decode cX8_sharesOf 10 = .ok (.iaload, 1) := by decide +kernel
theorem dX8_sharesOf_11 : decode cX8_sharesOf 11 = .ok (.ireturn, 1) := by decide +kernel
theorem cm_X8_sharesOf : CM yX8_sharesOf cX8_sharesOf 3 (some .int) 2 8 := ⟨w_1098, w_1099, w_1100, w_91, ⟨by decide +kernel, by decide +kernel, by decide +kernel⟩, ⟨_, _, rfl⟩, by decide⟩
noncomputable def f_X8_sharesOf (n : Nat) (v0 v1 v2 : Int) (h : MM) : RR :=
  gf h v0 8 1 fun r1 =>
  rd h r1 100 (wr ((wr (v1 * 9)) + v2)) fun r2 =>
  some (r2, h)
set_option maxRecDepth 20000 in
theorem e_X8_sharesOf {g : GT} {Z : Int × MM} {n : Nat} (C : Cx g cX8_sharesOf 3 yX8_sharesOf 0 0) (hr : Rt g (some .int) 0 Z) {v0 v1 v2 : Int} (cv0 : cK 2 v0) (cv1 : cK 0 v1) (cv2 : cK 0 v2) {h : MM} (hf : f_X8_sharesOf n v0 v1 v2 h = some Z) : G g 0 [(2, v0), (0, v1), (0, v2)] [] h := by
  have cv1 : in32 v1 := cv1
  have cv2 : in32 v2 := cv2
  unfold f_X8_sharesOf at hf
  refine r_aload_n C dX8_sharesOf_0 rfl ?_
  obtain ⟨q1, hf⟩ := gf_s hf
  refine r_gf C ct8 (j := 1) (ji := 1) dX8_sharesOf_1 q1 rfl rfl (by decide) w_218 rfl (fun c1 => ?_)
  refine r_iload_n C dX8_sharesOf_4 rfl ?_
  refine r_bipush C dX8_sharesOf_5 rfl ?_
  refine r_imul C dX8_sharesOf_7 ?_
  refine r_iload_n C dX8_sharesOf_8 rfl ?_
  refine r_iadd C dX8_sharesOf_9 ?_
  obtain ⟨q2, hf⟩ := rd_s hf
  refine r_iald C dX8_sharesOf_10 q2 rfl (fun c2 => ?_)
  cases hf
  exact r_jret C hr dX8_sharesOf_11 c2
set_option maxRecDepth 20000 in
theorem am_X8_sharesOf (l : Launch) (n : Nat) : AM l yX8_sharesOf cX8_sharesOf 3 (some .int) 0 0 [2, 0, 0] 0 (un3 (f_X8_sharesOf n)) := by
  refine AM.intro (by decide) (fun xs hx => ?_) (fun g xs h Z hl C hr hx hf => ?_)
  · obtain ⟨a0, a1, a2, rfl, c0, c1, c2⟩ := canL_3 hx
    exact Nat.le_of_ble_eq_true rfl
  · obtain ⟨a0, a1, a2, rfl, c0, c1, c2⟩ := canL_3 hx
    have hf := (un3_e _ a0 a1 a2 _).symm.trans hf
    exact e_X8_sharesOf (n := n) C hr c0 c1 c2 hf
/-! LinesPromised$Scrip.pass(IIII)V -/
theorem dX8_pass_0 : decode cX8_pass 0 = .ok (.aload_n 0, 1) := by decide +kernel
theorem dX8_pass_1 : decode cX8_pass 1 = .ok (.getfield 15, 3) := by decide +kernel
theorem dX8_pass_4 : decode cX8_pass 4 = .ok (.iload_n 1, 1) := by decide +kernel
theorem dX8_pass_5 : decode cX8_pass 5 = .ok (.bipush 9, 2) := by decide +kernel
theorem dX8_pass_7 : decode cX8_pass 7 = .ok (.imul, 1) := by decide +kernel
theorem dX8_pass_8 : decode cX8_pass 8 = .ok (.iload_n 2, 1) := by decide +kernel
theorem dX8_pass_9 : decode cX8_pass 9 = .ok (.iadd, 1) := by decide +kernel
theorem dX8_pass_10 : decode cX8_pass 10 = .ok (.dup2, 1) := by decide +kernel
theorem dX8_pass_11 : decode cX8_pass 11 = .ok (.iaload, 1) := by decide +kernel
theorem dX8_pass_12 : decode cX8_pass 12 = .ok (.iload 4, 2) := by decide +kernel
theorem dX8_pass_14 : decode cX8_pass 14 = .ok (.isub, 1) := by decide +kernel
theorem dX8_pass_15 : decode cX8_pass 15 = .ok (.iastore, 1) := by decide +kernel
theorem dX8_pass_16 : decode cX8_pass 16 = .ok (.aload_n 0, 1) := by decide +kernel
theorem dX8_pass_17 : decode cX8_pass 17 = .ok (.getfield 15, 3) := by decide +kernel
theorem dX8_pass_20 : decode cX8_pass 20 = .ok (.iload_n 1, 1) := by decide +kernel
theorem dX8_pass_21 : decode cX8_pass 21 = .ok (.bipush 9, 2) := by decide +kernel
theorem dX8_pass_23 : decode cX8_pass 23 = .ok (.imul, 1) := by decide +kernel
theorem dX8_pass_24 : decode cX8_pass 24 = .ok (.iload_n 3, 1) := by decide +kernel
theorem dX8_pass_25 : decode cX8_pass 25 = .ok (.iadd, 1) := by decide +kernel
theorem dX8_pass_26 : decode cX8_pass 26 = .ok (.dup2, 1) := by decide +kernel
theorem dX8_pass_27 : decode cX8_pass 27 = .ok (.iaload, 1) := by decide +kernel
theorem dX8_pass_28 : decode cX8_pass 28 = .ok (.iload 4, 2) := by decide +kernel
theorem dX8_pass_30 : decode cX8_pass 30 = .ok (.iadd, 1) := by decide +kernel
theorem dX8_pass_31 : decode cX8_pass 31 = .ok (.iastore, 1) := by decide +kernel
theorem dX8_pass_32 : decode cX8_pass 32 = .ok (.return_, 1) := by decide +kernel
theorem cm_X8_pass : CM yX8_pass cX8_pass 5 none 4 8 := ⟨w_1102, w_1103, w_1104, w_91, ⟨by decide +kernel, by decide +kernel, by decide +kernel⟩, ⟨_, _, rfl⟩, by decide⟩
noncomputable def f_X8_pass (n : Nat) (v0 v1 v2 v3 v4 : Int) (h : MM) : RR :=
  gf h v0 8 1 fun r1 =>
  rd h r1 100 (wr ((wr (v1 * 9)) + v2)) fun r2 =>
  wt h r1 100 (wr ((wr (v1 * 9)) + v2)) (wr (r2 - v4)) fun h3 =>
  gf h3 v0 8 1 fun r4 =>
  rd h3 r4 100 (wr ((wr (v1 * 9)) + v3)) fun r5 =>
  wt h3 r4 100 (wr ((wr (v1 * 9)) + v3)) (wr (r5 + v4)) fun h6 =>
  some (0, h6)
set_option maxRecDepth 20000 in
theorem e_X8_pass {g : GT} {Z : Int × MM} {n : Nat} (C : Cx g cX8_pass 5 yX8_pass 0 0) (hr : Rt g none 3 Z) {v0 v1 v2 v3 v4 : Int} (cv0 : cK 2 v0) (cv1 : cK 0 v1) (cv2 : cK 0 v2) (cv3 : cK 0 v3) (cv4 : cK 0 v4) {h : MM} (hf : f_X8_pass n v0 v1 v2 v3 v4 h = some Z) : G g 0 [(2, v0), (0, v1), (0, v2), (0, v3), (0, v4)] [] h := by
  have cv1 : in32 v1 := cv1
  have cv2 : in32 v2 := cv2
  have cv3 : in32 v3 := cv3
  have cv4 : in32 v4 := cv4
  unfold f_X8_pass at hf
  refine r_aload_n C dX8_pass_0 rfl ?_
  obtain ⟨q1, hf⟩ := gf_s hf
  refine r_gf C ct8 (j := 1) (ji := 1) dX8_pass_1 q1 rfl rfl (by decide) w_218 rfl (fun c1 => ?_)
  refine r_iload_n C dX8_pass_4 rfl ?_
  refine r_bipush C dX8_pass_5 rfl ?_
  refine r_imul C dX8_pass_7 ?_
  refine r_iload_n C dX8_pass_8 rfl ?_
  refine r_iadd C dX8_pass_9 ?_
  refine r_dup2 C dX8_pass_10 (by decide) (by decide) ?_
  obtain ⟨q2, hf⟩ := rd_s hf
  refine r_iald C dX8_pass_11 q2 rfl (fun c2 => ?_)
  refine r_iload C dX8_pass_12 rfl ?_
  refine r_isub C dX8_pass_14 ?_
  obtain ⟨q3, hf⟩ := wt_s hf
  refine r_iast C dX8_pass_15 q3 rfl (in32_t _) ?_
  refine r_aload_n C dX8_pass_16 rfl ?_
  obtain ⟨q4, hf⟩ := gf_s hf
  refine r_gf C ct8 (j := 1) (ji := 1) dX8_pass_17 q4 rfl rfl (by decide) w_218 rfl (fun c4 => ?_)
  refine r_iload_n C dX8_pass_20 rfl ?_
  refine r_bipush C dX8_pass_21 rfl ?_
  refine r_imul C dX8_pass_23 ?_
  refine r_iload_n C dX8_pass_24 rfl ?_
  refine r_iadd C dX8_pass_25 ?_
  refine r_dup2 C dX8_pass_26 (by decide) (by decide) ?_
  obtain ⟨q5, hf⟩ := rd_s hf
  refine r_iald C dX8_pass_27 q5 rfl (fun c5 => ?_)
  refine r_iload C dX8_pass_28 rfl ?_
  refine r_iadd C dX8_pass_30 ?_
  obtain ⟨q6, hf⟩ := wt_s hf
  refine r_iast C dX8_pass_31 q6 rfl (in32_t _) ?_
  cases hf
  exact r_vret C hr dX8_pass_32
set_option maxRecDepth 20000 in
theorem am_X8_pass (l : Launch) (n : Nat) : AM l yX8_pass cX8_pass 5 none 0 0 [2, 0, 0, 0, 0] 3 (un5 (f_X8_pass n)) := by
  refine AM.intro (by decide) (fun xs hx => ?_) (fun g xs h Z hl C hr hx hf => ?_)
  · obtain ⟨a0, a1, a2, a3, a4, rfl, c0, c1, c2, c3, c4⟩ := canL_5 hx
    exact Nat.le_of_ble_eq_true rfl
  · obtain ⟨a0, a1, a2, a3, a4, rfl, c0, c1, c2, c3, c4⟩ := canL_5 hx
    have hf := (un5_e _ a0 a1 a2 a3 a4 _).symm.trans hf
    exact e_X8_pass (n := n) C hr c0 c1 c2 c3 c4 hf
/-! LinesPromised.scrip(III)I -/
theorem dX11_scrip_0 : decode cX11_scrip 0 = .ok (.aload_n 0, 1) := by decide +kernel
theorem dX11_scrip_1 : decode cX11_scrip 1 = .ok (.getfield 10, 3) := by decide +kernel
theorem dX11_scrip_4 : decode cX11_scrip 4 = .ok (.getfield 133, 3) := by decide +kernel
theorem dX11_scrip_7 : decode cX11_scrip 7 = .ok (.iload_n 1, 1) := by decide +kernel
theorem dX11_scrip_8 : decode cX11_scrip 8 = .ok (.iconst 1, 1) := by decide +kernel
theorem dX11_scrip_9 : decode cX11_scrip 9 = .ok (.invokevirtual 172, 3) := by decide +kernel
theorem dX11_scrip_12 : decode cX11_scrip 12 = .ok (.astore 4, 2) := by decide +kernel
theorem dX11_scrip_14 : decode cX11_scrip 14 = .ok (.aload 4, 2) := by decide +kernel
theorem dX11_scrip_16 : decode cX11_scrip 16 = .ok (.ifnull 10, 3) := by decide +kernel
theorem dX11_scrip_19 : decode cX11_scrip 19 = .ok (.iload_n 2, 1) := by decide +kernel
theorem dX11_scrip_20 : decode cX11_scrip 20 = .ok (.invokestatic 74, 3) := by decide +kernel
theorem dX11_scrip_23 : decode cX11_scrip 23 = .ok (.ifCond .ne 5, 3) := by decide +kernel
theorem dX11_scrip_26 : decode cX11_scrip 26 = .ok (.iconst (-1), 1) := by decide +kernel
theorem dX11_scrip_27 : decode cX11_scrip 27 = .ok (.ireturn, 1) := by decide +kernel
theorem dX11_scrip_28 : decode cX11_scrip 28 = .ok (.iload_n 3, 1) := by decide +kernel
theorem dX11_scrip_29 : decode cX11_scrip 29 = .ok (.i2l, 1) := by decide +kernel
theorem dX11_scrip_30 : decode cX11_scrip 30 = .ok (.iconst 1, 1) := by decide +kernel
theorem dX11_scrip_31 : decode cX11_scrip 31 = .ok (.bipush 99, 2) := by decide +kernel
theorem dX11_scrip_33 : decode cX11_scrip 33 = .ok (.invokestatic 46, 3) := by decide +kernel
theorem dX11_scrip_36 : decode cX11_scrip 36 = .ok (.ifCond .ne 6, 3) := by decide +kernel
theorem dX11_scrip_39 : decode cX11_scrip 39 = .ok (.bipush (-2), 2) := by decide +kernel
theorem dX11_scrip_41 : decode cX11_scrip 41 = .ok (.ireturn, 1) := by decide +kernel
theorem dX11_scrip_42 : decode cX11_scrip 42 = .ok (.aload_n 0, 1) := by decide +kernel
theorem dX11_scrip_43 : decode cX11_scrip 43 = .ok (.getfield 10, 3) := by decide +kernel
theorem dX11_scrip_46 : decode cX11_scrip 46 = .ok (.getfield 133, 3) := by decide +kernel
theorem dX11_scrip_49 : decode cX11_scrip 49 = .ok (.iload_n 1, 1) := by decide +kernel
theorem dX11_scrip_50 : decode cX11_scrip 50 = .ok (.invokevirtual 256, 3) := by decide +kernel
theorem dX11_scrip_53 : decode cX11_scrip 53 = .ok (.ifCond .ne 24, 3) := by decide +kernel
theorem dX11_scrip_56 : decode cX11_scrip 56 = .ok (.aload_n 0, 1) := by decide +kernel
theorem dX11_scrip_57 : decode cX11_scrip 57 = .ok (.getfield 10, 3) := by decide +kernel
theorem dX11_scrip_60 : decode cX11_scrip 60 = .ok (.getfield 78, 3) := by decide +kernel
theorem dX11_scrip_63 : decode cX11_scrip 63 = .ok (.aload 4, 2) := by decide +kernel
theorem dX11_scrip_65 : decode cX11_scrip 65 = .ok (.getfield 161, 3) := by decide +kernel
theorem dX11_scrip_68 : decode cX11_scrip 68 = .ok (.bipush 8, 2) := by decide +kernel
theorem dX11_scrip_70 : decode cX11_scrip 70 = .ok (.invokevirtual 321, 3) := by decide +kernel
theorem dX11_scrip_73 : decode cX11_scrip 73 = .ok (.iload_n 3, 1) := by decide +kernel
theorem dX11_scrip_74 : decode cX11_scrip 74 = .ok (.if_icmp .ge 6, 3) := by decide +kernel
theorem dX11_scrip_77 : decode cX11_scrip 77 = .ok (.bipush (-3), 2) := by decide +kernel
theorem dX11_scrip_79 : decode cX11_scrip 79 = .ok (.ireturn, 1) := by decide +kernel
theorem dX11_scrip_80 : decode cX11_scrip 80 = .ok (.aload_n 0, 1) := by decide +kernel
theorem dX11_scrip_81 : decode cX11_scrip 81 = .ok (.getfield 10, 3) := by decide +kernel
theorem dX11_scrip_84 : decode cX11_scrip 84 = .ok (.getfield 78, 3) := by decide +kernel
theorem dX11_scrip_87 : decode cX11_scrip 87 = .ok (.aload 4, 2) := by decide +kernel
theorem dX11_scrip_89 : decode cX11_scrip 89 = .ok (.getfield 161, 3) := by decide +kernel
theorem dX11_scrip_92 : decode cX11_scrip 92 = .ok (.bipush 8, 2) := by decide +kernel
theorem dX11_scrip_94 : decode cX11_scrip 94 = .ok (.iload_n 2, 1) := by decide +kernel
theorem dX11_scrip_95 : decode cX11_scrip 95 = .ok (.iload_n 3, 1) := by decide +kernel
theorem dX11_scrip_96 : decode cX11_scrip 96 = .ok (.invokevirtual 324, 3) := by decide +kernel
theorem dX11_scrip_99 : decode cX11_scrip 99 = .ok (.aload_n 0, 1) := by decide +kernel
theorem dX11_scrip_100 : decode cX11_scrip 100 = .ok (.getfield 10, 3) := by decide +kernel
theorem dX11_scrip_103 : decode cX11_scrip 103 = .ok (.getfield 78, 3) := by decide +kernel
theorem dX11_scrip_106 : decode cX11_scrip 106 = .ok (.aload 4, 2) := by decide +kernel
theorem dX11_scrip_108 : decode cX11_scrip 108 = .ok (.getfield 161, 3) := by decide +kernel
theorem dX11_scrip_111 : decode cX11_scrip 111 = .ok (.iload_n 2, 1) := by decide +kernel
theorem dX11_scrip_112 : decode cX11_scrip 112 = .ok (.invokevirtual 321, 3) := by decide +kernel
theorem dX11_scrip_115 : decode cX11_scrip 115 = .ok (.ireturn, 1) := by decide +kernel
theorem cm_X11_scrip : CM yX11_scrip cX11_scrip 5 (some .int) 3 11 := ⟨w_1094, w_1095, w_1096, w_87, ⟨by decide +kernel, by decide +kernel, by decide +kernel⟩, ⟨_, _, rfl⟩, by decide⟩
noncomputable def f_X11_scrip_26 (n : Nat)  (h : MM) : RR :=
  some ((-1), h)
noncomputable def f_X11_scrip_77 (n : Nat)  (h : MM) : RR :=
  some ((-3), h)
noncomputable def f_X11_scrip (n : Nat) (v0 v1 v2 v3 : Int) (h : MM) : RR :=
  gf h v0 11 0 fun r1 =>
  gf h r1 10 1 fun r2 =>
  gk h r2 5 <|
  bd (f_X5_find n r2 v1 1 h) fun r3 h3 =>
  if r3 = 0 then
    f_X11_scrip_26 n h3
  else
  bd (f_X11_isHolder n v2 h3) fun r5 h5 =>
  if r5 = 0 then
    f_X11_scrip_26 n h5
  else
  bd (f_X11_within n v3 1 99 h5) fun r7 h7 =>
  if r7 = 0 then
    some ((-2), h7)
  else
  gf h7 v0 11 0 fun r9 =>
  gf h7 r9 10 1 fun r10 =>
  gk h7 r10 5 <|
  bd (f_X5_isMarked n r10 v1 h7) fun r11 h11 =>
  if r11 = 0 then
    gf h11 v0 11 0 fun r13 =>
    gf h11 r13 10 2 fun r14 =>
    gf h11 r3 4 9 fun r15 =>
    gk h11 r14 8 <|
    bd (f_X8_sharesOf n r14 r15 8 h11) fun r16 h16 =>
    if v3 ≤ r16 then
      gf h16 v0 11 0 fun r18 =>
      gf h16 r18 10 2 fun r19 =>
      gf h16 r3 4 9 fun r20 =>
      gk h16 r19 8 <|
      bd (f_X8_pass n r19 r20 8 v2 v3 h16) fun r21 h21 =>
      gf h21 v0 11 0 fun r22 =>
      gf h21 r22 10 2 fun r23 =>
      gf h21 r3 4 9 fun r24 =>
      gk h21 r23 8 <|
      bd (f_X8_sharesOf n r23 r24 v2 h21) fun r25 h25 =>
      some (r25, h25)
    else
    f_X11_scrip_77 n h16
  else
  f_X11_scrip_77 n h11
set_option maxRecDepth 20000 in
theorem b_X11_scrip_26 {g : GT} {Z : Int × MM} {n : Nat} (C : Cx g cX11_scrip 5 yX11_scrip 3 67) (hr : Rt g (some .int) 0 Z)     {h : MM} (hf : f_X11_scrip_26 n   h = some Z) : G g 26 [(3, 0), (3, 0), (3, 0), (3, 0), (3, 0)] [] h := by
  unfold f_X11_scrip_26 at hf
  refine r_iconst C dX11_scrip_26 ?_
  cases hf
  exact r_jret C hr dX11_scrip_27 (in32_of rfl)
set_option maxRecDepth 20000 in
theorem b_X11_scrip_77 {g : GT} {Z : Int × MM} {n : Nat} (C : Cx g cX11_scrip 5 yX11_scrip 3 67) (hr : Rt g (some .int) 0 Z)     {h : MM} (hf : f_X11_scrip_77 n   h = some Z) : G g 77 [(3, 0), (3, 0), (3, 0), (3, 0), (3, 0)] [] h := by
  unfold f_X11_scrip_77 at hf
  refine r_bipush C dX11_scrip_77 rfl ?_
  cases hf
  exact r_jret C hr dX11_scrip_79 (in32_of rfl)
set_option maxRecDepth 20000 in
theorem e_X11_scrip {g : GT} {Z : Int × MM} {n : Nat} (C : Cx g cX11_scrip 5 yX11_scrip 3 67) (hr : Rt g (some .int) 0 Z) {v0 v1 v2 v3 : Int} (cv0 : cK 2 v0) (cv1 : cK 0 v1) (cv2 : cK 0 v2) (cv3 : cK 0 v3) {h : MM} (hf : f_X11_scrip n v0 v1 v2 v3 h = some Z) : G g 0 [(2, v0), (0, v1), (0, v2), (0, v3), (3, 0)] [] h := by
  have cv1 : in32 v1 := cv1
  have cv2 : in32 v2 := cv2
  have cv3 : in32 v3 := cv3
  unfold f_X11_scrip at hf
  refine r_aload_n C dX11_scrip_0 rfl ?_
  obtain ⟨q1, hf⟩ := gf_s hf
  refine r_gf C ct11 (j := 0) (ji := 0) dX11_scrip_1 q1 rfl rfl (by decide) w_440 rfl (fun c1 => ?_)
  obtain ⟨q2, hf⟩ := gf_s hf
  refine r_gf C ct10 (j := 1) (ji := 1) dX11_scrip_4 q2 rfl rfl (by decide) w_302 rfl (fun c2 => ?_)
  refine r_iload_n C dX11_scrip_7 rfl ?_
  refine r_iconst C dX11_scrip_8 ?_
  obtain ⟨p3, hf⟩ := gk_s hf
  obtain ⟨r3, h3, hq3, hf⟩ := bd_s hf
  refine r_cV2 C (am_X5_find (gl g) n) cm_X5_find w_798 dX11_scrip_9 ⟨Nat.le_of_ble_eq_true rfl, Nat.le_of_ble_eq_true rfl⟩ p3 rfl cv1 (in32_of rfl) rfl (Nat.le_of_ble_eq_true rfl) hq3 (by decide) (fun c3 => ?_)
  refine r_astore C dX11_scrip_12 (Nat.le_of_ble_eq_true rfl) rfl ?_
  refine r_aload C dX11_scrip_14 rfl ?_
  refine r_ifnull C dX11_scrip_16 (tgt := 26) (by decide) (fun n4 => ?_) (fun n4 => ?_)
  · have hf := ite_p n4 hf
    exact G.mask [false, false, false, false, false] rfl rfl (b_X11_scrip_26 C hr   hf)
  · have hf := ite_n n4 hf
    refine r_iload_n C dX11_scrip_19 rfl ?_
    obtain ⟨r5, h5, hq5, hf⟩ := bd_s hf
    refine r_cS1 C (am_X11_isHolder (gl g) n) cm_X11_isHolder w_485 dX11_scrip_20 ⟨Nat.le_of_ble_eq_true rfl, Nat.le_of_ble_eq_true rfl⟩ cv2 rfl (Nat.le_of_ble_eq_true rfl) hq5 (by decide) (fun c5 => ?_)
    have c5 : in32 _ := c5
    refine r_if_ne C dX11_scrip_23 (tgt := 28) (by decide) c5 (fun n6 => ?_) (fun n6 => ?_)
    · have hf := ite_n n6 hf
      refine r_iload_n C dX11_scrip_28 rfl ?_
      refine r_i2l C dX11_scrip_29 cv3 ?_
      refine r_iconst C dX11_scrip_30 ?_
      refine r_bipush C dX11_scrip_31 rfl ?_
      obtain ⟨r7, h7, hq7, hf⟩ := bd_s hf
      refine r_cS3 C (am_X11_within (gl g) n) cm_X11_within w_466 dX11_scrip_33 ⟨Nat.le_of_ble_eq_true rfl, Nat.le_of_ble_eq_true rfl⟩ (in64_i cv3) (in32_of rfl) (in32_of rfl) rfl (Nat.le_of_ble_eq_true rfl) hq7 (by decide) (fun c7 => ?_)
      have c7 : in32 _ := c7
      refine r_if_ne C dX11_scrip_36 (tgt := 42) (by decide) c7 (fun n8 => ?_) (fun n8 => ?_)
      · have hf := ite_n n8 hf
        refine r_aload_n C dX11_scrip_42 rfl ?_
        obtain ⟨q9, hf⟩ := gf_s hf
        refine r_gf C ct11 (j := 0) (ji := 0) dX11_scrip_43 q9 rfl rfl (by decide) w_440 rfl (fun c9 => ?_)
        obtain ⟨q10, hf⟩ := gf_s hf
        refine r_gf C ct10 (j := 1) (ji := 1) dX11_scrip_46 q10 rfl rfl (by decide) w_302 rfl (fun c10 => ?_)
        refine r_iload_n C dX11_scrip_49 rfl ?_
        obtain ⟨p11, hf⟩ := gk_s hf
        obtain ⟨r11, h11, hq11, hf⟩ := bd_s hf
        refine r_cV1 C (am_X5_isMarked (gl g) n) cm_X5_isMarked w_993 dX11_scrip_50 ⟨Nat.le_of_ble_eq_true rfl, Nat.le_of_ble_eq_true rfl⟩ p11 rfl cv1 rfl (Nat.le_of_ble_eq_true rfl) hq11 (by decide) (fun c11 => ?_)
        have c11 : in32 _ := c11
        refine r_if_ne C dX11_scrip_53 (tgt := 77) (by decide) c11 (fun n12 => ?_) (fun n12 => ?_)
        · have hf := ite_n n12 hf
          exact G.mask [false, false, false, false, false] rfl rfl (b_X11_scrip_77 C hr   hf)
        · have hf := ite_p n12 hf
          refine r_aload_n C dX11_scrip_56 rfl ?_
          obtain ⟨q13, hf⟩ := gf_s hf
          refine r_gf C ct11 (j := 0) (ji := 0) dX11_scrip_57 q13 rfl rfl (by decide) w_440 rfl (fun c13 => ?_)
          obtain ⟨q14, hf⟩ := gf_s hf
          refine r_gf C ct10 (j := 2) (ji := 2) dX11_scrip_60 q14 rfl rfl (by decide) w_304 rfl (fun c14 => ?_)
          refine r_aload C dX11_scrip_63 rfl ?_
          obtain ⟨q15, hf⟩ := gf_s hf
          refine r_gf C ct4 (j := 9) (ji := 9) dX11_scrip_65 q15 rfl rfl (by decide) w_754 rfl (fun c15 => ?_)
          have c15 : in32 _ := c15
          refine r_bipush C dX11_scrip_68 rfl ?_
          obtain ⟨p16, hf⟩ := gk_s hf
          obtain ⟨r16, h16, hq16, hf⟩ := bd_s hf
          refine r_cV2 C (am_X8_sharesOf (gl g) n) cm_X8_sharesOf w_1097 dX11_scrip_70 ⟨Nat.le_of_ble_eq_true rfl, Nat.le_of_ble_eq_true rfl⟩ p16 rfl c15 (in32_of rfl) rfl (Nat.le_of_ble_eq_true rfl) hq16 (by decide) (fun c16 => ?_)
          have c16 : in32 _ := c16
          refine r_iload_n C dX11_scrip_73 rfl ?_
          refine r_icmp_ge C dX11_scrip_74 (tgt := 80) (by decide) c16 cv3 (fun n17 => ?_) (fun n17 => ?_)
          · have hf := ite_p n17 hf
            refine r_aload_n C dX11_scrip_80 rfl ?_
            obtain ⟨q18, hf⟩ := gf_s hf
            refine r_gf C ct11 (j := 0) (ji := 0) dX11_scrip_81 q18 rfl rfl (by decide) w_440 rfl (fun c18 => ?_)
            obtain ⟨q19, hf⟩ := gf_s hf
            refine r_gf C ct10 (j := 2) (ji := 2) dX11_scrip_84 q19 rfl rfl (by decide) w_304 rfl (fun c19 => ?_)
            refine r_aload C dX11_scrip_87 rfl ?_
            obtain ⟨q20, hf⟩ := gf_s hf
            refine r_gf C ct4 (j := 9) (ji := 9) dX11_scrip_89 q20 rfl rfl (by decide) w_754 rfl (fun c20 => ?_)
            have c20 : in32 _ := c20
            refine r_bipush C dX11_scrip_92 rfl ?_
            refine r_iload_n C dX11_scrip_94 rfl ?_
            refine r_iload_n C dX11_scrip_95 rfl ?_
            obtain ⟨p21, hf⟩ := gk_s hf
            obtain ⟨r21, h21, hq21, hf⟩ := bd_s hf
            refine r_cV4v C (am_X8_pass (gl g) n) cm_X8_pass w_1101 dX11_scrip_96 ⟨Nat.le_of_ble_eq_true rfl, Nat.le_of_ble_eq_true rfl⟩ p21 rfl c20 (in32_of rfl) cv2 cv3 rfl (Nat.le_of_ble_eq_true rfl) hq21 ?_
            refine r_aload_n C dX11_scrip_99 rfl ?_
            obtain ⟨q22, hf⟩ := gf_s hf
            refine r_gf C ct11 (j := 0) (ji := 0) dX11_scrip_100 q22 rfl rfl (by decide) w_440 rfl (fun c22 => ?_)
            obtain ⟨q23, hf⟩ := gf_s hf
            refine r_gf C ct10 (j := 2) (ji := 2) dX11_scrip_103 q23 rfl rfl (by decide) w_304 rfl (fun c23 => ?_)
            refine r_aload C dX11_scrip_106 rfl ?_
            obtain ⟨q24, hf⟩ := gf_s hf
            refine r_gf C ct4 (j := 9) (ji := 9) dX11_scrip_108 q24 rfl rfl (by decide) w_754 rfl (fun c24 => ?_)
            have c24 : in32 _ := c24
            refine r_iload_n C dX11_scrip_111 rfl ?_
            obtain ⟨p25, hf⟩ := gk_s hf
            obtain ⟨r25, h25, hq25, hf⟩ := bd_s hf
            refine r_cV2 C (am_X8_sharesOf (gl g) n) cm_X8_sharesOf w_1097 dX11_scrip_112 ⟨Nat.le_of_ble_eq_true rfl, Nat.le_of_ble_eq_true rfl⟩ p25 rfl c24 cv2 rfl (Nat.le_of_ble_eq_true rfl) hq25 (by decide) (fun c25 => ?_)
            have c25 : in32 _ := c25
            cases hf
            exact r_jret C hr dX11_scrip_115 c25
          · have hf := ite_n n17 hf
            exact G.mask [false, false, false, false, false] rfl rfl (b_X11_scrip_77 C hr   hf)
      · have hf := ite_p n8 hf
        refine r_bipush C dX11_scrip_39 rfl ?_
        cases hf
        exact r_jret C hr dX11_scrip_41 (in32_of rfl)
    · have hf := ite_p n6 hf
      exact G.mask [false, false, false, false, false] rfl rfl (b_X11_scrip_26 C hr   hf)
set_option maxRecDepth 20000 in
theorem am_X11_scrip (l : Launch) (n : Nat) : AM l yX11_scrip cX11_scrip 5 (some .int) 3 67 [2, 0, 0, 0] 0 (un4 (f_X11_scrip n)) := by
  refine AM.intro (by decide) (fun xs hx => ?_) (fun g xs h Z hl C hr hx hf => ?_)
  · obtain ⟨a0, a1, a2, a3, rfl, c0, c1, c2, c3⟩ := canL_4 hx
    exact Nat.le_of_ble_eq_true rfl
  · obtain ⟨a0, a1, a2, a3, rfl, c0, c1, c2, c3⟩ := canL_4 hx
    have hf := (un4_e _ a0 a1 a2 a3 _).symm.trans hf
    exact e_X11_scrip (n := n) C hr c0 c1 c2 c3 hf
/-! LinesPromised.held(II)I -/
theorem dX11_held_0 : decode cX11_held 0 = .ok (.aload_n 0, 1) := by decide +kernel
theorem dX11_held_1 : decode cX11_held 1 = .ok (.getfield 10, 3) := by decide +kernel
theorem dX11_held_4 : decode cX11_held 4 = .ok (.getfield 133, 3) := by decide +kernel
theorem dX11_held_7 : decode cX11_held 7 = .ok (.iload_n 1, 1) := by decide +kernel
theorem dX11_held_8 : decode cX11_held 8 = .ok (.iconst 1, 1) := by decide +kernel
theorem dX11_held_9 : decode cX11_held 9 = .ok (.invokevirtual 172, 3) := by decide +kernel
theorem dX11_held_12 : decode cX11_held 12 = .ok (.astore_n 3, 1) := by decide +kernel
theorem dX11_held_13 : decode cX11_held 13 = .ok (.aload_n 3, 1) := by decide +kernel
theorem dX11_held_14 : decode cX11_held 14 = .ok (.ifnull 14, 3) := by decide +kernel
theorem dX11_held_17 : decode cX11_held 17 = .ok (.iload_n 2, 1) := by decide +kernel
theorem dX11_held_18 : decode cX11_held 18 = .ok (.i2l, 1) := by decide +kernel
theorem dX11_held_19 : decode cX11_held 19 = .ok (.iconst 0, 1) := by decide +kernel
theorem dX11_held_20 : decode cX11_held 20 = .ok (.bipush 8, 2) := by decide +kernel
theorem dX11_held_22 : decode cX11_held 22 = .ok (.invokestatic 46, 3) := by decide +kernel
theorem dX11_held_25 : decode cX11_held 25 = .ok (.ifCond .ne 5, 3) := by decide +kernel
theorem dX11_held_28 : decode cX11_held 28 = .ok (.iconst (-1), 1) := by decide +kernel
theorem dX11_held_29 : decode cX11_held 29 = .ok (.ireturn, 1) := by decide +kernel
theorem dX11_held_30 : decode cX11_held 30 = .ok (.aload_n 0, 1) := by decide +kernel
theorem dX11_held_31 : decode cX11_held 31 = .ok (.getfield 10, 3) := by decide +kernel
theorem dX11_held_34 : decode cX11_held 34 = .ok (.getfield 78, 3) := by decide +kernel
theorem dX11_held_37 : decode cX11_held 37 = .ok (.aload_n 3, 1) := by decide +kernel
theorem dX11_held_38 : decode cX11_held 38 = .ok (.getfield 161, 3) := by decide +kernel
theorem dX11_held_41 : decode cX11_held 41 = .ok (.iload_n 2, 1) := by decide +kernel
theorem dX11_held_42 : decode cX11_held 42 = .ok (.invokevirtual 321, 3) := by decide +kernel
theorem dX11_held_45 : decode cX11_held 45 = .ok (.ireturn, 1) := by decide +kernel
theorem cm_X11_held : CM yX11_held cX11_held 4 (some .int) 2 11 := ⟨w_1106, w_1107, w_1108, w_87, ⟨by decide +kernel, by decide +kernel, by decide +kernel⟩, ⟨_, _, rfl⟩, by decide⟩
noncomputable def f_X11_held_28 (n : Nat)  (h : MM) : RR :=
  some ((-1), h)
noncomputable def f_X11_held (n : Nat) (v0 v1 v2 : Int) (h : MM) : RR :=
  gf h v0 11 0 fun r1 =>
  gf h r1 10 1 fun r2 =>
  gk h r2 5 <|
  bd (f_X5_find n r2 v1 1 h) fun r3 h3 =>
  if r3 = 0 then
    f_X11_held_28 n h3
  else
  bd (f_X11_within n v2 0 8 h3) fun r5 h5 =>
  if r5 = 0 then
    f_X11_held_28 n h5
  else
  gf h5 v0 11 0 fun r7 =>
  gf h5 r7 10 2 fun r8 =>
  gf h5 r3 4 9 fun r9 =>
  gk h5 r8 8 <|
  bd (f_X8_sharesOf n r8 r9 v2 h5) fun r10 h10 =>
  some (r10, h10)
set_option maxRecDepth 20000 in
theorem b_X11_held_28 {g : GT} {Z : Int × MM} {n : Nat} (C : Cx g cX11_held 4 yX11_held 3 67) (hr : Rt g (some .int) 0 Z)     {h : MM} (hf : f_X11_held_28 n   h = some Z) : G g 28 [(3, 0), (3, 0), (3, 0), (3, 0)] [] h := by
  unfold f_X11_held_28 at hf
  refine r_iconst C dX11_held_28 ?_
  cases hf
  exact r_jret C hr dX11_held_29 (in32_of rfl)
set_option maxRecDepth 20000 in
theorem e_X11_held {g : GT} {Z : Int × MM} {n : Nat} (C : Cx g cX11_held 4 yX11_held 3 67) (hr : Rt g (some .int) 0 Z) {v0 v1 v2 : Int} (cv0 : cK 2 v0) (cv1 : cK 0 v1) (cv2 : cK 0 v2) {h : MM} (hf : f_X11_held n v0 v1 v2 h = some Z) : G g 0 [(2, v0), (0, v1), (0, v2), (3, 0)] [] h := by
  have cv1 : in32 v1 := cv1
  have cv2 : in32 v2 := cv2
  unfold f_X11_held at hf
  refine r_aload_n C dX11_held_0 rfl ?_
  obtain ⟨q1, hf⟩ := gf_s hf
  refine r_gf C ct11 (j := 0) (ji := 0) dX11_held_1 q1 rfl rfl (by decide) w_440 rfl (fun c1 => ?_)
  obtain ⟨q2, hf⟩ := gf_s hf
  refine r_gf C ct10 (j := 1) (ji := 1) dX11_held_4 q2 rfl rfl (by decide) w_302 rfl (fun c2 => ?_)
  refine r_iload_n C dX11_held_7 rfl ?_
  refine r_iconst C dX11_held_8 ?_
  obtain ⟨p3, hf⟩ := gk_s hf
  obtain ⟨r3, h3, hq3, hf⟩ := bd_s hf
  refine r_cV2 C (am_X5_find (gl g) n) cm_X5_find w_798 dX11_held_9 ⟨Nat.le_of_ble_eq_true rfl, Nat.le_of_ble_eq_true rfl⟩ p3 rfl cv1 (in32_of rfl) rfl (Nat.le_of_ble_eq_true rfl) hq3 (by decide) (fun c3 => ?_)
  refine r_astore_n C dX11_held_12 (Nat.le_of_ble_eq_true rfl) rfl ?_
  refine r_aload_n C dX11_held_13 rfl ?_
  refine r_ifnull C dX11_held_14 (tgt := 28) (by decide) (fun n4 => ?_) (fun n4 => ?_)
  · have hf := ite_p n4 hf
    exact G.mask [false, false, false, false] rfl rfl (b_X11_held_28 C hr   hf)
  · have hf := ite_n n4 hf
    refine r_iload_n C dX11_held_17 rfl ?_
    refine r_i2l C dX11_held_18 cv2 ?_
    refine r_iconst C dX11_held_19 ?_
    refine r_bipush C dX11_held_20 rfl ?_
    obtain ⟨r5, h5, hq5, hf⟩ := bd_s hf
    refine r_cS3 C (am_X11_within (gl g) n) cm_X11_within w_466 dX11_held_22 ⟨Nat.le_of_ble_eq_true rfl, Nat.le_of_ble_eq_true rfl⟩ (in64_i cv2) (in32_of rfl) (in32_of rfl) rfl (Nat.le_of_ble_eq_true rfl) hq5 (by decide) (fun c5 => ?_)
    have c5 : in32 _ := c5
    refine r_if_ne C dX11_held_25 (tgt := 30) (by decide) c5 (fun n6 => ?_) (fun n6 => ?_)
    · have hf := ite_n n6 hf
      refine r_aload_n C dX11_held_30 rfl ?_
      obtain ⟨q7, hf⟩ := gf_s hf
      refine r_gf C ct11 (j := 0) (ji := 0) dX11_held_31 q7 rfl rfl (by decide) w_440 rfl (fun c7 => ?_)
      obtain ⟨q8, hf⟩ := gf_s hf
      refine r_gf C ct10 (j := 2) (ji := 2) dX11_held_34 q8 rfl rfl (by decide) w_304 rfl (fun c8 => ?_)
      refine r_aload_n C dX11_held_37 rfl ?_
      obtain ⟨q9, hf⟩ := gf_s hf
      refine r_gf C ct4 (j := 9) (ji := 9) dX11_held_38 q9 rfl rfl (by decide) w_754 rfl (fun c9 => ?_)
      have c9 : in32 _ := c9
      refine r_iload_n C dX11_held_41 rfl ?_
      obtain ⟨p10, hf⟩ := gk_s hf
      obtain ⟨r10, h10, hq10, hf⟩ := bd_s hf
      refine r_cV2 C (am_X8_sharesOf (gl g) n) cm_X8_sharesOf w_1097 dX11_held_42 ⟨Nat.le_of_ble_eq_true rfl, Nat.le_of_ble_eq_true rfl⟩ p10 rfl c9 cv2 rfl (Nat.le_of_ble_eq_true rfl) hq10 (by decide) (fun c10 => ?_)
      have c10 : in32 _ := c10
      cases hf
      exact r_jret C hr dX11_held_45 c10
    · have hf := ite_p n6 hf
      exact G.mask [false, false, false, false] rfl rfl (b_X11_held_28 C hr   hf)
set_option maxRecDepth 20000 in
theorem am_X11_held (l : Launch) (n : Nat) : AM l yX11_held cX11_held 4 (some .int) 3 67 [2, 0, 0] 0 (un3 (f_X11_held n)) := by
  refine AM.intro (by decide) (fun xs hx => ?_) (fun g xs h Z hl C hr hx hf => ?_)
  · obtain ⟨a0, a1, a2, rfl, c0, c1, c2⟩ := canL_3 hx
    exact Nat.le_of_ble_eq_true rfl
  · obtain ⟨a0, a1, a2, rfl, c0, c1, c2⟩ := canL_3 hx
    have hf := (un3_e _ a0 a1 a2 _).symm.trans hf
    exact e_X11_held (n := n) C hr c0 c1 c2 hf
/-! LinesPromised.partyOf(II)I -/
theorem dX11_partyOf_0 : decode cX11_partyOf 0 = .ok (.iload_n 1, 1) := by decide +kernel
theorem dX11_partyOf_1 : decode cX11_partyOf 1 = .ok (.ifCond .ne 16, 3) := by decide +kernel
theorem dX11_partyOf_4 : decode cX11_partyOf 4 = .ok (.iload_n 2, 1) := by decide +kernel
theorem dX11_partyOf_5 : decode cX11_partyOf 5 = .ok (.invokestatic 74, 3) := by decide +kernel
theorem dX11_partyOf_8 : decode cX11_partyOf 8 = .ok (.ifCond .eq 7, 3) := by decide +kernel
theorem dX11_partyOf_11 : decode cX11_partyOf 11 = .ok (.iload_n 2, 1) := by decide +kernel
theorem dX11_partyOf_12 : decode cX11_partyOf 12 = .ok (.goto 4, 3) := by decide +kernel
theorem dX11_partyOf_15 : decode cX11_partyOf 15 = .ok (.iconst (-1), 1) := by decide +kernel
theorem dX11_partyOf_16 : decode cX11_partyOf 16 = .ok (.ireturn, 1) := by decide +kernel
theorem dX11_partyOf_17 : decode cX11_partyOf 17 = .ok (.iload_n 1, 1) := by decide +kernel
theorem dX11_partyOf_18 : decode cX11_partyOf 18 = .ok (.iconst 1, 1) := by decide +kernel
theorem dX11_partyOf_19 : decode cX11_partyOf 19 = .ok (.if_icmp .ne 18, 3) := by decide +kernel
theorem dX11_partyOf_22 : decode cX11_partyOf 22 = .ok (.aload_n 0, 1) := by decide +kernel
theorem dX11_partyOf_23 : decode cX11_partyOf 23 = .ok (.getfield 10, 3) := by decide +kernel
theorem dX11_partyOf_26 : decode cX11_partyOf 26 = .ok (.getfield 133, 3) := by decide +kernel
theorem dX11_partyOf_29 : decode cX11_partyOf 29 = .ok (.iload_n 2, 1) := by decide +kernel
theorem dX11_partyOf_30 : decode cX11_partyOf 30 = .ok (.iconst 1, 1) := by decide +kernel
theorem dX11_partyOf_31 : decode cX11_partyOf 31 = .ok (.invokevirtual 172, 3) := by decide +kernel
theorem dX11_partyOf_34 : decode cX11_partyOf 34 = .ok (.goto 4, 3) := by decide +kernel
theorem dX11_partyOf_37 : decode cX11_partyOf 37 = .ok (.aconst_null, 1) := by decide +kernel
theorem dX11_partyOf_38 : decode cX11_partyOf 38 = .ok (.astore_n 3, 1) := by decide +kernel
theorem dX11_partyOf_39 : decode cX11_partyOf 39 = .ok (.aload_n 3, 1) := by decide +kernel
theorem dX11_partyOf_40 : decode cX11_partyOf 40 = .ok (.ifnonnull 7, 3) := by decide +kernel
theorem dX11_partyOf_43 : decode cX11_partyOf 43 = .ok (.iconst (-1), 1) := by decide +kernel
theorem dX11_partyOf_44 : decode cX11_partyOf 44 = .ok (.goto 10, 3) := by decide +kernel
theorem dX11_partyOf_47 : decode cX11_partyOf 47 = .ok (.bipush 8, 2) := by decide +kernel
theorem dX11_partyOf_49 : decode cX11_partyOf 49 = .ok (.aload_n 3, 1) := by decide +kernel
theorem dX11_partyOf_50 : decode cX11_partyOf 50 = .ok (.getfield 161, 3) := by decide +kernel
theorem dX11_partyOf_53 : decode cX11_partyOf 53 = .ok (.iadd, 1) := by decide +kernel
theorem dX11_partyOf_54 : decode cX11_partyOf 54 = .ok (.ireturn, 1) := by decide +kernel
theorem cm_X11_partyOf : CM yX11_partyOf cX11_partyOf 4 (some .int) 2 11 := ⟨w_1115, w_22, w_1116, w_87, ⟨by decide +kernel, by decide +kernel, by decide +kernel⟩, ⟨_, _, rfl⟩, by decide⟩
noncomputable def f_X11_partyOf_54 (n : Nat)  (s0 : Int) (h : MM) : RR :=
  some (s0, h)
noncomputable def f_X11_partyOf_38 (n : Nat)  (s0 : Int) (h : MM) : RR :=
  if s0 = 0 then
    f_X11_partyOf_54 n ((-1)) h
  else
  gf h s0 4 9 fun r2 =>
  f_X11_partyOf_54 n (wr (8 + r2)) h
noncomputable def f_X11_partyOf_16 (n : Nat)  (s0 : Int) (h : MM) : RR :=
  some (s0, h)
noncomputable def f_X11_partyOf (n : Nat) (v0 v1 v2 : Int) (h : MM) : RR :=
  if v1 = 0 then
    bd (f_X11_isHolder n v2 h) fun r6 h6 =>
    if r6 = 0 then
      f_X11_partyOf_16 n ((-1)) h6
    else
    f_X11_partyOf_16 n v2 h6
  else
  if v1 = 1 then
    gf h v0 11 0 fun r3 =>
    gf h r3 10 1 fun r4 =>
    gk h r4 5 <|
    bd (f_X5_find n r4 v2 1 h) fun r5 h5 =>
    f_X11_partyOf_38 n r5 h5
  else
  f_X11_partyOf_38 n 0 h
set_option maxRecDepth 20000 in
theorem b_X11_partyOf_54 {g : GT} {Z : Int × MM} {n : Nat} (C : Cx g cX11_partyOf 4 yX11_partyOf 3 67) (hr : Rt g (some .int) 0 Z) {s0 : Int}    (cs0 : in32 s0) {h : MM} (hf : f_X11_partyOf_54 n  s0 h = some Z) : G g 54 [(3, 0), (3, 0), (3, 0), (3, 0)] [(0, s0)] h := by
  unfold f_X11_partyOf_54 at hf
  cases hf
  exact r_jret C hr dX11_partyOf_54 cs0
set_option maxRecDepth 20000 in
theorem b_X11_partyOf_38 {g : GT} {Z : Int × MM} {n : Nat} (C : Cx g cX11_partyOf 4 yX11_partyOf 3 67) (hr : Rt g (some .int) 0 Z) {s0 : Int}     {h : MM} (hf : f_X11_partyOf_38 n  s0 h = some Z) : G g 38 [(3, 0), (3, 0), (3, 0), (3, 0)] [(2, s0)] h := by
  unfold f_X11_partyOf_38 at hf
  refine r_astore_n C dX11_partyOf_38 (Nat.le_of_ble_eq_true rfl) rfl ?_
  refine r_aload_n C dX11_partyOf_39 rfl ?_
  refine r_ifnonnull C dX11_partyOf_40 (tgt := 47) (by decide) (fun n1 => ?_) (fun n1 => ?_)
  · have hf := ite_n n1 hf
    refine r_bipush C dX11_partyOf_47 rfl ?_
    refine r_aload_n C dX11_partyOf_49 rfl ?_
    obtain ⟨q2, hf⟩ := gf_s hf
    refine r_gf C ct4 (j := 9) (ji := 9) dX11_partyOf_50 q2 rfl rfl (by decide) w_754 rfl (fun c2 => ?_)
    have c2 : in32 _ := c2
    refine r_iadd C dX11_partyOf_53 ?_
    exact G.mask [false, false, false, false] rfl rfl (b_X11_partyOf_54 C hr  (in32_t _) hf)
  · have hf := ite_p n1 hf
    refine r_iconst C dX11_partyOf_43 ?_
    refine r_goto C dX11_partyOf_44 (tgt := 54) (by decide) ?_
    exact G.mask [false, false, false, false] rfl rfl (b_X11_partyOf_54 C hr  (in32_of rfl) hf)
set_option maxRecDepth 20000 in
theorem b_X11_partyOf_16 {g : GT} {Z : Int × MM} {n : Nat} (C : Cx g cX11_partyOf 4 yX11_partyOf 3 67) (hr : Rt g (some .int) 0 Z) {s0 : Int}    (cs0 : in32 s0) {h : MM} (hf : f_X11_partyOf_16 n  s0 h = some Z) : G g 16 [(3, 0), (3, 0), (3, 0), (3, 0)] [(0, s0)] h := by
  unfold f_X11_partyOf_16 at hf
  cases hf
  exact r_jret C hr dX11_partyOf_16 cs0
set_option maxRecDepth 20000 in
theorem e_X11_partyOf {g : GT} {Z : Int × MM} {n : Nat} (C : Cx g cX11_partyOf 4 yX11_partyOf 3 67) (hr : Rt g (some .int) 0 Z) {v0 v1 v2 : Int} (cv0 : cK 2 v0) (cv1 : cK 0 v1) (cv2 : cK 0 v2) {h : MM} (hf : f_X11_partyOf n v0 v1 v2 h = some Z) : G g 0 [(2, v0), (0, v1), (0, v2), (3, 0)] [] h := by
  have cv1 : in32 v1 := cv1
  have cv2 : in32 v2 := cv2
  unfold f_X11_partyOf at hf
  refine r_iload_n C dX11_partyOf_0 rfl ?_
  refine r_if_ne C dX11_partyOf_1 (tgt := 17) (by decide) cv1 (fun n1 => ?_) (fun n1 => ?_)
  · have hf := ite_n n1 hf
    refine r_iload_n C dX11_partyOf_17 rfl ?_
    refine r_iconst C dX11_partyOf_18 ?_
    refine r_icmp_ne C dX11_partyOf_19 (tgt := 37) (by decide) cv1 (in32_of rfl) (fun n2 => ?_) (fun n2 => ?_)
    · have hf := ite_n n2 hf
      refine r_null C dX11_partyOf_37 ?_
      exact G.mask [false, false, false, false] rfl rfl (b_X11_partyOf_38 C hr   hf)
    · have hf := ite_p n2 hf
      refine r_aload_n C dX11_partyOf_22 rfl ?_
      obtain ⟨q3, hf⟩ := gf_s hf
      refine r_gf C ct11 (j := 0) (ji := 0) dX11_partyOf_23 q3 rfl rfl (by decide) w_440 rfl (fun c3 => ?_)
      obtain ⟨q4, hf⟩ := gf_s hf
      refine r_gf C ct10 (j := 1) (ji := 1) dX11_partyOf_26 q4 rfl rfl (by decide) w_302 rfl (fun c4 => ?_)
      refine r_iload_n C dX11_partyOf_29 rfl ?_
      refine r_iconst C dX11_partyOf_30 ?_
      obtain ⟨p5, hf⟩ := gk_s hf
      obtain ⟨r5, h5, hq5, hf⟩ := bd_s hf
      refine r_cV2 C (am_X5_find (gl g) n) cm_X5_find w_798 dX11_partyOf_31 ⟨Nat.le_of_ble_eq_true rfl, Nat.le_of_ble_eq_true rfl⟩ p5 rfl cv2 (in32_of rfl) rfl (Nat.le_of_ble_eq_true rfl) hq5 (by decide) (fun c5 => ?_)
      refine r_goto C dX11_partyOf_34 (tgt := 38) (by decide) ?_
      exact G.mask [false, false, false, false] rfl rfl (b_X11_partyOf_38 C hr   hf)
  · have hf := ite_p n1 hf
    refine r_iload_n C dX11_partyOf_4 rfl ?_
    obtain ⟨r6, h6, hq6, hf⟩ := bd_s hf
    refine r_cS1 C (am_X11_isHolder (gl g) n) cm_X11_isHolder w_485 dX11_partyOf_5 ⟨Nat.le_of_ble_eq_true rfl, Nat.le_of_ble_eq_true rfl⟩ cv2 rfl (Nat.le_of_ble_eq_true rfl) hq6 (by decide) (fun c6 => ?_)
    have c6 : in32 _ := c6
    refine r_if_eq C dX11_partyOf_8 (tgt := 15) (by decide) c6 (fun n7 => ?_) (fun n7 => ?_)
    · have hf := ite_p n7 hf
      refine r_iconst C dX11_partyOf_15 ?_
      exact G.mask [false, false, false, false] rfl rfl (b_X11_partyOf_16 C hr  (in32_of rfl) hf)
    · have hf := ite_n n7 hf
      refine r_iload_n C dX11_partyOf_11 rfl ?_
      refine r_goto C dX11_partyOf_12 (tgt := 16) (by decide) ?_
      exact G.mask [false, false, false, false] rfl rfl (b_X11_partyOf_16 C hr  cv2 hf)
set_option maxRecDepth 20000 in
theorem am_X11_partyOf (l : Launch) (n : Nat) : AM l yX11_partyOf cX11_partyOf 4 (some .int) 3 67 [2, 0, 0] 0 (un3 (f_X11_partyOf n)) := by
  refine AM.intro (by decide) (fun xs hx => ?_) (fun g xs h Z hl C hr hx hf => ?_)
  · obtain ⟨a0, a1, a2, rfl, c0, c1, c2⟩ := canL_3 hx
    exact Nat.le_of_ble_eq_true rfl
  · obtain ⟨a0, a1, a2, rfl, c0, c1, c2⟩ := canL_3 hx
    have hf := (un3_e _ a0 a1 a2 _).symm.trans hf
    exact e_X11_partyOf (n := n) C hr c0 c1 c2 hf
/-! LinesPromised.purse(II)I -/
theorem dX11_purse_0 : decode cX11_purse 0 = .ok (.aload_n 0, 1) := by decide +kernel
theorem dX11_purse_1 : decode cX11_purse 1 = .ok (.iload_n 1, 1) := by decide +kernel
theorem dX11_purse_2 : decode cX11_purse 2 = .ok (.iload_n 2, 1) := by decide +kernel
theorem dX11_purse_3 : decode cX11_purse 3 = .ok (.invokevirtual 327, 3) := by decide +kernel
theorem dX11_purse_6 : decode cX11_purse 6 = .ok (.istore_n 3, 1) := by decide +kernel
theorem dX11_purse_7 : decode cX11_purse 7 = .ok (.iload_n 3, 1) := by decide +kernel
theorem dX11_purse_8 : decode cX11_purse 8 = .ok (.iconst (-1), 1) := by decide +kernel
theorem dX11_purse_9 : decode cX11_purse 9 = .ok (.if_icmp .ne 7, 3) := by decide +kernel
theorem dX11_purse_12 : decode cX11_purse 12 = .ok (.iconst (-1), 1) := by decide +kernel
theorem dX11_purse_13 : decode cX11_purse 13 = .ok (.goto 15, 3) := by decide +kernel
theorem dX11_purse_16 : decode cX11_purse 16 = .ok (.aload_n 0, 1) := by decide +kernel
theorem dX11_purse_17 : decode cX11_purse 17 = .ok (.getfield 10, 3) := by decide +kernel
theorem dX11_purse_20 : decode cX11_purse 20 = .ok (.getfield 78, 3) := by decide +kernel
theorem dX11_purse_23 : decode cX11_purse 23 = .ok (.getfield 82, 3) := by decide +kernel
theorem dX11_purse_26 : decode cX11_purse 26 = .ok (.iload_n 3, 1) := by decide +kernel
theorem dX11_purse_27 : decode cX11_purse 27 = .ok (.iaload, 1) := by decide +kernel
theorem dX11_purse_28 : decode cX11_purse 28 = .ok (.ireturn, 1) := by decide +kernel
theorem cm_X11_purse : CM yX11_purse cX11_purse 4 (some .int) 2 11 := ⟨w_1110, w_1111, w_1112, w_87, ⟨by decide +kernel, by decide +kernel, by decide +kernel⟩, ⟨_, _, rfl⟩, by decide⟩
noncomputable def f_X11_purse_28 (n : Nat)  (s0 : Int) (h : MM) : RR :=
  some (s0, h)
noncomputable def f_X11_purse (n : Nat) (v0 v1 v2 : Int) (h : MM) : RR :=
  gk h v0 11 <|
  bd (f_X11_partyOf n v0 v1 v2 h) fun r1 h1 =>
  if r1 = (-1) then
    f_X11_purse_28 n ((-1)) h1
  else
  gf h1 v0 11 0 fun r3 =>
  gf h1 r3 10 2 fun r4 =>
  gf h1 r4 8 0 fun r5 =>
  rd h1 r5 100 r1 fun r6 =>
  f_X11_purse_28 n r6 h1
set_option maxRecDepth 20000 in
theorem b_X11_purse_28 {g : GT} {Z : Int × MM} {n : Nat} (C : Cx g cX11_purse 4 yX11_purse 4 90) (hr : Rt g (some .int) 0 Z) {s0 : Int}    (cs0 : in32 s0) {h : MM} (hf : f_X11_purse_28 n  s0 h = some Z) : G g 28 [(3, 0), (3, 0), (3, 0), (3, 0)] [(0, s0)] h := by
  unfold f_X11_purse_28 at hf
  cases hf
  exact r_jret C hr dX11_purse_28 cs0
set_option maxRecDepth 20000 in
theorem e_X11_purse {g : GT} {Z : Int × MM} {n : Nat} (C : Cx g cX11_purse 4 yX11_purse 4 90) (hr : Rt g (some .int) 0 Z) {v0 v1 v2 : Int} (cv0 : cK 2 v0) (cv1 : cK 0 v1) (cv2 : cK 0 v2) {h : MM} (hf : f_X11_purse n v0 v1 v2 h = some Z) : G g 0 [(2, v0), (0, v1), (0, v2), (3, 0)] [] h := by
  have cv1 : in32 v1 := cv1
  have cv2 : in32 v2 := cv2
  unfold f_X11_purse at hf
  refine r_aload_n C dX11_purse_0 rfl ?_
  refine r_iload_n C dX11_purse_1 rfl ?_
  refine r_iload_n C dX11_purse_2 rfl ?_
  obtain ⟨p1, hf⟩ := gk_s hf
  obtain ⟨r1, h1, hq1, hf⟩ := bd_s hf
  refine r_cV2 C (am_X11_partyOf (gl g) n) cm_X11_partyOf w_1113 dX11_purse_3 ⟨Nat.le_of_ble_eq_true rfl, Nat.le_of_ble_eq_true rfl⟩ p1 rfl cv1 cv2 rfl (Nat.le_of_ble_eq_true rfl) hq1 (by decide) (fun c1 => ?_)
  have c1 : in32 _ := c1
  refine r_istore_n C dX11_purse_6 (Nat.le_of_ble_eq_true rfl) rfl ?_
  refine r_iload_n C dX11_purse_7 rfl ?_
  refine r_iconst C dX11_purse_8 ?_
  refine r_icmp_ne C dX11_purse_9 (tgt := 16) (by decide) c1 (in32_of rfl) (fun n2 => ?_) (fun n2 => ?_)
  · have hf := ite_n n2 hf
    refine r_aload_n C dX11_purse_16 rfl ?_
    obtain ⟨q3, hf⟩ := gf_s hf
    refine r_gf C ct11 (j := 0) (ji := 0) dX11_purse_17 q3 rfl rfl (by decide) w_440 rfl (fun c3 => ?_)
    obtain ⟨q4, hf⟩ := gf_s hf
    refine r_gf C ct10 (j := 2) (ji := 2) dX11_purse_20 q4 rfl rfl (by decide) w_304 rfl (fun c4 => ?_)
    obtain ⟨q5, hf⟩ := gf_s hf
    refine r_gf C ct8 (j := 0) (ji := 0) dX11_purse_23 q5 rfl rfl (by decide) w_215 rfl (fun c5 => ?_)
    refine r_iload_n C dX11_purse_26 rfl ?_
    obtain ⟨q6, hf⟩ := rd_s hf
    refine r_iald C dX11_purse_27 q6 rfl (fun c6 => ?_)
    exact G.mask [false, false, false, false] rfl rfl (b_X11_purse_28 C hr  c6 hf)
  · have hf := ite_p n2 hf
    refine r_iconst C dX11_purse_12 ?_
    refine r_goto C dX11_purse_13 (tgt := 28) (by decide) ?_
    exact G.mask [false, false, false, false] rfl rfl (b_X11_purse_28 C hr  (in32_of rfl) hf)
set_option maxRecDepth 20000 in
theorem am_X11_purse (l : Launch) (n : Nat) : AM l yX11_purse cX11_purse 4 (some .int) 4 90 [2, 0, 0] 0 (un3 (f_X11_purse n)) := by
  refine AM.intro (by decide) (fun xs hx => ?_) (fun g xs h Z hl C hr hx hf => ?_)
  · obtain ⟨a0, a1, a2, rfl, c0, c1, c2⟩ := canL_3 hx
    exact Nat.le_of_ble_eq_true rfl
  · obtain ⟨a0, a1, a2, rfl, c0, c1, c2⟩ := canL_3 hx
    have hf := (un3_e _ a0 a1 a2 _).symm.trans hf
    exact e_X11_purse (n := n) C hr c0 c1 c2 hf
/-! LinesPromised$Scrip.stand(IIIIZ)I -/
theorem dX8_stand_0 : decode cX8_stand 0 = .ok (.aload_n 0, 1) := by decide +kernel
theorem dX8_stand_1 : decode cX8_stand 1 = .ok (.getfield 21, 3) := by decide +kernel
theorem dX8_stand_4 : decode cX8_stand 4 = .ok (.aload_n 0, 1) := by decide +kernel
theorem dX8_stand_5 : decode cX8_stand 5 = .ok (.getfield 42, 3) := by decide +kernel
theorem dX8_stand_8 : decode cX8_stand 8 = .ok (.iload_n 1, 1) := by decide +kernel
theorem dX8_stand_9 : decode cX8_stand 9 = .ok (.iastore, 1) := by decide +kernel
theorem dX8_stand_10 : decode cX8_stand 10 = .ok (.aload_n 0, 1) := by decide +kernel
theorem dX8_stand_11 : decode cX8_stand 11 = .ok (.getfield 24, 3) := by decide +kernel
theorem dX8_stand_14 : decode cX8_stand 14 = .ok (.aload_n 0, 1) := by decide +kernel
theorem dX8_stand_15 : decode cX8_stand 15 = .ok (.getfield 42, 3) := by decide +kernel
theorem dX8_stand_18 : decode cX8_stand 18 = .ok (.iload_n 2, 1) := by decide +kernel
theorem dX8_stand_19 : decode cX8_stand 19 = .ok (.iastore, 1) := by decide +kernel
theorem dX8_stand_20 : decode cX8_stand 20 = .ok (.aload_n 0, 1) := by decide +kernel
theorem dX8_stand_21 : decode cX8_stand 21 = .ok (.getfield 27, 3) := by decide +kernel
theorem dX8_stand_24 : decode cX8_stand 24 = .ok (.aload_n 0, 1) := by decide +kernel
theorem dX8_stand_25 : decode cX8_stand 25 = .ok (.getfield 42, 3) := by decide +kernel
theorem dX8_stand_28 : decode cX8_stand 28 = .ok (.iload_n 3, 1) := by decide +kernel
theorem dX8_stand_29 : decode cX8_stand 29 = .ok (.iastore, 1) := by decide +kernel
theorem dX8_stand_30 : decode cX8_stand 30 = .ok (.aload_n 0, 1) := by decide +kernel
theorem dX8_stand_31 : decode cX8_stand 31 = .ok (.getfield 30, 3) := by decide +kernel
theorem dX8_stand_34 : decode cX8_stand 34 = .ok (.aload_n 0, 1) := by decide +kernel
theorem dX8_stand_35 : decode cX8_stand 35 = .ok (.getfield 42, 3) := by decide +kernel
theorem dX8_stand_38 : decode cX8_stand 38 = .ok (.iload 4, 2) := by decide +kernel
theorem dX8_stand_40 : decode cX8_stand 40 = .ok (.iastore, 1) := by decide +kernel
theorem dX8_stand_41 : decode cX8_stand 41 = .ok (.aload_n 0, 1) := by decide +kernel
theorem dX8_stand_42 : decode cX8_stand 42 = .ok (.getfield 33, 3) := by decide +kernel
theorem dX8_stand_45 : decode cX8_stand 45 = .ok (.aload_n 0, 1) := by decide +kernel
theorem dX8_stand_46 : decode cX8_stand 46 = .ok (.getfield 42, 3) := by decide +kernel
theorem dX8_stand_49 : decode cX8_stand 49 = .ok (.iload 5, 2) := by decide +kernel
theorem dX8_stand_51 : decode cX8_stand 51 = .ok (.ifCond .eq 7, 3) := by decide +kernel
theorem dX8_stand_54 : decode cX8_stand 54 = .ok (.iconst 1, 1) := by decide +kernel
theorem dX8_stand_55 : decode cX8_stand 55 = .ok (.goto 4, 3) := by decide +kernel
theorem dX8_stand_58 : decode cX8_stand 58 = .ok (.iconst 0, 1) := by decide +kernel
theorem dX8_stand_59 : decode cX8_stand 59 = .ok (.iastore, 1) := by decide +kernel
theorem dX8_stand_60 : decode cX8_stand 60 = .ok (.aload_n 0, 1) := by decide +kernel
theorem dX8_stand_61 : decode cX8_stand 61 = .ok (.dup, 1) := by decide +kernel
theorem dX8_stand_62 : decode cX8_stand 62 = .ok (.getfield 42, 3) := by decide +kernel
theorem dX8_stand_65 : decode cX8_stand 65 = .ok (.iconst 1, 1) := by decide +kernel
theorem dX8_stand_66 : decode cX8_stand 66 = .ok (.iadd, 1) := by decide +kernel
theorem dX8_stand_67 : decode cX8_stand 67 = .ok (.putfield 42, 3) := by decide +kernel
theorem dX8_stand_70 : decode cX8_stand 70 = .ok (.aload_n 0, 1) := by decide +kernel
theorem dX8_stand_71 : decode cX8_stand 71 = .ok (.getfield 42, 3) := by decide +kernel
theorem dX8_stand_74 : decode cX8_stand 74 = .ok (.ireturn, 1) := by decide +kernel
theorem cm_X8_stand : CM yX8_stand cX8_stand 6 (some .int) 5 8 := ⟨w_1122, w_1123, w_1124, w_91, ⟨by decide +kernel, by decide +kernel, by decide +kernel⟩, ⟨_, _, rfl⟩, by decide⟩
noncomputable def f_X8_stand_59 (n : Nat)  (v0 s0 s1 s2 : Int) (h : MM) : RR :=
  wt h s0 100 s1 s2 fun h1 =>
  gf h1 v0 8 8 fun r2 =>
  pf h1 v0 8 8 (wr (r2 + 1)) fun h3 =>
  gf h3 v0 8 8 fun r4 =>
  some (r4, h3)
noncomputable def f_X8_stand (n : Nat) (v0 v1 v2 v3 v4 v5 : Int) (h : MM) : RR :=
  gf h v0 8 3 fun r1 =>
  gf h v0 8 8 fun r2 =>
  wt h r1 100 r2 v1 fun h3 =>
  gf h3 v0 8 4 fun r4 =>
  gf h3 v0 8 8 fun r5 =>
  wt h3 r4 100 r5 v2 fun h6 =>
  gf h6 v0 8 5 fun r7 =>
  gf h6 v0 8 8 fun r8 =>
  wt h6 r7 100 r8 v3 fun h9 =>
  gf h9 v0 8 6 fun r10 =>
  gf h9 v0 8 8 fun r11 =>
  wt h9 r10 100 r11 v4 fun h12 =>
  gf h12 v0 8 7 fun r13 =>
  gf h12 v0 8 8 fun r14 =>
  if v5 = 0 then
    f_X8_stand_59 n v0 r13 r14 0 h12
  else
  f_X8_stand_59 n v0 r13 r14 1 h12
set_option maxRecDepth 20000 in
theorem b_X8_stand_59 {g : GT} {Z : Int × MM} {n : Nat} (C : Cx g cX8_stand 6 yX8_stand 0 0) (hr : Rt g (some .int) 0 Z) {v0 s0 s1 s2 : Int}    (cs1 : in32 s1) (cs2 : in32 s2) {h : MM} (hf : f_X8_stand_59 n  v0 s0 s1 s2 h = some Z) : G g 59 [(2, v0), (3, 0), (3, 0), (3, 0), (3, 0), (3, 0)] [(0, s2), (0, s1), (2, s0)] h := by
  unfold f_X8_stand_59 at hf
  obtain ⟨q1, hf⟩ := wt_s hf
  refine r_iast C dX8_stand_59 q1 rfl cs2 ?_
  refine r_aload_n C dX8_stand_60 rfl ?_
  refine r_dup C dX8_stand_61 (by decide) ?_
  obtain ⟨q2, hf⟩ := gf_s hf
  refine r_gf C ct8 (j := 8) (ji := 8) dX8_stand_62 q2 rfl rfl (by decide) w_226 rfl (fun c2 => ?_)
  have c2 : in32 _ := c2
  refine r_iconst C dX8_stand_65 ?_
  refine r_iadd C dX8_stand_66 ?_
  obtain ⟨q3, hf⟩ := pf_s hf
  refine r_pf C ct8 (j := 8) (ji := 8) dX8_stand_67 q3 rfl rfl (by decide) w_226 rfl (Or.inl rfl) nar_int (in32_t _) ?_
  refine r_aload_n C dX8_stand_70 rfl ?_
  obtain ⟨q4, hf⟩ := gf_s hf
  refine r_gf C ct8 (j := 8) (ji := 8) dX8_stand_71 q4 rfl rfl (by decide) w_226 rfl (fun c4 => ?_)
  have c4 : in32 _ := c4
  cases hf
  exact r_jret C hr dX8_stand_74 c4
set_option maxRecDepth 20000 in
theorem e_X8_stand {g : GT} {Z : Int × MM} {n : Nat} (C : Cx g cX8_stand 6 yX8_stand 0 0) (hr : Rt g (some .int) 0 Z) {v0 v1 v2 v3 v4 v5 : Int} (cv0 : cK 2 v0) (cv1 : cK 0 v1) (cv2 : cK 0 v2) (cv3 : cK 0 v3) (cv4 : cK 0 v4) (cv5 : cK 0 v5) {h : MM} (hf : f_X8_stand n v0 v1 v2 v3 v4 v5 h = some Z) : G g 0 [(2, v0), (0, v1), (0, v2), (0, v3), (0, v4), (0, v5)] [] h := by
  have cv1 : in32 v1 := cv1
  have cv2 : in32 v2 := cv2
  have cv3 : in32 v3 := cv3
  have cv4 : in32 v4 := cv4
  have cv5 : in32 v5 := cv5
  unfold f_X8_stand at hf
  refine r_aload_n C dX8_stand_0 rfl ?_
  obtain ⟨q1, hf⟩ := gf_s hf
  refine r_gf C ct8 (j := 3) (ji := 3) dX8_stand_1 q1 rfl rfl (by decide) w_221 rfl (fun c1 => ?_)
  refine r_aload_n C dX8_stand_4 rfl ?_
  obtain ⟨q2, hf⟩ := gf_s hf
  refine r_gf C ct8 (j := 8) (ji := 8) dX8_stand_5 q2 rfl rfl (by decide) w_226 rfl (fun c2 => ?_)
  have c2 : in32 _ := c2
  refine r_iload_n C dX8_stand_8 rfl ?_
  obtain ⟨q3, hf⟩ := wt_s hf
  refine r_iast C dX8_stand_9 q3 rfl cv1 ?_
  refine r_aload_n C dX8_stand_10 rfl ?_
  obtain ⟨q4, hf⟩ := gf_s hf
  refine r_gf C ct8 (j := 4) (ji := 4) dX8_stand_11 q4 rfl rfl (by decide) w_222 rfl (fun c4 => ?_)
  refine r_aload_n C dX8_stand_14 rfl ?_
  obtain ⟨q5, hf⟩ := gf_s hf
  refine r_gf C ct8 (j := 8) (ji := 8) dX8_stand_15 q5 rfl rfl (by decide) w_226 rfl (fun c5 => ?_)
  have c5 : in32 _ := c5
  refine r_iload_n C dX8_stand_18 rfl ?_
  obtain ⟨q6, hf⟩ := wt_s hf
  refine r_iast C dX8_stand_19 q6 rfl cv2 ?_
  refine r_aload_n C dX8_stand_20 rfl ?_
  obtain ⟨q7, hf⟩ := gf_s hf
  refine r_gf C ct8 (j := 5) (ji := 5) dX8_stand_21 q7 rfl rfl (by decide) w_223 rfl (fun c7 => ?_)
  refine r_aload_n C dX8_stand_24 rfl ?_
  obtain ⟨q8, hf⟩ := gf_s hf
  refine r_gf C ct8 (j := 8) (ji := 8) dX8_stand_25 q8 rfl rfl (by decide) w_226 rfl (fun c8 => ?_)
  have c8 : in32 _ := c8
  refine r_iload_n C dX8_stand_28 rfl ?_
  obtain ⟨q9, hf⟩ := wt_s hf
  refine r_iast C dX8_stand_29 q9 rfl cv3 ?_
  refine r_aload_n C dX8_stand_30 rfl ?_
  obtain ⟨q10, hf⟩ := gf_s hf
  refine r_gf C ct8 (j := 6) (ji := 6) dX8_stand_31 q10 rfl rfl (by decide) w_224 rfl (fun c10 => ?_)
  refine r_aload_n C dX8_stand_34 rfl ?_
  obtain ⟨q11, hf⟩ := gf_s hf
  refine r_gf C ct8 (j := 8) (ji := 8) dX8_stand_35 q11 rfl rfl (by decide) w_226 rfl (fun c11 => ?_)
  have c11 : in32 _ := c11
  refine r_iload C dX8_stand_38 rfl ?_
  obtain ⟨q12, hf⟩ := wt_s hf
  refine r_iast C dX8_stand_40 q12 rfl cv4 ?_
  refine r_aload_n C dX8_stand_41 rfl ?_
  obtain ⟨q13, hf⟩ := gf_s hf
  refine r_gf C ct8 (j := 7) (ji := 7) dX8_stand_42 q13 rfl rfl (by decide) w_225 rfl (fun c13 => ?_)
  refine r_aload_n C dX8_stand_45 rfl ?_
  obtain ⟨q14, hf⟩ := gf_s hf
  refine r_gf C ct8 (j := 8) (ji := 8) dX8_stand_46 q14 rfl rfl (by decide) w_226 rfl (fun c14 => ?_)
  have c14 : in32 _ := c14
  refine r_iload C dX8_stand_49 rfl ?_
  refine r_if_eq C dX8_stand_51 (tgt := 58) (by decide) cv5 (fun n15 => ?_) (fun n15 => ?_)
  · have hf := ite_p n15 hf
    refine r_iconst C dX8_stand_58 ?_
    exact G.mask [true, false, false, false, false, false] rfl rfl (b_X8_stand_59 C hr  c14 (in32_of rfl) hf)
  · have hf := ite_n n15 hf
    refine r_iconst C dX8_stand_54 ?_
    refine r_goto C dX8_stand_55 (tgt := 59) (by decide) ?_
    exact G.mask [true, false, false, false, false, false] rfl rfl (b_X8_stand_59 C hr  c14 (in32_of rfl) hf)
set_option maxRecDepth 20000 in
theorem am_X8_stand (l : Launch) (n : Nat) : AM l yX8_stand cX8_stand 6 (some .int) 0 0 [2, 0, 0, 0, 0, 0] 0 (un6 (f_X8_stand n)) := by
  refine AM.intro (by decide) (fun xs hx => ?_) (fun g xs h Z hl C hr hx hf => ?_)
  · obtain ⟨a0, a1, a2, a3, a4, a5, rfl, c0, c1, c2, c3, c4, c5⟩ := canL_6 hx
    exact Nat.le_of_ble_eq_true rfl
  · obtain ⟨a0, a1, a2, a3, a4, a5, rfl, c0, c1, c2, c3, c4, c5⟩ := canL_6 hx
    have hf := (un6_e _ a0 a1 a2 a3 a4 a5 _).symm.trans hf
    exact e_X8_stand (n := n) C hr c0 c1 c2 c3 c4 c5 hf
/-! LinesPromised.ask(IIIIZ)I -/
theorem dX11_ask_0 : decode cX11_ask 0 = .ok (.aload_n 0, 1) := by decide +kernel
theorem dX11_ask_1 : decode cX11_ask 1 = .ok (.getfield 10, 3) := by decide +kernel
theorem dX11_ask_4 : decode cX11_ask 4 = .ok (.getfield 133, 3) := by decide +kernel
theorem dX11_ask_7 : decode cX11_ask 7 = .ok (.iload_n 1, 1) := by decide +kernel
theorem dX11_ask_8 : decode cX11_ask 8 = .ok (.iconst 1, 1) := by decide +kernel
theorem dX11_ask_9 : decode cX11_ask 9 = .ok (.invokevirtual 172, 3) := by decide +kernel
theorem dX11_ask_12 : decode cX11_ask 12 = .ok (.astore 6, 2) := by decide +kernel
theorem dX11_ask_14 : decode cX11_ask 14 = .ok (.aload 6, 2) := by decide +kernel
theorem dX11_ask_16 : decode cX11_ask 16 = .ok (.ifnull 10, 3) := by decide +kernel
theorem dX11_ask_19 : decode cX11_ask 19 = .ok (.iload_n 2, 1) := by decide +kernel
theorem dX11_ask_20 : decode cX11_ask 20 = .ok (.invokestatic 74, 3) := by decide +kernel
theorem dX11_ask_23 : decode cX11_ask 23 = .ok (.ifCond .ne 5, 3) := by decide +kernel
theorem dX11_ask_26 : decode cX11_ask 26 = .ok (.iconst (-1), 1) := by decide +kernel
theorem dX11_ask_27 : decode cX11_ask 27 = .ok (.ireturn, 1) := by decide +kernel
theorem dX11_ask_28 : decode cX11_ask 28 = .ok (.iload_n 3, 1) := by decide +kernel
theorem dX11_ask_29 : decode cX11_ask 29 = .ok (.i2l, 1) := by decide +kernel
theorem dX11_ask_30 : decode cX11_ask 30 = .ok (.iconst 1, 1) := by decide +kernel
theorem dX11_ask_31 : decode cX11_ask 31 = .ok (.bipush 99, 2) := by decide +kernel
theorem dX11_ask_33 : decode cX11_ask 33 = .ok (.invokestatic 46, 3) := by decide +kernel
theorem dX11_ask_36 : decode cX11_ask 36 = .ok (.ifCond .eq 16, 3) := by decide +kernel
theorem dX11_ask_39 : decode cX11_ask 39 = .ok (.iload 4, 2) := by decide +kernel
theorem dX11_ask_41 : decode cX11_ask 41 = .ok (.i2l, 1) := by decide +kernel
theorem dX11_ask_42 : decode cX11_ask 42 = .ok (.iconst 1, 1) := by decide +kernel
theorem dX11_ask_43 : decode cX11_ask 43 = .ok (.sipush 999, 3) := by decide +kernel
theorem dX11_ask_46 : decode cX11_ask 46 = .ok (.invokestatic 46, 3) := by decide +kernel
theorem dX11_ask_49 : decode cX11_ask 49 = .ok (.ifCond .ne 6, 3) := by decide +kernel
theorem dX11_ask_52 : decode cX11_ask 52 = .ok (.bipush (-2), 2) := by decide +kernel
theorem dX11_ask_54 : decode cX11_ask 54 = .ok (.ireturn, 1) := by decide +kernel
theorem dX11_ask_55 : decode cX11_ask 55 = .ok (.aload_n 0, 1) := by decide +kernel
theorem dX11_ask_56 : decode cX11_ask 56 = .ok (.getfield 10, 3) := by decide +kernel
theorem dX11_ask_59 : decode cX11_ask 59 = .ok (.getfield 78, 3) := by decide +kernel
theorem dX11_ask_62 : decode cX11_ask 62 = .ok (.getfield 330, 3) := by decide +kernel
theorem dX11_ask_65 : decode cX11_ask 65 = .ok (.bipush 40, 2) := by decide +kernel
theorem dX11_ask_67 : decode cX11_ask 67 = .ok (.if_icmp .lt 6, 3) := by decide +kernel
theorem dX11_ask_70 : decode cX11_ask 70 = .ok (.bipush (-4), 2) := by decide +kernel
theorem dX11_ask_72 : decode cX11_ask 72 = .ok (.ireturn, 1) := by decide +kernel
theorem dX11_ask_73 : decode cX11_ask 73 = .ok (.aload_n 0, 1) := by decide +kernel
theorem dX11_ask_74 : decode cX11_ask 74 = .ok (.getfield 10, 3) := by decide +kernel
theorem dX11_ask_77 : decode cX11_ask 77 = .ok (.getfield 78, 3) := by decide +kernel
theorem dX11_ask_80 : decode cX11_ask 80 = .ok (.aload 6, 2) := by decide +kernel
theorem dX11_ask_82 : decode cX11_ask 82 = .ok (.getfield 161, 3) := by decide +kernel
theorem dX11_ask_85 : decode cX11_ask 85 = .ok (.iload_n 2, 1) := by decide +kernel
theorem dX11_ask_86 : decode cX11_ask 86 = .ok (.iload_n 3, 1) := by decide +kernel
theorem dX11_ask_87 : decode cX11_ask 87 = .ok (.iload 4, 2) := by decide +kernel
theorem dX11_ask_89 : decode cX11_ask 89 = .ok (.iload 5, 2) := by decide +kernel
theorem dX11_ask_91 : decode cX11_ask 91 = .ok (.invokevirtual 333, 3) := by decide +kernel
theorem dX11_ask_94 : decode cX11_ask 94 = .ok (.ireturn, 1) := by decide +kernel
theorem cm_X11_ask : CM yX11_ask cX11_ask 7 (some .int) 5 11 := ⟨w_1118, w_1119, w_1120, w_87, ⟨by decide +kernel, by decide +kernel, by decide +kernel⟩, ⟨_, _, rfl⟩, by decide⟩
noncomputable def f_X11_ask_26 (n : Nat)  (h : MM) : RR :=
  some ((-1), h)
noncomputable def f_X11_ask_52 (n : Nat)  (h : MM) : RR :=
  some ((-2), h)
noncomputable def f_X11_ask (n : Nat) (v0 v1 v2 v3 v4 v5 : Int) (h : MM) : RR :=
  gf h v0 11 0 fun r1 =>
  gf h r1 10 1 fun r2 =>
  gk h r2 5 <|
  bd (f_X5_find n r2 v1 1 h) fun r3 h3 =>
  if r3 = 0 then
    f_X11_ask_26 n h3
  else
  bd (f_X11_isHolder n v2 h3) fun r5 h5 =>
  if r5 = 0 then
    f_X11_ask_26 n h5
  else
  bd (f_X11_within n v3 1 99 h5) fun r7 h7 =>
  if r7 = 0 then
    f_X11_ask_52 n h7
  else
  bd (f_X11_within n v4 1 999 h7) fun r9 h9 =>
  if r9 = 0 then
    f_X11_ask_52 n h9
  else
  gf h9 v0 11 0 fun r11 =>
  gf h9 r11 10 2 fun r12 =>
  gf h9 r12 8 8 fun r13 =>
  if r13 < 40 then
    gf h9 v0 11 0 fun r15 =>
    gf h9 r15 10 2 fun r16 =>
    gf h9 r3 4 9 fun r17 =>
    gk h9 r16 8 <|
    bd (f_X8_stand n r16 r17 v2 v3 v4 v5 h9) fun r18 h18 =>
    some (r18, h18)
  else
  some ((-4), h9)
set_option maxRecDepth 20000 in
theorem b_X11_ask_26 {g : GT} {Z : Int × MM} {n : Nat} (C : Cx g cX11_ask 7 yX11_ask 3 67) (hr : Rt g (some .int) 0 Z)     {h : MM} (hf : f_X11_ask_26 n   h = some Z) : G g 26 [(3, 0), (3, 0), (3, 0), (3, 0), (3, 0), (3, 0), (3, 0)] [] h := by
  unfold f_X11_ask_26 at hf
  refine r_iconst C dX11_ask_26 ?_
  cases hf
  exact r_jret C hr dX11_ask_27 (in32_of rfl)
set_option maxRecDepth 20000 in
theorem b_X11_ask_52 {g : GT} {Z : Int × MM} {n : Nat} (C : Cx g cX11_ask 7 yX11_ask 3 67) (hr : Rt g (some .int) 0 Z)     {h : MM} (hf : f_X11_ask_52 n   h = some Z) : G g 52 [(3, 0), (3, 0), (3, 0), (3, 0), (3, 0), (3, 0), (3, 0)] [] h := by
  unfold f_X11_ask_52 at hf
  refine r_bipush C dX11_ask_52 rfl ?_
  cases hf
  exact r_jret C hr dX11_ask_54 (in32_of rfl)
set_option maxRecDepth 20000 in
theorem e_X11_ask {g : GT} {Z : Int × MM} {n : Nat} (C : Cx g cX11_ask 7 yX11_ask 3 67) (hr : Rt g (some .int) 0 Z) {v0 v1 v2 v3 v4 v5 : Int} (cv0 : cK 2 v0) (cv1 : cK 0 v1) (cv2 : cK 0 v2) (cv3 : cK 0 v3) (cv4 : cK 0 v4) (cv5 : cK 0 v5) {h : MM} (hf : f_X11_ask n v0 v1 v2 v3 v4 v5 h = some Z) : G g 0 [(2, v0), (0, v1), (0, v2), (0, v3), (0, v4), (0, v5), (3, 0)] [] h := by
  have cv1 : in32 v1 := cv1
  have cv2 : in32 v2 := cv2
  have cv3 : in32 v3 := cv3
  have cv4 : in32 v4 := cv4
  have cv5 : in32 v5 := cv5
  unfold f_X11_ask at hf
  refine r_aload_n C dX11_ask_0 rfl ?_
  obtain ⟨q1, hf⟩ := gf_s hf
  refine r_gf C ct11 (j := 0) (ji := 0) dX11_ask_1 q1 rfl rfl (by decide) w_440 rfl (fun c1 => ?_)
  obtain ⟨q2, hf⟩ := gf_s hf
  refine r_gf C ct10 (j := 1) (ji := 1) dX11_ask_4 q2 rfl rfl (by decide) w_302 rfl (fun c2 => ?_)
  refine r_iload_n C dX11_ask_7 rfl ?_
  refine r_iconst C dX11_ask_8 ?_
  obtain ⟨p3, hf⟩ := gk_s hf
  obtain ⟨r3, h3, hq3, hf⟩ := bd_s hf
  refine r_cV2 C (am_X5_find (gl g) n) cm_X5_find w_798 dX11_ask_9 ⟨Nat.le_of_ble_eq_true rfl, Nat.le_of_ble_eq_true rfl⟩ p3 rfl cv1 (in32_of rfl) rfl (Nat.le_of_ble_eq_true rfl) hq3 (by decide) (fun c3 => ?_)
  refine r_astore C dX11_ask_12 (Nat.le_of_ble_eq_true rfl) rfl ?_
  refine r_aload C dX11_ask_14 rfl ?_
  refine r_ifnull C dX11_ask_16 (tgt := 26) (by decide) (fun n4 => ?_) (fun n4 => ?_)
  · have hf := ite_p n4 hf
    exact G.mask [false, false, false, false, false, false, false] rfl rfl (b_X11_ask_26 C hr   hf)
  · have hf := ite_n n4 hf
    refine r_iload_n C dX11_ask_19 rfl ?_
    obtain ⟨r5, h5, hq5, hf⟩ := bd_s hf
    refine r_cS1 C (am_X11_isHolder (gl g) n) cm_X11_isHolder w_485 dX11_ask_20 ⟨Nat.le_of_ble_eq_true rfl, Nat.le_of_ble_eq_true rfl⟩ cv2 rfl (Nat.le_of_ble_eq_true rfl) hq5 (by decide) (fun c5 => ?_)
    have c5 : in32 _ := c5
    refine r_if_ne C dX11_ask_23 (tgt := 28) (by decide) c5 (fun n6 => ?_) (fun n6 => ?_)
    · have hf := ite_n n6 hf
      refine r_iload_n C dX11_ask_28 rfl ?_
      refine r_i2l C dX11_ask_29 cv3 ?_
      refine r_iconst C dX11_ask_30 ?_
      refine r_bipush C dX11_ask_31 rfl ?_
      obtain ⟨r7, h7, hq7, hf⟩ := bd_s hf
      refine r_cS3 C (am_X11_within (gl g) n) cm_X11_within w_466 dX11_ask_33 ⟨Nat.le_of_ble_eq_true rfl, Nat.le_of_ble_eq_true rfl⟩ (in64_i cv3) (in32_of rfl) (in32_of rfl) rfl (Nat.le_of_ble_eq_true rfl) hq7 (by decide) (fun c7 => ?_)
      have c7 : in32 _ := c7
      refine r_if_eq C dX11_ask_36 (tgt := 52) (by decide) c7 (fun n8 => ?_) (fun n8 => ?_)
      · have hf := ite_p n8 hf
        exact G.mask [false, false, false, false, false, false, false] rfl rfl (b_X11_ask_52 C hr   hf)
      · have hf := ite_n n8 hf
        refine r_iload C dX11_ask_39 rfl ?_
        refine r_i2l C dX11_ask_41 cv4 ?_
        refine r_iconst C dX11_ask_42 ?_
        refine r_sipush C dX11_ask_43 rfl ?_
        obtain ⟨r9, h9, hq9, hf⟩ := bd_s hf
        refine r_cS3 C (am_X11_within (gl g) n) cm_X11_within w_466 dX11_ask_46 ⟨Nat.le_of_ble_eq_true rfl, Nat.le_of_ble_eq_true rfl⟩ (in64_i cv4) (in32_of rfl) (in32_of rfl) rfl (Nat.le_of_ble_eq_true rfl) hq9 (by decide) (fun c9 => ?_)
        have c9 : in32 _ := c9
        refine r_if_ne C dX11_ask_49 (tgt := 55) (by decide) c9 (fun n10 => ?_) (fun n10 => ?_)
        · have hf := ite_n n10 hf
          refine r_aload_n C dX11_ask_55 rfl ?_
          obtain ⟨q11, hf⟩ := gf_s hf
          refine r_gf C ct11 (j := 0) (ji := 0) dX11_ask_56 q11 rfl rfl (by decide) w_440 rfl (fun c11 => ?_)
          obtain ⟨q12, hf⟩ := gf_s hf
          refine r_gf C ct10 (j := 2) (ji := 2) dX11_ask_59 q12 rfl rfl (by decide) w_304 rfl (fun c12 => ?_)
          obtain ⟨q13, hf⟩ := gf_s hf
          refine r_gf C ct8 (j := 8) (ji := 8) dX11_ask_62 q13 rfl rfl (by decide) w_227 rfl (fun c13 => ?_)
          have c13 : in32 _ := c13
          refine r_bipush C dX11_ask_65 rfl ?_
          refine r_icmp_lt C dX11_ask_67 (tgt := 73) (by decide) c13 (in32_of rfl) (fun n14 => ?_) (fun n14 => ?_)
          · have hf := ite_p n14 hf
            refine r_aload_n C dX11_ask_73 rfl ?_
            obtain ⟨q15, hf⟩ := gf_s hf
            refine r_gf C ct11 (j := 0) (ji := 0) dX11_ask_74 q15 rfl rfl (by decide) w_440 rfl (fun c15 => ?_)
            obtain ⟨q16, hf⟩ := gf_s hf
            refine r_gf C ct10 (j := 2) (ji := 2) dX11_ask_77 q16 rfl rfl (by decide) w_304 rfl (fun c16 => ?_)
            refine r_aload C dX11_ask_80 rfl ?_
            obtain ⟨q17, hf⟩ := gf_s hf
            refine r_gf C ct4 (j := 9) (ji := 9) dX11_ask_82 q17 rfl rfl (by decide) w_754 rfl (fun c17 => ?_)
            have c17 : in32 _ := c17
            refine r_iload_n C dX11_ask_85 rfl ?_
            refine r_iload_n C dX11_ask_86 rfl ?_
            refine r_iload C dX11_ask_87 rfl ?_
            refine r_iload C dX11_ask_89 rfl ?_
            obtain ⟨p18, hf⟩ := gk_s hf
            obtain ⟨r18, h18, hq18, hf⟩ := bd_s hf
            refine r_cV5 C (am_X8_stand (gl g) n) cm_X8_stand w_1121 dX11_ask_91 ⟨Nat.le_of_ble_eq_true rfl, Nat.le_of_ble_eq_true rfl⟩ p18 rfl c17 cv2 cv3 cv4 cv5 rfl (Nat.le_of_ble_eq_true rfl) hq18 (by decide) (fun c18 => ?_)
            have c18 : in32 _ := c18
            cases hf
            exact r_jret C hr dX11_ask_94 c18
          · have hf := ite_n n14 hf
            refine r_bipush C dX11_ask_70 rfl ?_
            cases hf
            exact r_jret C hr dX11_ask_72 (in32_of rfl)
        · have hf := ite_p n10 hf
          exact G.mask [false, false, false, false, false, false, false] rfl rfl (b_X11_ask_52 C hr   hf)
    · have hf := ite_p n6 hf
      exact G.mask [false, false, false, false, false, false, false] rfl rfl (b_X11_ask_26 C hr   hf)
set_option maxRecDepth 20000 in
theorem am_X11_ask (l : Launch) (n : Nat) : AM l yX11_ask cX11_ask 7 (some .int) 3 67 [2, 0, 0, 0, 0, 0] 0 (un6 (f_X11_ask n)) := by
  refine AM.intro (by decide) (fun xs hx => ?_) (fun g xs h Z hl C hr hx hf => ?_)
  · obtain ⟨a0, a1, a2, a3, a4, a5, rfl, c0, c1, c2, c3, c4, c5⟩ := canL_6 hx
    exact Nat.le_of_ble_eq_true rfl
  · obtain ⟨a0, a1, a2, a3, a4, a5, rfl, c0, c1, c2, c3, c4, c5⟩ := canL_6 hx
    have hf := (un6_e _ a0 a1 a2 a3 a4 a5 _).symm.trans hf
    exact e_X11_ask (n := n) C hr c0 c1 c2 c3 c4 c5 hf
/-! LinesPromised$Scrip.best(II)I -/
theorem dX8_best_0 : decode cX8_best 0 = .ok (.iconst (-1), 1) := by decide +kernel
theorem dX8_best_1 : decode cX8_best 1 = .ok (.istore_n 3, 1) := by decide +kernel
theorem dX8_best_2 : decode cX8_best 2 = .ok (.iconst 0, 1) := by decide +kernel
theorem dX8_best_3 : decode cX8_best 3 = .ok (.istore 4, 2) := by decide +kernel
theorem dX8_best_5 : decode cX8_best 5 = .ok (.iload 4, 2) := by decide +kernel
theorem dX8_best_7 : decode cX8_best 7 = .ok (.aload_n 0, 1) := by decide +kernel
theorem dX8_best_8 : decode cX8_best 8 = .ok (.getfield 42, 3) := by decide +kernel
theorem dX8_best_11 : decode cX8_best 11 = .ok (.if_icmp .ge 91, 3) := by decide +kernel
theorem dX8_best_14 : decode cX8_best 14 = .ok (.aload_n 0, 1) := by decide +kernel
theorem dX8_best_15 : decode cX8_best 15 = .ok (.getfield 21, 3) := by decide +kernel
theorem dX8_best_18 : decode cX8_best 18 = .ok (.iload 4, 2) := by decide +kernel
theorem dX8_best_20 : decode cX8_best 20 = .ok (.iaload, 1) := by decide +kernel
theorem dX8_best_21 : decode cX8_best 21 = .ok (.iload_n 1, 1) := by decide +kernel
theorem dX8_best_22 : decode cX8_best 22 = .ok (.if_icmp .ne 74, 3) := by decide +kernel
theorem dX8_best_25 : decode cX8_best 25 = .ok (.aload_n 0, 1) := by decide +kernel
theorem dX8_best_26 : decode cX8_best 26 = .ok (.getfield 33, 3) := by decide +kernel
theorem dX8_best_29 : decode cX8_best 29 = .ok (.iload 4, 2) := by decide +kernel
theorem dX8_best_31 : decode cX8_best 31 = .ok (.iaload, 1) := by decide +kernel
theorem dX8_best_32 : decode cX8_best 32 = .ok (.iload_n 2, 1) := by decide +kernel
theorem dX8_best_33 : decode cX8_best 33 = .ok (.if_icmp .ne 63, 3) := by decide +kernel
theorem dX8_best_36 : decode cX8_best 36 = .ok (.aload_n 0, 1) := by decide +kernel
theorem dX8_best_37 : decode cX8_best 37 = .ok (.getfield 27, 3) := by decide +kernel
theorem dX8_best_40 : decode cX8_best 40 = .ok (.iload 4, 2) := by decide +kernel
theorem dX8_best_42 : decode cX8_best 42 = .ok (.iaload, 1) := by decide +kernel
theorem dX8_best_43 : decode cX8_best 43 = .ok (.ifCond .ne 6, 3) := by decide +kernel
theorem dX8_best_46 : decode cX8_best 46 = .ok (.goto 50, 3) := by decide +kernel
theorem dX8_best_49 : decode cX8_best 49 = .ok (.iload_n 3, 1) := by decide +kernel
theorem dX8_best_50 : decode cX8_best 50 = .ok (.iconst (-1), 1) := by decide +kernel
theorem dX8_best_51 : decode cX8_best 51 = .ok (.if_icmp .eq 42, 3) := by decide +kernel
theorem dX8_best_54 : decode cX8_best 54 = .ok (.iload_n 2, 1) := by decide +kernel
theorem dX8_best_55 : decode cX8_best 55 = .ok (.ifCond .ne 22, 3) := by decide +kernel
theorem dX8_best_58 : decode cX8_best 58 = .ok (.aload_n 0, 1) := by decide +kernel
theorem dX8_best_59 : decode cX8_best 59 = .ok (.getfield 30, 3) := by decide +kernel
theorem dX8_best_62 : decode cX8_best 62 = .ok (.iload 4, 2) := by decide +kernel
theorem dX8_best_64 : decode cX8_best 64 = .ok (.iaload, 1) := by decide +kernel
theorem dX8_best_65 : decode cX8_best 65 = .ok (.aload_n 0, 1) := by decide +kernel
theorem dX8_best_66 : decode cX8_best 66 = .ok (.getfield 30, 3) := by decide +kernel
theorem dX8_best_69 : decode cX8_best 69 = .ok (.iload_n 3, 1) := by decide +kernel
theorem dX8_best_70 : decode cX8_best 70 = .ok (.iaload, 1) := by decide +kernel
theorem dX8_best_71 : decode cX8_best 71 = .ok (.if_icmp .ge 25, 3) := by decide +kernel
theorem dX8_best_74 : decode cX8_best 74 = .ok (.goto 19, 3) := by decide +kernel
theorem dX8_best_77 : decode cX8_best 77 = .ok (.aload_n 0, 1) := by decide +kernel
theorem dX8_best_78 : decode cX8_best 78 = .ok (.getfield 30, 3) := by decide +kernel
theorem dX8_best_81 : decode cX8_best 81 = .ok (.iload 4, 2) := by decide +kernel
theorem dX8_best_83 : decode cX8_best 83 = .ok (.iaload, 1) := by decide +kernel
theorem dX8_best_84 : decode cX8_best 84 = .ok (.aload_n 0, 1) := by decide +kernel
theorem dX8_best_85 : decode cX8_best 85 = .ok (.getfield 30, 3) := by decide +kernel
theorem dX8_best_88 : decode cX8_best 88 = .ok (.iload_n 3, 1) := by decide +kernel
theorem dX8_best_89 : decode cX8_best 89 = .ok (.iaload, 1) := by decide +kernel
theorem dX8_best_90 : decode cX8_best 90 = .ok (.if_icmp .le 6, 3) := by decide +kernel
theorem dX8_best_93 : decode cX8_best 93 = .ok (.iload 4, 2) := by decide +kernel
theorem dX8_best_95 : decode cX8_best 95 = .ok (.istore_n 3, 1) := by decide +kernel
theorem dX8_best_96 : decode cX8_best 96 = .ok (.iinc 4 1, 3) := by decide +kernel
theorem dX8_best_99 : decode cX8_best 99 = .ok (.goto (-94), 3) := by decide +kernel
theorem dX8_best_102 : decode cX8_best 102 = .ok (.iload_n 3, 1) := by decide +kernel
theorem dX8_best_103 : decode cX8_best 103 = .ok (.ireturn, 1) := by decide +kernel
theorem cm_X8_best : CM yX8_best cX8_best 5 (some .int) 2 8 := ⟨w_1135, w_23, w_1136, w_91, ⟨by decide +kernel, by decide +kernel, by decide +kernel⟩, ⟨_, _, rfl⟩, by decide⟩
noncomputable def f_X8_best_96 (n : Nat) (rec5 : Int → Int → MM → RR) (v0 v1 v2 v3 v4 : Int) (h : MM) : RR :=
  lb (wr (v4 + 1)) fun x1 =>
  rec5 v3 x1 h
noncomputable def f_X8_best_93 (n : Nat) (rec5 : Int → Int → MM → RR) (v0 v1 v2 v4 : Int) (h : MM) : RR :=
  f_X8_best_96 n rec5 v0 v1 v2 v4 v4 h
noncomputable def f_X8_best_5b (n : Nat) (rec5 : Int → Int → MM → RR) (v0 v1 v2 v3 v4 : Int) (h : MM) : RR :=
  gf h v0 8 8 fun r1 =>
  if r1 ≤ v4 then
    some (v3, h)
  else
  gf h v0 8 3 fun r3 =>
  rd h r3 100 v4 fun r4 =>
  if r4 = v1 then
    gf h v0 8 7 fun r6 =>
    rd h r6 100 v4 fun r7 =>
    if r7 = v2 then
      gf h v0 8 5 fun r9 =>
      rd h r9 100 v4 fun r10 =>
      if r10 = 0 then
        f_X8_best_96 n rec5 v0 v1 v2 v3 v4 h
      else
      if v3 = (-1) then
        f_X8_best_93 n rec5 v0 v1 v2 v4 h
      else
      if v2 = 0 then
        gf h v0 8 6 fun r19 =>
        rd h r19 100 v4 fun r20 =>
        gf h v0 8 6 fun r21 =>
        rd h r21 100 v3 fun r22 =>
        if r22 ≤ r20 then
          f_X8_best_96 n rec5 v0 v1 v2 v3 v4 h
        else
        f_X8_best_93 n rec5 v0 v1 v2 v4 h
      else
      gf h v0 8 6 fun r14 =>
      rd h r14 100 v4 fun r15 =>
      gf h v0 8 6 fun r16 =>
      rd h r16 100 v3 fun r17 =>
      if r15 ≤ r17 then
        f_X8_best_96 n rec5 v0 v1 v2 v3 v4 h
      else
      f_X8_best_93 n rec5 v0 v1 v2 v4 h
    else
    f_X8_best_96 n rec5 v0 v1 v2 v3 v4 h
  else
  f_X8_best_96 n rec5 v0 v1 v2 v3 v4 h
noncomputable def f_X8_best_5 (n : Nat)  (v0 v1 v2 : Int) : Nat → Int → Int → MM → RR
  | 0, _, _, _ => none
  | k + 1, v3, v4, h => f_X8_best_5b n  (f_X8_best_5 n  v0 v1 v2 k) v0 v1 v2 v3 v4 h
noncomputable def f_X8_best (n : Nat) (v0 v1 v2 : Int) (h : MM) : RR :=
  f_X8_best_5 n v0 v1 v2 n ((-1)) 0 h
set_option maxRecDepth 20000 in
theorem b_X8_best_96 {g : GT} {Z : Int × MM} {n : Nat} (C : Cx g cX8_best 5 yX8_best 0 0) (hr : Rt g (some .int) 0 Z) {v0 v1 v2 v3 v4 : Int}  {rec5 : Int → Int → MM → RR} (L5 : ∀ (u3 u4 : Int) (h : MM), in32 u3 → in32 u4 → rec5 u3 u4 h = some Z → G g 5 [(2, v0), (0, v1), (0, v2), (0, u3), (0, u4)] [] h) (cv1 : in32 v1) (cv2 : in32 v2) (cv3 : in32 v3) (cv4 : in32 v4) {h : MM} (hf : f_X8_best_96 n rec5 v0 v1 v2 v3 v4 h = some Z) : G g 96 [(2, v0), (0, v1), (0, v2), (0, v3), (0, v4)] [] h := by
  unfold f_X8_best_96 at hf
  obtain ⟨x1, e1, hf⟩ := lb_s hf
  have c1 : in32 x1 := by rw [e1]; exact (in32_t _)
  refine r_iincL C dX8_best_96 rfl e1 (Nat.le_of_ble_eq_true rfl) rfl ?_
  refine r_goto C dX8_best_99 (tgt := 5) (by decide) ?_
  exact G.mask [true, true, true, true, true] rfl rfl (L5 _ _ _ cv3 c1 hf)
set_option maxRecDepth 20000 in
theorem b_X8_best_93 {g : GT} {Z : Int × MM} {n : Nat} (C : Cx g cX8_best 5 yX8_best 0 0) (hr : Rt g (some .int) 0 Z) {v0 v1 v2 v4 : Int}  {rec5 : Int → Int → MM → RR} (L5 : ∀ (u3 u4 : Int) (h : MM), in32 u3 → in32 u4 → rec5 u3 u4 h = some Z → G g 5 [(2, v0), (0, v1), (0, v2), (0, u3), (0, u4)] [] h) (cv1 : in32 v1) (cv2 : in32 v2) (cv4 : in32 v4) {h : MM} (hf : f_X8_best_93 n rec5 v0 v1 v2 v4 h = some Z) : G g 93 [(2, v0), (0, v1), (0, v2), (3, 0), (0, v4)] [] h := by
  unfold f_X8_best_93 at hf
  refine r_iload C dX8_best_93 rfl ?_
  refine r_istore_n C dX8_best_95 (Nat.le_of_ble_eq_true rfl) rfl ?_
  exact G.mask [true, true, true, true, true] rfl rfl (b_X8_best_96 C hr L5 cv1 cv2 cv4 cv4 hf)
set_option maxRecDepth 20000 in
theorem b_X8_best_5b {g : GT} {Z : Int × MM} {n : Nat} (C : Cx g cX8_best 5 yX8_best 0 0) (hr : Rt g (some .int) 0 Z) {v0 v1 v2 v3 v4 : Int}  {rec5 : Int → Int → MM → RR} (L5 : ∀ (u3 u4 : Int) (h : MM), in32 u3 → in32 u4 → rec5 u3 u4 h = some Z → G g 5 [(2, v0), (0, v1), (0, v2), (0, u3), (0, u4)] [] h) (cv1 : in32 v1) (cv2 : in32 v2) (cv3 : in32 v3) (cv4 : in32 v4) {h : MM} (hf : f_X8_best_5b n rec5 v0 v1 v2 v3 v4 h = some Z) : G g 5 [(2, v0), (0, v1), (0, v2), (0, v3), (0, v4)] [] h := by
  unfold f_X8_best_5b at hf
  refine r_iload C dX8_best_5 rfl ?_
  refine r_aload_n C dX8_best_7 rfl ?_
  obtain ⟨q1, hf⟩ := gf_s hf
  refine r_gf C ct8 (j := 8) (ji := 8) dX8_best_8 q1 rfl rfl (by decide) w_226 rfl (fun c1 => ?_)
  have c1 : in32 _ := c1
  refine r_icmp_ge C dX8_best_11 (tgt := 102) (by decide) cv4 c1 (fun n2 => ?_) (fun n2 => ?_)
  · have hf := ite_p n2 hf
    refine r_iload_n C dX8_best_102 rfl ?_
    cases hf
    exact r_jret C hr dX8_best_103 cv3
  · have hf := ite_n n2 hf
    refine r_aload_n C dX8_best_14 rfl ?_
    obtain ⟨q3, hf⟩ := gf_s hf
    refine r_gf C ct8 (j := 3) (ji := 3) dX8_best_15 q3 rfl rfl (by decide) w_221 rfl (fun c3 => ?_)
    refine r_iload C dX8_best_18 rfl ?_
    obtain ⟨q4, hf⟩ := rd_s hf
    refine r_iald C dX8_best_20 q4 rfl (fun c4 => ?_)
    refine r_iload_n C dX8_best_21 rfl ?_
    refine r_icmp_ne C dX8_best_22 (tgt := 96) (by decide) c4 cv1 (fun n5 => ?_) (fun n5 => ?_)
    · have hf := ite_n n5 hf
      exact G.mask [true, true, true, true, true] rfl rfl (b_X8_best_96 C hr L5 cv1 cv2 cv3 cv4 hf)
    · have hf := ite_p n5 hf
      refine r_aload_n C dX8_best_25 rfl ?_
      obtain ⟨q6, hf⟩ := gf_s hf
      refine r_gf C ct8 (j := 7) (ji := 7) dX8_best_26 q6 rfl rfl (by decide) w_225 rfl (fun c6 => ?_)
      refine r_iload C dX8_best_29 rfl ?_
      obtain ⟨q7, hf⟩ := rd_s hf
      refine r_iald C dX8_best_31 q7 rfl (fun c7 => ?_)
      refine r_iload_n C dX8_best_32 rfl ?_
      refine r_icmp_ne C dX8_best_33 (tgt := 96) (by decide) c7 cv2 (fun n8 => ?_) (fun n8 => ?_)
      · have hf := ite_n n8 hf
        exact G.mask [true, true, true, true, true] rfl rfl (b_X8_best_96 C hr L5 cv1 cv2 cv3 cv4 hf)
      · have hf := ite_p n8 hf
        refine r_aload_n C dX8_best_36 rfl ?_
        obtain ⟨q9, hf⟩ := gf_s hf
        refine r_gf C ct8 (j := 5) (ji := 5) dX8_best_37 q9 rfl rfl (by decide) w_223 rfl (fun c9 => ?_)
        refine r_iload C dX8_best_40 rfl ?_
        obtain ⟨q10, hf⟩ := rd_s hf
        refine r_iald C dX8_best_42 q10 rfl (fun c10 => ?_)
        refine r_if_ne C dX8_best_43 (tgt := 49) (by decide) c10 (fun n11 => ?_) (fun n11 => ?_)
        · have hf := ite_n n11 hf
          refine r_iload_n C dX8_best_49 rfl ?_
          refine r_iconst C dX8_best_50 ?_
          refine r_icmp_eq C dX8_best_51 (tgt := 93) (by decide) cv3 (in32_of rfl) (fun n12 => ?_) (fun n12 => ?_)
          · have hf := ite_p n12 hf
            exact G.mask [true, true, true, false, true] rfl rfl (b_X8_best_93 C hr L5 cv1 cv2 cv4 hf)
          · have hf := ite_n n12 hf
            refine r_iload_n C dX8_best_54 rfl ?_
            refine r_if_ne C dX8_best_55 (tgt := 77) (by decide) cv2 (fun n13 => ?_) (fun n13 => ?_)
            · have hf := ite_n n13 hf
              refine r_aload_n C dX8_best_77 rfl ?_
              obtain ⟨q14, hf⟩ := gf_s hf
              refine r_gf C ct8 (j := 6) (ji := 6) dX8_best_78 q14 rfl rfl (by decide) w_224 rfl (fun c14 => ?_)
              refine r_iload C dX8_best_81 rfl ?_
              obtain ⟨q15, hf⟩ := rd_s hf
              refine r_iald C dX8_best_83 q15 rfl (fun c15 => ?_)
              refine r_aload_n C dX8_best_84 rfl ?_
              obtain ⟨q16, hf⟩ := gf_s hf
              refine r_gf C ct8 (j := 6) (ji := 6) dX8_best_85 q16 rfl rfl (by decide) w_224 rfl (fun c16 => ?_)
              refine r_iload_n C dX8_best_88 rfl ?_
              obtain ⟨q17, hf⟩ := rd_s hf
              refine r_iald C dX8_best_89 q17 rfl (fun c17 => ?_)
              refine r_icmp_le C dX8_best_90 (tgt := 96) (by decide) c15 c17 (fun n18 => ?_) (fun n18 => ?_)
              · have hf := ite_p n18 hf
                exact G.mask [true, true, true, true, true] rfl rfl (b_X8_best_96 C hr L5 cv1 cv2 cv3 cv4 hf)
              · have hf := ite_n n18 hf
                exact G.mask [true, true, true, false, true] rfl rfl (b_X8_best_93 C hr L5 cv1 cv2 cv4 hf)
            · have hf := ite_p n13 hf
              refine r_aload_n C dX8_best_58 rfl ?_
              obtain ⟨q19, hf⟩ := gf_s hf
              refine r_gf C ct8 (j := 6) (ji := 6) dX8_best_59 q19 rfl rfl (by decide) w_224 rfl (fun c19 => ?_)
              refine r_iload C dX8_best_62 rfl ?_
              obtain ⟨q20, hf⟩ := rd_s hf
              refine r_iald C dX8_best_64 q20 rfl (fun c20 => ?_)
              refine r_aload_n C dX8_best_65 rfl ?_
              obtain ⟨q21, hf⟩ := gf_s hf
              refine r_gf C ct8 (j := 6) (ji := 6) dX8_best_66 q21 rfl rfl (by decide) w_224 rfl (fun c21 => ?_)
              refine r_iload_n C dX8_best_69 rfl ?_
              obtain ⟨q22, hf⟩ := rd_s hf
              refine r_iald C dX8_best_70 q22 rfl (fun c22 => ?_)
              refine r_icmp_ge C dX8_best_71 (tgt := 96) (by decide) c20 c22 (fun n23 => ?_) (fun n23 => ?_)
              · have hf := ite_p n23 hf
                exact G.mask [true, true, true, true, true] rfl rfl (b_X8_best_96 C hr L5 cv1 cv2 cv3 cv4 hf)
              · have hf := ite_n n23 hf
                refine r_goto C dX8_best_74 (tgt := 93) (by decide) ?_
                exact G.mask [true, true, true, false, true] rfl rfl (b_X8_best_93 C hr L5 cv1 cv2 cv4 hf)
        · have hf := ite_p n11 hf
          refine r_goto C dX8_best_46 (tgt := 96) (by decide) ?_
          exact G.mask [true, true, true, true, true] rfl rfl (b_X8_best_96 C hr L5 cv1 cv2 cv3 cv4 hf)
set_option maxRecDepth 20000 in
theorem l_X8_best_5 {g : GT} {Z : Int × MM} {n : Nat} (C : Cx g cX8_best 5 yX8_best 0 0) (hr : Rt g (some .int) 0 Z) {v0 v1 v2 : Int}   (cv1 : in32 v1) (cv2 : in32 v2) : ∀ (k : Nat) (v3 v4 : Int) (h : MM), in32 v3 → in32 v4 → f_X8_best_5 n  v0 v1 v2 k v3 v4 h = some Z → G g 5 [(2, v0), (0, v1), (0, v2), (0, v3), (0, v4)] [] h := by
  intro k
  induction k with
  | zero => intro v3 v4 h cv3 cv4 hf; exact absurd hf (by intro z; cases z)
  | succ k ih => intro v3 v4 h cv3 cv4 hf; exact b_X8_best_5b C hr (rec5 := f_X8_best_5 n  v0 v1 v2 k)  ih cv1 cv2 cv3 cv4 (show f_X8_best_5b n  (f_X8_best_5 n  v0 v1 v2 k) v0 v1 v2 v3 v4 h = some Z from hf)
set_option maxRecDepth 20000 in
theorem e_X8_best {g : GT} {Z : Int × MM} {n : Nat} (C : Cx g cX8_best 5 yX8_best 0 0) (hr : Rt g (some .int) 0 Z) {v0 v1 v2 : Int} (cv0 : cK 2 v0) (cv1 : cK 0 v1) (cv2 : cK 0 v2) {h : MM} (hf : f_X8_best n v0 v1 v2 h = some Z) : G g 0 [(2, v0), (0, v1), (0, v2), (3, 0), (3, 0)] [] h := by
  have cv1 : in32 v1 := cv1
  have cv2 : in32 v2 := cv2
  unfold f_X8_best at hf
  refine r_iconst C dX8_best_0 ?_
  refine r_istore_n C dX8_best_1 (Nat.le_of_ble_eq_true rfl) rfl ?_
  refine r_iconst C dX8_best_2 ?_
  refine r_istore C dX8_best_3 (Nat.le_of_ble_eq_true rfl) rfl ?_
  exact G.mask [true, true, true, true, true] rfl rfl (l_X8_best_5 C hr  cv1 cv2 _ _ _ _ (in32_of rfl) (in32_of rfl) hf)
set_option maxRecDepth 20000 in
theorem am_X8_best (l : Launch) (n : Nat) : AM l yX8_best cX8_best 5 (some .int) 0 0 [2, 0, 0] 0 (un3 (f_X8_best n)) := by
  refine AM.intro (by decide) (fun xs hx => ?_) (fun g xs h Z hl C hr hx hf => ?_)
  · obtain ⟨a0, a1, a2, rfl, c0, c1, c2⟩ := canL_3 hx
    exact Nat.le_of_ble_eq_true rfl
  · obtain ⟨a0, a1, a2, rfl, c0, c1, c2⟩ := canL_3 hx
    have hf := (un3_e _ a0 a1 a2 _).symm.trans hf
    exact e_X8_best (n := n) C hr c0 c1 c2 hf
/-! LinesPromised$Scrip.goes(III)I -/
theorem dX8_goes_0 : decode cX8_goes 0 = .ok (.aload_n 0, 1) := by decide +kernel
theorem dX8_goes_1 : decode cX8_goes 1 = .ok (.getfield 30, 3) := by decide +kernel
theorem dX8_goes_4 : decode cX8_goes 4 = .ok (.iload_n 2, 1) := by decide +kernel
theorem dX8_goes_5 : decode cX8_goes 5 = .ok (.iaload, 1) := by decide +kernel
theorem dX8_goes_6 : decode cX8_goes 6 = .ok (.istore 4, 2) := by decide +kernel
theorem dX8_goes_8 : decode cX8_goes 8 = .ok (.iload 4, 2) := by decide +kernel
theorem dX8_goes_10 : decode cX8_goes 10 = .ok (.ifCond .gt 5, 3) := by decide +kernel
theorem dX8_goes_13 : decode cX8_goes 13 = .ok (.iconst 0, 1) := by decide +kernel
theorem dX8_goes_14 : decode cX8_goes 14 = .ok (.ireturn, 1) := by decide +kernel
theorem dX8_goes_15 : decode cX8_goes 15 = .ok (.aload_n 0, 1) := by decide +kernel
theorem dX8_goes_16 : decode cX8_goes 16 = .ok (.getfield 27, 3) := by decide +kernel
theorem dX8_goes_19 : decode cX8_goes 19 = .ok (.iload_n 2, 1) := by decide +kernel
theorem dX8_goes_20 : decode cX8_goes 20 = .ok (.iaload, 1) := by decide +kernel
theorem dX8_goes_21 : decode cX8_goes 21 = .ok (.aload_n 0, 1) := by decide +kernel
theorem dX8_goes_22 : decode cX8_goes 22 = .ok (.getfield 27, 3) := by decide +kernel
theorem dX8_goes_25 : decode cX8_goes 25 = .ok (.iload_n 3, 1) := by decide +kernel
theorem dX8_goes_26 : decode cX8_goes 26 = .ok (.iaload, 1) := by decide +kernel
theorem dX8_goes_27 : decode cX8_goes 27 = .ok (.invokestatic 65, 3) := by decide +kernel
theorem dX8_goes_30 : decode cX8_goes 30 = .ok (.istore 5, 2) := by decide +kernel
theorem dX8_goes_32 : decode cX8_goes 32 = .ok (.iload 5, 2) := by decide +kernel
theorem dX8_goes_34 : decode cX8_goes 34 = .ok (.aload_n 0, 1) := by decide +kernel
theorem dX8_goes_35 : decode cX8_goes 35 = .ok (.iload_n 1, 1) := by decide +kernel
theorem dX8_goes_36 : decode cX8_goes 36 = .ok (.aload_n 0, 1) := by decide +kernel
theorem dX8_goes_37 : decode cX8_goes 37 = .ok (.getfield 24, 3) := by decide +kernel
theorem dX8_goes_40 : decode cX8_goes 40 = .ok (.iload_n 2, 1) := by decide +kernel
theorem dX8_goes_41 : decode cX8_goes 41 = .ok (.iaload, 1) := by decide +kernel
theorem dX8_goes_42 : decode cX8_goes 42 = .ok (.invokevirtual 58, 3) := by decide +kernel
theorem dX8_goes_45 : decode cX8_goes 45 = .ok (.aload_n 0, 1) := by decide +kernel
theorem dX8_goes_46 : decode cX8_goes 46 = .ok (.getfield 9, 3) := by decide +kernel
theorem dX8_goes_49 : decode cX8_goes 49 = .ok (.aload_n 0, 1) := by decide +kernel
theorem dX8_goes_50 : decode cX8_goes 50 = .ok (.getfield 24, 3) := by decide +kernel
theorem dX8_goes_53 : decode cX8_goes 53 = .ok (.iload_n 3, 1) := by decide +kernel
theorem dX8_goes_54 : decode cX8_goes 54 = .ok (.iaload, 1) := by decide +kernel
theorem dX8_goes_55 : decode cX8_goes 55 = .ok (.iaload, 1) := by decide +kernel
theorem dX8_goes_56 : decode cX8_goes 56 = .ok (.iload 4, 2) := by decide +kernel
theorem dX8_goes_58 : decode cX8_goes 58 = .ok (.idiv, 1) := by decide +kernel
theorem dX8_goes_59 : decode cX8_goes 59 = .ok (.invokestatic 65, 3) := by decide +kernel
theorem dX8_goes_62 : decode cX8_goes 62 = .ok (.invokestatic 65, 3) := by decide +kernel
theorem dX8_goes_65 : decode cX8_goes 65 = .ok (.ireturn, 1) := by decide +kernel
theorem cm_X8_goes : CM yX8_goes cX8_goes 6 (some .int) 3 8 := ⟨w_1139, w_24, w_1140, w_91, ⟨by decide +kernel, by decide +kernel, by decide +kernel⟩, ⟨_, _, rfl⟩, by decide⟩
noncomputable def f_X8_goes (n : Nat) (v0 v1 v2 v3 : Int) (h : MM) : RR :=
  gf h v0 8 6 fun r1 =>
  rd h r1 100 v2 fun r2 =>
  if 0 < r2 then
    gf h v0 8 5 fun r4 =>
    rd h r4 100 v2 fun r5 =>
    gf h v0 8 5 fun r6 =>
    rd h r6 100 v3 fun r7 =>
    lb (jmin r5 r7) fun x8 =>
    gf h v0 8 4 fun r9 =>
    rd h r9 100 v2 fun r10 =>
    gk h v0 8 <|
    bd (f_X8_sharesOf n v0 v1 r10 h) fun r11 h11 =>
    gf h11 v0 8 0 fun r12 =>
    gf h11 v0 8 4 fun r13 =>
    rd h11 r13 100 v3 fun r14 =>
    rd h11 r12 100 r14 fun r15 =>
    dz r2 <|
    some (jmin x8 (jmin r11 (idv r15 r2)), h11)
  else
  some (0, h)
set_option maxRecDepth 20000 in
theorem e_X8_goes {g : GT} {Z : Int × MM} {n : Nat} (C : Cx g cX8_goes 6 yX8_goes 1 24) (hr : Rt g (some .int) 0 Z) {v0 v1 v2 v3 : Int} (cv0 : cK 2 v0) (cv1 : cK 0 v1) (cv2 : cK 0 v2) (cv3 : cK 0 v3) {h : MM} (hf : f_X8_goes n v0 v1 v2 v3 h = some Z) : G g 0 [(2, v0), (0, v1), (0, v2), (0, v3), (3, 0), (3, 0)] [] h := by
  have cv1 : in32 v1 := cv1
  have cv2 : in32 v2 := cv2
  have cv3 : in32 v3 := cv3
  unfold f_X8_goes at hf
  refine r_aload_n C dX8_goes_0 rfl ?_
  obtain ⟨q1, hf⟩ := gf_s hf
  refine r_gf C ct8 (j := 6) (ji := 6) dX8_goes_1 q1 rfl rfl (by decide) w_224 rfl (fun c1 => ?_)
  refine r_iload_n C dX8_goes_4 rfl ?_
  obtain ⟨q2, hf⟩ := rd_s hf
  refine r_iald C dX8_goes_5 q2 rfl (fun c2 => ?_)
  refine r_istore C dX8_goes_6 (Nat.le_of_ble_eq_true rfl) rfl ?_
  refine r_iload C dX8_goes_8 rfl ?_
  refine r_if_gt C dX8_goes_10 (tgt := 15) (by decide) c2 (fun n3 => ?_) (fun n3 => ?_)
  · have hf := ite_p n3 hf
    refine r_aload_n C dX8_goes_15 rfl ?_
    obtain ⟨q4, hf⟩ := gf_s hf
    refine r_gf C ct8 (j := 5) (ji := 5) dX8_goes_16 q4 rfl rfl (by decide) w_223 rfl (fun c4 => ?_)
    refine r_iload_n C dX8_goes_19 rfl ?_
    obtain ⟨q5, hf⟩ := rd_s hf
    refine r_iald C dX8_goes_20 q5 rfl (fun c5 => ?_)
    refine r_aload_n C dX8_goes_21 rfl ?_
    obtain ⟨q6, hf⟩ := gf_s hf
    refine r_gf C ct8 (j := 5) (ji := 5) dX8_goes_22 q6 rfl rfl (by decide) w_223 rfl (fun c6 => ?_)
    refine r_iload_n C dX8_goes_25 rfl ?_
    obtain ⟨q7, hf⟩ := rd_s hf
    refine r_iald C dX8_goes_26 q7 rfl (fun c7 => ?_)
    refine r_mmin C dX8_goes_27 w_1141 ⟨Nat.le_of_ble_eq_true rfl, Nat.le_of_ble_eq_true rfl⟩ rfl c5 c7 ?_
    obtain ⟨x8, e8, hf⟩ := lb_s hf
    have c8 : in32 x8 := by rw [e8]; exact (in32_min c5 c7)
    refine r_istoreL C dX8_goes_30 e8 (Nat.le_of_ble_eq_true rfl) rfl ?_
    refine r_iload C dX8_goes_32 rfl ?_
    refine r_aload_n C dX8_goes_34 rfl ?_
    refine r_iload_n C dX8_goes_35 rfl ?_
    refine r_aload_n C dX8_goes_36 rfl ?_
    obtain ⟨q9, hf⟩ := gf_s hf
    refine r_gf C ct8 (j := 4) (ji := 4) dX8_goes_37 q9 rfl rfl (by decide) w_222 rfl (fun c9 => ?_)
    refine r_iload_n C dX8_goes_40 rfl ?_
    obtain ⟨q10, hf⟩ := rd_s hf
    refine r_iald C dX8_goes_41 q10 rfl (fun c10 => ?_)
    obtain ⟨p11, hf⟩ := gk_s hf
    obtain ⟨r11, h11, hq11, hf⟩ := bd_s hf
    refine r_cV2 C (am_X8_sharesOf (gl g) n) cm_X8_sharesOf w_1142 dX8_goes_42 ⟨Nat.le_of_ble_eq_true rfl, Nat.le_of_ble_eq_true rfl⟩ p11 rfl cv1 c10 rfl (Nat.le_of_ble_eq_true rfl) hq11 (by decide) (fun c11 => ?_)
    have c11 : in32 _ := c11
    refine r_aload_n C dX8_goes_45 rfl ?_
    obtain ⟨q12, hf⟩ := gf_s hf
    refine r_gf C ct8 (j := 0) (ji := 0) dX8_goes_46 q12 rfl rfl (by decide) w_214 rfl (fun c12 => ?_)
    refine r_aload_n C dX8_goes_49 rfl ?_
    obtain ⟨q13, hf⟩ := gf_s hf
    refine r_gf C ct8 (j := 4) (ji := 4) dX8_goes_50 q13 rfl rfl (by decide) w_222 rfl (fun c13 => ?_)
    refine r_iload_n C dX8_goes_53 rfl ?_
    obtain ⟨q14, hf⟩ := rd_s hf
    refine r_iald C dX8_goes_54 q14 rfl (fun c14 => ?_)
    obtain ⟨q15, hf⟩ := rd_s hf
    refine r_iald C dX8_goes_55 q15 rfl (fun c15 => ?_)
    refine r_iload C dX8_goes_56 rfl ?_
    obtain ⟨q16, hf⟩ := dz_s hf
    refine r_idiv C dX8_goes_58 c2 q16 ?_
    refine r_mmin C dX8_goes_59 w_1141 ⟨Nat.le_of_ble_eq_true rfl, Nat.le_of_ble_eq_true rfl⟩ rfl c11 (in32_t _) ?_
    refine r_mmin C dX8_goes_62 w_1141 ⟨Nat.le_of_ble_eq_true rfl, Nat.le_of_ble_eq_true rfl⟩ rfl c8 (in32_min c11 (in32_t _)) ?_
    cases hf
    exact r_jret C hr dX8_goes_65 (in32_min c8 (in32_min c11 (in32_t _)))
  · have hf := ite_n n3 hf
    refine r_iconst C dX8_goes_13 ?_
    cases hf
    exact r_jret C hr dX8_goes_14 (in32_of rfl)
set_option maxRecDepth 20000 in
theorem am_X8_goes (l : Launch) (n : Nat) : AM l yX8_goes cX8_goes 6 (some .int) 1 24 [2, 0, 0, 0] 0 (un4 (f_X8_goes n)) := by
  refine AM.intro (by decide) (fun xs hx => ?_) (fun g xs h Z hl C hr hx hf => ?_)
  · obtain ⟨a0, a1, a2, a3, rfl, c0, c1, c2, c3⟩ := canL_4 hx
    exact Nat.le_of_ble_eq_true rfl
  · obtain ⟨a0, a1, a2, a3, rfl, c0, c1, c2, c3⟩ := canL_4 hx
    have hf := (un4_e _ a0 a1 a2 a3 _).symm.trans hf
    exact e_X8_goes (n := n) C hr c0 c1 c2 c3 hf
/-! LinesPromised$Scrip.sell(IIII)V -/
theorem dX8_sell_0 : decode cX8_sell 0 = .ok (.aload_n 0, 1) := by decide +kernel
theorem dX8_sell_1 : decode cX8_sell 1 = .ok (.iload_n 1, 1) := by decide +kernel
theorem dX8_sell_2 : decode cX8_sell 2 = .ok (.aload_n 0, 1) := by decide +kernel
theorem dX8_sell_3 : decode cX8_sell 3 = .ok (.getfield 24, 3) := by decide +kernel
theorem dX8_sell_6 : decode cX8_sell 6 = .ok (.iload_n 2, 1) := by decide +kernel
theorem dX8_sell_7 : decode cX8_sell 7 = .ok (.iaload, 1) := by decide +kernel
theorem dX8_sell_8 : decode cX8_sell 8 = .ok (.aload_n 0, 1) := by decide +kernel
theorem dX8_sell_9 : decode cX8_sell 9 = .ok (.getfield 24, 3) := by decide +kernel
theorem dX8_sell_12 : decode cX8_sell 12 = .ok (.iload_n 3, 1) := by decide +kernel
theorem dX8_sell_13 : decode cX8_sell 13 = .ok (.iaload, 1) := by decide +kernel
theorem dX8_sell_14 : decode cX8_sell 14 = .ok (.iload 4, 2) := by decide +kernel
theorem dX8_sell_16 : decode cX8_sell 16 = .ok (.invokevirtual 70, 3) := by decide +kernel
theorem dX8_sell_19 : decode cX8_sell 19 = .ok (.aload_n 0, 1) := by decide +kernel
theorem dX8_sell_20 : decode cX8_sell 20 = .ok (.getfield 9, 3) := by decide +kernel
theorem dX8_sell_23 : decode cX8_sell 23 = .ok (.aload_n 0, 1) := by decide +kernel
theorem dX8_sell_24 : decode cX8_sell 24 = .ok (.getfield 24, 3) := by decide +kernel
theorem dX8_sell_27 : decode cX8_sell 27 = .ok (.iload_n 3, 1) := by decide +kernel
theorem dX8_sell_28 : decode cX8_sell 28 = .ok (.iaload, 1) := by decide +kernel
theorem dX8_sell_29 : decode cX8_sell 29 = .ok (.dup2, 1) := by decide +kernel
theorem dX8_sell_30 : decode cX8_sell 30 = .ok (.iaload, 1) := by decide +kernel
theorem dX8_sell_31 : decode cX8_sell 31 = .ok (.iload 4, 2) := by decide +kernel
theorem dX8_sell_33 : decode cX8_sell 33 = .ok (.aload_n 0, 1) := by decide +kernel
theorem dX8_sell_34 : decode cX8_sell 34 = .ok (.getfield 30, 3) := by decide +kernel
theorem dX8_sell_37 : decode cX8_sell 37 = .ok (.iload_n 2, 1) := by decide +kernel
theorem dX8_sell_38 : decode cX8_sell 38 = .ok (.iaload, 1) := by decide +kernel
theorem dX8_sell_39 : decode cX8_sell 39 = .ok (.imul, 1) := by decide +kernel
theorem dX8_sell_40 : decode cX8_sell 40 = .ok (.isub, 1) := by decide +kernel
theorem dX8_sell_41 : decode cX8_sell 41 = .ok (.iastore, 1) := by decide +kernel
theorem dX8_sell_42 : decode cX8_sell 42 = .ok (.aload_n 0, 1) := by decide +kernel
theorem dX8_sell_43 : decode cX8_sell 43 = .ok (.getfield 9, 3) := by decide +kernel
theorem dX8_sell_46 : decode cX8_sell 46 = .ok (.aload_n 0, 1) := by decide +kernel
theorem dX8_sell_47 : decode cX8_sell 47 = .ok (.getfield 24, 3) := by decide +kernel
theorem dX8_sell_50 : decode cX8_sell 50 = .ok (.iload_n 2, 1) := by decide +kernel
theorem dX8_sell_51 : decode cX8_sell 51 = .ok (.iaload, 1) := by decide +kernel
theorem dX8_sell_52 : decode cX8_sell 52 = .ok (.dup2, 1) := by decide +kernel
theorem dX8_sell_53 : decode cX8_sell 53 = .ok (.iaload, 1) := by decide +kernel
theorem dX8_sell_54 : decode cX8_sell 54 = .ok (.iload 4, 2) := by decide +kernel
theorem dX8_sell_56 : decode cX8_sell 56 = .ok (.aload_n 0, 1) := by decide +kernel
theorem dX8_sell_57 : decode cX8_sell 57 = .ok (.getfield 30, 3) := by decide +kernel
theorem dX8_sell_60 : decode cX8_sell 60 = .ok (.iload_n 2, 1) := by decide +kernel
theorem dX8_sell_61 : decode cX8_sell 61 = .ok (.iaload, 1) := by decide +kernel
theorem dX8_sell_62 : decode cX8_sell 62 = .ok (.imul, 1) := by decide +kernel
theorem dX8_sell_63 : decode cX8_sell 63 = .ok (.iadd, 1) := by decide +kernel
theorem dX8_sell_64 : decode cX8_sell 64 = .ok (.iastore, 1) := by decide +kernel
theorem dX8_sell_65 : decode cX8_sell 65 = .ok (.aload_n 0, 1) := by decide +kernel
theorem dX8_sell_66 : decode cX8_sell 66 = .ok (.getfield 27, 3) := by decide +kernel
theorem dX8_sell_69 : decode cX8_sell 69 = .ok (.iload_n 2, 1) := by decide +kernel
theorem dX8_sell_70 : decode cX8_sell 70 = .ok (.dup2, 1) := by decide +kernel
theorem dX8_sell_71 : decode cX8_sell 71 = .ok (.iaload, 1) := by decide +kernel
theorem dX8_sell_72 : decode cX8_sell 72 = .ok (.iload 4, 2) := by decide +kernel
theorem dX8_sell_74 : decode cX8_sell 74 = .ok (.isub, 1) := by decide +kernel
theorem dX8_sell_75 : decode cX8_sell 75 = .ok (.iastore, 1) := by decide +kernel
theorem dX8_sell_76 : decode cX8_sell 76 = .ok (.aload_n 0, 1) := by decide +kernel
theorem dX8_sell_77 : decode cX8_sell 77 = .ok (.getfield 27, 3) := by decide +kernel
theorem dX8_sell_80 : decode cX8_sell 80 = .ok (.iload_n 3, 1) := by decide +kernel
theorem dX8_sell_81 : decode cX8_sell 81 = .ok (.dup2, 1) := by decide +kernel
theorem dX8_sell_82 : decode cX8_sell 82 = .ok (.iaload, 1) := by decide +kernel
theorem dX8_sell_83 : decode cX8_sell 83 = .ok (.iload 4, 2) := by decide +kernel
theorem dX8_sell_85 : decode cX8_sell 85 = .ok (.isub, 1) := by decide +kernel
theorem dX8_sell_86 : decode cX8_sell 86 = .ok (.iastore, 1) := by decide +kernel
theorem dX8_sell_87 : decode cX8_sell 87 = .ok (.aload_n 0, 1) := by decide +kernel
theorem dX8_sell_88 : decode cX8_sell 88 = .ok (.getfield 18, 3) := by decide +kernel
theorem dX8_sell_91 : decode cX8_sell 91 = .ok (.iload_n 1, 1) := by decide +kernel
theorem dX8_sell_92 : decode cX8_sell 92 = .ok (.aload_n 0, 1) := by decide +kernel
theorem dX8_sell_93 : decode cX8_sell 93 = .ok (.getfield 30, 3) := by decide +kernel
theorem dX8_sell_96 : decode cX8_sell 96 = .ok (.iload_n 2, 1) := by decide +kernel
theorem dX8_sell_97 : decode cX8_sell 97 = .ok (.iaload, 1) := by decide +kernel
theorem dX8_sell_98 : decode cX8_sell 98 = .ok (.iastore, 1) := by decide +kernel
theorem dX8_sell_99 : decode cX8_sell 99 = .ok (.return_, 1) := by decide +kernel
theorem cm_X8_sell : CM yX8_sell cX8_sell 5 none 4 8 := ⟨w_1145, w_25, w_1146, w_91, ⟨by decide +kernel, by decide +kernel, by decide +kernel⟩, ⟨_, _, rfl⟩, by decide⟩
noncomputable def f_X8_sell (n : Nat) (v0 v1 v2 v3 v4 : Int) (h : MM) : RR :=
  gf h v0 8 4 fun r1 =>
  rd h r1 100 v2 fun r2 =>
  gf h v0 8 4 fun r3 =>
  rd h r3 100 v3 fun r4 =>
  gk h v0 8 <|
  bd (f_X8_pass n v0 v1 r2 r4 v4 h) fun r5 h5 =>
  gf h5 v0 8 0 fun r6 =>
  gf h5 v0 8 4 fun r7 =>
  rd h5 r7 100 v3 fun r8 =>
  rd h5 r6 100 r8 fun r9 =>
  gf h5 v0 8 6 fun r10 =>
  rd h5 r10 100 v2 fun r11 =>
  wt h5 r6 100 r8 (wr (r9 - (wr (v4 * r11)))) fun h12 =>
  gf h12 v0 8 0 fun r13 =>
  gf h12 v0 8 4 fun r14 =>
  rd h12 r14 100 v2 fun r15 =>
  rd h12 r13 100 r15 fun r16 =>
  gf h12 v0 8 6 fun r17 =>
  rd h12 r17 100 v2 fun r18 =>
  wt h12 r13 100 r15 (wr (r16 + (wr (v4 * r18)))) fun h19 =>
  gf h19 v0 8 5 fun r20 =>
  rd h19 r20 100 v2 fun r21 =>
  wt h19 r20 100 v2 (wr (r21 - v4)) fun h22 =>
  gf h22 v0 8 5 fun r23 =>
  rd h22 r23 100 v3 fun r24 =>
  wt h22 r23 100 v3 (wr (r24 - v4)) fun h25 =>
  gf h25 v0 8 2 fun r26 =>
  gf h25 v0 8 6 fun r27 =>
  rd h25 r27 100 v2 fun r28 =>
  wt h25 r26 100 v1 r28 fun h29 =>
  some (0, h29)
set_option maxRecDepth 20000 in
theorem e_X8_sell {g : GT} {Z : Int × MM} {n : Nat} (C : Cx g cX8_sell 5 yX8_sell 1 24) (hr : Rt g none 3 Z) {v0 v1 v2 v3 v4 : Int} (cv0 : cK 2 v0) (cv1 : cK 0 v1) (cv2 : cK 0 v2) (cv3 : cK 0 v3) (cv4 : cK 0 v4) {h : MM} (hf : f_X8_sell n v0 v1 v2 v3 v4 h = some Z) : G g 0 [(2, v0), (0, v1), (0, v2), (0, v3), (0, v4)] [] h := by
  have cv1 : in32 v1 := cv1
  have cv2 : in32 v2 := cv2
  have cv3 : in32 v3 := cv3
  have cv4 : in32 v4 := cv4
  unfold f_X8_sell at hf
  refine r_aload_n C dX8_sell_0 rfl ?_
  refine r_iload_n C dX8_sell_1 rfl ?_
  refine r_aload_n C dX8_sell_2 rfl ?_
  obtain ⟨q1, hf⟩ := gf_s hf
  refine r_gf C ct8 (j := 4) (ji := 4) dX8_sell_3 q1 rfl rfl (by decide) w_222 rfl (fun c1 => ?_)
  refine r_iload_n C dX8_sell_6 rfl ?_
  obtain ⟨q2, hf⟩ := rd_s hf
  refine r_iald C dX8_sell_7 q2 rfl (fun c2 => ?_)
  refine r_aload_n C dX8_sell_8 rfl ?_
  obtain ⟨q3, hf⟩ := gf_s hf
  refine r_gf C ct8 (j := 4) (ji := 4) dX8_sell_9 q3 rfl rfl (by decide) w_222 rfl (fun c3 => ?_)
  refine r_iload_n C dX8_sell_12 rfl ?_
  obtain ⟨q4, hf⟩ := rd_s hf
  refine r_iald C dX8_sell_13 q4 rfl (fun c4 => ?_)
  refine r_iload C dX8_sell_14 rfl ?_
  obtain ⟨p5, hf⟩ := gk_s hf
  obtain ⟨r5, h5, hq5, hf⟩ := bd_s hf
  refine r_cV4v C (am_X8_pass (gl g) n) cm_X8_pass w_1147 dX8_sell_16 ⟨Nat.le_of_ble_eq_true rfl, Nat.le_of_ble_eq_true rfl⟩ p5 rfl cv1 c2 c4 cv4 rfl (Nat.le_of_ble_eq_true rfl) hq5 ?_
  refine r_aload_n C dX8_sell_19 rfl ?_
  obtain ⟨q6, hf⟩ := gf_s hf
  refine r_gf C ct8 (j := 0) (ji := 0) dX8_sell_20 q6 rfl rfl (by decide) w_214 rfl (fun c6 => ?_)
  refine r_aload_n C dX8_sell_23 rfl ?_
  obtain ⟨q7, hf⟩ := gf_s hf
  refine r_gf C ct8 (j := 4) (ji := 4) dX8_sell_24 q7 rfl rfl (by decide) w_222 rfl (fun c7 => ?_)
  refine r_iload_n C dX8_sell_27 rfl ?_
  obtain ⟨q8, hf⟩ := rd_s hf
  refine r_iald C dX8_sell_28 q8 rfl (fun c8 => ?_)
  refine r_dup2 C dX8_sell_29 (by decide) (by decide) ?_
  obtain ⟨q9, hf⟩ := rd_s hf
  refine r_iald C dX8_sell_30 q9 rfl (fun c9 => ?_)
  refine r_iload C dX8_sell_31 rfl ?_
  refine r_aload_n C dX8_sell_33 rfl ?_
  obtain ⟨q10, hf⟩ := gf_s hf
  refine r_gf C ct8 (j := 6) (ji := 6) dX8_sell_34 q10 rfl rfl (by decide) w_224 rfl (fun c10 => ?_)
  refine r_iload_n C dX8_sell_37 rfl ?_
  obtain ⟨q11, hf⟩ := rd_s hf
  refine r_iald C dX8_sell_38 q11 rfl (fun c11 => ?_)
  refine r_imul C dX8_sell_39 ?_
  refine r_isub C dX8_sell_40 ?_
  obtain ⟨q12, hf⟩ := wt_s hf
  refine r_iast C dX8_sell_41 q12 rfl (in32_t _) ?_
  refine r_aload_n C dX8_sell_42 rfl ?_
  obtain ⟨q13, hf⟩ := gf_s hf
  refine r_gf C ct8 (j := 0) (ji := 0) dX8_sell_43 q13 rfl rfl (by decide) w_214 rfl (fun c13 => ?_)
  refine r_aload_n C dX8_sell_46 rfl ?_
  obtain ⟨q14, hf⟩ := gf_s hf
  refine r_gf C ct8 (j := 4) (ji := 4) dX8_sell_47 q14 rfl rfl (by decide) w_222 rfl (fun c14 => ?_)
  refine r_iload_n C dX8_sell_50 rfl ?_
  obtain ⟨q15, hf⟩ := rd_s hf
  refine r_iald C dX8_sell_51 q15 rfl (fun c15 => ?_)
  refine r_dup2 C dX8_sell_52 (by decide) (by decide) ?_
  obtain ⟨q16, hf⟩ := rd_s hf
  refine r_iald C dX8_sell_53 q16 rfl (fun c16 => ?_)
  refine r_iload C dX8_sell_54 rfl ?_
  refine r_aload_n C dX8_sell_56 rfl ?_
  obtain ⟨q17, hf⟩ := gf_s hf
  refine r_gf C ct8 (j := 6) (ji := 6) dX8_sell_57 q17 rfl rfl (by decide) w_224 rfl (fun c17 => ?_)
  refine r_iload_n C dX8_sell_60 rfl ?_
  obtain ⟨q18, hf⟩ := rd_s hf
  refine r_iald C dX8_sell_61 q18 rfl (fun c18 => ?_)
  refine r_imul C dX8_sell_62 ?_
  refine r_iadd C dX8_sell_63 ?_
  obtain ⟨q19, hf⟩ := wt_s hf
  refine r_iast C dX8_sell_64 q19 rfl (in32_t _) ?_
  refine r_aload_n C dX8_sell_65 rfl ?_
  obtain ⟨q20, hf⟩ := gf_s hf
  refine r_gf C ct8 (j := 5) (ji := 5) dX8_sell_66 q20 rfl rfl (by decide) w_223 rfl (fun c20 => ?_)
  refine r_iload_n C dX8_sell_69 rfl ?_
  refine r_dup2 C dX8_sell_70 (by decide) (by decide) ?_
  obtain ⟨q21, hf⟩ := rd_s hf
  refine r_iald C dX8_sell_71 q21 rfl (fun c21 => ?_)
  refine r_iload C dX8_sell_72 rfl ?_
  refine r_isub C dX8_sell_74 ?_
  obtain ⟨q22, hf⟩ := wt_s hf
  refine r_iast C dX8_sell_75 q22 rfl (in32_t _) ?_
  refine r_aload_n C dX8_sell_76 rfl ?_
  obtain ⟨q23, hf⟩ := gf_s hf
  refine r_gf C ct8 (j := 5) (ji := 5) dX8_sell_77 q23 rfl rfl (by decide) w_223 rfl (fun c23 => ?_)
  refine r_iload_n C dX8_sell_80 rfl ?_
  refine r_dup2 C dX8_sell_81 (by decide) (by decide) ?_
  obtain ⟨q24, hf⟩ := rd_s hf
  refine r_iald C dX8_sell_82 q24 rfl (fun c24 => ?_)
  refine r_iload C dX8_sell_83 rfl ?_
  refine r_isub C dX8_sell_85 ?_
  obtain ⟨q25, hf⟩ := wt_s hf
  refine r_iast C dX8_sell_86 q25 rfl (in32_t _) ?_
  refine r_aload_n C dX8_sell_87 rfl ?_
  obtain ⟨q26, hf⟩ := gf_s hf
  refine r_gf C ct8 (j := 2) (ji := 2) dX8_sell_88 q26 rfl rfl (by decide) w_219 rfl (fun c26 => ?_)
  refine r_iload_n C dX8_sell_91 rfl ?_
  refine r_aload_n C dX8_sell_92 rfl ?_
  obtain ⟨q27, hf⟩ := gf_s hf
  refine r_gf C ct8 (j := 6) (ji := 6) dX8_sell_93 q27 rfl rfl (by decide) w_224 rfl (fun c27 => ?_)
  refine r_iload_n C dX8_sell_96 rfl ?_
  obtain ⟨q28, hf⟩ := rd_s hf
  refine r_iald C dX8_sell_97 q28 rfl (fun c28 => ?_)
  obtain ⟨q29, hf⟩ := wt_s hf
  refine r_iast C dX8_sell_98 q29 rfl c28 ?_
  cases hf
  exact r_vret C hr dX8_sell_99
set_option maxRecDepth 20000 in
theorem am_X8_sell (l : Launch) (n : Nat) : AM l yX8_sell cX8_sell 5 none 1 24 [2, 0, 0, 0, 0] 3 (un5 (f_X8_sell n)) := by
  refine AM.intro (by decide) (fun xs hx => ?_) (fun g xs h Z hl C hr hx hf => ?_)
  · obtain ⟨a0, a1, a2, a3, a4, rfl, c0, c1, c2, c3, c4⟩ := canL_5 hx
    exact Nat.le_of_ble_eq_true rfl
  · obtain ⟨a0, a1, a2, a3, a4, rfl, c0, c1, c2, c3, c4⟩ := canL_5 hx
    have hf := (un5_e _ a0 a1 a2 a3 a4 _).symm.trans hf
    exact e_X8_sell (n := n) C hr c0 c1 c2 c3 c4 hf
/-! LinesPromised$Scrip.clearStanding(I)V -/
theorem dX8_clearStanding_0 : decode cX8_clearStanding 0 = .ok (.iconst 0, 1) := by decide +kernel
theorem dX8_clearStanding_1 : decode cX8_clearStanding 1 = .ok (.istore_n 2, 1) := by decide +kernel
theorem dX8_clearStanding_2 : decode cX8_clearStanding 2 = .ok (.iconst 0, 1) := by decide +kernel
theorem dX8_clearStanding_3 : decode cX8_clearStanding 3 = .ok (.istore_n 3, 1) := by decide +kernel
theorem dX8_clearStanding_4 : decode cX8_clearStanding 4 = .ok (.iload_n 3, 1) := by decide +kernel
theorem dX8_clearStanding_5 : decode cX8_clearStanding 5 = .ok (.aload_n 0, 1) := by decide +kernel
theorem dX8_clearStanding_6 : decode cX8_clearStanding 6 = .ok (.getfield 42, 3) := by decide +kernel
theorem dX8_clearStanding_9 : decode cX8_clearStanding 9 = .ok (.if_icmp .ge 85, 3) := by decide +kernel
theorem dX8_clearStanding_12 : decode cX8_clearStanding 12 = .ok (.aload_n 0, 1) := by decide +kernel
theorem dX8_clearStanding_13 : decode cX8_clearStanding 13 = .ok (.getfield 21, 3) := by decide +kernel
theorem dX8_clearStanding_16 : decode cX8_clearStanding 16 = .ok (.iload_n 3, 1) := by decide +kernel
theorem dX8_clearStanding_17 : decode cX8_clearStanding 17 = .ok (.iaload, 1) := by decide +kernel
theorem dX8_clearStanding_18 : decode cX8_clearStanding 18 = .ok (.iload_n 1, 1) := by decide +kernel
theorem dX8_clearStanding_19 : decode cX8_clearStanding 19 = .ok (.if_icmp .ne 6, 3) := by decide +kernel
theorem dX8_clearStanding_22 : decode cX8_clearStanding 22 = .ok (.goto 66, 3) := by decide +kernel
theorem dX8_clearStanding_25 : decode cX8_clearStanding 25 = .ok (.aload_n 0, 1) := by decide +kernel
theorem dX8_clearStanding_26 : decode cX8_clearStanding 26 = .ok (.getfield 21, 3) := by decide +kernel
theorem dX8_clearStanding_29 : decode cX8_clearStanding 29 = .ok (.iload_n 2, 1) := by decide +kernel
theorem dX8_clearStanding_30 : decode cX8_clearStanding 30 = .ok (.aload_n 0, 1) := by decide +kernel
theorem dX8_clearStanding_31 : decode cX8_clearStanding 31 = .ok (.getfield 21, 3) := by decide +kernel
theorem dX8_clearStanding_34 : decode cX8_clearStanding 34 = .ok (.iload_n 3, 1) := by decide +kernel
theorem dX8_clearStanding_35 : decode cX8_clearStanding 35 = .ok (.iaload, 1) := by decide +kernel
theorem dX8_clearStanding_36 : decode cX8_clearStanding 36 = .ok (.iastore, 1) := by decide +kernel
theorem dX8_clearStanding_37 : decode cX8_clearStanding 37 = .ok (.aload_n 0, 1) := by decide +kernel
theorem dX8_clearStanding_38 : decode cX8_clearStanding 38 = .ok (.getfield 24, 3) := by decide +kernel
theorem dX8_clearStanding_41 : decode cX8_clearStanding 41 = .ok (.iload_n 2, 1) := by decide +kernel
theorem dX8_clearStanding_42 : decode cX8_clearStanding 42 = .ok (.aload_n 0, 1) := by decide +kernel
theorem dX8_clearStanding_43 : decode cX8_clearStanding 43 = .ok (.getfield 24, 3) := by decide +kernel
theorem dX8_clearStanding_46 : decode cX8_clearStanding 46 = .ok (.iload_n 3, 1) := by decide +kernel
theorem dX8_clearStanding_47 : decode cX8_clearStanding 47 = .ok (.iaload, 1) := by decide +kernel
theorem dX8_clearStanding_48 : decode cX8_clearStanding 48 = .ok (.iastore, 1) := by decide +kernel
theorem dX8_clearStanding_49 : decode cX8_clearStanding 49 = .ok (.aload_n 0, 1) := by decide +kernel
theorem dX8_clearStanding_50 : decode cX8_clearStanding 50 = .ok (.getfield 27, 3) := by decide +kernel
theorem dX8_clearStanding_53 : decode cX8_clearStanding 53 = .ok (.iload_n 2, 1) := by decide +kernel
theorem dX8_clearStanding_54 : decode cX8_clearStanding 54 = .ok (.aload_n 0, 1) := by decide +kernel
theorem dX8_clearStanding_55 : decode cX8_clearStanding 55 = .ok (.getfield 27, 3) := by decide +kernel
theorem dX8_clearStanding_58 : decode cX8_clearStanding 58 = .ok (.iload_n 3, 1) := by decide +kernel
theorem dX8_clearStanding_59 : decode cX8_clearStanding 59 = .ok (.iaload, 1) := by decide +kernel
theorem dX8_clearStanding_60 : decode cX8_clearStanding 60 = .ok (.iastore, 1) := by decide +kernel
theorem dX8_clearStanding_61 : decode cX8_clearStanding 61 = .ok (.aload_n 0, 1) := by decide +kernel
theorem dX8_clearStanding_62 : decode cX8_clearStanding 62 = .ok (.getfield 30, 3) := by decide +kernel
theorem dX8_clearStanding_65 : decode cX8_clearStanding 65 = .ok (.iload_n 2, 1) := by decide +kernel
theorem dX8_clearStanding_66 : decode cX8_clearStanding 66 = .ok (.aload_n 0, 1) := by decide +kernel
theorem dX8_clearStanding_67 : decode cX8_clearStanding 67 = .ok (.getfield 30, 3) := by decide +kernel
theorem dX8_clearStanding_70 : decode cX8_clearStanding 70 = .ok (.iload_n 3, 1) := by decide +kernel
theorem dX8_clearStanding_71 : decode cX8_clearStanding 71 = .ok (.iaload, 1) := by decide +kernel
theorem dX8_clearStanding_72 : decode cX8_clearStanding 72 = .ok (.iastore, 1) := by decide +kernel
theorem dX8_clearStanding_73 : decode cX8_clearStanding 73 = .ok (.aload_n 0, 1) := by decide +kernel
theorem dX8_clearStanding_74 : decode cX8_clearStanding 74 = .ok (.getfield 33, 3) := by decide +kernel
theorem dX8_clearStanding_77 : decode cX8_clearStanding 77 = .ok (.iload_n 2, 1) := by decide +kernel
theorem dX8_clearStanding_78 : decode cX8_clearStanding 78 = .ok (.aload_n 0, 1) := by decide +kernel
theorem dX8_clearStanding_79 : decode cX8_clearStanding 79 = .ok (.getfield 33, 3) := by decide +kernel
theorem dX8_clearStanding_82 : decode cX8_clearStanding 82 = .ok (.iload_n 3, 1) := by decide +kernel
theorem dX8_clearStanding_83 : decode cX8_clearStanding 83 = .ok (.iaload, 1) := by decide +kernel
theorem dX8_clearStanding_84 : decode cX8_clearStanding 84 = .ok (.iastore, 1) := by decide +kernel
theorem dX8_clearStanding_85 : decode cX8_clearStanding 85 = .ok (.iinc 2 1, 3) := by decide +kernel
theorem dX8_clearStanding_88 : decode cX8_clearStanding 88 = .ok (.iinc 3 1, 3) := by decide +kernel
theorem dX8_clearStanding_91 : decode cX8_clearStanding 91 = .ok (.goto (-87), 3) := by decide +kernel
theorem dX8_clearStanding_94 : decode cX8_clearStanding 94 = .ok (.aload_n 0, 1) := by decide +kernel
theorem dX8_clearStanding_95 : decode cX8_clearStanding 95 = .ok (.iload_n 2, 1) := by decide +kernel
theorem dX8_clearStanding_96 : decode cX8_clearStanding 96 = .ok (.putfield 42, 3) := by decide +kernel
theorem dX8_clearStanding_99 : decode cX8_clearStanding 99 = .ok (.return_, 1) := by decide +kernel
theorem cm_X8_clearStanding : CM yX8_clearStanding cX8_clearStanding 4 none 1 8 := ⟨w_1150, w_26, w_1151, w_91, ⟨by decide +kernel, by decide +kernel, by decide +kernel⟩, ⟨_, _, rfl⟩, by decide⟩
noncomputable def f_X8_clearStanding_88 (n : Nat) (rec4 : Int → Int → MM → RR) (v0 v1 v2 v3 : Int) (h : MM) : RR :=
  lb (wr (v3 + 1)) fun x1 =>
  rec4 v2 x1 h
noncomputable def f_X8_clearStanding_4b (n : Nat) (rec4 : Int → Int → MM → RR) (v0 v1 v2 v3 : Int) (h : MM) : RR :=
  gf h v0 8 8 fun r1 =>
  if r1 ≤ v3 then
    pf h v0 8 8 v2 fun h3 =>
    some (0, h3)
  else
  gf h v0 8 3 fun r4 =>
  rd h r4 100 v3 fun r5 =>
  if r5 = v1 then
    f_X8_clearStanding_88 n rec4 v0 v1 v2 v3 h
  else
  gf h v0 8 3 fun r7 =>
  gf h v0 8 3 fun r8 =>
  rd h r8 100 v3 fun r9 =>
  wt h r7 100 v2 r9 fun h10 =>
  gf h10 v0 8 4 fun r11 =>
  gf h10 v0 8 4 fun r12 =>
  rd h10 r12 100 v3 fun r13 =>
  wt h10 r11 100 v2 r13 fun h14 =>
  gf h14 v0 8 5 fun r15 =>
  gf h14 v0 8 5 fun r16 =>
  rd h14 r16 100 v3 fun r17 =>
  wt h14 r15 100 v2 r17 fun h18 =>
  gf h18 v0 8 6 fun r19 =>
  gf h18 v0 8 6 fun r20 =>
  rd h18 r20 100 v3 fun r21 =>
  wt h18 r19 100 v2 r21 fun h22 =>
  gf h22 v0 8 7 fun r23 =>
  gf h22 v0 8 7 fun r24 =>
  rd h22 r24 100 v3 fun r25 =>
  wt h22 r23 100 v2 r25 fun h26 =>
  lb (wr (v2 + 1)) fun x27 =>
  f_X8_clearStanding_88 n rec4 v0 v1 x27 v3 h26
noncomputable def f_X8_clearStanding_4 (n : Nat)  (v0 v1 : Int) : Nat → Int → Int → MM → RR
  | 0, _, _, _ => none
  | k + 1, v2, v3, h => f_X8_clearStanding_4b n  (f_X8_clearStanding_4 n  v0 v1 k) v0 v1 v2 v3 h
noncomputable def f_X8_clearStanding (n : Nat) (v0 v1 : Int) (h : MM) : RR :=
  f_X8_clearStanding_4 n v0 v1 n 0 0 h
set_option maxRecDepth 20000 in
theorem b_X8_clearStanding_88 {g : GT} {Z : Int × MM} {n : Nat} (C : Cx g cX8_clearStanding 4 yX8_clearStanding 0 0) (hr : Rt g none 3 Z) {v0 v1 v2 v3 : Int}  {rec4 : Int → Int → MM → RR} (L4 : ∀ (u2 u3 : Int) (h : MM), in32 u2 → in32 u3 → rec4 u2 u3 h = some Z → G g 4 [(2, v0), (0, v1), (0, u2), (0, u3)] [] h) (cv1 : in32 v1) (cv2 : in32 v2) (cv3 : in32 v3) {h : MM} (hf : f_X8_clearStanding_88 n rec4 v0 v1 v2 v3 h = some Z) : G g 88 [(2, v0), (0, v1), (0, v2), (0, v3)] [] h := by
  unfold f_X8_clearStanding_88 at hf
  obtain ⟨x1, e1, hf⟩ := lb_s hf
  have c1 : in32 x1 := by rw [e1]; exact (in32_t _)
  refine r_iincL C dX8_clearStanding_88 rfl e1 (Nat.le_of_ble_eq_true rfl) rfl ?_
  refine r_goto C dX8_clearStanding_91 (tgt := 4) (by decide) ?_
  exact G.mask [true, true, true, true] rfl rfl (L4 _ _ _ cv2 c1 hf)
set_option maxRecDepth 20000 in
theorem b_X8_clearStanding_4b {g : GT} {Z : Int × MM} {n : Nat} (C : Cx g cX8_clearStanding 4 yX8_clearStanding 0 0) (hr : Rt g none 3 Z) {v0 v1 v2 v3 : Int}  {rec4 : Int → Int → MM → RR} (L4 : ∀ (u2 u3 : Int) (h : MM), in32 u2 → in32 u3 → rec4 u2 u3 h = some Z → G g 4 [(2, v0), (0, v1), (0, u2), (0, u3)] [] h) (cv1 : in32 v1) (cv2 : in32 v2) (cv3 : in32 v3) {h : MM} (hf : f_X8_clearStanding_4b n rec4 v0 v1 v2 v3 h = some Z) : G g 4 [(2, v0), (0, v1), (0, v2), (0, v3)] [] h := by
  unfold f_X8_clearStanding_4b at hf
  refine r_iload_n C dX8_clearStanding_4 rfl ?_
  refine r_aload_n C dX8_clearStanding_5 rfl ?_
  obtain ⟨q1, hf⟩ := gf_s hf
  refine r_gf C ct8 (j := 8) (ji := 8) dX8_clearStanding_6 q1 rfl rfl (by decide) w_226 rfl (fun c1 => ?_)
  have c1 : in32 _ := c1
  refine r_icmp_ge C dX8_clearStanding_9 (tgt := 94) (by decide) cv3 c1 (fun n2 => ?_) (fun n2 => ?_)
  · have hf := ite_p n2 hf
    refine r_aload_n C dX8_clearStanding_94 rfl ?_
    refine r_iload_n C dX8_clearStanding_95 rfl ?_
    obtain ⟨q3, hf⟩ := pf_s hf
    refine r_pf C ct8 (j := 8) (ji := 8) dX8_clearStanding_96 q3 rfl rfl (by decide) w_226 rfl (Or.inl rfl) nar_int cv2 ?_
    cases hf
    exact r_vret C hr dX8_clearStanding_99
  · have hf := ite_n n2 hf
    refine r_aload_n C dX8_clearStanding_12 rfl ?_
    obtain ⟨q4, hf⟩ := gf_s hf
    refine r_gf C ct8 (j := 3) (ji := 3) dX8_clearStanding_13 q4 rfl rfl (by decide) w_221 rfl (fun c4 => ?_)
    refine r_iload_n C dX8_clearStanding_16 rfl ?_
    obtain ⟨q5, hf⟩ := rd_s hf
    refine r_iald C dX8_clearStanding_17 q5 rfl (fun c5 => ?_)
    refine r_iload_n C dX8_clearStanding_18 rfl ?_
    refine r_icmp_ne C dX8_clearStanding_19 (tgt := 25) (by decide) c5 cv1 (fun n6 => ?_) (fun n6 => ?_)
    · have hf := ite_n n6 hf
      refine r_aload_n C dX8_clearStanding_25 rfl ?_
      obtain ⟨q7, hf⟩ := gf_s hf
      refine r_gf C ct8 (j := 3) (ji := 3) dX8_clearStanding_26 q7 rfl rfl (by decide) w_221 rfl (fun c7 => ?_)
      refine r_iload_n C dX8_clearStanding_29 rfl ?_
      refine r_aload_n C dX8_clearStanding_30 rfl ?_
      obtain ⟨q8, hf⟩ := gf_s hf
      refine r_gf C ct8 (j := 3) (ji := 3) dX8_clearStanding_31 q8 rfl rfl (by decide) w_221 rfl (fun c8 => ?_)
      refine r_iload_n C dX8_clearStanding_34 rfl ?_
      obtain ⟨q9, hf⟩ := rd_s hf
      refine r_iald C dX8_clearStanding_35 q9 rfl (fun c9 => ?_)
      obtain ⟨q10, hf⟩ := wt_s hf
      refine r_iast C dX8_clearStanding_36 q10 rfl c9 ?_
      refine r_aload_n C dX8_clearStanding_37 rfl ?_
      obtain ⟨q11, hf⟩ := gf_s hf
      refine r_gf C ct8 (j := 4) (ji := 4) dX8_clearStanding_38 q11 rfl rfl (by decide) w_222 rfl (fun c11 => ?_)
      refine r_iload_n C dX8_clearStanding_41 rfl ?_
      refine r_aload_n C dX8_clearStanding_42 rfl ?_
      obtain ⟨q12, hf⟩ := gf_s hf
      refine r_gf C ct8 (j := 4) (ji := 4) dX8_clearStanding_43 q12 rfl rfl (by decide) w_222 rfl (fun c12 => ?_)
      refine r_iload_n C dX8_clearStanding_46 rfl ?_
      obtain ⟨q13, hf⟩ := rd_s hf
      refine r_iald C dX8_clearStanding_47 q13 rfl (fun c13 => ?_)
      obtain ⟨q14, hf⟩ := wt_s hf
      refine r_iast C dX8_clearStanding_48 q14 rfl c13 ?_
      refine r_aload_n C dX8_clearStanding_49 rfl ?_
      obtain ⟨q15, hf⟩ := gf_s hf
      refine r_gf C ct8 (j := 5) (ji := 5) dX8_clearStanding_50 q15 rfl rfl (by decide) w_223 rfl (fun c15 => ?_)
      refine r_iload_n C dX8_clearStanding_53 rfl ?_
      refine r_aload_n C dX8_clearStanding_54 rfl ?_
      obtain ⟨q16, hf⟩ := gf_s hf
      refine r_gf C ct8 (j := 5) (ji := 5) dX8_clearStanding_55 q16 rfl rfl (by decide) w_223 rfl (fun c16 => ?_)
      refine r_iload_n C dX8_clearStanding_58 rfl ?_
      obtain ⟨q17, hf⟩ := rd_s hf
      refine r_iald C dX8_clearStanding_59 q17 rfl (fun c17 => ?_)
      obtain ⟨q18, hf⟩ := wt_s hf
      refine r_iast C dX8_clearStanding_60 q18 rfl c17 ?_
      refine r_aload_n C dX8_clearStanding_61 rfl ?_
      obtain ⟨q19, hf⟩ := gf_s hf
      refine r_gf C ct8 (j := 6) (ji := 6) dX8_clearStanding_62 q19 rfl rfl (by decide) w_224 rfl (fun c19 => ?_)
      refine r_iload_n C dX8_clearStanding_65 rfl ?_
      refine r_aload_n C dX8_clearStanding_66 rfl ?_
      obtain ⟨q20, hf⟩ := gf_s hf
      refine r_gf C ct8 (j := 6) (ji := 6) dX8_clearStanding_67 q20 rfl rfl (by decide) w_224 rfl (fun c20 => ?_)
      refine r_iload_n C dX8_clearStanding_70 rfl ?_
      obtain ⟨q21, hf⟩ := rd_s hf
      refine r_iald C dX8_clearStanding_71 q21 rfl (fun c21 => ?_)
      obtain ⟨q22, hf⟩ := wt_s hf
      refine r_iast C dX8_clearStanding_72 q22 rfl c21 ?_
      refine r_aload_n C dX8_clearStanding_73 rfl ?_
      obtain ⟨q23, hf⟩ := gf_s hf
      refine r_gf C ct8 (j := 7) (ji := 7) dX8_clearStanding_74 q23 rfl rfl (by decide) w_225 rfl (fun c23 => ?_)
      refine r_iload_n C dX8_clearStanding_77 rfl ?_
      refine r_aload_n C dX8_clearStanding_78 rfl ?_
      obtain ⟨q24, hf⟩ := gf_s hf
      refine r_gf C ct8 (j := 7) (ji := 7) dX8_clearStanding_79 q24 rfl rfl (by decide) w_225 rfl (fun c24 => ?_)
      refine r_iload_n C dX8_clearStanding_82 rfl ?_
      obtain ⟨q25, hf⟩ := rd_s hf
      refine r_iald C dX8_clearStanding_83 q25 rfl (fun c25 => ?_)
      obtain ⟨q26, hf⟩ := wt_s hf
      refine r_iast C dX8_clearStanding_84 q26 rfl c25 ?_
      obtain ⟨x27, e27, hf⟩ := lb_s hf
      have c27 : in32 x27 := by rw [e27]; exact (in32_t _)
      refine r_iincL C dX8_clearStanding_85 rfl e27 (Nat.le_of_ble_eq_true rfl) rfl ?_
      exact G.mask [true, true, true, true] rfl rfl (b_X8_clearStanding_88 C hr L4 cv1 c27 cv3 hf)
    · have hf := ite_p n6 hf
      refine r_goto C dX8_clearStanding_22 (tgt := 88) (by decide) ?_
      exact G.mask [true, true, true, true] rfl rfl (b_X8_clearStanding_88 C hr L4 cv1 cv2 cv3 hf)
set_option maxRecDepth 20000 in
theorem l_X8_clearStanding_4 {g : GT} {Z : Int × MM} {n : Nat} (C : Cx g cX8_clearStanding 4 yX8_clearStanding 0 0) (hr : Rt g none 3 Z) {v0 v1 : Int}   (cv1 : in32 v1) : ∀ (k : Nat) (v2 v3 : Int) (h : MM), in32 v2 → in32 v3 → f_X8_clearStanding_4 n  v0 v1 k v2 v3 h = some Z → G g 4 [(2, v0), (0, v1), (0, v2), (0, v3)] [] h := by
  intro k
  induction k with
  | zero => intro v2 v3 h cv2 cv3 hf; exact absurd hf (by intro z; cases z)
  | succ k ih => intro v2 v3 h cv2 cv3 hf; exact b_X8_clearStanding_4b C hr (rec4 := f_X8_clearStanding_4 n  v0 v1 k)  ih cv1 cv2 cv3 (show f_X8_clearStanding_4b n  (f_X8_clearStanding_4 n  v0 v1 k) v0 v1 v2 v3 h = some Z from hf)
set_option maxRecDepth 20000 in
theorem e_X8_clearStanding {g : GT} {Z : Int × MM} {n : Nat} (C : Cx g cX8_clearStanding 4 yX8_clearStanding 0 0) (hr : Rt g none 3 Z) {v0 v1 : Int} (cv0 : cK 2 v0) (cv1 : cK 0 v1) {h : MM} (hf : f_X8_clearStanding n v0 v1 h = some Z) : G g 0 [(2, v0), (0, v1), (3, 0), (3, 0)] [] h := by
  have cv1 : in32 v1 := cv1
  unfold f_X8_clearStanding at hf
  refine r_iconst C dX8_clearStanding_0 ?_
  refine r_istore_n C dX8_clearStanding_1 (Nat.le_of_ble_eq_true rfl) rfl ?_
  refine r_iconst C dX8_clearStanding_2 ?_
  refine r_istore_n C dX8_clearStanding_3 (Nat.le_of_ble_eq_true rfl) rfl ?_
  exact G.mask [true, true, true, true] rfl rfl (l_X8_clearStanding_4 C hr  cv1 _ _ _ _ (in32_of rfl) (in32_of rfl) hf)
set_option maxRecDepth 20000 in
theorem am_X8_clearStanding (l : Launch) (n : Nat) : AM l yX8_clearStanding cX8_clearStanding 4 none 0 0 [2, 0] 3 (un2 (f_X8_clearStanding n)) := by
  refine AM.intro (by decide) (fun xs hx => ?_) (fun g xs h Z hl C hr hx hf => ?_)
  · obtain ⟨a0, a1, rfl, c0, c1⟩ := canL_2 hx
    exact Nat.le_of_ble_eq_true rfl
  · obtain ⟨a0, a1, rfl, c0, c1⟩ := canL_2 hx
    have hf := (un2_e _ a0 a1 _).symm.trans hf
    exact e_X8_clearStanding (n := n) C hr c0 c1 hf
