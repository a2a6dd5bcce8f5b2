theorem w_1148 : (Cond.methodLink "LinesPromised$Scrip" 61 ⟨"LinesPromised$Scrip", "clearStanding", "(I)V"⟩) ∈ wG := wG_in 1148 (by decide +kernel) (by decide +kernel)
theorem w_1133 : (Cond.methodLink "LinesPromised$Scrip" 46 ⟨"LinesPromised$Scrip", "best", "(II)I"⟩) ∈ wG := wG_in 1133 (by decide +kernel) (by decide +kernel)
theorem w_1137 : (Cond.methodLink "LinesPromised$Scrip" 50 ⟨"LinesPromised$Scrip", "goes", "(III)I"⟩) ∈ wG := wG_in 1137 (by decide +kernel) (by decide +kernel)
theorem w_1143 : (Cond.methodLink "LinesPromised$Scrip" 54 ⟨"LinesPromised$Scrip", "sell", "(IIII)V"⟩) ∈ wG := wG_in 1143 (by decide +kernel) (by decide +kernel)
theorem w_1132 : (Cond.code ⟨"LinesPromised$Scrip", "tradeIn", "(I)I"⟩ prog_10_method_7_code 7 (some .int)) ∈ wG := wG_in 1132 (by decide +kernel) (by decide +kernel)
theorem w_1130 : (Cond.instanceMethod ⟨"LinesPromised$Scrip", "tradeIn", "(I)I"⟩) ∈ wG := wG_in 1130 (by decide +kernel) (by decide +kernel)
theorem w_1131 : (Cond.selects "LinesPromised$Scrip" ⟨"LinesPromised$Scrip", "tradeIn", "(I)I"⟩ ⟨"LinesPromised$Scrip", "tradeIn", "(I)I"⟩) ∈ wG := wG_in 1131 (by decide +kernel) (by decide +kernel)
theorem w_1129 : (Cond.methodLink "LinesPromised" 337 ⟨"LinesPromised$Scrip", "tradeIn", "(I)I"⟩) ∈ wG := wG_in 1129 (by decide +kernel) (by decide +kernel)
theorem w_1128 : (Cond.code ⟨"LinesPromised", "price", "(I)I"⟩ prog_1_method_32_code 3 (some .int)) ∈ wG := wG_in 1128 (by decide +kernel) (by decide +kernel)
theorem w_1126 : (Cond.instanceMethod ⟨"LinesPromised", "price", "(I)I"⟩) ∈ wG := wG_in 1126 (by decide +kernel) (by decide +kernel)
theorem w_1127 : (Cond.selects "LinesPromised" ⟨"LinesPromised", "price", "(I)I"⟩ ⟨"LinesPromised", "price", "(I)I"⟩) ∈ wG := wG_in 1127 (by decide +kernel) (by decide +kernel)
theorem w_220 : (Cond.fieldLink "LinesPromised" 340 "LinesPromised$Scrip" "latest" "[I") ∈ wG := wG_in 220 (by decide +kernel) (by decide +kernel)
theorem w_1155 : (Cond.code ⟨"LinesPromised", "read", "(I)I"⟩ prog_1_method_33_code 3 (some .int)) ∈ wG := wG_in 1155 (by decide +kernel) (by decide +kernel)
theorem w_1153 : (Cond.instanceMethod ⟨"LinesPromised", "read", "(I)I"⟩) ∈ wG := wG_in 1153 (by decide +kernel) (by decide +kernel)
theorem w_1154 : (Cond.selects "LinesPromised" ⟨"LinesPromised", "read", "(I)I"⟩ ⟨"LinesPromised", "read", "(I)I"⟩) ∈ wG := wG_in 1154 (by decide +kernel) (by decide +kernel)
theorem w_721 : (Cond.fieldLink "LinesPromised$Papers" 86 "LinesPromised$Paper" "day" "I") ∈ wG := wG_in 721 (by decide +kernel) (by decide +kernel)
theorem w_1167 : (Cond.code ⟨"LinesPromised$Papers", "latestCall", "(I)I"⟩ prog_7_method_14_code 4 (some .int)) ∈ wG := wG_in 1167 (by decide +kernel) (by decide +kernel)
theorem w_1165 : (Cond.instanceMethod ⟨"LinesPromised$Papers", "latestCall", "(I)I"⟩) ∈ wG := wG_in 1165 (by decide +kernel) (by decide +kernel)
theorem w_1166 : (Cond.selects "LinesPromised$Papers" ⟨"LinesPromised$Papers", "latestCall", "(I)I"⟩ ⟨"LinesPromised$Papers", "latestCall", "(I)I"⟩) ∈ wG := wG_in 1166 (by decide +kernel) (by decide +kernel)
theorem w_1164 : (Cond.methodLink "LinesPromised$World" 212 ⟨"LinesPromised$Papers", "latestCall", "(I)I"⟩) ∈ wG := wG_in 1164 (by decide +kernel) (by decide +kernel)
theorem w_1163 : (Cond.code ⟨"LinesPromised$World", "isTooSoon", "(I)Z"⟩ prog_12_method_15_code 3 (some .boolean)) ∈ wG := wG_in 1163 (by decide +kernel) (by decide +kernel)
theorem w_1161 : (Cond.instanceMethod ⟨"LinesPromised$World", "isTooSoon", "(I)Z"⟩) ∈ wG := wG_in 1161 (by decide +kernel) (by decide +kernel)
theorem w_1162 : (Cond.selects "LinesPromised$World" ⟨"LinesPromised$World", "isTooSoon", "(I)Z"⟩ ⟨"LinesPromised$World", "isTooSoon", "(I)Z"⟩) ∈ wG := wG_in 1162 (by decide +kernel) (by decide +kernel)
theorem w_1160 : (Cond.methodLink "LinesPromised" 343 ⟨"LinesPromised$World", "isTooSoon", "(I)Z"⟩) ∈ wG := wG_in 1160 (by decide +kernel) (by decide +kernel)
theorem w_1159 : (Cond.code ⟨"LinesPromised", "call", "(II)I"⟩ prog_1_method_34_code 4 (some .int)) ∈ wG := wG_in 1159 (by decide +kernel) (by decide +kernel)
theorem w_1157 : (Cond.instanceMethod ⟨"LinesPromised", "call", "(II)I"⟩) ∈ wG := wG_in 1157 (by decide +kernel) (by decide +kernel)
theorem w_1158 : (Cond.selects "LinesPromised" ⟨"LinesPromised", "call", "(II)I"⟩ ⟨"LinesPromised", "call", "(II)I"⟩) ∈ wG := wG_in 1158 (by decide +kernel) (by decide +kernel)
theorem w_1171 : (Cond.code ⟨"LinesPromised", "lend", "(III)I"⟩ prog_1_method_35_code 6 (some .int)) ∈ wG := wG_in 1171 (by decide +kernel) (by decide +kernel)
theorem w_1169 : (Cond.instanceMethod ⟨"LinesPromised", "lend", "(III)I"⟩) ∈ wG := wG_in 1169 (by decide +kernel) (by decide +kernel)
theorem w_1170 : (Cond.selects "LinesPromised" ⟨"LinesPromised", "lend", "(III)I"⟩ ⟨"LinesPromised", "lend", "(III)I"⟩) ∈ wG := wG_in 1170 (by decide +kernel) (by decide +kernel)
theorem w_713 : (Cond.fieldLink "LinesPromised$Debts" 73 "LinesPromised$Paper" "kind" "I") ∈ wG := wG_in 713 (by decide +kernel) (by decide +kernel)
theorem w_751 : (Cond.fieldLink "LinesPromised$Debts" 79 "LinesPromised$Paper" "slot" "I") ∈ wG := wG_in 751 (by decide +kernel) (by decide +kernel)
theorem w_747 : (Cond.fieldLink "LinesPromised$Debts" 82 "LinesPromised$Paper" "sum" "I") ∈ wG := wG_in 747 (by decide +kernel) (by decide +kernel)
theorem w_1187 : (Cond.methodLink "LinesPromised$Debts" 85 ⟨"LinesPromised$Scrip", "sharesOf", "(II)I"⟩) ∈ wG := wG_in 1187 (by decide +kernel) (by decide +kernel)
theorem w_1186 : (Cond.methodLink "LinesPromised$Debts" 69 ⟨"LinesPromised$Papers", "isMarked", "(I)Z"⟩) ∈ wG := wG_in 1186 (by decide +kernel) (by decide +kernel)
theorem w_732 : (Cond.fieldLink "LinesPromised$Debts" 76 "LinesPromised$Paper" "first" "I") ∈ wG := wG_in 732 (by decide +kernel) (by decide +kernel)
theorem w_178 : (Cond.fieldLink "LinesPromised$Debts" 57 "LinesPromised$Papers" "size" "I") ∈ wG := wG_in 178 (by decide +kernel) (by decide +kernel)
theorem w_1185 : (Cond.methodLink "LinesPromised$Debts" 60 ⟨"LinesPromised$Papers", "get", "(I)LLinesPromised$Paper;"⟩) ∈ wG := wG_in 1185 (by decide +kernel) (by decide +kernel)
theorem w_717 : (Cond.fieldLink "LinesPromised$Debts" 64 "LinesPromised$Paper" "of" "I") ∈ wG := wG_in 717 (by decide +kernel) (by decide +kernel)
theorem w_1184 : (Cond.methodLink "LinesPromised$Debts" 44 ⟨"java/util/Arrays", "fill", "([II)V"⟩) ∈ wG := wG_in 1184 (by decide +kernel) (by decide +kernel)
theorem w_1183 : (Cond.code ⟨"LinesPromised$Debts", "gather", "(LLinesPromised$Papers;LLinesPromised$Scrip;)V"⟩ prog_2_method_3_code 7 none) ∈ wG := wG_in 1183 (by decide +kernel) (by decide +kernel)
theorem w_1182 : (Cond.instanceMethod ⟨"LinesPromised$Debts", "gather", "(LLinesPromised$Papers;LLinesPromised$Scrip;)V"⟩) ∈ wG := wG_in 1182 (by decide +kernel) (by decide +kernel)
theorem w_27 : (Cond.selects "LinesPromised$Debts" ⟨"LinesPromised$Debts", "gather", "(LLinesPromised$Papers;LLinesPromised$Scrip;)V"⟩ ⟨"LinesPromised$Debts", "gather", "(LLinesPromised$Papers;LLinesPromised$Scrip;)V"⟩) ∈ wG := wG_in 27 (by decide +kernel) (by decide +kernel)
theorem w_1191 : (Cond.code ⟨"LinesPromised$Debts", "addUpDue", "()V"⟩ prog_2_method_4_code 2 none) ∈ wG := wG_in 1191 (by decide +kernel) (by decide +kernel)
theorem w_1190 : (Cond.instanceMethod ⟨"LinesPromised$Debts", "addUpDue", "()V"⟩) ∈ wG := wG_in 1190 (by decide +kernel) (by decide +kernel)
theorem w_28 : (Cond.selects "LinesPromised$Debts" ⟨"LinesPromised$Debts", "addUpDue", "()V"⟩ ⟨"LinesPromised$Debts", "addUpDue", "()V"⟩) ∈ wG := wG_in 28 (by decide +kernel) (by decide +kernel)
theorem w_395 : (Cond.fieldLink "LinesPromised$Debts" 36 "LinesPromised$Debts" "schemes" "I") ∈ wG := wG_in 395 (by decide +kernel) (by decide +kernel)
theorem w_1195 : (Cond.code ⟨"LinesPromised$Debts", "addUpIncome", "()V"⟩ prog_2_method_5_code 3 none) ∈ wG := wG_in 1195 (by decide +kernel) (by decide +kernel)
theorem w_1194 : (Cond.instanceMethod ⟨"LinesPromised$Debts", "addUpIncome", "()V"⟩) ∈ wG := wG_in 1194 (by decide +kernel) (by decide +kernel)
theorem w_29 : (Cond.selects "LinesPromised$Debts" ⟨"LinesPromised$Debts", "addUpIncome", "()V"⟩ ⟨"LinesPromised$Debts", "addUpIncome", "()V"⟩) ∈ wG := wG_in 29 (by decide +kernel) (by decide +kernel)
theorem w_216 : (Cond.fieldLink "LinesPromised$Debts" 95 "LinesPromised$Scrip" "coins" "[I") ∈ wG := wG_in 216 (by decide +kernel) (by decide +kernel)
theorem w_1204 : (Cond.methodLink "LinesPromised$Debts" 98 ⟨"java/lang/Math", "min", "(JJ)J"⟩) ∈ wG := wG_in 1204 (by decide +kernel) (by decide +kernel)
theorem w_1203 : (Cond.code ⟨"LinesPromised$Debts", "part", "(LLinesPromised$Scrip;II)I"⟩ prog_2_method_7_code 6 (some .int)) ∈ wG := wG_in 1203 (by decide +kernel) (by decide +kernel)
theorem w_1202 : (Cond.instanceMethod ⟨"LinesPromised$Debts", "part", "(LLinesPromised$Scrip;II)I"⟩) ∈ wG := wG_in 1202 (by decide +kernel) (by decide +kernel)
theorem w_31 : (Cond.selects "LinesPromised$Debts" ⟨"LinesPromised$Debts", "part", "(LLinesPromised$Scrip;II)I"⟩ ⟨"LinesPromised$Debts", "part", "(LLinesPromised$Scrip;II)I"⟩) ∈ wG := wG_in 31 (by decide +kernel) (by decide +kernel)
theorem w_1200 : (Cond.methodLink "LinesPromised$Debts" 91 ⟨"LinesPromised$Debts", "part", "(LLinesPromised$Scrip;II)I"⟩) ∈ wG := wG_in 1200 (by decide +kernel) (by decide +kernel)
theorem w_1199 : (Cond.code ⟨"LinesPromised$Debts", "payOnce", "(LLinesPromised$Scrip;)Z"⟩ prog_2_method_6_code 8 (some .boolean)) ∈ wG := wG_in 1199 (by decide +kernel) (by decide +kernel)
theorem w_1198 : (Cond.instanceMethod ⟨"LinesPromised$Debts", "payOnce", "(LLinesPromised$Scrip;)Z"⟩) ∈ wG := wG_in 1198 (by decide +kernel) (by decide +kernel)
theorem w_30 : (Cond.selects "LinesPromised$Debts" ⟨"LinesPromised$Debts", "payOnce", "(LLinesPromised$Scrip;)Z"⟩ ⟨"LinesPromised$Debts", "payOnce", "(LLinesPromised$Scrip;)Z"⟩) ∈ wG := wG_in 30 (by decide +kernel) (by decide +kernel)
theorem w_1192 : (Cond.methodLink "LinesPromised$Debts" 50 ⟨"LinesPromised$Debts", "addUpIncome", "()V"⟩) ∈ wG := wG_in 1192 (by decide +kernel) (by decide +kernel)
theorem w_1196 : (Cond.methodLink "LinesPromised$Debts" 53 ⟨"LinesPromised$Debts", "payOnce", "(LLinesPromised$Scrip;)Z"⟩) ∈ wG := wG_in 1196 (by decide +kernel) (by decide +kernel)
theorem w_181 : (Cond.fieldLink "LinesPromised$Debts" 30 "LinesPromised$Papers" "schemes" "I") ∈ wG := wG_in 181 (by decide +kernel) (by decide +kernel)
theorem w_1180 : (Cond.methodLink "LinesPromised$Debts" 37 ⟨"LinesPromised$Debts", "gather", "(LLinesPromised$Papers;LLinesPromised$Scrip;)V"⟩) ∈ wG := wG_in 1180 (by decide +kernel) (by decide +kernel)
theorem w_1188 : (Cond.methodLink "LinesPromised$Debts" 41 ⟨"LinesPromised$Debts", "addUpDue", "()V"⟩) ∈ wG := wG_in 1188 (by decide +kernel) (by decide +kernel)
theorem w_1179 : (Cond.code ⟨"LinesPromised$Debts", "reckon", "(LLinesPromised$Papers;LLinesPromised$Scrip;)V"⟩ prog_2_method_2_code 5 none) ∈ wG := wG_in 1179 (by decide +kernel) (by decide +kernel)
theorem w_1177 : (Cond.instanceMethod ⟨"LinesPromised$Debts", "reckon", "(LLinesPromised$Papers;LLinesPromised$Scrip;)V"⟩) ∈ wG := wG_in 1177 (by decide +kernel) (by decide +kernel)
theorem w_1178 : (Cond.selects "LinesPromised$Debts" ⟨"LinesPromised$Debts", "reckon", "(LLinesPromised$Papers;LLinesPromised$Scrip;)V"⟩ ⟨"LinesPromised$Debts", "reckon", "(LLinesPromised$Papers;LLinesPromised$Scrip;)V"⟩) ∈ wG := wG_in 1178 (by decide +kernel) (by decide +kernel)
theorem w_1210 : (Cond.code ⟨"LinesPromised$Debts", "payOut", "(LLinesPromised$Scrip;)V"⟩ prog_2_method_9_code 4 none) ∈ wG := wG_in 1210 (by decide +kernel) (by decide +kernel)
theorem w_1208 : (Cond.instanceMethod ⟨"LinesPromised$Debts", "payOut", "(LLinesPromised$Scrip;)V"⟩) ∈ wG := wG_in 1208 (by decide +kernel) (by decide +kernel)
theorem w_1209 : (Cond.selects "LinesPromised$Debts" ⟨"LinesPromised$Debts", "payOut", "(LLinesPromised$Scrip;)V"⟩ ⟨"LinesPromised$Debts", "payOut", "(LLinesPromised$Scrip;)V"⟩) ∈ wG := wG_in 1209 (by decide +kernel) (by decide +kernel)
theorem w_1218 : (Cond.code ⟨"LinesPromised$Debts", "paidBy", "(I)I"⟩ prog_2_method_8_code 4 (some .int)) ∈ wG := wG_in 1218 (by decide +kernel) (by decide +kernel)
theorem w_1216 : (Cond.instanceMethod ⟨"LinesPromised$Debts", "paidBy", "(I)I"⟩) ∈ wG := wG_in 1216 (by decide +kernel) (by decide +kernel)
theorem w_1217 : (Cond.selects "LinesPromised$Debts" ⟨"LinesPromised$Debts", "paidBy", "(I)I"⟩ ⟨"LinesPromised$Debts", "paidBy", "(I)I"⟩) ∈ wG := wG_in 1217 (by decide +kernel) (by decide +kernel)
theorem w_1222 : (Cond.code ⟨"LinesPromised$Debts", "isEnded", "(LLinesPromised$Paper;I)Z"⟩ prog_2_method_11_code 2 (some .boolean)) ∈ wG := wG_in 1222 (by decide +kernel) (by decide +kernel)
theorem w_1221 : (Cond.static ⟨"LinesPromised$Debts", "isEnded", "(LLinesPromised$Paper;I)Z"⟩) ∈ wG := wG_in 1221 (by decide +kernel) (by decide +kernel)
theorem w_1220 : (Cond.methodLink "LinesPromised$Debts" 112 ⟨"LinesPromised$Debts", "isEnded", "(LLinesPromised$Paper;I)Z"⟩) ∈ wG := wG_in 1220 (by decide +kernel) (by decide +kernel)
theorem w_1223 : (Cond.methodLink "LinesPromised$Debts" 116 ⟨"LinesPromised$Papers", "mark", "(I)V"⟩) ∈ wG := wG_in 1223 (by decide +kernel) (by decide +kernel)
theorem w_1219 : (Cond.methodLink "LinesPromised$Debts" 108 ⟨"LinesPromised$Scrip", "pass", "(IIII)V"⟩) ∈ wG := wG_in 1219 (by decide +kernel) (by decide +kernel)
theorem w_1215 : (Cond.methodLink "LinesPromised$Debts" 104 ⟨"LinesPromised$Debts", "paidBy", "(I)I"⟩) ∈ wG := wG_in 1215 (by decide +kernel) (by decide +kernel)
theorem w_1214 : (Cond.code ⟨"LinesPromised$Debts", "fell", "(LLinesPromised$Papers;LLinesPromised$Scrip;)I"⟩ prog_2_method_10_code 7 (some .int)) ∈ wG := wG_in 1214 (by decide +kernel) (by decide +kernel)
theorem w_1212 : (Cond.instanceMethod ⟨"LinesPromised$Debts", "fell", "(LLinesPromised$Papers;LLinesPromised$Scrip;)I"⟩) ∈ wG := wG_in 1212 (by decide +kernel) (by decide +kernel)
theorem w_1213 : (Cond.selects "LinesPromised$Debts" ⟨"LinesPromised$Debts", "fell", "(LLinesPromised$Papers;LLinesPromised$Scrip;)I"⟩ ⟨"LinesPromised$Debts", "fell", "(LLinesPromised$Papers;LLinesPromised$Scrip;)I"⟩) ∈ wG := wG_in 1213 (by decide +kernel) (by decide +kernel)
theorem w_1176 : (Cond.methodLink "LinesPromised" 346 ⟨"LinesPromised$Debts", "reckon", "(LLinesPromised$Papers;LLinesPromised$Scrip;)V"⟩) ∈ wG := wG_in 1176 (by decide +kernel) (by decide +kernel)
theorem w_1207 : (Cond.methodLink "LinesPromised" 350 ⟨"LinesPromised$Debts", "payOut", "(LLinesPromised$Scrip;)V"⟩) ∈ wG := wG_in 1207 (by decide +kernel) (by decide +kernel)
theorem w_1211 : (Cond.methodLink "LinesPromised" 354 ⟨"LinesPromised$Debts", "fell", "(LLinesPromised$Papers;LLinesPromised$Scrip;)I"⟩) ∈ wG := wG_in 1211 (by decide +kernel) (by decide +kernel)
theorem w_1175 : (Cond.code ⟨"LinesPromised", "settle", "()I"⟩ prog_1_method_36_code 1 (some .int)) ∈ wG := wG_in 1175 (by decide +kernel) (by decide +kernel)
theorem w_1173 : (Cond.instanceMethod ⟨"LinesPromised", "settle", "()I"⟩) ∈ wG := wG_in 1173 (by decide +kernel) (by decide +kernel)
theorem w_1174 : (Cond.selects "LinesPromised" ⟨"LinesPromised", "settle", "()I"⟩ ⟨"LinesPromised", "settle", "()I"⟩) ∈ wG := wG_in 1174 (by decide +kernel) (by decide +kernel)
theorem w_1228 : (Cond.methodLink "LinesPromised" 358 ⟨"LinesPromised$Debts", "paidBy", "(I)I"⟩) ∈ wG := wG_in 1228 (by decide +kernel) (by decide +kernel)
theorem w_1227 : (Cond.code ⟨"LinesPromised", "along", "(II)I"⟩ prog_1_method_37_code 4 (some .int)) ∈ wG := wG_in 1227 (by decide +kernel) (by decide +kernel)
theorem w_1225 : (Cond.instanceMethod ⟨"LinesPromised", "along", "(II)I"⟩) ∈ wG := wG_in 1225 (by decide +kernel) (by decide +kernel)
theorem w_1226 : (Cond.selects "LinesPromised" ⟨"LinesPromised", "along", "(II)I"⟩ ⟨"LinesPromised", "along", "(II)I"⟩) ∈ wG := wG_in 1226 (by decide +kernel) (by decide +kernel)
/-! LinesPromised$Scrip.tradeIn(I)I -/
theorem dX8_tradeIn_0 : decode cX8_tradeIn 0 = .ok (.iconst 0, 1) := by decide +kernel
theorem dX8_tradeIn_1 : decode cX8_tradeIn 1 = .ok (.istore_n 2, 1) := by decide +kernel
theorem dX8_tradeIn_2 : decode cX8_tradeIn 2 = .ok (.iconst 0, 1) := by decide +kernel
theorem dX8_tradeIn_3 : decode cX8_tradeIn 3 = .ok (.istore_n 3, 1) := by decide +kernel
theorem dX8_tradeIn_4 : decode cX8_tradeIn 4 = .ok (.iload_n 3, 1) := by decide +kernel
theorem dX8_tradeIn_5 : decode cX8_tradeIn 5 = .ok (.sipush 4000, 3) := by decide +kernel
theorem dX8_tradeIn_8 : decode cX8_tradeIn 8 = .ok (.if_icmp .ge 120, 3) := by decide +kernel
theorem dX8_tradeIn_11 : decode cX8_tradeIn 11 = .ok (.aload_n 0, 1) := by decide +kernel
theorem dX8_tradeIn_12 : decode cX8_tradeIn 12 = .ok (.iload_n 1, 1) := by decide +kernel
theorem dX8_tradeIn_13 : decode cX8_tradeIn 13 = .ok (.iconst 0, 1) := by decide +kernel
theorem dX8_tradeIn_14 : decode cX8_tradeIn 14 = .ok (.invokevirtual 46, 3) := by decide +kernel
theorem dX8_tradeIn_17 : decode cX8_tradeIn 17 = .ok (.istore 4, 2) := by decide +kernel
theorem dX8_tradeIn_19 : decode cX8_tradeIn 19 = .ok (.aload_n 0, 1) := by decide +kernel
theorem dX8_tradeIn_20 : decode cX8_tradeIn 20 = .ok (.iload_n 1, 1) := by decide +kernel
theorem dX8_tradeIn_21 : decode cX8_tradeIn 21 = .ok (.iconst 1, 1) := by decide +kernel
theorem dX8_tradeIn_22 : decode cX8_tradeIn 22 = .ok (.invokevirtual 46, 3) := by decide +kernel
theorem dX8_tradeIn_25 : decode cX8_tradeIn 25 = .ok (.istore 5, 2) := by decide +kernel
theorem dX8_tradeIn_27 : decode cX8_tradeIn 27 = .ok (.iload 4, 2) := by decide +kernel
theorem dX8_tradeIn_29 : decode cX8_tradeIn 29 = .ok (.iconst (-1), 1) := by decide +kernel
theorem dX8_tradeIn_30 : decode cX8_tradeIn 30 = .ok (.if_icmp .eq 98, 3) := by decide +kernel
theorem dX8_tradeIn_33 : decode cX8_tradeIn 33 = .ok (.iload 5, 2) := by decide +kernel
theorem dX8_tradeIn_35 : decode cX8_tradeIn 35 = .ok (.iconst (-1), 1) := by decide +kernel
theorem dX8_tradeIn_36 : decode cX8_tradeIn 36 = .ok (.if_icmp .eq 92, 3) := by decide +kernel
theorem dX8_tradeIn_39 : decode cX8_tradeIn 39 = .ok (.aload_n 0, 1) := by decide +kernel
theorem dX8_tradeIn_40 : decode cX8_tradeIn 40 = .ok (.getfield 30, 3) := by decide +kernel
theorem dX8_tradeIn_43 : decode cX8_tradeIn 43 = .ok (.iload 5, 2) := by decide +kernel
theorem dX8_tradeIn_45 : decode cX8_tradeIn 45 = .ok (.iaload, 1) := by decide +kernel
theorem dX8_tradeIn_46 : decode cX8_tradeIn 46 = .ok (.aload_n 0, 1) := by decide +kernel
theorem dX8_tradeIn_47 : decode cX8_tradeIn 47 = .ok (.getfield 30, 3) := by decide +kernel
theorem dX8_tradeIn_50 : decode cX8_tradeIn 50 = .ok (.iload 4, 2) := by decide +kernel
theorem dX8_tradeIn_52 : decode cX8_tradeIn 52 = .ok (.iaload, 1) := by decide +kernel
theorem dX8_tradeIn_53 : decode cX8_tradeIn 53 = .ok (.if_icmp .ge 6, 3) := by decide +kernel
theorem dX8_tradeIn_56 : decode cX8_tradeIn 56 = .ok (.goto 72, 3) := by decide +kernel
theorem dX8_tradeIn_59 : decode cX8_tradeIn 59 = .ok (.aload_n 0, 1) := by decide +kernel
theorem dX8_tradeIn_60 : decode cX8_tradeIn 60 = .ok (.iload_n 1, 1) := by decide +kernel
theorem dX8_tradeIn_61 : decode cX8_tradeIn 61 = .ok (.iload 4, 2) := by decide +kernel
theorem dX8_tradeIn_63 : decode cX8_tradeIn 63 = .ok (.iload 5, 2) := by decide +kernel
theorem dX8_tradeIn_65 : decode cX8_tradeIn 65 = .ok (.invokevirtual 50, 3) := by decide +kernel
theorem dX8_tradeIn_68 : decode cX8_tradeIn 68 = .ok (.istore 6, 2) := by decide +kernel
theorem dX8_tradeIn_70 : decode cX8_tradeIn 70 = .ok (.iload 6, 2) := by decide +kernel
theorem dX8_tradeIn_72 : decode cX8_tradeIn 72 = .ok (.ifCond .le 22, 3) := by decide +kernel
theorem dX8_tradeIn_75 : decode cX8_tradeIn 75 = .ok (.aload_n 0, 1) := by decide +kernel
theorem dX8_tradeIn_76 : decode cX8_tradeIn 76 = .ok (.iload_n 1, 1) := by decide +kernel
theorem dX8_tradeIn_77 : decode cX8_tradeIn 77 = .ok (.iload 4, 2) := by decide +kernel
theorem dX8_tradeIn_79 : decode cX8_tradeIn 79 = .ok (.iload 5, 2) := by decide +kernel
theorem dX8_tradeIn_81 : decode cX8_tradeIn 81 = .ok (.iload 6, 2) := by decide +kernel
theorem dX8_tradeIn_83 : decode cX8_tradeIn 83 = .ok (.invokevirtual 54, 3) := by decide +kernel
theorem dX8_tradeIn_86 : decode cX8_tradeIn 86 = .ok (.iload_n 2, 1) := by decide +kernel
theorem dX8_tradeIn_87 : decode cX8_tradeIn 87 = .ok (.iload 6, 2) := by decide +kernel
theorem dX8_tradeIn_89 : decode cX8_tradeIn 89 = .ok (.iadd, 1) := by decide +kernel
theorem dX8_tradeIn_90 : decode cX8_tradeIn 90 = .ok (.istore_n 2, 1) := by decide +kernel
theorem dX8_tradeIn_91 : decode cX8_tradeIn 91 = .ok (.goto 31, 3) := by decide +kernel
theorem dX8_tradeIn_94 : decode cX8_tradeIn 94 = .ok (.aload_n 0, 1) := by decide +kernel
theorem dX8_tradeIn_95 : decode cX8_tradeIn 95 = .ok (.getfield 27, 3) := by decide +kernel
theorem dX8_tradeIn_98 : decode cX8_tradeIn 98 = .ok (.aload_n 0, 1) := by decide +kernel
theorem dX8_tradeIn_99 : decode cX8_tradeIn 99 = .ok (.iload_n 1, 1) := by decide +kernel
theorem dX8_tradeIn_100 : decode cX8_tradeIn 100 = .ok (.aload_n 0, 1) := by decide +kernel
theorem dX8_tradeIn_101 : decode cX8_tradeIn 101 = .ok (.getfield 24, 3) := by decide +kernel
theorem dX8_tradeIn_104 : decode cX8_tradeIn 104 = .ok (.iload 4, 2) := by decide +kernel
theorem dX8_tradeIn_106 : decode cX8_tradeIn 106 = .ok (.iaload, 1) := by decide +kernel
theorem dX8_tradeIn_107 : decode cX8_tradeIn 107 = .ok (.invokevirtual 58, 3) := by decide +kernel
theorem dX8_tradeIn_110 : decode cX8_tradeIn 110 = .ok (.ifCond .ne 8, 3) := by decide +kernel
theorem dX8_tradeIn_113 : decode cX8_tradeIn 113 = .ok (.iload 4, 2) := by decide +kernel
theorem dX8_tradeIn_115 : decode cX8_tradeIn 115 = .ok (.goto 5, 3) := by decide +kernel
theorem dX8_tradeIn_118 : decode cX8_tradeIn 118 = .ok (.iload 5, 2) := by decide +kernel
theorem dX8_tradeIn_120 : decode cX8_tradeIn 120 = .ok (.iconst 0, 1) := by decide +kernel
theorem dX8_tradeIn_121 : decode cX8_tradeIn 121 = .ok (.iastore, 1) := by decide +kernel
theorem dX8_tradeIn_122 : decode cX8_tradeIn 122 = .ok (.iinc 3 1, 3) := by decide +kernel
theorem dX8_tradeIn_125 : decode cX8_tradeIn 125 = .ok (.goto (-121), 3) := by decide +kernel
theorem dX8_tradeIn_128 : decode cX8_tradeIn 128 = .ok (.aload_n 0, 1) := by decide +kernel
theorem dX8_tradeIn_129 : decode cX8_tradeIn 129 = .ok (.iload_n 1, 1) := by decide +kernel
theorem dX8_tradeIn_130 : decode cX8_tradeIn 130 = .ok (.invokevirtual 61, 3) := by decide +kernel
theorem dX8_tradeIn_133 : decode cX8_tradeIn 133 = .ok (.iload_n 2, 1) := by decide +kernel
theorem dX8_tradeIn_134 : decode cX8_tradeIn 134 = .ok (.ireturn, 1) := by decide +kernel
theorem cm_X8_tradeIn : CM yX8_tradeIn cX8_tradeIn 7 (some .int) 1 8 := ⟨w_1130, w_1131, w_1132, w_91, ⟨by decide +kernel, by decide +kernel, by decide +kernel⟩, ⟨_, _, rfl⟩, by decide⟩
noncomputable def f_X8_tradeIn_128 (n : Nat)  (v0 v1 v2 : Int) (h : MM) : RR :=
  gk h v0 8 <|
  bd (f_X8_clearStanding n v0 v1 h) fun r1 h1 =>
  some (v2, h1)
noncomputable def f_X8_tradeIn_122 (n : Nat) (rec4 : Int → Int → MM → RR) (v0 v1 v2 v3 : Int) (h : MM) : RR :=
  lb (wr (v3 + 1)) fun x1 =>
  rec4 v2 x1 h
noncomputable def f_X8_tradeIn_120 (n : Nat) (rec4 : Int → Int → MM → RR) (v0 v1 v2 v3 s0 s1 : Int) (h : MM) : RR :=
  wt h s0 100 s1 0 fun h1 =>
  f_X8_tradeIn_122 n rec4 v0 v1 v2 v3 h1
noncomputable def f_X8_tradeIn_4b (n : Nat) (rec4 : Int → Int → MM → RR) (v0 v1 v2 v3 : Int) (h : MM) : RR :=
  if 4000 ≤ v3 then
    f_X8_tradeIn_128 n v0 v1 v2 h
  else
  gk h v0 8 <|
  bd (f_X8_best n v0 v1 0 h) fun r2 h2 =>
  gk h2 v0 8 <|
  bd (f_X8_best n v0 v1 1 h2) fun r3 h3 =>
  if r2 = (-1) then
    f_X8_tradeIn_128 n v0 v1 v2 h3
  else
  if r3 = (-1) then
    f_X8_tradeIn_128 n v0 v1 v2 h3
  else
  gf h3 v0 8 6 fun r6 =>
  rd h3 r6 100 r3 fun r7 =>
  gf h3 v0 8 6 fun r8 =>
  rd h3 r8 100 r2 fun r9 =>
  if r9 ≤ r7 then
    gk h3 v0 8 <|
    bd (f_X8_goes n v0 v1 r2 r3 h3) fun r11 h11 =>
    if r11 ≤ 0 then
      gf h11 v0 8 5 fun r13 =>
      gf h11 v0 8 4 fun r14 =>
      rd h11 r14 100 r2 fun r15 =>
      gk h11 v0 8 <|
      bd (f_X8_sharesOf n v0 v1 r15 h11) fun r16 h16 =>
      if r16 = 0 then
        f_X8_tradeIn_120 n rec4 v0 v1 v2 v3 r13 r2 h16
      else
      f_X8_tradeIn_120 n rec4 v0 v1 v2 v3 r13 r3 h16
    else
    gk h11 v0 8 <|
    bd (f_X8_sell n v0 v1 r2 r3 r11 h11) fun r18 h18 =>
    lb (wr (v2 + r11)) fun x19 =>
    f_X8_tradeIn_122 n rec4 v0 v1 x19 v3 h18
  else
  f_X8_tradeIn_128 n v0 v1 v2 h3
noncomputable def f_X8_tradeIn_4 (n : Nat)  (v0 v1 : Int) : Nat → Int → Int → MM → RR
  | 0, _, _, _ => none
  | k + 1, v2, v3, h => f_X8_tradeIn_4b n  (f_X8_tradeIn_4 n  v0 v1 k) v0 v1 v2 v3 h
noncomputable def f_X8_tradeIn (n : Nat) (v0 v1 : Int) (h : MM) : RR :=
  f_X8_tradeIn_4 n v0 v1 n 0 0 h
set_option maxRecDepth 20000 in
theorem b_X8_tradeIn_128 {g : GT} {Z : Int × MM} {n : Nat} (C : Cx g cX8_tradeIn 7 yX8_tradeIn 2 49) (hr : Rt g (some .int) 0 Z) {v0 v1 v2 : Int}    (cv1 : in32 v1) (cv2 : in32 v2) {h : MM} (hf : f_X8_tradeIn_128 n  v0 v1 v2 h = some Z) : G g 128 [(2, v0), (0, v1), (0, v2), (3, 0), (3, 0), (3, 0), (3, 0)] [] h := by
  unfold f_X8_tradeIn_128 at hf
  refine r_aload_n C dX8_tradeIn_128 rfl ?_
  refine r_iload_n C dX8_tradeIn_129 rfl ?_
  obtain ⟨p1, hf⟩ := gk_s hf
  obtain ⟨r1, h1, hq1, hf⟩ := bd_s hf
  refine r_cV1v C (am_X8_clearStanding (gl g) n) cm_X8_clearStanding w_1148 dX8_tradeIn_130 ⟨Nat.le_of_ble_eq_true rfl, Nat.le_of_ble_eq_true rfl⟩ p1 rfl cv1 rfl (Nat.le_of_ble_eq_true rfl) hq1 ?_
  refine r_iload_n C dX8_tradeIn_133 rfl ?_
  cases hf
  exact r_jret C hr dX8_tradeIn_134 cv2
set_option maxRecDepth 20000 in
theorem b_X8_tradeIn_122 {g : GT} {Z : Int × MM} {n : Nat} (C : Cx g cX8_tradeIn 7 yX8_tradeIn 2 49) (hr : Rt g (some .int) 0 Z) {v0 v1 v2 v3 : Int}  {rec4 : Int → Int → MM → RR} (L4 : ∀ (u2 u3 : Int) (h : MM), in32 u2 → in32 u3 → rec4 u2 u3 h = some Z → G g 4 [(2, v0), (0, v1), (0, u2), (0, u3), (3, 0), (3, 0), (3, 0)] [] h) (cv1 : in32 v1) (cv2 : in32 v2) (cv3 : in32 v3) {h : MM} (hf : f_X8_tradeIn_122 n rec4 v0 v1 v2 v3 h = some Z) : G g 122 [(2, v0), (0, v1), (0, v2), (0, v3), (3, 0), (3, 0), (3, 0)] [] h := by
  unfold f_X8_tradeIn_122 at hf
  obtain ⟨x1, e1, hf⟩ := lb_s hf
  have c1 : in32 x1 := by rw [e1]; exact (in32_t _)
  refine r_iincL C dX8_tradeIn_122 rfl e1 (Nat.le_of_ble_eq_true rfl) rfl ?_
  refine r_goto C dX8_tradeIn_125 (tgt := 4) (by decide) ?_
  exact G.mask [true, true, true, true, false, false, false] rfl rfl (L4 _ _ _ cv2 c1 hf)
set_option maxRecDepth 20000 in
theorem b_X8_tradeIn_120 {g : GT} {Z : Int × MM} {n : Nat} (C : Cx g cX8_tradeIn 7 yX8_tradeIn 2 49) (hr : Rt g (some .int) 0 Z) {v0 v1 v2 v3 s0 s1 : Int}  {rec4 : Int → Int → MM → RR} (L4 : ∀ (u2 u3 : Int) (h : MM), in32 u2 → in32 u3 → rec4 u2 u3 h = some Z → G g 4 [(2, v0), (0, v1), (0, u2), (0, u3), (3, 0), (3, 0), (3, 0)] [] h) (cv1 : in32 v1) (cv2 : in32 v2) (cv3 : in32 v3) (cs1 : in32 s1) {h : MM} (hf : f_X8_tradeIn_120 n rec4 v0 v1 v2 v3 s0 s1 h = some Z) : G g 120 [(2, v0), (0, v1), (0, v2), (0, v3), (3, 0), (3, 0), (3, 0)] [(0, s1), (2, s0)] h := by
  unfold f_X8_tradeIn_120 at hf
  refine r_iconst C dX8_tradeIn_120 ?_
  obtain ⟨q1, hf⟩ := wt_s hf
  refine r_iast C dX8_tradeIn_121 q1 rfl (in32_of rfl) ?_
  exact G.mask [true, true, true, true, false, false, false] rfl rfl (b_X8_tradeIn_122 C hr L4 cv1 cv2 cv3 hf)
set_option maxRecDepth 20000 in
theorem b_X8_tradeIn_4b {g : GT} {Z : Int × MM} {n : Nat} (C : Cx g cX8_tradeIn 7 yX8_tradeIn 2 49) (hr : Rt g (some .int) 0 Z) {v0 v1 v2 v3 : Int}  {rec4 : Int → Int → MM → RR} (L4 : ∀ (u2 u3 : Int) (h : MM), in32 u2 → in32 u3 → rec4 u2 u3 h = some Z → G g 4 [(2, v0), (0, v1), (0, u2), (0, u3), (3, 0), (3, 0), (3, 0)] [] h) (cv1 : in32 v1) (cv2 : in32 v2) (cv3 : in32 v3) {h : MM} (hf : f_X8_tradeIn_4b n rec4 v0 v1 v2 v3 h = some Z) : G g 4 [(2, v0), (0, v1), (0, v2), (0, v3), (3, 0), (3, 0), (3, 0)] [] h := by
  unfold f_X8_tradeIn_4b at hf
  refine r_iload_n C dX8_tradeIn_4 rfl ?_
  refine r_sipush C dX8_tradeIn_5 rfl ?_
  refine r_icmp_ge C dX8_tradeIn_8 (tgt := 128) (by decide) cv3 (in32_of rfl) (fun n1 => ?_) (fun n1 => ?_)
  · have hf := ite_p n1 hf
    exact G.mask [true, true, true, false, false, false, false] rfl rfl (b_X8_tradeIn_128 C hr  cv1 cv2 hf)
  · have hf := ite_n n1 hf
    refine r_aload_n C dX8_tradeIn_11 rfl ?_
    refine r_iload_n C dX8_tradeIn_12 rfl ?_
    refine r_iconst C dX8_tradeIn_13 ?_
    obtain ⟨p2, hf⟩ := gk_s hf
    obtain ⟨r2, h2, hq2, hf⟩ := bd_s hf
    refine r_cV2 C (am_X8_best (gl g) n) cm_X8_best w_1133 dX8_tradeIn_14 ⟨Nat.le_of_ble_eq_true rfl, Nat.le_of_ble_eq_true rfl⟩ p2 rfl cv1 (in32_of rfl) rfl (Nat.le_of_ble_eq_true rfl) hq2 (by decide) (fun c2 => ?_)
    have c2 : in32 _ := c2
    refine r_istore C dX8_tradeIn_17 (Nat.le_of_ble_eq_true rfl) rfl ?_
    refine r_aload_n C dX8_tradeIn_19 rfl ?_
    refine r_iload_n C dX8_tradeIn_20 rfl ?_
    refine r_iconst C dX8_tradeIn_21 ?_
    obtain ⟨p3, hf⟩ := gk_s hf
    obtain ⟨r3, h3, hq3, hf⟩ := bd_s hf
    refine r_cV2 C (am_X8_best (gl g) n) cm_X8_best w_1133 dX8_tradeIn_22 ⟨Nat.le_of_ble_eq_true rfl, Nat.le_of_ble_eq_true rfl⟩ p3 rfl cv1 (in32_of rfl) rfl (Nat.le_of_ble_eq_true rfl) hq3 (by decide) (fun c3 => ?_)
    have c3 : in32 _ := c3
    refine r_istore C dX8_tradeIn_25 (Nat.le_of_ble_eq_true rfl) rfl ?_
    refine r_iload C dX8_tradeIn_27 rfl ?_
    refine r_iconst C dX8_tradeIn_29 ?_
    refine r_icmp_eq C dX8_tradeIn_30 (tgt := 128) (by decide) c2 (in32_of rfl) (fun n4 => ?_) (fun n4 => ?_)
    · have hf := ite_p n4 hf
      exact G.mask [true, true, true, false, false, false, false] rfl rfl (b_X8_tradeIn_128 C hr  cv1 cv2 hf)
    · have hf := ite_n n4 hf
      refine r_iload C dX8_tradeIn_33 rfl ?_
      refine r_iconst C dX8_tradeIn_35 ?_
      refine r_icmp_eq C dX8_tradeIn_36 (tgt := 128) (by decide) c3 (in32_of rfl) (fun n5 => ?_) (fun n5 => ?_)
      · have hf := ite_p n5 hf
        exact G.mask [true, true, true, false, false, false, false] rfl rfl (b_X8_tradeIn_128 C hr  cv1 cv2 hf)
      · have hf := ite_n n5 hf
        refine r_aload_n C dX8_tradeIn_39 rfl ?_
        obtain ⟨q6, hf⟩ := gf_s hf
        refine r_gf C ct8 (j := 6) (ji := 6) dX8_tradeIn_40 q6 rfl rfl (by decide) w_224 rfl (fun c6 => ?_)
        refine r_iload C dX8_tradeIn_43 rfl ?_
        obtain ⟨q7, hf⟩ := rd_s hf
        refine r_iald C dX8_tradeIn_45 q7 rfl (fun c7 => ?_)
        refine r_aload_n C dX8_tradeIn_46 rfl ?_
        obtain ⟨q8, hf⟩ := gf_s hf
        refine r_gf C ct8 (j := 6) (ji := 6) dX8_tradeIn_47 q8 rfl rfl (by decide) w_224 rfl (fun c8 => ?_)
        refine r_iload C dX8_tradeIn_50 rfl ?_
        obtain ⟨q9, hf⟩ := rd_s hf
        refine r_iald C dX8_tradeIn_52 q9 rfl (fun c9 => ?_)
        refine r_icmp_ge C dX8_tradeIn_53 (tgt := 59) (by decide) c7 c9 (fun n10 => ?_) (fun n10 => ?_)
        · have hf := ite_p n10 hf
          refine r_aload_n C dX8_tradeIn_59 rfl ?_
          refine r_iload_n C dX8_tradeIn_60 rfl ?_
          refine r_iload C dX8_tradeIn_61 rfl ?_
          refine r_iload C dX8_tradeIn_63 rfl ?_
          obtain ⟨p11, hf⟩ := gk_s hf
          obtain ⟨r11, h11, hq11, hf⟩ := bd_s hf
          refine r_cV3 C (am_X8_goes (gl g) n) cm_X8_goes w_1137 dX8_tradeIn_65 ⟨Nat.le_of_ble_eq_true rfl, Nat.le_of_ble_eq_true rfl⟩ p11 rfl cv1 c2 c3 rfl (Nat.le_of_ble_eq_true rfl) hq11 (by decide) (fun c11 => ?_)
          have c11 : in32 _ := c11
          refine r_istore C dX8_tradeIn_68 (Nat.le_of_ble_eq_true rfl) rfl ?_
          refine r_iload C dX8_tradeIn_70 rfl ?_
          refine r_if_le C dX8_tradeIn_72 (tgt := 94) (by decide) c11 (fun n12 => ?_) (fun n12 => ?_)
          · have hf := ite_p n12 hf
            refine r_aload_n C dX8_tradeIn_94 rfl ?_
            obtain ⟨q13, hf⟩ := gf_s hf
            refine r_gf C ct8 (j := 5) (ji := 5) dX8_tradeIn_95 q13 rfl rfl (by decide) w_223 rfl (fun c13 => ?_)
            refine r_aload_n C dX8_tradeIn_98 rfl ?_
            refine r_iload_n C dX8_tradeIn_99 rfl ?_
            refine r_aload_n C dX8_tradeIn_100 rfl ?_
            obtain ⟨q14, hf⟩ := gf_s hf
            refine r_gf C ct8 (j := 4) (ji := 4) dX8_tradeIn_101 q14 rfl rfl (by decide) w_222 rfl (fun c14 => ?_)
            refine r_iload C dX8_tradeIn_104 rfl ?_
            obtain ⟨q15, hf⟩ := rd_s hf
            refine r_iald C dX8_tradeIn_106 q15 rfl (fun c15 => ?_)
            obtain ⟨p16, hf⟩ := gk_s hf
            obtain ⟨r16, h16, hq16, hf⟩ := bd_s hf
            refine r_cV2 C (am_X8_sharesOf (gl g) n) cm_X8_sharesOf w_1142 dX8_tradeIn_107 ⟨Nat.le_of_ble_eq_true rfl, Nat.le_of_ble_eq_true rfl⟩ p16 rfl cv1 c15 rfl (Nat.le_of_ble_eq_true rfl) hq16 (by decide) (fun c16 => ?_)
            have c16 : in32 _ := c16
            refine r_if_ne C dX8_tradeIn_110 (tgt := 118) (by decide) c16 (fun n17 => ?_) (fun n17 => ?_)
            · have hf := ite_n n17 hf
              refine r_iload C dX8_tradeIn_118 rfl ?_
              exact G.mask [true, true, true, true, false, false, false] rfl rfl (b_X8_tradeIn_120 C hr L4 cv1 cv2 cv3 c3 hf)
            · have hf := ite_p n17 hf
              refine r_iload C dX8_tradeIn_113 rfl ?_
              refine r_goto C dX8_tradeIn_115 (tgt := 120) (by decide) ?_
              exact G.mask [true, true, true, true, false, false, false] rfl rfl (b_X8_tradeIn_120 C hr L4 cv1 cv2 cv3 c2 hf)
          · have hf := ite_n n12 hf
            refine r_aload_n C dX8_tradeIn_75 rfl ?_
            refine r_iload_n C dX8_tradeIn_76 rfl ?_
            refine r_iload C dX8_tradeIn_77 rfl ?_
            refine r_iload C dX8_tradeIn_79 rfl ?_
            refine r_iload C dX8_tradeIn_81 rfl ?_
            obtain ⟨p18, hf⟩ := gk_s hf
            obtain ⟨r18, h18, hq18, hf⟩ := bd_s hf
            refine r_cV4v C (am_X8_sell (gl g) n) cm_X8_sell w_1143 dX8_tradeIn_83 ⟨Nat.le_of_ble_eq_true rfl, Nat.le_of_ble_eq_true rfl⟩ p18 rfl cv1 c2 c3 c11 rfl (Nat.le_of_ble_eq_true rfl) hq18 ?_
            refine r_iload_n C dX8_tradeIn_86 rfl ?_
            refine r_iload C dX8_tradeIn_87 rfl ?_
            refine r_iadd C dX8_tradeIn_89 ?_
            obtain ⟨x19, e19, hf⟩ := lb_s hf
            have c19 : in32 x19 := by rw [e19]; exact (in32_t _)
            refine r_istore_nL C dX8_tradeIn_90 e19 (Nat.le_of_ble_eq_true rfl) rfl ?_
            refine r_goto C dX8_tradeIn_91 (tgt := 122) (by decide) ?_
            exact G.mask [true, true, true, true, false, false, false] rfl rfl (b_X8_tradeIn_122 C hr L4 cv1 c19 cv3 hf)
        · have hf := ite_n n10 hf
          refine r_goto C dX8_tradeIn_56 (tgt := 128) (by decide) ?_
          exact G.mask [true, true, true, false, false, false, false] rfl rfl (b_X8_tradeIn_128 C hr  cv1 cv2 hf)
set_option maxRecDepth 20000 in
theorem l_X8_tradeIn_4 {g : GT} {Z : Int × MM} {n : Nat} (C : Cx g cX8_tradeIn 7 yX8_tradeIn 2 49) (hr : Rt g (some .int) 0 Z) {v0 v1 : Int}   (cv1 : in32 v1) : ∀ (k : Nat) (v2 v3 : Int) (h : MM), in32 v2 → in32 v3 → f_X8_tradeIn_4 n  v0 v1 k v2 v3 h = some Z → G g 4 [(2, v0), (0, v1), (0, v2), (0, v3), (3, 0), (3, 0), (3, 0)] [] h := by
  intro k
  induction k with
  | zero => intro v2 v3 h cv2 cv3 hf; exact absurd hf (by intro z; cases z)
  | succ k ih => intro v2 v3 h cv2 cv3 hf; exact b_X8_tradeIn_4b C hr (rec4 := f_X8_tradeIn_4 n  v0 v1 k)  ih cv1 cv2 cv3 (show f_X8_tradeIn_4b n  (f_X8_tradeIn_4 n  v0 v1 k) v0 v1 v2 v3 h = some Z from hf)
set_option maxRecDepth 20000 in
theorem e_X8_tradeIn {g : GT} {Z : Int × MM} {n : Nat} (C : Cx g cX8_tradeIn 7 yX8_tradeIn 2 49) (hr : Rt g (some .int) 0 Z) {v0 v1 : Int} (cv0 : cK 2 v0) (cv1 : cK 0 v1) {h : MM} (hf : f_X8_tradeIn n v0 v1 h = some Z) : G g 0 [(2, v0), (0, v1), (3, 0), (3, 0), (3, 0), (3, 0), (3, 0)] [] h := by
  have cv1 : in32 v1 := cv1
  unfold f_X8_tradeIn at hf
  refine r_iconst C dX8_tradeIn_0 ?_
  refine r_istore_n C dX8_tradeIn_1 (Nat.le_of_ble_eq_true rfl) rfl ?_
  refine r_iconst C dX8_tradeIn_2 ?_
  refine r_istore_n C dX8_tradeIn_3 (Nat.le_of_ble_eq_true rfl) rfl ?_
  exact G.mask [true, true, true, true, false, false, false] rfl rfl (l_X8_tradeIn_4 C hr  cv1 _ _ _ _ (in32_of rfl) (in32_of rfl) hf)
set_option maxRecDepth 20000 in
theorem am_X8_tradeIn (l : Launch) (n : Nat) : AM l yX8_tradeIn cX8_tradeIn 7 (some .int) 2 49 [2, 0] 0 (un2 (f_X8_tradeIn n)) := by
  refine AM.intro (by decide) (fun xs hx => ?_) (fun g xs h Z hl C hr hx hf => ?_)
  · obtain ⟨a0, a1, rfl, c0, c1⟩ := canL_2 hx
    exact Nat.le_of_ble_eq_true rfl
  · obtain ⟨a0, a1, rfl, c0, c1⟩ := canL_2 hx
    have hf := (un2_e _ a0 a1 _).symm.trans hf
    exact e_X8_tradeIn (n := n) C hr c0 c1 hf
/-! LinesPromised.price(I)I -/
theorem dX11_price_0 : decode cX11_price 0 = .ok (.aload_n 0, 1) := by decide +kernel
theorem dX11_price_1 : decode cX11_price 1 = .ok (.getfield 10, 3) := by decide +kernel
theorem dX11_price_4 : decode cX11_price 4 = .ok (.getfield 133, 3) := by decide +kernel
theorem dX11_price_7 : decode cX11_price 7 = .ok (.iload_n 1, 1) := by decide +kernel
theorem dX11_price_8 : decode cX11_price 8 = .ok (.iconst 1, 1) := by decide +kernel
theorem dX11_price_9 : decode cX11_price 9 = .ok (.invokevirtual 172, 3) := by decide +kernel
theorem dX11_price_12 : decode cX11_price 12 = .ok (.astore_n 2, 1) := by decide +kernel
theorem dX11_price_13 : decode cX11_price 13 = .ok (.aload_n 2, 1) := by decide +kernel
theorem dX11_price_14 : decode cX11_price 14 = .ok (.ifnonnull 7, 3) := by decide +kernel
theorem dX11_price_17 : decode cX11_price 17 = .ok (.iconst (-1), 1) := by decide +kernel
theorem dX11_price_18 : decode cX11_price 18 = .ok (.goto 17, 3) := by decide +kernel
theorem dX11_price_21 : decode cX11_price 21 = .ok (.aload_n 0, 1) := by decide +kernel
theorem dX11_price_22 : decode cX11_price 22 = .ok (.getfield 10, 3) := by decide +kernel
theorem dX11_price_25 : decode cX11_price 25 = .ok (.getfield 78, 3) := by decide +kernel
theorem dX11_price_28 : decode cX11_price 28 = .ok (.aload_n 2, 1) := by decide +kernel
theorem dX11_price_29 : decode cX11_price 29 = .ok (.getfield 161, 3) := by decide +kernel
theorem dX11_price_32 : decode cX11_price 32 = .ok (.invokevirtual 337, 3) := by decide +kernel
theorem dX11_price_35 : decode cX11_price 35 = .ok (.ireturn, 1) := by decide +kernel
theorem cm_X11_price : CM yX11_price cX11_price 3 (some .int) 1 11 := ⟨w_1126, w_1127, w_1128, w_87, ⟨by decide +kernel, by decide +kernel, by decide +kernel⟩, ⟨_, _, rfl⟩, by decide⟩
noncomputable def f_X11_price_35 (n : Nat)  (s0 : Int) (h : MM) : RR :=
  some (s0, h)
noncomputable def f_X11_price (n : Nat) (v0 v1 : Int) (h : MM) : RR :=
  gf h v0 11 0 fun r1 =>
  gf h r1 10 1 fun r2 =>
  gk h r2 5 <|
  bd (f_X5_find n r2 v1 1 h) fun r3 h3 =>
  if r3 = 0 then
    f_X11_price_35 n ((-1)) h3
  else
  gf h3 v0 11 0 fun r5 =>
  gf h3 r5 10 2 fun r6 =>
  gf h3 r3 4 9 fun r7 =>
  gk h3 r6 8 <|
  bd (f_X8_tradeIn n r6 r7 h3) fun r8 h8 =>
  f_X11_price_35 n r8 h8
set_option maxRecDepth 20000 in
theorem b_X11_price_35 {g : GT} {Z : Int × MM} {n : Nat} (C : Cx g cX11_price 3 yX11_price 3 75) (hr : Rt g (some .int) 0 Z) {s0 : Int}    (cs0 : in32 s0) {h : MM} (hf : f_X11_price_35 n  s0 h = some Z) : G g 35 [(3, 0), (3, 0), (3, 0)] [(0, s0)] h := by
  unfold f_X11_price_35 at hf
  cases hf
  exact r_jret C hr dX11_price_35 cs0
set_option maxRecDepth 20000 in
theorem e_X11_price {g : GT} {Z : Int × MM} {n : Nat} (C : Cx g cX11_price 3 yX11_price 3 75) (hr : Rt g (some .int) 0 Z) {v0 v1 : Int} (cv0 : cK 2 v0) (cv1 : cK 0 v1) {h : MM} (hf : f_X11_price n v0 v1 h = some Z) : G g 0 [(2, v0), (0, v1), (3, 0)] [] h := by
  have cv1 : in32 v1 := cv1
  unfold f_X11_price at hf
  refine r_aload_n C dX11_price_0 rfl ?_
  obtain ⟨q1, hf⟩ := gf_s hf
  refine r_gf C ct11 (j := 0) (ji := 0) dX11_price_1 q1 rfl rfl (by decide) w_440 rfl (fun c1 => ?_)
  obtain ⟨q2, hf⟩ := gf_s hf
  refine r_gf C ct10 (j := 1) (ji := 1) dX11_price_4 q2 rfl rfl (by decide) w_302 rfl (fun c2 => ?_)
  refine r_iload_n C dX11_price_7 rfl ?_
  refine r_iconst C dX11_price_8 ?_
  obtain ⟨p3, hf⟩ := gk_s hf
  obtain ⟨r3, h3, hq3, hf⟩ := bd_s hf
  refine r_cV2 C (am_X5_find (gl g) n) cm_X5_find w_798 dX11_price_9 ⟨Nat.le_of_ble_eq_true rfl, Nat.le_of_ble_eq_true rfl⟩ p3 rfl cv1 (in32_of rfl) rfl (Nat.le_of_ble_eq_true rfl) hq3 (by decide) (fun c3 => ?_)
  refine r_astore_n C dX11_price_12 (Nat.le_of_ble_eq_true rfl) rfl ?_
  refine r_aload_n C dX11_price_13 rfl ?_
  refine r_ifnonnull C dX11_price_14 (tgt := 21) (by decide) (fun n4 => ?_) (fun n4 => ?_)
  · have hf := ite_n n4 hf
    refine r_aload_n C dX11_price_21 rfl ?_
    obtain ⟨q5, hf⟩ := gf_s hf
    refine r_gf C ct11 (j := 0) (ji := 0) dX11_price_22 q5 rfl rfl (by decide) w_440 rfl (fun c5 => ?_)
    obtain ⟨q6, hf⟩ := gf_s hf
    refine r_gf C ct10 (j := 2) (ji := 2) dX11_price_25 q6 rfl rfl (by decide) w_304 rfl (fun c6 => ?_)
    refine r_aload_n C dX11_price_28 rfl ?_
    obtain ⟨q7, hf⟩ := gf_s hf
    refine r_gf C ct4 (j := 9) (ji := 9) dX11_price_29 q7 rfl rfl (by decide) w_754 rfl (fun c7 => ?_)
    have c7 : in32 _ := c7
    obtain ⟨p8, hf⟩ := gk_s hf
    obtain ⟨r8, h8, hq8, hf⟩ := bd_s hf
    refine r_cV1 C (am_X8_tradeIn (gl g) n) cm_X8_tradeIn w_1129 dX11_price_32 ⟨Nat.le_of_ble_eq_true rfl, Nat.le_of_ble_eq_true rfl⟩ p8 rfl c7 rfl (Nat.le_of_ble_eq_true rfl) hq8 (by decide) (fun c8 => ?_)
    have c8 : in32 _ := c8
    exact G.mask [false, false, false] rfl rfl (b_X11_price_35 C hr  c8 hf)
  · have hf := ite_p n4 hf
    refine r_iconst C dX11_price_17 ?_
    refine r_goto C dX11_price_18 (tgt := 35) (by decide) ?_
    exact G.mask [false, false, false] rfl rfl (b_X11_price_35 C hr  (in32_of rfl) hf)
set_option maxRecDepth 20000 in
theorem am_X11_price (l : Launch) (n : Nat) : AM l yX11_price cX11_price 3 (some .int) 3 75 [2, 0] 0 (un2 (f_X11_price n)) := by
  refine AM.intro (by decide) (fun xs hx => ?_) (fun g xs h Z hl C hr hx hf => ?_)
  · obtain ⟨a0, a1, rfl, c0, c1⟩ := canL_2 hx
    exact Nat.le_of_ble_eq_true rfl
  · obtain ⟨a0, a1, rfl, c0, c1⟩ := canL_2 hx
    have hf := (un2_e _ a0 a1 _).symm.trans hf
    exact e_X11_price (n := n) C hr c0 c1 hf
/-! LinesPromised.read(I)I -/
theorem dX11_read_0 : decode cX11_read 0 = .ok (.aload_n 0, 1) := by decide +kernel
theorem dX11_read_1 : decode cX11_read 1 = .ok (.getfield 10, 3) := by decide +kernel
theorem dX11_read_4 : decode cX11_read 4 = .ok (.getfield 133, 3) := by decide +kernel
theorem dX11_read_7 : decode cX11_read 7 = .ok (.iload_n 1, 1) := by decide +kernel
theorem dX11_read_8 : decode cX11_read 8 = .ok (.iconst 1, 1) := by decide +kernel
theorem dX11_read_9 : decode cX11_read 9 = .ok (.invokevirtual 172, 3) := by decide +kernel
theorem dX11_read_12 : decode cX11_read 12 = .ok (.astore_n 2, 1) := by decide +kernel
theorem dX11_read_13 : decode cX11_read 13 = .ok (.aload_n 2, 1) := by decide +kernel
theorem dX11_read_14 : decode cX11_read 14 = .ok (.ifnonnull 7, 3) := by decide +kernel
theorem dX11_read_17 : decode cX11_read 17 = .ok (.iconst (-1), 1) := by decide +kernel
theorem dX11_read_18 : decode cX11_read 18 = .ok (.goto 18, 3) := by decide +kernel
theorem dX11_read_21 : decode cX11_read 21 = .ok (.aload_n 0, 1) := by decide +kernel
theorem dX11_read_22 : decode cX11_read 22 = .ok (.getfield 10, 3) := by decide +kernel
theorem dX11_read_25 : decode cX11_read 25 = .ok (.getfield 78, 3) := by decide +kernel
theorem dX11_read_28 : decode cX11_read 28 = .ok (.getfield 340, 3) := by decide +kernel
theorem dX11_read_31 : decode cX11_read 31 = .ok (.aload_n 2, 1) := by decide +kernel
theorem dX11_read_32 : decode cX11_read 32 = .ok (.getfield 161, 3) := by decide +kernel
theorem dX11_read_35 : decode cX11_read 35 = .ok (.iaload, 1) := by decide +kernel
theorem dX11_read_36 : decode cX11_read 36 = .ok (.ireturn, 1) := by decide +kernel
theorem cm_X11_read : CM yX11_read cX11_read 3 (some .int) 1 11 := ⟨w_1153, w_1154, w_1155, w_87, ⟨by decide +kernel, by decide +kernel, by decide +kernel⟩, ⟨_, _, rfl⟩, by decide⟩
noncomputable def f_X11_read_36 (n : Nat)  (s0 : Int) (h : MM) : RR :=
  some (s0, h)
noncomputable def f_X11_read (n : Nat) (v0 v1 : Int) (h : MM) : RR :=
  gf h v0 11 0 fun r1 =>
  gf h r1 10 1 fun r2 =>
  gk h r2 5 <|
  bd (f_X5_find n r2 v1 1 h) fun r3 h3 =>
  if r3 = 0 then
    f_X11_read_36 n ((-1)) h3
  else
  gf h3 v0 11 0 fun r5 =>
  gf h3 r5 10 2 fun r6 =>
  gf h3 r6 8 2 fun r7 =>
  gf h3 r3 4 9 fun r8 =>
  rd h3 r7 100 r8 fun r9 =>
  f_X11_read_36 n r9 h3
set_option maxRecDepth 20000 in
theorem b_X11_read_36 {g : GT} {Z : Int × MM} {n : Nat} (C : Cx g cX11_read 3 yX11_read 3 67) (hr : Rt g (some .int) 0 Z) {s0 : Int}    (cs0 : in32 s0) {h : MM} (hf : f_X11_read_36 n  s0 h = some Z) : G g 36 [(3, 0), (3, 0), (3, 0)] [(0, s0)] h := by
  unfold f_X11_read_36 at hf
  cases hf
  exact r_jret C hr dX11_read_36 cs0
set_option maxRecDepth 20000 in
theorem e_X11_read {g : GT} {Z : Int × MM} {n : Nat} (C : Cx g cX11_read 3 yX11_read 3 67) (hr : Rt g (some .int) 0 Z) {v0 v1 : Int} (cv0 : cK 2 v0) (cv1 : cK 0 v1) {h : MM} (hf : f_X11_read n v0 v1 h = some Z) : G g 0 [(2, v0), (0, v1), (3, 0)] [] h := by
  have cv1 : in32 v1 := cv1
  unfold f_X11_read at hf
  refine r_aload_n C dX11_read_0 rfl ?_
  obtain ⟨q1, hf⟩ := gf_s hf
  refine r_gf C ct11 (j := 0) (ji := 0) dX11_read_1 q1 rfl rfl (by decide) w_440 rfl (fun c1 => ?_)
  obtain ⟨q2, hf⟩ := gf_s hf
  refine r_gf C ct10 (j := 1) (ji := 1) dX11_read_4 q2 rfl rfl (by decide) w_302 rfl (fun c2 => ?_)
  refine r_iload_n C dX11_read_7 rfl ?_
  refine r_iconst C dX11_read_8 ?_
  obtain ⟨p3, hf⟩ := gk_s hf
  obtain ⟨r3, h3, hq3, hf⟩ := bd_s hf
  refine r_cV2 C (am_X5_find (gl g) n) cm_X5_find w_798 dX11_read_9 ⟨Nat.le_of_ble_eq_true rfl, Nat.le_of_ble_eq_true rfl⟩ p3 rfl cv1 (in32_of rfl) rfl (Nat.le_of_ble_eq_true rfl) hq3 (by decide) (fun c3 => ?_)
  refine r_astore_n C dX11_read_12 (Nat.le_of_ble_eq_true rfl) rfl ?_
  refine r_aload_n C dX11_read_13 rfl ?_
  refine r_ifnonnull C dX11_read_14 (tgt := 21) (by decide) (fun n4 => ?_) (fun n4 => ?_)
  · have hf := ite_n n4 hf
    refine r_aload_n C dX11_read_21 rfl ?_
    obtain ⟨q5, hf⟩ := gf_s hf
    refine r_gf C ct11 (j := 0) (ji := 0) dX11_read_22 q5 rfl rfl (by decide) w_440 rfl (fun c5 => ?_)
    obtain ⟨q6, hf⟩ := gf_s hf
    refine r_gf C ct10 (j := 2) (ji := 2) dX11_read_25 q6 rfl rfl (by decide) w_304 rfl (fun c6 => ?_)
    obtain ⟨q7, hf⟩ := gf_s hf
    refine r_gf C ct8 (j := 2) (ji := 2) dX11_read_28 q7 rfl rfl (by decide) w_220 rfl (fun c7 => ?_)
    refine r_aload_n C dX11_read_31 rfl ?_
    obtain ⟨q8, hf⟩ := gf_s hf
    refine r_gf C ct4 (j := 9) (ji := 9) dX11_read_32 q8 rfl rfl (by decide) w_754 rfl (fun c8 => ?_)
    have c8 : in32 _ := c8
    obtain ⟨q9, hf⟩ := rd_s hf
    refine r_iald C dX11_read_35 q9 rfl (fun c9 => ?_)
    exact G.mask [false, false, false] rfl rfl (b_X11_read_36 C hr  c9 hf)
  · have hf := ite_p n4 hf
    refine r_iconst C dX11_read_17 ?_
    refine r_goto C dX11_read_18 (tgt := 36) (by decide) ?_
    exact G.mask [false, false, false] rfl rfl (b_X11_read_36 C hr  (in32_of rfl) hf)
set_option maxRecDepth 20000 in
theorem am_X11_read (l : Launch) (n : Nat) : AM l yX11_read cX11_read 3 (some .int) 3 67 [2, 0] 0 (un2 (f_X11_read n)) := by
  refine AM.intro (by decide) (fun xs hx => ?_) (fun g xs h Z hl C hr hx hf => ?_)
  · obtain ⟨a0, a1, rfl, c0, c1⟩ := canL_2 hx
    exact Nat.le_of_ble_eq_true rfl
  · obtain ⟨a0, a1, rfl, c0, c1⟩ := canL_2 hx
    have hf := (un2_e _ a0 a1 _).symm.trans hf
    exact e_X11_read (n := n) C hr c0 c1 hf
/-! LinesPromised$Papers.latestCall(I)I -/
theorem dX5_latestCall_0 : decode cX5_latestCall 0 = .ok (.aload_n 0, 1) := by decide +kernel
theorem dX5_latestCall_1 : decode cX5_latestCall 1 = .ok (.getfield 44, 3) := by decide +kernel
theorem dX5_latestCall_4 : decode cX5_latestCall 4 = .ok (.iconst 1, 1) := by decide +kernel
theorem dX5_latestCall_5 : decode cX5_latestCall 5 = .ok (.isub, 1) := by decide +kernel
theorem dX5_latestCall_6 : decode cX5_latestCall 6 = .ok (.istore_n 2, 1) := by decide +kernel
theorem dX5_latestCall_7 : decode cX5_latestCall 7 = .ok (.iload_n 2, 1) := by decide +kernel
theorem dX5_latestCall_8 : decode cX5_latestCall 8 = .ok (.ifCond .lt 33, 3) := by decide +kernel
theorem dX5_latestCall_11 : decode cX5_latestCall 11 = .ok (.aload_n 0, 1) := by decide +kernel
theorem dX5_latestCall_12 : decode cX5_latestCall 12 = .ok (.iload_n 2, 1) := by decide +kernel
theorem dX5_latestCall_13 : decode cX5_latestCall 13 = .ok (.iconst 4, 1) := by decide +kernel
theorem dX5_latestCall_14 : decode cX5_latestCall 14 = .ok (.invokevirtual 73, 3) := by decide +kernel
theorem dX5_latestCall_17 : decode cX5_latestCall 17 = .ok (.astore_n 3, 1) := by decide +kernel
theorem dX5_latestCall_18 : decode cX5_latestCall 18 = .ok (.aload_n 3, 1) := by decide +kernel
theorem dX5_latestCall_19 : decode cX5_latestCall 19 = .ok (.ifnull 16, 3) := by decide +kernel
theorem dX5_latestCall_22 : decode cX5_latestCall 22 = .ok (.aload_n 3, 1) := by decide +kernel
theorem dX5_latestCall_23 : decode cX5_latestCall 23 = .ok (.getfield 83, 3) := by decide +kernel
theorem dX5_latestCall_26 : decode cX5_latestCall 26 = .ok (.iload_n 1, 1) := by decide +kernel
theorem dX5_latestCall_27 : decode cX5_latestCall 27 = .ok (.if_icmp .ne 8, 3) := by decide +kernel
theorem dX5_latestCall_30 : decode cX5_latestCall 30 = .ok (.aload_n 3, 1) := by decide +kernel
theorem dX5_latestCall_31 : decode cX5_latestCall 31 = .ok (.getfield 86, 3) := by decide +kernel
theorem dX5_latestCall_34 : decode cX5_latestCall 34 = .ok (.ireturn, 1) := by decide +kernel
theorem dX5_latestCall_35 : decode cX5_latestCall 35 = .ok (.iinc 2 (-1), 3) := by decide +kernel
theorem dX5_latestCall_38 : decode cX5_latestCall 38 = .ok (.goto (-31), 3) := by decide +kernel
theorem dX5_latestCall_41 : decode cX5_latestCall 41 = .ok (.iconst (-1), 1) := by decide +kernel
theorem dX5_latestCall_42 : decode cX5_latestCall 42 = .ok (.ireturn, 1) := by decide +kernel
theorem cm_X5_latestCall : CM yX5_latestCall cX5_latestCall 4 (some .int) 1 5 := ⟨w_1165, w_1166, w_1167, w_90, ⟨by decide +kernel, by decide +kernel, by decide +kernel⟩, ⟨_, _, rfl⟩, by decide⟩
noncomputable def f_X5_latestCall_35 (n : Nat) (rec7 : Int → MM → RR) (v0 v1 v2 : Int) (h : MM) : RR :=
  lb (wr (v2 + (-1))) fun x1 =>
  rec7 x1 h
noncomputable def f_X5_latestCall_7b (n : Nat) (rec7 : Int → MM → RR) (v0 v1 v2 : Int) (h : MM) : RR :=
  if v2 < 0 then
    some ((-1), h)
  else
  gk h v0 5 <|
  bd (f_X5_find n v0 v2 4 h) fun r2 h2 =>
  if r2 = 0 then
    f_X5_latestCall_35 n rec7 v0 v1 v2 h2
  else
  gf h2 r2 4 1 fun r4 =>
  if r4 = v1 then
    gf h2 r2 4 2 fun r6 =>
    some (r6, h2)
  else
  f_X5_latestCall_35 n rec7 v0 v1 v2 h2
noncomputable def f_X5_latestCall_7 (n : Nat)  (v0 v1 : Int) : Nat → Int → MM → RR
  | 0, _, _ => none
  | k + 1, v2, h => f_X5_latestCall_7b n  (f_X5_latestCall_7 n  v0 v1 k) v0 v1 v2 h
noncomputable def f_X5_latestCall (n : Nat) (v0 v1 : Int) (h : MM) : RR :=
  gf h v0 5 7 fun r1 =>
  lb (wr (r1 - 1)) fun x2 =>
  f_X5_latestCall_7 n v0 v1 n x2 h
set_option maxRecDepth 20000 in
theorem b_X5_latestCall_35 {g : GT} {Z : Int × MM} {n : Nat} (C : Cx g cX5_latestCall 4 yX5_latestCall 3 67) (hr : Rt g (some .int) 0 Z) {v0 v1 v2 : Int}  {rec7 : Int → MM → RR} (L7 : ∀ (u2 : Int) (h : MM), in32 u2 → rec7 u2 h = some Z → G g 7 [(2, v0), (0, v1), (0, u2), (3, 0)] [] h) (cv1 : in32 v1) (cv2 : in32 v2) {h : MM} (hf : f_X5_latestCall_35 n rec7 v0 v1 v2 h = some Z) : G g 35 [(2, v0), (0, v1), (0, v2), (3, 0)] [] h := by
  unfold f_X5_latestCall_35 at hf
  obtain ⟨x1, e1, hf⟩ := lb_s hf
  have c1 : in32 x1 := by rw [e1]; exact (in32_t _)
  refine r_iincL C dX5_latestCall_35 rfl e1 (Nat.le_of_ble_eq_true rfl) rfl ?_
  refine r_goto C dX5_latestCall_38 (tgt := 7) (by decide) ?_
  exact G.mask [true, true, true, false] rfl rfl (L7 _ _ c1 hf)
set_option maxRecDepth 20000 in
theorem b_X5_latestCall_7b {g : GT} {Z : Int × MM} {n : Nat} (C : Cx g cX5_latestCall 4 yX5_latestCall 3 67) (hr : Rt g (some .int) 0 Z) {v0 v1 v2 : Int}  {rec7 : Int → MM → RR} (L7 : ∀ (u2 : Int) (h : MM), in32 u2 → rec7 u2 h = some Z → G g 7 [(2, v0), (0, v1), (0, u2), (3, 0)] [] h) (cv1 : in32 v1) (cv2 : in32 v2) {h : MM} (hf : f_X5_latestCall_7b n rec7 v0 v1 v2 h = some Z) : G g 7 [(2, v0), (0, v1), (0, v2), (3, 0)] [] h := by
  unfold f_X5_latestCall_7b at hf
  refine r_iload_n C dX5_latestCall_7 rfl ?_
  refine r_if_lt C dX5_latestCall_8 (tgt := 41) (by decide) cv2 (fun n1 => ?_) (fun n1 => ?_)
  · have hf := ite_p n1 hf
    refine r_iconst C dX5_latestCall_41 ?_
    cases hf
    exact r_jret C hr dX5_latestCall_42 (in32_of rfl)
  · have hf := ite_n n1 hf
    refine r_aload_n C dX5_latestCall_11 rfl ?_
    refine r_iload_n C dX5_latestCall_12 rfl ?_
    refine r_iconst C dX5_latestCall_13 ?_
    obtain ⟨p2, hf⟩ := gk_s hf
    obtain ⟨r2, h2, hq2, hf⟩ := bd_s hf
    refine r_cV2 C (am_X5_find (gl g) n) cm_X5_find w_949 dX5_latestCall_14 ⟨Nat.le_of_ble_eq_true rfl, Nat.le_of_ble_eq_true rfl⟩ p2 rfl cv2 (in32_of rfl) rfl (Nat.le_of_ble_eq_true rfl) hq2 (by decide) (fun c2 => ?_)
    refine r_astore_n C dX5_latestCall_17 (Nat.le_of_ble_eq_true rfl) rfl ?_
    refine r_aload_n C dX5_latestCall_18 rfl ?_
    refine r_ifnull C dX5_latestCall_19 (tgt := 35) (by decide) (fun n3 => ?_) (fun n3 => ?_)
    · have hf := ite_p n3 hf
      exact G.mask [true, true, true, false] rfl rfl (b_X5_latestCall_35 C hr L7 cv1 cv2 hf)
    · have hf := ite_n n3 hf
      refine r_aload_n C dX5_latestCall_22 rfl ?_
      obtain ⟨q4, hf⟩ := gf_s hf
      refine r_gf C ct4 (j := 1) (ji := 1) dX5_latestCall_23 q4 rfl rfl (by decide) w_718 rfl (fun c4 => ?_)
      have c4 : in32 _ := c4
      refine r_iload_n C dX5_latestCall_26 rfl ?_
      refine r_icmp_ne C dX5_latestCall_27 (tgt := 35) (by decide) c4 cv1 (fun n5 => ?_) (fun n5 => ?_)
      · have hf := ite_n n5 hf
        exact G.mask [true, true, true, false] rfl rfl (b_X5_latestCall_35 C hr L7 cv1 cv2 hf)
      · have hf := ite_p n5 hf
        refine r_aload_n C dX5_latestCall_30 rfl ?_
        obtain ⟨q6, hf⟩ := gf_s hf
        refine r_gf C ct4 (j := 2) (ji := 2) dX5_latestCall_31 q6 rfl rfl (by decide) w_721 rfl (fun c6 => ?_)
        have c6 : in32 _ := c6
        cases hf
        exact r_jret C hr dX5_latestCall_34 c6
set_option maxRecDepth 20000 in
theorem l_X5_latestCall_7 {g : GT} {Z : Int × MM} {n : Nat} (C : Cx g cX5_latestCall 4 yX5_latestCall 3 67) (hr : Rt g (some .int) 0 Z) {v0 v1 : Int}   (cv1 : in32 v1) : ∀ (k : Nat) (v2 : Int) (h : MM), in32 v2 → f_X5_latestCall_7 n  v0 v1 k v2 h = some Z → G g 7 [(2, v0), (0, v1), (0, v2), (3, 0)] [] h := by
  intro k
  induction k with
  | zero => intro v2 h cv2 hf; exact absurd hf (by intro z; cases z)
  | succ k ih => intro v2 h cv2 hf; exact b_X5_latestCall_7b C hr (rec7 := f_X5_latestCall_7 n  v0 v1 k)  ih cv1 cv2 (show f_X5_latestCall_7b n  (f_X5_latestCall_7 n  v0 v1 k) v0 v1 v2 h = some Z from hf)
set_option maxRecDepth 20000 in
theorem e_X5_latestCall {g : GT} {Z : Int × MM} {n : Nat} (C : Cx g cX5_latestCall 4 yX5_latestCall 3 67) (hr : Rt g (some .int) 0 Z) {v0 v1 : Int} (cv0 : cK 2 v0) (cv1 : cK 0 v1) {h : MM} (hf : f_X5_latestCall n v0 v1 h = some Z) : G g 0 [(2, v0), (0, v1), (3, 0), (3, 0)] [] h := by
  have cv1 : in32 v1 := cv1
  unfold f_X5_latestCall at hf
  refine r_aload_n C dX5_latestCall_0 rfl ?_
  obtain ⟨q1, hf⟩ := gf_s hf
  refine r_gf C ct5 (j := 7) (ji := 7) dX5_latestCall_1 q1 rfl rfl (by decide) w_177 rfl (fun c1 => ?_)
  have c1 : in32 _ := c1
  refine r_iconst C dX5_latestCall_4 ?_
  refine r_isub C dX5_latestCall_5 ?_
  obtain ⟨x2, e2, hf⟩ := lb_s hf
  have c2 : in32 x2 := by rw [e2]; exact (in32_t _)
  refine r_istore_nL C dX5_latestCall_6 e2 (Nat.le_of_ble_eq_true rfl) rfl ?_
  exact G.mask [true, true, true, false] rfl rfl (l_X5_latestCall_7 C hr  cv1 _ _ _ c2 hf)
set_option maxRecDepth 20000 in
theorem am_X5_latestCall (l : Launch) (n : Nat) : AM l yX5_latestCall cX5_latestCall 4 (some .int) 3 67 [2, 0] 0 (un2 (f_X5_latestCall n)) := by
  refine AM.intro (by decide) (fun xs hx => ?_) (fun g xs h Z hl C hr hx hf => ?_)
  · obtain ⟨a0, a1, rfl, c0, c1⟩ := canL_2 hx
    exact Nat.le_of_ble_eq_true rfl
  · obtain ⟨a0, a1, rfl, c0, c1⟩ := canL_2 hx
    have hf := (un2_e _ a0 a1 _).symm.trans hf
    exact e_X5_latestCall (n := n) C hr c0 c1 hf
/-! LinesPromised$World.isTooSoon(I)Z -/
theorem dX10_isTooSoon_0 : decode cX10_isTooSoon 0 = .ok (.aload_n 0, 1) := by decide +kernel
theorem dX10_isTooSoon_1 : decode cX10_isTooSoon 1 = .ok (.getfield 21, 3) := by decide +kernel
theorem dX10_isTooSoon_4 : decode cX10_isTooSoon 4 = .ok (.iload_n 1, 1) := by decide +kernel
theorem dX10_isTooSoon_5 : decode cX10_isTooSoon 5 = .ok (.invokevirtual 212, 3) := by decide +kernel
theorem dX10_isTooSoon_8 : decode cX10_isTooSoon 8 = .ok (.istore_n 2, 1) := by decide +kernel
theorem dX10_isTooSoon_9 : decode cX10_isTooSoon 9 = .ok (.iload_n 2, 1) := by decide +kernel
theorem dX10_isTooSoon_10 : decode cX10_isTooSoon 10 = .ok (.iconst (-1), 1) := by decide +kernel
theorem dX10_isTooSoon_11 : decode cX10_isTooSoon 11 = .ok (.if_icmp .eq 25, 3) := by decide +kernel
theorem dX10_isTooSoon_14 : decode cX10_isTooSoon 14 = .ok (.aload_n 0, 1) := by decide +kernel
theorem dX10_isTooSoon_15 : decode cX10_isTooSoon 15 = .ok (.getfield 85, 3) := by decide +kernel
theorem dX10_isTooSoon_18 : decode cX10_isTooSoon 18 = .ok (.iload_n 2, 1) := by decide +kernel
theorem dX10_isTooSoon_19 : decode cX10_isTooSoon 19 = .ok (.isub, 1) := by decide +kernel
theorem dX10_isTooSoon_20 : decode cX10_isTooSoon 20 = .ok (.aload_n 0, 1) := by decide +kernel
theorem dX10_isTooSoon_21 : decode cX10_isTooSoon 21 = .ok (.iconst 4, 1) := by decide +kernel
theorem dX10_isTooSoon_22 : decode cX10_isTooSoon 22 = .ok (.aload_n 0, 1) := by decide +kernel
theorem dX10_isTooSoon_23 : decode cX10_isTooSoon 23 = .ok (.getfield 85, 3) := by decide +kernel
theorem dX10_isTooSoon_26 : decode cX10_isTooSoon 26 = .ok (.invokevirtual 159, 3) := by decide +kernel
theorem dX10_isTooSoon_29 : decode cX10_isTooSoon 29 = .ok (.if_icmp .ge 7, 3) := by decide +kernel
theorem dX10_isTooSoon_32 : decode cX10_isTooSoon 32 = .ok (.iconst 1, 1) := by decide +kernel
theorem dX10_isTooSoon_33 : decode cX10_isTooSoon 33 = .ok (.goto 4, 3) := by decide +kernel
theorem dX10_isTooSoon_36 : decode cX10_isTooSoon 36 = .ok (.iconst 0, 1) := by decide +kernel
theorem dX10_isTooSoon_37 : decode cX10_isTooSoon 37 = .ok (.ireturn, 1) := by decide +kernel
theorem cm_X10_isTooSoon : CM yX10_isTooSoon cX10_isTooSoon 3 (some .boolean) 1 10 := ⟨w_1161, w_1162, w_1163, w_88, ⟨by decide +kernel, by decide +kernel, by decide +kernel⟩, ⟨_, _, rfl⟩, by decide⟩
noncomputable def f_X10_isTooSoon_37 (n : Nat)  (s0 : Int) (h : MM) : RR :=
  ck (isb s0) <|
  some (s0, h)
noncomputable def f_X10_isTooSoon_36 (n : Nat)  (h : MM) : RR :=
  f_X10_isTooSoon_37 n 0 h
noncomputable def f_X10_isTooSoon (n : Nat) (v0 v1 : Int) (h : MM) : RR :=
  gf h v0 10 1 fun r1 =>
  gk h r1 5 <|
  bd (f_X5_latestCall n r1 v1 h) fun r2 h2 =>
  if r2 = (-1) then
    f_X10_isTooSoon_36 n h2
  else
  gf h2 v0 10 9 fun r4 =>
  gf h2 v0 10 9 fun r5 =>
  gk h2 v0 10 <|
  bd (f_X10_ruleOf n v0 4 r5 h2) fun r6 h6 =>
  if r6 ≤ wr (r4 - r2) then
    f_X10_isTooSoon_36 n h6
  else
  f_X10_isTooSoon_37 n 1 h6
set_option maxRecDepth 20000 in
theorem b_X10_isTooSoon_37 {g : GT} {Z : Int × MM} {n : Nat} (C : Cx g cX10_isTooSoon 3 yX10_isTooSoon 4 90) (hr : Rt g (some .boolean) 0 Z) {s0 : Int}    (cs0 : in32 s0) {h : MM} (hf : f_X10_isTooSoon_37 n  s0 h = some Z) : G g 37 [(3, 0), (3, 0), (3, 0)] [(0, s0)] h := by
  unfold f_X10_isTooSoon_37 at hf
  obtain ⟨b1, hf⟩ := ck_s hf
  cases hf
  exact r_zret C hr dX10_isTooSoon_37 b1
set_option maxRecDepth 20000 in
theorem b_X10_isTooSoon_36 {g : GT} {Z : Int × MM} {n : Nat} (C : Cx g cX10_isTooSoon 3 yX10_isTooSoon 4 90) (hr : Rt g (some .boolean) 0 Z)     {h : MM} (hf : f_X10_isTooSoon_36 n   h = some Z) : G g 36 [(3, 0), (3, 0), (3, 0)] [] h := by
  unfold f_X10_isTooSoon_36 at hf
  refine r_iconst C dX10_isTooSoon_36 ?_
  exact G.mask [false, false, false] rfl rfl (b_X10_isTooSoon_37 C hr  (in32_of rfl) hf)
set_option maxRecDepth 20000 in
theorem e_X10_isTooSoon {g : GT} {Z : Int × MM} {n : Nat} (C : Cx g cX10_isTooSoon 3 yX10_isTooSoon 4 90) (hr : Rt g (some .boolean) 0 Z) {v0 v1 : Int} (cv0 : cK 2 v0) (cv1 : cK 0 v1) {h : MM} (hf : f_X10_isTooSoon n v0 v1 h = some Z) : G g 0 [(2, v0), (0, v1), (3, 0)] [] h := by
  have cv1 : in32 v1 := cv1
  unfold f_X10_isTooSoon at hf
  refine r_aload_n C dX10_isTooSoon_0 rfl ?_
  obtain ⟨q1, hf⟩ := gf_s hf
  refine r_gf C ct10 (j := 1) (ji := 1) dX10_isTooSoon_1 q1 rfl rfl (by decide) w_301 rfl (fun c1 => ?_)
  refine r_iload_n C dX10_isTooSoon_4 rfl ?_
  obtain ⟨p2, hf⟩ := gk_s hf
  obtain ⟨r2, h2, hq2, hf⟩ := bd_s hf
  refine r_cV1 C (am_X5_latestCall (gl g) n) cm_X5_latestCall w_1164 dX10_isTooSoon_5 ⟨Nat.le_of_ble_eq_true rfl, Nat.le_of_ble_eq_true rfl⟩ p2 rfl cv1 rfl (Nat.le_of_ble_eq_true rfl) hq2 (by decide) (fun c2 => ?_)
  have c2 : in32 _ := c2
  refine r_istore_n C dX10_isTooSoon_8 (Nat.le_of_ble_eq_true rfl) rfl ?_
  refine r_iload_n C dX10_isTooSoon_9 rfl ?_
  refine r_iconst C dX10_isTooSoon_10 ?_
  refine r_icmp_eq C dX10_isTooSoon_11 (tgt := 36) (by decide) c2 (in32_of rfl) (fun n3 => ?_) (fun n3 => ?_)
  · have hf := ite_p n3 hf
    exact G.mask [false, false, false] rfl rfl (b_X10_isTooSoon_36 C hr   hf)
  · have hf := ite_n n3 hf
    refine r_aload_n C dX10_isTooSoon_14 rfl ?_
    obtain ⟨q4, hf⟩ := gf_s hf
    refine r_gf C ct10 (j := 9) (ji := 9) dX10_isTooSoon_15 q4 rfl rfl (by decide) w_316 rfl (fun c4 => ?_)
    have c4 : in32 _ := c4
    refine r_iload_n C dX10_isTooSoon_18 rfl ?_
    refine r_isub C dX10_isTooSoon_19 ?_
    refine r_aload_n C dX10_isTooSoon_20 rfl ?_
    refine r_iconst C dX10_isTooSoon_21 ?_
    refine r_aload_n C dX10_isTooSoon_22 rfl ?_
    obtain ⟨q5, hf⟩ := gf_s hf
    refine r_gf C ct10 (j := 9) (ji := 9) dX10_isTooSoon_23 q5 rfl rfl (by decide) w_316 rfl (fun c5 => ?_)
    have c5 : in32 _ := c5
    obtain ⟨p6, hf⟩ := gk_s hf
    obtain ⟨r6, h6, hq6, hf⟩ := bd_s hf
    refine r_cV2 C (am_X10_ruleOf (gl g) n) cm_X10_ruleOf w_883 dX10_isTooSoon_26 ⟨Nat.le_of_ble_eq_true rfl, Nat.le_of_ble_eq_true rfl⟩ p6 rfl (in32_of rfl) c5 rfl (Nat.le_of_ble_eq_true rfl) hq6 (by decide) (fun c6 => ?_)
    have c6 : in32 _ := c6
    refine r_icmp_ge C dX10_isTooSoon_29 (tgt := 36) (by decide) (in32_t _) c6 (fun n7 => ?_) (fun n7 => ?_)
    · have hf := ite_p n7 hf
      exact G.mask [false, false, false] rfl rfl (b_X10_isTooSoon_36 C hr   hf)
    · have hf := ite_n n7 hf
      refine r_iconst C dX10_isTooSoon_32 ?_
      refine r_goto C dX10_isTooSoon_33 (tgt := 37) (by decide) ?_
      exact G.mask [false, false, false] rfl rfl (b_X10_isTooSoon_37 C hr  (in32_of rfl) hf)
set_option maxRecDepth 20000 in
theorem am_X10_isTooSoon (l : Launch) (n : Nat) : AM l yX10_isTooSoon cX10_isTooSoon 3 (some .boolean) 4 90 [2, 0] 0 (un2 (f_X10_isTooSoon n)) := by
  refine AM.intro (by decide) (fun xs hx => ?_) (fun g xs h Z hl C hr hx hf => ?_)
  · obtain ⟨a0, a1, rfl, c0, c1⟩ := canL_2 hx
    exact Nat.le_of_ble_eq_true rfl
  · obtain ⟨a0, a1, rfl, c0, c1⟩ := canL_2 hx
    have hf := (un2_e _ a0 a1 _).symm.trans hf
    exact e_X10_isTooSoon (n := n) C hr c0 c1 hf
/-! LinesPromised.call(II)I -/
theorem dX11_call_0 : decode cX11_call 0 = .ok (.aload_n 0, 1) := by decide +kernel
theorem dX11_call_1 : decode cX11_call 1 = .ok (.getfield 10, 3) := by decide +kernel
theorem dX11_call_4 : decode cX11_call 4 = .ok (.getfield 133, 3) := by decide +kernel
theorem dX11_call_7 : decode cX11_call 7 = .ok (.iload_n 1, 1) := by decide +kernel
theorem dX11_call_8 : decode cX11_call 8 = .ok (.iconst 1, 1) := by decide +kernel
theorem dX11_call_9 : decode cX11_call 9 = .ok (.invokevirtual 172, 3) := by decide +kernel
theorem dX11_call_12 : decode cX11_call 12 = .ok (.ifnonnull 5, 3) := by decide +kernel
theorem dX11_call_15 : decode cX11_call 15 = .ok (.iconst (-1), 1) := by decide +kernel
theorem dX11_call_16 : decode cX11_call 16 = .ok (.ireturn, 1) := by decide +kernel
theorem dX11_call_17 : decode cX11_call 17 = .ok (.iload_n 2, 1) := by decide +kernel
theorem dX11_call_18 : decode cX11_call 18 = .ok (.i2l, 1) := by decide +kernel
theorem dX11_call_19 : decode cX11_call 19 = .ok (.iconst 1, 1) := by decide +kernel
theorem dX11_call_20 : decode cX11_call 20 = .ok (.aload_n 0, 1) := by decide +kernel
theorem dX11_call_21 : decode cX11_call 21 = .ok (.getfield 10, 3) := by decide +kernel
theorem dX11_call_24 : decode cX11_call 24 = .ok (.iconst 3, 1) := by decide +kernel
theorem dX11_call_25 : decode cX11_call 25 = .ok (.aload_n 0, 1) := by decide +kernel
theorem dX11_call_26 : decode cX11_call 26 = .ok (.getfield 10, 3) := by decide +kernel
theorem dX11_call_29 : decode cX11_call 29 = .ok (.getfield 148, 3) := by decide +kernel
theorem dX11_call_32 : decode cX11_call 32 = .ok (.invokevirtual 121, 3) := by decide +kernel
theorem dX11_call_35 : decode cX11_call 35 = .ok (.invokestatic 46, 3) := by decide +kernel
theorem dX11_call_38 : decode cX11_call 38 = .ok (.ifCond .ne 6, 3) := by decide +kernel
theorem dX11_call_41 : decode cX11_call 41 = .ok (.bipush (-2), 2) := by decide +kernel
theorem dX11_call_43 : decode cX11_call 43 = .ok (.ireturn, 1) := by decide +kernel
theorem dX11_call_44 : decode cX11_call 44 = .ok (.aload_n 0, 1) := by decide +kernel
theorem dX11_call_45 : decode cX11_call 45 = .ok (.getfield 10, 3) := by decide +kernel
theorem dX11_call_48 : decode cX11_call 48 = .ok (.getfield 133, 3) := by decide +kernel
theorem dX11_call_51 : decode cX11_call 51 = .ok (.iload_n 1, 1) := by decide +kernel
theorem dX11_call_52 : decode cX11_call 52 = .ok (.invokevirtual 256, 3) := by decide +kernel
theorem dX11_call_55 : decode cX11_call 55 = .ok (.ifCond .ne 14, 3) := by decide +kernel
theorem dX11_call_58 : decode cX11_call 58 = .ok (.aload_n 0, 1) := by decide +kernel
theorem dX11_call_59 : decode cX11_call 59 = .ok (.getfield 10, 3) := by decide +kernel
theorem dX11_call_62 : decode cX11_call 62 = .ok (.iload_n 1, 1) := by decide +kernel
theorem dX11_call_63 : decode cX11_call 63 = .ok (.invokevirtual 343, 3) := by decide +kernel
theorem dX11_call_66 : decode cX11_call 66 = .ok (.ifCond .eq 6, 3) := by decide +kernel
theorem dX11_call_69 : decode cX11_call 69 = .ok (.bipush (-3), 2) := by decide +kernel
theorem dX11_call_71 : decode cX11_call 71 = .ok (.ireturn, 1) := by decide +kernel
theorem dX11_call_72 : decode cX11_call 72 = .ok (.aload_n 0, 1) := by decide +kernel
theorem dX11_call_73 : decode cX11_call 73 = .ok (.getfield 10, 3) := by decide +kernel
theorem dX11_call_76 : decode cX11_call 76 = .ok (.getfield 133, 3) := by decide +kernel
theorem dX11_call_79 : decode cX11_call 79 = .ok (.invokevirtual 137, 3) := by decide +kernel
theorem dX11_call_82 : decode cX11_call 82 = .ok (.ifCond .eq 6, 3) := by decide +kernel
theorem dX11_call_85 : decode cX11_call 85 = .ok (.bipush (-4), 2) := by decide +kernel
theorem dX11_call_87 : decode cX11_call 87 = .ok (.ireturn, 1) := by decide +kernel
theorem dX11_call_88 : decode cX11_call 88 = .ok (.new 146, 3) := by decide +kernel
theorem dX11_call_91 : decode cX11_call 91 = .ok (.dup, 1) := by decide +kernel
theorem dX11_call_92 : decode cX11_call 92 = .ok (.iconst 4, 1) := by decide +kernel
theorem dX11_call_93 : decode cX11_call 93 = .ok (.iload_n 1, 1) := by decide +kernel
theorem dX11_call_94 : decode cX11_call 94 = .ok (.aload_n 0, 1) := by decide +kernel
theorem dX11_call_95 : decode cX11_call 95 = .ok (.getfield 10, 3) := by decide +kernel
theorem dX11_call_98 : decode cX11_call 98 = .ok (.getfield 148, 3) := by decide +kernel
theorem dX11_call_101 : decode cX11_call 101 = .ok (.getstatic 151, 3) := by decide +kernel
theorem dX11_call_104 : decode cX11_call 104 = .ok (.getstatic 151, 3) := by decide +kernel
theorem dX11_call_107 : decode cX11_call 107 = .ok (.invokespecial 154, 3) := by decide +kernel
theorem dX11_call_110 : decode cX11_call 110 = .ok (.astore_n 3, 1) := by decide +kernel
theorem dX11_call_111 : decode cX11_call 111 = .ok (.aload_n 3, 1) := by decide +kernel
theorem dX11_call_112 : decode cX11_call 112 = .ok (.iconst (-1), 1) := by decide +kernel
theorem dX11_call_113 : decode cX11_call 113 = .ok (.iconst (-1), 1) := by decide +kernel
theorem dX11_call_114 : decode cX11_call 114 = .ok (.iconst (-1), 1) := by decide +kernel
theorem dX11_call_115 : decode cX11_call 115 = .ok (.iload_n 2, 1) := by decide +kernel
theorem dX11_call_116 : decode cX11_call 116 = .ok (.invokevirtual 157, 3) := by decide +kernel
theorem dX11_call_119 : decode cX11_call 119 = .ok (.aload_n 0, 1) := by decide +kernel
theorem dX11_call_120 : decode cX11_call 120 = .ok (.getfield 10, 3) := by decide +kernel
theorem dX11_call_123 : decode cX11_call 123 = .ok (.getfield 133, 3) := by decide +kernel
theorem dX11_call_126 : decode cX11_call 126 = .ok (.aload_n 3, 1) := by decide +kernel
theorem dX11_call_127 : decode cX11_call 127 = .ok (.invokevirtual 168, 3) := by decide +kernel
theorem dX11_call_130 : decode cX11_call 130 = .ok (.ireturn, 1) := by decide +kernel
theorem cm_X11_call : CM yX11_call cX11_call 4 (some .int) 2 11 := ⟨w_1157, w_1158, w_1159, w_87, ⟨by decide +kernel, by decide +kernel, by decide +kernel⟩, ⟨_, _, rfl⟩, by decide⟩
noncomputable def f_X11_call_69 (n : Nat)  (h : MM) : RR :=
  some ((-3), h)
noncomputable def f_X11_call (n : Nat) (v0 v1 v2 : Int) (h : MM) : RR :=
  gf h v0 11 0 fun r1 =>
  gf h r1 10 1 fun r2 =>
  gk h r2 5 <|
  bd (f_X5_find n r2 v1 1 h) fun r3 h3 =>
  if r3 = 0 then
    some ((-1), h3)
  else
  gf h3 v0 11 0 fun r5 =>
  gf h3 v0 11 0 fun r6 =>
  gf h3 r6 10 9 fun r7 =>
  gk h3 r5 10 <|
  bd (f_X10_ruleOf n r5 3 r7 h3) fun r8 h8 =>
  bd (f_X11_within n v2 1 r8 h8) fun r9 h9 =>
  if r9 = 0 then
    some ((-2), h9)
  else
  gf h9 v0 11 0 fun r11 =>
  gf h9 r11 10 1 fun r12 =>
  gk h9 r12 5 <|
  bd (f_X5_isMarked n r12 v1 h9) fun r13 h13 =>
  if r13 = 0 then
    gf h13 v0 11 0 fun r15 =>
    gk h13 r15 10 <|
    bd (f_X10_isTooSoon n r15 v1 h13) fun r16 h16 =>
    if r16 = 0 then
      gf h16 v0 11 0 fun r18 =>
      gf h16 r18 10 1 fun r19 =>
      gk h16 r19 5 <|
      bd (f_X5_isFull n r19 h16) fun r20 h20 =>
      if r20 = 0 then
        nw h20 4 11 fun r22 h22 =>
        gf h22 v0 11 0 fun r23 =>
        gf h22 r23 10 9 fun r24 =>
        nz r22 <|
        bd (f_X4_init n r22 4 v1 r24 3 3 h22) fun r25 h25 =>
        gk h25 r22 4 <|
        bd (f_X4_tell n r22 ((-1)) ((-1)) ((-1)) v2 h25) fun r26 h26 =>
        gf h26 v0 11 0 fun r27 =>
        gf h26 r27 10 1 fun r28 =>
        gk h26 r28 5 <|
        bd (f_X5_file n r28 r22 h26) fun r29 h29 =>
        some (r29, h29)
      else
      some ((-4), h20)
    else
    f_X11_call_69 n h16
  else
  f_X11_call_69 n h13
set_option maxRecDepth 20000 in
theorem b_X11_call_69 {g : GT} {Z : Int × MM} {n : Nat} (C : Cx g cX11_call 4 yX11_call 5 112) (hr : Rt g (some .int) 0 Z)     {h : MM} (hf : f_X11_call_69 n   h = some Z) : G g 69 [(3, 0), (3, 0), (3, 0), (3, 0)] [] h := by
  unfold f_X11_call_69 at hf
  refine r_bipush C dX11_call_69 rfl ?_
  cases hf
  exact r_jret C hr dX11_call_71 (in32_of rfl)
set_option maxRecDepth 20000 in
theorem e_X11_call {g : GT} {Z : Int × MM} {n : Nat} (C : Cx g cX11_call 4 yX11_call 5 112) (hr : Rt g (some .int) 0 Z) {v0 v1 v2 : Int} (cv0 : cK 2 v0) (cv1 : cK 0 v1) (cv2 : cK 0 v2) {h : MM} (hf : f_X11_call n v0 v1 v2 h = some Z) : G g 0 [(2, v0), (0, v1), (0, v2), (3, 0)] [] h := by
  have cv1 : in32 v1 := cv1
  have cv2 : in32 v2 := cv2
  unfold f_X11_call at hf
  refine r_aload_n C dX11_call_0 rfl ?_
  obtain ⟨q1, hf⟩ := gf_s hf
  refine r_gf C ct11 (j := 0) (ji := 0) dX11_call_1 q1 rfl rfl (by decide) w_440 rfl (fun c1 => ?_)
  obtain ⟨q2, hf⟩ := gf_s hf
  refine r_gf C ct10 (j := 1) (ji := 1) dX11_call_4 q2 rfl rfl (by decide) w_302 rfl (fun c2 => ?_)
  refine r_iload_n C dX11_call_7 rfl ?_
  refine r_iconst C dX11_call_8 ?_
  obtain ⟨p3, hf⟩ := gk_s hf
  obtain ⟨r3, h3, hq3, hf⟩ := bd_s hf
  refine r_cV2 C (am_X5_find (gl g) n) cm_X5_find w_798 dX11_call_9 ⟨Nat.le_of_ble_eq_true rfl, Nat.le_of_ble_eq_true rfl⟩ p3 rfl cv1 (in32_of rfl) rfl (Nat.le_of_ble_eq_true rfl) hq3 (by decide) (fun c3 => ?_)
  refine r_ifnonnull C dX11_call_12 (tgt := 17) (by decide) (fun n4 => ?_) (fun n4 => ?_)
  · have hf := ite_n n4 hf
    refine r_iload_n C dX11_call_17 rfl ?_
    refine r_i2l C dX11_call_18 cv2 ?_
    refine r_iconst C dX11_call_19 ?_
    refine r_aload_n C dX11_call_20 rfl ?_
    obtain ⟨q5, hf⟩ := gf_s hf
    refine r_gf C ct11 (j := 0) (ji := 0) dX11_call_21 q5 rfl rfl (by decide) w_440 rfl (fun c5 => ?_)
    refine r_iconst C dX11_call_24 ?_
    refine r_aload_n C dX11_call_25 rfl ?_
    obtain ⟨q6, hf⟩ := gf_s hf
    refine r_gf C ct11 (j := 0) (ji := 0) dX11_call_26 q6 rfl rfl (by decide) w_440 rfl (fun c6 => ?_)
    obtain ⟨q7, hf⟩ := gf_s hf
    refine r_gf C ct10 (j := 9) (ji := 9) dX11_call_29 q7 rfl rfl (by decide) w_317 rfl (fun c7 => ?_)
    have c7 : in32 _ := c7
    obtain ⟨p8, hf⟩ := gk_s hf
    obtain ⟨r8, h8, hq8, hf⟩ := bd_s hf
    refine r_cV2 C (am_X10_ruleOf (gl g) n) cm_X10_ruleOf w_680 dX11_call_32 ⟨Nat.le_of_ble_eq_true rfl, Nat.le_of_ble_eq_true rfl⟩ p8 rfl (in32_of rfl) c7 rfl (Nat.le_of_ble_eq_true rfl) hq8 (by decide) (fun c8 => ?_)
    have c8 : in32 _ := c8
    obtain ⟨r9, h9, hq9, hf⟩ := bd_s hf
    refine r_cS3 C (am_X11_within (gl g) n) cm_X11_within w_466 dX11_call_35 ⟨Nat.le_of_ble_eq_true rfl, Nat.le_of_ble_eq_true rfl⟩ (in64_i cv2) (in32_of rfl) c8 rfl (Nat.le_of_ble_eq_true rfl) hq9 (by decide) (fun c9 => ?_)
    have c9 : in32 _ := c9
    refine r_if_ne C dX11_call_38 (tgt := 44) (by decide) c9 (fun n10 => ?_) (fun n10 => ?_)
    · have hf := ite_n n10 hf
      refine r_aload_n C dX11_call_44 rfl ?_
      obtain ⟨q11, hf⟩ := gf_s hf
      refine r_gf C ct11 (j := 0) (ji := 0) dX11_call_45 q11 rfl rfl (by decide) w_440 rfl (fun c11 => ?_)
      obtain ⟨q12, hf⟩ := gf_s hf
      refine r_gf C ct10 (j := 1) (ji := 1) dX11_call_48 q12 rfl rfl (by decide) w_302 rfl (fun c12 => ?_)
      refine r_iload_n C dX11_call_51 rfl ?_
      obtain ⟨p13, hf⟩ := gk_s hf
      obtain ⟨r13, h13, hq13, hf⟩ := bd_s hf
      refine r_cV1 C (am_X5_isMarked (gl g) n) cm_X5_isMarked w_993 dX11_call_52 ⟨Nat.le_of_ble_eq_true rfl, Nat.le_of_ble_eq_true rfl⟩ p13 rfl cv1 rfl (Nat.le_of_ble_eq_true rfl) hq13 (by decide) (fun c13 => ?_)
      have c13 : in32 _ := c13
      refine r_if_ne C dX11_call_55 (tgt := 69) (by decide) c13 (fun n14 => ?_) (fun n14 => ?_)
      · have hf := ite_n n14 hf
        exact G.mask [false, false, false, false] rfl rfl (b_X11_call_69 C hr   hf)
      · have hf := ite_p n14 hf
        refine r_aload_n C dX11_call_58 rfl ?_
        obtain ⟨q15, hf⟩ := gf_s hf
        refine r_gf C ct11 (j := 0) (ji := 0) dX11_call_59 q15 rfl rfl (by decide) w_440 rfl (fun c15 => ?_)
        refine r_iload_n C dX11_call_62 rfl ?_
        obtain ⟨p16, hf⟩ := gk_s hf
        obtain ⟨r16, h16, hq16, hf⟩ := bd_s hf
        refine r_cV1 C (am_X10_isTooSoon (gl g) n) cm_X10_isTooSoon w_1160 dX11_call_63 ⟨Nat.le_of_ble_eq_true rfl, Nat.le_of_ble_eq_true rfl⟩ p16 rfl cv1 rfl (Nat.le_of_ble_eq_true rfl) hq16 (by decide) (fun c16 => ?_)
        have c16 : in32 _ := c16
        refine r_if_eq C dX11_call_66 (tgt := 72) (by decide) c16 (fun n17 => ?_) (fun n17 => ?_)
        · have hf := ite_p n17 hf
          refine r_aload_n C dX11_call_72 rfl ?_
          obtain ⟨q18, hf⟩ := gf_s hf
          refine r_gf C ct11 (j := 0) (ji := 0) dX11_call_73 q18 rfl rfl (by decide) w_440 rfl (fun c18 => ?_)
          obtain ⟨q19, hf⟩ := gf_s hf
          refine r_gf C ct10 (j := 1) (ji := 1) dX11_call_76 q19 rfl rfl (by decide) w_302 rfl (fun c19 => ?_)
          obtain ⟨p20, hf⟩ := gk_s hf
          obtain ⟨r20, h20, hq20, hf⟩ := bd_s hf
          refine r_cV0 C (am_X5_isFull (gl g) n) cm_X5_isFull w_700 dX11_call_79 ⟨Nat.le_of_ble_eq_true rfl, Nat.le_of_ble_eq_true rfl⟩ p20 rfl  rfl (Nat.le_of_ble_eq_true rfl) hq20 (by decide) (fun c20 => ?_)
          have c20 : in32 _ := c20
          refine r_if_eq C dX11_call_82 (tgt := 88) (by decide) c20 (fun n21 => ?_) (fun n21 => ?_)
          · have hf := ite_p n21 hf
            obtain ⟨q22, hf⟩ := nw_s hf
            refine r_new C ct4 cf4 (ti := 4) (ni := 11) dX11_call_88 q22 rfl rfl w_704 w_705 w_106 ?_
            refine r_dup C dX11_call_91 (by decide) ?_
            refine r_iconst C dX11_call_92 ?_
            refine r_iload_n C dX11_call_93 rfl ?_
            refine r_aload_n C dX11_call_94 rfl ?_
            obtain ⟨q23, hf⟩ := gf_s hf
            refine r_gf C ct11 (j := 0) (ji := 0) dX11_call_95 q23 rfl rfl (by decide) w_440 rfl (fun c23 => ?_)
            obtain ⟨q24, hf⟩ := gf_s hf
            refine r_gf C ct10 (j := 9) (ji := 9) dX11_call_98 q24 rfl rfl (by decide) w_317 rfl (fun c24 => ?_)
            have c24 : in32 _ := c24
            refine r_gsN C dX11_call_101 w_706 ?_
            refine r_gsN C dX11_call_104 w_706 ?_
            obtain ⟨p25, hf⟩ := nz_s hf
            obtain ⟨r25, h25, hq25, hf⟩ := bd_s hf
            refine r_cI5 C (am_X4_init (gl g) n) cm_X4_init w_708 dX11_call_107 ⟨Nat.le_of_ble_eq_true rfl, Nat.le_of_ble_eq_true rfl⟩ p25 (in32_of rfl) cv1 c24 trivial trivial rfl (Nat.le_of_ble_eq_true rfl) hq25 ?_
            refine r_astore_n C dX11_call_110 (Nat.le_of_ble_eq_true rfl) rfl ?_
            refine r_aload_n C dX11_call_111 rfl ?_
            refine r_iconst C dX11_call_112 ?_
            refine r_iconst C dX11_call_113 ?_
            refine r_iconst C dX11_call_114 ?_
            refine r_iload_n C dX11_call_115 rfl ?_
            obtain ⟨p26, hf⟩ := gk_s hf
            obtain ⟨r26, h26, hq26, hf⟩ := bd_s hf
            refine r_cV4v C (am_X4_tell (gl g) n) cm_X4_tell w_781 dX11_call_116 ⟨Nat.le_of_ble_eq_true rfl, Nat.le_of_ble_eq_true rfl⟩ p26 rfl (in32_of rfl) (in32_of rfl) (in32_of rfl) cv2 rfl (Nat.le_of_ble_eq_true rfl) hq26 ?_
            refine r_aload_n C dX11_call_119 rfl ?_
            obtain ⟨q27, hf⟩ := gf_s hf
            refine r_gf C ct11 (j := 0) (ji := 0) dX11_call_120 q27 rfl rfl (by decide) w_440 rfl (fun c27 => ?_)
            obtain ⟨q28, hf⟩ := gf_s hf
            refine r_gf C ct10 (j := 1) (ji := 1) dX11_call_123 q28 rfl rfl (by decide) w_302 rfl (fun c28 => ?_)
            refine r_aload_n C dX11_call_126 rfl ?_
            obtain ⟨p29, hf⟩ := gk_s hf
            obtain ⟨r29, h29, hq29, hf⟩ := bd_s hf
            refine r_cV1 C (am_X5_file (gl g) n) cm_X5_file w_789 dX11_call_127 ⟨Nat.le_of_ble_eq_true rfl, Nat.le_of_ble_eq_true rfl⟩ p29 rfl trivial rfl (Nat.le_of_ble_eq_true rfl) hq29 (by decide) (fun c29 => ?_)
            have c29 : in32 _ := c29
            cases hf
            exact r_jret C hr dX11_call_130 c29
          · have hf := ite_n n21 hf
            refine r_bipush C dX11_call_85 rfl ?_
            cases hf
            exact r_jret C hr dX11_call_87 (in32_of rfl)
        · have hf := ite_n n17 hf
          exact G.mask [false, false, false, false] rfl rfl (b_X11_call_69 C hr   hf)
    · have hf := ite_p n10 hf
      refine r_bipush C dX11_call_41 rfl ?_
      cases hf
      exact r_jret C hr dX11_call_43 (in32_of rfl)
  · have hf := ite_p n4 hf
    refine r_iconst C dX11_call_15 ?_
    cases hf
    exact r_jret C hr dX11_call_16 (in32_of rfl)
set_option maxRecDepth 20000 in
theorem am_X11_call (l : Launch) (n : Nat) : AM l yX11_call cX11_call 4 (some .int) 5 112 [2, 0, 0] 0 (un3 (f_X11_call n)) := by
  refine AM.intro (by decide) (fun xs hx => ?_) (fun g xs h Z hl C hr hx hf => ?_)
  · obtain ⟨a0, a1, a2, rfl, c0, c1, c2⟩ := canL_3 hx
    exact Nat.le_of_ble_eq_true rfl
  · obtain ⟨a0, a1, a2, rfl, c0, c1, c2⟩ := canL_3 hx
    have hf := (un3_e _ a0 a1 a2 _).symm.trans hf
    exact e_X11_call (n := n) C hr c0 c1 c2 hf
/-! LinesPromised.lend(III)I -/
theorem dX11_lend_0 : decode cX11_lend 0 = .ok (.aload_n 0, 1) := by decide +kernel
theorem dX11_lend_1 : decode cX11_lend 1 = .ok (.getfield 10, 3) := by decide +kernel
theorem dX11_lend_4 : decode cX11_lend 4 = .ok (.getfield 133, 3) := by decide +kernel
theorem dX11_lend_7 : decode cX11_lend 7 = .ok (.iload_n 1, 1) := by decide +kernel
theorem dX11_lend_8 : decode cX11_lend 8 = .ok (.iconst 1, 1) := by decide +kernel
theorem dX11_lend_9 : decode cX11_lend 9 = .ok (.invokevirtual 172, 3) := by decide +kernel
theorem dX11_lend_12 : decode cX11_lend 12 = .ok (.astore 4, 2) := by decide +kernel
theorem dX11_lend_14 : decode cX11_lend 14 = .ok (.aload 4, 2) := by decide +kernel
theorem dX11_lend_16 : decode cX11_lend 16 = .ok (.ifnull 10, 3) := by decide +kernel
theorem dX11_lend_19 : decode cX11_lend 19 = .ok (.iload_n 2, 1) := by decide +kernel
theorem dX11_lend_20 : decode cX11_lend 20 = .ok (.invokestatic 74, 3) := by decide +kernel
theorem dX11_lend_23 : decode cX11_lend 23 = .ok (.ifCond .ne 5, 3) := by decide +kernel
theorem dX11_lend_26 : decode cX11_lend 26 = .ok (.iconst (-1), 1) := by decide +kernel
theorem dX11_lend_27 : decode cX11_lend 27 = .ok (.ireturn, 1) := by decide +kernel
theorem dX11_lend_28 : decode cX11_lend 28 = .ok (.iload_n 3, 1) := by decide +kernel
theorem dX11_lend_29 : decode cX11_lend 29 = .ok (.i2l, 1) := by decide +kernel
theorem dX11_lend_30 : decode cX11_lend 30 = .ok (.iconst 1, 1) := by decide +kernel
theorem dX11_lend_31 : decode cX11_lend 31 = .ok (.sipush 9999, 3) := by decide +kernel
theorem dX11_lend_34 : decode cX11_lend 34 = .ok (.invokestatic 46, 3) := by decide +kernel
theorem dX11_lend_37 : decode cX11_lend 37 = .ok (.ifCond .ne 6, 3) := by decide +kernel
theorem dX11_lend_40 : decode cX11_lend 40 = .ok (.bipush (-2), 2) := by decide +kernel
theorem dX11_lend_42 : decode cX11_lend 42 = .ok (.ireturn, 1) := by decide +kernel
theorem dX11_lend_43 : decode cX11_lend 43 = .ok (.aload_n 0, 1) := by decide +kernel
theorem dX11_lend_44 : decode cX11_lend 44 = .ok (.getfield 10, 3) := by decide +kernel
theorem dX11_lend_47 : decode cX11_lend 47 = .ok (.getfield 133, 3) := by decide +kernel
theorem dX11_lend_50 : decode cX11_lend 50 = .ok (.iload_n 1, 1) := by decide +kernel
theorem dX11_lend_51 : decode cX11_lend 51 = .ok (.invokevirtual 256, 3) := by decide +kernel
theorem dX11_lend_54 : decode cX11_lend 54 = .ok (.ifCond .ne 19, 3) := by decide +kernel
theorem dX11_lend_57 : decode cX11_lend 57 = .ok (.aload_n 0, 1) := by decide +kernel
theorem dX11_lend_58 : decode cX11_lend 58 = .ok (.getfield 10, 3) := by decide +kernel
theorem dX11_lend_61 : decode cX11_lend 61 = .ok (.getfield 78, 3) := by decide +kernel
theorem dX11_lend_64 : decode cX11_lend 64 = .ok (.getfield 82, 3) := by decide +kernel
theorem dX11_lend_67 : decode cX11_lend 67 = .ok (.iload_n 2, 1) := by decide +kernel
theorem dX11_lend_68 : decode cX11_lend 68 = .ok (.iaload, 1) := by decide +kernel
theorem dX11_lend_69 : decode cX11_lend 69 = .ok (.iload_n 3, 1) := by decide +kernel
theorem dX11_lend_70 : decode cX11_lend 70 = .ok (.if_icmp .ge 6, 3) := by decide +kernel
theorem dX11_lend_73 : decode cX11_lend 73 = .ok (.bipush (-3), 2) := by decide +kernel
theorem dX11_lend_75 : decode cX11_lend 75 = .ok (.ireturn, 1) := by decide +kernel
theorem dX11_lend_76 : decode cX11_lend 76 = .ok (.aload_n 0, 1) := by decide +kernel
theorem dX11_lend_77 : decode cX11_lend 77 = .ok (.getfield 10, 3) := by decide +kernel
theorem dX11_lend_80 : decode cX11_lend 80 = .ok (.getfield 133, 3) := by decide +kernel
theorem dX11_lend_83 : decode cX11_lend 83 = .ok (.invokevirtual 137, 3) := by decide +kernel
theorem dX11_lend_86 : decode cX11_lend 86 = .ok (.ifCond .eq 6, 3) := by decide +kernel
theorem dX11_lend_89 : decode cX11_lend 89 = .ok (.bipush (-4), 2) := by decide +kernel
theorem dX11_lend_91 : decode cX11_lend 91 = .ok (.ireturn, 1) := by decide +kernel
theorem dX11_lend_92 : decode cX11_lend 92 = .ok (.aload_n 0, 1) := by decide +kernel
theorem dX11_lend_93 : decode cX11_lend 93 = .ok (.getfield 10, 3) := by decide +kernel
theorem dX11_lend_96 : decode cX11_lend 96 = .ok (.getfield 78, 3) := by decide +kernel
theorem dX11_lend_99 : decode cX11_lend 99 = .ok (.getfield 82, 3) := by decide +kernel
theorem dX11_lend_102 : decode cX11_lend 102 = .ok (.iload_n 2, 1) := by decide +kernel
theorem dX11_lend_103 : decode cX11_lend 103 = .ok (.dup2, 1) := by decide +kernel
theorem dX11_lend_104 : decode cX11_lend 104 = .ok (.iaload, 1) := by decide +kernel
theorem dX11_lend_105 : decode cX11_lend 105 = .ok (.iload_n 3, 1) := by decide +kernel
theorem dX11_lend_106 : decode cX11_lend 106 = .ok (.isub, 1) := by decide +kernel
theorem dX11_lend_107 : decode cX11_lend 107 = .ok (.iastore, 1) := by decide +kernel
theorem dX11_lend_108 : decode cX11_lend 108 = .ok (.aload_n 0, 1) := by decide +kernel
theorem dX11_lend_109 : decode cX11_lend 109 = .ok (.getfield 10, 3) := by decide +kernel
theorem dX11_lend_112 : decode cX11_lend 112 = .ok (.getfield 78, 3) := by decide +kernel
theorem dX11_lend_115 : decode cX11_lend 115 = .ok (.getfield 82, 3) := by decide +kernel
theorem dX11_lend_118 : decode cX11_lend 118 = .ok (.bipush 8, 2) := by decide +kernel
theorem dX11_lend_120 : decode cX11_lend 120 = .ok (.aload 4, 2) := by decide +kernel
theorem dX11_lend_122 : decode cX11_lend 122 = .ok (.getfield 161, 3) := by decide +kernel
theorem dX11_lend_125 : decode cX11_lend 125 = .ok (.iadd, 1) := by decide +kernel
theorem dX11_lend_126 : decode cX11_lend 126 = .ok (.dup2, 1) := by decide +kernel
theorem dX11_lend_127 : decode cX11_lend 127 = .ok (.iaload, 1) := by decide +kernel
theorem dX11_lend_128 : decode cX11_lend 128 = .ok (.iload_n 3, 1) := by decide +kernel
theorem dX11_lend_129 : decode cX11_lend 129 = .ok (.iadd, 1) := by decide +kernel
theorem dX11_lend_130 : decode cX11_lend 130 = .ok (.iastore, 1) := by decide +kernel
theorem dX11_lend_131 : decode cX11_lend 131 = .ok (.new 146, 3) := by decide +kernel
theorem dX11_lend_134 : decode cX11_lend 134 = .ok (.dup, 1) := by decide +kernel
theorem dX11_lend_135 : decode cX11_lend 135 = .ok (.iconst 5, 1) := by decide +kernel
theorem dX11_lend_136 : decode cX11_lend 136 = .ok (.iload_n 1, 1) := by decide +kernel
theorem dX11_lend_137 : decode cX11_lend 137 = .ok (.aload_n 0, 1) := by decide +kernel
theorem dX11_lend_138 : decode cX11_lend 138 = .ok (.getfield 10, 3) := by decide +kernel
theorem dX11_lend_141 : decode cX11_lend 141 = .ok (.getfield 148, 3) := by decide +kernel
theorem dX11_lend_144 : decode cX11_lend 144 = .ok (.getstatic 151, 3) := by decide +kernel
theorem dX11_lend_147 : decode cX11_lend 147 = .ok (.getstatic 151, 3) := by decide +kernel
theorem dX11_lend_150 : decode cX11_lend 150 = .ok (.invokespecial 154, 3) := by decide +kernel
theorem dX11_lend_153 : decode cX11_lend 153 = .ok (.astore 5, 2) := by decide +kernel
theorem dX11_lend_155 : decode cX11_lend 155 = .ok (.aload 5, 2) := by decide +kernel
theorem dX11_lend_157 : decode cX11_lend 157 = .ok (.iload_n 2, 1) := by decide +kernel
theorem dX11_lend_158 : decode cX11_lend 158 = .ok (.iconst (-1), 1) := by decide +kernel
theorem dX11_lend_159 : decode cX11_lend 159 = .ok (.iconst (-1), 1) := by decide +kernel
theorem dX11_lend_160 : decode cX11_lend 160 = .ok (.iload_n 3, 1) := by decide +kernel
theorem dX11_lend_161 : decode cX11_lend 161 = .ok (.invokevirtual 157, 3) := by decide +kernel
theorem dX11_lend_164 : decode cX11_lend 164 = .ok (.aload_n 0, 1) := by decide +kernel
theorem dX11_lend_165 : decode cX11_lend 165 = .ok (.getfield 10, 3) := by decide +kernel
theorem dX11_lend_168 : decode cX11_lend 168 = .ok (.getfield 133, 3) := by decide +kernel
theorem dX11_lend_171 : decode cX11_lend 171 = .ok (.aload 5, 2) := by decide +kernel
theorem dX11_lend_173 : decode cX11_lend 173 = .ok (.invokevirtual 168, 3) := by decide +kernel
theorem dX11_lend_176 : decode cX11_lend 176 = .ok (.ireturn, 1) := by decide +kernel
theorem cm_X11_lend : CM yX11_lend cX11_lend 6 (some .int) 3 11 := ⟨w_1169, w_1170, w_1171, w_87, ⟨by decide +kernel, by decide +kernel, by decide +kernel⟩, ⟨_, _, rfl⟩, by decide⟩
noncomputable def f_X11_lend_26 (n : Nat)  (h : MM) : RR :=
  some ((-1), h)
noncomputable def f_X11_lend_73 (n : Nat)  (h : MM) : RR :=
  some ((-3), h)
noncomputable def f_X11_lend (n : Nat) (v0 v1 v2 v3 : Int) (h : MM) : RR :=
  gf h v0 11 0 fun r1 =>
  gf h r1 10 1 fun r2 =>
  gk h r2 5 <|
  bd (f_X5_find n r2 v1 1 h) fun r3 h3 =>
  if r3 = 0 then
    f_X11_lend_26 n h3
  else
  bd (f_X11_isHolder n v2 h3) fun r5 h5 =>
  if r5 = 0 then
    f_X11_lend_26 n h5
  else
  bd (f_X11_within n v3 1 9999 h5) fun r7 h7 =>
  if r7 = 0 then
    some ((-2), h7)
  else
  gf h7 v0 11 0 fun r9 =>
  gf h7 r9 10 1 fun r10 =>
  gk h7 r10 5 <|
  bd (f_X5_isMarked n r10 v1 h7) fun r11 h11 =>
  if r11 = 0 then
    gf h11 v0 11 0 fun r13 =>
    gf h11 r13 10 2 fun r14 =>
    gf h11 r14 8 0 fun r15 =>
    rd h11 r15 100 v2 fun r16 =>
    if v3 ≤ r16 then
      gf h11 v0 11 0 fun r18 =>
      gf h11 r18 10 1 fun r19 =>
      gk h11 r19 5 <|
      bd (f_X5_isFull n r19 h11) fun r20 h20 =>
      if r20 = 0 then
        gf h20 v0 11 0 fun r22 =>
        gf h20 r22 10 2 fun r23 =>
        gf h20 r23 8 0 fun r24 =>
        rd h20 r24 100 v2 fun r25 =>
        wt h20 r24 100 v2 (wr (r25 - v3)) fun h26 =>
        gf h26 v0 11 0 fun r27 =>
        gf h26 r27 10 2 fun r28 =>
        gf h26 r28 8 0 fun r29 =>
        gf h26 r3 4 9 fun r30 =>
        rd h26 r29 100 (wr (8 + r30)) fun r31 =>
        wt h26 r29 100 (wr (8 + r30)) (wr (r31 + v3)) fun h32 =>
        nw h32 4 11 fun r33 h33 =>
        gf h33 v0 11 0 fun r34 =>
        gf h33 r34 10 9 fun r35 =>
        nz r33 <|
        bd (f_X4_init n r33 5 v1 r35 3 3 h33) fun r36 h36 =>
        gk h36 r33 4 <|
        bd (f_X4_tell n r33 v2 ((-1)) ((-1)) v3 h36) fun r37 h37 =>
        gf h37 v0 11 0 fun r38 =>
        gf h37 r38 10 1 fun r39 =>
        gk h37 r39 5 <|
        bd (f_X5_file n r39 r33 h37) fun r40 h40 =>
        some (r40, h40)
      else
      some ((-4), h20)
    else
    f_X11_lend_73 n h11
  else
  f_X11_lend_73 n h11
set_option maxRecDepth 20000 in
theorem b_X11_lend_26 {g : GT} {Z : Int × MM} {n : Nat} (C : Cx g cX11_lend 6 yX11_lend 3 67) (hr : Rt g (some .int) 0 Z)     {h : MM} (hf : f_X11_lend_26 n   h = some Z) : G g 26 [(3, 0), (3, 0), (3, 0), (3, 0), (3, 0), (3, 0)] [] h := by
  unfold f_X11_lend_26 at hf
  refine r_iconst C dX11_lend_26 ?_
  cases hf
  exact r_jret C hr dX11_lend_27 (in32_of rfl)
set_option maxRecDepth 20000 in
theorem b_X11_lend_73 {g : GT} {Z : Int × MM} {n : Nat} (C : Cx g cX11_lend 6 yX11_lend 3 67) (hr : Rt g (some .int) 0 Z)     {h : MM} (hf : f_X11_lend_73 n   h = some Z) : G g 73 [(3, 0), (3, 0), (3, 0), (3, 0), (3, 0), (3, 0)] [] h := by
  unfold f_X11_lend_73 at hf
  refine r_bipush C dX11_lend_73 rfl ?_
  cases hf
  exact r_jret C hr dX11_lend_75 (in32_of rfl)
set_option maxRecDepth 20000 in
theorem e_X11_lend {g : GT} {Z : Int × MM} {n : Nat} (C : Cx g cX11_lend 6 yX11_lend 3 67) (hr : Rt g (some .int) 0 Z) {v0 v1 v2 v3 : Int} (cv0 : cK 2 v0) (cv1 : cK 0 v1) (cv2 : cK 0 v2) (cv3 : cK 0 v3) {h : MM} (hf : f_X11_lend n v0 v1 v2 v3 h = some Z) : G g 0 [(2, v0), (0, v1), (0, v2), (0, v3), (3, 0), (3, 0)] [] h := by
  have cv1 : in32 v1 := cv1
  have cv2 : in32 v2 := cv2
  have cv3 : in32 v3 := cv3
  unfold f_X11_lend at hf
  refine r_aload_n C dX11_lend_0 rfl ?_
  obtain ⟨q1, hf⟩ := gf_s hf
  refine r_gf C ct11 (j := 0) (ji := 0) dX11_lend_1 q1 rfl rfl (by decide) w_440 rfl (fun c1 => ?_)
  obtain ⟨q2, hf⟩ := gf_s hf
  refine r_gf C ct10 (j := 1) (ji := 1) dX11_lend_4 q2 rfl rfl (by decide) w_302 rfl (fun c2 => ?_)
  refine r_iload_n C dX11_lend_7 rfl ?_
  refine r_iconst C dX11_lend_8 ?_
  obtain ⟨p3, hf⟩ := gk_s hf
  obtain ⟨r3, h3, hq3, hf⟩ := bd_s hf
  refine r_cV2 C (am_X5_find (gl g) n) cm_X5_find w_798 dX11_lend_9 ⟨Nat.le_of_ble_eq_true rfl, Nat.le_of_ble_eq_true rfl⟩ p3 rfl cv1 (in32_of rfl) rfl (Nat.le_of_ble_eq_true rfl) hq3 (by decide) (fun c3 => ?_)
  refine r_astore C dX11_lend_12 (Nat.le_of_ble_eq_true rfl) rfl ?_
  refine r_aload C dX11_lend_14 rfl ?_
  refine r_ifnull C dX11_lend_16 (tgt := 26) (by decide) (fun n4 => ?_) (fun n4 => ?_)
  · have hf := ite_p n4 hf
    exact G.mask [false, false, false, false, false, false] rfl rfl (b_X11_lend_26 C hr   hf)
  · have hf := ite_n n4 hf
    refine r_iload_n C dX11_lend_19 rfl ?_
    obtain ⟨r5, h5, hq5, hf⟩ := bd_s hf
    refine r_cS1 C (am_X11_isHolder (gl g) n) cm_X11_isHolder w_485 dX11_lend_20 ⟨Nat.le_of_ble_eq_true rfl, Nat.le_of_ble_eq_true rfl⟩ cv2 rfl (Nat.le_of_ble_eq_true rfl) hq5 (by decide) (fun c5 => ?_)
    have c5 : in32 _ := c5
    refine r_if_ne C dX11_lend_23 (tgt := 28) (by decide) c5 (fun n6 => ?_) (fun n6 => ?_)
    · have hf := ite_n n6 hf
      refine r_iload_n C dX11_lend_28 rfl ?_
      refine r_i2l C dX11_lend_29 cv3 ?_
      refine r_iconst C dX11_lend_30 ?_
      refine r_sipush C dX11_lend_31 rfl ?_
      obtain ⟨r7, h7, hq7, hf⟩ := bd_s hf
      refine r_cS3 C (am_X11_within (gl g) n) cm_X11_within w_466 dX11_lend_34 ⟨Nat.le_of_ble_eq_true rfl, Nat.le_of_ble_eq_true rfl⟩ (in64_i cv3) (in32_of rfl) (in32_of rfl) rfl (Nat.le_of_ble_eq_true rfl) hq7 (by decide) (fun c7 => ?_)
      have c7 : in32 _ := c7
      refine r_if_ne C dX11_lend_37 (tgt := 43) (by decide) c7 (fun n8 => ?_) (fun n8 => ?_)
      · have hf := ite_n n8 hf
        refine r_aload_n C dX11_lend_43 rfl ?_
        obtain ⟨q9, hf⟩ := gf_s hf
        refine r_gf C ct11 (j := 0) (ji := 0) dX11_lend_44 q9 rfl rfl (by decide) w_440 rfl (fun c9 => ?_)
        obtain ⟨q10, hf⟩ := gf_s hf
        refine r_gf C ct10 (j := 1) (ji := 1) dX11_lend_47 q10 rfl rfl (by decide) w_302 rfl (fun c10 => ?_)
        refine r_iload_n C dX11_lend_50 rfl ?_
        obtain ⟨p11, hf⟩ := gk_s hf
        obtain ⟨r11, h11, hq11, hf⟩ := bd_s hf
        refine r_cV1 C (am_X5_isMarked (gl g) n) cm_X5_isMarked w_993 dX11_lend_51 ⟨Nat.le_of_ble_eq_true rfl, Nat.le_of_ble_eq_true rfl⟩ p11 rfl cv1 rfl (Nat.le_of_ble_eq_true rfl) hq11 (by decide) (fun c11 => ?_)
        have c11 : in32 _ := c11
        refine r_if_ne C dX11_lend_54 (tgt := 73) (by decide) c11 (fun n12 => ?_) (fun n12 => ?_)
        · have hf := ite_n n12 hf
          exact G.mask [false, false, false, false, false, false] rfl rfl (b_X11_lend_73 C hr   hf)
        · have hf := ite_p n12 hf
          refine r_aload_n C dX11_lend_57 rfl ?_
          obtain ⟨q13, hf⟩ := gf_s hf
          refine r_gf C ct11 (j := 0) (ji := 0) dX11_lend_58 q13 rfl rfl (by decide) w_440 rfl (fun c13 => ?_)
          obtain ⟨q14, hf⟩ := gf_s hf
          refine r_gf C ct10 (j := 2) (ji := 2) dX11_lend_61 q14 rfl rfl (by decide) w_304 rfl (fun c14 => ?_)
          obtain ⟨q15, hf⟩ := gf_s hf
          refine r_gf C ct8 (j := 0) (ji := 0) dX11_lend_64 q15 rfl rfl (by decide) w_215 rfl (fun c15 => ?_)
          refine r_iload_n C dX11_lend_67 rfl ?_
          obtain ⟨q16, hf⟩ := rd_s hf
          refine r_iald C dX11_lend_68 q16 rfl (fun c16 => ?_)
          refine r_iload_n C dX11_lend_69 rfl ?_
          refine r_icmp_ge C dX11_lend_70 (tgt := 76) (by decide) c16 cv3 (fun n17 => ?_) (fun n17 => ?_)
          · have hf := ite_p n17 hf
            refine r_aload_n C dX11_lend_76 rfl ?_
            obtain ⟨q18, hf⟩ := gf_s hf
            refine r_gf C ct11 (j := 0) (ji := 0) dX11_lend_77 q18 rfl rfl (by decide) w_440 rfl (fun c18 => ?_)
            obtain ⟨q19, hf⟩ := gf_s hf
            refine r_gf C ct10 (j := 1) (ji := 1) dX11_lend_80 q19 rfl rfl (by decide) w_302 rfl (fun c19 => ?_)
            obtain ⟨p20, hf⟩ := gk_s hf
            obtain ⟨r20, h20, hq20, hf⟩ := bd_s hf
            refine r_cV0 C (am_X5_isFull (gl g) n) cm_X5_isFull w_700 dX11_lend_83 ⟨Nat.le_of_ble_eq_true rfl, Nat.le_of_ble_eq_true rfl⟩ p20 rfl  rfl (Nat.le_of_ble_eq_true rfl) hq20 (by decide) (fun c20 => ?_)
            have c20 : in32 _ := c20
            refine r_if_eq C dX11_lend_86 (tgt := 92) (by decide) c20 (fun n21 => ?_) (fun n21 => ?_)
            · have hf := ite_p n21 hf
              refine r_aload_n C dX11_lend_92 rfl ?_
              obtain ⟨q22, hf⟩ := gf_s hf
              refine r_gf C ct11 (j := 0) (ji := 0) dX11_lend_93 q22 rfl rfl (by decide) w_440 rfl (fun c22 => ?_)
              obtain ⟨q23, hf⟩ := gf_s hf
              refine r_gf C ct10 (j := 2) (ji := 2) dX11_lend_96 q23 rfl rfl (by decide) w_304 rfl (fun c23 => ?_)
              obtain ⟨q24, hf⟩ := gf_s hf
              refine r_gf C ct8 (j := 0) (ji := 0) dX11_lend_99 q24 rfl rfl (by decide) w_215 rfl (fun c24 => ?_)
              refine r_iload_n C dX11_lend_102 rfl ?_
              refine r_dup2 C dX11_lend_103 (by decide) (by decide) ?_
              obtain ⟨q25, hf⟩ := rd_s hf
              refine r_iald C dX11_lend_104 q25 rfl (fun c25 => ?_)
              refine r_iload_n C dX11_lend_105 rfl ?_
              refine r_isub C dX11_lend_106 ?_
              obtain ⟨q26, hf⟩ := wt_s hf
              refine r_iast C dX11_lend_107 q26 rfl (in32_t _) ?_
              refine r_aload_n C dX11_lend_108 rfl ?_
              obtain ⟨q27, hf⟩ := gf_s hf
              refine r_gf C ct11 (j := 0) (ji := 0) dX11_lend_109 q27 rfl rfl (by decide) w_440 rfl (fun c27 => ?_)
              obtain ⟨q28, hf⟩ := gf_s hf
              refine r_gf C ct10 (j := 2) (ji := 2) dX11_lend_112 q28 rfl rfl (by decide) w_304 rfl (fun c28 => ?_)
              obtain ⟨q29, hf⟩ := gf_s hf
              refine r_gf C ct8 (j := 0) (ji := 0) dX11_lend_115 q29 rfl rfl (by decide) w_215 rfl (fun c29 => ?_)
              refine r_bipush C dX11_lend_118 rfl ?_
              refine r_aload C dX11_lend_120 rfl ?_
              obtain ⟨q30, hf⟩ := gf_s hf
              refine r_gf C ct4 (j := 9) (ji := 9) dX11_lend_122 q30 rfl rfl (by decide) w_754 rfl (fun c30 => ?_)
              have c30 : in32 _ := c30
              refine r_iadd C dX11_lend_125 ?_
              refine r_dup2 C dX11_lend_126 (by decide) (by decide) ?_
              obtain ⟨q31, hf⟩ := rd_s hf
              refine r_iald C dX11_lend_127 q31 rfl (fun c31 => ?_)
              refine r_iload_n C dX11_lend_128 rfl ?_
              refine r_iadd C dX11_lend_129 ?_
              obtain ⟨q32, hf⟩ := wt_s hf
              refine r_iast C dX11_lend_130 q32 rfl (in32_t _) ?_
              obtain ⟨q33, hf⟩ := nw_s hf
              refine r_new C ct4 cf4 (ti := 4) (ni := 11) dX11_lend_131 q33 rfl rfl w_704 w_705 w_106 ?_
              refine r_dup C dX11_lend_134 (by decide) ?_
              refine r_iconst C dX11_lend_135 ?_
              refine r_iload_n C dX11_lend_136 rfl ?_
              refine r_aload_n C dX11_lend_137 rfl ?_
              obtain ⟨q34, hf⟩ := gf_s hf
              refine r_gf C ct11 (j := 0) (ji := 0) dX11_lend_138 q34 rfl rfl (by decide) w_440 rfl (fun c34 => ?_)
              obtain ⟨q35, hf⟩ := gf_s hf
              refine r_gf C ct10 (j := 9) (ji := 9) dX11_lend_141 q35 rfl rfl (by decide) w_317 rfl (fun c35 => ?_)
              have c35 : in32 _ := c35
              refine r_gsN C dX11_lend_144 w_706 ?_
              refine r_gsN C dX11_lend_147 w_706 ?_
              obtain ⟨p36, hf⟩ := nz_s hf
              obtain ⟨r36, h36, hq36, hf⟩ := bd_s hf
              refine r_cI5 C (am_X4_init (gl g) n) cm_X4_init w_708 dX11_lend_150 ⟨Nat.le_of_ble_eq_true rfl, Nat.le_of_ble_eq_true rfl⟩ p36 (in32_of rfl) cv1 c35 trivial trivial rfl (Nat.le_of_ble_eq_true rfl) hq36 ?_
              refine r_astore C dX11_lend_153 (Nat.le_of_ble_eq_true rfl) rfl ?_
              refine r_aload C dX11_lend_155 rfl ?_
              refine r_iload_n C dX11_lend_157 rfl ?_
              refine r_iconst C dX11_lend_158 ?_
              refine r_iconst C dX11_lend_159 ?_
              refine r_iload_n C dX11_lend_160 rfl ?_
              obtain ⟨p37, hf⟩ := gk_s hf
              obtain ⟨r37, h37, hq37, hf⟩ := bd_s hf
              refine r_cV4v C (am_X4_tell (gl g) n) cm_X4_tell w_781 dX11_lend_161 ⟨Nat.le_of_ble_eq_true rfl, Nat.le_of_ble_eq_true rfl⟩ p37 rfl cv2 (in32_of rfl) (in32_of rfl) cv3 rfl (Nat.le_of_ble_eq_true rfl) hq37 ?_
              refine r_aload_n C dX11_lend_164 rfl ?_
              obtain ⟨q38, hf⟩ := gf_s hf
              refine r_gf C ct11 (j := 0) (ji := 0) dX11_lend_165 q38 rfl rfl (by decide) w_440 rfl (fun c38 => ?_)
              obtain ⟨q39, hf⟩ := gf_s hf
              refine r_gf C ct10 (j := 1) (ji := 1) dX11_lend_168 q39 rfl rfl (by decide) w_302 rfl (fun c39 => ?_)
              refine r_aload C dX11_lend_171 rfl ?_
              obtain ⟨p40, hf⟩ := gk_s hf
              obtain ⟨r40, h40, hq40, hf⟩ := bd_s hf
              refine r_cV1 C (am_X5_file (gl g) n) cm_X5_file w_789 dX11_lend_173 ⟨Nat.le_of_ble_eq_true rfl, Nat.le_of_ble_eq_true rfl⟩ p40 rfl trivial rfl (Nat.le_of_ble_eq_true rfl) hq40 (by decide) (fun c40 => ?_)
              have c40 : in32 _ := c40
              cases hf
              exact r_jret C hr dX11_lend_176 c40
            · have hf := ite_n n21 hf
              refine r_bipush C dX11_lend_89 rfl ?_
              cases hf
              exact r_jret C hr dX11_lend_91 (in32_of rfl)
          · have hf := ite_n n17 hf
            exact G.mask [false, false, false, false, false, false] rfl rfl (b_X11_lend_73 C hr   hf)
      · have hf := ite_p n8 hf
        refine r_bipush C dX11_lend_40 rfl ?_
        cases hf
        exact r_jret C hr dX11_lend_42 (in32_of rfl)
    · have hf := ite_p n6 hf
      exact G.mask [false, false, false, false, false, false] rfl rfl (b_X11_lend_26 C hr   hf)
set_option maxRecDepth 20000 in
theorem am_X11_lend (l : Launch) (n : Nat) : AM l yX11_lend cX11_lend 6 (some .int) 3 67 [2, 0, 0, 0] 0 (un4 (f_X11_lend n)) := by
  refine AM.intro (by decide) (fun xs hx => ?_) (fun g xs h Z hl C hr hx hf => ?_)
  · obtain ⟨a0, a1, a2, a3, rfl, c0, c1, c2, c3⟩ := canL_4 hx
    exact Nat.le_of_ble_eq_true rfl
  · obtain ⟨a0, a1, a2, a3, rfl, c0, c1, c2, c3⟩ := canL_4 hx
    have hf := (un4_e _ a0 a1 a2 a3 _).symm.trans hf
    exact e_X11_lend (n := n) C hr c0 c1 c2 c3 hf
/-! LinesPromised$Debts.gather(LLinesPromised$Papers;LLinesPromised$Scrip;)V -/
theorem dX0_gather_0 : decode cX0_gather 0 = .ok (.aload_n 0, 1) := by decide +kernel
theorem dX0_gather_1 : decode cX0_gather 1 = .ok (.getfield 9, 3) := by decide +kernel
theorem dX0_gather_4 : decode cX0_gather 4 = .ok (.iconst 0, 1) := by decide +kernel
theorem dX0_gather_5 : decode cX0_gather 5 = .ok (.invokestatic 44, 3) := by decide +kernel
theorem dX0_gather_8 : decode cX0_gather 8 = .ok (.aload_n 0, 1) := by decide +kernel
theorem dX0_gather_9 : decode cX0_gather 9 = .ok (.getfield 15, 3) := by decide +kernel
theorem dX0_gather_12 : decode cX0_gather 12 = .ok (.iconst 0, 1) := by decide +kernel
theorem dX0_gather_13 : decode cX0_gather 13 = .ok (.invokestatic 44, 3) := by decide +kernel
theorem dX0_gather_16 : decode cX0_gather 16 = .ok (.iconst 0, 1) := by decide +kernel
theorem dX0_gather_17 : decode cX0_gather 17 = .ok (.istore_n 3, 1) := by decide +kernel
theorem dX0_gather_18 : decode cX0_gather 18 = .ok (.iload_n 3, 1) := by decide +kernel
theorem dX0_gather_19 : decode cX0_gather 19 = .ok (.aload_n 1, 1) := by decide +kernel
theorem dX0_gather_20 : decode cX0_gather 20 = .ok (.getfield 57, 3) := by decide +kernel
theorem dX0_gather_23 : decode cX0_gather 23 = .ok (.if_icmp .ge 149, 3) := by decide +kernel
theorem dX0_gather_26 : decode cX0_gather 26 = .ok (.aload_n 1, 1) := by decide +kernel
theorem dX0_gather_27 : decode cX0_gather 27 = .ok (.iload_n 3, 1) := by decide +kernel
theorem dX0_gather_28 : decode cX0_gather 28 = .ok (.invokevirtual 60, 3) := by decide +kernel
theorem dX0_gather_31 : decode cX0_gather 31 = .ok (.astore 4, 2) := by decide +kernel
theorem dX0_gather_33 : decode cX0_gather 33 = .ok (.aload 4, 2) := by decide +kernel
theorem dX0_gather_35 : decode cX0_gather 35 = .ok (.ifnonnull 7, 3) := by decide +kernel
theorem dX0_gather_38 : decode cX0_gather 38 = .ok (.aconst_null, 1) := by decide +kernel
theorem dX0_gather_39 : decode cX0_gather 39 = .ok (.goto 12, 3) := by decide +kernel
theorem dX0_gather_42 : decode cX0_gather 42 = .ok (.aload_n 1, 1) := by decide +kernel
theorem dX0_gather_43 : decode cX0_gather 43 = .ok (.aload 4, 2) := by decide +kernel
theorem dX0_gather_45 : decode cX0_gather 45 = .ok (.getfield 64, 3) := by decide +kernel
theorem dX0_gather_48 : decode cX0_gather 48 = .ok (.invokevirtual 60, 3) := by decide +kernel
theorem dX0_gather_51 : decode cX0_gather 51 = .ok (.astore 5, 2) := by decide +kernel
theorem dX0_gather_53 : decode cX0_gather 53 = .ok (.aload 5, 2) := by decide +kernel
theorem dX0_gather_55 : decode cX0_gather 55 = .ok (.ifnull 111, 3) := by decide +kernel
theorem dX0_gather_58 : decode cX0_gather 58 = .ok (.aload_n 1, 1) := by decide +kernel
theorem dX0_gather_59 : decode cX0_gather 59 = .ok (.iload_n 3, 1) := by decide +kernel
theorem dX0_gather_60 : decode cX0_gather 60 = .ok (.invokevirtual 69, 3) := by decide +kernel
theorem dX0_gather_63 : decode cX0_gather 63 = .ok (.ifCond .eq 6, 3) := by decide +kernel
theorem dX0_gather_66 : decode cX0_gather 66 = .ok (.goto 100, 3) := by decide +kernel
theorem dX0_gather_69 : decode cX0_gather 69 = .ok (.aload 4, 2) := by decide +kernel
theorem dX0_gather_71 : decode cX0_gather 71 = .ok (.getfield 73, 3) := by decide +kernel
theorem dX0_gather_74 : decode cX0_gather 74 = .ok (.iconst 5, 1) := by decide +kernel
theorem dX0_gather_75 : decode cX0_gather 75 = .ok (.if_icmp .ne 30, 3) := by decide +kernel
theorem dX0_gather_78 : decode cX0_gather 78 = .ok (.aload_n 0, 1) := by decide +kernel
theorem dX0_gather_79 : decode cX0_gather 79 = .ok (.getfield 15, 3) := by decide +kernel
theorem dX0_gather_82 : decode cX0_gather 82 = .ok (.aload 4, 2) := by decide +kernel
theorem dX0_gather_84 : decode cX0_gather 84 = .ok (.getfield 76, 3) := by decide +kernel
theorem dX0_gather_87 : decode cX0_gather 87 = .ok (.bipush 12, 2) := by decide +kernel
theorem dX0_gather_89 : decode cX0_gather 89 = .ok (.imul, 1) := by decide +kernel
theorem dX0_gather_90 : decode cX0_gather 90 = .ok (.aload 5, 2) := by decide +kernel
theorem dX0_gather_92 : decode cX0_gather 92 = .ok (.getfield 79, 3) := by decide +kernel
theorem dX0_gather_95 : decode cX0_gather 95 = .ok (.iadd, 1) := by decide +kernel
theorem dX0_gather_96 : decode cX0_gather 96 = .ok (.dup2, 1) := by decide +kernel
theorem dX0_gather_97 : decode cX0_gather 97 = .ok (.iaload, 1) := by decide +kernel
theorem dX0_gather_98 : decode cX0_gather 98 = .ok (.aload 4, 2) := by decide +kernel
theorem dX0_gather_100 : decode cX0_gather 100 = .ok (.getfield 82, 3) := by decide +kernel
theorem dX0_gather_103 : decode cX0_gather 103 = .ok (.iadd, 1) := by decide +kernel
theorem dX0_gather_104 : decode cX0_gather 104 = .ok (.iastore, 1) := by decide +kernel
theorem dX0_gather_105 : decode cX0_gather 105 = .ok (.iconst 0, 1) := by decide +kernel
theorem dX0_gather_106 : decode cX0_gather 106 = .ok (.istore 6, 2) := by decide +kernel
theorem dX0_gather_108 : decode cX0_gather 108 = .ok (.iload 6, 2) := by decide +kernel
theorem dX0_gather_110 : decode cX0_gather 110 = .ok (.bipush 8, 2) := by decide +kernel
theorem dX0_gather_112 : decode cX0_gather 112 = .ok (.if_icmp .ge 54, 3) := by decide +kernel
theorem dX0_gather_115 : decode cX0_gather 115 = .ok (.aload 4, 2) := by decide +kernel
theorem dX0_gather_117 : decode cX0_gather 117 = .ok (.getfield 73, 3) := by decide +kernel
theorem dX0_gather_120 : decode cX0_gather 120 = .ok (.iconst 4, 1) := by decide +kernel
theorem dX0_gather_121 : decode cX0_gather 121 = .ok (.if_icmp .ne 45, 3) := by decide +kernel
theorem dX0_gather_124 : decode cX0_gather 124 = .ok (.aload_n 0, 1) := by decide +kernel
theorem dX0_gather_125 : decode cX0_gather 125 = .ok (.getfield 9, 3) := by decide +kernel
theorem dX0_gather_128 : decode cX0_gather 128 = .ok (.iload 6, 2) := by decide +kernel
theorem dX0_gather_130 : decode cX0_gather 130 = .ok (.bipush 12, 2) := by decide +kernel
theorem dX0_gather_132 : decode cX0_gather 132 = .ok (.imul, 1) := by decide +kernel
theorem dX0_gather_133 : decode cX0_gather 133 = .ok (.aload 5, 2) := by decide +kernel
theorem dX0_gather_135 : decode cX0_gather 135 = .ok (.getfield 79, 3) := by decide +kernel
theorem dX0_gather_138 : decode cX0_gather 138 = .ok (.iadd, 1) := by decide +kernel
theorem dX0_gather_139 : decode cX0_gather 139 = .ok (.dup2, 1) := by decide +kernel
theorem dX0_gather_140 : decode cX0_gather 140 = .ok (.iaload, 1) := by decide +kernel
theorem dX0_gather_141 : decode cX0_gather 141 = .ok (.aload 4, 2) := by decide +kernel
theorem dX0_gather_143 : decode cX0_gather 143 = .ok (.getfield 82, 3) := by decide +kernel
theorem dX0_gather_146 : decode cX0_gather 146 = .ok (.aload_n 2, 1) := by decide +kernel
theorem dX0_gather_147 : decode cX0_gather 147 = .ok (.aload 5, 2) := by decide +kernel
theorem dX0_gather_149 : decode cX0_gather 149 = .ok (.getfield 79, 3) := by decide +kernel
theorem dX0_gather_152 : decode cX0_gather 152 = .ok (.iload 6, 2) := by decide +kernel
theorem dX0_gather_154 : decode cX0_gather 154 = .ok (.invokevirtual 85, 3) := by decide +kernel
theorem dX0_gather_157 : decode cX0_gather 157 = .ok (.imul, 1) := by decide +kernel
theorem dX0_gather_158 : decode cX0_gather 158 = .ok (.iadd, 1) := by decide +kernel
theorem dX0_gather_159 : decode cX0_gather 159 = .ok (.iastore, 1) := by decide +kernel
theorem dX0_gather_160 : decode cX0_gather 160 = .ok (.iinc 6 1, 3) := by decide +kernel
theorem dX0_gather_163 : decode cX0_gather 163 = .ok (.goto (-55), 3) := by decide +kernel
theorem dX0_gather_166 : decode cX0_gather 166 = .ok (.iinc 3 1, 3) := by decide +kernel
theorem dX0_gather_169 : decode cX0_gather 169 = .ok (.goto (-151), 3) := by decide +kernel
theorem dX0_gather_172 : decode cX0_gather 172 = .ok (.return_, 1) := by decide +kernel
theorem cm_X0_gather : CM yX0_gather cX0_gather 7 none 2 0 := ⟨w_1182, w_27, w_1183, w_95, ⟨by decide +kernel, by decide +kernel, by decide +kernel⟩, ⟨_, _, rfl⟩, by decide⟩
noncomputable def f_X0_gather_166 (n : Nat) (rec18 : Int → MM → RR) (v0 v1 v2 v3 : Int) (h : MM) : RR :=
  lb (wr (v3 + 1)) fun x1 =>
  rec18 x1 h
noncomputable def f_X0_gather_108b (n : Nat) (rec18 : Int → MM → RR) (rec108 : Int → MM → RR) (v0 v1 v2 v3 v4 v5 v6 : Int) (h : MM) : RR :=
  if 8 ≤ v6 then
    f_X0_gather_166 n rec18 v0 v1 v2 v3 h
  else
  gf h v4 4 0 fun r2 =>
  if r2 = 4 then
    gf h v0 0 0 fun r4 =>
    gf h v5 4 9 fun r5 =>
    rd h r4 100 (wr ((wr (v6 * 12)) + r5)) fun r6 =>
    gf h v4 4 8 fun r7 =>
    gf h v5 4 9 fun r8 =>
    gk h v2 8 <|
    bd (f_X8_sharesOf n v2 r8 v6 h) fun r9 h9 =>
    wt h9 r4 100 (wr ((wr (v6 * 12)) + r5)) (wr (r6 + (wr (r7 * r9)))) fun h10 =>
    lb (wr (v6 + 1)) fun x11 =>
    rec108 x11 h10
  else
  f_X0_gather_166 n rec18 v0 v1 v2 v3 h
noncomputable def f_X0_gather_108 (n : Nat) (rec18 : Int → MM → RR) (v0 v1 v2 v3 v4 v5 : Int) : Nat → Int → MM → RR
  | 0, _, _ => none
  | k + 1, v6, h => f_X0_gather_108b n rec18 (f_X0_gather_108 n rec18 v0 v1 v2 v3 v4 v5 k) v0 v1 v2 v3 v4 v5 v6 h
noncomputable def f_X0_gather_105 (n : Nat) (rec18 : Int → MM → RR) (v0 v1 v2 v3 v4 v5 : Int) (h : MM) : RR :=
  f_X0_gather_108 n rec18 v0 v1 v2 v3 v4 v5 n 0 h
noncomputable def f_X0_gather_51 (n : Nat) (rec18 : Int → MM → RR) (v0 v1 v2 v3 v4 s0 : Int) (h : MM) : RR :=
  if s0 = 0 then
    f_X0_gather_166 n rec18 v0 v1 v2 v3 h
  else
  gk h v1 5 <|
  bd (f_X5_isMarked n v1 v3 h) fun r2 h2 =>
  if r2 = 0 then
    gf h2 v4 4 0 fun r4 =>
    if r4 = 5 then
      gf h2 v0 0 1 fun r6 =>
      gf h2 v4 4 5 fun r7 =>
      gf h2 s0 4 9 fun r8 =>
      rd h2 r6 100 (wr ((wr (r7 * 12)) + r8)) fun r9 =>
      gf h2 v4 4 8 fun r10 =>
      wt h2 r6 100 (wr ((wr (r7 * 12)) + r8)) (wr (r9 + r10)) fun h11 =>
      f_X0_gather_105 n rec18 v0 v1 v2 v3 v4 s0 h11
    else
    f_X0_gather_105 n rec18 v0 v1 v2 v3 v4 s0 h2
  else
  f_X0_gather_166 n rec18 v0 v1 v2 v3 h2
noncomputable def f_X0_gather_18b (n : Nat) (rec18 : Int → MM → RR) (v0 v1 v2 v3 : Int) (h : MM) : RR :=
  gf h v1 5 7 fun r1 =>
  if r1 ≤ v3 then
    some (0, h)
  else
  gk h v1 5 <|
  bd (f_X5_get n v1 v3 h) fun r3 h3 =>
  if r3 = 0 then
    f_X0_gather_51 n rec18 v0 v1 v2 v3 r3 0 h3
  else
  gf h3 r3 4 1 fun r5 =>
  gk h3 v1 5 <|
  bd (f_X5_get n v1 r5 h3) fun r6 h6 =>
  f_X0_gather_51 n rec18 v0 v1 v2 v3 r3 r6 h6
noncomputable def f_X0_gather_18 (n : Nat)  (v0 v1 v2 : Int) : Nat → Int → MM → RR
  | 0, _, _ => none
  | k + 1, v3, h => f_X0_gather_18b n  (f_X0_gather_18 n  v0 v1 v2 k) v0 v1 v2 v3 h
noncomputable def f_X0_gather (n : Nat) (v0 v1 v2 : Int) (h : MM) : RR :=
  gf h v0 0 0 fun r1 =>
  bd (f_J7_fill_53178 n r1 0 h) fun r2 h2 =>
  gf h2 v0 0 1 fun r3 =>
  bd (f_J7_fill_53178 n r3 0 h2) fun r4 h4 =>
  f_X0_gather_18 n v0 v1 v2 n 0 h4
set_option maxRecDepth 20000 in
theorem b_X0_gather_166 {g : GT} {Z : Int × MM} {n : Nat} (C : Cx g cX0_gather 7 yX0_gather 2 44) (hr : Rt g none 3 Z) {v0 v1 v2 v3 : Int}  {rec18 : Int → MM → RR} (L18 : ∀ (u3 : Int) (h : MM), in32 u3 → rec18 u3 h = some Z → G g 18 [(2, v0), (2, v1), (2, v2), (0, u3), (3, 0), (3, 0), (3, 0)] [] h) (cv3 : in32 v3) {h : MM} (hf : f_X0_gather_166 n rec18 v0 v1 v2 v3 h = some Z) : G g 166 [(2, v0), (2, v1), (2, v2), (0, v3), (3, 0), (3, 0), (3, 0)] [] h := by
  unfold f_X0_gather_166 at hf
  obtain ⟨x1, e1, hf⟩ := lb_s hf
  have c1 : in32 x1 := by rw [e1]; exact (in32_t _)
  refine r_iincL C dX0_gather_166 rfl e1 (Nat.le_of_ble_eq_true rfl) rfl ?_
  refine r_goto C dX0_gather_169 (tgt := 18) (by decide) ?_
  exact G.mask [true, true, true, true, false, false, false] rfl rfl (L18 _ _ c1 hf)
set_option maxRecDepth 20000 in
theorem b_X0_gather_108b {g : GT} {Z : Int × MM} {n : Nat} (C : Cx g cX0_gather 7 yX0_gather 2 44) (hr : Rt g none 3 Z) {v0 v1 v2 v3 v4 v5 v6 : Int}  {rec18 : Int → MM → RR} {rec108 : Int → MM → RR} (L18 : ∀ (u3 : Int) (h : MM), in32 u3 → rec18 u3 h = some Z → G g 18 [(2, v0), (2, v1), (2, v2), (0, u3), (3, 0), (3, 0), (3, 0)] [] h) (L108 : ∀ (u6 : Int) (h : MM), in32 u6 → rec108 u6 h = some Z → G g 108 [(2, v0), (2, v1), (2, v2), (0, v3), (2, v4), (2, v5), (0, u6)] [] h) (cv3 : in32 v3) (cv6 : in32 v6) {h : MM} (hf : f_X0_gather_108b n rec18 rec108 v0 v1 v2 v3 v4 v5 v6 h = some Z) : G g 108 [(2, v0), (2, v1), (2, v2), (0, v3), (2, v4), (2, v5), (0, v6)] [] h := by
  unfold f_X0_gather_108b at hf
  refine r_iload C dX0_gather_108 rfl ?_
  refine r_bipush C dX0_gather_110 rfl ?_
  refine r_icmp_ge C dX0_gather_112 (tgt := 166) (by decide) cv6 (in32_of rfl) (fun n1 => ?_) (fun n1 => ?_)
  · have hf := ite_p n1 hf
    exact G.mask [true, true, true, true, false, false, false] rfl rfl (b_X0_gather_166 C hr L18 cv3 hf)
  · have hf := ite_n n1 hf
    refine r_aload C dX0_gather_115 rfl ?_
    obtain ⟨q2, hf⟩ := gf_s hf
    refine r_gf C ct4 (j := 0) (ji := 0) dX0_gather_117 q2 rfl rfl (by decide) w_713 rfl (fun c2 => ?_)
    have c2 : in32 _ := c2
    refine r_iconst C dX0_gather_120 ?_
    refine r_icmp_ne C dX0_gather_121 (tgt := 166) (by decide) c2 (in32_of rfl) (fun n3 => ?_) (fun n3 => ?_)
    · have hf := ite_n n3 hf
      exact G.mask [true, true, true, true, false, false, false] rfl rfl (b_X0_gather_166 C hr L18 cv3 hf)
    · have hf := ite_p n3 hf
      refine r_aload_n C dX0_gather_124 rfl ?_
      obtain ⟨q4, hf⟩ := gf_s hf
      refine r_gf C ct0 (j := 0) (ji := 0) dX0_gather_125 q4 rfl rfl (by decide) w_389 rfl (fun c4 => ?_)
      refine r_iload C dX0_gather_128 rfl ?_
      refine r_bipush C dX0_gather_130 rfl ?_
      refine r_imul C dX0_gather_132 ?_
      refine r_aload C dX0_gather_133 rfl ?_
      obtain ⟨q5, hf⟩ := gf_s hf
      refine r_gf C ct4 (j := 9) (ji := 9) dX0_gather_135 q5 rfl rfl (by decide) w_751 rfl (fun c5 => ?_)
      have c5 : in32 _ := c5
      refine r_iadd C dX0_gather_138 ?_
      refine r_dup2 C dX0_gather_139 (by decide) (by decide) ?_
      obtain ⟨q6, hf⟩ := rd_s hf
      refine r_iald C dX0_gather_140 q6 rfl (fun c6 => ?_)
      refine r_aload C dX0_gather_141 rfl ?_
      obtain ⟨q7, hf⟩ := gf_s hf
      refine r_gf C ct4 (j := 8) (ji := 8) dX0_gather_143 q7 rfl rfl (by decide) w_747 rfl (fun c7 => ?_)
      have c7 : in32 _ := c7
      refine r_aload_n C dX0_gather_146 rfl ?_
      refine r_aload C dX0_gather_147 rfl ?_
      obtain ⟨q8, hf⟩ := gf_s hf
      refine r_gf C ct4 (j := 9) (ji := 9) dX0_gather_149 q8 rfl rfl (by decide) w_751 rfl (fun c8 => ?_)
      have c8 : in32 _ := c8
      refine r_iload C dX0_gather_152 rfl ?_
      obtain ⟨p9, hf⟩ := gk_s hf
      obtain ⟨r9, h9, hq9, hf⟩ := bd_s hf
      refine r_cV2 C (am_X8_sharesOf (gl g) n) cm_X8_sharesOf w_1187 dX0_gather_154 ⟨Nat.le_of_ble_eq_true rfl, Nat.le_of_ble_eq_true rfl⟩ p9 rfl c8 cv6 rfl (Nat.le_of_ble_eq_true rfl) hq9 (by decide) (fun c9 => ?_)
      have c9 : in32 _ := c9
      refine r_imul C dX0_gather_157 ?_
      refine r_iadd C dX0_gather_158 ?_
      obtain ⟨q10, hf⟩ := wt_s hf
      refine r_iast C dX0_gather_159 q10 rfl (in32_t _) ?_
      obtain ⟨x11, e11, hf⟩ := lb_s hf
      have c11 : in32 x11 := by rw [e11]; exact (in32_t _)
      refine r_iincL C dX0_gather_160 rfl e11 (Nat.le_of_ble_eq_true rfl) rfl ?_
      refine r_goto C dX0_gather_163 (tgt := 108) (by decide) ?_
      exact G.mask [true, true, true, true, true, true, true] rfl rfl (L108 _ _ c11 hf)
set_option maxRecDepth 20000 in
theorem l_X0_gather_108 {g : GT} {Z : Int × MM} {n : Nat} (C : Cx g cX0_gather 7 yX0_gather 2 44) (hr : Rt g none 3 Z) {v0 v1 v2 v3 v4 v5 : Int} {rec18 : Int → MM → RR} (L18 : ∀ (u3 : Int) (h : MM), in32 u3 → rec18 u3 h = some Z → G g 18 [(2, v0), (2, v1), (2, v2), (0, u3), (3, 0), (3, 0), (3, 0)] [] h) (cv3 : in32 v3) : ∀ (k : Nat) (v6 : Int) (h : MM), in32 v6 → f_X0_gather_108 n rec18 v0 v1 v2 v3 v4 v5 k v6 h = some Z → G g 108 [(2, v0), (2, v1), (2, v2), (0, v3), (2, v4), (2, v5), (0, v6)] [] h := by
  intro k
  induction k with
  | zero => intro v6 h cv6 hf; exact absurd hf (by intro z; cases z)
  | succ k ih => intro v6 h cv6 hf; exact b_X0_gather_108b C hr (rec108 := f_X0_gather_108 n rec18 v0 v1 v2 v3 v4 v5 k) L18 ih cv3 cv6 (show f_X0_gather_108b n rec18 (f_X0_gather_108 n rec18 v0 v1 v2 v3 v4 v5 k) v0 v1 v2 v3 v4 v5 v6 h = some Z from hf)
set_option maxRecDepth 20000 in
theorem b_X0_gather_105 {g : GT} {Z : Int × MM} {n : Nat} (C : Cx g cX0_gather 7 yX0_gather 2 44) (hr : Rt g none 3 Z) {v0 v1 v2 v3 v4 v5 : Int}  {rec18 : Int → MM → RR} (L18 : ∀ (u3 : Int) (h : MM), in32 u3 → rec18 u3 h = some Z → G g 18 [(2, v0), (2, v1), (2, v2), (0, u3), (3, 0), (3, 0), (3, 0)] [] h) (cv3 : in32 v3) {h : MM} (hf : f_X0_gather_105 n rec18 v0 v1 v2 v3 v4 v5 h = some Z) : G g 105 [(2, v0), (2, v1), (2, v2), (0, v3), (2, v4), (2, v5), (3, 0)] [] h := by
  unfold f_X0_gather_105 at hf
  refine r_iconst C dX0_gather_105 ?_
  refine r_istore C dX0_gather_106 (Nat.le_of_ble_eq_true rfl) rfl ?_
  exact G.mask [true, true, true, true, true, true, true] rfl rfl (l_X0_gather_108 C hr L18 cv3 _ _ _ (in32_of rfl) hf)
set_option maxRecDepth 20000 in
theorem b_X0_gather_51 {g : GT} {Z : Int × MM} {n : Nat} (C : Cx g cX0_gather 7 yX0_gather 2 44) (hr : Rt g none 3 Z) {v0 v1 v2 v3 v4 s0 : Int}  {rec18 : Int → MM → RR} (L18 : ∀ (u3 : Int) (h : MM), in32 u3 → rec18 u3 h = some Z → G g 18 [(2, v0), (2, v1), (2, v2), (0, u3), (3, 0), (3, 0), (3, 0)] [] h) (cv3 : in32 v3) {h : MM} (hf : f_X0_gather_51 n rec18 v0 v1 v2 v3 v4 s0 h = some Z) : G g 51 [(2, v0), (2, v1), (2, v2), (0, v3), (2, v4), (3, 0), (3, 0)] [(2, s0)] h := by
  unfold f_X0_gather_51 at hf
  refine r_astore C dX0_gather_51 (Nat.le_of_ble_eq_true rfl) rfl ?_
  refine r_aload C dX0_gather_53 rfl ?_
  refine r_ifnull C dX0_gather_55 (tgt := 166) (by decide) (fun n1 => ?_) (fun n1 => ?_)
  · have hf := ite_p n1 hf
    exact G.mask [true, true, true, true, false, false, false] rfl rfl (b_X0_gather_166 C hr L18 cv3 hf)
  · have hf := ite_n n1 hf
    refine r_aload_n C dX0_gather_58 rfl ?_
    refine r_iload_n C dX0_gather_59 rfl ?_
    obtain ⟨p2, hf⟩ := gk_s hf
    obtain ⟨r2, h2, hq2, hf⟩ := bd_s hf
    refine r_cV1 C (am_X5_isMarked (gl g) n) cm_X5_isMarked w_1186 dX0_gather_60 ⟨Nat.le_of_ble_eq_true rfl, Nat.le_of_ble_eq_true rfl⟩ p2 rfl cv3 rfl (Nat.le_of_ble_eq_true rfl) hq2 (by decide) (fun c2 => ?_)
    have c2 : in32 _ := c2
    refine r_if_eq C dX0_gather_63 (tgt := 69) (by decide) c2 (fun n3 => ?_) (fun n3 => ?_)
    · have hf := ite_p n3 hf
      refine r_aload C dX0_gather_69 rfl ?_
      obtain ⟨q4, hf⟩ := gf_s hf
      refine r_gf C ct4 (j := 0) (ji := 0) dX0_gather_71 q4 rfl rfl (by decide) w_713 rfl (fun c4 => ?_)
      have c4 : in32 _ := c4
      refine r_iconst C dX0_gather_74 ?_
      refine r_icmp_ne C dX0_gather_75 (tgt := 105) (by decide) c4 (in32_of rfl) (fun n5 => ?_) (fun n5 => ?_)
      · have hf := ite_n n5 hf
        exact G.mask [true, true, true, true, true, true, false] rfl rfl (b_X0_gather_105 C hr L18 cv3 hf)
      · have hf := ite_p n5 hf
        refine r_aload_n C dX0_gather_78 rfl ?_
        obtain ⟨q6, hf⟩ := gf_s hf
        refine r_gf C ct0 (j := 1) (ji := 1) dX0_gather_79 q6 rfl rfl (by decide) w_390 rfl (fun c6 => ?_)
        refine r_aload C dX0_gather_82 rfl ?_
        obtain ⟨q7, hf⟩ := gf_s hf
        refine r_gf C ct4 (j := 5) (ji := 5) dX0_gather_84 q7 rfl rfl (by decide) w_732 rfl (fun c7 => ?_)
        have c7 : in32 _ := c7
        refine r_bipush C dX0_gather_87 rfl ?_
        refine r_imul C dX0_gather_89 ?_
        refine r_aload C dX0_gather_90 rfl ?_
        obtain ⟨q8, hf⟩ := gf_s hf
        refine r_gf C ct4 (j := 9) (ji := 9) dX0_gather_92 q8 rfl rfl (by decide) w_751 rfl (fun c8 => ?_)
        have c8 : in32 _ := c8
        refine r_iadd C dX0_gather_95 ?_
        refine r_dup2 C dX0_gather_96 (by decide) (by decide) ?_
        obtain ⟨q9, hf⟩ := rd_s hf
        refine r_iald C dX0_gather_97 q9 rfl (fun c9 => ?_)
        refine r_aload C dX0_gather_98 rfl ?_
        obtain ⟨q10, hf⟩ := gf_s hf
        refine r_gf C ct4 (j := 8) (ji := 8) dX0_gather_100 q10 rfl rfl (by decide) w_747 rfl (fun c10 => ?_)
        have c10 : in32 _ := c10
        refine r_iadd C dX0_gather_103 ?_
        obtain ⟨q11, hf⟩ := wt_s hf
        refine r_iast C dX0_gather_104 q11 rfl (in32_t _) ?_
        exact G.mask [true, true, true, true, true, true, false] rfl rfl (b_X0_gather_105 C hr L18 cv3 hf)
    · have hf := ite_n n3 hf
      refine r_goto C dX0_gather_66 (tgt := 166) (by decide) ?_
      exact G.mask [true, true, true, true, false, false, false] rfl rfl (b_X0_gather_166 C hr L18 cv3 hf)
set_option maxRecDepth 20000 in
theorem b_X0_gather_18b {g : GT} {Z : Int × MM} {n : Nat} (C : Cx g cX0_gather 7 yX0_gather 2 44) (hr : Rt g none 3 Z) {v0 v1 v2 v3 : Int}  {rec18 : Int → MM → RR} (L18 : ∀ (u3 : Int) (h : MM), in32 u3 → rec18 u3 h = some Z → G g 18 [(2, v0), (2, v1), (2, v2), (0, u3), (3, 0), (3, 0), (3, 0)] [] h) (cv3 : in32 v3) {h : MM} (hf : f_X0_gather_18b n rec18 v0 v1 v2 v3 h = some Z) : G g 18 [(2, v0), (2, v1), (2, v2), (0, v3), (3, 0), (3, 0), (3, 0)] [] h := by
  unfold f_X0_gather_18b at hf
  refine r_iload_n C dX0_gather_18 rfl ?_
  refine r_aload_n C dX0_gather_19 rfl ?_
  obtain ⟨q1, hf⟩ := gf_s hf
  refine r_gf C ct5 (j := 7) (ji := 7) dX0_gather_20 q1 rfl rfl (by decide) w_178 rfl (fun c1 => ?_)
  have c1 : in32 _ := c1
  refine r_icmp_ge C dX0_gather_23 (tgt := 172) (by decide) cv3 c1 (fun n2 => ?_) (fun n2 => ?_)
  · have hf := ite_p n2 hf
    cases hf
    exact r_vret C hr dX0_gather_172
  · have hf := ite_n n2 hf
    refine r_aload_n C dX0_gather_26 rfl ?_
    refine r_iload_n C dX0_gather_27 rfl ?_
    obtain ⟨p3, hf⟩ := gk_s hf
    obtain ⟨r3, h3, hq3, hf⟩ := bd_s hf
    refine r_cV1 C (am_X5_get (gl g) n) cm_X5_get w_1185 dX0_gather_28 ⟨Nat.le_of_ble_eq_true rfl, Nat.le_of_ble_eq_true rfl⟩ p3 rfl cv3 rfl (Nat.le_of_ble_eq_true rfl) hq3 (by decide) (fun c3 => ?_)
    refine r_astore C dX0_gather_31 (Nat.le_of_ble_eq_true rfl) rfl ?_
    refine r_aload C dX0_gather_33 rfl ?_
    refine r_ifnonnull C dX0_gather_35 (tgt := 42) (by decide) (fun n4 => ?_) (fun n4 => ?_)
    · have hf := ite_n n4 hf
      refine r_aload_n C dX0_gather_42 rfl ?_
      refine r_aload C dX0_gather_43 rfl ?_
      obtain ⟨q5, hf⟩ := gf_s hf
      refine r_gf C ct4 (j := 1) (ji := 1) dX0_gather_45 q5 rfl rfl (by decide) w_717 rfl (fun c5 => ?_)
      have c5 : in32 _ := c5
      obtain ⟨p6, hf⟩ := gk_s hf
      obtain ⟨r6, h6, hq6, hf⟩ := bd_s hf
      refine r_cV1 C (am_X5_get (gl g) n) cm_X5_get w_1185 dX0_gather_48 ⟨Nat.le_of_ble_eq_true rfl, Nat.le_of_ble_eq_true rfl⟩ p6 rfl c5 rfl (Nat.le_of_ble_eq_true rfl) hq6 (by decide) (fun c6 => ?_)
      exact G.mask [true, true, true, true, true, false, false] rfl rfl (b_X0_gather_51 C hr L18 cv3 hf)
    · have hf := ite_p n4 hf
      refine r_null C dX0_gather_38 ?_
      refine r_goto C dX0_gather_39 (tgt := 51) (by decide) ?_
      exact G.mask [true, true, true, true, true, false, false] rfl rfl (b_X0_gather_51 C hr L18 cv3 hf)
set_option maxRecDepth 20000 in
theorem l_X0_gather_18 {g : GT} {Z : Int × MM} {n : Nat} (C : Cx g cX0_gather 7 yX0_gather 2 44) (hr : Rt g none 3 Z) {v0 v1 v2 : Int}    : ∀ (k : Nat) (v3 : Int) (h : MM), in32 v3 → f_X0_gather_18 n  v0 v1 v2 k v3 h = some Z → G g 18 [(2, v0), (2, v1), (2, v2), (0, v3), (3, 0), (3, 0), (3, 0)] [] h := by
  intro k
  induction k with
  | zero => intro v3 h cv3 hf; exact absurd hf (by intro z; cases z)
  | succ k ih => intro v3 h cv3 hf; exact b_X0_gather_18b C hr (rec18 := f_X0_gather_18 n  v0 v1 v2 k)  ih cv3 (show f_X0_gather_18b n  (f_X0_gather_18 n  v0 v1 v2 k) v0 v1 v2 v3 h = some Z from hf)
set_option maxRecDepth 20000 in
theorem e_X0_gather {g : GT} {Z : Int × MM} {n : Nat} (C : Cx g cX0_gather 7 yX0_gather 2 44) (hr : Rt g none 3 Z) {v0 v1 v2 : Int} (cv0 : cK 2 v0) (cv1 : cK 2 v1) (cv2 : cK 2 v2) {h : MM} (hf : f_X0_gather n v0 v1 v2 h = some Z) : G g 0 [(2, v0), (2, v1), (2, v2), (3, 0), (3, 0), (3, 0), (3, 0)] [] h := by
  unfold f_X0_gather at hf
  refine r_aload_n C dX0_gather_0 rfl ?_
  obtain ⟨q1, hf⟩ := gf_s hf
  refine r_gf C ct0 (j := 0) (ji := 0) dX0_gather_1 q1 rfl rfl (by decide) w_389 rfl (fun c1 => ?_)
  refine r_iconst C dX0_gather_4 ?_
  obtain ⟨r2, h2, hq2, hf⟩ := bd_s hf
  refine r_cS2v C (am_J7_fill_53178 (gl g) n) cm_J7_fill_53178 w_1184 dX0_gather_5 ⟨Nat.le_of_ble_eq_true rfl, Nat.le_of_ble_eq_true rfl⟩ trivial (in32_of rfl) rfl (Nat.le_of_ble_eq_true rfl) hq2 ?_
  refine r_aload_n C dX0_gather_8 rfl ?_
  obtain ⟨q3, hf⟩ := gf_s hf
  refine r_gf C ct0 (j := 1) (ji := 1) dX0_gather_9 q3 rfl rfl (by decide) w_390 rfl (fun c3 => ?_)
  refine r_iconst C dX0_gather_12 ?_
  obtain ⟨r4, h4, hq4, hf⟩ := bd_s hf
  refine r_cS2v C (am_J7_fill_53178 (gl g) n) cm_J7_fill_53178 w_1184 dX0_gather_13 ⟨Nat.le_of_ble_eq_true rfl, Nat.le_of_ble_eq_true rfl⟩ trivial (in32_of rfl) rfl (Nat.le_of_ble_eq_true rfl) hq4 ?_
  refine r_iconst C dX0_gather_16 ?_
  refine r_istore_n C dX0_gather_17 (Nat.le_of_ble_eq_true rfl) rfl ?_
  exact G.mask [true, true, true, true, false, false, false] rfl rfl (l_X0_gather_18 C hr   _ _ _ (in32_of rfl) hf)
set_option maxRecDepth 20000 in
theorem am_X0_gather (l : Launch) (n : Nat) : AM l yX0_gather cX0_gather 7 none 2 44 [2, 2, 2] 3 (un3 (f_X0_gather n)) := by
  refine AM.intro (by decide) (fun xs hx => ?_) (fun g xs h Z hl C hr hx hf => ?_)
  · obtain ⟨a0, a1, a2, rfl, c0, c1, c2⟩ := canL_3 hx
    exact Nat.le_of_ble_eq_true rfl
  · obtain ⟨a0, a1, a2, rfl, c0, c1, c2⟩ := canL_3 hx
    have hf := (un3_e _ a0 a1 a2 _).symm.trans hf
    exact e_X0_gather (n := n) C hr c0 c1 c2 hf
/-! LinesPromised$Debts.addUpDue()V -/
theorem dX0_addUpDue_0 : decode cX0_addUpDue 0 = .ok (.aload_n 0, 1) := by decide +kernel
theorem dX0_addUpDue_1 : decode cX0_addUpDue 1 = .ok (.getfield 24, 3) := by decide +kernel
theorem dX0_addUpDue_4 : decode cX0_addUpDue 4 = .ok (.iconst 0, 1) := by decide +kernel
theorem dX0_addUpDue_5 : decode cX0_addUpDue 5 = .ok (.invokestatic 44, 3) := by decide +kernel
theorem dX0_addUpDue_8 : decode cX0_addUpDue 8 = .ok (.iconst 0, 1) := by decide +kernel
theorem dX0_addUpDue_9 : decode cX0_addUpDue 9 = .ok (.istore_n 1, 1) := by decide +kernel
theorem dX0_addUpDue_10 : decode cX0_addUpDue 10 = .ok (.iload_n 1, 1) := by decide +kernel
theorem dX0_addUpDue_11 : decode cX0_addUpDue 11 = .ok (.aload_n 0, 1) := by decide +kernel
theorem dX0_addUpDue_12 : decode cX0_addUpDue 12 = .ok (.getfield 9, 3) := by decide +kernel
theorem dX0_addUpDue_15 : decode cX0_addUpDue 15 = .ok (.arraylength, 1) := by decide +kernel
theorem dX0_addUpDue_16 : decode cX0_addUpDue 16 = .ok (.if_icmp .ge 48, 3) := by decide +kernel
theorem dX0_addUpDue_19 : decode cX0_addUpDue 19 = .ok (.aload_n 0, 1) := by decide +kernel
theorem dX0_addUpDue_20 : decode cX0_addUpDue 20 = .ok (.getfield 24, 3) := by decide +kernel
theorem dX0_addUpDue_23 : decode cX0_addUpDue 23 = .ok (.iload_n 1, 1) := by decide +kernel
theorem dX0_addUpDue_24 : decode cX0_addUpDue 24 = .ok (.bipush 12, 2) := by decide +kernel
theorem dX0_addUpDue_26 : decode cX0_addUpDue 26 = .ok (.idiv, 1) := by decide +kernel
theorem dX0_addUpDue_27 : decode cX0_addUpDue 27 = .ok (.dup2, 1) := by decide +kernel
theorem dX0_addUpDue_28 : decode cX0_addUpDue 28 = .ok (.iaload, 1) := by decide +kernel
theorem dX0_addUpDue_29 : decode cX0_addUpDue 29 = .ok (.aload_n 0, 1) := by decide +kernel
theorem dX0_addUpDue_30 : decode cX0_addUpDue 30 = .ok (.getfield 9, 3) := by decide +kernel
theorem dX0_addUpDue_33 : decode cX0_addUpDue 33 = .ok (.iload_n 1, 1) := by decide +kernel
theorem dX0_addUpDue_34 : decode cX0_addUpDue 34 = .ok (.iaload, 1) := by decide +kernel
theorem dX0_addUpDue_35 : decode cX0_addUpDue 35 = .ok (.iadd, 1) := by decide +kernel
theorem dX0_addUpDue_36 : decode cX0_addUpDue 36 = .ok (.iastore, 1) := by decide +kernel
theorem dX0_addUpDue_37 : decode cX0_addUpDue 37 = .ok (.aload_n 0, 1) := by decide +kernel
theorem dX0_addUpDue_38 : decode cX0_addUpDue 38 = .ok (.getfield 24, 3) := by decide +kernel
theorem dX0_addUpDue_41 : decode cX0_addUpDue 41 = .ok (.bipush 8, 2) := by decide +kernel
theorem dX0_addUpDue_43 : decode cX0_addUpDue 43 = .ok (.iload_n 1, 1) := by decide +kernel
theorem dX0_addUpDue_44 : decode cX0_addUpDue 44 = .ok (.bipush 12, 2) := by decide +kernel
theorem dX0_addUpDue_46 : decode cX0_addUpDue 46 = .ok (.irem, 1) := by decide +kernel
theorem dX0_addUpDue_47 : decode cX0_addUpDue 47 = .ok (.iadd, 1) := by decide +kernel
theorem dX0_addUpDue_48 : decode cX0_addUpDue 48 = .ok (.dup2, 1) := by decide +kernel
theorem dX0_addUpDue_49 : decode cX0_addUpDue 49 = .ok (.iaload, 1) := by decide +kernel
theorem dX0_addUpDue_50 : decode cX0_addUpDue 50 = .ok (.aload_n 0, 1) := by decide +kernel
theorem dX0_addUpDue_51 : decode cX0_addUpDue 51 = .ok (.getfield 15, 3) := by decide +kernel
theorem dX0_addUpDue_54 : decode cX0_addUpDue 54 = .ok (.iload_n 1, 1) := by decide +kernel
theorem dX0_addUpDue_55 : decode cX0_addUpDue 55 = .ok (.iaload, 1) := by decide +kernel
theorem dX0_addUpDue_56 : decode cX0_addUpDue 56 = .ok (.iadd, 1) := by decide +kernel
theorem dX0_addUpDue_57 : decode cX0_addUpDue 57 = .ok (.iastore, 1) := by decide +kernel
theorem dX0_addUpDue_58 : decode cX0_addUpDue 58 = .ok (.iinc 1 1, 3) := by decide +kernel
theorem dX0_addUpDue_61 : decode cX0_addUpDue 61 = .ok (.goto (-51), 3) := by decide +kernel
theorem dX0_addUpDue_64 : decode cX0_addUpDue 64 = .ok (.return_, 1) := by decide +kernel
theorem cm_X0_addUpDue : CM yX0_addUpDue cX0_addUpDue 2 none 0 0 := ⟨w_1190, w_28, w_1191, w_95, ⟨by decide +kernel, by decide +kernel, by decide +kernel⟩, ⟨_, _, rfl⟩, by decide⟩
noncomputable def f_X0_addUpDue_10b (n : Nat) (rec10 : Int → MM → RR) (v0 v1 : Int) (h : MM) : RR :=
  gf h v0 0 0 fun r1 =>
  al h r1 100 fun r2 =>
  if r2 ≤ v1 then
    some (0, h)
  else
  gf h v0 0 4 fun r4 =>
  rd h r4 100 (idv v1 12) fun r5 =>
  gf h v0 0 0 fun r6 =>
  rd h r6 100 v1 fun r7 =>
  wt h r4 100 (idv v1 12) (wr (r5 + r7)) fun h8 =>
  gf h8 v0 0 4 fun r9 =>
  rd h8 r9 100 (wr (8 + (irm v1 12))) fun r10 =>
  gf h8 v0 0 1 fun r11 =>
  rd h8 r11 100 v1 fun r12 =>
  wt h8 r9 100 (wr (8 + (irm v1 12))) (wr (r10 + r12)) fun h13 =>
  lb (wr (v1 + 1)) fun x14 =>
  rec10 x14 h13
noncomputable def f_X0_addUpDue_10 (n : Nat)  (v0 : Int) : Nat → Int → MM → RR
  | 0, _, _ => none
  | k + 1, v1, h => f_X0_addUpDue_10b n  (f_X0_addUpDue_10 n  v0 k) v0 v1 h
noncomputable def f_X0_addUpDue (n : Nat) (v0 : Int) (h : MM) : RR :=
  gf h v0 0 4 fun r1 =>
  bd (f_J7_fill_53178 n r1 0 h) fun r2 h2 =>
  f_X0_addUpDue_10 n v0 n 0 h2
set_option maxRecDepth 20000 in
theorem b_X0_addUpDue_10b {g : GT} {Z : Int × MM} {n : Nat} (C : Cx g cX0_addUpDue 2 yX0_addUpDue 1 23) (hr : Rt g none 3 Z) {v0 v1 : Int}  {rec10 : Int → MM → RR} (L10 : ∀ (u1 : Int) (h : MM), in32 u1 → rec10 u1 h = some Z → G g 10 [(2, v0), (0, u1)] [] h) (cv1 : in32 v1) {h : MM} (hf : f_X0_addUpDue_10b n rec10 v0 v1 h = some Z) : G g 10 [(2, v0), (0, v1)] [] h := by
  unfold f_X0_addUpDue_10b at hf
  refine r_iload_n C dX0_addUpDue_10 rfl ?_
  refine r_aload_n C dX0_addUpDue_11 rfl ?_
  obtain ⟨q1, hf⟩ := gf_s hf
  refine r_gf C ct0 (j := 0) (ji := 0) dX0_addUpDue_12 q1 rfl rfl (by decide) w_389 rfl (fun c1 => ?_)
  obtain ⟨q2, hf⟩ := al_s hf
  refine r_alen C (tn := 100) dX0_addUpDue_15 q2 rfl (by decide) (fun c2 _ => ?_)
  refine r_icmp_ge C dX0_addUpDue_16 (tgt := 64) (by decide) cv1 c2 (fun n3 => ?_) (fun n3 => ?_)
  · have hf := ite_p n3 hf
    cases hf
    exact r_vret C hr dX0_addUpDue_64
  · have hf := ite_n n3 hf
    refine r_aload_n C dX0_addUpDue_19 rfl ?_
    obtain ⟨q4, hf⟩ := gf_s hf
    refine r_gf C ct0 (j := 4) (ji := 4) dX0_addUpDue_20 q4 rfl rfl (by decide) w_393 rfl (fun c4 => ?_)
    refine r_iload_n C dX0_addUpDue_23 rfl ?_
    refine r_bipush C dX0_addUpDue_24 rfl ?_
    refine r_idiv C dX0_addUpDue_26 (in32_of rfl) (by decide) ?_
    refine r_dup2 C dX0_addUpDue_27 (by decide) (by decide) ?_
    obtain ⟨q5, hf⟩ := rd_s hf
    refine r_iald C dX0_addUpDue_28 q5 rfl (fun c5 => ?_)
    refine r_aload_n C dX0_addUpDue_29 rfl ?_
    obtain ⟨q6, hf⟩ := gf_s hf
    refine r_gf C ct0 (j := 0) (ji := 0) dX0_addUpDue_30 q6 rfl rfl (by decide) w_389 rfl (fun c6 => ?_)
    refine r_iload_n C dX0_addUpDue_33 rfl ?_
    obtain ⟨q7, hf⟩ := rd_s hf
    refine r_iald C dX0_addUpDue_34 q7 rfl (fun c7 => ?_)
    refine r_iadd C dX0_addUpDue_35 ?_
    obtain ⟨q8, hf⟩ := wt_s hf
    refine r_iast C dX0_addUpDue_36 q8 rfl (in32_t _) ?_
    refine r_aload_n C dX0_addUpDue_37 rfl ?_
    obtain ⟨q9, hf⟩ := gf_s hf
    refine r_gf C ct0 (j := 4) (ji := 4) dX0_addUpDue_38 q9 rfl rfl (by decide) w_393 rfl (fun c9 => ?_)
    refine r_bipush C dX0_addUpDue_41 rfl ?_
    refine r_iload_n C dX0_addUpDue_43 rfl ?_
    refine r_bipush C dX0_addUpDue_44 rfl ?_
    refine r_irem C dX0_addUpDue_46 (in32_of rfl) (by decide) ?_
    refine r_iadd C dX0_addUpDue_47 ?_
    refine r_dup2 C dX0_addUpDue_48 (by decide) (by decide) ?_
    obtain ⟨q10, hf⟩ := rd_s hf
    refine r_iald C dX0_addUpDue_49 q10 rfl (fun c10 => ?_)
    refine r_aload_n C dX0_addUpDue_50 rfl ?_
    obtain ⟨q11, hf⟩ := gf_s hf
    refine r_gf C ct0 (j := 1) (ji := 1) dX0_addUpDue_51 q11 rfl rfl (by decide) w_390 rfl (fun c11 => ?_)
    refine r_iload_n C dX0_addUpDue_54 rfl ?_
    obtain ⟨q12, hf⟩ := rd_s hf
    refine r_iald C dX0_addUpDue_55 q12 rfl (fun c12 => ?_)
    refine r_iadd C dX0_addUpDue_56 ?_
    obtain ⟨q13, hf⟩ := wt_s hf
    refine r_iast C dX0_addUpDue_57 q13 rfl (in32_t _) ?_
    obtain ⟨x14, e14, hf⟩ := lb_s hf
    have c14 : in32 x14 := by rw [e14]; exact (in32_t _)
    refine r_iincL C dX0_addUpDue_58 rfl e14 (Nat.le_of_ble_eq_true rfl) rfl ?_
    refine r_goto C dX0_addUpDue_61 (tgt := 10) (by decide) ?_
    exact G.mask [true, true] rfl rfl (L10 _ _ c14 hf)
set_option maxRecDepth 20000 in
theorem l_X0_addUpDue_10 {g : GT} {Z : Int × MM} {n : Nat} (C : Cx g cX0_addUpDue 2 yX0_addUpDue 1 23) (hr : Rt g none 3 Z) {v0 : Int}    : ∀ (k : Nat) (v1 : Int) (h : MM), in32 v1 → f_X0_addUpDue_10 n  v0 k v1 h = some Z → G g 10 [(2, v0), (0, v1)] [] h := by
  intro k
  induction k with
  | zero => intro v1 h cv1 hf; exact absurd hf (by intro z; cases z)
  | succ k ih => intro v1 h cv1 hf; exact b_X0_addUpDue_10b C hr (rec10 := f_X0_addUpDue_10 n  v0 k)  ih cv1 (show f_X0_addUpDue_10b n  (f_X0_addUpDue_10 n  v0 k) v0 v1 h = some Z from hf)
set_option maxRecDepth 20000 in
theorem e_X0_addUpDue {g : GT} {Z : Int × MM} {n : Nat} (C : Cx g cX0_addUpDue 2 yX0_addUpDue 1 23) (hr : Rt g none 3 Z) {v0 : Int} (cv0 : cK 2 v0) {h : MM} (hf : f_X0_addUpDue n v0 h = some Z) : G g 0 [(2, v0), (3, 0)] [] h := by
  unfold f_X0_addUpDue at hf
  refine r_aload_n C dX0_addUpDue_0 rfl ?_
  obtain ⟨q1, hf⟩ := gf_s hf
  refine r_gf C ct0 (j := 4) (ji := 4) dX0_addUpDue_1 q1 rfl rfl (by decide) w_393 rfl (fun c1 => ?_)
  refine r_iconst C dX0_addUpDue_4 ?_
  obtain ⟨r2, h2, hq2, hf⟩ := bd_s hf
  refine r_cS2v C (am_J7_fill_53178 (gl g) n) cm_J7_fill_53178 w_1184 dX0_addUpDue_5 ⟨Nat.le_of_ble_eq_true rfl, Nat.le_of_ble_eq_true rfl⟩ trivial (in32_of rfl) rfl (Nat.le_of_ble_eq_true rfl) hq2 ?_
  refine r_iconst C dX0_addUpDue_8 ?_
  refine r_istore_n C dX0_addUpDue_9 (Nat.le_of_ble_eq_true rfl) rfl ?_
  exact G.mask [true, true] rfl rfl (l_X0_addUpDue_10 C hr   _ _ _ (in32_of rfl) hf)
set_option maxRecDepth 20000 in
theorem am_X0_addUpDue (l : Launch) (n : Nat) : AM l yX0_addUpDue cX0_addUpDue 2 none 1 23 [2] 3 (un1 (f_X0_addUpDue n)) := by
  refine AM.intro (by decide) (fun xs hx => ?_) (fun g xs h Z hl C hr hx hf => ?_)
  · obtain ⟨a0, rfl, c0⟩ := canL_1 hx
    exact Nat.le_of_ble_eq_true rfl
  · obtain ⟨a0, rfl, c0⟩ := canL_1 hx
    have hf := (un1_e _ a0 _).symm.trans hf
    exact e_X0_addUpDue (n := n) C hr c0 hf
/-! LinesPromised$Debts.addUpIncome()V -/
theorem dX0_addUpIncome_0 : decode cX0_addUpIncome 0 = .ok (.aload_n 0, 1) := by decide +kernel
theorem dX0_addUpIncome_1 : decode cX0_addUpIncome 1 = .ok (.getfield 27, 3) := by decide +kernel
theorem dX0_addUpIncome_4 : decode cX0_addUpIncome 4 = .ok (.iconst 0, 1) := by decide +kernel
theorem dX0_addUpIncome_5 : decode cX0_addUpIncome 5 = .ok (.invokestatic 44, 3) := by decide +kernel
theorem dX0_addUpIncome_8 : decode cX0_addUpIncome 8 = .ok (.iconst 0, 1) := by decide +kernel
theorem dX0_addUpIncome_9 : decode cX0_addUpIncome 9 = .ok (.istore_n 1, 1) := by decide +kernel
theorem dX0_addUpIncome_10 : decode cX0_addUpIncome 10 = .ok (.iload_n 1, 1) := by decide +kernel
theorem dX0_addUpIncome_11 : decode cX0_addUpIncome 11 = .ok (.bipush 8, 2) := by decide +kernel
theorem dX0_addUpIncome_13 : decode cX0_addUpIncome 13 = .ok (.if_icmp .ge 68, 3) := by decide +kernel
theorem dX0_addUpIncome_16 : decode cX0_addUpIncome 16 = .ok (.iconst 0, 1) := by decide +kernel
theorem dX0_addUpIncome_17 : decode cX0_addUpIncome 17 = .ok (.istore_n 2, 1) := by decide +kernel
theorem dX0_addUpIncome_18 : decode cX0_addUpIncome 18 = .ok (.iload_n 2, 1) := by decide +kernel
theorem dX0_addUpIncome_19 : decode cX0_addUpIncome 19 = .ok (.aload_n 0, 1) := by decide +kernel
theorem dX0_addUpIncome_20 : decode cX0_addUpIncome 20 = .ok (.getfield 36, 3) := by decide +kernel
theorem dX0_addUpIncome_23 : decode cX0_addUpIncome 23 = .ok (.if_icmp .ge 52, 3) := by decide +kernel
theorem dX0_addUpIncome_26 : decode cX0_addUpIncome 26 = .ok (.aload_n 0, 1) := by decide +kernel
theorem dX0_addUpIncome_27 : decode cX0_addUpIncome 27 = .ok (.getfield 27, 3) := by decide +kernel
theorem dX0_addUpIncome_30 : decode cX0_addUpIncome 30 = .ok (.iload_n 1, 1) := by decide +kernel
theorem dX0_addUpIncome_31 : decode cX0_addUpIncome 31 = .ok (.dup2, 1) := by decide +kernel
theorem dX0_addUpIncome_32 : decode cX0_addUpIncome 32 = .ok (.iaload, 1) := by decide +kernel
theorem dX0_addUpIncome_33 : decode cX0_addUpIncome 33 = .ok (.aload_n 0, 1) := by decide +kernel
theorem dX0_addUpIncome_34 : decode cX0_addUpIncome 34 = .ok (.getfield 21, 3) := by decide +kernel
theorem dX0_addUpIncome_37 : decode cX0_addUpIncome 37 = .ok (.iload_n 1, 1) := by decide +kernel
theorem dX0_addUpIncome_38 : decode cX0_addUpIncome 38 = .ok (.bipush 12, 2) := by decide +kernel
theorem dX0_addUpIncome_40 : decode cX0_addUpIncome 40 = .ok (.imul, 1) := by decide +kernel
theorem dX0_addUpIncome_41 : decode cX0_addUpIncome 41 = .ok (.iload_n 2, 1) := by decide +kernel
theorem dX0_addUpIncome_42 : decode cX0_addUpIncome 42 = .ok (.iadd, 1) := by decide +kernel
theorem dX0_addUpIncome_43 : decode cX0_addUpIncome 43 = .ok (.iaload, 1) := by decide +kernel
theorem dX0_addUpIncome_44 : decode cX0_addUpIncome 44 = .ok (.iadd, 1) := by decide +kernel
theorem dX0_addUpIncome_45 : decode cX0_addUpIncome 45 = .ok (.iastore, 1) := by decide +kernel
theorem dX0_addUpIncome_46 : decode cX0_addUpIncome 46 = .ok (.aload_n 0, 1) := by decide +kernel
theorem dX0_addUpIncome_47 : decode cX0_addUpIncome 47 = .ok (.getfield 27, 3) := by decide +kernel
theorem dX0_addUpIncome_50 : decode cX0_addUpIncome 50 = .ok (.bipush 8, 2) := by decide +kernel
theorem dX0_addUpIncome_52 : decode cX0_addUpIncome 52 = .ok (.iload_n 2, 1) := by decide +kernel
theorem dX0_addUpIncome_53 : decode cX0_addUpIncome 53 = .ok (.iadd, 1) := by decide +kernel
theorem dX0_addUpIncome_54 : decode cX0_addUpIncome 54 = .ok (.dup2, 1) := by decide +kernel
theorem dX0_addUpIncome_55 : decode cX0_addUpIncome 55 = .ok (.iaload, 1) := by decide +kernel
theorem dX0_addUpIncome_56 : decode cX0_addUpIncome 56 = .ok (.aload_n 0, 1) := by decide +kernel
theorem dX0_addUpIncome_57 : decode cX0_addUpIncome 57 = .ok (.getfield 18, 3) := by decide +kernel
theorem dX0_addUpIncome_60 : decode cX0_addUpIncome 60 = .ok (.iload_n 1, 1) := by decide +kernel
theorem dX0_addUpIncome_61 : decode cX0_addUpIncome 61 = .ok (.bipush 12, 2) := by decide +kernel
theorem dX0_addUpIncome_63 : decode cX0_addUpIncome 63 = .ok (.imul, 1) := by decide +kernel
theorem dX0_addUpIncome_64 : decode cX0_addUpIncome 64 = .ok (.iload_n 2, 1) := by decide +kernel
theorem dX0_addUpIncome_65 : decode cX0_addUpIncome 65 = .ok (.iadd, 1) := by decide +kernel
theorem dX0_addUpIncome_66 : decode cX0_addUpIncome 66 = .ok (.iaload, 1) := by decide +kernel
theorem dX0_addUpIncome_67 : decode cX0_addUpIncome 67 = .ok (.iadd, 1) := by decide +kernel
theorem dX0_addUpIncome_68 : decode cX0_addUpIncome 68 = .ok (.iastore, 1) := by decide +kernel
theorem dX0_addUpIncome_69 : decode cX0_addUpIncome 69 = .ok (.iinc 2 1, 3) := by decide +kernel
theorem dX0_addUpIncome_72 : decode cX0_addUpIncome 72 = .ok (.goto (-54), 3) := by decide +kernel
theorem dX0_addUpIncome_75 : decode cX0_addUpIncome 75 = .ok (.iinc 1 1, 3) := by decide +kernel
theorem dX0_addUpIncome_78 : decode cX0_addUpIncome 78 = .ok (.goto (-68), 3) := by decide +kernel
theorem dX0_addUpIncome_81 : decode cX0_addUpIncome 81 = .ok (.return_, 1) := by decide +kernel
theorem cm_X0_addUpIncome : CM yX0_addUpIncome cX0_addUpIncome 3 none 0 0 := ⟨w_1194, w_29, w_1195, w_95, ⟨by decide +kernel, by decide +kernel, by decide +kernel⟩, ⟨_, _, rfl⟩, by decide⟩
noncomputable def f_X0_addUpIncome_18b (n : Nat) (rec10 : Int → MM → RR) (rec18 : Int → MM → RR) (v0 v1 v2 : Int) (h : MM) : RR :=
  gf h v0 0 6 fun r1 =>
  if r1 ≤ v2 then
    lb (wr (v1 + 1)) fun x3 =>
    rec10 x3 h
  else
  gf h v0 0 5 fun r4 =>
  rd h r4 100 v1 fun r5 =>
  gf h v0 0 3 fun r6 =>
  rd h r6 100 (wr ((wr (v1 * 12)) + v2)) fun r7 =>
  wt h r4 100 v1 (wr (r5 + r7)) fun h8 =>
  gf h8 v0 0 5 fun r9 =>
  rd h8 r9 100 (wr (8 + v2)) fun r10 =>
  gf h8 v0 0 2 fun r11 =>
  rd h8 r11 100 (wr ((wr (v1 * 12)) + v2)) fun r12 =>
  wt h8 r9 100 (wr (8 + v2)) (wr (r10 + r12)) fun h13 =>
  lb (wr (v2 + 1)) fun x14 =>
  rec18 x14 h13
noncomputable def f_X0_addUpIncome_18 (n : Nat) (rec10 : Int → MM → RR) (v0 v1 : Int) : Nat → Int → MM → RR
  | 0, _, _ => none
  | k + 1, v2, h => f_X0_addUpIncome_18b n rec10 (f_X0_addUpIncome_18 n rec10 v0 v1 k) v0 v1 v2 h
noncomputable def f_X0_addUpIncome_10b (n : Nat) (rec10 : Int → MM → RR) (v0 v1 : Int) (h : MM) : RR :=
  if 8 ≤ v1 then
    some (0, h)
  else
  f_X0_addUpIncome_18 n rec10 v0 v1 n 0 h
noncomputable def f_X0_addUpIncome_10 (n : Nat)  (v0 : Int) : Nat → Int → MM → RR
  | 0, _, _ => none
  | k + 1, v1, h => f_X0_addUpIncome_10b n  (f_X0_addUpIncome_10 n  v0 k) v0 v1 h
noncomputable def f_X0_addUpIncome (n : Nat) (v0 : Int) (h : MM) : RR :=
  gf h v0 0 5 fun r1 =>
  bd (f_J7_fill_53178 n r1 0 h) fun r2 h2 =>
  f_X0_addUpIncome_10 n v0 n 0 h2
set_option maxRecDepth 20000 in
theorem b_X0_addUpIncome_18b {g : GT} {Z : Int × MM} {n : Nat} (C : Cx g cX0_addUpIncome 3 yX0_addUpIncome 1 23) (hr : Rt g none 3 Z) {v0 v1 v2 : Int}  {rec10 : Int → MM → RR} {rec18 : Int → MM → RR} (L10 : ∀ (u1 : Int) (h : MM), in32 u1 → rec10 u1 h = some Z → G g 10 [(2, v0), (0, u1), (3, 0)] [] h) (L18 : ∀ (u2 : Int) (h : MM), in32 u2 → rec18 u2 h = some Z → G g 18 [(2, v0), (0, v1), (0, u2)] [] h) (cv1 : in32 v1) (cv2 : in32 v2) {h : MM} (hf : f_X0_addUpIncome_18b n rec10 rec18 v0 v1 v2 h = some Z) : G g 18 [(2, v0), (0, v1), (0, v2)] [] h := by
  unfold f_X0_addUpIncome_18b at hf
  refine r_iload_n C dX0_addUpIncome_18 rfl ?_
  refine r_aload_n C dX0_addUpIncome_19 rfl ?_
  obtain ⟨q1, hf⟩ := gf_s hf
  refine r_gf C ct0 (j := 6) (ji := 6) dX0_addUpIncome_20 q1 rfl rfl (by decide) w_395 rfl (fun c1 => ?_)
  have c1 : in32 _ := c1
  refine r_icmp_ge C dX0_addUpIncome_23 (tgt := 75) (by decide) cv2 c1 (fun n2 => ?_) (fun n2 => ?_)
  · have hf := ite_p n2 hf
    obtain ⟨x3, e3, hf⟩ := lb_s hf
    have c3 : in32 x3 := by rw [e3]; exact (in32_t _)
    refine r_iincL C dX0_addUpIncome_75 rfl e3 (Nat.le_of_ble_eq_true rfl) rfl ?_
    refine r_goto C dX0_addUpIncome_78 (tgt := 10) (by decide) ?_
    exact G.mask [true, true, false] rfl rfl (L10 _ _ c3 hf)
  · have hf := ite_n n2 hf
    refine r_aload_n C dX0_addUpIncome_26 rfl ?_
    obtain ⟨q4, hf⟩ := gf_s hf
    refine r_gf C ct0 (j := 5) (ji := 5) dX0_addUpIncome_27 q4 rfl rfl (by decide) w_394 rfl (fun c4 => ?_)
    refine r_iload_n C dX0_addUpIncome_30 rfl ?_
    refine r_dup2 C dX0_addUpIncome_31 (by decide) (by decide) ?_
    obtain ⟨q5, hf⟩ := rd_s hf
    refine r_iald C dX0_addUpIncome_32 q5 rfl (fun c5 => ?_)
    refine r_aload_n C dX0_addUpIncome_33 rfl ?_
    obtain ⟨q6, hf⟩ := gf_s hf
    refine r_gf C ct0 (j := 3) (ji := 3) dX0_addUpIncome_34 q6 rfl rfl (by decide) w_392 rfl (fun c6 => ?_)
    refine r_iload_n C dX0_addUpIncome_37 rfl ?_
    refine r_bipush C dX0_addUpIncome_38 rfl ?_
    refine r_imul C dX0_addUpIncome_40 ?_
    refine r_iload_n C dX0_addUpIncome_41 rfl ?_
    refine r_iadd C dX0_addUpIncome_42 ?_
    obtain ⟨q7, hf⟩ := rd_s hf
    refine r_iald C dX0_addUpIncome_43 q7 rfl (fun c7 => ?_)
    refine r_iadd C dX0_addUpIncome_44 ?_
    obtain ⟨q8, hf⟩ := wt_s hf
    refine r_iast C dX0_addUpIncome_45 q8 rfl (in32_t _) ?_
    refine r_aload_n C dX0_addUpIncome_46 rfl ?_
    obtain ⟨q9, hf⟩ := gf_s hf
    refine r_gf C ct0 (j := 5) (ji := 5) dX0_addUpIncome_47 q9 rfl rfl (by decide) w_394 rfl (fun c9 => ?_)
    refine r_bipush C dX0_addUpIncome_50 rfl ?_
    refine r_iload_n C dX0_addUpIncome_52 rfl ?_
    refine r_iadd C dX0_addUpIncome_53 ?_
    refine r_dup2 C dX0_addUpIncome_54 (by decide) (by decide) ?_
    obtain ⟨q10, hf⟩ := rd_s hf
    refine r_iald C dX0_addUpIncome_55 q10 rfl (fun c10 => ?_)
    refine r_aload_n C dX0_addUpIncome_56 rfl ?_
    obtain ⟨q11, hf⟩ := gf_s hf
    refine r_gf C ct0 (j := 2) (ji := 2) dX0_addUpIncome_57 q11 rfl rfl (by decide) w_391 rfl (fun c11 => ?_)
    refine r_iload_n C dX0_addUpIncome_60 rfl ?_
    refine r_bipush C dX0_addUpIncome_61 rfl ?_
    refine r_imul C dX0_addUpIncome_63 ?_
    refine r_iload_n C dX0_addUpIncome_64 rfl ?_
    refine r_iadd C dX0_addUpIncome_65 ?_
    obtain ⟨q12, hf⟩ := rd_s hf
    refine r_iald C dX0_addUpIncome_66 q12 rfl (fun c12 => ?_)
    refine r_iadd C dX0_addUpIncome_67 ?_
    obtain ⟨q13, hf⟩ := wt_s hf
    refine r_iast C dX0_addUpIncome_68 q13 rfl (in32_t _) ?_
    obtain ⟨x14, e14, hf⟩ := lb_s hf
    have c14 : in32 x14 := by rw [e14]; exact (in32_t _)
    refine r_iincL C dX0_addUpIncome_69 rfl e14 (Nat.le_of_ble_eq_true rfl) rfl ?_
    refine r_goto C dX0_addUpIncome_72 (tgt := 18) (by decide) ?_
    exact G.mask [true, true, true] rfl rfl (L18 _ _ c14 hf)
set_option maxRecDepth 20000 in
theorem l_X0_addUpIncome_18 {g : GT} {Z : Int × MM} {n : Nat} (C : Cx g cX0_addUpIncome 3 yX0_addUpIncome 1 23) (hr : Rt g none 3 Z) {v0 v1 : Int} {rec10 : Int → MM → RR} (L10 : ∀ (u1 : Int) (h : MM), in32 u1 → rec10 u1 h = some Z → G g 10 [(2, v0), (0, u1), (3, 0)] [] h) (cv1 : in32 v1) : ∀ (k : Nat) (v2 : Int) (h : MM), in32 v2 → f_X0_addUpIncome_18 n rec10 v0 v1 k v2 h = some Z → G g 18 [(2, v0), (0, v1), (0, v2)] [] h := by
  intro k
  induction k with
  | zero => intro v2 h cv2 hf; exact absurd hf (by intro z; cases z)
  | succ k ih => intro v2 h cv2 hf; exact b_X0_addUpIncome_18b C hr (rec18 := f_X0_addUpIncome_18 n rec10 v0 v1 k) L10 ih cv1 cv2 (show f_X0_addUpIncome_18b n rec10 (f_X0_addUpIncome_18 n rec10 v0 v1 k) v0 v1 v2 h = some Z from hf)
set_option maxRecDepth 20000 in
theorem b_X0_addUpIncome_10b {g : GT} {Z : Int × MM} {n : Nat} (C : Cx g cX0_addUpIncome 3 yX0_addUpIncome 1 23) (hr : Rt g none 3 Z) {v0 v1 : Int}  {rec10 : Int → MM → RR} (L10 : ∀ (u1 : Int) (h : MM), in32 u1 → rec10 u1 h = some Z → G g 10 [(2, v0), (0, u1), (3, 0)] [] h) (cv1 : in32 v1) {h : MM} (hf : f_X0_addUpIncome_10b n rec10 v0 v1 h = some Z) : G g 10 [(2, v0), (0, v1), (3, 0)] [] h := by
  unfold f_X0_addUpIncome_10b at hf
  refine r_iload_n C dX0_addUpIncome_10 rfl ?_
  refine r_bipush C dX0_addUpIncome_11 rfl ?_
  refine r_icmp_ge C dX0_addUpIncome_13 (tgt := 81) (by decide) cv1 (in32_of rfl) (fun n1 => ?_) (fun n1 => ?_)
  · have hf := ite_p n1 hf
    cases hf
    exact r_vret C hr dX0_addUpIncome_81
  · have hf := ite_n n1 hf
    refine r_iconst C dX0_addUpIncome_16 ?_
    refine r_istore_n C dX0_addUpIncome_17 (Nat.le_of_ble_eq_true rfl) rfl ?_
    exact G.mask [true, true, true] rfl rfl (l_X0_addUpIncome_18 C hr L10 cv1 _ _ _ (in32_of rfl) hf)
set_option maxRecDepth 20000 in
theorem l_X0_addUpIncome_10 {g : GT} {Z : Int × MM} {n : Nat} (C : Cx g cX0_addUpIncome 3 yX0_addUpIncome 1 23) (hr : Rt g none 3 Z) {v0 : Int}    : ∀ (k : Nat) (v1 : Int) (h : MM), in32 v1 → f_X0_addUpIncome_10 n  v0 k v1 h = some Z → G g 10 [(2, v0), (0, v1), (3, 0)] [] h := by
  intro k
  induction k with
  | zero => intro v1 h cv1 hf; exact absurd hf (by intro z; cases z)
  | succ k ih => intro v1 h cv1 hf; exact b_X0_addUpIncome_10b C hr (rec10 := f_X0_addUpIncome_10 n  v0 k)  ih cv1 (show f_X0_addUpIncome_10b n  (f_X0_addUpIncome_10 n  v0 k) v0 v1 h = some Z from hf)
set_option maxRecDepth 20000 in
theorem e_X0_addUpIncome {g : GT} {Z : Int × MM} {n : Nat} (C : Cx g cX0_addUpIncome 3 yX0_addUpIncome 1 23) (hr : Rt g none 3 Z) {v0 : Int} (cv0 : cK 2 v0) {h : MM} (hf : f_X0_addUpIncome n v0 h = some Z) : G g 0 [(2, v0), (3, 0), (3, 0)] [] h := by
  unfold f_X0_addUpIncome at hf
  refine r_aload_n C dX0_addUpIncome_0 rfl ?_
  obtain ⟨q1, hf⟩ := gf_s hf
  refine r_gf C ct0 (j := 5) (ji := 5) dX0_addUpIncome_1 q1 rfl rfl (by decide) w_394 rfl (fun c1 => ?_)
  refine r_iconst C dX0_addUpIncome_4 ?_
  obtain ⟨r2, h2, hq2, hf⟩ := bd_s hf
  refine r_cS2v C (am_J7_fill_53178 (gl g) n) cm_J7_fill_53178 w_1184 dX0_addUpIncome_5 ⟨Nat.le_of_ble_eq_true rfl, Nat.le_of_ble_eq_true rfl⟩ trivial (in32_of rfl) rfl (Nat.le_of_ble_eq_true rfl) hq2 ?_
  refine r_iconst C dX0_addUpIncome_8 ?_
  refine r_istore_n C dX0_addUpIncome_9 (Nat.le_of_ble_eq_true rfl) rfl ?_
  exact G.mask [true, true, false] rfl rfl (l_X0_addUpIncome_10 C hr   _ _ _ (in32_of rfl) hf)
set_option maxRecDepth 20000 in
theorem am_X0_addUpIncome (l : Launch) (n : Nat) : AM l yX0_addUpIncome cX0_addUpIncome 3 none 1 23 [2] 3 (un1 (f_X0_addUpIncome n)) := by
  refine AM.intro (by decide) (fun xs hx => ?_) (fun g xs h Z hl C hr hx hf => ?_)
  · obtain ⟨a0, rfl, c0⟩ := canL_1 hx
    exact Nat.le_of_ble_eq_true rfl
  · obtain ⟨a0, rfl, c0⟩ := canL_1 hx
    have hf := (un1_e _ a0 _).symm.trans hf
    exact e_X0_addUpIncome (n := n) C hr c0 hf
/-! LinesPromised$Debts.part(LLinesPromised$Scrip;II)I -/
theorem dX0_part_0 : decode cX0_part 0 = .ok (.iload_n 3, 1) := by decide +kernel
theorem dX0_part_1 : decode cX0_part 1 = .ok (.ifCond .eq 12, 3) := by decide +kernel
theorem dX0_part_4 : decode cX0_part 4 = .ok (.aload_n 0, 1) := by decide +kernel
theorem dX0_part_5 : decode cX0_part 5 = .ok (.getfield 24, 3) := by decide +kernel
theorem dX0_part_8 : decode cX0_part 8 = .ok (.iload_n 2, 1) := by decide +kernel
theorem dX0_part_9 : decode cX0_part 9 = .ok (.iaload, 1) := by decide +kernel
theorem dX0_part_10 : decode cX0_part 10 = .ok (.ifCond .ne 5, 3) := by decide +kernel
theorem dX0_part_13 : decode cX0_part 13 = .ok (.iconst 0, 1) := by decide +kernel
theorem dX0_part_14 : decode cX0_part 14 = .ok (.ireturn, 1) := by decide +kernel
theorem dX0_part_15 : decode cX0_part 15 = .ok (.aload_n 0, 1) := by decide +kernel
theorem dX0_part_16 : decode cX0_part 16 = .ok (.getfield 24, 3) := by decide +kernel
theorem dX0_part_19 : decode cX0_part 19 = .ok (.iload_n 2, 1) := by decide +kernel
theorem dX0_part_20 : decode cX0_part 20 = .ok (.iaload, 1) := by decide +kernel
theorem dX0_part_21 : decode cX0_part 21 = .ok (.i2l, 1) := by decide +kernel
theorem dX0_part_22 : decode cX0_part 22 = .ok (.aload_n 1, 1) := by decide +kernel
theorem dX0_part_23 : decode cX0_part 23 = .ok (.getfield 95, 3) := by decide +kernel
theorem dX0_part_26 : decode cX0_part 26 = .ok (.iload_n 2, 1) := by decide +kernel
theorem dX0_part_27 : decode cX0_part 27 = .ok (.iaload, 1) := by decide +kernel
theorem dX0_part_28 : decode cX0_part 28 = .ok (.i2l, 1) := by decide +kernel
theorem dX0_part_29 : decode cX0_part 29 = .ok (.aload_n 0, 1) := by decide +kernel
theorem dX0_part_30 : decode cX0_part 30 = .ok (.getfield 27, 3) := by decide +kernel
theorem dX0_part_33 : decode cX0_part 33 = .ok (.iload_n 2, 1) := by decide +kernel
theorem dX0_part_34 : decode cX0_part 34 = .ok (.iaload, 1) := by decide +kernel
theorem dX0_part_35 : decode cX0_part 35 = .ok (.i2l, 1) := by decide +kernel
theorem dX0_part_36 : decode cX0_part 36 = .ok (.ladd, 1) := by decide +kernel
theorem dX0_part_37 : decode cX0_part 37 = .ok (.invokestatic 98, 3) := by decide +kernel
theorem dX0_part_40 : decode cX0_part 40 = .ok (.lstore 4, 2) := by decide +kernel
theorem dX0_part_42 : decode cX0_part 42 = .ok (.lload 4, 2) := by decide +kernel
theorem dX0_part_44 : decode cX0_part 44 = .ok (.iload_n 3, 1) := by decide +kernel
theorem dX0_part_45 : decode cX0_part 45 = .ok (.i2l, 1) := by decide +kernel
theorem dX0_part_46 : decode cX0_part 46 = .ok (.lmul, 1) := by decide +kernel
theorem dX0_part_47 : decode cX0_part 47 = .ok (.aload_n 0, 1) := by decide +kernel
theorem dX0_part_48 : decode cX0_part 48 = .ok (.getfield 24, 3) := by decide +kernel
theorem dX0_part_51 : decode cX0_part 51 = .ok (.iload_n 2, 1) := by decide +kernel
theorem dX0_part_52 : decode cX0_part 52 = .ok (.iaload, 1) := by decide +kernel
theorem dX0_part_53 : decode cX0_part 53 = .ok (.i2l, 1) := by decide +kernel
theorem dX0_part_54 : decode cX0_part 54 = .ok (.ldiv, 1) := by decide +kernel
theorem dX0_part_55 : decode cX0_part 55 = .ok (.l2i, 1) := by decide +kernel
theorem dX0_part_56 : decode cX0_part 56 = .ok (.ireturn, 1) := by decide +kernel
theorem cm_X0_part : CM yX0_part cX0_part 6 (some .int) 3 0 := ⟨w_1202, w_31, w_1203, w_95, ⟨by decide +kernel, by decide +kernel, by decide +kernel⟩, ⟨_, _, rfl⟩, by decide⟩
noncomputable def f_X0_part_13 (n : Nat)  (h : MM) : RR :=
  some (0, h)
noncomputable def f_X0_part (n : Nat) (v0 v1 v2 v3 : Int) (h : MM) : RR :=
  if v3 = 0 then
    f_X0_part_13 n h
  else
  gf h v0 0 4 fun r2 =>
  rd h r2 100 v2 fun r3 =>
  if r3 = 0 then
    f_X0_part_13 n h
  else
  gf h v0 0 4 fun r5 =>
  rd h r5 100 v2 fun r6 =>
  gf h v1 8 0 fun r7 =>
  rd h r7 100 v2 fun r8 =>
  gf h v0 0 5 fun r9 =>
  rd h r9 100 v2 fun r10 =>
  lb (jmin r6 (wl (r8 + r10))) fun x11 =>
  gf h v0 0 4 fun r12 =>
  rd h r12 100 v2 fun r13 =>
  dz r13 <|
  some (wr (ldv (wl (x11 * v3)) r13), h)
set_option maxRecDepth 20000 in
theorem b_X0_part_13 {g : GT} {Z : Int × MM} {n : Nat} (C : Cx g cX0_part 6 yX0_part 1 24) (hr : Rt g (some .int) 0 Z)     {h : MM} (hf : f_X0_part_13 n   h = some Z) : G g 13 [(3, 0), (3, 0), (3, 0), (3, 0), (3, 0), (3, 0)] [] h := by
  unfold f_X0_part_13 at hf
  refine r_iconst C dX0_part_13 ?_
  cases hf
  exact r_jret C hr dX0_part_14 (in32_of rfl)
set_option maxRecDepth 20000 in
theorem e_X0_part {g : GT} {Z : Int × MM} {n : Nat} (C : Cx g cX0_part 6 yX0_part 1 24) (hr : Rt g (some .int) 0 Z) {v0 v1 v2 v3 : Int} (cv0 : cK 2 v0) (cv1 : cK 2 v1) (cv2 : cK 0 v2) (cv3 : cK 0 v3) {h : MM} (hf : f_X0_part n v0 v1 v2 v3 h = some Z) : G g 0 [(2, v0), (2, v1), (0, v2), (0, v3), (3, 0), (3, 0)] [] h := by
  have cv2 : in32 v2 := cv2
  have cv3 : in32 v3 := cv3
  unfold f_X0_part at hf
  refine r_iload_n C dX0_part_0 rfl ?_
  refine r_if_eq C dX0_part_1 (tgt := 13) (by decide) cv3 (fun n1 => ?_) (fun n1 => ?_)
  · have hf := ite_p n1 hf
    exact G.mask [false, false, false, false, false, false] rfl rfl (b_X0_part_13 C hr   hf)
  · have hf := ite_n n1 hf
    refine r_aload_n C dX0_part_4 rfl ?_
    obtain ⟨q2, hf⟩ := gf_s hf
    refine r_gf C ct0 (j := 4) (ji := 4) dX0_part_5 q2 rfl rfl (by decide) w_393 rfl (fun c2 => ?_)
    refine r_iload_n C dX0_part_8 rfl ?_
    obtain ⟨q3, hf⟩ := rd_s hf
    refine r_iald C dX0_part_9 q3 rfl (fun c3 => ?_)
    refine r_if_ne C dX0_part_10 (tgt := 15) (by decide) c3 (fun n4 => ?_) (fun n4 => ?_)
    · have hf := ite_n n4 hf
      refine r_aload_n C dX0_part_15 rfl ?_
      obtain ⟨q5, hf⟩ := gf_s hf
      refine r_gf C ct0 (j := 4) (ji := 4) dX0_part_16 q5 rfl rfl (by decide) w_393 rfl (fun c5 => ?_)
      refine r_iload_n C dX0_part_19 rfl ?_
      obtain ⟨q6, hf⟩ := rd_s hf
      refine r_iald C dX0_part_20 q6 rfl (fun c6 => ?_)
      refine r_i2l C dX0_part_21 c6 ?_
      refine r_aload_n C dX0_part_22 rfl ?_
      obtain ⟨q7, hf⟩ := gf_s hf
      refine r_gf C ct8 (j := 0) (ji := 0) dX0_part_23 q7 rfl rfl (by decide) w_216 rfl (fun c7 => ?_)
      refine r_iload_n C dX0_part_26 rfl ?_
      obtain ⟨q8, hf⟩ := rd_s hf
      refine r_iald C dX0_part_27 q8 rfl (fun c8 => ?_)
      refine r_i2l C dX0_part_28 c8 ?_
      refine r_aload_n C dX0_part_29 rfl ?_
      obtain ⟨q9, hf⟩ := gf_s hf
      refine r_gf C ct0 (j := 5) (ji := 5) dX0_part_30 q9 rfl rfl (by decide) w_394 rfl (fun c9 => ?_)
      refine r_iload_n C dX0_part_33 rfl ?_
      obtain ⟨q10, hf⟩ := rd_s hf
      refine r_iald C dX0_part_34 q10 rfl (fun c10 => ?_)
      refine r_i2l C dX0_part_35 c10 ?_
      refine r_ladd C dX0_part_36 ?_
      refine r_mminl C dX0_part_37 w_1204 ⟨Nat.le_of_ble_eq_true rfl, Nat.le_of_ble_eq_true rfl⟩ rfl (in64_i c6) (in64_t _) ?_
      obtain ⟨x11, e11, hf⟩ := lb_s hf
      have c11 : in64 x11 := by rw [e11]; exact (in64_min (in64_i c6) (in64_t _))
      refine r_lstoreL C dX0_part_40 e11 (Nat.le_of_ble_eq_true rfl) rfl ?_
      refine r_lload C dX0_part_42 rfl ?_
      refine r_iload_n C dX0_part_44 rfl ?_
      refine r_i2l C dX0_part_45 cv3 ?_
      refine r_lmul C dX0_part_46 ?_
      refine r_aload_n C dX0_part_47 rfl ?_
      obtain ⟨q12, hf⟩ := gf_s hf
      refine r_gf C ct0 (j := 4) (ji := 4) dX0_part_48 q12 rfl rfl (by decide) w_393 rfl (fun c12 => ?_)
      refine r_iload_n C dX0_part_51 rfl ?_
      obtain ⟨q13, hf⟩ := rd_s hf
      refine r_iald C dX0_part_52 q13 rfl (fun c13 => ?_)
      refine r_i2l C dX0_part_53 c13 ?_
      obtain ⟨q14, hf⟩ := dz_s hf
      refine r_ldiv C dX0_part_54 (in64_i c13) q14 ?_
      refine r_l2i C dX0_part_55 ?_
      cases hf
      exact r_jret C hr dX0_part_56 (in32_t _)
    · have hf := ite_p n4 hf
      exact G.mask [false, false, false, false, false, false] rfl rfl (b_X0_part_13 C hr   hf)
set_option maxRecDepth 20000 in
theorem am_X0_part (l : Launch) (n : Nat) : AM l yX0_part cX0_part 6 (some .int) 1 24 [2, 2, 0, 0] 0 (un4 (f_X0_part n)) := by
  refine AM.intro (by decide) (fun xs hx => ?_) (fun g xs h Z hl C hr hx hf => ?_)
  · obtain ⟨a0, a1, a2, a3, rfl, c0, c1, c2, c3⟩ := canL_4 hx
    exact Nat.le_of_ble_eq_true rfl
  · obtain ⟨a0, a1, a2, a3, rfl, c0, c1, c2, c3⟩ := canL_4 hx
    have hf := (un4_e _ a0 a1 a2 a3 _).symm.trans hf
    exact e_X0_part (n := n) C hr c0 c1 c2 c3 hf
/-! LinesPromised$Debts.payOnce(LLinesPromised$Scrip;)Z -/
theorem dX0_payOnce_0 : decode cX0_payOnce 0 = .ok (.iconst 0, 1) := by decide +kernel
theorem dX0_payOnce_1 : decode cX0_payOnce 1 = .ok (.istore_n 2, 1) := by decide +kernel
theorem dX0_payOnce_2 : decode cX0_payOnce 2 = .ok (.iconst 0, 1) := by decide +kernel
theorem dX0_payOnce_3 : decode cX0_payOnce 3 = .ok (.istore_n 3, 1) := by decide +kernel
theorem dX0_payOnce_4 : decode cX0_payOnce 4 = .ok (.iload_n 3, 1) := by decide +kernel
theorem dX0_payOnce_5 : decode cX0_payOnce 5 = .ok (.bipush 8, 2) := by decide +kernel
theorem dX0_payOnce_7 : decode cX0_payOnce 7 = .ok (.if_icmp .ge 122, 3) := by decide +kernel
theorem dX0_payOnce_10 : decode cX0_payOnce 10 = .ok (.iconst 0, 1) := by decide +kernel
theorem dX0_payOnce_11 : decode cX0_payOnce 11 = .ok (.istore 4, 2) := by decide +kernel
theorem dX0_payOnce_13 : decode cX0_payOnce 13 = .ok (.iload 4, 2) := by decide +kernel
theorem dX0_payOnce_15 : decode cX0_payOnce 15 = .ok (.aload_n 0, 1) := by decide +kernel
theorem dX0_payOnce_16 : decode cX0_payOnce 16 = .ok (.getfield 36, 3) := by decide +kernel
theorem dX0_payOnce_19 : decode cX0_payOnce 19 = .ok (.if_icmp .ge 104, 3) := by decide +kernel
theorem dX0_payOnce_22 : decode cX0_payOnce 22 = .ok (.iload_n 3, 1) := by decide +kernel
theorem dX0_payOnce_23 : decode cX0_payOnce 23 = .ok (.bipush 12, 2) := by decide +kernel
theorem dX0_payOnce_25 : decode cX0_payOnce 25 = .ok (.imul, 1) := by decide +kernel
theorem dX0_payOnce_26 : decode cX0_payOnce 26 = .ok (.iload 4, 2) := by decide +kernel
theorem dX0_payOnce_28 : decode cX0_payOnce 28 = .ok (.iadd, 1) := by decide +kernel
theorem dX0_payOnce_29 : decode cX0_payOnce 29 = .ok (.istore 5, 2) := by decide +kernel
theorem dX0_payOnce_31 : decode cX0_payOnce 31 = .ok (.aload_n 0, 1) := by decide +kernel
theorem dX0_payOnce_32 : decode cX0_payOnce 32 = .ok (.aload_n 1, 1) := by decide +kernel
theorem dX0_payOnce_33 : decode cX0_payOnce 33 = .ok (.iload_n 3, 1) := by decide +kernel
theorem dX0_payOnce_34 : decode cX0_payOnce 34 = .ok (.aload_n 0, 1) := by decide +kernel
theorem dX0_payOnce_35 : decode cX0_payOnce 35 = .ok (.getfield 9, 3) := by decide +kernel
theorem dX0_payOnce_38 : decode cX0_payOnce 38 = .ok (.iload 5, 2) := by decide +kernel
theorem dX0_payOnce_40 : decode cX0_payOnce 40 = .ok (.iaload, 1) := by decide +kernel
theorem dX0_payOnce_41 : decode cX0_payOnce 41 = .ok (.invokevirtual 91, 3) := by decide +kernel
theorem dX0_payOnce_44 : decode cX0_payOnce 44 = .ok (.istore 6, 2) := by decide +kernel
theorem dX0_payOnce_46 : decode cX0_payOnce 46 = .ok (.aload_n 0, 1) := by decide +kernel
theorem dX0_payOnce_47 : decode cX0_payOnce 47 = .ok (.aload_n 1, 1) := by decide +kernel
theorem dX0_payOnce_48 : decode cX0_payOnce 48 = .ok (.bipush 8, 2) := by decide +kernel
theorem dX0_payOnce_50 : decode cX0_payOnce 50 = .ok (.iload 4, 2) := by decide +kernel
theorem dX0_payOnce_52 : decode cX0_payOnce 52 = .ok (.iadd, 1) := by decide +kernel
theorem dX0_payOnce_53 : decode cX0_payOnce 53 = .ok (.aload_n 0, 1) := by decide +kernel
theorem dX0_payOnce_54 : decode cX0_payOnce 54 = .ok (.getfield 15, 3) := by decide +kernel
theorem dX0_payOnce_57 : decode cX0_payOnce 57 = .ok (.iload 5, 2) := by decide +kernel
theorem dX0_payOnce_59 : decode cX0_payOnce 59 = .ok (.iaload, 1) := by decide +kernel
theorem dX0_payOnce_60 : decode cX0_payOnce 60 = .ok (.invokevirtual 91, 3) := by decide +kernel
theorem dX0_payOnce_63 : decode cX0_payOnce 63 = .ok (.istore 7, 2) := by decide +kernel
theorem dX0_payOnce_65 : decode cX0_payOnce 65 = .ok (.iload_n 2, 1) := by decide +kernel
theorem dX0_payOnce_66 : decode cX0_payOnce 66 = .ok (.ifCond .ne 27, 3) := by decide +kernel
theorem dX0_payOnce_69 : decode cX0_payOnce 69 = .ok (.iload 6, 2) := by decide +kernel
theorem dX0_payOnce_71 : decode cX0_payOnce 71 = .ok (.aload_n 0, 1) := by decide +kernel
theorem dX0_payOnce_72 : decode cX0_payOnce 72 = .ok (.getfield 18, 3) := by decide +kernel
theorem dX0_payOnce_75 : decode cX0_payOnce 75 = .ok (.iload 5, 2) := by decide +kernel
theorem dX0_payOnce_77 : decode cX0_payOnce 77 = .ok (.iaload, 1) := by decide +kernel
theorem dX0_payOnce_78 : decode cX0_payOnce 78 = .ok (.if_icmp .ne 15, 3) := by decide +kernel
theorem dX0_payOnce_81 : decode cX0_payOnce 81 = .ok (.iload 7, 2) := by decide +kernel
theorem dX0_payOnce_83 : decode cX0_payOnce 83 = .ok (.aload_n 0, 1) := by decide +kernel
theorem dX0_payOnce_84 : decode cX0_payOnce 84 = .ok (.getfield 21, 3) := by decide +kernel
theorem dX0_payOnce_87 : decode cX0_payOnce 87 = .ok (.iload 5, 2) := by decide +kernel
theorem dX0_payOnce_89 : decode cX0_payOnce 89 = .ok (.iaload, 1) := by decide +kernel
theorem dX0_payOnce_90 : decode cX0_payOnce 90 = .ok (.if_icmp .eq 7, 3) := by decide +kernel
theorem dX0_payOnce_93 : decode cX0_payOnce 93 = .ok (.iconst 1, 1) := by decide +kernel
theorem dX0_payOnce_94 : decode cX0_payOnce 94 = .ok (.goto 4, 3) := by decide +kernel
theorem dX0_payOnce_97 : decode cX0_payOnce 97 = .ok (.iconst 0, 1) := by decide +kernel
theorem dX0_payOnce_98 : decode cX0_payOnce 98 = .ok (.istore_n 2, 1) := by decide +kernel
theorem dX0_payOnce_99 : decode cX0_payOnce 99 = .ok (.aload_n 0, 1) := by decide +kernel
theorem dX0_payOnce_100 : decode cX0_payOnce 100 = .ok (.getfield 18, 3) := by decide +kernel
theorem dX0_payOnce_103 : decode cX0_payOnce 103 = .ok (.iload 5, 2) := by decide +kernel
theorem dX0_payOnce_105 : decode cX0_payOnce 105 = .ok (.iload 6, 2) := by decide +kernel
theorem dX0_payOnce_107 : decode cX0_payOnce 107 = .ok (.iastore, 1) := by decide +kernel
theorem dX0_payOnce_108 : decode cX0_payOnce 108 = .ok (.aload_n 0, 1) := by decide +kernel
theorem dX0_payOnce_109 : decode cX0_payOnce 109 = .ok (.getfield 21, 3) := by decide +kernel
theorem dX0_payOnce_112 : decode cX0_payOnce 112 = .ok (.iload 5, 2) := by decide +kernel
theorem dX0_payOnce_114 : decode cX0_payOnce 114 = .ok (.iload 7, 2) := by decide +kernel
theorem dX0_payOnce_116 : decode cX0_payOnce 116 = .ok (.iastore, 1) := by decide +kernel
theorem dX0_payOnce_117 : decode cX0_payOnce 117 = .ok (.iinc 4 1, 3) := by decide +kernel
theorem dX0_payOnce_120 : decode cX0_payOnce 120 = .ok (.goto (-107), 3) := by decide +kernel
theorem dX0_payOnce_123 : decode cX0_payOnce 123 = .ok (.iinc 3 1, 3) := by decide +kernel
theorem dX0_payOnce_126 : decode cX0_payOnce 126 = .ok (.goto (-122), 3) := by decide +kernel
theorem dX0_payOnce_129 : decode cX0_payOnce 129 = .ok (.iload_n 2, 1) := by decide +kernel
theorem dX0_payOnce_130 : decode cX0_payOnce 130 = .ok (.ireturn, 1) := by decide +kernel
theorem cm_X0_payOnce : CM yX0_payOnce cX0_payOnce 8 (some .boolean) 1 0 := ⟨w_1198, w_30, w_1199, w_95, ⟨by decide +kernel, by decide +kernel, by decide +kernel⟩, ⟨_, _, rfl⟩, by decide⟩
noncomputable def f_X0_payOnce_98 (n : Nat) (rec4 : Int → Int → MM → RR) (rec13 : Int → Int → MM → RR) (v0 v1 v3 v4 v5 v6 v7 s0 : Int) (h : MM) : RR :=
  gf h v0 0 2 fun r1 =>
  wt h r1 100 v5 v6 fun h2 =>
  gf h2 v0 0 3 fun r3 =>
  wt h2 r3 100 v5 v7 fun h4 =>
  lb (wr (v4 + 1)) fun x5 =>
  rec13 s0 x5 h4
noncomputable def f_X0_payOnce_93 (n : Nat) (rec4 : Int → Int → MM → RR) (rec13 : Int → Int → MM → RR) (v0 v1 v3 v4 v5 v6 v7 : Int) (h : MM) : RR :=
  f_X0_payOnce_98 n rec4 rec13 v0 v1 v3 v4 v5 v6 v7 1 h
noncomputable def f_X0_payOnce_13b (n : Nat) (rec4 : Int → Int → MM → RR) (rec13 : Int → Int → MM → RR) (v0 v1 v2 v3 v4 : Int) (h : MM) : RR :=
  gf h v0 0 6 fun r1 =>
  if r1 ≤ v4 then
    lb (wr (v3 + 1)) fun x3 =>
    rec4 v2 x3 h
  else
  lb (wr ((wr (v3 * 12)) + v4)) fun x4 =>
  gf h v0 0 0 fun r5 =>
  rd h r5 100 x4 fun r6 =>
  gk h v0 0 <|
  bd (f_X0_part n v0 v1 v3 r6 h) fun r7 h7 =>
  gf h7 v0 0 1 fun r8 =>
  rd h7 r8 100 x4 fun r9 =>
  gk h7 v0 0 <|
  bd (f_X0_part n v0 v1 (wr (8 + v4)) r9 h7) fun r10 h10 =>
  if v2 = 0 then
    gf h10 v0 0 2 fun r12 =>
    rd h10 r12 100 x4 fun r13 =>
    if r7 = r13 then
      gf h10 v0 0 3 fun r15 =>
      rd h10 r15 100 x4 fun r16 =>
      if r10 = r16 then
        f_X0_payOnce_98 n rec4 rec13 v0 v1 v3 v4 x4 r7 r10 0 h10
      else
      f_X0_payOnce_93 n rec4 rec13 v0 v1 v3 v4 x4 r7 r10 h10
    else
    f_X0_payOnce_93 n rec4 rec13 v0 v1 v3 v4 x4 r7 r10 h10
  else
  f_X0_payOnce_93 n rec4 rec13 v0 v1 v3 v4 x4 r7 r10 h10
noncomputable def f_X0_payOnce_13 (n : Nat) (rec4 : Int → Int → MM → RR) (v0 v1 v3 : Int) : Nat → Int → Int → MM → RR
  | 0, _, _, _ => none
  | k + 1, v2, v4, h => f_X0_payOnce_13b n rec4 (f_X0_payOnce_13 n rec4 v0 v1 v3 k) v0 v1 v2 v3 v4 h
noncomputable def f_X0_payOnce_4b (n : Nat) (rec4 : Int → Int → MM → RR) (v0 v1 v2 v3 : Int) (h : MM) : RR :=
  if 8 ≤ v3 then
    ck (isb v2) <|
    some (v2, h)
  else
  f_X0_payOnce_13 n rec4 v0 v1 v3 n v2 0 h
noncomputable def f_X0_payOnce_4 (n : Nat)  (v0 v1 : Int) : Nat → Int → Int → MM → RR
  | 0, _, _, _ => none
  | k + 1, v2, v3, h => f_X0_payOnce_4b n  (f_X0_payOnce_4 n  v0 v1 k) v0 v1 v2 v3 h
noncomputable def f_X0_payOnce (n : Nat) (v0 v1 : Int) (h : MM) : RR :=
  f_X0_payOnce_4 n v0 v1 n 0 0 h
set_option maxRecDepth 20000 in
theorem b_X0_payOnce_98 {g : GT} {Z : Int × MM} {n : Nat} (C : Cx g cX0_payOnce 8 yX0_payOnce 2 49) (hr : Rt g (some .boolean) 0 Z) {v0 v1 v3 v4 v5 v6 v7 s0 : Int}  {rec4 : Int → Int → MM → RR} {rec13 : Int → Int → MM → RR} (L4 : ∀ (u2 u3 : Int) (h : MM), in32 u2 → in32 u3 → rec4 u2 u3 h = some Z → G g 4 [(2, v0), (2, v1), (0, u2), (0, u3), (3, 0), (3, 0), (3, 0), (3, 0)] [] h) (L13 : ∀ (u2 u4 : Int) (h : MM), in32 u2 → in32 u4 → rec13 u2 u4 h = some Z → G g 13 [(2, v0), (2, v1), (0, u2), (0, v3), (0, u4), (3, 0), (3, 0), (3, 0)] [] h) (cv3 : in32 v3) (cv4 : in32 v4) (cv5 : in32 v5) (cv6 : in32 v6) (cv7 : in32 v7) (cs0 : in32 s0) {h : MM} (hf : f_X0_payOnce_98 n rec4 rec13 v0 v1 v3 v4 v5 v6 v7 s0 h = some Z) : G g 98 [(2, v0), (2, v1), (3, 0), (0, v3), (0, v4), (0, v5), (0, v6), (0, v7)] [(0, s0)] h := by
  unfold f_X0_payOnce_98 at hf
  refine r_istore_n C dX0_payOnce_98 (Nat.le_of_ble_eq_true rfl) rfl ?_
  refine r_aload_n C dX0_payOnce_99 rfl ?_
  obtain ⟨q1, hf⟩ := gf_s hf
  refine r_gf C ct0 (j := 2) (ji := 2) dX0_payOnce_100 q1 rfl rfl (by decide) w_391 rfl (fun c1 => ?_)
  refine r_iload C dX0_payOnce_103 rfl ?_
  refine r_iload C dX0_payOnce_105 rfl ?_
  obtain ⟨q2, hf⟩ := wt_s hf
  refine r_iast C dX0_payOnce_107 q2 rfl cv6 ?_
  refine r_aload_n C dX0_payOnce_108 rfl ?_
  obtain ⟨q3, hf⟩ := gf_s hf
  refine r_gf C ct0 (j := 3) (ji := 3) dX0_payOnce_109 q3 rfl rfl (by decide) w_392 rfl (fun c3 => ?_)
  refine r_iload C dX0_payOnce_112 rfl ?_
  refine r_iload C dX0_payOnce_114 rfl ?_
  obtain ⟨q4, hf⟩ := wt_s hf
  refine r_iast C dX0_payOnce_116 q4 rfl cv7 ?_
  obtain ⟨x5, e5, hf⟩ := lb_s hf
  have c5 : in32 x5 := by rw [e5]; exact (in32_t _)
  refine r_iincL C dX0_payOnce_117 rfl e5 (Nat.le_of_ble_eq_true rfl) rfl ?_
  refine r_goto C dX0_payOnce_120 (tgt := 13) (by decide) ?_
  exact G.mask [true, true, true, true, true, false, false, false] rfl rfl (L13 _ _ _ cs0 c5 hf)
set_option maxRecDepth 20000 in
theorem b_X0_payOnce_93 {g : GT} {Z : Int × MM} {n : Nat} (C : Cx g cX0_payOnce 8 yX0_payOnce 2 49) (hr : Rt g (some .boolean) 0 Z) {v0 v1 v3 v4 v5 v6 v7 : Int}  {rec4 : Int → Int → MM → RR} {rec13 : Int → Int → MM → RR} (L4 : ∀ (u2 u3 : Int) (h : MM), in32 u2 → in32 u3 → rec4 u2 u3 h = some Z → G g 4 [(2, v0), (2, v1), (0, u2), (0, u3), (3, 0), (3, 0), (3, 0), (3, 0)] [] h) (L13 : ∀ (u2 u4 : Int) (h : MM), in32 u2 → in32 u4 → rec13 u2 u4 h = some Z → G g 13 [(2, v0), (2, v1), (0, u2), (0, v3), (0, u4), (3, 0), (3, 0), (3, 0)] [] h) (cv3 : in32 v3) (cv4 : in32 v4) (cv5 : in32 v5) (cv6 : in32 v6) (cv7 : in32 v7) {h : MM} (hf : f_X0_payOnce_93 n rec4 rec13 v0 v1 v3 v4 v5 v6 v7 h = some Z) : G g 93 [(2, v0), (2, v1), (3, 0), (0, v3), (0, v4), (0, v5), (0, v6), (0, v7)] [] h := by
  unfold f_X0_payOnce_93 at hf
  refine r_iconst C dX0_payOnce_93 ?_
  refine r_goto C dX0_payOnce_94 (tgt := 98) (by decide) ?_
  exact G.mask [true, true, false, true, true, true, true, true] rfl rfl (b_X0_payOnce_98 C hr L4 L13 cv3 cv4 cv5 cv6 cv7 (in32_of rfl) hf)
set_option maxRecDepth 20000 in
theorem b_X0_payOnce_13b {g : GT} {Z : Int × MM} {n : Nat} (C : Cx g cX0_payOnce 8 yX0_payOnce 2 49) (hr : Rt g (some .boolean) 0 Z) {v0 v1 v2 v3 v4 : Int}  {rec4 : Int → Int → MM → RR} {rec13 : Int → Int → MM → RR} (L4 : ∀ (u2 u3 : Int) (h : MM), in32 u2 → in32 u3 → rec4 u2 u3 h = some Z → G g 4 [(2, v0), (2, v1), (0, u2), (0, u3), (3, 0), (3, 0), (3, 0), (3, 0)] [] h) (L13 : ∀ (u2 u4 : Int) (h : MM), in32 u2 → in32 u4 → rec13 u2 u4 h = some Z → G g 13 [(2, v0), (2, v1), (0, u2), (0, v3), (0, u4), (3, 0), (3, 0), (3, 0)] [] h) (cv2 : in32 v2) (cv3 : in32 v3) (cv4 : in32 v4) {h : MM} (hf : f_X0_payOnce_13b n rec4 rec13 v0 v1 v2 v3 v4 h = some Z) : G g 13 [(2, v0), (2, v1), (0, v2), (0, v3), (0, v4), (3, 0), (3, 0), (3, 0)] [] h := by
  unfold f_X0_payOnce_13b at hf
  refine r_iload C dX0_payOnce_13 rfl ?_
  refine r_aload_n C dX0_payOnce_15 rfl ?_
  obtain ⟨q1, hf⟩ := gf_s hf
  refine r_gf C ct0 (j := 6) (ji := 6) dX0_payOnce_16 q1 rfl rfl (by decide) w_395 rfl (fun c1 => ?_)
  have c1 : in32 _ := c1
  refine r_icmp_ge C dX0_payOnce_19 (tgt := 123) (by decide) cv4 c1 (fun n2 => ?_) (fun n2 => ?_)
  · have hf := ite_p n2 hf
    obtain ⟨x3, e3, hf⟩ := lb_s hf
    have c3 : in32 x3 := by rw [e3]; exact (in32_t _)
    refine r_iincL C dX0_payOnce_123 rfl e3 (Nat.le_of_ble_eq_true rfl) rfl ?_
    refine r_goto C dX0_payOnce_126 (tgt := 4) (by decide) ?_
    exact G.mask [true, true, true, true, false, false, false, false] rfl rfl (L4 _ _ _ cv2 c3 hf)
  · have hf := ite_n n2 hf
    refine r_iload_n C dX0_payOnce_22 rfl ?_
    refine r_bipush C dX0_payOnce_23 rfl ?_
    refine r_imul C dX0_payOnce_25 ?_
    refine r_iload C dX0_payOnce_26 rfl ?_
    refine r_iadd C dX0_payOnce_28 ?_
    obtain ⟨x4, e4, hf⟩ := lb_s hf
    have c4 : in32 x4 := by rw [e4]; exact (in32_t _)
    refine r_istoreL C dX0_payOnce_29 e4 (Nat.le_of_ble_eq_true rfl) rfl ?_
    refine r_aload_n C dX0_payOnce_31 rfl ?_
    refine r_aload_n C dX0_payOnce_32 rfl ?_
    refine r_iload_n C dX0_payOnce_33 rfl ?_
    refine r_aload_n C dX0_payOnce_34 rfl ?_
    obtain ⟨q5, hf⟩ := gf_s hf
    refine r_gf C ct0 (j := 0) (ji := 0) dX0_payOnce_35 q5 rfl rfl (by decide) w_389 rfl (fun c5 => ?_)
    refine r_iload C dX0_payOnce_38 rfl ?_
    obtain ⟨q6, hf⟩ := rd_s hf
    refine r_iald C dX0_payOnce_40 q6 rfl (fun c6 => ?_)
    obtain ⟨p7, hf⟩ := gk_s hf
    obtain ⟨r7, h7, hq7, hf⟩ := bd_s hf
    refine r_cV3 C (am_X0_part (gl g) n) cm_X0_part w_1200 dX0_payOnce_41 ⟨Nat.le_of_ble_eq_true rfl, Nat.le_of_ble_eq_true rfl⟩ p7 rfl trivial cv3 c6 rfl (Nat.le_of_ble_eq_true rfl) hq7 (by decide) (fun c7 => ?_)
    have c7 : in32 _ := c7
    refine r_istore C dX0_payOnce_44 (Nat.le_of_ble_eq_true rfl) rfl ?_
    refine r_aload_n C dX0_payOnce_46 rfl ?_
    refine r_aload_n C dX0_payOnce_47 rfl ?_
    refine r_bipush C dX0_payOnce_48 rfl ?_
    refine r_iload C dX0_payOnce_50 rfl ?_
    refine r_iadd C dX0_payOnce_52 ?_
    refine r_aload_n C dX0_payOnce_53 rfl ?_
    obtain ⟨q8, hf⟩ := gf_s hf
    refine r_gf C ct0 (j := 1) (ji := 1) dX0_payOnce_54 q8 rfl rfl (by decide) w_390 rfl (fun c8 => ?_)
    refine r_iload C dX0_payOnce_57 rfl ?_
    obtain ⟨q9, hf⟩ := rd_s hf
    refine r_iald C dX0_payOnce_59 q9 rfl (fun c9 => ?_)
    obtain ⟨p10, hf⟩ := gk_s hf
    obtain ⟨r10, h10, hq10, hf⟩ := bd_s hf
    refine r_cV3 C (am_X0_part (gl g) n) cm_X0_part w_1200 dX0_payOnce_60 ⟨Nat.le_of_ble_eq_true rfl, Nat.le_of_ble_eq_true rfl⟩ p10 rfl trivial (in32_t _) c9 rfl (Nat.le_of_ble_eq_true rfl) hq10 (by decide) (fun c10 => ?_)
    have c10 : in32 _ := c10
    refine r_istore C dX0_payOnce_63 (Nat.le_of_ble_eq_true rfl) rfl ?_
    refine r_iload_n C dX0_payOnce_65 rfl ?_
    refine r_if_ne C dX0_payOnce_66 (tgt := 93) (by decide) cv2 (fun n11 => ?_) (fun n11 => ?_)
    · have hf := ite_n n11 hf
      exact G.mask [true, true, false, true, true, true, true, true] rfl rfl (b_X0_payOnce_93 C hr L4 L13 cv3 cv4 c4 c7 c10 hf)
    · have hf := ite_p n11 hf
      refine r_iload C dX0_payOnce_69 rfl ?_
      refine r_aload_n C dX0_payOnce_71 rfl ?_
      obtain ⟨q12, hf⟩ := gf_s hf
      refine r_gf C ct0 (j := 2) (ji := 2) dX0_payOnce_72 q12 rfl rfl (by decide) w_391 rfl (fun c12 => ?_)
      refine r_iload C dX0_payOnce_75 rfl ?_
      obtain ⟨q13, hf⟩ := rd_s hf
      refine r_iald C dX0_payOnce_77 q13 rfl (fun c13 => ?_)
      refine r_icmp_ne C dX0_payOnce_78 (tgt := 93) (by decide) c7 c13 (fun n14 => ?_) (fun n14 => ?_)
      · have hf := ite_n n14 hf
        exact G.mask [true, true, false, true, true, true, true, true] rfl rfl (b_X0_payOnce_93 C hr L4 L13 cv3 cv4 c4 c7 c10 hf)
      · have hf := ite_p n14 hf
        refine r_iload C dX0_payOnce_81 rfl ?_
        refine r_aload_n C dX0_payOnce_83 rfl ?_
        obtain ⟨q15, hf⟩ := gf_s hf
        refine r_gf C ct0 (j := 3) (ji := 3) dX0_payOnce_84 q15 rfl rfl (by decide) w_392 rfl (fun c15 => ?_)
        refine r_iload C dX0_payOnce_87 rfl ?_
        obtain ⟨q16, hf⟩ := rd_s hf
        refine r_iald C dX0_payOnce_89 q16 rfl (fun c16 => ?_)
        refine r_icmp_eq C dX0_payOnce_90 (tgt := 97) (by decide) c10 c16 (fun n17 => ?_) (fun n17 => ?_)
        · have hf := ite_p n17 hf
          refine r_iconst C dX0_payOnce_97 ?_
          exact G.mask [true, true, false, true, true, true, true, true] rfl rfl (b_X0_payOnce_98 C hr L4 L13 cv3 cv4 c4 c7 c10 (in32_of rfl) hf)
        · have hf := ite_n n17 hf
          exact G.mask [true, true, false, true, true, true, true, true] rfl rfl (b_X0_payOnce_93 C hr L4 L13 cv3 cv4 c4 c7 c10 hf)
set_option maxRecDepth 20000 in
theorem l_X0_payOnce_13 {g : GT} {Z : Int × MM} {n : Nat} (C : Cx g cX0_payOnce 8 yX0_payOnce 2 49) (hr : Rt g (some .boolean) 0 Z) {v0 v1 v3 : Int} {rec4 : Int → Int → MM → RR} (L4 : ∀ (u2 u3 : Int) (h : MM), in32 u2 → in32 u3 → rec4 u2 u3 h = some Z → G g 4 [(2, v0), (2, v1), (0, u2), (0, u3), (3, 0), (3, 0), (3, 0), (3, 0)] [] h) (cv3 : in32 v3) : ∀ (k : Nat) (v2 v4 : Int) (h : MM), in32 v2 → in32 v4 → f_X0_payOnce_13 n rec4 v0 v1 v3 k v2 v4 h = some Z → G g 13 [(2, v0), (2, v1), (0, v2), (0, v3), (0, v4), (3, 0), (3, 0), (3, 0)] [] h := by
  intro k
  induction k with
  | zero => intro v2 v4 h cv2 cv4 hf; exact absurd hf (by intro z; cases z)
  | succ k ih => intro v2 v4 h cv2 cv4 hf; exact b_X0_payOnce_13b C hr (rec13 := f_X0_payOnce_13 n rec4 v0 v1 v3 k) L4 ih cv2 cv3 cv4 (show f_X0_payOnce_13b n rec4 (f_X0_payOnce_13 n rec4 v0 v1 v3 k) v0 v1 v2 v3 v4 h = some Z from hf)
set_option maxRecDepth 20000 in
theorem b_X0_payOnce_4b {g : GT} {Z : Int × MM} {n : Nat} (C : Cx g cX0_payOnce 8 yX0_payOnce 2 49) (hr : Rt g (some .boolean) 0 Z) {v0 v1 v2 v3 : Int}  {rec4 : Int → Int → MM → RR} (L4 : ∀ (u2 u3 : Int) (h : MM), in32 u2 → in32 u3 → rec4 u2 u3 h = some Z → G g 4 [(2, v0), (2, v1), (0, u2), (0, u3), (3, 0), (3, 0), (3, 0), (3, 0)] [] h) (cv2 : in32 v2) (cv3 : in32 v3) {h : MM} (hf : f_X0_payOnce_4b n rec4 v0 v1 v2 v3 h = some Z) : G g 4 [(2, v0), (2, v1), (0, v2), (0, v3), (3, 0), (3, 0), (3, 0), (3, 0)] [] h := by
  unfold f_X0_payOnce_4b at hf
  refine r_iload_n C dX0_payOnce_4 rfl ?_
  refine r_bipush C dX0_payOnce_5 rfl ?_
  refine r_icmp_ge C dX0_payOnce_7 (tgt := 129) (by decide) cv3 (in32_of rfl) (fun n1 => ?_) (fun n1 => ?_)
  · have hf := ite_p n1 hf
    refine r_iload_n C dX0_payOnce_129 rfl ?_
    obtain ⟨b2, hf⟩ := ck_s hf
    cases hf
    exact r_zret C hr dX0_payOnce_130 b2
  · have hf := ite_n n1 hf
    refine r_iconst C dX0_payOnce_10 ?_
    refine r_istore C dX0_payOnce_11 (Nat.le_of_ble_eq_true rfl) rfl ?_
    exact G.mask [true, true, true, true, true, false, false, false] rfl rfl (l_X0_payOnce_13 C hr L4 cv3 _ _ _ _ cv2 (in32_of rfl) hf)
set_option maxRecDepth 20000 in
theorem l_X0_payOnce_4 {g : GT} {Z : Int × MM} {n : Nat} (C : Cx g cX0_payOnce 8 yX0_payOnce 2 49) (hr : Rt g (some .boolean) 0 Z) {v0 v1 : Int}    : ∀ (k : Nat) (v2 v3 : Int) (h : MM), in32 v2 → in32 v3 → f_X0_payOnce_4 n  v0 v1 k v2 v3 h = some Z → G g 4 [(2, v0), (2, v1), (0, v2), (0, v3), (3, 0), (3, 0), (3, 0), (3, 0)] [] h := by
  intro k
  induction k with
  | zero => intro v2 v3 h cv2 cv3 hf; exact absurd hf (by intro z; cases z)
  | succ k ih => intro v2 v3 h cv2 cv3 hf; exact b_X0_payOnce_4b C hr (rec4 := f_X0_payOnce_4 n  v0 v1 k)  ih cv2 cv3 (show f_X0_payOnce_4b n  (f_X0_payOnce_4 n  v0 v1 k) v0 v1 v2 v3 h = some Z from hf)
set_option maxRecDepth 20000 in
theorem e_X0_payOnce {g : GT} {Z : Int × MM} {n : Nat} (C : Cx g cX0_payOnce 8 yX0_payOnce 2 49) (hr : Rt g (some .boolean) 0 Z) {v0 v1 : Int} (cv0 : cK 2 v0) (cv1 : cK 2 v1) {h : MM} (hf : f_X0_payOnce n v0 v1 h = some Z) : G g 0 [(2, v0), (2, v1), (3, 0), (3, 0), (3, 0), (3, 0), (3, 0), (3, 0)] [] h := by
  unfold f_X0_payOnce at hf
  refine r_iconst C dX0_payOnce_0 ?_
  refine r_istore_n C dX0_payOnce_1 (Nat.le_of_ble_eq_true rfl) rfl ?_
  refine r_iconst C dX0_payOnce_2 ?_
  refine r_istore_n C dX0_payOnce_3 (Nat.le_of_ble_eq_true rfl) rfl ?_
  exact G.mask [true, true, true, true, false, false, false, false] rfl rfl (l_X0_payOnce_4 C hr   _ _ _ _ (in32_of rfl) (in32_of rfl) hf)
set_option maxRecDepth 20000 in
theorem am_X0_payOnce (l : Launch) (n : Nat) : AM l yX0_payOnce cX0_payOnce 8 (some .boolean) 2 49 [2, 2] 0 (un2 (f_X0_payOnce n)) := by
  refine AM.intro (by decide) (fun xs hx => ?_) (fun g xs h Z hl C hr hx hf => ?_)
  · obtain ⟨a0, a1, rfl, c0, c1⟩ := canL_2 hx
    exact Nat.le_of_ble_eq_true rfl
  · obtain ⟨a0, a1, rfl, c0, c1⟩ := canL_2 hx
    have hf := (un2_e _ a0 a1 _).symm.trans hf
    exact e_X0_payOnce (n := n) C hr c0 c1 hf
/-! LinesPromised$Debts.reckon(LLinesPromised$Papers;LLinesPromised$Scrip;)V -/
theorem dX0_reckon_0 : decode cX0_reckon 0 = .ok (.aload_n 0, 1) := by decide +kernel
theorem dX0_reckon_1 : decode cX0_reckon 1 = .ok (.aload_n 1, 1) := by decide +kernel
theorem dX0_reckon_2 : decode cX0_reckon 2 = .ok (.getfield 30, 3) := by decide +kernel
theorem dX0_reckon_5 : decode cX0_reckon 5 = .ok (.putfield 36, 3) := by decide +kernel
theorem dX0_reckon_8 : decode cX0_reckon 8 = .ok (.aload_n 0, 1) := by decide +kernel
theorem dX0_reckon_9 : decode cX0_reckon 9 = .ok (.aload_n 1, 1) := by decide +kernel
theorem dX0_reckon_10 : decode cX0_reckon 10 = .ok (.aload_n 2, 1) := by decide +kernel
theorem dX0_reckon_11 : decode cX0_reckon 11 = .ok (.invokevirtual 37, 3) := by decide +kernel
theorem dX0_reckon_14 : decode cX0_reckon 14 = .ok (.aload_n 0, 1) := by decide +kernel
theorem dX0_reckon_15 : decode cX0_reckon 15 = .ok (.invokevirtual 41, 3) := by decide +kernel
theorem dX0_reckon_18 : decode cX0_reckon 18 = .ok (.aload_n 0, 1) := by decide +kernel
theorem dX0_reckon_19 : decode cX0_reckon 19 = .ok (.getfield 18, 3) := by decide +kernel
theorem dX0_reckon_22 : decode cX0_reckon 22 = .ok (.iconst 0, 1) := by decide +kernel
theorem dX0_reckon_23 : decode cX0_reckon 23 = .ok (.invokestatic 44, 3) := by decide +kernel
theorem dX0_reckon_26 : decode cX0_reckon 26 = .ok (.aload_n 0, 1) := by decide +kernel
theorem dX0_reckon_27 : decode cX0_reckon 27 = .ok (.getfield 21, 3) := by decide +kernel
theorem dX0_reckon_30 : decode cX0_reckon 30 = .ok (.iconst 0, 1) := by decide +kernel
theorem dX0_reckon_31 : decode cX0_reckon 31 = .ok (.invokestatic 44, 3) := by decide +kernel
theorem dX0_reckon_34 : decode cX0_reckon 34 = .ok (.iconst 1, 1) := by decide +kernel
theorem dX0_reckon_35 : decode cX0_reckon 35 = .ok (.istore_n 3, 1) := by decide +kernel
theorem dX0_reckon_36 : decode cX0_reckon 36 = .ok (.iconst 0, 1) := by decide +kernel
theorem dX0_reckon_37 : decode cX0_reckon 37 = .ok (.istore 4, 2) := by decide +kernel
theorem dX0_reckon_39 : decode cX0_reckon 39 = .ok (.iload 4, 2) := by decide +kernel
theorem dX0_reckon_41 : decode cX0_reckon 41 = .ok (.sipush 300, 3) := by decide +kernel
theorem dX0_reckon_44 : decode cX0_reckon 44 = .ok (.if_icmp .ge 23, 3) := by decide +kernel
theorem dX0_reckon_47 : decode cX0_reckon 47 = .ok (.iload_n 3, 1) := by decide +kernel
theorem dX0_reckon_48 : decode cX0_reckon 48 = .ok (.ifCond .eq 19, 3) := by decide +kernel
theorem dX0_reckon_51 : decode cX0_reckon 51 = .ok (.aload_n 0, 1) := by decide +kernel
theorem dX0_reckon_52 : decode cX0_reckon 52 = .ok (.invokevirtual 50, 3) := by decide +kernel
theorem dX0_reckon_55 : decode cX0_reckon 55 = .ok (.aload_n 0, 1) := by decide +kernel
theorem dX0_reckon_56 : decode cX0_reckon 56 = .ok (.aload_n 2, 1) := by decide +kernel
theorem dX0_reckon_57 : decode cX0_reckon 57 = .ok (.invokevirtual 53, 3) := by decide +kernel
theorem dX0_reckon_60 : decode cX0_reckon 60 = .ok (.istore_n 3, 1) := by decide +kernel
theorem dX0_reckon_61 : decode cX0_reckon 61 = .ok (.iinc 4 1, 3) := by decide +kernel
theorem dX0_reckon_64 : decode cX0_reckon 64 = .ok (.goto (-25), 3) := by decide +kernel
theorem dX0_reckon_67 : decode cX0_reckon 67 = .ok (.return_, 1) := by decide +kernel
theorem cm_X0_reckon : CM yX0_reckon cX0_reckon 5 none 2 0 := ⟨w_1177, w_1178, w_1179, w_95, ⟨by decide +kernel, by decide +kernel, by decide +kernel⟩, ⟨_, _, rfl⟩, by decide⟩
noncomputable def f_X0_reckon_67 (n : Nat)  (h : MM) : RR :=
  some (0, h)
noncomputable def f_X0_reckon_39b (n : Nat) (rec39 : Int → Int → MM → RR) (v0 v2 v3 v4 : Int) (h : MM) : RR :=
  if 300 ≤ v4 then
    f_X0_reckon_67 n h
  else
  if v3 = 0 then
    f_X0_reckon_67 n h
  else
  gk h v0 0 <|
  bd (f_X0_addUpIncome n v0 h) fun r3 h3 =>
  gk h3 v0 0 <|
  bd (f_X0_payOnce n v0 v2 h3) fun r4 h4 =>
  lb (wr (v4 + 1)) fun x5 =>
  rec39 r4 x5 h4
noncomputable def f_X0_reckon_39 (n : Nat)  (v0 v2 : Int) : Nat → Int → Int → MM → RR
  | 0, _, _, _ => none
  | k + 1, v3, v4, h => f_X0_reckon_39b n  (f_X0_reckon_39 n  v0 v2 k) v0 v2 v3 v4 h
noncomputable def f_X0_reckon (n : Nat) (v0 v1 v2 : Int) (h : MM) : RR :=
  gf h v1 5 8 fun r1 =>
  pf h v0 0 6 r1 fun h2 =>
  gk h2 v0 0 <|
  bd (f_X0_gather n v0 v1 v2 h2) fun r3 h3 =>
  gk h3 v0 0 <|
  bd (f_X0_addUpDue n v0 h3) fun r4 h4 =>
  gf h4 v0 0 2 fun r5 =>
  bd (f_J7_fill_53178 n r5 0 h4) fun r6 h6 =>
  gf h6 v0 0 3 fun r7 =>
  bd (f_J7_fill_53178 n r7 0 h6) fun r8 h8 =>
  f_X0_reckon_39 n v0 v2 n 1 0 h8
set_option maxRecDepth 20000 in
theorem b_X0_reckon_67 {g : GT} {Z : Int × MM} {n : Nat} (C : Cx g cX0_reckon 5 yX0_reckon 3 76) (hr : Rt g none 3 Z)     {h : MM} (hf : f_X0_reckon_67 n   h = some Z) : G g 67 [(3, 0), (3, 0), (3, 0), (3, 0), (3, 0)] [] h := by
  unfold f_X0_reckon_67 at hf
  cases hf
  exact r_vret C hr dX0_reckon_67
set_option maxRecDepth 20000 in
theorem b_X0_reckon_39b {g : GT} {Z : Int × MM} {n : Nat} (C : Cx g cX0_reckon 5 yX0_reckon 3 76) (hr : Rt g none 3 Z) {v0 v2 v3 v4 : Int}  {rec39 : Int → Int → MM → RR} (L39 : ∀ (u3 u4 : Int) (h : MM), in32 u3 → in32 u4 → rec39 u3 u4 h = some Z → G g 39 [(2, v0), (3, 0), (2, v2), (0, u3), (0, u4)] [] h) (cv3 : in32 v3) (cv4 : in32 v4) {h : MM} (hf : f_X0_reckon_39b n rec39 v0 v2 v3 v4 h = some Z) : G g 39 [(2, v0), (3, 0), (2, v2), (0, v3), (0, v4)] [] h := by
  unfold f_X0_reckon_39b at hf
  refine r_iload C dX0_reckon_39 rfl ?_
  refine r_sipush C dX0_reckon_41 rfl ?_
  refine r_icmp_ge C dX0_reckon_44 (tgt := 67) (by decide) cv4 (in32_of rfl) (fun n1 => ?_) (fun n1 => ?_)
  · have hf := ite_p n1 hf
    exact G.mask [false, false, false, false, false] rfl rfl (b_X0_reckon_67 C hr   hf)
  · have hf := ite_n n1 hf
    refine r_iload_n C dX0_reckon_47 rfl ?_
    refine r_if_eq C dX0_reckon_48 (tgt := 67) (by decide) cv3 (fun n2 => ?_) (fun n2 => ?_)
    · have hf := ite_p n2 hf
      exact G.mask [false, false, false, false, false] rfl rfl (b_X0_reckon_67 C hr   hf)
    · have hf := ite_n n2 hf
      refine r_aload_n C dX0_reckon_51 rfl ?_
      obtain ⟨p3, hf⟩ := gk_s hf
      obtain ⟨r3, h3, hq3, hf⟩ := bd_s hf
      refine r_cV0v C (am_X0_addUpIncome (gl g) n) cm_X0_addUpIncome w_1192 dX0_reckon_52 ⟨Nat.le_of_ble_eq_true rfl, Nat.le_of_ble_eq_true rfl⟩ p3 rfl  rfl (Nat.le_of_ble_eq_true rfl) hq3 ?_
      refine r_aload_n C dX0_reckon_55 rfl ?_
      refine r_aload_n C dX0_reckon_56 rfl ?_
      obtain ⟨p4, hf⟩ := gk_s hf
      obtain ⟨r4, h4, hq4, hf⟩ := bd_s hf
      refine r_cV1 C (am_X0_payOnce (gl g) n) cm_X0_payOnce w_1196 dX0_reckon_57 ⟨Nat.le_of_ble_eq_true rfl, Nat.le_of_ble_eq_true rfl⟩ p4 rfl trivial rfl (Nat.le_of_ble_eq_true rfl) hq4 (by decide) (fun c4 => ?_)
      have c4 : in32 _ := c4
      refine r_istore_n C dX0_reckon_60 (Nat.le_of_ble_eq_true rfl) rfl ?_
      obtain ⟨x5, e5, hf⟩ := lb_s hf
      have c5 : in32 x5 := by rw [e5]; exact (in32_t _)
      refine r_iincL C dX0_reckon_61 rfl e5 (Nat.le_of_ble_eq_true rfl) rfl ?_
      refine r_goto C dX0_reckon_64 (tgt := 39) (by decide) ?_
      exact G.mask [true, false, true, true, true] rfl rfl (L39 _ _ _ c4 c5 hf)
set_option maxRecDepth 20000 in
theorem l_X0_reckon_39 {g : GT} {Z : Int × MM} {n : Nat} (C : Cx g cX0_reckon 5 yX0_reckon 3 76) (hr : Rt g none 3 Z) {v0 v2 : Int}    : ∀ (k : Nat) (v3 v4 : Int) (h : MM), in32 v3 → in32 v4 → f_X0_reckon_39 n  v0 v2 k v3 v4 h = some Z → G g 39 [(2, v0), (3, 0), (2, v2), (0, v3), (0, v4)] [] h := by
  intro k
  induction k with
  | zero => intro v3 v4 h cv3 cv4 hf; exact absurd hf (by intro z; cases z)
  | succ k ih => intro v3 v4 h cv3 cv4 hf; exact b_X0_reckon_39b C hr (rec39 := f_X0_reckon_39 n  v0 v2 k)  ih cv3 cv4 (show f_X0_reckon_39b n  (f_X0_reckon_39 n  v0 v2 k) v0 v2 v3 v4 h = some Z from hf)
set_option maxRecDepth 20000 in
theorem e_X0_reckon {g : GT} {Z : Int × MM} {n : Nat} (C : Cx g cX0_reckon 5 yX0_reckon 3 76) (hr : Rt g none 3 Z) {v0 v1 v2 : Int} (cv0 : cK 2 v0) (cv1 : cK 2 v1) (cv2 : cK 2 v2) {h : MM} (hf : f_X0_reckon n v0 v1 v2 h = some Z) : G g 0 [(2, v0), (2, v1), (2, v2), (3, 0), (3, 0)] [] h := by
  unfold f_X0_reckon at hf
  refine r_aload_n C dX0_reckon_0 rfl ?_
  refine r_aload_n C dX0_reckon_1 rfl ?_
  obtain ⟨q1, hf⟩ := gf_s hf
  refine r_gf C ct5 (j := 8) (ji := 8) dX0_reckon_2 q1 rfl rfl (by decide) w_181 rfl (fun c1 => ?_)
  have c1 : in32 _ := c1
  obtain ⟨q2, hf⟩ := pf_s hf
  refine r_pf C ct0 (j := 6) (ji := 6) dX0_reckon_5 q2 rfl rfl (by decide) w_395 rfl (Or.inl rfl) nar_int c1 ?_
  refine r_aload_n C dX0_reckon_8 rfl ?_
  refine r_aload_n C dX0_reckon_9 rfl ?_
  refine r_aload_n C dX0_reckon_10 rfl ?_
  obtain ⟨p3, hf⟩ := gk_s hf
  obtain ⟨r3, h3, hq3, hf⟩ := bd_s hf
  refine r_cV2v C (am_X0_gather (gl g) n) cm_X0_gather w_1180 dX0_reckon_11 ⟨Nat.le_of_ble_eq_true rfl, Nat.le_of_ble_eq_true rfl⟩ p3 rfl trivial trivial rfl (Nat.le_of_ble_eq_true rfl) hq3 ?_
  refine r_aload_n C dX0_reckon_14 rfl ?_
  obtain ⟨p4, hf⟩ := gk_s hf
  obtain ⟨r4, h4, hq4, hf⟩ := bd_s hf
  refine r_cV0v C (am_X0_addUpDue (gl g) n) cm_X0_addUpDue w_1188 dX0_reckon_15 ⟨Nat.le_of_ble_eq_true rfl, Nat.le_of_ble_eq_true rfl⟩ p4 rfl  rfl (Nat.le_of_ble_eq_true rfl) hq4 ?_
  refine r_aload_n C dX0_reckon_18 rfl ?_
  obtain ⟨q5, hf⟩ := gf_s hf
  refine r_gf C ct0 (j := 2) (ji := 2) dX0_reckon_19 q5 rfl rfl (by decide) w_391 rfl (fun c5 => ?_)
  refine r_iconst C dX0_reckon_22 ?_
  obtain ⟨r6, h6, hq6, hf⟩ := bd_s hf
  refine r_cS2v C (am_J7_fill_53178 (gl g) n) cm_J7_fill_53178 w_1184 dX0_reckon_23 ⟨Nat.le_of_ble_eq_true rfl, Nat.le_of_ble_eq_true rfl⟩ trivial (in32_of rfl) rfl (Nat.le_of_ble_eq_true rfl) hq6 ?_
  refine r_aload_n C dX0_reckon_26 rfl ?_
  obtain ⟨q7, hf⟩ := gf_s hf
  refine r_gf C ct0 (j := 3) (ji := 3) dX0_reckon_27 q7 rfl rfl (by decide) w_392 rfl (fun c7 => ?_)
  refine r_iconst C dX0_reckon_30 ?_
  obtain ⟨r8, h8, hq8, hf⟩ := bd_s hf
  refine r_cS2v C (am_J7_fill_53178 (gl g) n) cm_J7_fill_53178 w_1184 dX0_reckon_31 ⟨Nat.le_of_ble_eq_true rfl, Nat.le_of_ble_eq_true rfl⟩ trivial (in32_of rfl) rfl (Nat.le_of_ble_eq_true rfl) hq8 ?_
  refine r_iconst C dX0_reckon_34 ?_
  refine r_istore_n C dX0_reckon_35 (Nat.le_of_ble_eq_true rfl) rfl ?_
  refine r_iconst C dX0_reckon_36 ?_
  refine r_istore C dX0_reckon_37 (Nat.le_of_ble_eq_true rfl) rfl ?_
  exact G.mask [true, false, true, true, true] rfl rfl (l_X0_reckon_39 C hr   _ _ _ _ (in32_of rfl) (in32_of rfl) hf)
set_option maxRecDepth 20000 in
theorem am_X0_reckon (l : Launch) (n : Nat) : AM l yX0_reckon cX0_reckon 5 none 3 76 [2, 2, 2] 3 (un3 (f_X0_reckon n)) := by
  refine AM.intro (by decide) (fun xs hx => ?_) (fun g xs h Z hl C hr hx hf => ?_)
  · obtain ⟨a0, a1, a2, rfl, c0, c1, c2⟩ := canL_3 hx
    exact Nat.le_of_ble_eq_true rfl
  · obtain ⟨a0, a1, a2, rfl, c0, c1, c2⟩ := canL_3 hx
    have hf := (un3_e _ a0 a1 a2 _).symm.trans hf
    exact e_X0_reckon (n := n) C hr c0 c1 c2 hf
/-! LinesPromised$Debts.payOut(LLinesPromised$Scrip;)V -/
theorem dX0_payOut_0 : decode cX0_payOut 0 = .ok (.iconst 0, 1) := by decide +kernel
theorem dX0_payOut_1 : decode cX0_payOut 1 = .ok (.istore_n 2, 1) := by decide +kernel
theorem dX0_payOut_2 : decode cX0_payOut 2 = .ok (.iload_n 2, 1) := by decide +kernel
theorem dX0_payOut_3 : decode cX0_payOut 3 = .ok (.aload_n 0, 1) := by decide +kernel
theorem dX0_payOut_4 : decode cX0_payOut 4 = .ok (.getfield 9, 3) := by decide +kernel
theorem dX0_payOut_7 : decode cX0_payOut 7 = .ok (.arraylength, 1) := by decide +kernel
theorem dX0_payOut_8 : decode cX0_payOut 8 = .ok (.if_icmp .ge 52, 3) := by decide +kernel
theorem dX0_payOut_11 : decode cX0_payOut 11 = .ok (.aload_n 0, 1) := by decide +kernel
theorem dX0_payOut_12 : decode cX0_payOut 12 = .ok (.getfield 18, 3) := by decide +kernel
theorem dX0_payOut_15 : decode cX0_payOut 15 = .ok (.iload_n 2, 1) := by decide +kernel
theorem dX0_payOut_16 : decode cX0_payOut 16 = .ok (.iaload, 1) := by decide +kernel
theorem dX0_payOut_17 : decode cX0_payOut 17 = .ok (.aload_n 0, 1) := by decide +kernel
theorem dX0_payOut_18 : decode cX0_payOut 18 = .ok (.getfield 21, 3) := by decide +kernel
theorem dX0_payOut_21 : decode cX0_payOut 21 = .ok (.iload_n 2, 1) := by decide +kernel
theorem dX0_payOut_22 : decode cX0_payOut 22 = .ok (.iaload, 1) := by decide +kernel
theorem dX0_payOut_23 : decode cX0_payOut 23 = .ok (.isub, 1) := by decide +kernel
theorem dX0_payOut_24 : decode cX0_payOut 24 = .ok (.istore_n 3, 1) := by decide +kernel
theorem dX0_payOut_25 : decode cX0_payOut 25 = .ok (.aload_n 1, 1) := by decide +kernel
theorem dX0_payOut_26 : decode cX0_payOut 26 = .ok (.getfield 95, 3) := by decide +kernel
theorem dX0_payOut_29 : decode cX0_payOut 29 = .ok (.iload_n 2, 1) := by decide +kernel
theorem dX0_payOut_30 : decode cX0_payOut 30 = .ok (.bipush 12, 2) := by decide +kernel
theorem dX0_payOut_32 : decode cX0_payOut 32 = .ok (.idiv, 1) := by decide +kernel
theorem dX0_payOut_33 : decode cX0_payOut 33 = .ok (.dup2, 1) := by decide +kernel
theorem dX0_payOut_34 : decode cX0_payOut 34 = .ok (.iaload, 1) := by decide +kernel
theorem dX0_payOut_35 : decode cX0_payOut 35 = .ok (.iload_n 3, 1) := by decide +kernel
theorem dX0_payOut_36 : decode cX0_payOut 36 = .ok (.isub, 1) := by decide +kernel
theorem dX0_payOut_37 : decode cX0_payOut 37 = .ok (.iastore, 1) := by decide +kernel
theorem dX0_payOut_38 : decode cX0_payOut 38 = .ok (.aload_n 1, 1) := by decide +kernel
theorem dX0_payOut_39 : decode cX0_payOut 39 = .ok (.getfield 95, 3) := by decide +kernel
theorem dX0_payOut_42 : decode cX0_payOut 42 = .ok (.bipush 8, 2) := by decide +kernel
theorem dX0_payOut_44 : decode cX0_payOut 44 = .ok (.iload_n 2, 1) := by decide +kernel
theorem dX0_payOut_45 : decode cX0_payOut 45 = .ok (.bipush 12, 2) := by decide +kernel
theorem dX0_payOut_47 : decode cX0_payOut 47 = .ok (.irem, 1) := by decide +kernel
theorem dX0_payOut_48 : decode cX0_payOut 48 = .ok (.iadd, 1) := by decide +kernel
theorem dX0_payOut_49 : decode cX0_payOut 49 = .ok (.dup2, 1) := by decide +kernel
theorem dX0_payOut_50 : decode cX0_payOut 50 = .ok (.iaload, 1) := by decide +kernel
theorem dX0_payOut_51 : decode cX0_payOut 51 = .ok (.iload_n 3, 1) := by decide +kernel
theorem dX0_payOut_52 : decode cX0_payOut 52 = .ok (.iadd, 1) := by decide +kernel
theorem dX0_payOut_53 : decode cX0_payOut 53 = .ok (.iastore, 1) := by decide +kernel
theorem dX0_payOut_54 : decode cX0_payOut 54 = .ok (.iinc 2 1, 3) := by decide +kernel
theorem dX0_payOut_57 : decode cX0_payOut 57 = .ok (.goto (-55), 3) := by decide +kernel
theorem dX0_payOut_60 : decode cX0_payOut 60 = .ok (.return_, 1) := by decide +kernel
theorem cm_X0_payOut : CM yX0_payOut cX0_payOut 4 none 1 0 := ⟨w_1208, w_1209, w_1210, w_95, ⟨by decide +kernel, by decide +kernel, by decide +kernel⟩, ⟨_, _, rfl⟩, by decide⟩
noncomputable def f_X0_payOut_2b (n : Nat) (rec2 : Int → MM → RR) (v0 v1 v2 : Int) (h : MM) : RR :=
  gf h v0 0 0 fun r1 =>
  al h r1 100 fun r2 =>
  if r2 ≤ v2 then
    some (0, h)
  else
  gf h v0 0 2 fun r4 =>
  rd h r4 100 v2 fun r5 =>
  gf h v0 0 3 fun r6 =>
  rd h r6 100 v2 fun r7 =>
  lb (wr (r5 - r7)) fun x8 =>
  gf h v1 8 0 fun r9 =>
  rd h r9 100 (idv v2 12) fun r10 =>
  wt h r9 100 (idv v2 12) (wr (r10 - x8)) fun h11 =>
  gf h11 v1 8 0 fun r12 =>
  rd h11 r12 100 (wr (8 + (irm v2 12))) fun r13 =>
  wt h11 r12 100 (wr (8 + (irm v2 12))) (wr (r13 + x8)) fun h14 =>
  lb (wr (v2 + 1)) fun x15 =>
  rec2 x15 h14
noncomputable def f_X0_payOut_2 (n : Nat)  (v0 v1 : Int) : Nat → Int → MM → RR
  | 0, _, _ => none
  | k + 1, v2, h => f_X0_payOut_2b n  (f_X0_payOut_2 n  v0 v1 k) v0 v1 v2 h
noncomputable def f_X0_payOut (n : Nat) (v0 v1 : Int) (h : MM) : RR :=
  f_X0_payOut_2 n v0 v1 n 0 h
set_option maxRecDepth 20000 in
theorem b_X0_payOut_2b {g : GT} {Z : Int × MM} {n : Nat} (C : Cx g cX0_payOut 4 yX0_payOut 0 0) (hr : Rt g none 3 Z) {v0 v1 v2 : Int}  {rec2 : Int → MM → RR} (L2 : ∀ (u2 : Int) (h : MM), in32 u2 → rec2 u2 h = some Z → G g 2 [(2, v0), (2, v1), (0, u2), (3, 0)] [] h) (cv2 : in32 v2) {h : MM} (hf : f_X0_payOut_2b n rec2 v0 v1 v2 h = some Z) : G g 2 [(2, v0), (2, v1), (0, v2), (3, 0)] [] h := by
  unfold f_X0_payOut_2b at hf
  refine r_iload_n C dX0_payOut_2 rfl ?_
  refine r_aload_n C dX0_payOut_3 rfl ?_
  obtain ⟨q1, hf⟩ := gf_s hf
  refine r_gf C ct0 (j := 0) (ji := 0) dX0_payOut_4 q1 rfl rfl (by decide) w_389 rfl (fun c1 => ?_)
  obtain ⟨q2, hf⟩ := al_s hf
  refine r_alen C (tn := 100) dX0_payOut_7 q2 rfl (by decide) (fun c2 _ => ?_)
  refine r_icmp_ge C dX0_payOut_8 (tgt := 60) (by decide) cv2 c2 (fun n3 => ?_) (fun n3 => ?_)
  · have hf := ite_p n3 hf
    cases hf
    exact r_vret C hr dX0_payOut_60
  · have hf := ite_n n3 hf
    refine r_aload_n C dX0_payOut_11 rfl ?_
    obtain ⟨q4, hf⟩ := gf_s hf
    refine r_gf C ct0 (j := 2) (ji := 2) dX0_payOut_12 q4 rfl rfl (by decide) w_391 rfl (fun c4 => ?_)
    refine r_iload_n C dX0_payOut_15 rfl ?_
    obtain ⟨q5, hf⟩ := rd_s hf
    refine r_iald C dX0_payOut_16 q5 rfl (fun c5 => ?_)
    refine r_aload_n C dX0_payOut_17 rfl ?_
    obtain ⟨q6, hf⟩ := gf_s hf
    refine r_gf C ct0 (j := 3) (ji := 3) dX0_payOut_18 q6 rfl rfl (by decide) w_392 rfl (fun c6 => ?_)
    refine r_iload_n C dX0_payOut_21 rfl ?_
    obtain ⟨q7, hf⟩ := rd_s hf
    refine r_iald C dX0_payOut_22 q7 rfl (fun c7 => ?_)
    refine r_isub C dX0_payOut_23 ?_
    obtain ⟨x8, e8, hf⟩ := lb_s hf
    have c8 : in32 x8 := by rw [e8]; exact (in32_t _)
    refine r_istore_nL C dX0_payOut_24 e8 (Nat.le_of_ble_eq_true rfl) rfl ?_
    refine r_aload_n C dX0_payOut_25 rfl ?_
    obtain ⟨q9, hf⟩ := gf_s hf
    refine r_gf C ct8 (j := 0) (ji := 0) dX0_payOut_26 q9 rfl rfl (by decide) w_216 rfl (fun c9 => ?_)
    refine r_iload_n C dX0_payOut_29 rfl ?_
    refine r_bipush C dX0_payOut_30 rfl ?_
    refine r_idiv C dX0_payOut_32 (in32_of rfl) (by decide) ?_
    refine r_dup2 C dX0_payOut_33 (by decide) (by decide) ?_
    obtain ⟨q10, hf⟩ := rd_s hf
    refine r_iald C dX0_payOut_34 q10 rfl (fun c10 => ?_)
    refine r_iload_n C dX0_payOut_35 rfl ?_
    refine r_isub C dX0_payOut_36 ?_
    obtain ⟨q11, hf⟩ := wt_s hf
    refine r_iast C dX0_payOut_37 q11 rfl (in32_t _) ?_
    refine r_aload_n C dX0_payOut_38 rfl ?_
    obtain ⟨q12, hf⟩ := gf_s hf
    refine r_gf C ct8 (j := 0) (ji := 0) dX0_payOut_39 q12 rfl rfl (by decide) w_216 rfl (fun c12 => ?_)
    refine r_bipush C dX0_payOut_42 rfl ?_
    refine r_iload_n C dX0_payOut_44 rfl ?_
    refine r_bipush C dX0_payOut_45 rfl ?_
    refine r_irem C dX0_payOut_47 (in32_of rfl) (by decide) ?_
    refine r_iadd C dX0_payOut_48 ?_
    refine r_dup2 C dX0_payOut_49 (by decide) (by decide) ?_
    obtain ⟨q13, hf⟩ := rd_s hf
    refine r_iald C dX0_payOut_50 q13 rfl (fun c13 => ?_)
    refine r_iload_n C dX0_payOut_51 rfl ?_
    refine r_iadd C dX0_payOut_52 ?_
    obtain ⟨q14, hf⟩ := wt_s hf
    refine r_iast C dX0_payOut_53 q14 rfl (in32_t _) ?_
    obtain ⟨x15, e15, hf⟩ := lb_s hf
    have c15 : in32 x15 := by rw [e15]; exact (in32_t _)
    refine r_iincL C dX0_payOut_54 rfl e15 (Nat.le_of_ble_eq_true rfl) rfl ?_
    refine r_goto C dX0_payOut_57 (tgt := 2) (by decide) ?_
    exact G.mask [true, true, true, false] rfl rfl (L2 _ _ c15 hf)
set_option maxRecDepth 20000 in
theorem l_X0_payOut_2 {g : GT} {Z : Int × MM} {n : Nat} (C : Cx g cX0_payOut 4 yX0_payOut 0 0) (hr : Rt g none 3 Z) {v0 v1 : Int}    : ∀ (k : Nat) (v2 : Int) (h : MM), in32 v2 → f_X0_payOut_2 n  v0 v1 k v2 h = some Z → G g 2 [(2, v0), (2, v1), (0, v2), (3, 0)] [] h := by
  intro k
  induction k with
  | zero => intro v2 h cv2 hf; exact absurd hf (by intro z; cases z)
  | succ k ih => intro v2 h cv2 hf; exact b_X0_payOut_2b C hr (rec2 := f_X0_payOut_2 n  v0 v1 k)  ih cv2 (show f_X0_payOut_2b n  (f_X0_payOut_2 n  v0 v1 k) v0 v1 v2 h = some Z from hf)
set_option maxRecDepth 20000 in
theorem e_X0_payOut {g : GT} {Z : Int × MM} {n : Nat} (C : Cx g cX0_payOut 4 yX0_payOut 0 0) (hr : Rt g none 3 Z) {v0 v1 : Int} (cv0 : cK 2 v0) (cv1 : cK 2 v1) {h : MM} (hf : f_X0_payOut n v0 v1 h = some Z) : G g 0 [(2, v0), (2, v1), (3, 0), (3, 0)] [] h := by
  unfold f_X0_payOut at hf
  refine r_iconst C dX0_payOut_0 ?_
  refine r_istore_n C dX0_payOut_1 (Nat.le_of_ble_eq_true rfl) rfl ?_
  exact G.mask [true, true, true, false] rfl rfl (l_X0_payOut_2 C hr   _ _ _ (in32_of rfl) hf)
set_option maxRecDepth 20000 in
theorem am_X0_payOut (l : Launch) (n : Nat) : AM l yX0_payOut cX0_payOut 4 none 0 0 [2, 2] 3 (un2 (f_X0_payOut n)) := by
  refine AM.intro (by decide) (fun xs hx => ?_) (fun g xs h Z hl C hr hx hf => ?_)
  · obtain ⟨a0, a1, rfl, c0, c1⟩ := canL_2 hx
    exact Nat.le_of_ble_eq_true rfl
  · obtain ⟨a0, a1, rfl, c0, c1⟩ := canL_2 hx
    have hf := (un2_e _ a0 a1 _).symm.trans hf
    exact e_X0_payOut (n := n) C hr c0 c1 hf
/-! LinesPromised$Debts.paidBy(I)I -/
theorem dX0_paidBy_0 : decode cX0_paidBy 0 = .ok (.iconst 0, 1) := by decide +kernel
theorem dX0_paidBy_1 : decode cX0_paidBy 1 = .ok (.istore_n 2, 1) := by decide +kernel
theorem dX0_paidBy_2 : decode cX0_paidBy 2 = .ok (.iconst 0, 1) := by decide +kernel
theorem dX0_paidBy_3 : decode cX0_paidBy 3 = .ok (.istore_n 3, 1) := by decide +kernel
theorem dX0_paidBy_4 : decode cX0_paidBy 4 = .ok (.iload_n 3, 1) := by decide +kernel
theorem dX0_paidBy_5 : decode cX0_paidBy 5 = .ok (.aload_n 0, 1) := by decide +kernel
theorem dX0_paidBy_6 : decode cX0_paidBy 6 = .ok (.getfield 9, 3) := by decide +kernel
theorem dX0_paidBy_9 : decode cX0_paidBy 9 = .ok (.arraylength, 1) := by decide +kernel
theorem dX0_paidBy_10 : decode cX0_paidBy 10 = .ok (.if_icmp .ge 46, 3) := by decide +kernel
theorem dX0_paidBy_13 : decode cX0_paidBy 13 = .ok (.iload_n 1, 1) := by decide +kernel
theorem dX0_paidBy_14 : decode cX0_paidBy 14 = .ok (.iload_n 3, 1) := by decide +kernel
theorem dX0_paidBy_15 : decode cX0_paidBy 15 = .ok (.bipush 12, 2) := by decide +kernel
theorem dX0_paidBy_17 : decode cX0_paidBy 17 = .ok (.idiv, 1) := by decide +kernel
theorem dX0_paidBy_18 : decode cX0_paidBy 18 = .ok (.if_icmp .ne 12, 3) := by decide +kernel
theorem dX0_paidBy_21 : decode cX0_paidBy 21 = .ok (.iload_n 2, 1) := by decide +kernel
theorem dX0_paidBy_22 : decode cX0_paidBy 22 = .ok (.aload_n 0, 1) := by decide +kernel
theorem dX0_paidBy_23 : decode cX0_paidBy 23 = .ok (.getfield 18, 3) := by decide +kernel
theorem dX0_paidBy_26 : decode cX0_paidBy 26 = .ok (.iload_n 3, 1) := by decide +kernel
theorem dX0_paidBy_27 : decode cX0_paidBy 27 = .ok (.iaload, 1) := by decide +kernel
theorem dX0_paidBy_28 : decode cX0_paidBy 28 = .ok (.iadd, 1) := by decide +kernel
theorem dX0_paidBy_29 : decode cX0_paidBy 29 = .ok (.istore_n 2, 1) := by decide +kernel
theorem dX0_paidBy_30 : decode cX0_paidBy 30 = .ok (.iload_n 1, 1) := by decide +kernel
theorem dX0_paidBy_31 : decode cX0_paidBy 31 = .ok (.bipush 8, 2) := by decide +kernel
theorem dX0_paidBy_33 : decode cX0_paidBy 33 = .ok (.iload_n 3, 1) := by decide +kernel
theorem dX0_paidBy_34 : decode cX0_paidBy 34 = .ok (.bipush 12, 2) := by decide +kernel
theorem dX0_paidBy_36 : decode cX0_paidBy 36 = .ok (.irem, 1) := by decide +kernel
theorem dX0_paidBy_37 : decode cX0_paidBy 37 = .ok (.iadd, 1) := by decide +kernel
theorem dX0_paidBy_38 : decode cX0_paidBy 38 = .ok (.if_icmp .ne 12, 3) := by decide +kernel
theorem dX0_paidBy_41 : decode cX0_paidBy 41 = .ok (.iload_n 2, 1) := by decide +kernel
theorem dX0_paidBy_42 : decode cX0_paidBy 42 = .ok (.aload_n 0, 1) := by decide +kernel
theorem dX0_paidBy_43 : decode cX0_paidBy 43 = .ok (.getfield 21, 3) := by decide +kernel
theorem dX0_paidBy_46 : decode cX0_paidBy 46 = .ok (.iload_n 3, 1) := by decide +kernel
theorem dX0_paidBy_47 : decode cX0_paidBy 47 = .ok (.iaload, 1) := by decide +kernel
theorem dX0_paidBy_48 : decode cX0_paidBy 48 = .ok (.iadd, 1) := by decide +kernel
theorem dX0_paidBy_49 : decode cX0_paidBy 49 = .ok (.istore_n 2, 1) := by decide +kernel
theorem dX0_paidBy_50 : decode cX0_paidBy 50 = .ok (.iinc 3 1, 3) := by decide +kernel
theorem dX0_paidBy_53 : decode cX0_paidBy 53 = .ok (.goto (-49), 3) := by decide +kernel
theorem dX0_paidBy_56 : decode cX0_paidBy 56 = .ok (.iload_n 2, 1) := by decide +kernel
theorem dX0_paidBy_57 : decode cX0_paidBy 57 = .ok (.ireturn, 1) := by decide +kernel
theorem cm_X0_paidBy : CM yX0_paidBy cX0_paidBy 4 (some .int) 1 0 := ⟨w_1216, w_1217, w_1218, w_95, ⟨by decide +kernel, by decide +kernel, by decide +kernel⟩, ⟨_, _, rfl⟩, by decide⟩
noncomputable def f_X0_paidBy_50 (n : Nat) (rec4 : Int → Int → MM → RR) (v0 v1 v2 v3 : Int) (h : MM) : RR :=
  lb (wr (v3 + 1)) fun x1 =>
  rec4 v2 x1 h
noncomputable def f_X0_paidBy_30 (n : Nat) (rec4 : Int → Int → MM → RR) (v0 v1 v2 v3 : Int) (h : MM) : RR :=
  if v1 = wr (8 + (irm v3 12)) then
    gf h v0 0 3 fun r2 =>
    rd h r2 100 v3 fun r3 =>
    lb (wr (v2 + r3)) fun x4 =>
    f_X0_paidBy_50 n rec4 v0 v1 x4 v3 h
  else
  f_X0_paidBy_50 n rec4 v0 v1 v2 v3 h
noncomputable def f_X0_paidBy_4b (n : Nat) (rec4 : Int → Int → MM → RR) (v0 v1 v2 v3 : Int) (h : MM) : RR :=
  gf h v0 0 0 fun r1 =>
  al h r1 100 fun r2 =>
  if r2 ≤ v3 then
    some (v2, h)
  else
  if v1 = idv v3 12 then
    gf h v0 0 2 fun r5 =>
    rd h r5 100 v3 fun r6 =>
    lb (wr (v2 + r6)) fun x7 =>
    f_X0_paidBy_30 n rec4 v0 v1 x7 v3 h
  else
  f_X0_paidBy_30 n rec4 v0 v1 v2 v3 h
noncomputable def f_X0_paidBy_4 (n : Nat)  (v0 v1 : Int) : Nat → Int → Int → MM → RR
  | 0, _, _, _ => none
  | k + 1, v2, v3, h => f_X0_paidBy_4b n  (f_X0_paidBy_4 n  v0 v1 k) v0 v1 v2 v3 h
noncomputable def f_X0_paidBy (n : Nat) (v0 v1 : Int) (h : MM) : RR :=
  f_X0_paidBy_4 n v0 v1 n 0 0 h
set_option maxRecDepth 20000 in
theorem b_X0_paidBy_50 {g : GT} {Z : Int × MM} {n : Nat} (C : Cx g cX0_paidBy 4 yX0_paidBy 0 0) (hr : Rt g (some .int) 0 Z) {v0 v1 v2 v3 : Int}  {rec4 : Int → Int → MM → RR} (L4 : ∀ (u2 u3 : Int) (h : MM), in32 u2 → in32 u3 → rec4 u2 u3 h = some Z → G g 4 [(2, v0), (0, v1), (0, u2), (0, u3)] [] h) (cv1 : in32 v1) (cv2 : in32 v2) (cv3 : in32 v3) {h : MM} (hf : f_X0_paidBy_50 n rec4 v0 v1 v2 v3 h = some Z) : G g 50 [(2, v0), (0, v1), (0, v2), (0, v3)] [] h := by
  unfold f_X0_paidBy_50 at hf
  obtain ⟨x1, e1, hf⟩ := lb_s hf
  have c1 : in32 x1 := by rw [e1]; exact (in32_t _)
  refine r_iincL C dX0_paidBy_50 rfl e1 (Nat.le_of_ble_eq_true rfl) rfl ?_
  refine r_goto C dX0_paidBy_53 (tgt := 4) (by decide) ?_
  exact G.mask [true, true, true, true] rfl rfl (L4 _ _ _ cv2 c1 hf)
set_option maxRecDepth 20000 in
theorem b_X0_paidBy_30 {g : GT} {Z : Int × MM} {n : Nat} (C : Cx g cX0_paidBy 4 yX0_paidBy 0 0) (hr : Rt g (some .int) 0 Z) {v0 v1 v2 v3 : Int}  {rec4 : Int → Int → MM → RR} (L4 : ∀ (u2 u3 : Int) (h : MM), in32 u2 → in32 u3 → rec4 u2 u3 h = some Z → G g 4 [(2, v0), (0, v1), (0, u2), (0, u3)] [] h) (cv1 : in32 v1) (cv2 : in32 v2) (cv3 : in32 v3) {h : MM} (hf : f_X0_paidBy_30 n rec4 v0 v1 v2 v3 h = some Z) : G g 30 [(2, v0), (0, v1), (0, v2), (0, v3)] [] h := by
  unfold f_X0_paidBy_30 at hf
  refine r_iload_n C dX0_paidBy_30 rfl ?_
  refine r_bipush C dX0_paidBy_31 rfl ?_
  refine r_iload_n C dX0_paidBy_33 rfl ?_
  refine r_bipush C dX0_paidBy_34 rfl ?_
  refine r_irem C dX0_paidBy_36 (in32_of rfl) (by decide) ?_
  refine r_iadd C dX0_paidBy_37 ?_
  refine r_icmp_ne C dX0_paidBy_38 (tgt := 50) (by decide) cv1 (in32_t _) (fun n1 => ?_) (fun n1 => ?_)
  · have hf := ite_n n1 hf
    exact G.mask [true, true, true, true] rfl rfl (b_X0_paidBy_50 C hr L4 cv1 cv2 cv3 hf)
  · have hf := ite_p n1 hf
    refine r_iload_n C dX0_paidBy_41 rfl ?_
    refine r_aload_n C dX0_paidBy_42 rfl ?_
    obtain ⟨q2, hf⟩ := gf_s hf
    refine r_gf C ct0 (j := 3) (ji := 3) dX0_paidBy_43 q2 rfl rfl (by decide) w_392 rfl (fun c2 => ?_)
    refine r_iload_n C dX0_paidBy_46 rfl ?_
    obtain ⟨q3, hf⟩ := rd_s hf
    refine r_iald C dX0_paidBy_47 q3 rfl (fun c3 => ?_)
    refine r_iadd C dX0_paidBy_48 ?_
    obtain ⟨x4, e4, hf⟩ := lb_s hf
    have c4 : in32 x4 := by rw [e4]; exact (in32_t _)
    refine r_istore_nL C dX0_paidBy_49 e4 (Nat.le_of_ble_eq_true rfl) rfl ?_
    exact G.mask [true, true, true, true] rfl rfl (b_X0_paidBy_50 C hr L4 cv1 c4 cv3 hf)
set_option maxRecDepth 20000 in
theorem b_X0_paidBy_4b {g : GT} {Z : Int × MM} {n : Nat} (C : Cx g cX0_paidBy 4 yX0_paidBy 0 0) (hr : Rt g (some .int) 0 Z) {v0 v1 v2 v3 : Int}  {rec4 : Int → Int → MM → RR} (L4 : ∀ (u2 u3 : Int) (h : MM), in32 u2 → in32 u3 → rec4 u2 u3 h = some Z → G g 4 [(2, v0), (0, v1), (0, u2), (0, u3)] [] h) (cv1 : in32 v1) (cv2 : in32 v2) (cv3 : in32 v3) {h : MM} (hf : f_X0_paidBy_4b n rec4 v0 v1 v2 v3 h = some Z) : G g 4 [(2, v0), (0, v1), (0, v2), (0, v3)] [] h := by
  unfold f_X0_paidBy_4b at hf
  refine r_iload_n C dX0_paidBy_4 rfl ?_
  refine r_aload_n C dX0_paidBy_5 rfl ?_
  obtain ⟨q1, hf⟩ := gf_s hf
  refine r_gf C ct0 (j := 0) (ji := 0) dX0_paidBy_6 q1 rfl rfl (by decide) w_389 rfl (fun c1 => ?_)
  obtain ⟨q2, hf⟩ := al_s hf
  refine r_alen C (tn := 100) dX0_paidBy_9 q2 rfl (by decide) (fun c2 _ => ?_)
  refine r_icmp_ge C dX0_paidBy_10 (tgt := 56) (by decide) cv3 c2 (fun n3 => ?_) (fun n3 => ?_)
  · have hf := ite_p n3 hf
    refine r_iload_n C dX0_paidBy_56 rfl ?_
    cases hf
    exact r_jret C hr dX0_paidBy_57 cv2
  · have hf := ite_n n3 hf
    refine r_iload_n C dX0_paidBy_13 rfl ?_
    refine r_iload_n C dX0_paidBy_14 rfl ?_
    refine r_bipush C dX0_paidBy_15 rfl ?_
    refine r_idiv C dX0_paidBy_17 (in32_of rfl) (by decide) ?_
    refine r_icmp_ne C dX0_paidBy_18 (tgt := 30) (by decide) cv1 (in32_t _) (fun n4 => ?_) (fun n4 => ?_)
    · have hf := ite_n n4 hf
      exact G.mask [true, true, true, true] rfl rfl (b_X0_paidBy_30 C hr L4 cv1 cv2 cv3 hf)
    · have hf := ite_p n4 hf
      refine r_iload_n C dX0_paidBy_21 rfl ?_
      refine r_aload_n C dX0_paidBy_22 rfl ?_
      obtain ⟨q5, hf⟩ := gf_s hf
      refine r_gf C ct0 (j := 2) (ji := 2) dX0_paidBy_23 q5 rfl rfl (by decide) w_391 rfl (fun c5 => ?_)
      refine r_iload_n C dX0_paidBy_26 rfl ?_
      obtain ⟨q6, hf⟩ := rd_s hf
      refine r_iald C dX0_paidBy_27 q6 rfl (fun c6 => ?_)
      refine r_iadd C dX0_paidBy_28 ?_
      obtain ⟨x7, e7, hf⟩ := lb_s hf
      have c7 : in32 x7 := by rw [e7]; exact (in32_t _)
      refine r_istore_nL C dX0_paidBy_29 e7 (Nat.le_of_ble_eq_true rfl) rfl ?_
      exact G.mask [true, true, true, true] rfl rfl (b_X0_paidBy_30 C hr L4 cv1 c7 cv3 hf)
set_option maxRecDepth 20000 in
theorem l_X0_paidBy_4 {g : GT} {Z : Int × MM} {n : Nat} (C : Cx g cX0_paidBy 4 yX0_paidBy 0 0) (hr : Rt g (some .int) 0 Z) {v0 v1 : Int}   (cv1 : in32 v1) : ∀ (k : Nat) (v2 v3 : Int) (h : MM), in32 v2 → in32 v3 → f_X0_paidBy_4 n  v0 v1 k v2 v3 h = some Z → G g 4 [(2, v0), (0, v1), (0, v2), (0, v3)] [] h := by
  intro k
  induction k with
  | zero => intro v2 v3 h cv2 cv3 hf; exact absurd hf (by intro z; cases z)
  | succ k ih => intro v2 v3 h cv2 cv3 hf; exact b_X0_paidBy_4b C hr (rec4 := f_X0_paidBy_4 n  v0 v1 k)  ih cv1 cv2 cv3 (show f_X0_paidBy_4b n  (f_X0_paidBy_4 n  v0 v1 k) v0 v1 v2 v3 h = some Z from hf)
set_option maxRecDepth 20000 in
theorem e_X0_paidBy {g : GT} {Z : Int × MM} {n : Nat} (C : Cx g cX0_paidBy 4 yX0_paidBy 0 0) (hr : Rt g (some .int) 0 Z) {v0 v1 : Int} (cv0 : cK 2 v0) (cv1 : cK 0 v1) {h : MM} (hf : f_X0_paidBy n v0 v1 h = some Z) : G g 0 [(2, v0), (0, v1), (3, 0), (3, 0)] [] h := by
  have cv1 : in32 v1 := cv1
  unfold f_X0_paidBy at hf
  refine r_iconst C dX0_paidBy_0 ?_
  refine r_istore_n C dX0_paidBy_1 (Nat.le_of_ble_eq_true rfl) rfl ?_
  refine r_iconst C dX0_paidBy_2 ?_
  refine r_istore_n C dX0_paidBy_3 (Nat.le_of_ble_eq_true rfl) rfl ?_
  exact G.mask [true, true, true, true] rfl rfl (l_X0_paidBy_4 C hr  cv1 _ _ _ _ (in32_of rfl) (in32_of rfl) hf)
set_option maxRecDepth 20000 in
theorem am_X0_paidBy (l : Launch) (n : Nat) : AM l yX0_paidBy cX0_paidBy 4 (some .int) 0 0 [2, 0] 0 (un2 (f_X0_paidBy n)) := by
  refine AM.intro (by decide) (fun xs hx => ?_) (fun g xs h Z hl C hr hx hf => ?_)
  · obtain ⟨a0, a1, rfl, c0, c1⟩ := canL_2 hx
    exact Nat.le_of_ble_eq_true rfl
  · obtain ⟨a0, a1, rfl, c0, c1⟩ := canL_2 hx
    have hf := (un2_e _ a0 a1 _).symm.trans hf
    exact e_X0_paidBy (n := n) C hr c0 c1 hf
/-! LinesPromised$Debts.isEnded(LLinesPromised$Paper;I)Z -/
theorem dX0_isEnded_0 : decode cX0_isEnded 0 = .ok (.aload_n 0, 1) := by decide +kernel
theorem dX0_isEnded_1 : decode cX0_isEnded 1 = .ok (.getfield 73, 3) := by decide +kernel
theorem dX0_isEnded_4 : decode cX0_isEnded 4 = .ok (.iconst 4, 1) := by decide +kernel
theorem dX0_isEnded_5 : decode cX0_isEnded 5 = .ok (.if_icmp .eq 11, 3) := by decide +kernel
theorem dX0_isEnded_8 : decode cX0_isEnded 8 = .ok (.aload_n 0, 1) := by decide +kernel
theorem dX0_isEnded_9 : decode cX0_isEnded 9 = .ok (.getfield 73, 3) := by decide +kernel
theorem dX0_isEnded_12 : decode cX0_isEnded 12 = .ok (.iconst 5, 1) := by decide +kernel
theorem dX0_isEnded_13 : decode cX0_isEnded 13 = .ok (.if_icmp .ne 5, 3) := by decide +kernel
theorem dX0_isEnded_16 : decode cX0_isEnded 16 = .ok (.iconst 1, 1) := by decide +kernel
theorem dX0_isEnded_17 : decode cX0_isEnded 17 = .ok (.ireturn, 1) := by decide +kernel
theorem dX0_isEnded_18 : decode cX0_isEnded 18 = .ok (.aload_n 0, 1) := by decide +kernel
theorem dX0_isEnded_19 : decode cX0_isEnded 19 = .ok (.getfield 73, 3) := by decide +kernel
theorem dX0_isEnded_22 : decode cX0_isEnded 22 = .ok (.iconst 1, 1) := by decide +kernel
theorem dX0_isEnded_23 : decode cX0_isEnded 23 = .ok (.if_icmp .ne 21, 3) := by decide +kernel
theorem dX0_isEnded_26 : decode cX0_isEnded 26 = .ok (.iload_n 1, 1) := by decide +kernel
theorem dX0_isEnded_27 : decode cX0_isEnded 27 = .ok (.bipush 8, 2) := by decide +kernel
theorem dX0_isEnded_29 : decode cX0_isEnded 29 = .ok (.aload_n 0, 1) := by decide +kernel
theorem dX0_isEnded_30 : decode cX0_isEnded 30 = .ok (.getfield 79, 3) := by decide +kernel
theorem dX0_isEnded_33 : decode cX0_isEnded 33 = .ok (.iadd, 1) := by decide +kernel
theorem dX0_isEnded_34 : decode cX0_isEnded 34 = .ok (.ishr, 1) := by decide +kernel
theorem dX0_isEnded_35 : decode cX0_isEnded 35 = .ok (.iconst 1, 1) := by decide +kernel
theorem dX0_isEnded_36 : decode cX0_isEnded 36 = .ok (.iand, 1) := by decide +kernel
theorem dX0_isEnded_37 : decode cX0_isEnded 37 = .ok (.ifCond .eq 7, 3) := by decide +kernel
theorem dX0_isEnded_40 : decode cX0_isEnded 40 = .ok (.iconst 1, 1) := by decide +kernel
theorem dX0_isEnded_41 : decode cX0_isEnded 41 = .ok (.goto 4, 3) := by decide +kernel
theorem dX0_isEnded_44 : decode cX0_isEnded 44 = .ok (.iconst 0, 1) := by decide +kernel
theorem dX0_isEnded_45 : decode cX0_isEnded 45 = .ok (.ireturn, 1) := by decide +kernel
theorem cm_X0_isEnded : CMs yX0_isEnded cX0_isEnded 2 (some .boolean) 2 := ⟨w_1221, w_1222, w_95, ⟨by decide +kernel, by decide +kernel, by decide +kernel⟩⟩
noncomputable def f_X0_isEnded_16 (n : Nat)  (h : MM) : RR :=
  ck (isb 1) <|
  some (1, h)
noncomputable def f_X0_isEnded_45 (n : Nat)  (s0 : Int) (h : MM) : RR :=
  ck (isb s0) <|
  some (s0, h)
noncomputable def f_X0_isEnded_44 (n : Nat)  (h : MM) : RR :=
  f_X0_isEnded_45 n 0 h
noncomputable def f_X0_isEnded (n : Nat) (v0 v1 : Int) (h : MM) : RR :=
  gf h v0 4 0 fun r1 =>
  if r1 = 4 then
    f_X0_isEnded_16 n h
  else
  gf h v0 4 0 fun r3 =>
  if r3 = 5 then
    f_X0_isEnded_16 n h
  else
  gf h v0 4 0 fun r5 =>
  if r5 = 1 then
    gf h v0 4 9 fun r7 =>
    if ban (shr v1 (wr (8 + r7))) 1 = 0 then
      f_X0_isEnded_44 n h
    else
    f_X0_isEnded_45 n 1 h
  else
  f_X0_isEnded_44 n h
set_option maxRecDepth 20000 in
theorem b_X0_isEnded_16 {g : GT} {Z : Int × MM} {n : Nat} (C : Cx g cX0_isEnded 2 yX0_isEnded 0 0) (hr : Rt g (some .boolean) 0 Z)     {h : MM} (hf : f_X0_isEnded_16 n   h = some Z) : G g 16 [(3, 0), (3, 0)] [] h := by
  unfold f_X0_isEnded_16 at hf
  refine r_iconst C dX0_isEnded_16 ?_
  obtain ⟨b1, hf⟩ := ck_s hf
  cases hf
  exact r_zret C hr dX0_isEnded_17 b1
set_option maxRecDepth 20000 in
theorem b_X0_isEnded_45 {g : GT} {Z : Int × MM} {n : Nat} (C : Cx g cX0_isEnded 2 yX0_isEnded 0 0) (hr : Rt g (some .boolean) 0 Z) {s0 : Int}    (cs0 : in32 s0) {h : MM} (hf : f_X0_isEnded_45 n  s0 h = some Z) : G g 45 [(3, 0), (3, 0)] [(0, s0)] h := by
  unfold f_X0_isEnded_45 at hf
  obtain ⟨b1, hf⟩ := ck_s hf
  cases hf
  exact r_zret C hr dX0_isEnded_45 b1
set_option maxRecDepth 20000 in
theorem b_X0_isEnded_44 {g : GT} {Z : Int × MM} {n : Nat} (C : Cx g cX0_isEnded 2 yX0_isEnded 0 0) (hr : Rt g (some .boolean) 0 Z)     {h : MM} (hf : f_X0_isEnded_44 n   h = some Z) : G g 44 [(3, 0), (3, 0)] [] h := by
  unfold f_X0_isEnded_44 at hf
  refine r_iconst C dX0_isEnded_44 ?_
  exact G.mask [false, false] rfl rfl (b_X0_isEnded_45 C hr  (in32_of rfl) hf)
set_option maxRecDepth 20000 in
theorem e_X0_isEnded {g : GT} {Z : Int × MM} {n : Nat} (C : Cx g cX0_isEnded 2 yX0_isEnded 0 0) (hr : Rt g (some .boolean) 0 Z) {v0 v1 : Int} (cv0 : cK 2 v0) (cv1 : cK 0 v1) {h : MM} (hf : f_X0_isEnded n v0 v1 h = some Z) : G g 0 [(2, v0), (0, v1)] [] h := by
  have cv1 : in32 v1 := cv1
  unfold f_X0_isEnded at hf
  refine r_aload_n C dX0_isEnded_0 rfl ?_
  obtain ⟨q1, hf⟩ := gf_s hf
  refine r_gf C ct4 (j := 0) (ji := 0) dX0_isEnded_1 q1 rfl rfl (by decide) w_713 rfl (fun c1 => ?_)
  have c1 : in32 _ := c1
  refine r_iconst C dX0_isEnded_4 ?_
  refine r_icmp_eq C dX0_isEnded_5 (tgt := 16) (by decide) c1 (in32_of rfl) (fun n2 => ?_) (fun n2 => ?_)
  · have hf := ite_p n2 hf
    exact G.mask [false, false] rfl rfl (b_X0_isEnded_16 C hr   hf)
  · have hf := ite_n n2 hf
    refine r_aload_n C dX0_isEnded_8 rfl ?_
    obtain ⟨q3, hf⟩ := gf_s hf
    refine r_gf C ct4 (j := 0) (ji := 0) dX0_isEnded_9 q3 rfl rfl (by decide) w_713 rfl (fun c3 => ?_)
    have c3 : in32 _ := c3
    refine r_iconst C dX0_isEnded_12 ?_
    refine r_icmp_ne C dX0_isEnded_13 (tgt := 18) (by decide) c3 (in32_of rfl) (fun n4 => ?_) (fun n4 => ?_)
    · have hf := ite_n n4 hf
      refine r_aload_n C dX0_isEnded_18 rfl ?_
      obtain ⟨q5, hf⟩ := gf_s hf
      refine r_gf C ct4 (j := 0) (ji := 0) dX0_isEnded_19 q5 rfl rfl (by decide) w_713 rfl (fun c5 => ?_)
      have c5 : in32 _ := c5
      refine r_iconst C dX0_isEnded_22 ?_
      refine r_icmp_ne C dX0_isEnded_23 (tgt := 44) (by decide) c5 (in32_of rfl) (fun n6 => ?_) (fun n6 => ?_)
      · have hf := ite_n n6 hf
        exact G.mask [false, false] rfl rfl (b_X0_isEnded_44 C hr   hf)
      · have hf := ite_p n6 hf
        refine r_iload_n C dX0_isEnded_26 rfl ?_
        refine r_bipush C dX0_isEnded_27 rfl ?_
        refine r_aload_n C dX0_isEnded_29 rfl ?_
        obtain ⟨q7, hf⟩ := gf_s hf
        refine r_gf C ct4 (j := 9) (ji := 9) dX0_isEnded_30 q7 rfl rfl (by decide) w_751 rfl (fun c7 => ?_)
        have c7 : in32 _ := c7
        refine r_iadd C dX0_isEnded_33 ?_
        refine r_ishr C dX0_isEnded_34 ?_
        refine r_iconst C dX0_isEnded_35 ?_
        refine r_iand C dX0_isEnded_36 ?_
        refine r_if_eq C dX0_isEnded_37 (tgt := 44) (by decide) (in32_t _) (fun n8 => ?_) (fun n8 => ?_)
        · have hf := ite_p n8 hf
          exact G.mask [false, false] rfl rfl (b_X0_isEnded_44 C hr   hf)
        · have hf := ite_n n8 hf
          refine r_iconst C dX0_isEnded_40 ?_
          refine r_goto C dX0_isEnded_41 (tgt := 45) (by decide) ?_
          exact G.mask [false, false] rfl rfl (b_X0_isEnded_45 C hr  (in32_of rfl) hf)
    · have hf := ite_p n4 hf
      exact G.mask [false, false] rfl rfl (b_X0_isEnded_16 C hr   hf)
set_option maxRecDepth 20000 in
theorem am_X0_isEnded (l : Launch) (n : Nat) : AM l yX0_isEnded cX0_isEnded 2 (some .boolean) 0 0 [2, 0] 0 (un2 (f_X0_isEnded n)) := by
  refine AM.intro (by decide) (fun xs hx => ?_) (fun g xs h Z hl C hr hx hf => ?_)
  · obtain ⟨a0, a1, rfl, c0, c1⟩ := canL_2 hx
    exact Nat.le_of_ble_eq_true rfl
  · obtain ⟨a0, a1, rfl, c0, c1⟩ := canL_2 hx
    have hf := (un2_e _ a0 a1 _).symm.trans hf
    exact e_X0_isEnded (n := n) C hr c0 c1 hf
/-! LinesPromised$Debts.fell(LLinesPromised$Papers;LLinesPromised$Scrip;)I -/
theorem dX0_fell_0 : decode cX0_fell 0 = .ok (.iconst 0, 1) := by decide +kernel
theorem dX0_fell_1 : decode cX0_fell 1 = .ok (.istore_n 3, 1) := by decide +kernel
theorem dX0_fell_2 : decode cX0_fell 2 = .ok (.iconst 0, 1) := by decide +kernel
theorem dX0_fell_3 : decode cX0_fell 3 = .ok (.istore 4, 2) := by decide +kernel
theorem dX0_fell_5 : decode cX0_fell 5 = .ok (.iload 4, 2) := by decide +kernel
theorem dX0_fell_7 : decode cX0_fell 7 = .ok (.aload_n 0, 1) := by decide +kernel
theorem dX0_fell_8 : decode cX0_fell 8 = .ok (.getfield 24, 3) := by decide +kernel
theorem dX0_fell_11 : decode cX0_fell 11 = .ok (.arraylength, 1) := by decide +kernel
theorem dX0_fell_12 : decode cX0_fell 12 = .ok (.if_icmp .ge 32, 3) := by decide +kernel
theorem dX0_fell_15 : decode cX0_fell 15 = .ok (.aload_n 0, 1) := by decide +kernel
theorem dX0_fell_16 : decode cX0_fell 16 = .ok (.iload 4, 2) := by decide +kernel
theorem dX0_fell_18 : decode cX0_fell 18 = .ok (.invokevirtual 104, 3) := by decide +kernel
theorem dX0_fell_21 : decode cX0_fell 21 = .ok (.aload_n 0, 1) := by decide +kernel
theorem dX0_fell_22 : decode cX0_fell 22 = .ok (.getfield 24, 3) := by decide +kernel
theorem dX0_fell_25 : decode cX0_fell 25 = .ok (.iload 4, 2) := by decide +kernel
theorem dX0_fell_27 : decode cX0_fell 27 = .ok (.iaload, 1) := by decide +kernel
theorem dX0_fell_28 : decode cX0_fell 28 = .ok (.if_icmp .ge 10, 3) := by decide +kernel
theorem dX0_fell_31 : decode cX0_fell 31 = .ok (.iload_n 3, 1) := by decide +kernel
theorem dX0_fell_32 : decode cX0_fell 32 = .ok (.iconst 1, 1) := by decide +kernel
theorem dX0_fell_33 : decode cX0_fell 33 = .ok (.iload 4, 2) := by decide +kernel
theorem dX0_fell_35 : decode cX0_fell 35 = .ok (.ishl, 1) := by decide +kernel
theorem dX0_fell_36 : decode cX0_fell 36 = .ok (.ior, 1) := by decide +kernel
theorem dX0_fell_37 : decode cX0_fell 37 = .ok (.istore_n 3, 1) := by decide +kernel
theorem dX0_fell_38 : decode cX0_fell 38 = .ok (.iinc 4 1, 3) := by decide +kernel
theorem dX0_fell_41 : decode cX0_fell 41 = .ok (.goto (-36), 3) := by decide +kernel
theorem dX0_fell_44 : decode cX0_fell 44 = .ok (.iconst 0, 1) := by decide +kernel
theorem dX0_fell_45 : decode cX0_fell 45 = .ok (.istore 4, 2) := by decide +kernel
theorem dX0_fell_47 : decode cX0_fell 47 = .ok (.iload 4, 2) := by decide +kernel
theorem dX0_fell_49 : decode cX0_fell 49 = .ok (.aload_n 0, 1) := by decide +kernel
theorem dX0_fell_50 : decode cX0_fell 50 = .ok (.getfield 9, 3) := by decide +kernel
theorem dX0_fell_53 : decode cX0_fell 53 = .ok (.arraylength, 1) := by decide +kernel
theorem dX0_fell_54 : decode cX0_fell 54 = .ok (.if_icmp .ge 63, 3) := by decide +kernel
theorem dX0_fell_57 : decode cX0_fell 57 = .ok (.iload 4, 2) := by decide +kernel
theorem dX0_fell_59 : decode cX0_fell 59 = .ok (.bipush 12, 2) := by decide +kernel
theorem dX0_fell_61 : decode cX0_fell 61 = .ok (.idiv, 1) := by decide +kernel
theorem dX0_fell_62 : decode cX0_fell 62 = .ok (.istore 5, 2) := by decide +kernel
theorem dX0_fell_64 : decode cX0_fell 64 = .ok (.iload 4, 2) := by decide +kernel
theorem dX0_fell_66 : decode cX0_fell 66 = .ok (.bipush 12, 2) := by decide +kernel
theorem dX0_fell_68 : decode cX0_fell 68 = .ok (.irem, 1) := by decide +kernel
theorem dX0_fell_69 : decode cX0_fell 69 = .ok (.istore 6, 2) := by decide +kernel
theorem dX0_fell_71 : decode cX0_fell 71 = .ok (.iload_n 3, 1) := by decide +kernel
theorem dX0_fell_72 : decode cX0_fell 72 = .ok (.iload 5, 2) := by decide +kernel
theorem dX0_fell_74 : decode cX0_fell 74 = .ok (.ishr, 1) := by decide +kernel
theorem dX0_fell_75 : decode cX0_fell 75 = .ok (.iconst 1, 1) := by decide +kernel
theorem dX0_fell_76 : decode cX0_fell 76 = .ok (.iand, 1) := by decide +kernel
theorem dX0_fell_77 : decode cX0_fell 77 = .ok (.ifCond .eq 34, 3) := by decide +kernel
theorem dX0_fell_80 : decode cX0_fell 80 = .ok (.aload_n 0, 1) := by decide +kernel
theorem dX0_fell_81 : decode cX0_fell 81 = .ok (.getfield 9, 3) := by decide +kernel
theorem dX0_fell_84 : decode cX0_fell 84 = .ok (.iload 4, 2) := by decide +kernel
theorem dX0_fell_86 : decode cX0_fell 86 = .ok (.iaload, 1) := by decide +kernel
theorem dX0_fell_87 : decode cX0_fell 87 = .ok (.ifCond .ne 6, 3) := by decide +kernel
theorem dX0_fell_90 : decode cX0_fell 90 = .ok (.goto 21, 3) := by decide +kernel
theorem dX0_fell_93 : decode cX0_fell 93 = .ok (.aload_n 2, 1) := by decide +kernel
theorem dX0_fell_94 : decode cX0_fell 94 = .ok (.iload 6, 2) := by decide +kernel
theorem dX0_fell_96 : decode cX0_fell 96 = .ok (.iload 5, 2) := by decide +kernel
theorem dX0_fell_98 : decode cX0_fell 98 = .ok (.bipush 8, 2) := by decide +kernel
theorem dX0_fell_100 : decode cX0_fell 100 = .ok (.aload_n 2, 1) := by decide +kernel
theorem dX0_fell_101 : decode cX0_fell 101 = .ok (.iload 6, 2) := by decide +kernel
theorem dX0_fell_103 : decode cX0_fell 103 = .ok (.iload 5, 2) := by decide +kernel
theorem dX0_fell_105 : decode cX0_fell 105 = .ok (.invokevirtual 85, 3) := by decide +kernel
theorem dX0_fell_108 : decode cX0_fell 108 = .ok (.invokevirtual 108, 3) := by decide +kernel
theorem dX0_fell_111 : decode cX0_fell 111 = .ok (.iinc 4 1, 3) := by decide +kernel
theorem dX0_fell_114 : decode cX0_fell 114 = .ok (.goto (-67), 3) := by decide +kernel
theorem dX0_fell_117 : decode cX0_fell 117 = .ok (.iconst 0, 1) := by decide +kernel
theorem dX0_fell_118 : decode cX0_fell 118 = .ok (.istore 4, 2) := by decide +kernel
theorem dX0_fell_120 : decode cX0_fell 120 = .ok (.iload 4, 2) := by decide +kernel
theorem dX0_fell_122 : decode cX0_fell 122 = .ok (.aload_n 1, 1) := by decide +kernel
theorem dX0_fell_123 : decode cX0_fell 123 = .ok (.getfield 57, 3) := by decide +kernel
theorem dX0_fell_126 : decode cX0_fell 126 = .ok (.if_icmp .ge 37, 3) := by decide +kernel
theorem dX0_fell_129 : decode cX0_fell 129 = .ok (.aload_n 1, 1) := by decide +kernel
theorem dX0_fell_130 : decode cX0_fell 130 = .ok (.iload 4, 2) := by decide +kernel
theorem dX0_fell_132 : decode cX0_fell 132 = .ok (.invokevirtual 60, 3) := by decide +kernel
theorem dX0_fell_135 : decode cX0_fell 135 = .ok (.astore 5, 2) := by decide +kernel
theorem dX0_fell_137 : decode cX0_fell 137 = .ok (.aload 5, 2) := by decide +kernel
theorem dX0_fell_139 : decode cX0_fell 139 = .ok (.ifnull 18, 3) := by decide +kernel
theorem dX0_fell_142 : decode cX0_fell 142 = .ok (.aload 5, 2) := by decide +kernel
theorem dX0_fell_144 : decode cX0_fell 144 = .ok (.iload_n 3, 1) := by decide +kernel
theorem dX0_fell_145 : decode cX0_fell 145 = .ok (.invokestatic 112, 3) := by decide +kernel
theorem dX0_fell_148 : decode cX0_fell 148 = .ok (.ifCond .eq 9, 3) := by decide +kernel
theorem dX0_fell_151 : decode cX0_fell 151 = .ok (.aload_n 1, 1) := by decide +kernel
theorem dX0_fell_152 : decode cX0_fell 152 = .ok (.iload 4, 2) := by decide +kernel
theorem dX0_fell_154 : decode cX0_fell 154 = .ok (.invokevirtual 116, 3) := by decide +kernel
theorem dX0_fell_157 : decode cX0_fell 157 = .ok (.iinc 4 1, 3) := by decide +kernel
theorem dX0_fell_160 : decode cX0_fell 160 = .ok (.goto (-40), 3) := by decide +kernel
theorem dX0_fell_163 : decode cX0_fell 163 = .ok (.iload_n 3, 1) := by decide +kernel
theorem dX0_fell_164 : decode cX0_fell 164 = .ok (.ireturn, 1) := by decide +kernel
theorem cm_X0_fell : CM yX0_fell cX0_fell 7 (some .int) 2 0 := ⟨w_1212, w_1213, w_1214, w_95, ⟨by decide +kernel, by decide +kernel, by decide +kernel⟩, ⟨_, _, rfl⟩, by decide⟩
noncomputable def f_X0_fell_157 (n : Nat) (rec120 : Int → MM → RR) (v1 v3 v4 : Int) (h : MM) : RR :=
  lb (wr (v4 + 1)) fun x1 =>
  rec120 x1 h
noncomputable def f_X0_fell_120b (n : Nat) (rec120 : Int → MM → RR) (v1 v3 v4 : Int) (h : MM) : RR :=
  gf h v1 5 7 fun r1 =>
  if r1 ≤ v4 then
    some (v3, h)
  else
  gk h v1 5 <|
  bd (f_X5_get n v1 v4 h) fun r3 h3 =>
  if r3 = 0 then
    f_X0_fell_157 n rec120 v1 v3 v4 h3
  else
  bd (f_X0_isEnded n r3 v3 h3) fun r5 h5 =>
  if r5 = 0 then
    f_X0_fell_157 n rec120 v1 v3 v4 h5
  else
  gk h5 v1 5 <|
  bd (f_X5_mark n v1 v4 h5) fun r7 h7 =>
  f_X0_fell_157 n rec120 v1 v3 v4 h7
noncomputable def f_X0_fell_120 (n : Nat)  (v1 v3 : Int) : Nat → Int → MM → RR
  | 0, _, _ => none
  | k + 1, v4, h => f_X0_fell_120b n  (f_X0_fell_120 n  v1 v3 k) v1 v3 v4 h
noncomputable def f_X0_fell_111 (n : Nat) (rec47 : Int → MM → RR) (v0 v1 v2 v3 v4 : Int) (h : MM) : RR :=
  lb (wr (v4 + 1)) fun x1 =>
  rec47 x1 h
noncomputable def f_X0_fell_47b (n : Nat) (rec47 : Int → MM → RR) (v0 v1 v2 v3 v4 : Int) (h : MM) : RR :=
  gf h v0 0 0 fun r1 =>
  al h r1 100 fun r2 =>
  if r2 ≤ v4 then
    f_X0_fell_120 n v1 v3 n 0 h
  else
  lb (idv v4 12) fun x4 =>
  lb (irm v4 12) fun x5 =>
  if ban (shr v3 x4) 1 = 0 then
    f_X0_fell_111 n rec47 v0 v1 v2 v3 v4 h
  else
  gf h v0 0 0 fun r7 =>
  rd h r7 100 v4 fun r8 =>
  if r8 = 0 then
    f_X0_fell_111 n rec47 v0 v1 v2 v3 v4 h
  else
  gk h v2 8 <|
  bd (f_X8_sharesOf n v2 x5 x4 h) fun r10 h10 =>
  gk h10 v2 8 <|
  bd (f_X8_pass n v2 x5 x4 8 r10 h10) fun r11 h11 =>
  f_X0_fell_111 n rec47 v0 v1 v2 v3 v4 h11
noncomputable def f_X0_fell_47 (n : Nat)  (v0 v1 v2 v3 : Int) : Nat → Int → MM → RR
  | 0, _, _ => none
  | k + 1, v4, h => f_X0_fell_47b n  (f_X0_fell_47 n  v0 v1 v2 v3 k) v0 v1 v2 v3 v4 h
noncomputable def f_X0_fell_38 (n : Nat) (rec5 : Int → Int → MM → RR) (v0 v1 v2 v3 v4 : Int) (h : MM) : RR :=
  lb (wr (v4 + 1)) fun x1 =>
  rec5 v3 x1 h
noncomputable def f_X0_fell_5b (n : Nat) (rec5 : Int → Int → MM → RR) (v0 v1 v2 v3 v4 : Int) (h : MM) : RR :=
  gf h v0 0 4 fun r1 =>
  al h r1 100 fun r2 =>
  if r2 ≤ v4 then
    f_X0_fell_47 n v0 v1 v2 v3 n 0 h
  else
  gk h v0 0 <|
  bd (f_X0_paidBy n v0 v4 h) fun r4 h4 =>
  gf h4 v0 0 4 fun r5 =>
  rd h4 r5 100 v4 fun r6 =>
  if r6 ≤ r4 then
    f_X0_fell_38 n rec5 v0 v1 v2 v3 v4 h4
  else
  lb (bor v3 (shl 1 v4)) fun x8 =>
  f_X0_fell_38 n rec5 v0 v1 v2 x8 v4 h4
noncomputable def f_X0_fell_5 (n : Nat)  (v0 v1 v2 : Int) : Nat → Int → Int → MM → RR
  | 0, _, _, _ => none
  | k + 1, v3, v4, h => f_X0_fell_5b n  (f_X0_fell_5 n  v0 v1 v2 k) v0 v1 v2 v3 v4 h
noncomputable def f_X0_fell (n : Nat) (v0 v1 v2 : Int) (h : MM) : RR :=
  f_X0_fell_5 n v0 v1 v2 n 0 0 h
set_option maxRecDepth 20000 in
theorem b_X0_fell_157 {g : GT} {Z : Int × MM} {n : Nat} (C : Cx g cX0_fell 7 yX0_fell 2 44) (hr : Rt g (some .int) 0 Z) {v1 v3 v4 : Int}  {rec120 : Int → MM → RR} (L120 : ∀ (u4 : Int) (h : MM), in32 u4 → rec120 u4 h = some Z → G g 120 [(3, 0), (2, v1), (3, 0), (0, v3), (0, u4), (3, 0), (3, 0)] [] h) (cv3 : in32 v3) (cv4 : in32 v4) {h : MM} (hf : f_X0_fell_157 n rec120 v1 v3 v4 h = some Z) : G g 157 [(3, 0), (2, v1), (3, 0), (0, v3), (0, v4), (3, 0), (3, 0)] [] h := by
  unfold f_X0_fell_157 at hf
  obtain ⟨x1, e1, hf⟩ := lb_s hf
  have c1 : in32 x1 := by rw [e1]; exact (in32_t _)
  refine r_iincL C dX0_fell_157 rfl e1 (Nat.le_of_ble_eq_true rfl) rfl ?_
  refine r_goto C dX0_fell_160 (tgt := 120) (by decide) ?_
  exact G.mask [false, true, false, true, true, false, false] rfl rfl (L120 _ _ c1 hf)
set_option maxRecDepth 20000 in
theorem b_X0_fell_120b {g : GT} {Z : Int × MM} {n : Nat} (C : Cx g cX0_fell 7 yX0_fell 2 44) (hr : Rt g (some .int) 0 Z) {v1 v3 v4 : Int}  {rec120 : Int → MM → RR} (L120 : ∀ (u4 : Int) (h : MM), in32 u4 → rec120 u4 h = some Z → G g 120 [(3, 0), (2, v1), (3, 0), (0, v3), (0, u4), (3, 0), (3, 0)] [] h) (cv3 : in32 v3) (cv4 : in32 v4) {h : MM} (hf : f_X0_fell_120b n rec120 v1 v3 v4 h = some Z) : G g 120 [(3, 0), (2, v1), (3, 0), (0, v3), (0, v4), (3, 0), (3, 0)] [] h := by
  unfold f_X0_fell_120b at hf
  refine r_iload C dX0_fell_120 rfl ?_
  refine r_aload_n C dX0_fell_122 rfl ?_
  obtain ⟨q1, hf⟩ := gf_s hf
  refine r_gf C ct5 (j := 7) (ji := 7) dX0_fell_123 q1 rfl rfl (by decide) w_178 rfl (fun c1 => ?_)
  have c1 : in32 _ := c1
  refine r_icmp_ge C dX0_fell_126 (tgt := 163) (by decide) cv4 c1 (fun n2 => ?_) (fun n2 => ?_)
  · have hf := ite_p n2 hf
    refine r_iload_n C dX0_fell_163 rfl ?_
    cases hf
    exact r_jret C hr dX0_fell_164 cv3
  · have hf := ite_n n2 hf
    refine r_aload_n C dX0_fell_129 rfl ?_
    refine r_iload C dX0_fell_130 rfl ?_
    obtain ⟨p3, hf⟩ := gk_s hf
    obtain ⟨r3, h3, hq3, hf⟩ := bd_s hf
    refine r_cV1 C (am_X5_get (gl g) n) cm_X5_get w_1185 dX0_fell_132 ⟨Nat.le_of_ble_eq_true rfl, Nat.le_of_ble_eq_true rfl⟩ p3 rfl cv4 rfl (Nat.le_of_ble_eq_true rfl) hq3 (by decide) (fun c3 => ?_)
    refine r_astore C dX0_fell_135 (Nat.le_of_ble_eq_true rfl) rfl ?_
    refine r_aload C dX0_fell_137 rfl ?_
    refine r_ifnull C dX0_fell_139 (tgt := 157) (by decide) (fun n4 => ?_) (fun n4 => ?_)
    · have hf := ite_p n4 hf
      exact G.mask [false, true, false, true, true, false, false] rfl rfl (b_X0_fell_157 C hr L120 cv3 cv4 hf)
    · have hf := ite_n n4 hf
      refine r_aload C dX0_fell_142 rfl ?_
      refine r_iload_n C dX0_fell_144 rfl ?_
      obtain ⟨r5, h5, hq5, hf⟩ := bd_s hf
      refine r_cS2 C (am_X0_isEnded (gl g) n) cm_X0_isEnded w_1220 dX0_fell_145 ⟨Nat.le_of_ble_eq_true rfl, Nat.le_of_ble_eq_true rfl⟩ trivial cv3 rfl (Nat.le_of_ble_eq_true rfl) hq5 (by decide) (fun c5 => ?_)
      have c5 : in32 _ := c5
      refine r_if_eq C dX0_fell_148 (tgt := 157) (by decide) c5 (fun n6 => ?_) (fun n6 => ?_)
      · have hf := ite_p n6 hf
        exact G.mask [false, true, false, true, true, false, false] rfl rfl (b_X0_fell_157 C hr L120 cv3 cv4 hf)
      · have hf := ite_n n6 hf
        refine r_aload_n C dX0_fell_151 rfl ?_
        refine r_iload C dX0_fell_152 rfl ?_
        obtain ⟨p7, hf⟩ := gk_s hf
        obtain ⟨r7, h7, hq7, hf⟩ := bd_s hf
        refine r_cV1v C (am_X5_mark (gl g) n) cm_X5_mark w_1223 dX0_fell_154 ⟨Nat.le_of_ble_eq_true rfl, Nat.le_of_ble_eq_true rfl⟩ p7 rfl cv4 rfl (Nat.le_of_ble_eq_true rfl) hq7 ?_
        exact G.mask [false, true, false, true, true, false, false] rfl rfl (b_X0_fell_157 C hr L120 cv3 cv4 hf)
set_option maxRecDepth 20000 in
theorem l_X0_fell_120 {g : GT} {Z : Int × MM} {n : Nat} (C : Cx g cX0_fell 7 yX0_fell 2 44) (hr : Rt g (some .int) 0 Z) {v1 v3 : Int}   (cv3 : in32 v3) : ∀ (k : Nat) (v4 : Int) (h : MM), in32 v4 → f_X0_fell_120 n  v1 v3 k v4 h = some Z → G g 120 [(3, 0), (2, v1), (3, 0), (0, v3), (0, v4), (3, 0), (3, 0)] [] h := by
  intro k
  induction k with
  | zero => intro v4 h cv4 hf; exact absurd hf (by intro z; cases z)
  | succ k ih => intro v4 h cv4 hf; exact b_X0_fell_120b C hr (rec120 := f_X0_fell_120 n  v1 v3 k)  ih cv3 cv4 (show f_X0_fell_120b n  (f_X0_fell_120 n  v1 v3 k) v1 v3 v4 h = some Z from hf)
set_option maxRecDepth 20000 in
theorem b_X0_fell_111 {g : GT} {Z : Int × MM} {n : Nat} (C : Cx g cX0_fell 7 yX0_fell 2 44) (hr : Rt g (some .int) 0 Z) {v0 v1 v2 v3 v4 : Int}  {rec47 : Int → MM → RR} (L47 : ∀ (u4 : Int) (h : MM), in32 u4 → rec47 u4 h = some Z → G g 47 [(2, v0), (2, v1), (2, v2), (0, v3), (0, u4), (3, 0), (3, 0)] [] h) (cv3 : in32 v3) (cv4 : in32 v4) {h : MM} (hf : f_X0_fell_111 n rec47 v0 v1 v2 v3 v4 h = some Z) : G g 111 [(2, v0), (2, v1), (2, v2), (0, v3), (0, v4), (3, 0), (3, 0)] [] h := by
  unfold f_X0_fell_111 at hf
  obtain ⟨x1, e1, hf⟩ := lb_s hf
  have c1 : in32 x1 := by rw [e1]; exact (in32_t _)
  refine r_iincL C dX0_fell_111 rfl e1 (Nat.le_of_ble_eq_true rfl) rfl ?_
  refine r_goto C dX0_fell_114 (tgt := 47) (by decide) ?_
  exact G.mask [true, true, true, true, true, false, false] rfl rfl (L47 _ _ c1 hf)
set_option maxRecDepth 20000 in
theorem b_X0_fell_47b {g : GT} {Z : Int × MM} {n : Nat} (C : Cx g cX0_fell 7 yX0_fell 2 44) (hr : Rt g (some .int) 0 Z) {v0 v1 v2 v3 v4 : Int}  {rec47 : Int → MM → RR} (L47 : ∀ (u4 : Int) (h : MM), in32 u4 → rec47 u4 h = some Z → G g 47 [(2, v0), (2, v1), (2, v2), (0, v3), (0, u4), (3, 0), (3, 0)] [] h) (cv3 : in32 v3) (cv4 : in32 v4) {h : MM} (hf : f_X0_fell_47b n rec47 v0 v1 v2 v3 v4 h = some Z) : G g 47 [(2, v0), (2, v1), (2, v2), (0, v3), (0, v4), (3, 0), (3, 0)] [] h := by
  unfold f_X0_fell_47b at hf
  refine r_iload C dX0_fell_47 rfl ?_
  refine r_aload_n C dX0_fell_49 rfl ?_
  obtain ⟨q1, hf⟩ := gf_s hf
  refine r_gf C ct0 (j := 0) (ji := 0) dX0_fell_50 q1 rfl rfl (by decide) w_389 rfl (fun c1 => ?_)
  obtain ⟨q2, hf⟩ := al_s hf
  refine r_alen C (tn := 100) dX0_fell_53 q2 rfl (by decide) (fun c2 _ => ?_)
  refine r_icmp_ge C dX0_fell_54 (tgt := 117) (by decide) cv4 c2 (fun n3 => ?_) (fun n3 => ?_)
  · have hf := ite_p n3 hf
    refine r_iconst C dX0_fell_117 ?_
    refine r_istore C dX0_fell_118 (Nat.le_of_ble_eq_true rfl) rfl ?_
    exact G.mask [false, true, false, true, true, false, false] rfl rfl (l_X0_fell_120 C hr  cv3 _ _ _ (in32_of rfl) hf)
  · have hf := ite_n n3 hf
    refine r_iload C dX0_fell_57 rfl ?_
    refine r_bipush C dX0_fell_59 rfl ?_
    refine r_idiv C dX0_fell_61 (in32_of rfl) (by decide) ?_
    obtain ⟨x4, e4, hf⟩ := lb_s hf
    have c4 : in32 x4 := by rw [e4]; exact (in32_t _)
    refine r_istoreL C dX0_fell_62 e4 (Nat.le_of_ble_eq_true rfl) rfl ?_
    refine r_iload C dX0_fell_64 rfl ?_
    refine r_bipush C dX0_fell_66 rfl ?_
    refine r_irem C dX0_fell_68 (in32_of rfl) (by decide) ?_
    obtain ⟨x5, e5, hf⟩ := lb_s hf
    have c5 : in32 x5 := by rw [e5]; exact (in32_t _)
    refine r_istoreL C dX0_fell_69 e5 (Nat.le_of_ble_eq_true rfl) rfl ?_
    refine r_iload_n C dX0_fell_71 rfl ?_
    refine r_iload C dX0_fell_72 rfl ?_
    refine r_ishr C dX0_fell_74 ?_
    refine r_iconst C dX0_fell_75 ?_
    refine r_iand C dX0_fell_76 ?_
    refine r_if_eq C dX0_fell_77 (tgt := 111) (by decide) (in32_t _) (fun n6 => ?_) (fun n6 => ?_)
    · have hf := ite_p n6 hf
      exact G.mask [true, true, true, true, true, false, false] rfl rfl (b_X0_fell_111 C hr L47 cv3 cv4 hf)
    · have hf := ite_n n6 hf
      refine r_aload_n C dX0_fell_80 rfl ?_
      obtain ⟨q7, hf⟩ := gf_s hf
      refine r_gf C ct0 (j := 0) (ji := 0) dX0_fell_81 q7 rfl rfl (by decide) w_389 rfl (fun c7 => ?_)
      refine r_iload C dX0_fell_84 rfl ?_
      obtain ⟨q8, hf⟩ := rd_s hf
      refine r_iald C dX0_fell_86 q8 rfl (fun c8 => ?_)
      refine r_if_ne C dX0_fell_87 (tgt := 93) (by decide) c8 (fun n9 => ?_) (fun n9 => ?_)
      · have hf := ite_n n9 hf
        refine r_aload_n C dX0_fell_93 rfl ?_
        refine r_iload C dX0_fell_94 rfl ?_
        refine r_iload C dX0_fell_96 rfl ?_
        refine r_bipush C dX0_fell_98 rfl ?_
        refine r_aload_n C dX0_fell_100 rfl ?_
        refine r_iload C dX0_fell_101 rfl ?_
        refine r_iload C dX0_fell_103 rfl ?_
        obtain ⟨p10, hf⟩ := gk_s hf
        obtain ⟨r10, h10, hq10, hf⟩ := bd_s hf
        refine r_cV2 C (am_X8_sharesOf (gl g) n) cm_X8_sharesOf w_1187 dX0_fell_105 ⟨Nat.le_of_ble_eq_true rfl, Nat.le_of_ble_eq_true rfl⟩ p10 rfl c5 c4 rfl (Nat.le_of_ble_eq_true rfl) hq10 (by decide) (fun c10 => ?_)
        have c10 : in32 _ := c10
        obtain ⟨p11, hf⟩ := gk_s hf
        obtain ⟨r11, h11, hq11, hf⟩ := bd_s hf
        refine r_cV4v C (am_X8_pass (gl g) n) cm_X8_pass w_1219 dX0_fell_108 ⟨Nat.le_of_ble_eq_true rfl, Nat.le_of_ble_eq_true rfl⟩ p11 rfl c5 c4 (in32_of rfl) c10 rfl (Nat.le_of_ble_eq_true rfl) hq11 ?_
        exact G.mask [true, true, true, true, true, false, false] rfl rfl (b_X0_fell_111 C hr L47 cv3 cv4 hf)
      · have hf := ite_p n9 hf
        refine r_goto C dX0_fell_90 (tgt := 111) (by decide) ?_
        exact G.mask [true, true, true, true, true, false, false] rfl rfl (b_X0_fell_111 C hr L47 cv3 cv4 hf)
set_option maxRecDepth 20000 in
theorem l_X0_fell_47 {g : GT} {Z : Int × MM} {n : Nat} (C : Cx g cX0_fell 7 yX0_fell 2 44) (hr : Rt g (some .int) 0 Z) {v0 v1 v2 v3 : Int}   (cv3 : in32 v3) : ∀ (k : Nat) (v4 : Int) (h : MM), in32 v4 → f_X0_fell_47 n  v0 v1 v2 v3 k v4 h = some Z → G g 47 [(2, v0), (2, v1), (2, v2), (0, v3), (0, v4), (3, 0), (3, 0)] [] h := by
  intro k
  induction k with
  | zero => intro v4 h cv4 hf; exact absurd hf (by intro z; cases z)
  | succ k ih => intro v4 h cv4 hf; exact b_X0_fell_47b C hr (rec47 := f_X0_fell_47 n  v0 v1 v2 v3 k)  ih cv3 cv4 (show f_X0_fell_47b n  (f_X0_fell_47 n  v0 v1 v2 v3 k) v0 v1 v2 v3 v4 h = some Z from hf)
set_option maxRecDepth 20000 in
theorem b_X0_fell_38 {g : GT} {Z : Int × MM} {n : Nat} (C : Cx g cX0_fell 7 yX0_fell 2 44) (hr : Rt g (some .int) 0 Z) {v0 v1 v2 v3 v4 : Int}  {rec5 : Int → Int → MM → RR} (L5 : ∀ (u3 u4 : Int) (h : MM), in32 u3 → in32 u4 → rec5 u3 u4 h = some Z → G g 5 [(2, v0), (2, v1), (2, v2), (0, u3), (0, u4), (3, 0), (3, 0)] [] h) (cv3 : in32 v3) (cv4 : in32 v4) {h : MM} (hf : f_X0_fell_38 n rec5 v0 v1 v2 v3 v4 h = some Z) : G g 38 [(2, v0), (2, v1), (2, v2), (0, v3), (0, v4), (3, 0), (3, 0)] [] h := by
  unfold f_X0_fell_38 at hf
  obtain ⟨x1, e1, hf⟩ := lb_s hf
  have c1 : in32 x1 := by rw [e1]; exact (in32_t _)
  refine r_iincL C dX0_fell_38 rfl e1 (Nat.le_of_ble_eq_true rfl) rfl ?_
  refine r_goto C dX0_fell_41 (tgt := 5) (by decide) ?_
  exact G.mask [true, true, true, true, true, false, false] rfl rfl (L5 _ _ _ cv3 c1 hf)
set_option maxRecDepth 20000 in
theorem b_X0_fell_5b {g : GT} {Z : Int × MM} {n : Nat} (C : Cx g cX0_fell 7 yX0_fell 2 44) (hr : Rt g (some .int) 0 Z) {v0 v1 v2 v3 v4 : Int}  {rec5 : Int → Int → MM → RR} (L5 : ∀ (u3 u4 : Int) (h : MM), in32 u3 → in32 u4 → rec5 u3 u4 h = some Z → G g 5 [(2, v0), (2, v1), (2, v2), (0, u3), (0, u4), (3, 0), (3, 0)] [] h) (cv3 : in32 v3) (cv4 : in32 v4) {h : MM} (hf : f_X0_fell_5b n rec5 v0 v1 v2 v3 v4 h = some Z) : G g 5 [(2, v0), (2, v1), (2, v2), (0, v3), (0, v4), (3, 0), (3, 0)] [] h := by
  unfold f_X0_fell_5b at hf
  refine r_iload C dX0_fell_5 rfl ?_
  refine r_aload_n C dX0_fell_7 rfl ?_
  obtain ⟨q1, hf⟩ := gf_s hf
  refine r_gf C ct0 (j := 4) (ji := 4) dX0_fell_8 q1 rfl rfl (by decide) w_393 rfl (fun c1 => ?_)
  obtain ⟨q2, hf⟩ := al_s hf
  refine r_alen C (tn := 100) dX0_fell_11 q2 rfl (by decide) (fun c2 _ => ?_)
  refine r_icmp_ge C dX0_fell_12 (tgt := 44) (by decide) cv4 c2 (fun n3 => ?_) (fun n3 => ?_)
  · have hf := ite_p n3 hf
    refine r_iconst C dX0_fell_44 ?_
    refine r_istore C dX0_fell_45 (Nat.le_of_ble_eq_true rfl) rfl ?_
    exact G.mask [true, true, true, true, true, false, false] rfl rfl (l_X0_fell_47 C hr  cv3 _ _ _ (in32_of rfl) hf)
  · have hf := ite_n n3 hf
    refine r_aload_n C dX0_fell_15 rfl ?_
    refine r_iload C dX0_fell_16 rfl ?_
    obtain ⟨p4, hf⟩ := gk_s hf
    obtain ⟨r4, h4, hq4, hf⟩ := bd_s hf
    refine r_cV1 C (am_X0_paidBy (gl g) n) cm_X0_paidBy w_1215 dX0_fell_18 ⟨Nat.le_of_ble_eq_true rfl, Nat.le_of_ble_eq_true rfl⟩ p4 rfl cv4 rfl (Nat.le_of_ble_eq_true rfl) hq4 (by decide) (fun c4 => ?_)
    have c4 : in32 _ := c4
    refine r_aload_n C dX0_fell_21 rfl ?_
    obtain ⟨q5, hf⟩ := gf_s hf
    refine r_gf C ct0 (j := 4) (ji := 4) dX0_fell_22 q5 rfl rfl (by decide) w_393 rfl (fun c5 => ?_)
    refine r_iload C dX0_fell_25 rfl ?_
    obtain ⟨q6, hf⟩ := rd_s hf
    refine r_iald C dX0_fell_27 q6 rfl (fun c6 => ?_)
    refine r_icmp_ge C dX0_fell_28 (tgt := 38) (by decide) c4 c6 (fun n7 => ?_) (fun n7 => ?_)
    · have hf := ite_p n7 hf
      exact G.mask [true, true, true, true, true, false, false] rfl rfl (b_X0_fell_38 C hr L5 cv3 cv4 hf)
    · have hf := ite_n n7 hf
      refine r_iload_n C dX0_fell_31 rfl ?_
      refine r_iconst C dX0_fell_32 ?_
      refine r_iload C dX0_fell_33 rfl ?_
      refine r_ishl C dX0_fell_35 ?_
      refine r_ior C dX0_fell_36 ?_
      obtain ⟨x8, e8, hf⟩ := lb_s hf
      have c8 : in32 x8 := by rw [e8]; exact (in32_t _)
      refine r_istore_nL C dX0_fell_37 e8 (Nat.le_of_ble_eq_true rfl) rfl ?_
      exact G.mask [true, true, true, true, true, false, false] rfl rfl (b_X0_fell_38 C hr L5 c8 cv4 hf)
set_option maxRecDepth 20000 in
theorem l_X0_fell_5 {g : GT} {Z : Int × MM} {n : Nat} (C : Cx g cX0_fell 7 yX0_fell 2 44) (hr : Rt g (some .int) 0 Z) {v0 v1 v2 : Int}    : ∀ (k : Nat) (v3 v4 : Int) (h : MM), in32 v3 → in32 v4 → f_X0_fell_5 n  v0 v1 v2 k v3 v4 h = some Z → G g 5 [(2, v0), (2, v1), (2, v2), (0, v3), (0, v4), (3, 0), (3, 0)] [] h := by
  intro k
  induction k with
  | zero => intro v3 v4 h cv3 cv4 hf; exact absurd hf (by intro z; cases z)
  | succ k ih => intro v3 v4 h cv3 cv4 hf; exact b_X0_fell_5b C hr (rec5 := f_X0_fell_5 n  v0 v1 v2 k)  ih cv3 cv4 (show f_X0_fell_5b n  (f_X0_fell_5 n  v0 v1 v2 k) v0 v1 v2 v3 v4 h = some Z from hf)
set_option maxRecDepth 20000 in
theorem e_X0_fell {g : GT} {Z : Int × MM} {n : Nat} (C : Cx g cX0_fell 7 yX0_fell 2 44) (hr : Rt g (some .int) 0 Z) {v0 v1 v2 : Int} (cv0 : cK 2 v0) (cv1 : cK 2 v1) (cv2 : cK 2 v2) {h : MM} (hf : f_X0_fell n v0 v1 v2 h = some Z) : G g 0 [(2, v0), (2, v1), (2, v2), (3, 0), (3, 0), (3, 0), (3, 0)] [] h := by
  unfold f_X0_fell at hf
  refine r_iconst C dX0_fell_0 ?_
  refine r_istore_n C dX0_fell_1 (Nat.le_of_ble_eq_true rfl) rfl ?_
  refine r_iconst C dX0_fell_2 ?_
  refine r_istore C dX0_fell_3 (Nat.le_of_ble_eq_true rfl) rfl ?_
  exact G.mask [true, true, true, true, true, false, false] rfl rfl (l_X0_fell_5 C hr   _ _ _ _ (in32_of rfl) (in32_of rfl) hf)
set_option maxRecDepth 20000 in
theorem am_X0_fell (l : Launch) (n : Nat) : AM l yX0_fell cX0_fell 7 (some .int) 2 44 [2, 2, 2] 0 (un3 (f_X0_fell n)) := by
  refine AM.intro (by decide) (fun xs hx => ?_) (fun g xs h Z hl C hr hx hf => ?_)
  · obtain ⟨a0, a1, a2, rfl, c0, c1, c2⟩ := canL_3 hx
    exact Nat.le_of_ble_eq_true rfl
  · obtain ⟨a0, a1, a2, rfl, c0, c1, c2⟩ := canL_3 hx
    have hf := (un3_e _ a0 a1 a2 _).symm.trans hf
    exact e_X0_fell (n := n) C hr c0 c1 c2 hf
/-! LinesPromised.settle()I -/
theorem dX11_settle_0 : decode cX11_settle 0 = .ok (.aload_n 0, 1) := by decide +kernel
theorem dX11_settle_1 : decode cX11_settle 1 = .ok (.getfield 35, 3) := by decide +kernel
theorem dX11_settle_4 : decode cX11_settle 4 = .ok (.aload_n 0, 1) := by decide +kernel
theorem dX11_settle_5 : decode cX11_settle 5 = .ok (.getfield 10, 3) := by decide +kernel
theorem dX11_settle_8 : decode cX11_settle 8 = .ok (.getfield 133, 3) := by decide +kernel
theorem dX11_settle_11 : decode cX11_settle 11 = .ok (.aload_n 0, 1) := by decide +kernel
theorem dX11_settle_12 : decode cX11_settle 12 = .ok (.getfield 10, 3) := by decide +kernel
theorem dX11_settle_15 : decode cX11_settle 15 = .ok (.getfield 78, 3) := by decide +kernel
theorem dX11_settle_18 : decode cX11_settle 18 = .ok (.invokevirtual 346, 3) := by decide +kernel
theorem dX11_settle_21 : decode cX11_settle 21 = .ok (.aload_n 0, 1) := by decide +kernel
theorem dX11_settle_22 : decode cX11_settle 22 = .ok (.getfield 35, 3) := by decide +kernel
theorem dX11_settle_25 : decode cX11_settle 25 = .ok (.aload_n 0, 1) := by decide +kernel
theorem dX11_settle_26 : decode cX11_settle 26 = .ok (.getfield 10, 3) := by decide +kernel
theorem dX11_settle_29 : decode cX11_settle 29 = .ok (.getfield 78, 3) := by decide +kernel
theorem dX11_settle_32 : decode cX11_settle 32 = .ok (.invokevirtual 350, 3) := by decide +kernel
theorem dX11_settle_35 : decode cX11_settle 35 = .ok (.aload_n 0, 1) := by decide +kernel
theorem dX11_settle_36 : decode cX11_settle 36 = .ok (.getfield 35, 3) := by decide +kernel
theorem dX11_settle_39 : decode cX11_settle 39 = .ok (.aload_n 0, 1) := by decide +kernel
theorem dX11_settle_40 : decode cX11_settle 40 = .ok (.getfield 10, 3) := by decide +kernel
theorem dX11_settle_43 : decode cX11_settle 43 = .ok (.getfield 133, 3) := by decide +kernel
theorem dX11_settle_46 : decode cX11_settle 46 = .ok (.aload_n 0, 1) := by decide +kernel
theorem dX11_settle_47 : decode cX11_settle 47 = .ok (.getfield 10, 3) := by decide +kernel
theorem dX11_settle_50 : decode cX11_settle 50 = .ok (.getfield 78, 3) := by decide +kernel
theorem dX11_settle_53 : decode cX11_settle 53 = .ok (.invokevirtual 354, 3) := by decide +kernel
theorem dX11_settle_56 : decode cX11_settle 56 = .ok (.ireturn, 1) := by decide +kernel
theorem cm_X11_settle : CM yX11_settle cX11_settle 1 (some .int) 0 11 := ⟨w_1173, w_1174, w_1175, w_87, ⟨by decide +kernel, by decide +kernel, by decide +kernel⟩, ⟨_, _, rfl⟩, by decide⟩
noncomputable def f_X11_settle (n : Nat) (v0 : Int) (h : MM) : RR :=
  gf h v0 11 5 fun r1 =>
  gf h v0 11 0 fun r2 =>
  gf h r2 10 1 fun r3 =>
  gf h v0 11 0 fun r4 =>
  gf h r4 10 2 fun r5 =>
  gk h r1 0 <|
  bd (f_X0_reckon n r1 r3 r5 h) fun r6 h6 =>
  gf h6 v0 11 5 fun r7 =>
  gf h6 v0 11 0 fun r8 =>
  gf h6 r8 10 2 fun r9 =>
  gk h6 r7 0 <|
  bd (f_X0_payOut n r7 r9 h6) fun r10 h10 =>
  gf h10 v0 11 5 fun r11 =>
  gf h10 v0 11 0 fun r12 =>
  gf h10 r12 10 1 fun r13 =>
  gf h10 v0 11 0 fun r14 =>
  gf h10 r14 10 2 fun r15 =>
  gk h10 r11 0 <|
  bd (f_X0_fell n r11 r13 r15 h10) fun r16 h16 =>
  some (r16, h16)
set_option maxRecDepth 20000 in
theorem e_X11_settle {g : GT} {Z : Int × MM} {n : Nat} (C : Cx g cX11_settle 1 yX11_settle 4 100) (hr : Rt g (some .int) 0 Z) {v0 : Int} (cv0 : cK 2 v0) {h : MM} (hf : f_X11_settle n v0 h = some Z) : G g 0 [(2, v0)] [] h := by
  unfold f_X11_settle at hf
  refine r_aload_n C dX11_settle_0 rfl ?_
  obtain ⟨q1, hf⟩ := gf_s hf
  refine r_gf C ct11 (j := 5) (ji := 5) dX11_settle_1 q1 rfl rfl (by decide) w_445 rfl (fun c1 => ?_)
  refine r_aload_n C dX11_settle_4 rfl ?_
  obtain ⟨q2, hf⟩ := gf_s hf
  refine r_gf C ct11 (j := 0) (ji := 0) dX11_settle_5 q2 rfl rfl (by decide) w_440 rfl (fun c2 => ?_)
  obtain ⟨q3, hf⟩ := gf_s hf
  refine r_gf C ct10 (j := 1) (ji := 1) dX11_settle_8 q3 rfl rfl (by decide) w_302 rfl (fun c3 => ?_)
  refine r_aload_n C dX11_settle_11 rfl ?_
  obtain ⟨q4, hf⟩ := gf_s hf
  refine r_gf C ct11 (j := 0) (ji := 0) dX11_settle_12 q4 rfl rfl (by decide) w_440 rfl (fun c4 => ?_)
  obtain ⟨q5, hf⟩ := gf_s hf
  refine r_gf C ct10 (j := 2) (ji := 2) dX11_settle_15 q5 rfl rfl (by decide) w_304 rfl (fun c5 => ?_)
  obtain ⟨p6, hf⟩ := gk_s hf
  obtain ⟨r6, h6, hq6, hf⟩ := bd_s hf
  refine r_cV2v C (am_X0_reckon (gl g) n) cm_X0_reckon w_1176 dX11_settle_18 ⟨Nat.le_of_ble_eq_true rfl, Nat.le_of_ble_eq_true rfl⟩ p6 rfl trivial trivial rfl (Nat.le_of_ble_eq_true rfl) hq6 ?_
  refine r_aload_n C dX11_settle_21 rfl ?_
  obtain ⟨q7, hf⟩ := gf_s hf
  refine r_gf C ct11 (j := 5) (ji := 5) dX11_settle_22 q7 rfl rfl (by decide) w_445 rfl (fun c7 => ?_)
  refine r_aload_n C dX11_settle_25 rfl ?_
  obtain ⟨q8, hf⟩ := gf_s hf
  refine r_gf C ct11 (j := 0) (ji := 0) dX11_settle_26 q8 rfl rfl (by decide) w_440 rfl (fun c8 => ?_)
  obtain ⟨q9, hf⟩ := gf_s hf
  refine r_gf C ct10 (j := 2) (ji := 2) dX11_settle_29 q9 rfl rfl (by decide) w_304 rfl (fun c9 => ?_)
  obtain ⟨p10, hf⟩ := gk_s hf
  obtain ⟨r10, h10, hq10, hf⟩ := bd_s hf
  refine r_cV1v C (am_X0_payOut (gl g) n) cm_X0_payOut w_1207 dX11_settle_32 ⟨Nat.le_of_ble_eq_true rfl, Nat.le_of_ble_eq_true rfl⟩ p10 rfl trivial rfl (Nat.le_of_ble_eq_true rfl) hq10 ?_
  refine r_aload_n C dX11_settle_35 rfl ?_
  obtain ⟨q11, hf⟩ := gf_s hf
  refine r_gf C ct11 (j := 5) (ji := 5) dX11_settle_36 q11 rfl rfl (by decide) w_445 rfl (fun c11 => ?_)
  refine r_aload_n C dX11_settle_39 rfl ?_
  obtain ⟨q12, hf⟩ := gf_s hf
  refine r_gf C ct11 (j := 0) (ji := 0) dX11_settle_40 q12 rfl rfl (by decide) w_440 rfl (fun c12 => ?_)
  obtain ⟨q13, hf⟩ := gf_s hf
  refine r_gf C ct10 (j := 1) (ji := 1) dX11_settle_43 q13 rfl rfl (by decide) w_302 rfl (fun c13 => ?_)
  refine r_aload_n C dX11_settle_46 rfl ?_
  obtain ⟨q14, hf⟩ := gf_s hf
  refine r_gf C ct11 (j := 0) (ji := 0) dX11_settle_47 q14 rfl rfl (by decide) w_440 rfl (fun c14 => ?_)
  obtain ⟨q15, hf⟩ := gf_s hf
  refine r_gf C ct10 (j := 2) (ji := 2) dX11_settle_50 q15 rfl rfl (by decide) w_304 rfl (fun c15 => ?_)
  obtain ⟨p16, hf⟩ := gk_s hf
  obtain ⟨r16, h16, hq16, hf⟩ := bd_s hf
  refine r_cV2 C (am_X0_fell (gl g) n) cm_X0_fell w_1211 dX11_settle_53 ⟨Nat.le_of_ble_eq_true rfl, Nat.le_of_ble_eq_true rfl⟩ p16 rfl trivial trivial rfl (Nat.le_of_ble_eq_true rfl) hq16 (by decide) (fun c16 => ?_)
  have c16 : in32 _ := c16
  cases hf
  exact r_jret C hr dX11_settle_56 c16
set_option maxRecDepth 20000 in
theorem am_X11_settle (l : Launch) (n : Nat) : AM l yX11_settle cX11_settle 1 (some .int) 4 100 [2] 0 (un1 (f_X11_settle n)) := by
  refine AM.intro (by decide) (fun xs hx => ?_) (fun g xs h Z hl C hr hx hf => ?_)
  · obtain ⟨a0, rfl, c0⟩ := canL_1 hx
    exact Nat.le_of_ble_eq_true rfl
  · obtain ⟨a0, rfl, c0⟩ := canL_1 hx
    have hf := (un1_e _ a0 _).symm.trans hf
    exact e_X11_settle (n := n) C hr c0 hf
/-! LinesPromised.along(II)I -/
theorem dX11_along_0 : decode cX11_along 0 = .ok (.aload_n 0, 1) := by decide +kernel
theorem dX11_along_1 : decode cX11_along 1 = .ok (.iload_n 1, 1) := by decide +kernel
theorem dX11_along_2 : decode cX11_along 2 = .ok (.iload_n 2, 1) := by decide +kernel
theorem dX11_along_3 : decode cX11_along 3 = .ok (.invokevirtual 327, 3) := by decide +kernel
theorem dX11_along_6 : decode cX11_along 6 = .ok (.istore_n 3, 1) := by decide +kernel
theorem dX11_along_7 : decode cX11_along 7 = .ok (.iload_n 3, 1) := by decide +kernel
theorem dX11_along_8 : decode cX11_along 8 = .ok (.iconst (-1), 1) := by decide +kernel
theorem dX11_along_9 : decode cX11_along 9 = .ok (.if_icmp .ne 5, 3) := by decide +kernel
theorem dX11_along_12 : decode cX11_along 12 = .ok (.iconst (-1), 1) := by decide +kernel
theorem dX11_along_13 : decode cX11_along 13 = .ok (.ireturn, 1) := by decide +kernel
theorem dX11_along_14 : decode cX11_along 14 = .ok (.aload_n 0, 1) := by decide +kernel
theorem dX11_along_15 : decode cX11_along 15 = .ok (.getfield 35, 3) := by decide +kernel
theorem dX11_along_18 : decode cX11_along 18 = .ok (.aload_n 0, 1) := by decide +kernel
theorem dX11_along_19 : decode cX11_along 19 = .ok (.getfield 10, 3) := by decide +kernel
theorem dX11_along_22 : decode cX11_along 22 = .ok (.getfield 133, 3) := by decide +kernel
theorem dX11_along_25 : decode cX11_along 25 = .ok (.aload_n 0, 1) := by decide +kernel
theorem dX11_along_26 : decode cX11_along 26 = .ok (.getfield 10, 3) := by decide +kernel
theorem dX11_along_29 : decode cX11_along 29 = .ok (.getfield 78, 3) := by decide +kernel
theorem dX11_along_32 : decode cX11_along 32 = .ok (.invokevirtual 346, 3) := by decide +kernel
theorem dX11_along_35 : decode cX11_along 35 = .ok (.aload_n 0, 1) := by decide +kernel
theorem dX11_along_36 : decode cX11_along 36 = .ok (.getfield 35, 3) := by decide +kernel
theorem dX11_along_39 : decode cX11_along 39 = .ok (.iload_n 3, 1) := by decide +kernel
theorem dX11_along_40 : decode cX11_along 40 = .ok (.invokevirtual 358, 3) := by decide +kernel
theorem dX11_along_43 : decode cX11_along 43 = .ok (.ireturn, 1) := by decide +kernel
theorem cm_X11_along : CM yX11_along cX11_along 4 (some .int) 2 11 := ⟨w_1225, w_1226, w_1227, w_87, ⟨by decide +kernel, by decide +kernel, by decide +kernel⟩, ⟨_, _, rfl⟩, by decide⟩
noncomputable def f_X11_along (n : Nat) (v0 v1 v2 : Int) (h : MM) : RR :=
  gk h v0 11 <|
  bd (f_X11_partyOf n v0 v1 v2 h) fun r1 h1 =>
  if r1 = (-1) then
    some ((-1), h1)
  else
  gf h1 v0 11 5 fun r3 =>
  gf h1 v0 11 0 fun r4 =>
  gf h1 r4 10 1 fun r5 =>
  gf h1 v0 11 0 fun r6 =>
  gf h1 r6 10 2 fun r7 =>
  gk h1 r3 0 <|
  bd (f_X0_reckon n r3 r5 r7 h1) fun r8 h8 =>
  gf h8 v0 11 5 fun r9 =>
  gk h8 r9 0 <|
  bd (f_X0_paidBy n r9 r1 h8) fun r10 h10 =>
  some (r10, h10)
set_option maxRecDepth 20000 in
theorem e_X11_along {g : GT} {Z : Int × MM} {n : Nat} (C : Cx g cX11_along 4 yX11_along 4 100) (hr : Rt g (some .int) 0 Z) {v0 v1 v2 : Int} (cv0 : cK 2 v0) (cv1 : cK 0 v1) (cv2 : cK 0 v2) {h : MM} (hf : f_X11_along n v0 v1 v2 h = some Z) : G g 0 [(2, v0), (0, v1), (0, v2), (3, 0)] [] h := by
  have cv1 : in32 v1 := cv1
  have cv2 : in32 v2 := cv2
  unfold f_X11_along at hf
  refine r_aload_n C dX11_along_0 rfl ?_
  refine r_iload_n C dX11_along_1 rfl ?_
  refine r_iload_n C dX11_along_2 rfl ?_
  obtain ⟨p1, hf⟩ := gk_s hf
  obtain ⟨r1, h1, hq1, hf⟩ := bd_s hf
  refine r_cV2 C (am_X11_partyOf (gl g) n) cm_X11_partyOf w_1113 dX11_along_3 ⟨Nat.le_of_ble_eq_true rfl, Nat.le_of_ble_eq_true rfl⟩ p1 rfl cv1 cv2 rfl (Nat.le_of_ble_eq_true rfl) hq1 (by decide) (fun c1 => ?_)
  have c1 : in32 _ := c1
  refine r_istore_n C dX11_along_6 (Nat.le_of_ble_eq_true rfl) rfl ?_
  refine r_iload_n C dX11_along_7 rfl ?_
  refine r_iconst C dX11_along_8 ?_
  refine r_icmp_ne C dX11_along_9 (tgt := 14) (by decide) c1 (in32_of rfl) (fun n2 => ?_) (fun n2 => ?_)
  · have hf := ite_n n2 hf
    refine r_aload_n C dX11_along_14 rfl ?_
    obtain ⟨q3, hf⟩ := gf_s hf
    refine r_gf C ct11 (j := 5) (ji := 5) dX11_along_15 q3 rfl rfl (by decide) w_445 rfl (fun c3 => ?_)
    refine r_aload_n C dX11_along_18 rfl ?_
    obtain ⟨q4, hf⟩ := gf_s hf
    refine r_gf C ct11 (j := 0) (ji := 0) dX11_along_19 q4 rfl rfl (by decide) w_440 rfl (fun c4 => ?_)
    obtain ⟨q5, hf⟩ := gf_s hf
    refine r_gf C ct10 (j := 1) (ji := 1) dX11_along_22 q5 rfl rfl (by decide) w_302 rfl (fun c5 => ?_)
    refine r_aload_n C dX11_along_25 rfl ?_
    obtain ⟨q6, hf⟩ := gf_s hf
    refine r_gf C ct11 (j := 0) (ji := 0) dX11_along_26 q6 rfl rfl (by decide) w_440 rfl (fun c6 => ?_)
    obtain ⟨q7, hf⟩ := gf_s hf
    refine r_gf C ct10 (j := 2) (ji := 2) dX11_along_29 q7 rfl rfl (by decide) w_304 rfl (fun c7 => ?_)
    obtain ⟨p8, hf⟩ := gk_s hf
    obtain ⟨r8, h8, hq8, hf⟩ := bd_s hf
    refine r_cV2v C (am_X0_reckon (gl g) n) cm_X0_reckon w_1176 dX11_along_32 ⟨Nat.le_of_ble_eq_true rfl, Nat.le_of_ble_eq_true rfl⟩ p8 rfl trivial trivial rfl (Nat.le_of_ble_eq_true rfl) hq8 ?_
    refine r_aload_n C dX11_along_35 rfl ?_
    obtain ⟨q9, hf⟩ := gf_s hf
    refine r_gf C ct11 (j := 5) (ji := 5) dX11_along_36 q9 rfl rfl (by decide) w_445 rfl (fun c9 => ?_)
    refine r_iload_n C dX11_along_39 rfl ?_
    obtain ⟨p10, hf⟩ := gk_s hf
    obtain ⟨r10, h10, hq10, hf⟩ := bd_s hf
    refine r_cV1 C (am_X0_paidBy (gl g) n) cm_X0_paidBy w_1228 dX11_along_40 ⟨Nat.le_of_ble_eq_true rfl, Nat.le_of_ble_eq_true rfl⟩ p10 rfl c1 rfl (Nat.le_of_ble_eq_true rfl) hq10 (by decide) (fun c10 => ?_)
    have c10 : in32 _ := c10
    cases hf
    exact r_jret C hr dX11_along_43 c10
  · have hf := ite_p n2 hf
    refine r_iconst C dX11_along_12 ?_
    cases hf
    exact r_jret C hr dX11_along_13 (in32_of rfl)
set_option maxRecDepth 20000 in
theorem am_X11_along (l : Launch) (n : Nat) : AM l yX11_along cX11_along 4 (some .int) 4 100 [2, 0, 0] 0 (un3 (f_X11_along n)) := by
  refine AM.intro (by decide) (fun xs hx => ?_) (fun g xs h Z hl C hr hx hf => ?_)
  · obtain ⟨a0, a1, a2, rfl, c0, c1, c2⟩ := canL_3 hx
    exact Nat.le_of_ble_eq_true rfl
  · obtain ⟨a0, a1, a2, rfl, c0, c1, c2⟩ := canL_3 hx
    have hf := (un3_e _ a0 a1 a2 _).symm.trans hf
    exact e_X11_along (n := n) C hr c0 c1 c2 hf
