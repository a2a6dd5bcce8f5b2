theorem w_299 : (Cond.fieldLink "LinesPromised$Roads" 22 "LinesPromised$World" "land" "LLinesPromised$Land;") ∈ wG := wG_in 299 (by decide +kernel) (by decide +kernel)
theorem w_907 : (Cond.methodLink "LinesPromised$Roads" 51 ⟨"LinesPromised$Roads", "measure", "(LLinesPromised$Land;)V"⟩) ∈ wG := wG_in 907 (by decide +kernel) (by decide +kernel)
theorem w_355 : (Cond.fieldLink "LinesPromised$Roads" 55 "LinesPromised$Roads" "yards" "I") ∈ wG := wG_in 355 (by decide +kernel) (by decide +kernel)
theorem w_929 : (Cond.methodLink "LinesPromised$Roads" 59 ⟨"LinesPromised$Roads", "walk", "(LLinesPromised$Land;)V"⟩) ∈ wG := wG_in 929 (by decide +kernel) (by decide +kernel)
theorem w_137 : (Cond.fieldLink "LinesPromised$Roads" 28 "LinesPromised$Land" "townCell" "[I") ∈ wG := wG_in 137 (by decide +kernel) (by decide +kernel)
theorem w_906 : (Cond.methodLink "LinesPromised$Roads" 40 ⟨"LinesPromised$World", "ruleOf", "(II)I"⟩) ∈ wG := wG_in 906 (by decide +kernel) (by decide +kernel)
theorem w_905 : (Cond.code ⟨"LinesPromised$Roads", "seek", "(LLinesPromised$World;III)Z"⟩ prog_9_method_2_code 5 (some .boolean)) ∈ wG := wG_in 905 (by decide +kernel) (by decide +kernel)
theorem w_903 : (Cond.instanceMethod ⟨"LinesPromised$Roads", "seek", "(LLinesPromised$World;III)Z"⟩) ∈ wG := wG_in 903 (by decide +kernel) (by decide +kernel)
theorem w_904 : (Cond.selects "LinesPromised$Roads" ⟨"LinesPromised$Roads", "seek", "(LLinesPromised$World;III)Z"⟩ ⟨"LinesPromised$Roads", "seek", "(LLinesPromised$World;III)Z"⟩) ∈ wG := wG_in 904 (by decide +kernel) (by decide +kernel)
theorem w_902 : (Cond.methodLink "LinesPromised" 218 ⟨"LinesPromised$Roads", "seek", "(LLinesPromised$World;III)Z"⟩) ∈ wG := wG_in 902 (by decide +kernel) (by decide +kernel)
theorem w_354 : (Cond.fieldLink "LinesPromised" 225 "LinesPromised$Roads" "size" "I") ∈ wG := wG_in 354 (by decide +kernel) (by decide +kernel)
theorem w_352 : (Cond.fieldLink "LinesPromised" 228 "LinesPromised$Roads" "cells" "[I") ∈ wG := wG_in 352 (by decide +kernel) (by decide +kernel)
theorem w_356 : (Cond.fieldLink "LinesPromised" 222 "LinesPromised$Roads" "yards" "I") ∈ wG := wG_in 356 (by decide +kernel) (by decide +kernel)
theorem w_901 : (Cond.code ⟨"LinesPromised", "slope", "(IIII)I"⟩ prog_1_method_16_code 5 (some .int)) ∈ wG := wG_in 901 (by decide +kernel) (by decide +kernel)
theorem w_899 : (Cond.instanceMethod ⟨"LinesPromised", "slope", "(IIII)I"⟩) ∈ wG := wG_in 899 (by decide +kernel) (by decide +kernel)
theorem w_900 : (Cond.selects "LinesPromised" ⟨"LinesPromised", "slope", "(IIII)I"⟩ ⟨"LinesPromised", "slope", "(IIII)I"⟩) ∈ wG := wG_in 900 (by decide +kernel) (by decide +kernel)
theorem w_135 : (Cond.fieldLink "LinesPromised" 229 "LinesPromised$Land" "claimed" "[I") ∈ wG := wG_in 135 (by decide +kernel) (by decide +kernel)
theorem w_940 : (Cond.code ⟨"LinesPromised", "claim", "(II)I"⟩ prog_1_method_17_code 4 (some .int)) ∈ wG := wG_in 940 (by decide +kernel) (by decide +kernel)
theorem w_938 : (Cond.instanceMethod ⟨"LinesPromised", "claim", "(II)I"⟩) ∈ wG := wG_in 938 (by decide +kernel) (by decide +kernel)
theorem w_939 : (Cond.selects "LinesPromised" ⟨"LinesPromised", "claim", "(II)I"⟩ ⟨"LinesPromised", "claim", "(II)I"⟩) ∈ wG := wG_in 939 (by decide +kernel) (by decide +kernel)
theorem w_949 : (Cond.methodLink "LinesPromised$Papers" 73 ⟨"LinesPromised$Papers", "find", "(II)LLinesPromised$Paper;"⟩) ∈ wG := wG_in 949 (by decide +kernel) (by decide +kernel)
theorem w_718 : (Cond.fieldLink "LinesPromised$Papers" 83 "LinesPromised$Paper" "of" "I") ∈ wG := wG_in 718 (by decide +kernel) (by decide +kernel)
theorem w_948 : (Cond.code ⟨"LinesPromised$Papers", "hasBill", "(I)Z"⟩ prog_7_method_13_code 4 (some .boolean)) ∈ wG := wG_in 948 (by decide +kernel) (by decide +kernel)
theorem w_946 : (Cond.instanceMethod ⟨"LinesPromised$Papers", "hasBill", "(I)Z"⟩) ∈ wG := wG_in 946 (by decide +kernel) (by decide +kernel)
theorem w_947 : (Cond.selects "LinesPromised$Papers" ⟨"LinesPromised$Papers", "hasBill", "(I)Z"⟩ ⟨"LinesPromised$Papers", "hasBill", "(I)Z"⟩) ∈ wG := wG_in 947 (by decide +kernel) (by decide +kernel)
theorem w_958 : (Cond.methodLink "LinesPromised$World" 180 ⟨"LinesPromised$World", "whereNotClose", "(LLinesPromised$Paper;I)I"⟩) ∈ wG := wG_in 958 (by decide +kernel) (by decide +kernel)
theorem w_959 : (Cond.methodLink "LinesPromised$World" 184 ⟨"LinesPromised$World", "whereSteep", "(LLinesPromised$Paper;I)I"⟩) ∈ wG := wG_in 959 (by decide +kernel) (by decide +kernel)
theorem w_957 : (Cond.code ⟨"LinesPromised$World", "isSound", "(LLinesPromised$Paper;)Z"⟩ prog_12_method_12_code 2 (some .boolean)) ∈ wG := wG_in 957 (by decide +kernel) (by decide +kernel)
theorem w_955 : (Cond.instanceMethod ⟨"LinesPromised$World", "isSound", "(LLinesPromised$Paper;)Z"⟩) ∈ wG := wG_in 955 (by decide +kernel) (by decide +kernel)
theorem w_956 : (Cond.selects "LinesPromised$World" ⟨"LinesPromised$World", "isSound", "(LLinesPromised$Paper;)Z"⟩ ⟨"LinesPromised$World", "isSound", "(LLinesPromised$Paper;)Z"⟩) ∈ wG := wG_in 956 (by decide +kernel) (by decide +kernel)
theorem w_954 : (Cond.methodLink "LinesPromised$World" 187 ⟨"LinesPromised$World", "isSound", "(LLinesPromised$Paper;)Z"⟩) ∈ wG := wG_in 954 (by decide +kernel) (by decide +kernel)
theorem w_953 : (Cond.code ⟨"LinesPromised$World", "canBeBrought", "(LLinesPromised$Paper;)Z"⟩ prog_12_method_13_code 2 (some .boolean)) ∈ wG := wG_in 953 (by decide +kernel) (by decide +kernel)
theorem w_951 : (Cond.instanceMethod ⟨"LinesPromised$World", "canBeBrought", "(LLinesPromised$Paper;)Z"⟩) ∈ wG := wG_in 951 (by decide +kernel) (by decide +kernel)
theorem w_952 : (Cond.selects "LinesPromised$World" ⟨"LinesPromised$World", "canBeBrought", "(LLinesPromised$Paper;)Z"⟩ ⟨"LinesPromised$World", "canBeBrought", "(LLinesPromised$Paper;)Z"⟩) ∈ wG := wG_in 952 (by decide +kernel) (by decide +kernel)
theorem w_945 : (Cond.methodLink "LinesPromised" 232 ⟨"LinesPromised$Papers", "hasBill", "(I)Z"⟩) ∈ wG := wG_in 945 (by decide +kernel) (by decide +kernel)
theorem w_950 : (Cond.methodLink "LinesPromised" 235 ⟨"LinesPromised$World", "canBeBrought", "(LLinesPromised$Paper;)Z"⟩) ∈ wG := wG_in 950 (by decide +kernel) (by decide +kernel)
theorem w_734 : (Cond.fieldLink "LinesPromised" 239 "LinesPromised$Paper" "first" "I") ∈ wG := wG_in 734 (by decide +kernel) (by decide +kernel)
theorem w_739 : (Cond.fieldLink "LinesPromised" 242 "LinesPromised$Paper" "second" "I") ∈ wG := wG_in 739 (by decide +kernel) (by decide +kernel)
theorem w_744 : (Cond.fieldLink "LinesPromised" 245 "LinesPromised$Paper" "gauge" "I") ∈ wG := wG_in 744 (by decide +kernel) (by decide +kernel)
theorem w_944 : (Cond.code ⟨"LinesPromised", "bill", "(I)I"⟩ prog_1_method_18_code 4 (some .int)) ∈ wG := wG_in 944 (by decide +kernel) (by decide +kernel)
theorem w_942 : (Cond.instanceMethod ⟨"LinesPromised", "bill", "(I)I"⟩) ∈ wG := wG_in 942 (by decide +kernel) (by decide +kernel)
theorem w_943 : (Cond.selects "LinesPromised" ⟨"LinesPromised", "bill", "(I)I"⟩ ⟨"LinesPromised", "bill", "(I)I"⟩) ∈ wG := wG_in 943 (by decide +kernel) (by decide +kernel)
theorem w_972 : (Cond.code ⟨"LinesPromised$Land", "cellsOf", "([II)I"⟩ prog_3_method_15_code 5 (some .int)) ∈ wG := wG_in 972 (by decide +kernel) (by decide +kernel)
theorem w_970 : (Cond.instanceMethod ⟨"LinesPromised$Land", "cellsOf", "([II)I"⟩) ∈ wG := wG_in 970 (by decide +kernel) (by decide +kernel)
theorem w_971 : (Cond.selects "LinesPromised$Land" ⟨"LinesPromised$Land", "cellsOf", "([II)I"⟩ ⟨"LinesPromised$Land", "cellsOf", "([II)I"⟩) ∈ wG := wG_in 971 (by decide +kernel) (by decide +kernel)
theorem w_976 : (Cond.code ⟨"LinesPromised$Land", "claimsOf", "([I)I"⟩ prog_3_method_14_code 4 (some .int)) ∈ wG := wG_in 976 (by decide +kernel) (by decide +kernel)
theorem w_974 : (Cond.instanceMethod ⟨"LinesPromised$Land", "claimsOf", "([I)I"⟩) ∈ wG := wG_in 974 (by decide +kernel) (by decide +kernel)
theorem w_975 : (Cond.selects "LinesPromised$Land" ⟨"LinesPromised$Land", "claimsOf", "([I)I"⟩ ⟨"LinesPromised$Land", "claimsOf", "([I)I"⟩) ∈ wG := wG_in 975 (by decide +kernel) (by decide +kernel)
theorem w_980 : (Cond.code ⟨"LinesPromised$Order", "lets", "()Z"⟩ prog_5_method_3_code 1 (some .boolean)) ∈ wG := wG_in 980 (by decide +kernel) (by decide +kernel)
theorem w_978 : (Cond.instanceMethod ⟨"LinesPromised$Order", "lets", "()Z"⟩) ∈ wG := wG_in 978 (by decide +kernel) (by decide +kernel)
theorem w_979 : (Cond.selects "LinesPromised$Order" ⟨"LinesPromised$Order", "lets", "()Z"⟩ ⟨"LinesPromised$Order", "lets", "()Z"⟩) ∈ wG := wG_in 979 (by decide +kernel) (by decide +kernel)
theorem w_541 : (Cond.fieldLink "LinesPromised$World" 191 "LinesPromised$Order" "facts" "[I") ∈ wG := wG_in 541 (by decide +kernel) (by decide +kernel)
theorem w_968 : (Cond.methodLink "LinesPromised$World" 194 ⟨"LinesPromised$Land", "yardsOf", "([I)I"⟩) ∈ wG := wG_in 968 (by decide +kernel) (by decide +kernel)
theorem w_140 : (Cond.fieldLink "LinesPromised$World" 198 "LinesPromised$Land" "trade" "[I") ∈ wG := wG_in 140 (by decide +kernel) (by decide +kernel)
theorem w_969 : (Cond.methodLink "LinesPromised$World" 201 ⟨"LinesPromised$Land", "cellsOf", "([II)I"⟩) ∈ wG := wG_in 969 (by decide +kernel) (by decide +kernel)
theorem w_973 : (Cond.methodLink "LinesPromised$World" 205 ⟨"LinesPromised$Land", "claimsOf", "([I)I"⟩) ∈ wG := wG_in 973 (by decide +kernel) (by decide +kernel)
theorem w_977 : (Cond.methodLink "LinesPromised$World" 208 ⟨"LinesPromised$Order", "lets", "()Z"⟩) ∈ wG := wG_in 977 (by decide +kernel) (by decide +kernel)
theorem w_967 : (Cond.code ⟨"LinesPromised$World", "canBeLet", "(LLinesPromised$Paper;I)Z"⟩ prog_12_method_14_code 4 (some .boolean)) ∈ wG := wG_in 967 (by decide +kernel) (by decide +kernel)
theorem w_965 : (Cond.instanceMethod ⟨"LinesPromised$World", "canBeLet", "(LLinesPromised$Paper;I)Z"⟩) ∈ wG := wG_in 965 (by decide +kernel) (by decide +kernel)
theorem w_966 : (Cond.selects "LinesPromised$World" ⟨"LinesPromised$World", "canBeLet", "(LLinesPromised$Paper;I)Z"⟩ ⟨"LinesPromised$World", "canBeLet", "(LLinesPromised$Paper;I)Z"⟩) ∈ wG := wG_in 966 (by decide +kernel) (by decide +kernel)
theorem w_964 : (Cond.methodLink "LinesPromised" 248 ⟨"LinesPromised$World", "canBeLet", "(LLinesPromised$Paper;I)Z"⟩) ∈ wG := wG_in 964 (by decide +kernel) (by decide +kernel)
theorem w_963 : (Cond.code ⟨"LinesPromised", "hear", "(II)I"⟩ prog_1_method_19_code 4 (some .int)) ∈ wG := wG_in 963 (by decide +kernel) (by decide +kernel)
theorem w_961 : (Cond.instanceMethod ⟨"LinesPromised", "hear", "(II)I"⟩) ∈ wG := wG_in 961 (by decide +kernel) (by decide +kernel)
theorem w_962 : (Cond.selects "LinesPromised" ⟨"LinesPromised", "hear", "(II)I"⟩ ⟨"LinesPromised", "hear", "(II)I"⟩) ∈ wG := wG_in 962 (by decide +kernel) (by decide +kernel)
theorem w_988 : (Cond.code ⟨"LinesPromised$Papers", "setAtBar", "(II)Z"⟩ prog_7_method_15_code 3 (some .boolean)) ∈ wG := wG_in 988 (by decide +kernel) (by decide +kernel)
theorem w_986 : (Cond.instanceMethod ⟨"LinesPromised$Papers", "setAtBar", "(II)Z"⟩) ∈ wG := wG_in 986 (by decide +kernel) (by decide +kernel)
theorem w_987 : (Cond.selects "LinesPromised$Papers" ⟨"LinesPromised$Papers", "setAtBar", "(II)Z"⟩ ⟨"LinesPromised$Papers", "setAtBar", "(II)Z"⟩) ∈ wG := wG_in 987 (by decide +kernel) (by decide +kernel)
theorem w_985 : (Cond.methodLink "LinesPromised" 252 ⟨"LinesPromised$Papers", "setAtBar", "(II)Z"⟩) ∈ wG := wG_in 985 (by decide +kernel) (by decide +kernel)
theorem w_984 : (Cond.code ⟨"LinesPromised", "bar", "(II)I"⟩ prog_1_method_20_code 3 (some .int)) ∈ wG := wG_in 984 (by decide +kernel) (by decide +kernel)
theorem w_982 : (Cond.instanceMethod ⟨"LinesPromised", "bar", "(II)I"⟩) ∈ wG := wG_in 982 (by decide +kernel) (by decide +kernel)
theorem w_983 : (Cond.selects "LinesPromised" ⟨"LinesPromised", "bar", "(II)I"⟩ ⟨"LinesPromised", "bar", "(II)I"⟩) ∈ wG := wG_in 983 (by decide +kernel) (by decide +kernel)
theorem w_176 : (Cond.fieldLink "LinesPromised$Papers" 40 "LinesPromised$Papers" "marked" "J") ∈ wG := wG_in 176 (by decide +kernel) (by decide +kernel)
theorem w_996 : (Cond.code ⟨"LinesPromised$Papers", "isMarked", "(I)Z"⟩ prog_7_method_8_code 2 (some .boolean)) ∈ wG := wG_in 996 (by decide +kernel) (by decide +kernel)
theorem w_994 : (Cond.instanceMethod ⟨"LinesPromised$Papers", "isMarked", "(I)Z"⟩) ∈ wG := wG_in 994 (by decide +kernel) (by decide +kernel)
theorem w_995 : (Cond.selects "LinesPromised$Papers" ⟨"LinesPromised$Papers", "isMarked", "(I)Z"⟩ ⟨"LinesPromised$Papers", "isMarked", "(I)Z"⟩) ∈ wG := wG_in 995 (by decide +kernel) (by decide +kernel)
theorem w_1000 : (Cond.code ⟨"LinesPromised$Papers", "isBarred", "(I)Z"⟩ prog_7_method_16_code 2 (some .boolean)) ∈ wG := wG_in 1000 (by decide +kernel) (by decide +kernel)
theorem w_998 : (Cond.instanceMethod ⟨"LinesPromised$Papers", "isBarred", "(I)Z"⟩) ∈ wG := wG_in 998 (by decide +kernel) (by decide +kernel)
theorem w_999 : (Cond.selects "LinesPromised$Papers" ⟨"LinesPromised$Papers", "isBarred", "(I)Z"⟩ ⟨"LinesPromised$Papers", "isBarred", "(I)Z"⟩) ∈ wG := wG_in 999 (by decide +kernel) (by decide +kernel)
theorem w_1004 : (Cond.code ⟨"LinesPromised$Papers", "mark", "(I)V"⟩ prog_7_method_7_code 2 none) ∈ wG := wG_in 1004 (by decide +kernel) (by decide +kernel)
theorem w_1002 : (Cond.instanceMethod ⟨"LinesPromised$Papers", "mark", "(I)V"⟩) ∈ wG := wG_in 1002 (by decide +kernel) (by decide +kernel)
theorem w_1003 : (Cond.selects "LinesPromised$Papers" ⟨"LinesPromised$Papers", "mark", "(I)V"⟩ ⟨"LinesPromised$Papers", "mark", "(I)V"⟩) ∈ wG := wG_in 1003 (by decide +kernel) (by decide +kernel)
theorem w_1013 : (Cond.methodLink "LinesPromised$Papers" 69 ⟨"LinesPromised$Papers", "isMarked", "(I)Z"⟩) ∈ wG := wG_in 1013 (by decide +kernel) (by decide +kernel)
theorem w_1012 : (Cond.code ⟨"LinesPromised$Papers", "isGranted", "(I)Z"⟩ prog_7_method_9_code 2 (some .boolean)) ∈ wG := wG_in 1012 (by decide +kernel) (by decide +kernel)
theorem w_1010 : (Cond.instanceMethod ⟨"LinesPromised$Papers", "isGranted", "(I)Z"⟩) ∈ wG := wG_in 1010 (by decide +kernel) (by decide +kernel)
theorem w_1011 : (Cond.selects "LinesPromised$Papers" ⟨"LinesPromised$Papers", "isGranted", "(I)Z"⟩ ⟨"LinesPromised$Papers", "isGranted", "(I)Z"⟩) ∈ wG := wG_in 1011 (by decide +kernel) (by decide +kernel)
theorem w_1009 : (Cond.methodLink "LinesPromised$Papers" 80 ⟨"LinesPromised$Papers", "isGranted", "(I)Z"⟩) ∈ wG := wG_in 1009 (by decide +kernel) (by decide +kernel)
theorem w_1008 : (Cond.code ⟨"LinesPromised$Papers", "granted", "()I"⟩ prog_7_method_11_code 3 (some .int)) ∈ wG := wG_in 1008 (by decide +kernel) (by decide +kernel)
theorem w_1006 : (Cond.instanceMethod ⟨"LinesPromised$Papers", "granted", "()I"⟩) ∈ wG := wG_in 1006 (by decide +kernel) (by decide +kernel)
theorem w_1007 : (Cond.selects "LinesPromised$Papers" ⟨"LinesPromised$Papers", "granted", "()I"⟩ ⟨"LinesPromised$Papers", "granted", "()I"⟩) ∈ wG := wG_in 1007 (by decide +kernel) (by decide +kernel)
theorem w_993 : (Cond.methodLink "LinesPromised" 256 ⟨"LinesPromised$Papers", "isMarked", "(I)Z"⟩) ∈ wG := wG_in 993 (by decide +kernel) (by decide +kernel)
theorem w_997 : (Cond.methodLink "LinesPromised" 259 ⟨"LinesPromised$Papers", "isBarred", "(I)Z"⟩) ∈ wG := wG_in 997 (by decide +kernel) (by decide +kernel)
theorem w_1001 : (Cond.methodLink "LinesPromised" 262 ⟨"LinesPromised$Papers", "mark", "(I)V"⟩) ∈ wG := wG_in 1001 (by decide +kernel) (by decide +kernel)
theorem w_170 : (Cond.fieldLink "LinesPromised" 266 "LinesPromised$Papers" "left" "[I") ∈ wG := wG_in 170 (by decide +kernel) (by decide +kernel)
theorem w_1005 : (Cond.methodLink "LinesPromised" 269 ⟨"LinesPromised$Papers", "granted", "()I"⟩) ∈ wG := wG_in 1005 (by decide +kernel) (by decide +kernel)
theorem w_992 : (Cond.code ⟨"LinesPromised", "grant", "(I)I"⟩ prog_1_method_21_code 4 (some .int)) ∈ wG := wG_in 992 (by decide +kernel) (by decide +kernel)
theorem w_990 : (Cond.instanceMethod ⟨"LinesPromised", "grant", "(I)I"⟩) ∈ wG := wG_in 990 (by decide +kernel) (by decide +kernel)
theorem w_991 : (Cond.selects "LinesPromised" ⟨"LinesPromised", "grant", "(I)I"⟩ ⟨"LinesPromised", "grant", "(I)I"⟩) ∈ wG := wG_in 991 (by decide +kernel) (by decide +kernel)
theorem w_1022 : (Cond.code ⟨"LinesPromised$Paper", "isUnder", "(I)Z"⟩ prog_6_method_3_code 4 (some .boolean)) ∈ wG := wG_in 1022 (by decide +kernel) (by decide +kernel)
theorem w_1020 : (Cond.instanceMethod ⟨"LinesPromised$Paper", "isUnder", "(I)Z"⟩) ∈ wG := wG_in 1020 (by decide +kernel) (by decide +kernel)
theorem w_1021 : (Cond.selects "LinesPromised$Paper" ⟨"LinesPromised$Paper", "isUnder", "(I)Z"⟩ ⟨"LinesPromised$Paper", "isUnder", "(I)Z"⟩) ∈ wG := wG_in 1021 (by decide +kernel) (by decide +kernel)
theorem w_748 : (Cond.fieldLink "LinesPromised$Papers" 89 "LinesPromised$Paper" "sum" "I") ∈ wG := wG_in 748 (by decide +kernel) (by decide +kernel)
theorem w_726 : (Cond.fieldLink "LinesPromised$Papers" 100 "LinesPromised$Paper" "cells" "[I") ∈ wG := wG_in 726 (by decide +kernel) (by decide +kernel)
theorem w_1032 : (Cond.code ⟨"LinesPromised$Papers", "worthOfPlan", "(LLinesPromised$Paper;)I"⟩ prog_7_method_18_code 3 (some .int)) ∈ wG := wG_in 1032 (by decide +kernel) (by decide +kernel)
theorem w_1031 : (Cond.instanceMethod ⟨"LinesPromised$Papers", "worthOfPlan", "(LLinesPromised$Paper;)I"⟩) ∈ wG := wG_in 1031 (by decide +kernel) (by decide +kernel)
theorem w_18 : (Cond.selects "LinesPromised$Papers" ⟨"LinesPromised$Papers", "worthOfPlan", "(LLinesPromised$Paper;)I"⟩ ⟨"LinesPromised$Papers", "worthOfPlan", "(LLinesPromised$Paper;)I"⟩) ∈ wG := wG_in 18 (by decide +kernel) (by decide +kernel)
theorem w_1035 : (Cond.code ⟨"LinesPromised$Papers", "worthOfCall", "(I)I"⟩ prog_7_method_19_code 1 (some .int)) ∈ wG := wG_in 1035 (by decide +kernel) (by decide +kernel)
theorem w_1034 : (Cond.static ⟨"LinesPromised$Papers", "worthOfCall", "(I)I"⟩) ∈ wG := wG_in 1034 (by decide +kernel) (by decide +kernel)
theorem w_1029 : (Cond.methodLink "LinesPromised$Papers" 92 ⟨"LinesPromised$Papers", "worthOfPlan", "(LLinesPromised$Paper;)I"⟩) ∈ wG := wG_in 1029 (by decide +kernel) (by decide +kernel)
theorem w_1033 : (Cond.methodLink "LinesPromised$Papers" 96 ⟨"LinesPromised$Papers", "worthOfCall", "(I)I"⟩) ∈ wG := wG_in 1033 (by decide +kernel) (by decide +kernel)
theorem w_1028 : (Cond.code ⟨"LinesPromised$Papers", "worthOf", "(LLinesPromised$Paper;)I"⟩ prog_7_method_17_code 2 (some .int)) ∈ wG := wG_in 1028 (by decide +kernel) (by decide +kernel)
theorem w_1026 : (Cond.instanceMethod ⟨"LinesPromised$Papers", "worthOf", "(LLinesPromised$Paper;)I"⟩) ∈ wG := wG_in 1026 (by decide +kernel) (by decide +kernel)
theorem w_1027 : (Cond.selects "LinesPromised$Papers" ⟨"LinesPromised$Papers", "worthOf", "(LLinesPromised$Paper;)I"⟩ ⟨"LinesPromised$Papers", "worthOf", "(LLinesPromised$Paper;)I"⟩) ∈ wG := wG_in 1027 (by decide +kernel) (by decide +kernel)
theorem w_1018 : (Cond.methodLink "LinesPromised" 272 ⟨"LinesPromised$Papers", "get", "(I)LLinesPromised$Paper;"⟩) ∈ wG := wG_in 1018 (by decide +kernel) (by decide +kernel)
theorem w_1019 : (Cond.methodLink "LinesPromised" 276 ⟨"LinesPromised$Paper", "isUnder", "(I)Z"⟩) ∈ wG := wG_in 1019 (by decide +kernel) (by decide +kernel)
theorem w_1025 : (Cond.methodLink "LinesPromised" 279 ⟨"LinesPromised$Papers", "worthOf", "(LLinesPromised$Paper;)I"⟩) ∈ wG := wG_in 1025 (by decide +kernel) (by decide +kernel)
theorem w_1017 : (Cond.code ⟨"LinesPromised", "cast", "(II)I"⟩ prog_1_method_22_code 4 (some .int)) ∈ wG := wG_in 1017 (by decide +kernel) (by decide +kernel)
theorem w_1015 : (Cond.instanceMethod ⟨"LinesPromised", "cast", "(II)I"⟩) ∈ wG := wG_in 1015 (by decide +kernel) (by decide +kernel)
theorem w_1016 : (Cond.selects "LinesPromised" ⟨"LinesPromised", "cast", "(II)I"⟩ ⟨"LinesPromised", "cast", "(II)I"⟩) ∈ wG := wG_in 1016 (by decide +kernel) (by decide +kernel)
theorem w_715 : (Cond.fieldLink "LinesPromised" 282 "LinesPromised$Paper" "kind" "I") ∈ wG := wG_in 715 (by decide +kernel) (by decide +kernel)
theorem w_719 : (Cond.fieldLink "LinesPromised" 285 "LinesPromised$Paper" "of" "I") ∈ wG := wG_in 719 (by decide +kernel) (by decide +kernel)
theorem w_722 : (Cond.fieldLink "LinesPromised" 288 "LinesPromised$Paper" "day" "I") ∈ wG := wG_in 722 (by decide +kernel) (by decide +kernel)
theorem w_749 : (Cond.fieldLink "LinesPromised" 291 "LinesPromised$Paper" "sum" "I") ∈ wG := wG_in 749 (by decide +kernel) (by decide +kernel)
theorem w_1039 : (Cond.code ⟨"LinesPromised", "about", "(II)I"⟩ prog_1_method_23_code 4 (some .int)) ∈ wG := wG_in 1039 (by decide +kernel) (by decide +kernel)
theorem w_1037 : (Cond.instanceMethod ⟨"LinesPromised", "about", "(II)I"⟩) ∈ wG := wG_in 1037 (by decide +kernel) (by decide +kernel)
theorem w_1038 : (Cond.selects "LinesPromised" ⟨"LinesPromised", "about", "(II)I"⟩ ⟨"LinesPromised", "about", "(II)I"⟩) ∈ wG := wG_in 1038 (by decide +kernel) (by decide +kernel)
theorem w_184 : (Cond.fieldLink "LinesPromised$Papers" 51 "LinesPromised$Papers" "votes" "I") ∈ wG := wG_in 184 (by decide +kernel) (by decide +kernel)
theorem w_1047 : (Cond.code ⟨"LinesPromised$Papers", "vote", "(IIZ)I"⟩ prog_7_method_20_code 5 (some .int)) ∈ wG := wG_in 1047 (by decide +kernel) (by decide +kernel)
theorem w_1045 : (Cond.instanceMethod ⟨"LinesPromised$Papers", "vote", "(IIZ)I"⟩) ∈ wG := wG_in 1045 (by decide +kernel) (by decide +kernel)
theorem w_1046 : (Cond.selects "LinesPromised$Papers" ⟨"LinesPromised$Papers", "vote", "(IIZ)I"⟩ ⟨"LinesPromised$Papers", "vote", "(IIZ)I"⟩) ∈ wG := wG_in 1046 (by decide +kernel) (by decide +kernel)
theorem w_185 : (Cond.fieldLink "LinesPromised" 294 "LinesPromised$Papers" "votes" "I") ∈ wG := wG_in 185 (by decide +kernel) (by decide +kernel)
theorem w_1044 : (Cond.methodLink "LinesPromised" 297 ⟨"LinesPromised$Papers", "vote", "(IIZ)I"⟩) ∈ wG := wG_in 1044 (by decide +kernel) (by decide +kernel)
theorem w_1043 : (Cond.code ⟨"LinesPromised", "board", "(IIZ)I"⟩ prog_1_method_24_code 4 (some .int)) ∈ wG := wG_in 1043 (by decide +kernel) (by decide +kernel)
theorem w_1041 : (Cond.instanceMethod ⟨"LinesPromised", "board", "(IIZ)I"⟩) ∈ wG := wG_in 1041 (by decide +kernel) (by decide +kernel)
theorem w_1042 : (Cond.selects "LinesPromised" ⟨"LinesPromised", "board", "(IIZ)I"⟩ ⟨"LinesPromised", "board", "(IIZ)I"⟩) ∈ wG := wG_in 1042 (by decide +kernel) (by decide +kernel)
theorem w_1055 : (Cond.code ⟨"LinesPromised$Papers", "votersBothWays", "()I"⟩ prog_7_method_21_code 3 (some .int)) ∈ wG := wG_in 1055 (by decide +kernel) (by decide +kernel)
theorem w_1053 : (Cond.instanceMethod ⟨"LinesPromised$Papers", "votersBothWays", "()I"⟩) ∈ wG := wG_in 1053 (by decide +kernel) (by decide +kernel)
theorem w_1054 : (Cond.selects "LinesPromised$Papers" ⟨"LinesPromised$Papers", "votersBothWays", "()I"⟩ ⟨"LinesPromised$Papers", "votersBothWays", "()I"⟩) ∈ wG := wG_in 1054 (by decide +kernel) (by decide +kernel)
theorem w_1052 : (Cond.methodLink "LinesPromised" 301 ⟨"LinesPromised$Papers", "votersBothWays", "()I"⟩) ∈ wG := wG_in 1052 (by decide +kernel) (by decide +kernel)
theorem w_1051 : (Cond.code ⟨"LinesPromised", "doubled", "()I"⟩ prog_1_method_25_code 1 (some .int)) ∈ wG := wG_in 1051 (by decide +kernel) (by decide +kernel)
theorem w_1049 : (Cond.instanceMethod ⟨"LinesPromised", "doubled", "()I"⟩) ∈ wG := wG_in 1049 (by decide +kernel) (by decide +kernel)
theorem w_1050 : (Cond.selects "LinesPromised" ⟨"LinesPromised", "doubled", "()I"⟩ ⟨"LinesPromised", "doubled", "()I"⟩) ∈ wG := wG_in 1050 (by decide +kernel) (by decide +kernel)
/-! LinesPromised$Roads.seek(LLinesPromised$World;III)Z -/
theorem dX7_seek_0 : decode cX7_seek 0 = .ok (.aload_n 0, 1) := by decide +kernel
theorem dX7_seek_1 : decode cX7_seek 1 = .ok (.aload_n 1, 1) := by decide +kernel
theorem dX7_seek_2 : decode cX7_seek 2 = .ok (.getfield 22, 3) := by decide +kernel
theorem dX7_seek_5 : decode cX7_seek 5 = .ok (.getfield 28, 3) := by decide +kernel
theorem dX7_seek_8 : decode cX7_seek 8 = .ok (.iload_n 2, 1) := by decide +kernel
theorem dX7_seek_9 : decode cX7_seek 9 = .ok (.iaload, 1) := by decide +kernel
theorem dX7_seek_10 : decode cX7_seek 10 = .ok (.putfield 33, 3) := by decide +kernel
theorem dX7_seek_13 : decode cX7_seek 13 = .ok (.aload_n 0, 1) := by decide +kernel
theorem dX7_seek_14 : decode cX7_seek 14 = .ok (.aload_n 1, 1) := by decide +kernel
theorem dX7_seek_15 : decode cX7_seek 15 = .ok (.getfield 22, 3) := by decide +kernel
theorem dX7_seek_18 : decode cX7_seek 18 = .ok (.getfield 28, 3) := by decide +kernel
theorem dX7_seek_21 : decode cX7_seek 21 = .ok (.iload_n 3, 1) := by decide +kernel
theorem dX7_seek_22 : decode cX7_seek 22 = .ok (.iaload, 1) := by decide +kernel
theorem dX7_seek_23 : decode cX7_seek 23 = .ok (.putfield 37, 3) := by decide +kernel
theorem dX7_seek_26 : decode cX7_seek 26 = .ok (.aload_n 0, 1) := by decide +kernel
theorem dX7_seek_27 : decode cX7_seek 27 = .ok (.aload_n 1, 1) := by decide +kernel
theorem dX7_seek_28 : decode cX7_seek 28 = .ok (.iconst 0, 1) := by decide +kernel
theorem dX7_seek_29 : decode cX7_seek 29 = .ok (.iload 4, 2) := by decide +kernel
theorem dX7_seek_31 : decode cX7_seek 31 = .ok (.invokevirtual 40, 3) := by decide +kernel
theorem dX7_seek_34 : decode cX7_seek 34 = .ok (.putfield 44, 3) := by decide +kernel
theorem dX7_seek_37 : decode cX7_seek 37 = .ok (.aload_n 0, 1) := by decide +kernel
theorem dX7_seek_38 : decode cX7_seek 38 = .ok (.aload_n 1, 1) := by decide +kernel
theorem dX7_seek_39 : decode cX7_seek 39 = .ok (.iconst 5, 1) := by decide +kernel
theorem dX7_seek_40 : decode cX7_seek 40 = .ok (.iload 4, 2) := by decide +kernel
theorem dX7_seek_42 : decode cX7_seek 42 = .ok (.invokevirtual 40, 3) := by decide +kernel
theorem dX7_seek_45 : decode cX7_seek 45 = .ok (.iconst 1, 1) := by decide +kernel
theorem dX7_seek_46 : decode cX7_seek 46 = .ok (.if_icmp .ne 7, 3) := by decide +kernel
theorem dX7_seek_49 : decode cX7_seek 49 = .ok (.iconst 1, 1) := by decide +kernel
theorem dX7_seek_50 : decode cX7_seek 50 = .ok (.goto 4, 3) := by decide +kernel
theorem dX7_seek_53 : decode cX7_seek 53 = .ok (.iconst 0, 1) := by decide +kernel
theorem dX7_seek_54 : decode cX7_seek 54 = .ok (.putfield 47, 3) := by decide +kernel
theorem dX7_seek_57 : decode cX7_seek 57 = .ok (.aload_n 0, 1) := by decide +kernel
theorem dX7_seek_58 : decode cX7_seek 58 = .ok (.aload_n 1, 1) := by decide +kernel
theorem dX7_seek_59 : decode cX7_seek 59 = .ok (.getfield 22, 3) := by decide +kernel
theorem dX7_seek_62 : decode cX7_seek 62 = .ok (.invokevirtual 51, 3) := by decide +kernel
theorem dX7_seek_65 : decode cX7_seek 65 = .ok (.aload_n 0, 1) := by decide +kernel
theorem dX7_seek_66 : decode cX7_seek 66 = .ok (.aload_n 0, 1) := by decide +kernel
theorem dX7_seek_67 : decode cX7_seek 67 = .ok (.getfield 15, 3) := by decide +kernel
theorem dX7_seek_70 : decode cX7_seek 70 = .ok (.aload_n 0, 1) := by decide +kernel
theorem dX7_seek_71 : decode cX7_seek 71 = .ok (.getfield 33, 3) := by decide +kernel
theorem dX7_seek_74 : decode cX7_seek 74 = .ok (.iaload, 1) := by decide +kernel
theorem dX7_seek_75 : decode cX7_seek 75 = .ok (.putfield 55, 3) := by decide +kernel
theorem dX7_seek_78 : decode cX7_seek 78 = .ok (.aload_n 0, 1) := by decide +kernel
theorem dX7_seek_79 : decode cX7_seek 79 = .ok (.getfield 55, 3) := by decide +kernel
theorem dX7_seek_82 : decode cX7_seek 82 = .ok (.ldc 58, 2) := by decide +kernel
theorem dX7_seek_84 : decode cX7_seek 84 = .ok (.if_icmp .lt 5, 3) := by decide +kernel
theorem dX7_seek_87 : decode cX7_seek 87 = .ok (.iconst 0, 1) := by decide +kernel
theorem dX7_seek_88 : decode cX7_seek 88 = .ok (.ireturn, 1) := by decide +kernel
theorem dX7_seek_89 : decode cX7_seek 89 = .ok (.aload_n 0, 1) := by decide +kernel
theorem dX7_seek_90 : decode cX7_seek 90 = .ok (.aload_n 1, 1) := by decide +kernel
theorem dX7_seek_91 : decode cX7_seek 91 = .ok (.getfield 22, 3) := by decide +kernel
theorem dX7_seek_94 : decode cX7_seek 94 = .ok (.invokevirtual 59, 3) := by decide +kernel
theorem dX7_seek_97 : decode cX7_seek 97 = .ok (.iconst 1, 1) := by decide +kernel
theorem dX7_seek_98 : decode cX7_seek 98 = .ok (.ireturn, 1) := by decide +kernel
theorem cm_X7_seek : CM yX7_seek cX7_seek 5 (some .boolean) 4 7 := ⟨w_903, w_904, w_905, w_94, ⟨by decide +kernel, by decide +kernel, by decide +kernel⟩, ⟨_, _, rfl⟩, by decide⟩
noncomputable def f_X7_seek_54 (n : Nat)  (v0 v1 s0 s1 : Int) (h : MM) : RR :=
  ck (isb s1) <|
  pf h s0 7 8 s1 fun h1 =>
  gf h1 v1 10 0 fun r3 =>
  gk h1 v0 7 <|
  bd (f_X7_measure n v0 r3 h1) fun r4 h4 =>
  gf h4 v0 7 3 fun r5 =>
  gf h4 v0 7 5 fun r6 =>
  rd h4 r5 100 r6 fun r7 =>
  pf h4 v0 7 2 r7 fun h8 =>
  gf h8 v0 7 2 fun r9 =>
  if r9 < 1000000 then
    gf h8 v1 10 0 fun r11 =>
    gk h8 v0 7 <|
    bd (f_X7_walk n v0 r11 h8) fun r12 h12 =>
    ck (isb 1) <|
    some (1, h12)
  else
  ck (isb 0) <|
  some (0, h8)
noncomputable def f_X7_seek (n : Nat) (v0 v1 v2 v3 v4 : Int) (h : MM) : RR :=
  gf h v1 10 0 fun r1 =>
  gf h r1 1 3 fun r2 =>
  rd h r2 100 v2 fun r3 =>
  pf h v0 7 5 r3 fun h4 =>
  gf h4 v1 10 0 fun r5 =>
  gf h4 r5 1 3 fun r6 =>
  rd h4 r6 100 v3 fun r7 =>
  pf h4 v0 7 6 r7 fun h8 =>
  gk h8 v1 10 <|
  bd (f_X10_ruleOf n v1 0 v4 h8) fun r9 h9 =>
  pf h9 v0 7 7 r9 fun h10 =>
  gk h10 v1 10 <|
  bd (f_X10_ruleOf n v1 5 v4 h10) fun r11 h11 =>
  if r11 = 1 then
    f_X7_seek_54 n v0 v1 v0 1 h11
  else
  f_X7_seek_54 n v0 v1 v0 0 h11
set_option maxRecDepth 20000 in
theorem b_X7_seek_54 {g : GT} {Z : Int × MM} {n : Nat} (C : Cx g cX7_seek 5 yX7_seek 5 116) (hr : Rt g (some .boolean) 0 Z) {v0 v1 s0 s1 : Int}    (cs1 : in32 s1) {h : MM} (hf : f_X7_seek_54 n  v0 v1 s0 s1 h = some Z) : G g 54 [(2, v0), (2, v1), (3, 0), (3, 0), (3, 0)] [(0, s1), (2, s0)] h := by
  unfold f_X7_seek_54 at hf
  obtain ⟨b2, hf⟩ := ck_s hf
  obtain ⟨q1, hf⟩ := pf_s hf
  refine r_pf C ct7 (j := 8) (ji := 8) dX7_seek_54 q1 rfl rfl (by decide) w_362 rfl (Or.inl rfl) (nar_bool (isb_s b2)) cs1 ?_
  refine r_aload_n C dX7_seek_57 rfl ?_
  refine r_aload_n C dX7_seek_58 rfl ?_
  obtain ⟨q3, hf⟩ := gf_s hf
  refine r_gf C ct10 (j := 0) (ji := 0) dX7_seek_59 q3 rfl rfl (by decide) w_299 rfl (fun c3 => ?_)
  obtain ⟨p4, hf⟩ := gk_s hf
  obtain ⟨r4, h4, hq4, hf⟩ := bd_s hf
  refine r_cV1v C (am_X7_measure (gl g) n) cm_X7_measure w_907 dX7_seek_62 ⟨Nat.le_of_ble_eq_true rfl, Nat.le_of_ble_eq_true rfl⟩ p4 rfl trivial rfl (Nat.le_of_ble_eq_true rfl) hq4 ?_
  refine r_aload_n C dX7_seek_65 rfl ?_
  refine r_aload_n C dX7_seek_66 rfl ?_
  obtain ⟨q5, hf⟩ := gf_s hf
  refine r_gf C ct7 (j := 3) (ji := 3) dX7_seek_67 q5 rfl rfl (by decide) w_357 rfl (fun c5 => ?_)
  refine r_aload_n C dX7_seek_70 rfl ?_
  obtain ⟨q6, hf⟩ := gf_s hf
  refine r_gf C ct7 (j := 5) (ji := 5) dX7_seek_71 q6 rfl rfl (by decide) w_359 rfl (fun c6 => ?_)
  have c6 : in32 _ := c6
  obtain ⟨q7, hf⟩ := rd_s hf
  refine r_iald C dX7_seek_74 q7 rfl (fun c7 => ?_)
  obtain ⟨q8, hf⟩ := pf_s hf
  refine r_pf C ct7 (j := 2) (ji := 2) dX7_seek_75 q8 rfl rfl (by decide) w_355 rfl (Or.inl rfl) nar_int c7 ?_
  refine r_aload_n C dX7_seek_78 rfl ?_
  obtain ⟨q9, hf⟩ := gf_s hf
  refine r_gf C ct7 (j := 2) (ji := 2) dX7_seek_79 q9 rfl rfl (by decide) w_355 rfl (fun c9 => ?_)
  have c9 : in32 _ := c9
  refine r_ldc C (v := 1000000) dX7_seek_82 w_911 ?_
  refine r_icmp_lt C dX7_seek_84 (tgt := 89) (by decide) c9 (in32_of rfl) (fun n10 => ?_) (fun n10 => ?_)
  · have hf := ite_p n10 hf
    refine r_aload_n C dX7_seek_89 rfl ?_
    refine r_aload_n C dX7_seek_90 rfl ?_
    obtain ⟨q11, hf⟩ := gf_s hf
    refine r_gf C ct10 (j := 0) (ji := 0) dX7_seek_91 q11 rfl rfl (by decide) w_299 rfl (fun c11 => ?_)
    obtain ⟨p12, hf⟩ := gk_s hf
    obtain ⟨r12, h12, hq12, hf⟩ := bd_s hf
    refine r_cV1v C (am_X7_walk (gl g) n) cm_X7_walk w_929 dX7_seek_94 ⟨Nat.le_of_ble_eq_true rfl, Nat.le_of_ble_eq_true rfl⟩ p12 rfl trivial rfl (Nat.le_of_ble_eq_true rfl) hq12 ?_
    refine r_iconst C dX7_seek_97 ?_
    obtain ⟨b13, hf⟩ := ck_s hf
    cases hf
    exact r_zret C hr dX7_seek_98 b13
  · have hf := ite_n n10 hf
    refine r_iconst C dX7_seek_87 ?_
    obtain ⟨b14, hf⟩ := ck_s hf
    cases hf
    exact r_zret C hr dX7_seek_88 b14
set_option maxRecDepth 20000 in
theorem e_X7_seek {g : GT} {Z : Int × MM} {n : Nat} (C : Cx g cX7_seek 5 yX7_seek 5 116) (hr : Rt g (some .boolean) 0 Z) {v0 v1 v2 v3 v4 : Int} (cv0 : cK 2 v0) (cv1 : cK 2 v1) (cv2 : cK 0 v2) (cv3 : cK 0 v3) (cv4 : cK 0 v4) {h : MM} (hf : f_X7_seek n v0 v1 v2 v3 v4 h = some Z) : G g 0 [(2, v0), (2, v1), (0, v2), (0, v3), (0, v4)] [] h := by
  have cv2 : in32 v2 := cv2
  have cv3 : in32 v3 := cv3
  have cv4 : in32 v4 := cv4
  unfold f_X7_seek at hf
  refine r_aload_n C dX7_seek_0 rfl ?_
  refine r_aload_n C dX7_seek_1 rfl ?_
  obtain ⟨q1, hf⟩ := gf_s hf
  refine r_gf C ct10 (j := 0) (ji := 0) dX7_seek_2 q1 rfl rfl (by decide) w_299 rfl (fun c1 => ?_)
  obtain ⟨q2, hf⟩ := gf_s hf
  refine r_gf C ct1 (j := 3) (ji := 3) dX7_seek_5 q2 rfl rfl (by decide) w_137 rfl (fun c2 => ?_)
  refine r_iload_n C dX7_seek_8 rfl ?_
  obtain ⟨q3, hf⟩ := rd_s hf
  refine r_iald C dX7_seek_9 q3 rfl (fun c3 => ?_)
  obtain ⟨q4, hf⟩ := pf_s hf
  refine r_pf C ct7 (j := 5) (ji := 5) dX7_seek_10 q4 rfl rfl (by decide) w_359 rfl (Or.inl rfl) nar_int c3 ?_
  refine r_aload_n C dX7_seek_13 rfl ?_
  refine r_aload_n C dX7_seek_14 rfl ?_
  obtain ⟨q5, hf⟩ := gf_s hf
  refine r_gf C ct10 (j := 0) (ji := 0) dX7_seek_15 q5 rfl rfl (by decide) w_299 rfl (fun c5 => ?_)
  obtain ⟨q6, hf⟩ := gf_s hf
  refine r_gf C ct1 (j := 3) (ji := 3) dX7_seek_18 q6 rfl rfl (by decide) w_137 rfl (fun c6 => ?_)
  refine r_iload_n C dX7_seek_21 rfl ?_
  obtain ⟨q7, hf⟩ := rd_s hf
  refine r_iald C dX7_seek_22 q7 rfl (fun c7 => ?_)
  obtain ⟨q8, hf⟩ := pf_s hf
  refine r_pf C ct7 (j := 6) (ji := 6) dX7_seek_23 q8 rfl rfl (by decide) w_360 rfl (Or.inl rfl) nar_int c7 ?_
  refine r_aload_n C dX7_seek_26 rfl ?_
  refine r_aload_n C dX7_seek_27 rfl ?_
  refine r_iconst C dX7_seek_28 ?_
  refine r_iload C dX7_seek_29 rfl ?_
  obtain ⟨p9, hf⟩ := gk_s hf
  obtain ⟨r9, h9, hq9, hf⟩ := bd_s hf
  refine r_cV2 C (am_X10_ruleOf (gl g) n) cm_X10_ruleOf w_906 dX7_seek_31 ⟨Nat.le_of_ble_eq_true rfl, Nat.le_of_ble_eq_true rfl⟩ p9 rfl (in32_of rfl) cv4 rfl (Nat.le_of_ble_eq_true rfl) hq9 (by decide) (fun c9 => ?_)
  have c9 : in32 _ := c9
  obtain ⟨q10, hf⟩ := pf_s hf
  refine r_pf C ct7 (j := 7) (ji := 7) dX7_seek_34 q10 rfl rfl (by decide) w_361 rfl (Or.inl rfl) nar_int c9 ?_
  refine r_aload_n C dX7_seek_37 rfl ?_
  refine r_aload_n C dX7_seek_38 rfl ?_
  refine r_iconst C dX7_seek_39 ?_
  refine r_iload C dX7_seek_40 rfl ?_
  obtain ⟨p11, hf⟩ := gk_s hf
  obtain ⟨r11, h11, hq11, hf⟩ := bd_s hf
  refine r_cV2 C (am_X10_ruleOf (gl g) n) cm_X10_ruleOf w_906 dX7_seek_42 ⟨Nat.le_of_ble_eq_true rfl, Nat.le_of_ble_eq_true rfl⟩ p11 rfl (in32_of rfl) cv4 rfl (Nat.le_of_ble_eq_true rfl) hq11 (by decide) (fun c11 => ?_)
  have c11 : in32 _ := c11
  refine r_iconst C dX7_seek_45 ?_
  refine r_icmp_ne C dX7_seek_46 (tgt := 53) (by decide) c11 (in32_of rfl) (fun n12 => ?_) (fun n12 => ?_)
  · have hf := ite_n n12 hf
    refine r_iconst C dX7_seek_53 ?_
    exact G.mask [true, true, false, false, false] rfl rfl (b_X7_seek_54 C hr  (in32_of rfl) hf)
  · have hf := ite_p n12 hf
    refine r_iconst C dX7_seek_49 ?_
    refine r_goto C dX7_seek_50 (tgt := 54) (by decide) ?_
    exact G.mask [true, true, false, false, false] rfl rfl (b_X7_seek_54 C hr  (in32_of rfl) hf)
set_option maxRecDepth 20000 in
theorem am_X7_seek (l : Launch) (n : Nat) : AM l yX7_seek cX7_seek 5 (some .boolean) 5 116 [2, 2, 0, 0, 0] 0 (un5 (f_X7_seek n)) := by
  refine AM.intro (by decide) (fun xs hx => ?_) (fun g xs h Z hl C hr hx hf => ?_)
  · obtain ⟨a0, a1, a2, a3, a4, rfl, c0, c1, c2, c3, c4⟩ := canL_5 hx
    exact Nat.le_of_ble_eq_true rfl
  · obtain ⟨a0, a1, a2, a3, a4, rfl, c0, c1, c2, c3, c4⟩ := canL_5 hx
    have hf := (un5_e _ a0 a1 a2 a3 a4 _).symm.trans hf
    exact e_X7_seek (n := n) C hr c0 c1 c2 c3 c4 hf
/-! LinesPromised.slope(IIII)I -/
theorem dX11_slope_0 : decode cX11_slope 0 = .ok (.aload_n 0, 1) := by decide +kernel
theorem dX11_slope_1 : decode cX11_slope 1 = .ok (.iload_n 1, 1) := by decide +kernel
theorem dX11_slope_2 : decode cX11_slope 2 = .ok (.invokevirtual 130, 3) := by decide +kernel
theorem dX11_slope_5 : decode cX11_slope 5 = .ok (.ifCond .eq 28, 3) := by decide +kernel
theorem dX11_slope_8 : decode cX11_slope 8 = .ok (.aload_n 0, 1) := by decide +kernel
theorem dX11_slope_9 : decode cX11_slope 9 = .ok (.iload_n 2, 1) := by decide +kernel
theorem dX11_slope_10 : decode cX11_slope 10 = .ok (.invokevirtual 130, 3) := by decide +kernel
theorem dX11_slope_13 : decode cX11_slope 13 = .ok (.ifCond .eq 20, 3) := by decide +kernel
theorem dX11_slope_16 : decode cX11_slope 16 = .ok (.iload 4, 2) := by decide +kernel
theorem dX11_slope_18 : decode cX11_slope 18 = .ok (.ifCond .lt 15, 3) := by decide +kernel
theorem dX11_slope_21 : decode cX11_slope 21 = .ok (.iload 4, 2) := by decide +kernel
theorem dX11_slope_23 : decode cX11_slope 23 = .ok (.i2l, 1) := by decide +kernel
theorem dX11_slope_24 : decode cX11_slope 24 = .ok (.iconst 2, 1) := by decide +kernel
theorem dX11_slope_25 : decode cX11_slope 25 = .ok (.bipush 9, 2) := by decide +kernel
theorem dX11_slope_27 : decode cX11_slope 27 = .ok (.invokestatic 46, 3) := by decide +kernel
theorem dX11_slope_30 : decode cX11_slope 30 = .ok (.ifCond .eq 5, 3) := by decide +kernel
theorem dX11_slope_33 : decode cX11_slope 33 = .ok (.iconst (-1), 1) := by decide +kernel
theorem dX11_slope_34 : decode cX11_slope 34 = .ok (.ireturn, 1) := by decide +kernel
theorem dX11_slope_35 : decode cX11_slope 35 = .ok (.iload_n 1, 1) := by decide +kernel
theorem dX11_slope_36 : decode cX11_slope 36 = .ok (.iload_n 2, 1) := by decide +kernel
theorem dX11_slope_37 : decode cX11_slope 37 = .ok (.if_icmp .eq 10, 3) := by decide +kernel
theorem dX11_slope_40 : decode cX11_slope 40 = .ok (.iload_n 3, 1) := by decide +kernel
theorem dX11_slope_41 : decode cX11_slope 41 = .ok (.invokestatic 97, 3) := by decide +kernel
theorem dX11_slope_44 : decode cX11_slope 44 = .ok (.ifCond .ne 6, 3) := by decide +kernel
theorem dX11_slope_47 : decode cX11_slope 47 = .ok (.bipush (-2), 2) := by decide +kernel
theorem dX11_slope_49 : decode cX11_slope 49 = .ok (.ireturn, 1) := by decide +kernel
theorem dX11_slope_50 : decode cX11_slope 50 = .ok (.aload_n 0, 1) := by decide +kernel
theorem dX11_slope_51 : decode cX11_slope 51 = .ok (.getfield 28, 3) := by decide +kernel
theorem dX11_slope_54 : decode cX11_slope 54 = .ok (.aload_n 0, 1) := by decide +kernel
theorem dX11_slope_55 : decode cX11_slope 55 = .ok (.getfield 10, 3) := by decide +kernel
theorem dX11_slope_58 : decode cX11_slope 58 = .ok (.iload_n 1, 1) := by decide +kernel
theorem dX11_slope_59 : decode cX11_slope 59 = .ok (.iload_n 2, 1) := by decide +kernel
theorem dX11_slope_60 : decode cX11_slope 60 = .ok (.iload_n 3, 1) := by decide +kernel
theorem dX11_slope_61 : decode cX11_slope 61 = .ok (.invokevirtual 218, 3) := by decide +kernel
theorem dX11_slope_64 : decode cX11_slope 64 = .ok (.ifCond .ne 6, 3) := by decide +kernel
theorem dX11_slope_67 : decode cX11_slope 67 = .ok (.bipush (-5), 2) := by decide +kernel
theorem dX11_slope_69 : decode cX11_slope 69 = .ok (.ireturn, 1) := by decide +kernel
theorem dX11_slope_70 : decode cX11_slope 70 = .ok (.iload 4, 2) := by decide +kernel
theorem dX11_slope_72 : decode cX11_slope 72 = .ok (.ifCond .ne 11, 3) := by decide +kernel
theorem dX11_slope_75 : decode cX11_slope 75 = .ok (.aload_n 0, 1) := by decide +kernel
theorem dX11_slope_76 : decode cX11_slope 76 = .ok (.getfield 28, 3) := by decide +kernel
theorem dX11_slope_79 : decode cX11_slope 79 = .ok (.getfield 222, 3) := by decide +kernel
theorem dX11_slope_82 : decode cX11_slope 82 = .ok (.ireturn, 1) := by decide +kernel
theorem dX11_slope_83 : decode cX11_slope 83 = .ok (.iload 4, 2) := by decide +kernel
theorem dX11_slope_85 : decode cX11_slope 85 = .ok (.iconst 1, 1) := by decide +kernel
theorem dX11_slope_86 : decode cX11_slope 86 = .ok (.if_icmp .ne 11, 3) := by decide +kernel
theorem dX11_slope_89 : decode cX11_slope 89 = .ok (.aload_n 0, 1) := by decide +kernel
theorem dX11_slope_90 : decode cX11_slope 90 = .ok (.getfield 28, 3) := by decide +kernel
theorem dX11_slope_93 : decode cX11_slope 93 = .ok (.getfield 225, 3) := by decide +kernel
theorem dX11_slope_96 : decode cX11_slope 96 = .ok (.ireturn, 1) := by decide +kernel
theorem dX11_slope_97 : decode cX11_slope 97 = .ok (.iload 4, 2) := by decide +kernel
theorem dX11_slope_99 : decode cX11_slope 99 = .ok (.bipush 10, 2) := by decide +kernel
theorem dX11_slope_101 : decode cX11_slope 101 = .ok (.isub, 1) := by decide +kernel
theorem dX11_slope_102 : decode cX11_slope 102 = .ok (.aload_n 0, 1) := by decide +kernel
theorem dX11_slope_103 : decode cX11_slope 103 = .ok (.getfield 28, 3) := by decide +kernel
theorem dX11_slope_106 : decode cX11_slope 106 = .ok (.getfield 225, 3) := by decide +kernel
theorem dX11_slope_109 : decode cX11_slope 109 = .ok (.if_icmp .ge 19, 3) := by decide +kernel
theorem dX11_slope_112 : decode cX11_slope 112 = .ok (.aload_n 0, 1) := by decide +kernel
theorem dX11_slope_113 : decode cX11_slope 113 = .ok (.getfield 28, 3) := by decide +kernel
theorem dX11_slope_116 : decode cX11_slope 116 = .ok (.getfield 228, 3) := by decide +kernel
theorem dX11_slope_119 : decode cX11_slope 119 = .ok (.iload 4, 2) := by decide +kernel
theorem dX11_slope_121 : decode cX11_slope 121 = .ok (.bipush 10, 2) := by decide +kernel
theorem dX11_slope_123 : decode cX11_slope 123 = .ok (.isub, 1) := by decide +kernel
theorem dX11_slope_124 : decode cX11_slope 124 = .ok (.iaload, 1) := by decide +kernel
theorem dX11_slope_125 : decode cX11_slope 125 = .ok (.goto 4, 3) := by decide +kernel
theorem dX11_slope_128 : decode cX11_slope 128 = .ok (.iconst (-1), 1) := by decide +kernel
theorem dX11_slope_129 : decode cX11_slope 129 = .ok (.ireturn, 1) := by decide +kernel
theorem cm_X11_slope : CM yX11_slope cX11_slope 5 (some .int) 4 11 := ⟨w_899, w_900, w_901, w_87, ⟨by decide +kernel, by decide +kernel, by decide +kernel⟩, ⟨_, _, rfl⟩, by decide⟩
noncomputable def f_X11_slope_33 (n : Nat)  (h : MM) : RR :=
  some ((-1), h)
noncomputable def f_X11_slope_47 (n : Nat)  (h : MM) : RR :=
  some ((-2), h)
noncomputable def f_X11_slope_129 (n : Nat)  (s0 : Int) (h : MM) : RR :=
  some (s0, h)
noncomputable def f_X11_slope (n : Nat) (v0 v1 v2 v3 v4 : Int) (h : MM) : RR :=
  gk h v0 11 <|
  bd (f_X11_isTown n v0 v1 h) fun r1 h1 =>
  if r1 = 0 then
    f_X11_slope_33 n h1
  else
  gk h1 v0 11 <|
  bd (f_X11_isTown n v0 v2 h1) fun r3 h3 =>
  if r3 = 0 then
    f_X11_slope_33 n h3
  else
  if v4 < 0 then
    f_X11_slope_33 n h3
  else
  bd (f_X11_within n v4 2 9 h3) fun r6 h6 =>
  if r6 = 0 then
    if v1 = v2 then
      f_X11_slope_47 n h6
    else
    bd (f_X11_isDay n v3 h6) fun r9 h9 =>
    if r9 = 0 then
      f_X11_slope_47 n h9
    else
    gf h9 v0 11 4 fun r11 =>
    gf h9 v0 11 0 fun r12 =>
    gk h9 r11 7 <|
    bd (f_X7_seek n r11 r12 v1 v2 v3 h9) fun r13 h13 =>
    if r13 = 0 then
      some ((-5), h13)
    else
    if v4 = 0 then
      gf h13 v0 11 4 fun r25 =>
      gf h13 r25 7 2 fun r26 =>
      some (r26, h13)
    else
    if v4 = 1 then
      gf h13 v0 11 4 fun r23 =>
      gf h13 r23 7 1 fun r24 =>
      some (r24, h13)
    else
    gf h13 v0 11 4 fun r17 =>
    gf h13 r17 7 1 fun r18 =>
    if r18 ≤ wr (v4 - 10) then
      f_X11_slope_129 n ((-1)) h13
    else
    gf h13 v0 11 4 fun r20 =>
    gf h13 r20 7 0 fun r21 =>
    rd h13 r21 100 (wr (v4 - 10)) fun r22 =>
    f_X11_slope_129 n r22 h13
  else
  f_X11_slope_33 n h6
set_option maxRecDepth 20000 in
theorem b_X11_slope_33 {g : GT} {Z : Int × MM} {n : Nat} (C : Cx g cX11_slope 5 yX11_slope 6 140) (hr : Rt g (some .int) 0 Z)     {h : MM} (hf : f_X11_slope_33 n   h = some Z) : G g 33 [(3, 0), (3, 0), (3, 0), (3, 0), (3, 0)] [] h := by
  unfold f_X11_slope_33 at hf
  refine r_iconst C dX11_slope_33 ?_
  cases hf
  exact r_jret C hr dX11_slope_34 (in32_of rfl)
set_option maxRecDepth 20000 in
theorem b_X11_slope_47 {g : GT} {Z : Int × MM} {n : Nat} (C : Cx g cX11_slope 5 yX11_slope 6 140) (hr : Rt g (some .int) 0 Z)     {h : MM} (hf : f_X11_slope_47 n   h = some Z) : G g 47 [(3, 0), (3, 0), (3, 0), (3, 0), (3, 0)] [] h := by
  unfold f_X11_slope_47 at hf
  refine r_bipush C dX11_slope_47 rfl ?_
  cases hf
  exact r_jret C hr dX11_slope_49 (in32_of rfl)
set_option maxRecDepth 20000 in
theorem b_X11_slope_129 {g : GT} {Z : Int × MM} {n : Nat} (C : Cx g cX11_slope 5 yX11_slope 6 140) (hr : Rt g (some .int) 0 Z) {s0 : Int}    (cs0 : in32 s0) {h : MM} (hf : f_X11_slope_129 n  s0 h = some Z) : G g 129 [(3, 0), (3, 0), (3, 0), (3, 0), (3, 0)] [(0, s0)] h := by
  unfold f_X11_slope_129 at hf
  cases hf
  exact r_jret C hr dX11_slope_129 cs0
set_option maxRecDepth 20000 in
theorem e_X11_slope {g : GT} {Z : Int × MM} {n : Nat} (C : Cx g cX11_slope 5 yX11_slope 6 140) (hr : Rt g (some .int) 0 Z) {v0 v1 v2 v3 v4 : Int} (cv0 : cK 2 v0) (cv1 : cK 0 v1) (cv2 : cK 0 v2) (cv3 : cK 0 v3) (cv4 : cK 0 v4) {h : MM} (hf : f_X11_slope n v0 v1 v2 v3 v4 h = some Z) : G g 0 [(2, v0), (0, v1), (0, v2), (0, v3), (0, v4)] [] h := by
  have cv1 : in32 v1 := cv1
  have cv2 : in32 v2 := cv2
  have cv3 : in32 v3 := cv3
  have cv4 : in32 v4 := cv4
  unfold f_X11_slope at hf
  refine r_aload_n C dX11_slope_0 rfl ?_
  refine r_iload_n C dX11_slope_1 rfl ?_
  obtain ⟨p1, hf⟩ := gk_s hf
  obtain ⟨r1, h1, hq1, hf⟩ := bd_s hf
  refine r_cV1 C (am_X11_isTown (gl g) n) cm_X11_isTown w_696 dX11_slope_2 ⟨Nat.le_of_ble_eq_true rfl, Nat.le_of_ble_eq_true rfl⟩ p1 rfl cv1 rfl (Nat.le_of_ble_eq_true rfl) hq1 (by decide) (fun c1 => ?_)
  have c1 : in32 _ := c1
  refine r_if_eq C dX11_slope_5 (tgt := 33) (by decide) c1 (fun n2 => ?_) (fun n2 => ?_)
  · have hf := ite_p n2 hf
    exact G.mask [false, false, false, false, false] rfl rfl (b_X11_slope_33 C hr   hf)
  · have hf := ite_n n2 hf
    refine r_aload_n C dX11_slope_8 rfl ?_
    refine r_iload_n C dX11_slope_9 rfl ?_
    obtain ⟨p3, hf⟩ := gk_s hf
    obtain ⟨r3, h3, hq3, hf⟩ := bd_s hf
    refine r_cV1 C (am_X11_isTown (gl g) n) cm_X11_isTown w_696 dX11_slope_10 ⟨Nat.le_of_ble_eq_true rfl, Nat.le_of_ble_eq_true rfl⟩ p3 rfl cv2 rfl (Nat.le_of_ble_eq_true rfl) hq3 (by decide) (fun c3 => ?_)
    have c3 : in32 _ := c3
    refine r_if_eq C dX11_slope_13 (tgt := 33) (by decide) c3 (fun n4 => ?_) (fun n4 => ?_)
    · have hf := ite_p n4 hf
      exact G.mask [false, false, false, false, false] rfl rfl (b_X11_slope_33 C hr   hf)
    · have hf := ite_n n4 hf
      refine r_iload C dX11_slope_16 rfl ?_
      refine r_if_lt C dX11_slope_18 (tgt := 33) (by decide) cv4 (fun n5 => ?_) (fun n5 => ?_)
      · have hf := ite_p n5 hf
        exact G.mask [false, false, false, false, false] rfl rfl (b_X11_slope_33 C hr   hf)
      · have hf := ite_n n5 hf
        refine r_iload C dX11_slope_21 rfl ?_
        refine r_i2l C dX11_slope_23 cv4 ?_
        refine r_iconst C dX11_slope_24 ?_
        refine r_bipush C dX11_slope_25 rfl ?_
        obtain ⟨r6, h6, hq6, hf⟩ := bd_s hf
        refine r_cS3 C (am_X11_within (gl g) n) cm_X11_within w_466 dX11_slope_27 ⟨Nat.le_of_ble_eq_true rfl, Nat.le_of_ble_eq_true rfl⟩ (in64_i cv4) (in32_of rfl) (in32_of rfl) rfl (Nat.le_of_ble_eq_true rfl) hq6 (by decide) (fun c6 => ?_)
        have c6 : in32 _ := c6
        refine r_if_eq C dX11_slope_30 (tgt := 35) (by decide) c6 (fun n7 => ?_) (fun n7 => ?_)
        · have hf := ite_p n7 hf
          refine r_iload_n C dX11_slope_35 rfl ?_
          refine r_iload_n C dX11_slope_36 rfl ?_
          refine r_icmp_eq C dX11_slope_37 (tgt := 47) (by decide) cv1 cv2 (fun n8 => ?_) (fun n8 => ?_)
          · have hf := ite_p n8 hf
            exact G.mask [false, false, false, false, false] rfl rfl (b_X11_slope_47 C hr   hf)
          · have hf := ite_n n8 hf
            refine r_iload_n C dX11_slope_40 rfl ?_
            obtain ⟨r9, h9, hq9, hf⟩ := bd_s hf
            refine r_cS1 C (am_X11_isDay (gl g) n) cm_X11_isDay w_501 dX11_slope_41 ⟨Nat.le_of_ble_eq_true rfl, Nat.le_of_ble_eq_true rfl⟩ cv3 rfl (Nat.le_of_ble_eq_true rfl) hq9 (by decide) (fun c9 => ?_)
            have c9 : in32 _ := c9
            refine r_if_ne C dX11_slope_44 (tgt := 50) (by decide) c9 (fun n10 => ?_) (fun n10 => ?_)
            · have hf := ite_n n10 hf
              refine r_aload_n C dX11_slope_50 rfl ?_
              obtain ⟨q11, hf⟩ := gf_s hf
              refine r_gf C ct11 (j := 4) (ji := 4) dX11_slope_51 q11 rfl rfl (by decide) w_444 rfl (fun c11 => ?_)
              refine r_aload_n C dX11_slope_54 rfl ?_
              obtain ⟨q12, hf⟩ := gf_s hf
              refine r_gf C ct11 (j := 0) (ji := 0) dX11_slope_55 q12 rfl rfl (by decide) w_440 rfl (fun c12 => ?_)
              refine r_iload_n C dX11_slope_58 rfl ?_
              refine r_iload_n C dX11_slope_59 rfl ?_
              refine r_iload_n C dX11_slope_60 rfl ?_
              obtain ⟨p13, hf⟩ := gk_s hf
              obtain ⟨r13, h13, hq13, hf⟩ := bd_s hf
              refine r_cV4 C (am_X7_seek (gl g) n) cm_X7_seek w_902 dX11_slope_61 ⟨Nat.le_of_ble_eq_true rfl, Nat.le_of_ble_eq_true rfl⟩ p13 rfl trivial cv1 cv2 cv3 rfl (Nat.le_of_ble_eq_true rfl) hq13 (by decide) (fun c13 => ?_)
              have c13 : in32 _ := c13
              refine r_if_ne C dX11_slope_64 (tgt := 70) (by decide) c13 (fun n14 => ?_) (fun n14 => ?_)
              · have hf := ite_n n14 hf
                refine r_iload C dX11_slope_70 rfl ?_
                refine r_if_ne C dX11_slope_72 (tgt := 83) (by decide) cv4 (fun n15 => ?_) (fun n15 => ?_)
                · have hf := ite_n n15 hf
                  refine r_iload C dX11_slope_83 rfl ?_
                  refine r_iconst C dX11_slope_85 ?_
                  refine r_icmp_ne C dX11_slope_86 (tgt := 97) (by decide) cv4 (in32_of rfl) (fun n16 => ?_) (fun n16 => ?_)
                  · have hf := ite_n n16 hf
                    refine r_iload C dX11_slope_97 rfl ?_
                    refine r_bipush C dX11_slope_99 rfl ?_
                    refine r_isub C dX11_slope_101 ?_
                    refine r_aload_n C dX11_slope_102 rfl ?_
                    obtain ⟨q17, hf⟩ := gf_s hf
                    refine r_gf C ct11 (j := 4) (ji := 4) dX11_slope_103 q17 rfl rfl (by decide) w_444 rfl (fun c17 => ?_)
                    obtain ⟨q18, hf⟩ := gf_s hf
                    refine r_gf C ct7 (j := 1) (ji := 1) dX11_slope_106 q18 rfl rfl (by decide) w_354 rfl (fun c18 => ?_)
                    have c18 : in32 _ := c18
                    refine r_icmp_ge C dX11_slope_109 (tgt := 128) (by decide) (in32_t _) c18 (fun n19 => ?_) (fun n19 => ?_)
                    · have hf := ite_p n19 hf
                      refine r_iconst C dX11_slope_128 ?_
                      exact G.mask [false, false, false, false, false] rfl rfl (b_X11_slope_129 C hr  (in32_of rfl) hf)
                    · have hf := ite_n n19 hf
                      refine r_aload_n C dX11_slope_112 rfl ?_
                      obtain ⟨q20, hf⟩ := gf_s hf
                      refine r_gf C ct11 (j := 4) (ji := 4) dX11_slope_113 q20 rfl rfl (by decide) w_444 rfl (fun c20 => ?_)
                      obtain ⟨q21, hf⟩ := gf_s hf
                      refine r_gf C ct7 (j := 0) (ji := 0) dX11_slope_116 q21 rfl rfl (by decide) w_352 rfl (fun c21 => ?_)
                      refine r_iload C dX11_slope_119 rfl ?_
                      refine r_bipush C dX11_slope_121 rfl ?_
                      refine r_isub C dX11_slope_123 ?_
                      obtain ⟨q22, hf⟩ := rd_s hf
                      refine r_iald C dX11_slope_124 q22 rfl (fun c22 => ?_)
                      refine r_goto C dX11_slope_125 (tgt := 129) (by decide) ?_
                      exact G.mask [false, false, false, false, false] rfl rfl (b_X11_slope_129 C hr  c22 hf)
                  · have hf := ite_p n16 hf
                    refine r_aload_n C dX11_slope_89 rfl ?_
                    obtain ⟨q23, hf⟩ := gf_s hf
                    refine r_gf C ct11 (j := 4) (ji := 4) dX11_slope_90 q23 rfl rfl (by decide) w_444 rfl (fun c23 => ?_)
                    obtain ⟨q24, hf⟩ := gf_s hf
                    refine r_gf C ct7 (j := 1) (ji := 1) dX11_slope_93 q24 rfl rfl (by decide) w_354 rfl (fun c24 => ?_)
                    have c24 : in32 _ := c24
                    cases hf
                    exact r_jret C hr dX11_slope_96 c24
                · have hf := ite_p n15 hf
                  refine r_aload_n C dX11_slope_75 rfl ?_
                  obtain ⟨q25, hf⟩ := gf_s hf
                  refine r_gf C ct11 (j := 4) (ji := 4) dX11_slope_76 q25 rfl rfl (by decide) w_444 rfl (fun c25 => ?_)
                  obtain ⟨q26, hf⟩ := gf_s hf
                  refine r_gf C ct7 (j := 2) (ji := 2) dX11_slope_79 q26 rfl rfl (by decide) w_356 rfl (fun c26 => ?_)
                  have c26 : in32 _ := c26
                  cases hf
                  exact r_jret C hr dX11_slope_82 c26
              · have hf := ite_p n14 hf
                refine r_bipush C dX11_slope_67 rfl ?_
                cases hf
                exact r_jret C hr dX11_slope_69 (in32_of rfl)
            · have hf := ite_p n10 hf
              exact G.mask [false, false, false, false, false] rfl rfl (b_X11_slope_47 C hr   hf)
        · have hf := ite_n n7 hf
          exact G.mask [false, false, false, false, false] rfl rfl (b_X11_slope_33 C hr   hf)
set_option maxRecDepth 20000 in
theorem am_X11_slope (l : Launch) (n : Nat) : AM l yX11_slope cX11_slope 5 (some .int) 6 140 [2, 0, 0, 0, 0] 0 (un5 (f_X11_slope n)) := by
  refine AM.intro (by decide) (fun xs hx => ?_) (fun g xs h Z hl C hr hx hf => ?_)
  · obtain ⟨a0, a1, a2, a3, a4, rfl, c0, c1, c2, c3, c4⟩ := canL_5 hx
    exact Nat.le_of_ble_eq_true rfl
  · obtain ⟨a0, a1, a2, a3, a4, rfl, c0, c1, c2, c3, c4⟩ := canL_5 hx
    have hf := (un5_e _ a0 a1 a2 a3 a4 _).symm.trans hf
    exact e_X11_slope (n := n) C hr c0 c1 c2 c3 c4 hf
/-! LinesPromised.claim(II)I -/
theorem dX11_claim_0 : decode cX11_claim 0 = .ok (.iload_n 1, 1) := by decide +kernel
theorem dX11_claim_1 : decode cX11_claim 1 = .ok (.i2l, 1) := by decide +kernel
theorem dX11_claim_2 : decode cX11_claim 2 = .ok (.iconst 0, 1) := by decide +kernel
theorem dX11_claim_3 : decode cX11_claim 3 = .ok (.bipush 79, 2) := by decide +kernel
theorem dX11_claim_5 : decode cX11_claim 5 = .ok (.invokestatic 46, 3) := by decide +kernel
theorem dX11_claim_8 : decode cX11_claim 8 = .ok (.ifCond .ne 5, 3) := by decide +kernel
theorem dX11_claim_11 : decode cX11_claim 11 = .ok (.iconst (-1), 1) := by decide +kernel
theorem dX11_claim_12 : decode cX11_claim 12 = .ok (.ireturn, 1) := by decide +kernel
theorem dX11_claim_13 : decode cX11_claim 13 = .ok (.iload_n 2, 1) := by decide +kernel
theorem dX11_claim_14 : decode cX11_claim 14 = .ok (.i2l, 1) := by decide +kernel
theorem dX11_claim_15 : decode cX11_claim 15 = .ok (.iconst 1, 1) := by decide +kernel
theorem dX11_claim_16 : decode cX11_claim 16 = .ok (.sipush 9999, 3) := by decide +kernel
theorem dX11_claim_19 : decode cX11_claim 19 = .ok (.invokestatic 46, 3) := by decide +kernel
theorem dX11_claim_22 : decode cX11_claim 22 = .ok (.ifCond .ne 6, 3) := by decide +kernel
theorem dX11_claim_25 : decode cX11_claim 25 = .ok (.bipush (-2), 2) := by decide +kernel
theorem dX11_claim_27 : decode cX11_claim 27 = .ok (.ireturn, 1) := by decide +kernel
theorem dX11_claim_28 : decode cX11_claim 28 = .ok (.aload_n 0, 1) := by decide +kernel
theorem dX11_claim_29 : decode cX11_claim 29 = .ok (.getfield 10, 3) := by decide +kernel
theorem dX11_claim_32 : decode cX11_claim 32 = .ok (.getfield 133, 3) := by decide +kernel
theorem dX11_claim_35 : decode cX11_claim 35 = .ok (.invokevirtual 137, 3) := by decide +kernel
theorem dX11_claim_38 : decode cX11_claim 38 = .ok (.ifCond .eq 6, 3) := by decide +kernel
theorem dX11_claim_41 : decode cX11_claim 41 = .ok (.bipush (-4), 2) := by decide +kernel
theorem dX11_claim_43 : decode cX11_claim 43 = .ok (.ireturn, 1) := by decide +kernel
theorem dX11_claim_44 : decode cX11_claim 44 = .ok (.new 146, 3) := by decide +kernel
theorem dX11_claim_47 : decode cX11_claim 47 = .ok (.dup, 1) := by decide +kernel
theorem dX11_claim_48 : decode cX11_claim 48 = .ok (.bipush 6, 2) := by decide +kernel
theorem dX11_claim_50 : decode cX11_claim 50 = .ok (.iconst (-1), 1) := by decide +kernel
theorem dX11_claim_51 : decode cX11_claim 51 = .ok (.aload_n 0, 1) := by decide +kernel
theorem dX11_claim_52 : decode cX11_claim 52 = .ok (.getfield 10, 3) := by decide +kernel
theorem dX11_claim_55 : decode cX11_claim 55 = .ok (.getfield 148, 3) := by decide +kernel
theorem dX11_claim_58 : decode cX11_claim 58 = .ok (.getstatic 151, 3) := by decide +kernel
theorem dX11_claim_61 : decode cX11_claim 61 = .ok (.getstatic 151, 3) := by decide +kernel
theorem dX11_claim_64 : decode cX11_claim 64 = .ok (.invokespecial 154, 3) := by decide +kernel
theorem dX11_claim_67 : decode cX11_claim 67 = .ok (.astore_n 3, 1) := by decide +kernel
theorem dX11_claim_68 : decode cX11_claim 68 = .ok (.aload_n 3, 1) := by decide +kernel
theorem dX11_claim_69 : decode cX11_claim 69 = .ok (.iload_n 1, 1) := by decide +kernel
theorem dX11_claim_70 : decode cX11_claim 70 = .ok (.iconst (-1), 1) := by decide +kernel
theorem dX11_claim_71 : decode cX11_claim 71 = .ok (.iconst (-1), 1) := by decide +kernel
theorem dX11_claim_72 : decode cX11_claim 72 = .ok (.iload_n 2, 1) := by decide +kernel
theorem dX11_claim_73 : decode cX11_claim 73 = .ok (.invokevirtual 157, 3) := by decide +kernel
theorem dX11_claim_76 : decode cX11_claim 76 = .ok (.aload_n 0, 1) := by decide +kernel
theorem dX11_claim_77 : decode cX11_claim 77 = .ok (.getfield 10, 3) := by decide +kernel
theorem dX11_claim_80 : decode cX11_claim 80 = .ok (.getfield 50, 3) := by decide +kernel
theorem dX11_claim_83 : decode cX11_claim 83 = .ok (.getfield 229, 3) := by decide +kernel
theorem dX11_claim_86 : decode cX11_claim 86 = .ok (.iload_n 1, 1) := by decide +kernel
theorem dX11_claim_87 : decode cX11_claim 87 = .ok (.dup2, 1) := by decide +kernel
theorem dX11_claim_88 : decode cX11_claim 88 = .ok (.iaload, 1) := by decide +kernel
theorem dX11_claim_89 : decode cX11_claim 89 = .ok (.iload_n 2, 1) := by decide +kernel
theorem dX11_claim_90 : decode cX11_claim 90 = .ok (.iadd, 1) := by decide +kernel
theorem dX11_claim_91 : decode cX11_claim 91 = .ok (.iastore, 1) := by decide +kernel
theorem dX11_claim_92 : decode cX11_claim 92 = .ok (.aload_n 0, 1) := by decide +kernel
theorem dX11_claim_93 : decode cX11_claim 93 = .ok (.getfield 10, 3) := by decide +kernel
theorem dX11_claim_96 : decode cX11_claim 96 = .ok (.getfield 133, 3) := by decide +kernel
theorem dX11_claim_99 : decode cX11_claim 99 = .ok (.aload_n 3, 1) := by decide +kernel
theorem dX11_claim_100 : decode cX11_claim 100 = .ok (.invokevirtual 168, 3) := by decide +kernel
theorem dX11_claim_103 : decode cX11_claim 103 = .ok (.ireturn, 1) := by decide +kernel
theorem cm_X11_claim : CM yX11_claim cX11_claim 4 (some .int) 2 11 := ⟨w_938, w_939, w_940, w_87, ⟨by decide +kernel, by decide +kernel, by decide +kernel⟩, ⟨_, _, rfl⟩, by decide⟩
noncomputable def f_X11_claim (n : Nat) (v0 v1 v2 : Int) (h : MM) : RR :=
  bd (f_X11_within n v1 0 79 h) fun r1 h1 =>
  if r1 = 0 then
    some ((-1), h1)
  else
  bd (f_X11_within n v2 1 9999 h1) fun r3 h3 =>
  if r3 = 0 then
    some ((-2), h3)
  else
  gf h3 v0 11 0 fun r5 =>
  gf h3 r5 10 1 fun r6 =>
  gk h3 r6 5 <|
  bd (f_X5_isFull n r6 h3) fun r7 h7 =>
  if r7 = 0 then
    nw h7 4 11 fun r9 h9 =>
    gf h9 v0 11 0 fun r10 =>
    gf h9 r10 10 9 fun r11 =>
    nz r9 <|
    bd (f_X4_init n r9 6 ((-1)) r11 3 3 h9) fun r12 h12 =>
    gk h12 r9 4 <|
    bd (f_X4_tell n r9 v1 ((-1)) ((-1)) v2 h12) fun r13 h13 =>
    gf h13 v0 11 0 fun r14 =>
    gf h13 r14 10 0 fun r15 =>
    gf h13 r15 1 2 fun r16 =>
    rd h13 r16 100 v1 fun r17 =>
    wt h13 r16 100 v1 (wr (r17 + v2)) fun h18 =>
    gf h18 v0 11 0 fun r19 =>
    gf h18 r19 10 1 fun r20 =>
    gk h18 r20 5 <|
    bd (f_X5_file n r20 r9 h18) fun r21 h21 =>
    some (r21, h21)
  else
  some ((-4), h7)
set_option maxRecDepth 20000 in
theorem e_X11_claim {g : GT} {Z : Int × MM} {n : Nat} (C : Cx g cX11_claim 4 yX11_claim 2 46) (hr : Rt g (some .int) 0 Z) {v0 v1 v2 : Int} (cv0 : cK 2 v0) (cv1 : cK 0 v1) (cv2 : cK 0 v2) {h : MM} (hf : f_X11_claim n v0 v1 v2 h = some Z) : G g 0 [(2, v0), (0, v1), (0, v2), (3, 0)] [] h := by
  have cv1 : in32 v1 := cv1
  have cv2 : in32 v2 := cv2
  unfold f_X11_claim at hf
  refine r_iload_n C dX11_claim_0 rfl ?_
  refine r_i2l C dX11_claim_1 cv1 ?_
  refine r_iconst C dX11_claim_2 ?_
  refine r_bipush C dX11_claim_3 rfl ?_
  obtain ⟨r1, h1, hq1, hf⟩ := bd_s hf
  refine r_cS3 C (am_X11_within (gl g) n) cm_X11_within w_466 dX11_claim_5 ⟨Nat.le_of_ble_eq_true rfl, Nat.le_of_ble_eq_true rfl⟩ (in64_i cv1) (in32_of rfl) (in32_of rfl) rfl (Nat.le_of_ble_eq_true rfl) hq1 (by decide) (fun c1 => ?_)
  have c1 : in32 _ := c1
  refine r_if_ne C dX11_claim_8 (tgt := 13) (by decide) c1 (fun n2 => ?_) (fun n2 => ?_)
  · have hf := ite_n n2 hf
    refine r_iload_n C dX11_claim_13 rfl ?_
    refine r_i2l C dX11_claim_14 cv2 ?_
    refine r_iconst C dX11_claim_15 ?_
    refine r_sipush C dX11_claim_16 rfl ?_
    obtain ⟨r3, h3, hq3, hf⟩ := bd_s hf
    refine r_cS3 C (am_X11_within (gl g) n) cm_X11_within w_466 dX11_claim_19 ⟨Nat.le_of_ble_eq_true rfl, Nat.le_of_ble_eq_true rfl⟩ (in64_i cv2) (in32_of rfl) (in32_of rfl) rfl (Nat.le_of_ble_eq_true rfl) hq3 (by decide) (fun c3 => ?_)
    have c3 : in32 _ := c3
    refine r_if_ne C dX11_claim_22 (tgt := 28) (by decide) c3 (fun n4 => ?_) (fun n4 => ?_)
    · have hf := ite_n n4 hf
      refine r_aload_n C dX11_claim_28 rfl ?_
      obtain ⟨q5, hf⟩ := gf_s hf
      refine r_gf C ct11 (j := 0) (ji := 0) dX11_claim_29 q5 rfl rfl (by decide) w_440 rfl (fun c5 => ?_)
      obtain ⟨q6, hf⟩ := gf_s hf
      refine r_gf C ct10 (j := 1) (ji := 1) dX11_claim_32 q6 rfl rfl (by decide) w_302 rfl (fun c6 => ?_)
      obtain ⟨p7, hf⟩ := gk_s hf
      obtain ⟨r7, h7, hq7, hf⟩ := bd_s hf
      refine r_cV0 C (am_X5_isFull (gl g) n) cm_X5_isFull w_700 dX11_claim_35 ⟨Nat.le_of_ble_eq_true rfl, Nat.le_of_ble_eq_true rfl⟩ p7 rfl  rfl (Nat.le_of_ble_eq_true rfl) hq7 (by decide) (fun c7 => ?_)
      have c7 : in32 _ := c7
      refine r_if_eq C dX11_claim_38 (tgt := 44) (by decide) c7 (fun n8 => ?_) (fun n8 => ?_)
      · have hf := ite_p n8 hf
        obtain ⟨q9, hf⟩ := nw_s hf
        refine r_new C ct4 cf4 (ti := 4) (ni := 11) dX11_claim_44 q9 rfl rfl w_704 w_705 w_106 ?_
        refine r_dup C dX11_claim_47 (by decide) ?_
        refine r_bipush C dX11_claim_48 rfl ?_
        refine r_iconst C dX11_claim_50 ?_
        refine r_aload_n C dX11_claim_51 rfl ?_
        obtain ⟨q10, hf⟩ := gf_s hf
        refine r_gf C ct11 (j := 0) (ji := 0) dX11_claim_52 q10 rfl rfl (by decide) w_440 rfl (fun c10 => ?_)
        obtain ⟨q11, hf⟩ := gf_s hf
        refine r_gf C ct10 (j := 9) (ji := 9) dX11_claim_55 q11 rfl rfl (by decide) w_317 rfl (fun c11 => ?_)
        have c11 : in32 _ := c11
        refine r_gsN C dX11_claim_58 w_706 ?_
        refine r_gsN C dX11_claim_61 w_706 ?_
        obtain ⟨p12, hf⟩ := nz_s hf
        obtain ⟨r12, h12, hq12, hf⟩ := bd_s hf
        refine r_cI5 C (am_X4_init (gl g) n) cm_X4_init w_708 dX11_claim_64 ⟨Nat.le_of_ble_eq_true rfl, Nat.le_of_ble_eq_true rfl⟩ p12 (in32_of rfl) (in32_of rfl) c11 trivial trivial rfl (Nat.le_of_ble_eq_true rfl) hq12 ?_
        refine r_astore_n C dX11_claim_67 (Nat.le_of_ble_eq_true rfl) rfl ?_
        refine r_aload_n C dX11_claim_68 rfl ?_
        refine r_iload_n C dX11_claim_69 rfl ?_
        refine r_iconst C dX11_claim_70 ?_
        refine r_iconst C dX11_claim_71 ?_
        refine r_iload_n C dX11_claim_72 rfl ?_
        obtain ⟨p13, hf⟩ := gk_s hf
        obtain ⟨r13, h13, hq13, hf⟩ := bd_s hf
        refine r_cV4v C (am_X4_tell (gl g) n) cm_X4_tell w_781 dX11_claim_73 ⟨Nat.le_of_ble_eq_true rfl, Nat.le_of_ble_eq_true rfl⟩ p13 rfl cv1 (in32_of rfl) (in32_of rfl) cv2 rfl (Nat.le_of_ble_eq_true rfl) hq13 ?_
        refine r_aload_n C dX11_claim_76 rfl ?_
        obtain ⟨q14, hf⟩ := gf_s hf
        refine r_gf C ct11 (j := 0) (ji := 0) dX11_claim_77 q14 rfl rfl (by decide) w_440 rfl (fun c14 => ?_)
        obtain ⟨q15, hf⟩ := gf_s hf
        refine r_gf C ct10 (j := 0) (ji := 0) dX11_claim_80 q15 rfl rfl (by decide) w_300 rfl (fun c15 => ?_)
        obtain ⟨q16, hf⟩ := gf_s hf
        refine r_gf C ct1 (j := 2) (ji := 2) dX11_claim_83 q16 rfl rfl (by decide) w_135 rfl (fun c16 => ?_)
        refine r_iload_n C dX11_claim_86 rfl ?_
        refine r_dup2 C dX11_claim_87 (by decide) (by decide) ?_
        obtain ⟨q17, hf⟩ := rd_s hf
        refine r_iald C dX11_claim_88 q17 rfl (fun c17 => ?_)
        refine r_iload_n C dX11_claim_89 rfl ?_
        refine r_iadd C dX11_claim_90 ?_
        obtain ⟨q18, hf⟩ := wt_s hf
        refine r_iast C dX11_claim_91 q18 rfl (in32_t _) ?_
        refine r_aload_n C dX11_claim_92 rfl ?_
        obtain ⟨q19, hf⟩ := gf_s hf
        refine r_gf C ct11 (j := 0) (ji := 0) dX11_claim_93 q19 rfl rfl (by decide) w_440 rfl (fun c19 => ?_)
        obtain ⟨q20, hf⟩ := gf_s hf
        refine r_gf C ct10 (j := 1) (ji := 1) dX11_claim_96 q20 rfl rfl (by decide) w_302 rfl (fun c20 => ?_)
        refine r_aload_n C dX11_claim_99 rfl ?_
        obtain ⟨p21, hf⟩ := gk_s hf
        obtain ⟨r21, h21, hq21, hf⟩ := bd_s hf
        refine r_cV1 C (am_X5_file (gl g) n) cm_X5_file w_789 dX11_claim_100 ⟨Nat.le_of_ble_eq_true rfl, Nat.le_of_ble_eq_true rfl⟩ p21 rfl trivial rfl (Nat.le_of_ble_eq_true rfl) hq21 (by decide) (fun c21 => ?_)
        have c21 : in32 _ := c21
        cases hf
        exact r_jret C hr dX11_claim_103 c21
      · have hf := ite_n n8 hf
        refine r_bipush C dX11_claim_41 rfl ?_
        cases hf
        exact r_jret C hr dX11_claim_43 (in32_of rfl)
    · have hf := ite_p n4 hf
      refine r_bipush C dX11_claim_25 rfl ?_
      cases hf
      exact r_jret C hr dX11_claim_27 (in32_of rfl)
  · have hf := ite_p n2 hf
    refine r_iconst C dX11_claim_11 ?_
    cases hf
    exact r_jret C hr dX11_claim_12 (in32_of rfl)
set_option maxRecDepth 20000 in
theorem am_X11_claim (l : Launch) (n : Nat) : AM l yX11_claim cX11_claim 4 (some .int) 2 46 [2, 0, 0] 0 (un3 (f_X11_claim n)) := by
  refine AM.intro (by decide) (fun xs hx => ?_) (fun g xs h Z hl C hr hx hf => ?_)
  · obtain ⟨a0, a1, a2, rfl, c0, c1, c2⟩ := canL_3 hx
    exact Nat.le_of_ble_eq_true rfl
  · obtain ⟨a0, a1, a2, rfl, c0, c1, c2⟩ := canL_3 hx
    have hf := (un3_e _ a0 a1 a2 _).symm.trans hf
    exact e_X11_claim (n := n) C hr c0 c1 c2 hf
/-! LinesPromised$Papers.hasBill(I)Z -/
theorem dX5_hasBill_0 : decode cX5_hasBill 0 = .ok (.iconst 0, 1) := by decide +kernel
theorem dX5_hasBill_1 : decode cX5_hasBill 1 = .ok (.istore_n 2, 1) := by decide +kernel
theorem dX5_hasBill_2 : decode cX5_hasBill 2 = .ok (.iload_n 2, 1) := by decide +kernel
theorem dX5_hasBill_3 : decode cX5_hasBill 3 = .ok (.aload_n 0, 1) := by decide +kernel
theorem dX5_hasBill_4 : decode cX5_hasBill 4 = .ok (.getfield 44, 3) := by decide +kernel
theorem dX5_hasBill_7 : decode cX5_hasBill 7 = .ok (.if_icmp .ge 30, 3) := by decide +kernel
theorem dX5_hasBill_10 : decode cX5_hasBill 10 = .ok (.aload_n 0, 1) := by decide +kernel
theorem dX5_hasBill_11 : decode cX5_hasBill 11 = .ok (.iload_n 2, 1) := by decide +kernel
theorem dX5_hasBill_12 : decode cX5_hasBill 12 = .ok (.iconst 3, 1) := by decide +kernel
theorem dX5_hasBill_13 : decode cX5_hasBill 13 = .ok (.invokevirtual 73, 3) := by decide +kernel
theorem dX5_hasBill_16 : decode cX5_hasBill 16 = .ok (.astore_n 3, 1) := by decide +kernel
theorem dX5_hasBill_17 : decode cX5_hasBill 17 = .ok (.aload_n 3, 1) := by decide +kernel
theorem dX5_hasBill_18 : decode cX5_hasBill 18 = .ok (.ifnull 13, 3) := by decide +kernel
theorem dX5_hasBill_21 : decode cX5_hasBill 21 = .ok (.aload_n 3, 1) := by decide +kernel
theorem dX5_hasBill_22 : decode cX5_hasBill 22 = .ok (.getfield 83, 3) := by decide +kernel
theorem dX5_hasBill_25 : decode cX5_hasBill 25 = .ok (.iload_n 1, 1) := by decide +kernel
theorem dX5_hasBill_26 : decode cX5_hasBill 26 = .ok (.if_icmp .ne 5, 3) := by decide +kernel
theorem dX5_hasBill_29 : decode cX5_hasBill 29 = .ok (.iconst 1, 1) := by decide +kernel
theorem dX5_hasBill_30 : decode cX5_hasBill 30 = .ok (.ireturn, 1) := by decide +kernel
theorem dX5_hasBill_31 : decode cX5_hasBill 31 = .ok (.iinc 2 1, 3) := by decide +kernel
theorem dX5_hasBill_34 : decode cX5_hasBill 34 = .ok (.goto (-32), 3) := by decide +kernel
theorem dX5_hasBill_37 : decode cX5_hasBill 37 = .ok (.iconst 0, 1) := by decide +kernel
theorem dX5_hasBill_38 : decode cX5_hasBill 38 = .ok (.ireturn, 1) := by decide +kernel
theorem cm_X5_hasBill : CM yX5_hasBill cX5_hasBill 4 (some .boolean) 1 5 := ⟨w_946, w_947, w_948, w_90, ⟨by decide +kernel, by decide +kernel, by decide +kernel⟩, ⟨_, _, rfl⟩, by decide⟩
noncomputable def f_X5_hasBill_31 (n : Nat) (rec2 : Int → MM → RR) (v0 v1 v2 : Int) (h : MM) : RR :=
  lb (wr (v2 + 1)) fun x1 =>
  rec2 x1 h
noncomputable def f_X5_hasBill_2b (n : Nat) (rec2 : Int → MM → RR) (v0 v1 v2 : Int) (h : MM) : RR :=
  gf h v0 5 7 fun r1 =>
  if r1 ≤ v2 then
    ck (isb 0) <|
    some (0, h)
  else
  gk h v0 5 <|
  bd (f_X5_find n v0 v2 3 h) fun r4 h4 =>
  if r4 = 0 then
    f_X5_hasBill_31 n rec2 v0 v1 v2 h4
  else
  gf h4 r4 4 1 fun r6 =>
  if r6 = v1 then
    ck (isb 1) <|
    some (1, h4)
  else
  f_X5_hasBill_31 n rec2 v0 v1 v2 h4
noncomputable def f_X5_hasBill_2 (n : Nat)  (v0 v1 : Int) : Nat → Int → MM → RR
  | 0, _, _ => none
  | k + 1, v2, h => f_X5_hasBill_2b n  (f_X5_hasBill_2 n  v0 v1 k) v0 v1 v2 h
noncomputable def f_X5_hasBill (n : Nat) (v0 v1 : Int) (h : MM) : RR :=
  f_X5_hasBill_2 n v0 v1 n 0 h
set_option maxRecDepth 20000 in
theorem b_X5_hasBill_31 {g : GT} {Z : Int × MM} {n : Nat} (C : Cx g cX5_hasBill 4 yX5_hasBill 3 67) (hr : Rt g (some .boolean) 0 Z) {v0 v1 v2 : Int}  {rec2 : Int → MM → RR} (L2 : ∀ (u2 : Int) (h : MM), in32 u2 → rec2 u2 h = some Z → G g 2 [(2, v0), (0, v1), (0, u2), (3, 0)] [] h) (cv1 : in32 v1) (cv2 : in32 v2) {h : MM} (hf : f_X5_hasBill_31 n rec2 v0 v1 v2 h = some Z) : G g 31 [(2, v0), (0, v1), (0, v2), (3, 0)] [] h := by
  unfold f_X5_hasBill_31 at hf
  obtain ⟨x1, e1, hf⟩ := lb_s hf
  have c1 : in32 x1 := by rw [e1]; exact (in32_t _)
  refine r_iincL C dX5_hasBill_31 rfl e1 (Nat.le_of_ble_eq_true rfl) rfl ?_
  refine r_goto C dX5_hasBill_34 (tgt := 2) (by decide) ?_
  exact G.mask [true, true, true, false] rfl rfl (L2 _ _ c1 hf)
set_option maxRecDepth 20000 in
theorem b_X5_hasBill_2b {g : GT} {Z : Int × MM} {n : Nat} (C : Cx g cX5_hasBill 4 yX5_hasBill 3 67) (hr : Rt g (some .boolean) 0 Z) {v0 v1 v2 : Int}  {rec2 : Int → MM → RR} (L2 : ∀ (u2 : Int) (h : MM), in32 u2 → rec2 u2 h = some Z → G g 2 [(2, v0), (0, v1), (0, u2), (3, 0)] [] h) (cv1 : in32 v1) (cv2 : in32 v2) {h : MM} (hf : f_X5_hasBill_2b n rec2 v0 v1 v2 h = some Z) : G g 2 [(2, v0), (0, v1), (0, v2), (3, 0)] [] h := by
  unfold f_X5_hasBill_2b at hf
  refine r_iload_n C dX5_hasBill_2 rfl ?_
  refine r_aload_n C dX5_hasBill_3 rfl ?_
  obtain ⟨q1, hf⟩ := gf_s hf
  refine r_gf C ct5 (j := 7) (ji := 7) dX5_hasBill_4 q1 rfl rfl (by decide) w_177 rfl (fun c1 => ?_)
  have c1 : in32 _ := c1
  refine r_icmp_ge C dX5_hasBill_7 (tgt := 37) (by decide) cv2 c1 (fun n2 => ?_) (fun n2 => ?_)
  · have hf := ite_p n2 hf
    refine r_iconst C dX5_hasBill_37 ?_
    obtain ⟨b3, hf⟩ := ck_s hf
    cases hf
    exact r_zret C hr dX5_hasBill_38 b3
  · have hf := ite_n n2 hf
    refine r_aload_n C dX5_hasBill_10 rfl ?_
    refine r_iload_n C dX5_hasBill_11 rfl ?_
    refine r_iconst C dX5_hasBill_12 ?_
    obtain ⟨p4, hf⟩ := gk_s hf
    obtain ⟨r4, h4, hq4, hf⟩ := bd_s hf
    refine r_cV2 C (am_X5_find (gl g) n) cm_X5_find w_949 dX5_hasBill_13 ⟨Nat.le_of_ble_eq_true rfl, Nat.le_of_ble_eq_true rfl⟩ p4 rfl cv2 (in32_of rfl) rfl (Nat.le_of_ble_eq_true rfl) hq4 (by decide) (fun c4 => ?_)
    refine r_astore_n C dX5_hasBill_16 (Nat.le_of_ble_eq_true rfl) rfl ?_
    refine r_aload_n C dX5_hasBill_17 rfl ?_
    refine r_ifnull C dX5_hasBill_18 (tgt := 31) (by decide) (fun n5 => ?_) (fun n5 => ?_)
    · have hf := ite_p n5 hf
      exact G.mask [true, true, true, false] rfl rfl (b_X5_hasBill_31 C hr L2 cv1 cv2 hf)
    · have hf := ite_n n5 hf
      refine r_aload_n C dX5_hasBill_21 rfl ?_
      obtain ⟨q6, hf⟩ := gf_s hf
      refine r_gf C ct4 (j := 1) (ji := 1) dX5_hasBill_22 q6 rfl rfl (by decide) w_718 rfl (fun c6 => ?_)
      have c6 : in32 _ := c6
      refine r_iload_n C dX5_hasBill_25 rfl ?_
      refine r_icmp_ne C dX5_hasBill_26 (tgt := 31) (by decide) c6 cv1 (fun n7 => ?_) (fun n7 => ?_)
      · have hf := ite_n n7 hf
        exact G.mask [true, true, true, false] rfl rfl (b_X5_hasBill_31 C hr L2 cv1 cv2 hf)
      · have hf := ite_p n7 hf
        refine r_iconst C dX5_hasBill_29 ?_
        obtain ⟨b8, hf⟩ := ck_s hf
        cases hf
        exact r_zret C hr dX5_hasBill_30 b8
set_option maxRecDepth 20000 in
theorem l_X5_hasBill_2 {g : GT} {Z : Int × MM} {n : Nat} (C : Cx g cX5_hasBill 4 yX5_hasBill 3 67) (hr : Rt g (some .boolean) 0 Z) {v0 v1 : Int}   (cv1 : in32 v1) : ∀ (k : Nat) (v2 : Int) (h : MM), in32 v2 → f_X5_hasBill_2 n  v0 v1 k v2 h = some Z → G g 2 [(2, v0), (0, v1), (0, v2), (3, 0)] [] h := by
  intro k
  induction k with
  | zero => intro v2 h cv2 hf; exact absurd hf (by intro z; cases z)
  | succ k ih => intro v2 h cv2 hf; exact b_X5_hasBill_2b C hr (rec2 := f_X5_hasBill_2 n  v0 v1 k)  ih cv1 cv2 (show f_X5_hasBill_2b n  (f_X5_hasBill_2 n  v0 v1 k) v0 v1 v2 h = some Z from hf)
set_option maxRecDepth 20000 in
theorem e_X5_hasBill {g : GT} {Z : Int × MM} {n : Nat} (C : Cx g cX5_hasBill 4 yX5_hasBill 3 67) (hr : Rt g (some .boolean) 0 Z) {v0 v1 : Int} (cv0 : cK 2 v0) (cv1 : cK 0 v1) {h : MM} (hf : f_X5_hasBill n v0 v1 h = some Z) : G g 0 [(2, v0), (0, v1), (3, 0), (3, 0)] [] h := by
  have cv1 : in32 v1 := cv1
  unfold f_X5_hasBill at hf
  refine r_iconst C dX5_hasBill_0 ?_
  refine r_istore_n C dX5_hasBill_1 (Nat.le_of_ble_eq_true rfl) rfl ?_
  exact G.mask [true, true, true, false] rfl rfl (l_X5_hasBill_2 C hr  cv1 _ _ _ (in32_of rfl) hf)
set_option maxRecDepth 20000 in
theorem am_X5_hasBill (l : Launch) (n : Nat) : AM l yX5_hasBill cX5_hasBill 4 (some .boolean) 3 67 [2, 0] 0 (un2 (f_X5_hasBill n)) := by
  refine AM.intro (by decide) (fun xs hx => ?_) (fun g xs h Z hl C hr hx hf => ?_)
  · obtain ⟨a0, a1, rfl, c0, c1⟩ := canL_2 hx
    exact Nat.le_of_ble_eq_true rfl
  · obtain ⟨a0, a1, rfl, c0, c1⟩ := canL_2 hx
    have hf := (un2_e _ a0 a1 _).symm.trans hf
    exact e_X5_hasBill (n := n) C hr c0 c1 hf
/-! LinesPromised$World.isSound(LLinesPromised$Paper;)Z -/
theorem dX10_isSound_0 : decode cX10_isSound 0 = .ok (.aload_n 0, 1) := by decide +kernel
theorem dX10_isSound_1 : decode cX10_isSound 1 = .ok (.aload_n 1, 1) := by decide +kernel
theorem dX10_isSound_2 : decode cX10_isSound 2 = .ok (.aload_n 0, 1) := by decide +kernel
theorem dX10_isSound_3 : decode cX10_isSound 3 = .ok (.getfield 85, 3) := by decide +kernel
theorem dX10_isSound_6 : decode cX10_isSound 6 = .ok (.invokevirtual 180, 3) := by decide +kernel
theorem dX10_isSound_9 : decode cX10_isSound 9 = .ok (.bipush (-5), 2) := by decide +kernel
theorem dX10_isSound_11 : decode cX10_isSound 11 = .ok (.if_icmp .ne 21, 3) := by decide +kernel
theorem dX10_isSound_14 : decode cX10_isSound 14 = .ok (.aload_n 0, 1) := by decide +kernel
theorem dX10_isSound_15 : decode cX10_isSound 15 = .ok (.aload_n 1, 1) := by decide +kernel
theorem dX10_isSound_16 : decode cX10_isSound 16 = .ok (.aload_n 0, 1) := by decide +kernel
theorem dX10_isSound_17 : decode cX10_isSound 17 = .ok (.getfield 85, 3) := by decide +kernel
theorem dX10_isSound_20 : decode cX10_isSound 20 = .ok (.invokevirtual 184, 3) := by decide +kernel
theorem dX10_isSound_23 : decode cX10_isSound 23 = .ok (.bipush (-5), 2) := by decide +kernel
theorem dX10_isSound_25 : decode cX10_isSound 25 = .ok (.if_icmp .ne 7, 3) := by decide +kernel
theorem dX10_isSound_28 : decode cX10_isSound 28 = .ok (.iconst 1, 1) := by decide +kernel
theorem dX10_isSound_29 : decode cX10_isSound 29 = .ok (.goto 4, 3) := by decide +kernel
theorem dX10_isSound_32 : decode cX10_isSound 32 = .ok (.iconst 0, 1) := by decide +kernel
theorem dX10_isSound_33 : decode cX10_isSound 33 = .ok (.ireturn, 1) := by decide +kernel
theorem cm_X10_isSound : CM yX10_isSound cX10_isSound 2 (some .boolean) 1 10 := ⟨w_955, w_956, w_957, w_88, ⟨by decide +kernel, by decide +kernel, by decide +kernel⟩, ⟨_, _, rfl⟩, by decide⟩
noncomputable def f_X10_isSound_33 (n : Nat)  (s0 : Int) (h : MM) : RR :=
  ck (isb s0) <|
  some (s0, h)
noncomputable def f_X10_isSound_32 (n : Nat)  (h : MM) : RR :=
  f_X10_isSound_33 n 0 h
noncomputable def f_X10_isSound (n : Nat) (v0 v1 : Int) (h : MM) : RR :=
  gf h v0 10 9 fun r1 =>
  gk h v0 10 <|
  bd (f_X10_whereNotClose n v0 v1 r1 h) fun r2 h2 =>
  if r2 = (-5) then
    gf h2 v0 10 9 fun r4 =>
    gk h2 v0 10 <|
    bd (f_X10_whereSteep n v0 v1 r4 h2) fun r5 h5 =>
    if r5 = (-5) then
      f_X10_isSound_33 n 1 h5
    else
    f_X10_isSound_32 n h5
  else
  f_X10_isSound_32 n h2
set_option maxRecDepth 20000 in
theorem b_X10_isSound_33 {g : GT} {Z : Int × MM} {n : Nat} (C : Cx g cX10_isSound 2 yX10_isSound 4 96) (hr : Rt g (some .boolean) 0 Z) {s0 : Int}    (cs0 : in32 s0) {h : MM} (hf : f_X10_isSound_33 n  s0 h = some Z) : G g 33 [(3, 0), (3, 0)] [(0, s0)] h := by
  unfold f_X10_isSound_33 at hf
  obtain ⟨b1, hf⟩ := ck_s hf
  cases hf
  exact r_zret C hr dX10_isSound_33 b1
set_option maxRecDepth 20000 in
theorem b_X10_isSound_32 {g : GT} {Z : Int × MM} {n : Nat} (C : Cx g cX10_isSound 2 yX10_isSound 4 96) (hr : Rt g (some .boolean) 0 Z)     {h : MM} (hf : f_X10_isSound_32 n   h = some Z) : G g 32 [(3, 0), (3, 0)] [] h := by
  unfold f_X10_isSound_32 at hf
  refine r_iconst C dX10_isSound_32 ?_
  exact G.mask [false, false] rfl rfl (b_X10_isSound_33 C hr  (in32_of rfl) hf)
set_option maxRecDepth 20000 in
theorem e_X10_isSound {g : GT} {Z : Int × MM} {n : Nat} (C : Cx g cX10_isSound 2 yX10_isSound 4 96) (hr : Rt g (some .boolean) 0 Z) {v0 v1 : Int} (cv0 : cK 2 v0) (cv1 : cK 2 v1) {h : MM} (hf : f_X10_isSound n v0 v1 h = some Z) : G g 0 [(2, v0), (2, v1)] [] h := by
  unfold f_X10_isSound at hf
  refine r_aload_n C dX10_isSound_0 rfl ?_
  refine r_aload_n C dX10_isSound_1 rfl ?_
  refine r_aload_n C dX10_isSound_2 rfl ?_
  obtain ⟨q1, hf⟩ := gf_s hf
  refine r_gf C ct10 (j := 9) (ji := 9) dX10_isSound_3 q1 rfl rfl (by decide) w_316 rfl (fun c1 => ?_)
  have c1 : in32 _ := c1
  obtain ⟨p2, hf⟩ := gk_s hf
  obtain ⟨r2, h2, hq2, hf⟩ := bd_s hf
  refine r_cV2 C (am_X10_whereNotClose (gl g) n) cm_X10_whereNotClose w_958 dX10_isSound_6 ⟨Nat.le_of_ble_eq_true rfl, Nat.le_of_ble_eq_true rfl⟩ p2 rfl trivial c1 rfl (Nat.le_of_ble_eq_true rfl) hq2 (by decide) (fun c2 => ?_)
  have c2 : in32 _ := c2
  refine r_bipush C dX10_isSound_9 rfl ?_
  refine r_icmp_ne C dX10_isSound_11 (tgt := 32) (by decide) c2 (in32_of rfl) (fun n3 => ?_) (fun n3 => ?_)
  · have hf := ite_n n3 hf
    exact G.mask [false, false] rfl rfl (b_X10_isSound_32 C hr   hf)
  · have hf := ite_p n3 hf
    refine r_aload_n C dX10_isSound_14 rfl ?_
    refine r_aload_n C dX10_isSound_15 rfl ?_
    refine r_aload_n C dX10_isSound_16 rfl ?_
    obtain ⟨q4, hf⟩ := gf_s hf
    refine r_gf C ct10 (j := 9) (ji := 9) dX10_isSound_17 q4 rfl rfl (by decide) w_316 rfl (fun c4 => ?_)
    have c4 : in32 _ := c4
    obtain ⟨p5, hf⟩ := gk_s hf
    obtain ⟨r5, h5, hq5, hf⟩ := bd_s hf
    refine r_cV2 C (am_X10_whereSteep (gl g) n) cm_X10_whereSteep w_959 dX10_isSound_20 ⟨Nat.le_of_ble_eq_true rfl, Nat.le_of_ble_eq_true rfl⟩ p5 rfl trivial c4 rfl (Nat.le_of_ble_eq_true rfl) hq5 (by decide) (fun c5 => ?_)
    have c5 : in32 _ := c5
    refine r_bipush C dX10_isSound_23 rfl ?_
    refine r_icmp_ne C dX10_isSound_25 (tgt := 32) (by decide) c5 (in32_of rfl) (fun n6 => ?_) (fun n6 => ?_)
    · have hf := ite_n n6 hf
      exact G.mask [false, false] rfl rfl (b_X10_isSound_32 C hr   hf)
    · have hf := ite_p n6 hf
      refine r_iconst C dX10_isSound_28 ?_
      refine r_goto C dX10_isSound_29 (tgt := 33) (by decide) ?_
      exact G.mask [false, false] rfl rfl (b_X10_isSound_33 C hr  (in32_of rfl) hf)
set_option maxRecDepth 20000 in
theorem am_X10_isSound (l : Launch) (n : Nat) : AM l yX10_isSound cX10_isSound 2 (some .boolean) 4 96 [2, 2] 0 (un2 (f_X10_isSound n)) := by
  refine AM.intro (by decide) (fun xs hx => ?_) (fun g xs h Z hl C hr hx hf => ?_)
  · obtain ⟨a0, a1, rfl, c0, c1⟩ := canL_2 hx
    exact Nat.le_of_ble_eq_true rfl
  · obtain ⟨a0, a1, rfl, c0, c1⟩ := canL_2 hx
    have hf := (un2_e _ a0 a1 _).symm.trans hf
    exact e_X10_isSound (n := n) C hr c0 c1 hf
/-! LinesPromised$World.canBeBrought(LLinesPromised$Paper;)Z -/
theorem dX10_canBeBrought_0 : decode cX10_canBeBrought 0 = .ok (.aload_n 1, 1) := by decide +kernel
theorem dX10_canBeBrought_1 : decode cX10_canBeBrought 1 = .ok (.getfield 156, 3) := by decide +kernel
theorem dX10_canBeBrought_4 : decode cX10_canBeBrought 4 = .ok (.bipush (-5), 2) := by decide +kernel
theorem dX10_canBeBrought_6 : decode cX10_canBeBrought 6 = .ok (.if_icmp .ne 31, 3) := by decide +kernel
theorem dX10_canBeBrought_9 : decode cX10_canBeBrought 9 = .ok (.aload_n 0, 1) := by decide +kernel
theorem dX10_canBeBrought_10 : decode cX10_canBeBrought 10 = .ok (.aload_n 1, 1) := by decide +kernel
theorem dX10_canBeBrought_11 : decode cX10_canBeBrought 11 = .ok (.invokevirtual 187, 3) := by decide +kernel
theorem dX10_canBeBrought_14 : decode cX10_canBeBrought 14 = .ok (.ifCond .eq 23, 3) := by decide +kernel
theorem dX10_canBeBrought_17 : decode cX10_canBeBrought 17 = .ok (.aload_n 0, 1) := by decide +kernel
theorem dX10_canBeBrought_18 : decode cX10_canBeBrought 18 = .ok (.getfield 85, 3) := by decide +kernel
theorem dX10_canBeBrought_21 : decode cX10_canBeBrought 21 = .ok (.aload_n 0, 1) := by decide +kernel
theorem dX10_canBeBrought_22 : decode cX10_canBeBrought 22 = .ok (.iconst 2, 1) := by decide +kernel
theorem dX10_canBeBrought_23 : decode cX10_canBeBrought 23 = .ok (.aload_n 0, 1) := by decide +kernel
theorem dX10_canBeBrought_24 : decode cX10_canBeBrought 24 = .ok (.getfield 85, 3) := by decide +kernel
theorem dX10_canBeBrought_27 : decode cX10_canBeBrought 27 = .ok (.invokevirtual 159, 3) := by decide +kernel
theorem dX10_canBeBrought_30 : decode cX10_canBeBrought 30 = .ok (.if_icmp .gt 7, 3) := by decide +kernel
theorem dX10_canBeBrought_33 : decode cX10_canBeBrought 33 = .ok (.iconst 1, 1) := by decide +kernel
theorem dX10_canBeBrought_34 : decode cX10_canBeBrought 34 = .ok (.goto 4, 3) := by decide +kernel
theorem dX10_canBeBrought_37 : decode cX10_canBeBrought 37 = .ok (.iconst 0, 1) := by decide +kernel
theorem dX10_canBeBrought_38 : decode cX10_canBeBrought 38 = .ok (.ireturn, 1) := by decide +kernel
theorem cm_X10_canBeBrought : CM yX10_canBeBrought cX10_canBeBrought 2 (some .boolean) 1 10 := ⟨w_951, w_952, w_953, w_88, ⟨by decide +kernel, by decide +kernel, by decide +kernel⟩, ⟨_, _, rfl⟩, by decide⟩
noncomputable def f_X10_canBeBrought_38 (n : Nat)  (s0 : Int) (h : MM) : RR :=
  ck (isb s0) <|
  some (s0, h)
noncomputable def f_X10_canBeBrought_37 (n : Nat)  (h : MM) : RR :=
  f_X10_canBeBrought_38 n 0 h
noncomputable def f_X10_canBeBrought (n : Nat) (v0 v1 : Int) (h : MM) : RR :=
  gf h v1 4 10 fun r1 =>
  if r1 = (-5) then
    gk h v0 10 <|
    bd (f_X10_isSound n v0 v1 h) fun r3 h3 =>
    if r3 = 0 then
      f_X10_canBeBrought_37 n h3
    else
    gf h3 v0 10 9 fun r5 =>
    gf h3 v0 10 9 fun r6 =>
    gk h3 v0 10 <|
    bd (f_X10_ruleOf n v0 2 r6 h3) fun r7 h7 =>
    if r7 < r5 then
      f_X10_canBeBrought_37 n h7
    else
    f_X10_canBeBrought_38 n 1 h7
  else
  f_X10_canBeBrought_37 n h
set_option maxRecDepth 20000 in
theorem b_X10_canBeBrought_38 {g : GT} {Z : Int × MM} {n : Nat} (C : Cx g cX10_canBeBrought 2 yX10_canBeBrought 5 117) (hr : Rt g (some .boolean) 0 Z) {s0 : Int}    (cs0 : in32 s0) {h : MM} (hf : f_X10_canBeBrought_38 n  s0 h = some Z) : G g 38 [(3, 0), (3, 0)] [(0, s0)] h := by
  unfold f_X10_canBeBrought_38 at hf
  obtain ⟨b1, hf⟩ := ck_s hf
  cases hf
  exact r_zret C hr dX10_canBeBrought_38 b1
set_option maxRecDepth 20000 in
theorem b_X10_canBeBrought_37 {g : GT} {Z : Int × MM} {n : Nat} (C : Cx g cX10_canBeBrought 2 yX10_canBeBrought 5 117) (hr : Rt g (some .boolean) 0 Z)     {h : MM} (hf : f_X10_canBeBrought_37 n   h = some Z) : G g 37 [(3, 0), (3, 0)] [] h := by
  unfold f_X10_canBeBrought_37 at hf
  refine r_iconst C dX10_canBeBrought_37 ?_
  exact G.mask [false, false] rfl rfl (b_X10_canBeBrought_38 C hr  (in32_of rfl) hf)
set_option maxRecDepth 20000 in
theorem e_X10_canBeBrought {g : GT} {Z : Int × MM} {n : Nat} (C : Cx g cX10_canBeBrought 2 yX10_canBeBrought 5 117) (hr : Rt g (some .boolean) 0 Z) {v0 v1 : Int} (cv0 : cK 2 v0) (cv1 : cK 2 v1) {h : MM} (hf : f_X10_canBeBrought n v0 v1 h = some Z) : G g 0 [(2, v0), (2, v1)] [] h := by
  unfold f_X10_canBeBrought at hf
  refine r_aload_n C dX10_canBeBrought_0 rfl ?_
  obtain ⟨q1, hf⟩ := gf_s hf
  refine r_gf C ct4 (j := 10) (ji := 10) dX10_canBeBrought_1 q1 rfl rfl (by decide) w_756 rfl (fun c1 => ?_)
  have c1 : in32 _ := c1
  refine r_bipush C dX10_canBeBrought_4 rfl ?_
  refine r_icmp_ne C dX10_canBeBrought_6 (tgt := 37) (by decide) c1 (in32_of rfl) (fun n2 => ?_) (fun n2 => ?_)
  · have hf := ite_n n2 hf
    exact G.mask [false, false] rfl rfl (b_X10_canBeBrought_37 C hr   hf)
  · have hf := ite_p n2 hf
    refine r_aload_n C dX10_canBeBrought_9 rfl ?_
    refine r_aload_n C dX10_canBeBrought_10 rfl ?_
    obtain ⟨p3, hf⟩ := gk_s hf
    obtain ⟨r3, h3, hq3, hf⟩ := bd_s hf
    refine r_cV1 C (am_X10_isSound (gl g) n) cm_X10_isSound w_954 dX10_canBeBrought_11 ⟨Nat.le_of_ble_eq_true rfl, Nat.le_of_ble_eq_true rfl⟩ p3 rfl trivial rfl (Nat.le_of_ble_eq_true rfl) hq3 (by decide) (fun c3 => ?_)
    have c3 : in32 _ := c3
    refine r_if_eq C dX10_canBeBrought_14 (tgt := 37) (by decide) c3 (fun n4 => ?_) (fun n4 => ?_)
    · have hf := ite_p n4 hf
      exact G.mask [false, false] rfl rfl (b_X10_canBeBrought_37 C hr   hf)
    · have hf := ite_n n4 hf
      refine r_aload_n C dX10_canBeBrought_17 rfl ?_
      obtain ⟨q5, hf⟩ := gf_s hf
      refine r_gf C ct10 (j := 9) (ji := 9) dX10_canBeBrought_18 q5 rfl rfl (by decide) w_316 rfl (fun c5 => ?_)
      have c5 : in32 _ := c5
      refine r_aload_n C dX10_canBeBrought_21 rfl ?_
      refine r_iconst C dX10_canBeBrought_22 ?_
      refine r_aload_n C dX10_canBeBrought_23 rfl ?_
      obtain ⟨q6, hf⟩ := gf_s hf
      refine r_gf C ct10 (j := 9) (ji := 9) dX10_canBeBrought_24 q6 rfl rfl (by decide) w_316 rfl (fun c6 => ?_)
      have c6 : in32 _ := c6
      obtain ⟨p7, hf⟩ := gk_s hf
      obtain ⟨r7, h7, hq7, hf⟩ := bd_s hf
      refine r_cV2 C (am_X10_ruleOf (gl g) n) cm_X10_ruleOf w_883 dX10_canBeBrought_27 ⟨Nat.le_of_ble_eq_true rfl, Nat.le_of_ble_eq_true rfl⟩ p7 rfl (in32_of rfl) c6 rfl (Nat.le_of_ble_eq_true rfl) hq7 (by decide) (fun c7 => ?_)
      have c7 : in32 _ := c7
      refine r_icmp_gt C dX10_canBeBrought_30 (tgt := 37) (by decide) c5 c7 (fun n8 => ?_) (fun n8 => ?_)
      · have hf := ite_p n8 hf
        exact G.mask [false, false] rfl rfl (b_X10_canBeBrought_37 C hr   hf)
      · have hf := ite_n n8 hf
        refine r_iconst C dX10_canBeBrought_33 ?_
        refine r_goto C dX10_canBeBrought_34 (tgt := 38) (by decide) ?_
        exact G.mask [false, false] rfl rfl (b_X10_canBeBrought_38 C hr  (in32_of rfl) hf)
set_option maxRecDepth 20000 in
theorem am_X10_canBeBrought (l : Launch) (n : Nat) : AM l yX10_canBeBrought cX10_canBeBrought 2 (some .boolean) 5 117 [2, 2] 0 (un2 (f_X10_canBeBrought n)) := by
  refine AM.intro (by decide) (fun xs hx => ?_) (fun g xs h Z hl C hr hx hf => ?_)
  · obtain ⟨a0, a1, rfl, c0, c1⟩ := canL_2 hx
    exact Nat.le_of_ble_eq_true rfl
  · obtain ⟨a0, a1, rfl, c0, c1⟩ := canL_2 hx
    have hf := (un2_e _ a0 a1 _).symm.trans hf
    exact e_X10_canBeBrought (n := n) C hr c0 c1 hf
/-! LinesPromised.bill(I)I -/
theorem dX11_bill_0 : decode cX11_bill 0 = .ok (.aload_n 0, 1) := by decide +kernel
theorem dX11_bill_1 : decode cX11_bill 1 = .ok (.getfield 10, 3) := by decide +kernel
theorem dX11_bill_4 : decode cX11_bill 4 = .ok (.getfield 133, 3) := by decide +kernel
theorem dX11_bill_7 : decode cX11_bill 7 = .ok (.iload_n 1, 1) := by decide +kernel
theorem dX11_bill_8 : decode cX11_bill 8 = .ok (.iconst 2, 1) := by decide +kernel
theorem dX11_bill_9 : decode cX11_bill 9 = .ok (.invokevirtual 172, 3) := by decide +kernel
theorem dX11_bill_12 : decode cX11_bill 12 = .ok (.astore_n 2, 1) := by decide +kernel
theorem dX11_bill_13 : decode cX11_bill 13 = .ok (.aload_n 2, 1) := by decide +kernel
theorem dX11_bill_14 : decode cX11_bill 14 = .ok (.ifnonnull 5, 3) := by decide +kernel
theorem dX11_bill_17 : decode cX11_bill 17 = .ok (.iconst (-1), 1) := by decide +kernel
theorem dX11_bill_18 : decode cX11_bill 18 = .ok (.ireturn, 1) := by decide +kernel
theorem dX11_bill_19 : decode cX11_bill 19 = .ok (.aload_n 0, 1) := by decide +kernel
theorem dX11_bill_20 : decode cX11_bill 20 = .ok (.getfield 10, 3) := by decide +kernel
theorem dX11_bill_23 : decode cX11_bill 23 = .ok (.getfield 133, 3) := by decide +kernel
theorem dX11_bill_26 : decode cX11_bill 26 = .ok (.iload_n 1, 1) := by decide +kernel
theorem dX11_bill_27 : decode cX11_bill 27 = .ok (.invokevirtual 232, 3) := by decide +kernel
theorem dX11_bill_30 : decode cX11_bill 30 = .ok (.ifCond .ne 14, 3) := by decide +kernel
theorem dX11_bill_33 : decode cX11_bill 33 = .ok (.aload_n 0, 1) := by decide +kernel
theorem dX11_bill_34 : decode cX11_bill 34 = .ok (.getfield 10, 3) := by decide +kernel
theorem dX11_bill_37 : decode cX11_bill 37 = .ok (.aload_n 2, 1) := by decide +kernel
theorem dX11_bill_38 : decode cX11_bill 38 = .ok (.invokevirtual 235, 3) := by decide +kernel
theorem dX11_bill_41 : decode cX11_bill 41 = .ok (.ifCond .ne 6, 3) := by decide +kernel
theorem dX11_bill_44 : decode cX11_bill 44 = .ok (.bipush (-3), 2) := by decide +kernel
theorem dX11_bill_46 : decode cX11_bill 46 = .ok (.ireturn, 1) := by decide +kernel
theorem dX11_bill_47 : decode cX11_bill 47 = .ok (.aload_n 0, 1) := by decide +kernel
theorem dX11_bill_48 : decode cX11_bill 48 = .ok (.getfield 10, 3) := by decide +kernel
theorem dX11_bill_51 : decode cX11_bill 51 = .ok (.getfield 133, 3) := by decide +kernel
theorem dX11_bill_54 : decode cX11_bill 54 = .ok (.invokevirtual 137, 3) := by decide +kernel
theorem dX11_bill_57 : decode cX11_bill 57 = .ok (.ifCond .eq 6, 3) := by decide +kernel
theorem dX11_bill_60 : decode cX11_bill 60 = .ok (.bipush (-4), 2) := by decide +kernel
theorem dX11_bill_62 : decode cX11_bill 62 = .ok (.ireturn, 1) := by decide +kernel
theorem dX11_bill_63 : decode cX11_bill 63 = .ok (.new 146, 3) := by decide +kernel
theorem dX11_bill_66 : decode cX11_bill 66 = .ok (.dup, 1) := by decide +kernel
theorem dX11_bill_67 : decode cX11_bill 67 = .ok (.iconst 3, 1) := by decide +kernel
theorem dX11_bill_68 : decode cX11_bill 68 = .ok (.iload_n 1, 1) := by decide +kernel
theorem dX11_bill_69 : decode cX11_bill 69 = .ok (.aload_n 0, 1) := by decide +kernel
theorem dX11_bill_70 : decode cX11_bill 70 = .ok (.getfield 10, 3) := by decide +kernel
theorem dX11_bill_73 : decode cX11_bill 73 = .ok (.getfield 148, 3) := by decide +kernel
theorem dX11_bill_76 : decode cX11_bill 76 = .ok (.aload_n 2, 1) := by decide +kernel
theorem dX11_bill_77 : decode cX11_bill 77 = .ok (.getfield 192, 3) := by decide +kernel
theorem dX11_bill_80 : decode cX11_bill 80 = .ok (.aload_n 2, 1) := by decide +kernel
theorem dX11_bill_81 : decode cX11_bill 81 = .ok (.getfield 204, 3) := by decide +kernel
theorem dX11_bill_84 : decode cX11_bill 84 = .ok (.invokespecial 154, 3) := by decide +kernel
theorem dX11_bill_87 : decode cX11_bill 87 = .ok (.astore_n 3, 1) := by decide +kernel
theorem dX11_bill_88 : decode cX11_bill 88 = .ok (.aload_n 3, 1) := by decide +kernel
theorem dX11_bill_89 : decode cX11_bill 89 = .ok (.aload_n 2, 1) := by decide +kernel
theorem dX11_bill_90 : decode cX11_bill 90 = .ok (.getfield 239, 3) := by decide +kernel
theorem dX11_bill_93 : decode cX11_bill 93 = .ok (.aload_n 2, 1) := by decide +kernel
theorem dX11_bill_94 : decode cX11_bill 94 = .ok (.getfield 242, 3) := by decide +kernel
theorem dX11_bill_97 : decode cX11_bill 97 = .ok (.aload_n 2, 1) := by decide +kernel
theorem dX11_bill_98 : decode cX11_bill 98 = .ok (.getfield 245, 3) := by decide +kernel
theorem dX11_bill_101 : decode cX11_bill 101 = .ok (.iconst (-1), 1) := by decide +kernel
theorem dX11_bill_102 : decode cX11_bill 102 = .ok (.invokevirtual 157, 3) := by decide +kernel
theorem dX11_bill_105 : decode cX11_bill 105 = .ok (.aload_n 3, 1) := by decide +kernel
theorem dX11_bill_106 : decode cX11_bill 106 = .ok (.aload_n 2, 1) := by decide +kernel
theorem dX11_bill_107 : decode cX11_bill 107 = .ok (.getfield 161, 3) := by decide +kernel
theorem dX11_bill_110 : decode cX11_bill 110 = .ok (.putfield 161, 3) := by decide +kernel
theorem dX11_bill_113 : decode cX11_bill 113 = .ok (.aload_n 0, 1) := by decide +kernel
theorem dX11_bill_114 : decode cX11_bill 114 = .ok (.getfield 10, 3) := by decide +kernel
theorem dX11_bill_117 : decode cX11_bill 117 = .ok (.getfield 133, 3) := by decide +kernel
theorem dX11_bill_120 : decode cX11_bill 120 = .ok (.aload_n 3, 1) := by decide +kernel
theorem dX11_bill_121 : decode cX11_bill 121 = .ok (.invokevirtual 168, 3) := by decide +kernel
theorem dX11_bill_124 : decode cX11_bill 124 = .ok (.ireturn, 1) := by decide +kernel
theorem cm_X11_bill : CM yX11_bill cX11_bill 4 (some .int) 1 11 := ⟨w_942, w_943, w_944, w_87, ⟨by decide +kernel, by decide +kernel, by decide +kernel⟩, ⟨_, _, rfl⟩, by decide⟩
noncomputable def f_X11_bill_44 (n : Nat)  (h : MM) : RR :=
  some ((-3), h)
noncomputable def f_X11_bill (n : Nat) (v0 v1 : Int) (h : MM) : RR :=
  gf h v0 11 0 fun r1 =>
  gf h r1 10 1 fun r2 =>
  gk h r2 5 <|
  bd (f_X5_find n r2 v1 2 h) fun r3 h3 =>
  if r3 = 0 then
    some ((-1), h3)
  else
  gf h3 v0 11 0 fun r5 =>
  gf h3 r5 10 1 fun r6 =>
  gk h3 r6 5 <|
  bd (f_X5_hasBill n r6 v1 h3) fun r7 h7 =>
  if r7 = 0 then
    gf h7 v0 11 0 fun r9 =>
    gk h7 r9 10 <|
    bd (f_X10_canBeBrought n r9 r3 h7) fun r10 h10 =>
    if r10 = 0 then
      f_X11_bill_44 n h10
    else
    gf h10 v0 11 0 fun r12 =>
    gf h10 r12 10 1 fun r13 =>
    gk h10 r13 5 <|
    bd (f_X5_isFull n r13 h10) fun r14 h14 =>
    if r14 = 0 then
      nw h14 4 11 fun r16 h16 =>
      gf h16 v0 11 0 fun r17 =>
      gf h16 r17 10 9 fun r18 =>
      gf h16 r3 4 3 fun r19 =>
      gf h16 r3 4 4 fun r20 =>
      nz r16 <|
      bd (f_X4_init n r16 3 v1 r18 r19 r20 h16) fun r21 h21 =>
      gf h21 r3 4 5 fun r22 =>
      gf h21 r3 4 6 fun r23 =>
      gf h21 r3 4 7 fun r24 =>
      gk h21 r16 4 <|
      bd (f_X4_tell n r16 r22 r23 r24 ((-1)) h21) fun r25 h25 =>
      gf h25 r3 4 9 fun r26 =>
      pf h25 r16 4 9 r26 fun h27 =>
      gf h27 v0 11 0 fun r28 =>
      gf h27 r28 10 1 fun r29 =>
      gk h27 r29 5 <|
      bd (f_X5_file n r29 r16 h27) fun r30 h30 =>
      some (r30, h30)
    else
    some ((-4), h14)
  else
  f_X11_bill_44 n h7
set_option maxRecDepth 20000 in
theorem b_X11_bill_44 {g : GT} {Z : Int × MM} {n : Nat} (C : Cx g cX11_bill 4 yX11_bill 6 138) (hr : Rt g (some .int) 0 Z)     {h : MM} (hf : f_X11_bill_44 n   h = some Z) : G g 44 [(3, 0), (3, 0), (3, 0), (3, 0)] [] h := by
  unfold f_X11_bill_44 at hf
  refine r_bipush C dX11_bill_44 rfl ?_
  cases hf
  exact r_jret C hr dX11_bill_46 (in32_of rfl)
set_option maxRecDepth 20000 in
theorem e_X11_bill {g : GT} {Z : Int × MM} {n : Nat} (C : Cx g cX11_bill 4 yX11_bill 6 138) (hr : Rt g (some .int) 0 Z) {v0 v1 : Int} (cv0 : cK 2 v0) (cv1 : cK 0 v1) {h : MM} (hf : f_X11_bill n v0 v1 h = some Z) : G g 0 [(2, v0), (0, v1), (3, 0), (3, 0)] [] h := by
  have cv1 : in32 v1 := cv1
  unfold f_X11_bill at hf
  refine r_aload_n C dX11_bill_0 rfl ?_
  obtain ⟨q1, hf⟩ := gf_s hf
  refine r_gf C ct11 (j := 0) (ji := 0) dX11_bill_1 q1 rfl rfl (by decide) w_440 rfl (fun c1 => ?_)
  obtain ⟨q2, hf⟩ := gf_s hf
  refine r_gf C ct10 (j := 1) (ji := 1) dX11_bill_4 q2 rfl rfl (by decide) w_302 rfl (fun c2 => ?_)
  refine r_iload_n C dX11_bill_7 rfl ?_
  refine r_iconst C dX11_bill_8 ?_
  obtain ⟨p3, hf⟩ := gk_s hf
  obtain ⟨r3, h3, hq3, hf⟩ := bd_s hf
  refine r_cV2 C (am_X5_find (gl g) n) cm_X5_find w_798 dX11_bill_9 ⟨Nat.le_of_ble_eq_true rfl, Nat.le_of_ble_eq_true rfl⟩ p3 rfl cv1 (in32_of rfl) rfl (Nat.le_of_ble_eq_true rfl) hq3 (by decide) (fun c3 => ?_)
  refine r_astore_n C dX11_bill_12 (Nat.le_of_ble_eq_true rfl) rfl ?_
  refine r_aload_n C dX11_bill_13 rfl ?_
  refine r_ifnonnull C dX11_bill_14 (tgt := 19) (by decide) (fun n4 => ?_) (fun n4 => ?_)
  · have hf := ite_n n4 hf
    refine r_aload_n C dX11_bill_19 rfl ?_
    obtain ⟨q5, hf⟩ := gf_s hf
    refine r_gf C ct11 (j := 0) (ji := 0) dX11_bill_20 q5 rfl rfl (by decide) w_440 rfl (fun c5 => ?_)
    obtain ⟨q6, hf⟩ := gf_s hf
    refine r_gf C ct10 (j := 1) (ji := 1) dX11_bill_23 q6 rfl rfl (by decide) w_302 rfl (fun c6 => ?_)
    refine r_iload_n C dX11_bill_26 rfl ?_
    obtain ⟨p7, hf⟩ := gk_s hf
    obtain ⟨r7, h7, hq7, hf⟩ := bd_s hf
    refine r_cV1 C (am_X5_hasBill (gl g) n) cm_X5_hasBill w_945 dX11_bill_27 ⟨Nat.le_of_ble_eq_true rfl, Nat.le_of_ble_eq_true rfl⟩ p7 rfl cv1 rfl (Nat.le_of_ble_eq_true rfl) hq7 (by decide) (fun c7 => ?_)
    have c7 : in32 _ := c7
    refine r_if_ne C dX11_bill_30 (tgt := 44) (by decide) c7 (fun n8 => ?_) (fun n8 => ?_)
    · have hf := ite_n n8 hf
      exact G.mask [false, false, false, false] rfl rfl (b_X11_bill_44 C hr   hf)
    · have hf := ite_p n8 hf
      refine r_aload_n C dX11_bill_33 rfl ?_
      obtain ⟨q9, hf⟩ := gf_s hf
      refine r_gf C ct11 (j := 0) (ji := 0) dX11_bill_34 q9 rfl rfl (by decide) w_440 rfl (fun c9 => ?_)
      refine r_aload_n C dX11_bill_37 rfl ?_
      obtain ⟨p10, hf⟩ := gk_s hf
      obtain ⟨r10, h10, hq10, hf⟩ := bd_s hf
      refine r_cV1 C (am_X10_canBeBrought (gl g) n) cm_X10_canBeBrought w_950 dX11_bill_38 ⟨Nat.le_of_ble_eq_true rfl, Nat.le_of_ble_eq_true rfl⟩ p10 rfl trivial rfl (Nat.le_of_ble_eq_true rfl) hq10 (by decide) (fun c10 => ?_)
      have c10 : in32 _ := c10
      refine r_if_ne C dX11_bill_41 (tgt := 47) (by decide) c10 (fun n11 => ?_) (fun n11 => ?_)
      · have hf := ite_n n11 hf
        refine r_aload_n C dX11_bill_47 rfl ?_
        obtain ⟨q12, hf⟩ := gf_s hf
        refine r_gf C ct11 (j := 0) (ji := 0) dX11_bill_48 q12 rfl rfl (by decide) w_440 rfl (fun c12 => ?_)
        obtain ⟨q13, hf⟩ := gf_s hf
        refine r_gf C ct10 (j := 1) (ji := 1) dX11_bill_51 q13 rfl rfl (by decide) w_302 rfl (fun c13 => ?_)
        obtain ⟨p14, hf⟩ := gk_s hf
        obtain ⟨r14, h14, hq14, hf⟩ := bd_s hf
        refine r_cV0 C (am_X5_isFull (gl g) n) cm_X5_isFull w_700 dX11_bill_54 ⟨Nat.le_of_ble_eq_true rfl, Nat.le_of_ble_eq_true rfl⟩ p14 rfl  rfl (Nat.le_of_ble_eq_true rfl) hq14 (by decide) (fun c14 => ?_)
        have c14 : in32 _ := c14
        refine r_if_eq C dX11_bill_57 (tgt := 63) (by decide) c14 (fun n15 => ?_) (fun n15 => ?_)
        · have hf := ite_p n15 hf
          obtain ⟨q16, hf⟩ := nw_s hf
          refine r_new C ct4 cf4 (ti := 4) (ni := 11) dX11_bill_63 q16 rfl rfl w_704 w_705 w_106 ?_
          refine r_dup C dX11_bill_66 (by decide) ?_
          refine r_iconst C dX11_bill_67 ?_
          refine r_iload_n C dX11_bill_68 rfl ?_
          refine r_aload_n C dX11_bill_69 rfl ?_
          obtain ⟨q17, hf⟩ := gf_s hf
          refine r_gf C ct11 (j := 0) (ji := 0) dX11_bill_70 q17 rfl rfl (by decide) w_440 rfl (fun c17 => ?_)
          obtain ⟨q18, hf⟩ := gf_s hf
          refine r_gf C ct10 (j := 9) (ji := 9) dX11_bill_73 q18 rfl rfl (by decide) w_317 rfl (fun c18 => ?_)
          have c18 : in32 _ := c18
          refine r_aload_n C dX11_bill_76 rfl ?_
          obtain ⟨q19, hf⟩ := gf_s hf
          refine r_gf C ct4 (j := 3) (ji := 3) dX11_bill_77 q19 rfl rfl (by decide) w_725 rfl (fun c19 => ?_)
          refine r_aload_n C dX11_bill_80 rfl ?_
          obtain ⟨q20, hf⟩ := gf_s hf
          refine r_gf C ct4 (j := 4) (ji := 4) dX11_bill_81 q20 rfl rfl (by decide) w_729 rfl (fun c20 => ?_)
          obtain ⟨p21, hf⟩ := nz_s hf
          obtain ⟨r21, h21, hq21, hf⟩ := bd_s hf
          refine r_cI5 C (am_X4_init (gl g) n) cm_X4_init w_708 dX11_bill_84 ⟨Nat.le_of_ble_eq_true rfl, Nat.le_of_ble_eq_true rfl⟩ p21 (in32_of rfl) cv1 c18 trivial trivial rfl (Nat.le_of_ble_eq_true rfl) hq21 ?_
          refine r_astore_n C dX11_bill_87 (Nat.le_of_ble_eq_true rfl) rfl ?_
          refine r_aload_n C dX11_bill_88 rfl ?_
          refine r_aload_n C dX11_bill_89 rfl ?_
          obtain ⟨q22, hf⟩ := gf_s hf
          refine r_gf C ct4 (j := 5) (ji := 5) dX11_bill_90 q22 rfl rfl (by decide) w_734 rfl (fun c22 => ?_)
          have c22 : in32 _ := c22
          refine r_aload_n C dX11_bill_93 rfl ?_
          obtain ⟨q23, hf⟩ := gf_s hf
          refine r_gf C ct4 (j := 6) (ji := 6) dX11_bill_94 q23 rfl rfl (by decide) w_739 rfl (fun c23 => ?_)
          have c23 : in32 _ := c23
          refine r_aload_n C dX11_bill_97 rfl ?_
          obtain ⟨q24, hf⟩ := gf_s hf
          refine r_gf C ct4 (j := 7) (ji := 7) dX11_bill_98 q24 rfl rfl (by decide) w_744 rfl (fun c24 => ?_)
          have c24 : in32 _ := c24
          refine r_iconst C dX11_bill_101 ?_
          obtain ⟨p25, hf⟩ := gk_s hf
          obtain ⟨r25, h25, hq25, hf⟩ := bd_s hf
          refine r_cV4v C (am_X4_tell (gl g) n) cm_X4_tell w_781 dX11_bill_102 ⟨Nat.le_of_ble_eq_true rfl, Nat.le_of_ble_eq_true rfl⟩ p25 rfl c22 c23 c24 (in32_of rfl) rfl (Nat.le_of_ble_eq_true rfl) hq25 ?_
          refine r_aload_n C dX11_bill_105 rfl ?_
          refine r_aload_n C dX11_bill_106 rfl ?_
          obtain ⟨q26, hf⟩ := gf_s hf
          refine r_gf C ct4 (j := 9) (ji := 9) dX11_bill_107 q26 rfl rfl (by decide) w_754 rfl (fun c26 => ?_)
          have c26 : in32 _ := c26
          obtain ⟨q27, hf⟩ := pf_s hf
          refine r_pf C ct4 (j := 9) (ji := 9) dX11_bill_110 q27 rfl rfl (by decide) w_754 rfl (Or.inl rfl) nar_int c26 ?_
          refine r_aload_n C dX11_bill_113 rfl ?_
          obtain ⟨q28, hf⟩ := gf_s hf
          refine r_gf C ct11 (j := 0) (ji := 0) dX11_bill_114 q28 rfl rfl (by decide) w_440 rfl (fun c28 => ?_)
          obtain ⟨q29, hf⟩ := gf_s hf
          refine r_gf C ct10 (j := 1) (ji := 1) dX11_bill_117 q29 rfl rfl (by decide) w_302 rfl (fun c29 => ?_)
          refine r_aload_n C dX11_bill_120 rfl ?_
          obtain ⟨p30, hf⟩ := gk_s hf
          obtain ⟨r30, h30, hq30, hf⟩ := bd_s hf
          refine r_cV1 C (am_X5_file (gl g) n) cm_X5_file w_789 dX11_bill_121 ⟨Nat.le_of_ble_eq_true rfl, Nat.le_of_ble_eq_true rfl⟩ p30 rfl trivial rfl (Nat.le_of_ble_eq_true rfl) hq30 (by decide) (fun c30 => ?_)
          have c30 : in32 _ := c30
          cases hf
          exact r_jret C hr dX11_bill_124 c30
        · have hf := ite_n n15 hf
          refine r_bipush C dX11_bill_60 rfl ?_
          cases hf
          exact r_jret C hr dX11_bill_62 (in32_of rfl)
      · have hf := ite_p n11 hf
        exact G.mask [false, false, false, false] rfl rfl (b_X11_bill_44 C hr   hf)
  · have hf := ite_p n4 hf
    refine r_iconst C dX11_bill_17 ?_
    cases hf
    exact r_jret C hr dX11_bill_18 (in32_of rfl)
set_option maxRecDepth 20000 in
theorem am_X11_bill (l : Launch) (n : Nat) : AM l yX11_bill cX11_bill 4 (some .int) 6 138 [2, 0] 0 (un2 (f_X11_bill n)) := by
  refine AM.intro (by decide) (fun xs hx => ?_) (fun g xs h Z hl C hr hx hf => ?_)
  · obtain ⟨a0, a1, rfl, c0, c1⟩ := canL_2 hx
    exact Nat.le_of_ble_eq_true rfl
  · obtain ⟨a0, a1, rfl, c0, c1⟩ := canL_2 hx
    have hf := (un2_e _ a0 a1 _).symm.trans hf
    exact e_X11_bill (n := n) C hr c0 c1 hf
/-! LinesPromised$Land.cellsOf([II)I -/
theorem dX1_cellsOf_0 : decode cX1_cellsOf 0 = .ok (.iconst 0, 1) := by decide +kernel
theorem dX1_cellsOf_1 : decode cX1_cellsOf 1 = .ok (.istore_n 3, 1) := by decide +kernel
theorem dX1_cellsOf_2 : decode cX1_cellsOf 2 = .ok (.iconst 0, 1) := by decide +kernel
theorem dX1_cellsOf_3 : decode cX1_cellsOf 3 = .ok (.istore 4, 2) := by decide +kernel
theorem dX1_cellsOf_5 : decode cX1_cellsOf 5 = .ok (.iload 4, 2) := by decide +kernel
theorem dX1_cellsOf_7 : decode cX1_cellsOf 7 = .ok (.aload_n 1, 1) := by decide +kernel
theorem dX1_cellsOf_8 : decode cX1_cellsOf 8 = .ok (.arraylength, 1) := by decide +kernel
theorem dX1_cellsOf_9 : decode cX1_cellsOf 9 = .ok (.if_icmp .ge 25, 3) := by decide +kernel
theorem dX1_cellsOf_12 : decode cX1_cellsOf 12 = .ok (.aload_n 0, 1) := by decide +kernel
theorem dX1_cellsOf_13 : decode cX1_cellsOf 13 = .ok (.getfield 15, 3) := by decide +kernel
theorem dX1_cellsOf_16 : decode cX1_cellsOf 16 = .ok (.aload_n 1, 1) := by decide +kernel
theorem dX1_cellsOf_17 : decode cX1_cellsOf 17 = .ok (.iload 4, 2) := by decide +kernel
theorem dX1_cellsOf_19 : decode cX1_cellsOf 19 = .ok (.iaload, 1) := by decide +kernel
theorem dX1_cellsOf_20 : decode cX1_cellsOf 20 = .ok (.iaload, 1) := by decide +kernel
theorem dX1_cellsOf_21 : decode cX1_cellsOf 21 = .ok (.iload_n 2, 1) := by decide +kernel
theorem dX1_cellsOf_22 : decode cX1_cellsOf 22 = .ok (.if_icmp .ne 6, 3) := by decide +kernel
theorem dX1_cellsOf_25 : decode cX1_cellsOf 25 = .ok (.iinc 3 1, 3) := by decide +kernel
theorem dX1_cellsOf_28 : decode cX1_cellsOf 28 = .ok (.iinc 4 1, 3) := by decide +kernel
theorem dX1_cellsOf_31 : decode cX1_cellsOf 31 = .ok (.goto (-26), 3) := by decide +kernel
theorem dX1_cellsOf_34 : decode cX1_cellsOf 34 = .ok (.iload_n 3, 1) := by decide +kernel
theorem dX1_cellsOf_35 : decode cX1_cellsOf 35 = .ok (.ireturn, 1) := by decide +kernel
theorem cm_X1_cellsOf : CM yX1_cellsOf cX1_cellsOf 5 (some .int) 2 1 := ⟨w_970, w_971, w_972, w_89, ⟨by decide +kernel, by decide +kernel, by decide +kernel⟩, ⟨_, _, rfl⟩, by decide⟩
noncomputable def f_X1_cellsOf_28 (n : Nat) (rec5 : Int → Int → MM → RR) (v0 v1 v2 v3 v4 : Int) (h : MM) : RR :=
  lb (wr (v4 + 1)) fun x1 =>
  rec5 v3 x1 h
noncomputable def f_X1_cellsOf_5b (n : Nat) (rec5 : Int → Int → MM → RR) (v0 v1 v2 v3 v4 : Int) (h : MM) : RR :=
  al h v1 100 fun r1 =>
  if r1 ≤ v4 then
    some (v3, h)
  else
  gf h v0 1 1 fun r3 =>
  rd h v1 100 v4 fun r4 =>
  rd h r3 100 r4 fun r5 =>
  if r5 = v2 then
    lb (wr (v3 + 1)) fun x7 =>
    f_X1_cellsOf_28 n rec5 v0 v1 v2 x7 v4 h
  else
  f_X1_cellsOf_28 n rec5 v0 v1 v2 v3 v4 h
noncomputable def f_X1_cellsOf_5 (n : Nat)  (v0 v1 v2 : Int) : Nat → Int → Int → MM → RR
  | 0, _, _, _ => none
  | k + 1, v3, v4, h => f_X1_cellsOf_5b n  (f_X1_cellsOf_5 n  v0 v1 v2 k) v0 v1 v2 v3 v4 h
noncomputable def f_X1_cellsOf (n : Nat) (v0 v1 v2 : Int) (h : MM) : RR :=
  f_X1_cellsOf_5 n v0 v1 v2 n 0 0 h
set_option maxRecDepth 20000 in
theorem b_X1_cellsOf_28 {g : GT} {Z : Int × MM} {n : Nat} (C : Cx g cX1_cellsOf 5 yX1_cellsOf 0 0) (hr : Rt g (some .int) 0 Z) {v0 v1 v2 v3 v4 : Int}  {rec5 : Int → Int → MM → RR} (L5 : ∀ (u3 u4 : Int) (h : MM), in32 u3 → in32 u4 → rec5 u3 u4 h = some Z → G g 5 [(2, v0), (2, v1), (0, v2), (0, u3), (0, u4)] [] h) (cv2 : in32 v2) (cv3 : in32 v3) (cv4 : in32 v4) {h : MM} (hf : f_X1_cellsOf_28 n rec5 v0 v1 v2 v3 v4 h = some Z) : G g 28 [(2, v0), (2, v1), (0, v2), (0, v3), (0, v4)] [] h := by
  unfold f_X1_cellsOf_28 at hf
  obtain ⟨x1, e1, hf⟩ := lb_s hf
  have c1 : in32 x1 := by rw [e1]; exact (in32_t _)
  refine r_iincL C dX1_cellsOf_28 rfl e1 (Nat.le_of_ble_eq_true rfl) rfl ?_
  refine r_goto C dX1_cellsOf_31 (tgt := 5) (by decide) ?_
  exact G.mask [true, true, true, true, true] rfl rfl (L5 _ _ _ cv3 c1 hf)
set_option maxRecDepth 20000 in
theorem b_X1_cellsOf_5b {g : GT} {Z : Int × MM} {n : Nat} (C : Cx g cX1_cellsOf 5 yX1_cellsOf 0 0) (hr : Rt g (some .int) 0 Z) {v0 v1 v2 v3 v4 : Int}  {rec5 : Int → Int → MM → RR} (L5 : ∀ (u3 u4 : Int) (h : MM), in32 u3 → in32 u4 → rec5 u3 u4 h = some Z → G g 5 [(2, v0), (2, v1), (0, v2), (0, u3), (0, u4)] [] h) (cv2 : in32 v2) (cv3 : in32 v3) (cv4 : in32 v4) {h : MM} (hf : f_X1_cellsOf_5b n rec5 v0 v1 v2 v3 v4 h = some Z) : G g 5 [(2, v0), (2, v1), (0, v2), (0, v3), (0, v4)] [] h := by
  unfold f_X1_cellsOf_5b at hf
  refine r_iload C dX1_cellsOf_5 rfl ?_
  refine r_aload_n C dX1_cellsOf_7 rfl ?_
  obtain ⟨q1, hf⟩ := al_s hf
  refine r_alen C (tn := 100) dX1_cellsOf_8 q1 rfl (by decide) (fun c1 _ => ?_)
  refine r_icmp_ge C dX1_cellsOf_9 (tgt := 34) (by decide) cv4 c1 (fun n2 => ?_) (fun n2 => ?_)
  · have hf := ite_p n2 hf
    refine r_iload_n C dX1_cellsOf_34 rfl ?_
    cases hf
    exact r_jret C hr dX1_cellsOf_35 cv3
  · have hf := ite_n n2 hf
    refine r_aload_n C dX1_cellsOf_12 rfl ?_
    obtain ⟨q3, hf⟩ := gf_s hf
    refine r_gf C ct1 (j := 1) (ji := 1) dX1_cellsOf_13 q3 rfl rfl (by decide) w_131 rfl (fun c3 => ?_)
    refine r_aload_n C dX1_cellsOf_16 rfl ?_
    refine r_iload C dX1_cellsOf_17 rfl ?_
    obtain ⟨q4, hf⟩ := rd_s hf
    refine r_iald C dX1_cellsOf_19 q4 rfl (fun c4 => ?_)
    obtain ⟨q5, hf⟩ := rd_s hf
    refine r_iald C dX1_cellsOf_20 q5 rfl (fun c5 => ?_)
    refine r_iload_n C dX1_cellsOf_21 rfl ?_
    refine r_icmp_ne C dX1_cellsOf_22 (tgt := 28) (by decide) c5 cv2 (fun n6 => ?_) (fun n6 => ?_)
    · have hf := ite_n n6 hf
      exact G.mask [true, true, true, true, true] rfl rfl (b_X1_cellsOf_28 C hr L5 cv2 cv3 cv4 hf)
    · have hf := ite_p n6 hf
      obtain ⟨x7, e7, hf⟩ := lb_s hf
      have c7 : in32 x7 := by rw [e7]; exact (in32_t _)
      refine r_iincL C dX1_cellsOf_25 rfl e7 (Nat.le_of_ble_eq_true rfl) rfl ?_
      exact G.mask [true, true, true, true, true] rfl rfl (b_X1_cellsOf_28 C hr L5 cv2 c7 cv4 hf)
set_option maxRecDepth 20000 in
theorem l_X1_cellsOf_5 {g : GT} {Z : Int × MM} {n : Nat} (C : Cx g cX1_cellsOf 5 yX1_cellsOf 0 0) (hr : Rt g (some .int) 0 Z) {v0 v1 v2 : Int}   (cv2 : in32 v2) : ∀ (k : Nat) (v3 v4 : Int) (h : MM), in32 v3 → in32 v4 → f_X1_cellsOf_5 n  v0 v1 v2 k v3 v4 h = some Z → G g 5 [(2, v0), (2, v1), (0, v2), (0, v3), (0, v4)] [] h := by
  intro k
  induction k with
  | zero => intro v3 v4 h cv3 cv4 hf; exact absurd hf (by intro z; cases z)
  | succ k ih => intro v3 v4 h cv3 cv4 hf; exact b_X1_cellsOf_5b C hr (rec5 := f_X1_cellsOf_5 n  v0 v1 v2 k)  ih cv2 cv3 cv4 (show f_X1_cellsOf_5b n  (f_X1_cellsOf_5 n  v0 v1 v2 k) v0 v1 v2 v3 v4 h = some Z from hf)
set_option maxRecDepth 20000 in
theorem e_X1_cellsOf {g : GT} {Z : Int × MM} {n : Nat} (C : Cx g cX1_cellsOf 5 yX1_cellsOf 0 0) (hr : Rt g (some .int) 0 Z) {v0 v1 v2 : Int} (cv0 : cK 2 v0) (cv1 : cK 2 v1) (cv2 : cK 0 v2) {h : MM} (hf : f_X1_cellsOf n v0 v1 v2 h = some Z) : G g 0 [(2, v0), (2, v1), (0, v2), (3, 0), (3, 0)] [] h := by
  have cv2 : in32 v2 := cv2
  unfold f_X1_cellsOf at hf
  refine r_iconst C dX1_cellsOf_0 ?_
  refine r_istore_n C dX1_cellsOf_1 (Nat.le_of_ble_eq_true rfl) rfl ?_
  refine r_iconst C dX1_cellsOf_2 ?_
  refine r_istore C dX1_cellsOf_3 (Nat.le_of_ble_eq_true rfl) rfl ?_
  exact G.mask [true, true, true, true, true] rfl rfl (l_X1_cellsOf_5 C hr  cv2 _ _ _ _ (in32_of rfl) (in32_of rfl) hf)
set_option maxRecDepth 20000 in
theorem am_X1_cellsOf (l : Launch) (n : Nat) : AM l yX1_cellsOf cX1_cellsOf 5 (some .int) 0 0 [2, 2, 0] 0 (un3 (f_X1_cellsOf n)) := by
  refine AM.intro (by decide) (fun xs hx => ?_) (fun g xs h Z hl C hr hx hf => ?_)
  · obtain ⟨a0, a1, a2, rfl, c0, c1, c2⟩ := canL_3 hx
    exact Nat.le_of_ble_eq_true rfl
  · obtain ⟨a0, a1, a2, rfl, c0, c1, c2⟩ := canL_3 hx
    have hf := (un3_e _ a0 a1 a2 _).symm.trans hf
    exact e_X1_cellsOf (n := n) C hr c0 c1 c2 hf
/-! LinesPromised$Land.claimsOf([I)I -/
theorem dX1_claimsOf_0 : decode cX1_claimsOf 0 = .ok (.iconst 0, 1) := by decide +kernel
theorem dX1_claimsOf_1 : decode cX1_claimsOf 1 = .ok (.istore_n 2, 1) := by decide +kernel
theorem dX1_claimsOf_2 : decode cX1_claimsOf 2 = .ok (.iconst 0, 1) := by decide +kernel
theorem dX1_claimsOf_3 : decode cX1_claimsOf 3 = .ok (.istore_n 3, 1) := by decide +kernel
theorem dX1_claimsOf_4 : decode cX1_claimsOf 4 = .ok (.iload_n 3, 1) := by decide +kernel
theorem dX1_claimsOf_5 : decode cX1_claimsOf 5 = .ok (.aload_n 1, 1) := by decide +kernel
theorem dX1_claimsOf_6 : decode cX1_claimsOf 6 = .ok (.arraylength, 1) := by decide +kernel
theorem dX1_claimsOf_7 : decode cX1_claimsOf 7 = .ok (.if_icmp .ge 20, 3) := by decide +kernel
theorem dX1_claimsOf_10 : decode cX1_claimsOf 10 = .ok (.iload_n 2, 1) := by decide +kernel
theorem dX1_claimsOf_11 : decode cX1_claimsOf 11 = .ok (.aload_n 0, 1) := by decide +kernel
theorem dX1_claimsOf_12 : decode cX1_claimsOf 12 = .ok (.getfield 18, 3) := by decide +kernel
theorem dX1_claimsOf_15 : decode cX1_claimsOf 15 = .ok (.aload_n 1, 1) := by decide +kernel
theorem dX1_claimsOf_16 : decode cX1_claimsOf 16 = .ok (.iload_n 3, 1) := by decide +kernel
theorem dX1_claimsOf_17 : decode cX1_claimsOf 17 = .ok (.iaload, 1) := by decide +kernel
theorem dX1_claimsOf_18 : decode cX1_claimsOf 18 = .ok (.iaload, 1) := by decide +kernel
theorem dX1_claimsOf_19 : decode cX1_claimsOf 19 = .ok (.iadd, 1) := by decide +kernel
theorem dX1_claimsOf_20 : decode cX1_claimsOf 20 = .ok (.istore_n 2, 1) := by decide +kernel
theorem dX1_claimsOf_21 : decode cX1_claimsOf 21 = .ok (.iinc 3 1, 3) := by decide +kernel
theorem dX1_claimsOf_24 : decode cX1_claimsOf 24 = .ok (.goto (-20), 3) := by decide +kernel
theorem dX1_claimsOf_27 : decode cX1_claimsOf 27 = .ok (.iload_n 2, 1) := by decide +kernel
theorem dX1_claimsOf_28 : decode cX1_claimsOf 28 = .ok (.ireturn, 1) := by decide +kernel
theorem cm_X1_claimsOf : CM yX1_claimsOf cX1_claimsOf 4 (some .int) 1 1 := ⟨w_974, w_975, w_976, w_89, ⟨by decide +kernel, by decide +kernel, by decide +kernel⟩, ⟨_, _, rfl⟩, by decide⟩
noncomputable def f_X1_claimsOf_4b (n : Nat) (rec4 : Int → Int → MM → RR) (v0 v1 v2 v3 : Int) (h : MM) : RR :=
  al h v1 100 fun r1 =>
  if r1 ≤ v3 then
    some (v2, h)
  else
  gf h v0 1 2 fun r3 =>
  rd h v1 100 v3 fun r4 =>
  rd h r3 100 r4 fun r5 =>
  lb (wr (v2 + r5)) fun x6 =>
  lb (wr (v3 + 1)) fun x7 =>
  rec4 x6 x7 h
noncomputable def f_X1_claimsOf_4 (n : Nat)  (v0 v1 : Int) : Nat → Int → Int → MM → RR
  | 0, _, _, _ => none
  | k + 1, v2, v3, h => f_X1_claimsOf_4b n  (f_X1_claimsOf_4 n  v0 v1 k) v0 v1 v2 v3 h
noncomputable def f_X1_claimsOf (n : Nat) (v0 v1 : Int) (h : MM) : RR :=
  f_X1_claimsOf_4 n v0 v1 n 0 0 h
set_option maxRecDepth 20000 in
theorem b_X1_claimsOf_4b {g : GT} {Z : Int × MM} {n : Nat} (C : Cx g cX1_claimsOf 4 yX1_claimsOf 0 0) (hr : Rt g (some .int) 0 Z) {v0 v1 v2 v3 : Int}  {rec4 : Int → Int → MM → RR} (L4 : ∀ (u2 u3 : Int) (h : MM), in32 u2 → in32 u3 → rec4 u2 u3 h = some Z → G g 4 [(2, v0), (2, v1), (0, u2), (0, u3)] [] h) (cv2 : in32 v2) (cv3 : in32 v3) {h : MM} (hf : f_X1_claimsOf_4b n rec4 v0 v1 v2 v3 h = some Z) : G g 4 [(2, v0), (2, v1), (0, v2), (0, v3)] [] h := by
  unfold f_X1_claimsOf_4b at hf
  refine r_iload_n C dX1_claimsOf_4 rfl ?_
  refine r_aload_n C dX1_claimsOf_5 rfl ?_
  obtain ⟨q1, hf⟩ := al_s hf
  refine r_alen C (tn := 100) dX1_claimsOf_6 q1 rfl (by decide) (fun c1 _ => ?_)
  refine r_icmp_ge C dX1_claimsOf_7 (tgt := 27) (by decide) cv3 c1 (fun n2 => ?_) (fun n2 => ?_)
  · have hf := ite_p n2 hf
    refine r_iload_n C dX1_claimsOf_27 rfl ?_
    cases hf
    exact r_jret C hr dX1_claimsOf_28 cv2
  · have hf := ite_n n2 hf
    refine r_iload_n C dX1_claimsOf_10 rfl ?_
    refine r_aload_n C dX1_claimsOf_11 rfl ?_
    obtain ⟨q3, hf⟩ := gf_s hf
    refine r_gf C ct1 (j := 2) (ji := 2) dX1_claimsOf_12 q3 rfl rfl (by decide) w_134 rfl (fun c3 => ?_)
    refine r_aload_n C dX1_claimsOf_15 rfl ?_
    refine r_iload_n C dX1_claimsOf_16 rfl ?_
    obtain ⟨q4, hf⟩ := rd_s hf
    refine r_iald C dX1_claimsOf_17 q4 rfl (fun c4 => ?_)
    obtain ⟨q5, hf⟩ := rd_s hf
    refine r_iald C dX1_claimsOf_18 q5 rfl (fun c5 => ?_)
    refine r_iadd C dX1_claimsOf_19 ?_
    obtain ⟨x6, e6, hf⟩ := lb_s hf
    have c6 : in32 x6 := by rw [e6]; exact (in32_t _)
    refine r_istore_nL C dX1_claimsOf_20 e6 (Nat.le_of_ble_eq_true rfl) rfl ?_
    obtain ⟨x7, e7, hf⟩ := lb_s hf
    have c7 : in32 x7 := by rw [e7]; exact (in32_t _)
    refine r_iincL C dX1_claimsOf_21 rfl e7 (Nat.le_of_ble_eq_true rfl) rfl ?_
    refine r_goto C dX1_claimsOf_24 (tgt := 4) (by decide) ?_
    exact G.mask [true, true, true, true] rfl rfl (L4 _ _ _ c6 c7 hf)
set_option maxRecDepth 20000 in
theorem l_X1_claimsOf_4 {g : GT} {Z : Int × MM} {n : Nat} (C : Cx g cX1_claimsOf 4 yX1_claimsOf 0 0) (hr : Rt g (some .int) 0 Z) {v0 v1 : Int}    : ∀ (k : Nat) (v2 v3 : Int) (h : MM), in32 v2 → in32 v3 → f_X1_claimsOf_4 n  v0 v1 k v2 v3 h = some Z → G g 4 [(2, v0), (2, v1), (0, v2), (0, v3)] [] h := by
  intro k
  induction k with
  | zero => intro v2 v3 h cv2 cv3 hf; exact absurd hf (by intro z; cases z)
  | succ k ih => intro v2 v3 h cv2 cv3 hf; exact b_X1_claimsOf_4b C hr (rec4 := f_X1_claimsOf_4 n  v0 v1 k)  ih cv2 cv3 (show f_X1_claimsOf_4b n  (f_X1_claimsOf_4 n  v0 v1 k) v0 v1 v2 v3 h = some Z from hf)
set_option maxRecDepth 20000 in
theorem e_X1_claimsOf {g : GT} {Z : Int × MM} {n : Nat} (C : Cx g cX1_claimsOf 4 yX1_claimsOf 0 0) (hr : Rt g (some .int) 0 Z) {v0 v1 : Int} (cv0 : cK 2 v0) (cv1 : cK 2 v1) {h : MM} (hf : f_X1_claimsOf n v0 v1 h = some Z) : G g 0 [(2, v0), (2, v1), (3, 0), (3, 0)] [] h := by
  unfold f_X1_claimsOf at hf
  refine r_iconst C dX1_claimsOf_0 ?_
  refine r_istore_n C dX1_claimsOf_1 (Nat.le_of_ble_eq_true rfl) rfl ?_
  refine r_iconst C dX1_claimsOf_2 ?_
  refine r_istore_n C dX1_claimsOf_3 (Nat.le_of_ble_eq_true rfl) rfl ?_
  exact G.mask [true, true, true, true] rfl rfl (l_X1_claimsOf_4 C hr   _ _ _ _ (in32_of rfl) (in32_of rfl) hf)
set_option maxRecDepth 20000 in
theorem am_X1_claimsOf (l : Launch) (n : Nat) : AM l yX1_claimsOf cX1_claimsOf 4 (some .int) 0 0 [2, 2] 0 (un2 (f_X1_claimsOf n)) := by
  refine AM.intro (by decide) (fun xs hx => ?_) (fun g xs h Z hl C hr hx hf => ?_)
  · obtain ⟨a0, a1, rfl, c0, c1⟩ := canL_2 hx
    exact Nat.le_of_ble_eq_true rfl
  · obtain ⟨a0, a1, rfl, c0, c1⟩ := canL_2 hx
    have hf := (un2_e _ a0 a1 _).symm.trans hf
    exact e_X1_claimsOf (n := n) C hr c0 c1 hf
/-! LinesPromised$Order.lets()Z -/
theorem dX3_lets_0 : decode cX3_lets 0 = .ok (.aload_n 0, 1) := by decide +kernel
theorem dX3_lets_1 : decode cX3_lets 1 = .ok (.aload_n 0, 1) := by decide +kernel
theorem dX3_lets_2 : decode cX3_lets 2 = .ok (.getfield 9, 3) := by decide +kernel
theorem dX3_lets_5 : decode cX3_lets 5 = .ok (.bipush 6, 2) := by decide +kernel
theorem dX3_lets_7 : decode cX3_lets 7 = .ok (.iaload, 1) := by decide +kernel
theorem dX3_lets_8 : decode cX3_lets 8 = .ok (.putfield 39, 3) := by decide +kernel
theorem dX3_lets_11 : decode cX3_lets 11 = .ok (.aload_n 0, 1) := by decide +kernel
theorem dX3_lets_12 : decode cX3_lets 12 = .ok (.iconst 0, 1) := by decide +kernel
theorem dX3_lets_13 : decode cX3_lets 13 = .ok (.invokevirtual 46, 3) := by decide +kernel
theorem dX3_lets_16 : decode cX3_lets 16 = .ok (.iconst 1, 1) := by decide +kernel
theorem dX3_lets_17 : decode cX3_lets 17 = .ok (.if_icmp .ne 7, 3) := by decide +kernel
theorem dX3_lets_20 : decode cX3_lets 20 = .ok (.iconst 1, 1) := by decide +kernel
theorem dX3_lets_21 : decode cX3_lets 21 = .ok (.goto 4, 3) := by decide +kernel
theorem dX3_lets_24 : decode cX3_lets 24 = .ok (.iconst 0, 1) := by decide +kernel
theorem dX3_lets_25 : decode cX3_lets 25 = .ok (.ireturn, 1) := by decide +kernel
theorem cm_X3_lets : CM yX3_lets cX3_lets 1 (some .boolean) 0 3 := ⟨w_978, w_979, w_980, w_98, ⟨by decide +kernel, by decide +kernel, by decide +kernel⟩, ⟨_, _, rfl⟩, by decide⟩
noncomputable def f_X3_lets_25 (n : Nat)  (s0 : Int) (h : MM) : RR :=
  ck (isb s0) <|
  some (s0, h)
noncomputable def f_X3_lets (n : Nat) (v0 : Int) (h : MM) : RR :=
  gf h v0 3 2 fun r1 =>
  rd h r1 100 6 fun r2 =>
  pf h v0 3 5 r2 fun h3 =>
  gk h3 v0 3 <|
  bd (f_X3_either n v0 0 h3) fun r4 h4 =>
  if r4 = 1 then
    f_X3_lets_25 n 1 h4
  else
  f_X3_lets_25 n 0 h4
set_option maxRecDepth 20000 in
theorem b_X3_lets_25 {g : GT} {Z : Int × MM} {n : Nat} (C : Cx g cX3_lets 1 yX3_lets 33 778) (hr : Rt g (some .boolean) 0 Z) {s0 : Int}    (cs0 : in32 s0) {h : MM} (hf : f_X3_lets_25 n  s0 h = some Z) : G g 25 [(3, 0)] [(0, s0)] h := by
  unfold f_X3_lets_25 at hf
  obtain ⟨b1, hf⟩ := ck_s hf
  cases hf
  exact r_zret C hr dX3_lets_25 b1
set_option maxRecDepth 20000 in
theorem e_X3_lets {g : GT} {Z : Int × MM} {n : Nat} (C : Cx g cX3_lets 1 yX3_lets 33 778) (hr : Rt g (some .boolean) 0 Z) {v0 : Int} (cv0 : cK 2 v0) {h : MM} (hf : f_X3_lets n v0 h = some Z) : G g 0 [(2, v0)] [] h := by
  unfold f_X3_lets at hf
  refine r_aload_n C dX3_lets_0 rfl ?_
  refine r_aload_n C dX3_lets_1 rfl ?_
  obtain ⟨q1, hf⟩ := gf_s hf
  refine r_gf C ct3 (j := 2) (ji := 2) dX3_lets_2 q1 rfl rfl (by decide) w_535 rfl (fun c1 => ?_)
  refine r_bipush C dX3_lets_5 rfl ?_
  obtain ⟨q2, hf⟩ := rd_s hf
  refine r_iald C dX3_lets_7 q2 rfl (fun c2 => ?_)
  obtain ⟨q3, hf⟩ := pf_s hf
  refine r_pf C ct3 (j := 5) (ji := 5) dX3_lets_8 q3 rfl rfl (by decide) w_542 rfl (Or.inl rfl) nar_int c2 ?_
  refine r_aload_n C dX3_lets_11 rfl ?_
  refine r_iconst C dX3_lets_12 ?_
  obtain ⟨p4, hf⟩ := gk_s hf
  obtain ⟨r4, h4, hq4, hf⟩ := bd_s hf
  refine r_cV1 C (am_X3_either (gl g) n) cm_X3_either w_633 dX3_lets_13 ⟨Nat.le_of_ble_eq_true rfl, Nat.le_of_ble_eq_true rfl⟩ p4 rfl (in32_of rfl) rfl (Nat.le_of_ble_eq_true rfl) hq4 (by decide) (fun c4 => ?_)
  have c4 : in32 _ := c4
  refine r_iconst C dX3_lets_16 ?_
  refine r_icmp_ne C dX3_lets_17 (tgt := 24) (by decide) c4 (in32_of rfl) (fun n5 => ?_) (fun n5 => ?_)
  · have hf := ite_n n5 hf
    refine r_iconst C dX3_lets_24 ?_
    exact G.mask [false] rfl rfl (b_X3_lets_25 C hr  (in32_of rfl) hf)
  · have hf := ite_p n5 hf
    refine r_iconst C dX3_lets_20 ?_
    refine r_goto C dX3_lets_21 (tgt := 25) (by decide) ?_
    exact G.mask [false] rfl rfl (b_X3_lets_25 C hr  (in32_of rfl) hf)
set_option maxRecDepth 20000 in
theorem am_X3_lets (l : Launch) (n : Nat) : AM l yX3_lets cX3_lets 1 (some .boolean) 33 778 [2] 0 (un1 (f_X3_lets n)) := by
  refine AM.intro (by decide) (fun xs hx => ?_) (fun g xs h Z hl C hr hx hf => ?_)
  · obtain ⟨a0, rfl, c0⟩ := canL_1 hx
    exact Nat.le_of_ble_eq_true rfl
  · obtain ⟨a0, rfl, c0⟩ := canL_1 hx
    have hf := (un1_e _ a0 _).symm.trans hf
    exact e_X3_lets (n := n) C hr c0 hf
/-! LinesPromised$World.canBeLet(LLinesPromised$Paper;I)Z -/
theorem dX10_canBeLet_0 : decode cX10_canBeLet 0 = .ok (.aload_n 0, 1) := by decide +kernel
theorem dX10_canBeLet_1 : decode cX10_canBeLet 1 = .ok (.bipush 6, 2) := by decide +kernel
theorem dX10_canBeLet_3 : decode cX10_canBeLet 3 = .ok (.iload_n 2, 1) := by decide +kernel
theorem dX10_canBeLet_4 : decode cX10_canBeLet 4 = .ok (.invokevirtual 105, 3) := by decide +kernel
theorem dX10_canBeLet_7 : decode cX10_canBeLet 7 = .ok (.astore_n 3, 1) := by decide +kernel
theorem dX10_canBeLet_8 : decode cX10_canBeLet 8 = .ok (.aload_n 3, 1) := by decide +kernel
theorem dX10_canBeLet_9 : decode cX10_canBeLet 9 = .ok (.ifnonnull 5, 3) := by decide +kernel
theorem dX10_canBeLet_12 : decode cX10_canBeLet 12 = .ok (.iconst 1, 1) := by decide +kernel
theorem dX10_canBeLet_13 : decode cX10_canBeLet 13 = .ok (.ireturn, 1) := by decide +kernel
theorem dX10_canBeLet_14 : decode cX10_canBeLet 14 = .ok (.aload_n 3, 1) := by decide +kernel
theorem dX10_canBeLet_15 : decode cX10_canBeLet 15 = .ok (.getfield 191, 3) := by decide +kernel
theorem dX10_canBeLet_18 : decode cX10_canBeLet 18 = .ok (.iconst 0, 1) := by decide +kernel
theorem dX10_canBeLet_19 : decode cX10_canBeLet 19 = .ok (.aload_n 0, 1) := by decide +kernel
theorem dX10_canBeLet_20 : decode cX10_canBeLet 20 = .ok (.getfield 12, 3) := by decide +kernel
theorem dX10_canBeLet_23 : decode cX10_canBeLet 23 = .ok (.aload_n 1, 1) := by decide +kernel
theorem dX10_canBeLet_24 : decode cX10_canBeLet 24 = .ok (.getfield 162, 3) := by decide +kernel
theorem dX10_canBeLet_27 : decode cX10_canBeLet 27 = .ok (.invokevirtual 194, 3) := by decide +kernel
theorem dX10_canBeLet_30 : decode cX10_canBeLet 30 = .ok (.bipush 10, 2) := by decide +kernel
theorem dX10_canBeLet_32 : decode cX10_canBeLet 32 = .ok (.idiv, 1) := by decide +kernel
theorem dX10_canBeLet_33 : decode cX10_canBeLet 33 = .ok (.iastore, 1) := by decide +kernel
theorem dX10_canBeLet_34 : decode cX10_canBeLet 34 = .ok (.aload_n 3, 1) := by decide +kernel
theorem dX10_canBeLet_35 : decode cX10_canBeLet 35 = .ok (.getfield 191, 3) := by decide +kernel
theorem dX10_canBeLet_38 : decode cX10_canBeLet 38 = .ok (.iconst 1, 1) := by decide +kernel
theorem dX10_canBeLet_39 : decode cX10_canBeLet 39 = .ok (.aload_n 0, 1) := by decide +kernel
theorem dX10_canBeLet_40 : decode cX10_canBeLet 40 = .ok (.getfield 12, 3) := by decide +kernel
theorem dX10_canBeLet_43 : decode cX10_canBeLet 43 = .ok (.getfield 198, 3) := by decide +kernel
theorem dX10_canBeLet_46 : decode cX10_canBeLet 46 = .ok (.aload_n 1, 1) := by decide +kernel
theorem dX10_canBeLet_47 : decode cX10_canBeLet 47 = .ok (.getfield 123, 3) := by decide +kernel
theorem dX10_canBeLet_50 : decode cX10_canBeLet 50 = .ok (.iaload, 1) := by decide +kernel
theorem dX10_canBeLet_51 : decode cX10_canBeLet 51 = .ok (.aload_n 0, 1) := by decide +kernel
theorem dX10_canBeLet_52 : decode cX10_canBeLet 52 = .ok (.getfield 12, 3) := by decide +kernel
theorem dX10_canBeLet_55 : decode cX10_canBeLet 55 = .ok (.getfield 198, 3) := by decide +kernel
theorem dX10_canBeLet_58 : decode cX10_canBeLet 58 = .ok (.aload_n 1, 1) := by decide +kernel
theorem dX10_canBeLet_59 : decode cX10_canBeLet 59 = .ok (.getfield 118, 3) := by decide +kernel
theorem dX10_canBeLet_62 : decode cX10_canBeLet 62 = .ok (.iaload, 1) := by decide +kernel
theorem dX10_canBeLet_63 : decode cX10_canBeLet 63 = .ok (.iadd, 1) := by decide +kernel
theorem dX10_canBeLet_64 : decode cX10_canBeLet 64 = .ok (.iastore, 1) := by decide +kernel
theorem dX10_canBeLet_65 : decode cX10_canBeLet 65 = .ok (.aload_n 3, 1) := by decide +kernel
theorem dX10_canBeLet_66 : decode cX10_canBeLet 66 = .ok (.getfield 191, 3) := by decide +kernel
theorem dX10_canBeLet_69 : decode cX10_canBeLet 69 = .ok (.iconst 2, 1) := by decide +kernel
theorem dX10_canBeLet_70 : decode cX10_canBeLet 70 = .ok (.aload_n 0, 1) := by decide +kernel
theorem dX10_canBeLet_71 : decode cX10_canBeLet 71 = .ok (.getfield 12, 3) := by decide +kernel
theorem dX10_canBeLet_74 : decode cX10_canBeLet 74 = .ok (.aload_n 1, 1) := by decide +kernel
theorem dX10_canBeLet_75 : decode cX10_canBeLet 75 = .ok (.getfield 162, 3) := by decide +kernel
theorem dX10_canBeLet_78 : decode cX10_canBeLet 78 = .ok (.iconst 2, 1) := by decide +kernel
theorem dX10_canBeLet_79 : decode cX10_canBeLet 79 = .ok (.invokevirtual 201, 3) := by decide +kernel
theorem dX10_canBeLet_82 : decode cX10_canBeLet 82 = .ok (.iastore, 1) := by decide +kernel
theorem dX10_canBeLet_83 : decode cX10_canBeLet 83 = .ok (.aload_n 3, 1) := by decide +kernel
theorem dX10_canBeLet_84 : decode cX10_canBeLet 84 = .ok (.getfield 191, 3) := by decide +kernel
theorem dX10_canBeLet_87 : decode cX10_canBeLet 87 = .ok (.iconst 3, 1) := by decide +kernel
theorem dX10_canBeLet_88 : decode cX10_canBeLet 88 = .ok (.aload_n 0, 1) := by decide +kernel
theorem dX10_canBeLet_89 : decode cX10_canBeLet 89 = .ok (.getfield 12, 3) := by decide +kernel
theorem dX10_canBeLet_92 : decode cX10_canBeLet 92 = .ok (.aload_n 1, 1) := by decide +kernel
theorem dX10_canBeLet_93 : decode cX10_canBeLet 93 = .ok (.getfield 162, 3) := by decide +kernel
theorem dX10_canBeLet_96 : decode cX10_canBeLet 96 = .ok (.iconst 1, 1) := by decide +kernel
theorem dX10_canBeLet_97 : decode cX10_canBeLet 97 = .ok (.invokevirtual 201, 3) := by decide +kernel
theorem dX10_canBeLet_100 : decode cX10_canBeLet 100 = .ok (.iastore, 1) := by decide +kernel
theorem dX10_canBeLet_101 : decode cX10_canBeLet 101 = .ok (.aload_n 3, 1) := by decide +kernel
theorem dX10_canBeLet_102 : decode cX10_canBeLet 102 = .ok (.getfield 191, 3) := by decide +kernel
theorem dX10_canBeLet_105 : decode cX10_canBeLet 105 = .ok (.iconst 4, 1) := by decide +kernel
theorem dX10_canBeLet_106 : decode cX10_canBeLet 106 = .ok (.aload_n 0, 1) := by decide +kernel
theorem dX10_canBeLet_107 : decode cX10_canBeLet 107 = .ok (.getfield 12, 3) := by decide +kernel
theorem dX10_canBeLet_110 : decode cX10_canBeLet 110 = .ok (.aload_n 1, 1) := by decide +kernel
theorem dX10_canBeLet_111 : decode cX10_canBeLet 111 = .ok (.getfield 162, 3) := by decide +kernel
theorem dX10_canBeLet_114 : decode cX10_canBeLet 114 = .ok (.invokevirtual 205, 3) := by decide +kernel
theorem dX10_canBeLet_117 : decode cX10_canBeLet 117 = .ok (.iastore, 1) := by decide +kernel
theorem dX10_canBeLet_118 : decode cX10_canBeLet 118 = .ok (.aload_n 3, 1) := by decide +kernel
theorem dX10_canBeLet_119 : decode cX10_canBeLet 119 = .ok (.getfield 191, 3) := by decide +kernel
theorem dX10_canBeLet_122 : decode cX10_canBeLet 122 = .ok (.iconst 5, 1) := by decide +kernel
theorem dX10_canBeLet_123 : decode cX10_canBeLet 123 = .ok (.aload_n 1, 1) := by decide +kernel
theorem dX10_canBeLet_124 : decode cX10_canBeLet 124 = .ok (.getfield 146, 3) := by decide +kernel
theorem dX10_canBeLet_127 : decode cX10_canBeLet 127 = .ok (.iastore, 1) := by decide +kernel
theorem dX10_canBeLet_128 : decode cX10_canBeLet 128 = .ok (.aload_n 3, 1) := by decide +kernel
theorem dX10_canBeLet_129 : decode cX10_canBeLet 129 = .ok (.invokevirtual 208, 3) := by decide +kernel
theorem dX10_canBeLet_132 : decode cX10_canBeLet 132 = .ok (.ireturn, 1) := by decide +kernel
theorem cm_X10_canBeLet : CM yX10_canBeLet cX10_canBeLet 4 (some .boolean) 2 10 := ⟨w_965, w_966, w_967, w_88, ⟨by decide +kernel, by decide +kernel, by decide +kernel⟩, ⟨_, _, rfl⟩, by decide⟩
noncomputable def f_X10_canBeLet (n : Nat) (v0 v1 v2 : Int) (h : MM) : RR :=
  gk h v0 10 <|
  bd (f_X10_ruling n v0 6 v2 h) fun r1 h1 =>
  if r1 = 0 then
    ck (isb 1) <|
    some (1, h1)
  else
  gf h1 r1 3 4 fun r3 =>
  gf h1 v0 10 0 fun r4 =>
  gf h1 v1 4 3 fun r5 =>
  gk h1 r4 1 <|
  bd (f_X1_yardsOf n r4 r5 h1) fun r6 h6 =>
  wt h6 r3 100 0 (idv r6 10) fun h7 =>
  gf h7 r1 3 4 fun r8 =>
  gf h7 v0 10 0 fun r9 =>
  gf h7 r9 1 4 fun r10 =>
  gf h7 v1 4 5 fun r11 =>
  rd h7 r10 100 r11 fun r12 =>
  gf h7 v0 10 0 fun r13 =>
  gf h7 r13 1 4 fun r14 =>
  gf h7 v1 4 6 fun r15 =>
  rd h7 r14 100 r15 fun r16 =>
  wt h7 r8 100 1 (wr (r12 + r16)) fun h17 =>
  gf h17 r1 3 4 fun r18 =>
  gf h17 v0 10 0 fun r19 =>
  gf h17 v1 4 3 fun r20 =>
  gk h17 r19 1 <|
  bd (f_X1_cellsOf n r19 r20 2 h17) fun r21 h21 =>
  wt h21 r18 100 2 r21 fun h22 =>
  gf h22 r1 3 4 fun r23 =>
  gf h22 v0 10 0 fun r24 =>
  gf h22 v1 4 3 fun r25 =>
  gk h22 r24 1 <|
  bd (f_X1_cellsOf n r24 r25 1 h22) fun r26 h26 =>
  wt h26 r23 100 3 r26 fun h27 =>
  gf h27 r1 3 4 fun r28 =>
  gf h27 v0 10 0 fun r29 =>
  gf h27 v1 4 3 fun r30 =>
  gk h27 r29 1 <|
  bd (f_X1_claimsOf n r29 r30 h27) fun r31 h31 =>
  wt h31 r28 100 4 r31 fun h32 =>
  gf h32 r1 3 4 fun r33 =>
  gf h32 v1 4 7 fun r34 =>
  wt h32 r33 100 5 r34 fun h35 =>
  gk h35 r1 3 <|
  bd (f_X3_lets n r1 h35) fun r36 h36 =>
  ck (isb r36) <|
  some (r36, h36)
set_option maxRecDepth 20000 in
theorem e_X10_canBeLet {g : GT} {Z : Int × MM} {n : Nat} (C : Cx g cX10_canBeLet 4 yX10_canBeLet 34 798) (hr : Rt g (some .boolean) 0 Z) {v0 v1 v2 : Int} (cv0 : cK 2 v0) (cv1 : cK 2 v1) (cv2 : cK 0 v2) {h : MM} (hf : f_X10_canBeLet n v0 v1 v2 h = some Z) : G g 0 [(2, v0), (2, v1), (0, v2), (3, 0)] [] h := by
  have cv2 : in32 v2 := cv2
  unfold f_X10_canBeLet at hf
  refine r_aload_n C dX10_canBeLet_0 rfl ?_
  refine r_bipush C dX10_canBeLet_1 rfl ?_
  refine r_iload_n C dX10_canBeLet_3 rfl ?_
  obtain ⟨p1, hf⟩ := gk_s hf
  obtain ⟨r1, h1, hq1, hf⟩ := bd_s hf
  refine r_cV2 C (am_X10_ruling (gl g) n) cm_X10_ruling w_684 dX10_canBeLet_4 ⟨Nat.le_of_ble_eq_true rfl, Nat.le_of_ble_eq_true rfl⟩ p1 rfl (in32_of rfl) cv2 rfl (Nat.le_of_ble_eq_true rfl) hq1 (by decide) (fun c1 => ?_)
  refine r_astore_n C dX10_canBeLet_7 (Nat.le_of_ble_eq_true rfl) rfl ?_
  refine r_aload_n C dX10_canBeLet_8 rfl ?_
  refine r_ifnonnull C dX10_canBeLet_9 (tgt := 14) (by decide) (fun n2 => ?_) (fun n2 => ?_)
  · have hf := ite_n n2 hf
    refine r_aload_n C dX10_canBeLet_14 rfl ?_
    obtain ⟨q3, hf⟩ := gf_s hf
    refine r_gf C ct3 (j := 4) (ji := 4) dX10_canBeLet_15 q3 rfl rfl (by decide) w_541 rfl (fun c3 => ?_)
    refine r_iconst C dX10_canBeLet_18 ?_
    refine r_aload_n C dX10_canBeLet_19 rfl ?_
    obtain ⟨q4, hf⟩ := gf_s hf
    refine r_gf C ct10 (j := 0) (ji := 0) dX10_canBeLet_20 q4 rfl rfl (by decide) w_298 rfl (fun c4 => ?_)
    refine r_aload_n C dX10_canBeLet_23 rfl ?_
    obtain ⟨q5, hf⟩ := gf_s hf
    refine r_gf C ct4 (j := 3) (ji := 3) dX10_canBeLet_24 q5 rfl rfl (by decide) w_724 rfl (fun c5 => ?_)
    obtain ⟨p6, hf⟩ := gk_s hf
    obtain ⟨r6, h6, hq6, hf⟩ := bd_s hf
    refine r_cV1 C (am_X1_yardsOf (gl g) n) cm_X1_yardsOf w_968 dX10_canBeLet_27 ⟨Nat.le_of_ble_eq_true rfl, Nat.le_of_ble_eq_true rfl⟩ p6 rfl trivial rfl (Nat.le_of_ble_eq_true rfl) hq6 (by decide) (fun c6 => ?_)
    have c6 : in32 _ := c6
    refine r_bipush C dX10_canBeLet_30 rfl ?_
    refine r_idiv C dX10_canBeLet_32 (in32_of rfl) (by decide) ?_
    obtain ⟨q7, hf⟩ := wt_s hf
    refine r_iast C dX10_canBeLet_33 q7 rfl (in32_t _) ?_
    refine r_aload_n C dX10_canBeLet_34 rfl ?_
    obtain ⟨q8, hf⟩ := gf_s hf
    refine r_gf C ct3 (j := 4) (ji := 4) dX10_canBeLet_35 q8 rfl rfl (by decide) w_541 rfl (fun c8 => ?_)
    refine r_iconst C dX10_canBeLet_38 ?_
    refine r_aload_n C dX10_canBeLet_39 rfl ?_
    obtain ⟨q9, hf⟩ := gf_s hf
    refine r_gf C ct10 (j := 0) (ji := 0) dX10_canBeLet_40 q9 rfl rfl (by decide) w_298 rfl (fun c9 => ?_)
    obtain ⟨q10, hf⟩ := gf_s hf
    refine r_gf C ct1 (j := 4) (ji := 4) dX10_canBeLet_43 q10 rfl rfl (by decide) w_140 rfl (fun c10 => ?_)
    refine r_aload_n C dX10_canBeLet_46 rfl ?_
    obtain ⟨q11, hf⟩ := gf_s hf
    refine r_gf C ct4 (j := 5) (ji := 5) dX10_canBeLet_47 q11 rfl rfl (by decide) w_733 rfl (fun c11 => ?_)
    have c11 : in32 _ := c11
    obtain ⟨q12, hf⟩ := rd_s hf
    refine r_iald C dX10_canBeLet_50 q12 rfl (fun c12 => ?_)
    refine r_aload_n C dX10_canBeLet_51 rfl ?_
    obtain ⟨q13, hf⟩ := gf_s hf
    refine r_gf C ct10 (j := 0) (ji := 0) dX10_canBeLet_52 q13 rfl rfl (by decide) w_298 rfl (fun c13 => ?_)
    obtain ⟨q14, hf⟩ := gf_s hf
    refine r_gf C ct1 (j := 4) (ji := 4) dX10_canBeLet_55 q14 rfl rfl (by decide) w_140 rfl (fun c14 => ?_)
    refine r_aload_n C dX10_canBeLet_58 rfl ?_
    obtain ⟨q15, hf⟩ := gf_s hf
    refine r_gf C ct4 (j := 6) (ji := 6) dX10_canBeLet_59 q15 rfl rfl (by decide) w_738 rfl (fun c15 => ?_)
    have c15 : in32 _ := c15
    obtain ⟨q16, hf⟩ := rd_s hf
    refine r_iald C dX10_canBeLet_62 q16 rfl (fun c16 => ?_)
    refine r_iadd C dX10_canBeLet_63 ?_
    obtain ⟨q17, hf⟩ := wt_s hf
    refine r_iast C dX10_canBeLet_64 q17 rfl (in32_t _) ?_
    refine r_aload_n C dX10_canBeLet_65 rfl ?_
    obtain ⟨q18, hf⟩ := gf_s hf
    refine r_gf C ct3 (j := 4) (ji := 4) dX10_canBeLet_66 q18 rfl rfl (by decide) w_541 rfl (fun c18 => ?_)
    refine r_iconst C dX10_canBeLet_69 ?_
    refine r_aload_n C dX10_canBeLet_70 rfl ?_
    obtain ⟨q19, hf⟩ := gf_s hf
    refine r_gf C ct10 (j := 0) (ji := 0) dX10_canBeLet_71 q19 rfl rfl (by decide) w_298 rfl (fun c19 => ?_)
    refine r_aload_n C dX10_canBeLet_74 rfl ?_
    obtain ⟨q20, hf⟩ := gf_s hf
    refine r_gf C ct4 (j := 3) (ji := 3) dX10_canBeLet_75 q20 rfl rfl (by decide) w_724 rfl (fun c20 => ?_)
    refine r_iconst C dX10_canBeLet_78 ?_
    obtain ⟨p21, hf⟩ := gk_s hf
    obtain ⟨r21, h21, hq21, hf⟩ := bd_s hf
    refine r_cV2 C (am_X1_cellsOf (gl g) n) cm_X1_cellsOf w_969 dX10_canBeLet_79 ⟨Nat.le_of_ble_eq_true rfl, Nat.le_of_ble_eq_true rfl⟩ p21 rfl trivial (in32_of rfl) rfl (Nat.le_of_ble_eq_true rfl) hq21 (by decide) (fun c21 => ?_)
    have c21 : in32 _ := c21
    obtain ⟨q22, hf⟩ := wt_s hf
    refine r_iast C dX10_canBeLet_82 q22 rfl c21 ?_
    refine r_aload_n C dX10_canBeLet_83 rfl ?_
    obtain ⟨q23, hf⟩ := gf_s hf
    refine r_gf C ct3 (j := 4) (ji := 4) dX10_canBeLet_84 q23 rfl rfl (by decide) w_541 rfl (fun c23 => ?_)
    refine r_iconst C dX10_canBeLet_87 ?_
    refine r_aload_n C dX10_canBeLet_88 rfl ?_
    obtain ⟨q24, hf⟩ := gf_s hf
    refine r_gf C ct10 (j := 0) (ji := 0) dX10_canBeLet_89 q24 rfl rfl (by decide) w_298 rfl (fun c24 => ?_)
    refine r_aload_n C dX10_canBeLet_92 rfl ?_
    obtain ⟨q25, hf⟩ := gf_s hf
    refine r_gf C ct4 (j := 3) (ji := 3) dX10_canBeLet_93 q25 rfl rfl (by decide) w_724 rfl (fun c25 => ?_)
    refine r_iconst C dX10_canBeLet_96 ?_
    obtain ⟨p26, hf⟩ := gk_s hf
    obtain ⟨r26, h26, hq26, hf⟩ := bd_s hf
    refine r_cV2 C (am_X1_cellsOf (gl g) n) cm_X1_cellsOf w_969 dX10_canBeLet_97 ⟨Nat.le_of_ble_eq_true rfl, Nat.le_of_ble_eq_true rfl⟩ p26 rfl trivial (in32_of rfl) rfl (Nat.le_of_ble_eq_true rfl) hq26 (by decide) (fun c26 => ?_)
    have c26 : in32 _ := c26
    obtain ⟨q27, hf⟩ := wt_s hf
    refine r_iast C dX10_canBeLet_100 q27 rfl c26 ?_
    refine r_aload_n C dX10_canBeLet_101 rfl ?_
    obtain ⟨q28, hf⟩ := gf_s hf
    refine r_gf C ct3 (j := 4) (ji := 4) dX10_canBeLet_102 q28 rfl rfl (by decide) w_541 rfl (fun c28 => ?_)
    refine r_iconst C dX10_canBeLet_105 ?_
    refine r_aload_n C dX10_canBeLet_106 rfl ?_
    obtain ⟨q29, hf⟩ := gf_s hf
    refine r_gf C ct10 (j := 0) (ji := 0) dX10_canBeLet_107 q29 rfl rfl (by decide) w_298 rfl (fun c29 => ?_)
    refine r_aload_n C dX10_canBeLet_110 rfl ?_
    obtain ⟨q30, hf⟩ := gf_s hf
    refine r_gf C ct4 (j := 3) (ji := 3) dX10_canBeLet_111 q30 rfl rfl (by decide) w_724 rfl (fun c30 => ?_)
    obtain ⟨p31, hf⟩ := gk_s hf
    obtain ⟨r31, h31, hq31, hf⟩ := bd_s hf
    refine r_cV1 C (am_X1_claimsOf (gl g) n) cm_X1_claimsOf w_973 dX10_canBeLet_114 ⟨Nat.le_of_ble_eq_true rfl, Nat.le_of_ble_eq_true rfl⟩ p31 rfl trivial rfl (Nat.le_of_ble_eq_true rfl) hq31 (by decide) (fun c31 => ?_)
    have c31 : in32 _ := c31
    obtain ⟨q32, hf⟩ := wt_s hf
    refine r_iast C dX10_canBeLet_117 q32 rfl c31 ?_
    refine r_aload_n C dX10_canBeLet_118 rfl ?_
    obtain ⟨q33, hf⟩ := gf_s hf
    refine r_gf C ct3 (j := 4) (ji := 4) dX10_canBeLet_119 q33 rfl rfl (by decide) w_541 rfl (fun c33 => ?_)
    refine r_iconst C dX10_canBeLet_122 ?_
    refine r_aload_n C dX10_canBeLet_123 rfl ?_
    obtain ⟨q34, hf⟩ := gf_s hf
    refine r_gf C ct4 (j := 7) (ji := 7) dX10_canBeLet_124 q34 rfl rfl (by decide) w_743 rfl (fun c34 => ?_)
    have c34 : in32 _ := c34
    obtain ⟨q35, hf⟩ := wt_s hf
    refine r_iast C dX10_canBeLet_127 q35 rfl c34 ?_
    refine r_aload_n C dX10_canBeLet_128 rfl ?_
    obtain ⟨p36, hf⟩ := gk_s hf
    obtain ⟨r36, h36, hq36, hf⟩ := bd_s hf
    refine r_cV0 C (am_X3_lets (gl g) n) cm_X3_lets w_977 dX10_canBeLet_129 ⟨Nat.le_of_ble_eq_true rfl, Nat.le_of_ble_eq_true rfl⟩ p36 rfl  rfl (Nat.le_of_ble_eq_true rfl) hq36 (by decide) (fun c36 => ?_)
    have c36 : in32 _ := c36
    obtain ⟨b37, hf⟩ := ck_s hf
    cases hf
    exact r_zret C hr dX10_canBeLet_132 b37
  · have hf := ite_p n2 hf
    refine r_iconst C dX10_canBeLet_12 ?_
    obtain ⟨b38, hf⟩ := ck_s hf
    cases hf
    exact r_zret C hr dX10_canBeLet_13 b38
set_option maxRecDepth 20000 in
theorem am_X10_canBeLet (l : Launch) (n : Nat) : AM l yX10_canBeLet cX10_canBeLet 4 (some .boolean) 34 798 [2, 2, 0] 0 (un3 (f_X10_canBeLet n)) := by
  refine AM.intro (by decide) (fun xs hx => ?_) (fun g xs h Z hl C hr hx hf => ?_)
  · obtain ⟨a0, a1, a2, rfl, c0, c1, c2⟩ := canL_3 hx
    exact Nat.le_of_ble_eq_true rfl
  · obtain ⟨a0, a1, a2, rfl, c0, c1, c2⟩ := canL_3 hx
    have hf := (un3_e _ a0 a1 a2 _).symm.trans hf
    exact e_X10_canBeLet (n := n) C hr c0 c1 c2 hf
/-! LinesPromised.hear(II)I -/
theorem dX11_hear_0 : decode cX11_hear 0 = .ok (.aload_n 0, 1) := by decide +kernel
theorem dX11_hear_1 : decode cX11_hear 1 = .ok (.getfield 10, 3) := by decide +kernel
theorem dX11_hear_4 : decode cX11_hear 4 = .ok (.getfield 133, 3) := by decide +kernel
theorem dX11_hear_7 : decode cX11_hear 7 = .ok (.iload_n 1, 1) := by decide +kernel
theorem dX11_hear_8 : decode cX11_hear 8 = .ok (.iconst 3, 1) := by decide +kernel
theorem dX11_hear_9 : decode cX11_hear 9 = .ok (.invokevirtual 172, 3) := by decide +kernel
theorem dX11_hear_12 : decode cX11_hear 12 = .ok (.astore_n 3, 1) := by decide +kernel
theorem dX11_hear_13 : decode cX11_hear 13 = .ok (.aload_n 3, 1) := by decide +kernel
theorem dX11_hear_14 : decode cX11_hear 14 = .ok (.ifnonnull 5, 3) := by decide +kernel
theorem dX11_hear_17 : decode cX11_hear 17 = .ok (.iconst (-1), 1) := by decide +kernel
theorem dX11_hear_18 : decode cX11_hear 18 = .ok (.ireturn, 1) := by decide +kernel
theorem dX11_hear_19 : decode cX11_hear 19 = .ok (.iload_n 2, 1) := by decide +kernel
theorem dX11_hear_20 : decode cX11_hear 20 = .ok (.invokestatic 97, 3) := by decide +kernel
theorem dX11_hear_23 : decode cX11_hear 23 = .ok (.ifCond .ne 6, 3) := by decide +kernel
theorem dX11_hear_26 : decode cX11_hear 26 = .ok (.bipush (-2), 2) := by decide +kernel
theorem dX11_hear_28 : decode cX11_hear 28 = .ok (.ireturn, 1) := by decide +kernel
theorem dX11_hear_29 : decode cX11_hear 29 = .ok (.aload_n 0, 1) := by decide +kernel
theorem dX11_hear_30 : decode cX11_hear 30 = .ok (.getfield 10, 3) := by decide +kernel
theorem dX11_hear_33 : decode cX11_hear 33 = .ok (.aload_n 3, 1) := by decide +kernel
theorem dX11_hear_34 : decode cX11_hear 34 = .ok (.iload_n 2, 1) := by decide +kernel
theorem dX11_hear_35 : decode cX11_hear 35 = .ok (.invokevirtual 248, 3) := by decide +kernel
theorem dX11_hear_38 : decode cX11_hear 38 = .ok (.ifCond .eq 7, 3) := by decide +kernel
theorem dX11_hear_41 : decode cX11_hear 41 = .ok (.iconst 1, 1) := by decide +kernel
theorem dX11_hear_42 : decode cX11_hear 42 = .ok (.goto 4, 3) := by decide +kernel
theorem dX11_hear_45 : decode cX11_hear 45 = .ok (.iconst 0, 1) := by decide +kernel
theorem dX11_hear_46 : decode cX11_hear 46 = .ok (.ireturn, 1) := by decide +kernel
theorem cm_X11_hear : CM yX11_hear cX11_hear 4 (some .int) 2 11 := ⟨w_961, w_962, w_963, w_87, ⟨by decide +kernel, by decide +kernel, by decide +kernel⟩, ⟨_, _, rfl⟩, by decide⟩
noncomputable def f_X11_hear_46 (n : Nat)  (s0 : Int) (h : MM) : RR :=
  some (s0, h)
noncomputable def f_X11_hear (n : Nat) (v0 v1 v2 : Int) (h : MM) : RR :=
  gf h v0 11 0 fun r1 =>
  gf h r1 10 1 fun r2 =>
  gk h r2 5 <|
  bd (f_X5_find n r2 v1 3 h) fun r3 h3 =>
  if r3 = 0 then
    some ((-1), h3)
  else
  bd (f_X11_isDay n v2 h3) fun r5 h5 =>
  if r5 = 0 then
    some ((-2), h5)
  else
  gf h5 v0 11 0 fun r7 =>
  gk h5 r7 10 <|
  bd (f_X10_canBeLet n r7 r3 v2 h5) fun r8 h8 =>
  if r8 = 0 then
    f_X11_hear_46 n 0 h8
  else
  f_X11_hear_46 n 1 h8
set_option maxRecDepth 20000 in
theorem b_X11_hear_46 {g : GT} {Z : Int × MM} {n : Nat} (C : Cx g cX11_hear 4 yX11_hear 35 821) (hr : Rt g (some .int) 0 Z) {s0 : Int}    (cs0 : in32 s0) {h : MM} (hf : f_X11_hear_46 n  s0 h = some Z) : G g 46 [(3, 0), (3, 0), (3, 0), (3, 0)] [(0, s0)] h := by
  unfold f_X11_hear_46 at hf
  cases hf
  exact r_jret C hr dX11_hear_46 cs0
set_option maxRecDepth 20000 in
theorem e_X11_hear {g : GT} {Z : Int × MM} {n : Nat} (C : Cx g cX11_hear 4 yX11_hear 35 821) (hr : Rt g (some .int) 0 Z) {v0 v1 v2 : Int} (cv0 : cK 2 v0) (cv1 : cK 0 v1) (cv2 : cK 0 v2) {h : MM} (hf : f_X11_hear n v0 v1 v2 h = some Z) : G g 0 [(2, v0), (0, v1), (0, v2), (3, 0)] [] h := by
  have cv1 : in32 v1 := cv1
  have cv2 : in32 v2 := cv2
  unfold f_X11_hear at hf
  refine r_aload_n C dX11_hear_0 rfl ?_
  obtain ⟨q1, hf⟩ := gf_s hf
  refine r_gf C ct11 (j := 0) (ji := 0) dX11_hear_1 q1 rfl rfl (by decide) w_440 rfl (fun c1 => ?_)
  obtain ⟨q2, hf⟩ := gf_s hf
  refine r_gf C ct10 (j := 1) (ji := 1) dX11_hear_4 q2 rfl rfl (by decide) w_302 rfl (fun c2 => ?_)
  refine r_iload_n C dX11_hear_7 rfl ?_
  refine r_iconst C dX11_hear_8 ?_
  obtain ⟨p3, hf⟩ := gk_s hf
  obtain ⟨r3, h3, hq3, hf⟩ := bd_s hf
  refine r_cV2 C (am_X5_find (gl g) n) cm_X5_find w_798 dX11_hear_9 ⟨Nat.le_of_ble_eq_true rfl, Nat.le_of_ble_eq_true rfl⟩ p3 rfl cv1 (in32_of rfl) rfl (Nat.le_of_ble_eq_true rfl) hq3 (by decide) (fun c3 => ?_)
  refine r_astore_n C dX11_hear_12 (Nat.le_of_ble_eq_true rfl) rfl ?_
  refine r_aload_n C dX11_hear_13 rfl ?_
  refine r_ifnonnull C dX11_hear_14 (tgt := 19) (by decide) (fun n4 => ?_) (fun n4 => ?_)
  · have hf := ite_n n4 hf
    refine r_iload_n C dX11_hear_19 rfl ?_
    obtain ⟨r5, h5, hq5, hf⟩ := bd_s hf
    refine r_cS1 C (am_X11_isDay (gl g) n) cm_X11_isDay w_501 dX11_hear_20 ⟨Nat.le_of_ble_eq_true rfl, Nat.le_of_ble_eq_true rfl⟩ cv2 rfl (Nat.le_of_ble_eq_true rfl) hq5 (by decide) (fun c5 => ?_)
    have c5 : in32 _ := c5
    refine r_if_ne C dX11_hear_23 (tgt := 29) (by decide) c5 (fun n6 => ?_) (fun n6 => ?_)
    · have hf := ite_n n6 hf
      refine r_aload_n C dX11_hear_29 rfl ?_
      obtain ⟨q7, hf⟩ := gf_s hf
      refine r_gf C ct11 (j := 0) (ji := 0) dX11_hear_30 q7 rfl rfl (by decide) w_440 rfl (fun c7 => ?_)
      refine r_aload_n C dX11_hear_33 rfl ?_
      refine r_iload_n C dX11_hear_34 rfl ?_
      obtain ⟨p8, hf⟩ := gk_s hf
      obtain ⟨r8, h8, hq8, hf⟩ := bd_s hf
      refine r_cV2 C (am_X10_canBeLet (gl g) n) cm_X10_canBeLet w_964 dX11_hear_35 ⟨Nat.le_of_ble_eq_true rfl, Nat.le_of_ble_eq_true rfl⟩ p8 rfl trivial cv2 rfl (Nat.le_of_ble_eq_true rfl) hq8 (by decide) (fun c8 => ?_)
      have c8 : in32 _ := c8
      refine r_if_eq C dX11_hear_38 (tgt := 45) (by decide) c8 (fun n9 => ?_) (fun n9 => ?_)
      · have hf := ite_p n9 hf
        refine r_iconst C dX11_hear_45 ?_
        exact G.mask [false, false, false, false] rfl rfl (b_X11_hear_46 C hr  (in32_of rfl) hf)
      · have hf := ite_n n9 hf
        refine r_iconst C dX11_hear_41 ?_
        refine r_goto C dX11_hear_42 (tgt := 46) (by decide) ?_
        exact G.mask [false, false, false, false] rfl rfl (b_X11_hear_46 C hr  (in32_of rfl) hf)
    · have hf := ite_p n6 hf
      refine r_bipush C dX11_hear_26 rfl ?_
      cases hf
      exact r_jret C hr dX11_hear_28 (in32_of rfl)
  · have hf := ite_p n4 hf
    refine r_iconst C dX11_hear_17 ?_
    cases hf
    exact r_jret C hr dX11_hear_18 (in32_of rfl)
set_option maxRecDepth 20000 in
theorem am_X11_hear (l : Launch) (n : Nat) : AM l yX11_hear cX11_hear 4 (some .int) 35 821 [2, 0, 0] 0 (un3 (f_X11_hear n)) := by
  refine AM.intro (by decide) (fun xs hx => ?_) (fun g xs h Z hl C hr hx hf => ?_)
  · obtain ⟨a0, a1, a2, rfl, c0, c1, c2⟩ := canL_3 hx
    exact Nat.le_of_ble_eq_true rfl
  · obtain ⟨a0, a1, a2, rfl, c0, c1, c2⟩ := canL_3 hx
    have hf := (un3_e _ a0 a1 a2 _).symm.trans hf
    exact e_X11_hear (n := n) C hr c0 c1 c2 hf
/-! LinesPromised$Papers.setAtBar(II)Z -/
theorem dX5_setAtBar_0 : decode cX5_setAtBar 0 = .ok (.aload_n 0, 1) := by decide +kernel
theorem dX5_setAtBar_1 : decode cX5_setAtBar 1 = .ok (.getfield 17, 3) := by decide +kernel
theorem dX5_setAtBar_4 : decode cX5_setAtBar 4 = .ok (.iload_n 1, 1) := by decide +kernel
theorem dX5_setAtBar_5 : decode cX5_setAtBar 5 = .ok (.laload, 1) := by decide +kernel
theorem dX5_setAtBar_6 : decode cX5_setAtBar 6 = .ok (.iload_n 2, 1) := by decide +kernel
theorem dX5_setAtBar_7 : decode cX5_setAtBar 7 = .ok (.lshr, 1) := by decide +kernel
theorem dX5_setAtBar_8 : decode cX5_setAtBar 8 = .ok (.lconst 1, 1) := by decide +kernel
theorem dX5_setAtBar_9 : decode cX5_setAtBar 9 = .ok (.land, 1) := by decide +kernel
theorem dX5_setAtBar_10 : decode cX5_setAtBar 10 = .ok (.lconst 0, 1) := by decide +kernel
theorem dX5_setAtBar_11 : decode cX5_setAtBar 11 = .ok (.lcmp, 1) := by decide +kernel
theorem dX5_setAtBar_12 : decode cX5_setAtBar 12 = .ok (.ifCond .eq 5, 3) := by decide +kernel
theorem dX5_setAtBar_15 : decode cX5_setAtBar 15 = .ok (.iconst 0, 1) := by decide +kernel
theorem dX5_setAtBar_16 : decode cX5_setAtBar 16 = .ok (.ireturn, 1) := by decide +kernel
theorem dX5_setAtBar_17 : decode cX5_setAtBar 17 = .ok (.aload_n 0, 1) := by decide +kernel
theorem dX5_setAtBar_18 : decode cX5_setAtBar 18 = .ok (.getfield 17, 3) := by decide +kernel
theorem dX5_setAtBar_21 : decode cX5_setAtBar 21 = .ok (.iload_n 1, 1) := by decide +kernel
theorem dX5_setAtBar_22 : decode cX5_setAtBar 22 = .ok (.dup2, 1) := by decide +kernel
theorem dX5_setAtBar_23 : decode cX5_setAtBar 23 = .ok (.laload, 1) := by decide +kernel
theorem dX5_setAtBar_24 : decode cX5_setAtBar 24 = .ok (.lconst 1, 1) := by decide +kernel
theorem dX5_setAtBar_25 : decode cX5_setAtBar 25 = .ok (.iload_n 2, 1) := by decide +kernel
theorem dX5_setAtBar_26 : decode cX5_setAtBar 26 = .ok (.lshl, 1) := by decide +kernel
theorem dX5_setAtBar_27 : decode cX5_setAtBar 27 = .ok (.lor, 1) := by decide +kernel
theorem dX5_setAtBar_28 : decode cX5_setAtBar 28 = .ok (.lastore, 1) := by decide +kernel
theorem dX5_setAtBar_29 : decode cX5_setAtBar 29 = .ok (.aload_n 0, 1) := by decide +kernel
theorem dX5_setAtBar_30 : decode cX5_setAtBar 30 = .ok (.getfield 17, 3) := by decide +kernel
theorem dX5_setAtBar_33 : decode cX5_setAtBar 33 = .ok (.iload_n 2, 1) := by decide +kernel
theorem dX5_setAtBar_34 : decode cX5_setAtBar 34 = .ok (.dup2, 1) := by decide +kernel
theorem dX5_setAtBar_35 : decode cX5_setAtBar 35 = .ok (.laload, 1) := by decide +kernel
theorem dX5_setAtBar_36 : decode cX5_setAtBar 36 = .ok (.lconst 1, 1) := by decide +kernel
theorem dX5_setAtBar_37 : decode cX5_setAtBar 37 = .ok (.iload_n 1, 1) := by decide +kernel
theorem dX5_setAtBar_38 : decode cX5_setAtBar 38 = .ok (.lshl, 1) := by decide +kernel
theorem dX5_setAtBar_39 : decode cX5_setAtBar 39 = .ok (.lor, 1) := by decide +kernel
theorem dX5_setAtBar_40 : decode cX5_setAtBar 40 = .ok (.lastore, 1) := by decide +kernel
theorem dX5_setAtBar_41 : decode cX5_setAtBar 41 = .ok (.iconst 1, 1) := by decide +kernel
theorem dX5_setAtBar_42 : decode cX5_setAtBar 42 = .ok (.ireturn, 1) := by decide +kernel
theorem cm_X5_setAtBar : CM yX5_setAtBar cX5_setAtBar 3 (some .boolean) 2 5 := ⟨w_986, w_987, w_988, w_90, ⟨by decide +kernel, by decide +kernel, by decide +kernel⟩, ⟨_, _, rfl⟩, by decide⟩
noncomputable def f_X5_setAtBar (n : Nat) (v0 v1 v2 : Int) (h : MM) : RR :=
  gf h v0 5 1 fun r1 =>
  rd h r1 101 v1 fun r2 =>
  if lcm (lan (lsr r2 v2) 1) 0 = 0 then
    gf h v0 5 1 fun r4 =>
    rd h r4 101 v1 fun r5 =>
    wt h r4 101 v1 (lor r5 (lsl 1 v2)) fun h6 =>
    gf h6 v0 5 1 fun r7 =>
    rd h6 r7 101 v2 fun r8 =>
    wt h6 r7 101 v2 (lor r8 (lsl 1 v1)) fun h9 =>
    ck (isb 1) <|
    some (1, h9)
  else
  ck (isb 0) <|
  some (0, h)
set_option maxRecDepth 20000 in
theorem e_X5_setAtBar {g : GT} {Z : Int × MM} {n : Nat} (C : Cx g cX5_setAtBar 3 yX5_setAtBar 0 0) (hr : Rt g (some .boolean) 0 Z) {v0 v1 v2 : Int} (cv0 : cK 2 v0) (cv1 : cK 0 v1) (cv2 : cK 0 v2) {h : MM} (hf : f_X5_setAtBar n v0 v1 v2 h = some Z) : G g 0 [(2, v0), (0, v1), (0, v2)] [] h := by
  have cv1 : in32 v1 := cv1
  have cv2 : in32 v2 := cv2
  unfold f_X5_setAtBar at hf
  refine r_aload_n C dX5_setAtBar_0 rfl ?_
  obtain ⟨q1, hf⟩ := gf_s hf
  refine r_gf C ct5 (j := 1) (ji := 1) dX5_setAtBar_1 q1 rfl rfl (by decide) w_166 rfl (fun c1 => ?_)
  refine r_iload_n C dX5_setAtBar_4 rfl ?_
  obtain ⟨q2, hf⟩ := rd_s hf
  refine r_lald C dX5_setAtBar_5 q2 rfl (fun c2 => ?_)
  refine r_iload_n C dX5_setAtBar_6 rfl ?_
  refine r_lshr C dX5_setAtBar_7 ?_
  refine r_lconst C (v := 1) dX5_setAtBar_8 rfl ?_
  refine r_land C dX5_setAtBar_9 ?_
  refine r_lconst C (v := 0) dX5_setAtBar_10 rfl ?_
  refine r_lcmp C dX5_setAtBar_11 ?_
  refine r_if_eq C dX5_setAtBar_12 (tgt := 17) (by decide) (in32_t _) (fun n3 => ?_) (fun n3 => ?_)
  · have hf := ite_p n3 hf
    refine r_aload_n C dX5_setAtBar_17 rfl ?_
    obtain ⟨q4, hf⟩ := gf_s hf
    refine r_gf C ct5 (j := 1) (ji := 1) dX5_setAtBar_18 q4 rfl rfl (by decide) w_166 rfl (fun c4 => ?_)
    refine r_iload_n C dX5_setAtBar_21 rfl ?_
    refine r_dup2 C dX5_setAtBar_22 (by decide) (by decide) ?_
    obtain ⟨q5, hf⟩ := rd_s hf
    refine r_lald C dX5_setAtBar_23 q5 rfl (fun c5 => ?_)
    refine r_lconst C (v := 1) dX5_setAtBar_24 rfl ?_
    refine r_iload_n C dX5_setAtBar_25 rfl ?_
    refine r_lshl C dX5_setAtBar_26 ?_
    refine r_lor C dX5_setAtBar_27 ?_
    obtain ⟨q6, hf⟩ := wt_s hf
    refine r_last C dX5_setAtBar_28 q6 rfl (in64_t _) ?_
    refine r_aload_n C dX5_setAtBar_29 rfl ?_
    obtain ⟨q7, hf⟩ := gf_s hf
    refine r_gf C ct5 (j := 1) (ji := 1) dX5_setAtBar_30 q7 rfl rfl (by decide) w_166 rfl (fun c7 => ?_)
    refine r_iload_n C dX5_setAtBar_33 rfl ?_
    refine r_dup2 C dX5_setAtBar_34 (by decide) (by decide) ?_
    obtain ⟨q8, hf⟩ := rd_s hf
    refine r_lald C dX5_setAtBar_35 q8 rfl (fun c8 => ?_)
    refine r_lconst C (v := 1) dX5_setAtBar_36 rfl ?_
    refine r_iload_n C dX5_setAtBar_37 rfl ?_
    refine r_lshl C dX5_setAtBar_38 ?_
    refine r_lor C dX5_setAtBar_39 ?_
    obtain ⟨q9, hf⟩ := wt_s hf
    refine r_last C dX5_setAtBar_40 q9 rfl (in64_t _) ?_
    refine r_iconst C dX5_setAtBar_41 ?_
    obtain ⟨b10, hf⟩ := ck_s hf
    cases hf
    exact r_zret C hr dX5_setAtBar_42 b10
  · have hf := ite_n n3 hf
    refine r_iconst C dX5_setAtBar_15 ?_
    obtain ⟨b11, hf⟩ := ck_s hf
    cases hf
    exact r_zret C hr dX5_setAtBar_16 b11
set_option maxRecDepth 20000 in
theorem am_X5_setAtBar (l : Launch) (n : Nat) : AM l yX5_setAtBar cX5_setAtBar 3 (some .boolean) 0 0 [2, 0, 0] 0 (un3 (f_X5_setAtBar n)) := by
  refine AM.intro (by decide) (fun xs hx => ?_) (fun g xs h Z hl C hr hx hf => ?_)
  · obtain ⟨a0, a1, a2, rfl, c0, c1, c2⟩ := canL_3 hx
    exact Nat.le_of_ble_eq_true rfl
  · obtain ⟨a0, a1, a2, rfl, c0, c1, c2⟩ := canL_3 hx
    have hf := (un3_e _ a0 a1 a2 _).symm.trans hf
    exact e_X5_setAtBar (n := n) C hr c0 c1 c2 hf
/-! LinesPromised.bar(II)I -/
theorem dX11_bar_0 : decode cX11_bar 0 = .ok (.aload_n 0, 1) := by decide +kernel
theorem dX11_bar_1 : decode cX11_bar 1 = .ok (.getfield 10, 3) := by decide +kernel
theorem dX11_bar_4 : decode cX11_bar 4 = .ok (.getfield 133, 3) := by decide +kernel
theorem dX11_bar_7 : decode cX11_bar 7 = .ok (.iload_n 1, 1) := by decide +kernel
theorem dX11_bar_8 : decode cX11_bar 8 = .ok (.iconst 3, 1) := by decide +kernel
theorem dX11_bar_9 : decode cX11_bar 9 = .ok (.invokevirtual 172, 3) := by decide +kernel
theorem dX11_bar_12 : decode cX11_bar 12 = .ok (.ifnull 18, 3) := by decide +kernel
theorem dX11_bar_15 : decode cX11_bar 15 = .ok (.aload_n 0, 1) := by decide +kernel
theorem dX11_bar_16 : decode cX11_bar 16 = .ok (.getfield 10, 3) := by decide +kernel
theorem dX11_bar_19 : decode cX11_bar 19 = .ok (.getfield 133, 3) := by decide +kernel
theorem dX11_bar_22 : decode cX11_bar 22 = .ok (.iload_n 2, 1) := by decide +kernel
theorem dX11_bar_23 : decode cX11_bar 23 = .ok (.iconst 3, 1) := by decide +kernel
theorem dX11_bar_24 : decode cX11_bar 24 = .ok (.invokevirtual 172, 3) := by decide +kernel
theorem dX11_bar_27 : decode cX11_bar 27 = .ok (.ifnonnull 5, 3) := by decide +kernel
theorem dX11_bar_30 : decode cX11_bar 30 = .ok (.iconst (-1), 1) := by decide +kernel
theorem dX11_bar_31 : decode cX11_bar 31 = .ok (.ireturn, 1) := by decide +kernel
theorem dX11_bar_32 : decode cX11_bar 32 = .ok (.iload_n 1, 1) := by decide +kernel
theorem dX11_bar_33 : decode cX11_bar 33 = .ok (.iload_n 2, 1) := by decide +kernel
theorem dX11_bar_34 : decode cX11_bar 34 = .ok (.if_icmp .ne 6, 3) := by decide +kernel
theorem dX11_bar_37 : decode cX11_bar 37 = .ok (.bipush (-2), 2) := by decide +kernel
theorem dX11_bar_39 : decode cX11_bar 39 = .ok (.ireturn, 1) := by decide +kernel
theorem dX11_bar_40 : decode cX11_bar 40 = .ok (.aload_n 0, 1) := by decide +kernel
theorem dX11_bar_41 : decode cX11_bar 41 = .ok (.getfield 10, 3) := by decide +kernel
theorem dX11_bar_44 : decode cX11_bar 44 = .ok (.getfield 133, 3) := by decide +kernel
theorem dX11_bar_47 : decode cX11_bar 47 = .ok (.iload_n 1, 1) := by decide +kernel
theorem dX11_bar_48 : decode cX11_bar 48 = .ok (.iload_n 2, 1) := by decide +kernel
theorem dX11_bar_49 : decode cX11_bar 49 = .ok (.invokevirtual 252, 3) := by decide +kernel
theorem dX11_bar_52 : decode cX11_bar 52 = .ok (.ifCond .eq 7, 3) := by decide +kernel
theorem dX11_bar_55 : decode cX11_bar 55 = .ok (.iconst 1, 1) := by decide +kernel
theorem dX11_bar_56 : decode cX11_bar 56 = .ok (.goto 4, 3) := by decide +kernel
theorem dX11_bar_59 : decode cX11_bar 59 = .ok (.iconst 0, 1) := by decide +kernel
theorem dX11_bar_60 : decode cX11_bar 60 = .ok (.ireturn, 1) := by decide +kernel
theorem cm_X11_bar : CM yX11_bar cX11_bar 3 (some .int) 2 11 := ⟨w_982, w_983, w_984, w_87, ⟨by decide +kernel, by decide +kernel, by decide +kernel⟩, ⟨_, _, rfl⟩, by decide⟩
noncomputable def f_X11_bar_30 (n : Nat)  (h : MM) : RR :=
  some ((-1), h)
noncomputable def f_X11_bar_60 (n : Nat)  (s0 : Int) (h : MM) : RR :=
  some (s0, h)
noncomputable def f_X11_bar (n : Nat) (v0 v1 v2 : Int) (h : MM) : RR :=
  gf h v0 11 0 fun r1 =>
  gf h r1 10 1 fun r2 =>
  gk h r2 5 <|
  bd (f_X5_find n r2 v1 3 h) fun r3 h3 =>
  if r3 = 0 then
    f_X11_bar_30 n h3
  else
  gf h3 v0 11 0 fun r5 =>
  gf h3 r5 10 1 fun r6 =>
  gk h3 r6 5 <|
  bd (f_X5_find n r6 v2 3 h3) fun r7 h7 =>
  if r7 = 0 then
    f_X11_bar_30 n h7
  else
  if v1 = v2 then
    some ((-2), h7)
  else
  gf h7 v0 11 0 fun r10 =>
  gf h7 r10 10 1 fun r11 =>
  gk h7 r11 5 <|
  bd (f_X5_setAtBar n r11 v1 v2 h7) fun r12 h12 =>
  if r12 = 0 then
    f_X11_bar_60 n 0 h12
  else
  f_X11_bar_60 n 1 h12
set_option maxRecDepth 20000 in
theorem b_X11_bar_30 {g : GT} {Z : Int × MM} {n : Nat} (C : Cx g cX11_bar 3 yX11_bar 3 67) (hr : Rt g (some .int) 0 Z)     {h : MM} (hf : f_X11_bar_30 n   h = some Z) : G g 30 [(3, 0), (3, 0), (3, 0)] [] h := by
  unfold f_X11_bar_30 at hf
  refine r_iconst C dX11_bar_30 ?_
  cases hf
  exact r_jret C hr dX11_bar_31 (in32_of rfl)
set_option maxRecDepth 20000 in
theorem b_X11_bar_60 {g : GT} {Z : Int × MM} {n : Nat} (C : Cx g cX11_bar 3 yX11_bar 3 67) (hr : Rt g (some .int) 0 Z) {s0 : Int}    (cs0 : in32 s0) {h : MM} (hf : f_X11_bar_60 n  s0 h = some Z) : G g 60 [(3, 0), (3, 0), (3, 0)] [(0, s0)] h := by
  unfold f_X11_bar_60 at hf
  cases hf
  exact r_jret C hr dX11_bar_60 cs0
set_option maxRecDepth 20000 in
theorem e_X11_bar {g : GT} {Z : Int × MM} {n : Nat} (C : Cx g cX11_bar 3 yX11_bar 3 67) (hr : Rt g (some .int) 0 Z) {v0 v1 v2 : Int} (cv0 : cK 2 v0) (cv1 : cK 0 v1) (cv2 : cK 0 v2) {h : MM} (hf : f_X11_bar n v0 v1 v2 h = some Z) : G g 0 [(2, v0), (0, v1), (0, v2)] [] h := by
  have cv1 : in32 v1 := cv1
  have cv2 : in32 v2 := cv2
  unfold f_X11_bar at hf
  refine r_aload_n C dX11_bar_0 rfl ?_
  obtain ⟨q1, hf⟩ := gf_s hf
  refine r_gf C ct11 (j := 0) (ji := 0) dX11_bar_1 q1 rfl rfl (by decide) w_440 rfl (fun c1 => ?_)
  obtain ⟨q2, hf⟩ := gf_s hf
  refine r_gf C ct10 (j := 1) (ji := 1) dX11_bar_4 q2 rfl rfl (by decide) w_302 rfl (fun c2 => ?_)
  refine r_iload_n C dX11_bar_7 rfl ?_
  refine r_iconst C dX11_bar_8 ?_
  obtain ⟨p3, hf⟩ := gk_s hf
  obtain ⟨r3, h3, hq3, hf⟩ := bd_s hf
  refine r_cV2 C (am_X5_find (gl g) n) cm_X5_find w_798 dX11_bar_9 ⟨Nat.le_of_ble_eq_true rfl, Nat.le_of_ble_eq_true rfl⟩ p3 rfl cv1 (in32_of rfl) rfl (Nat.le_of_ble_eq_true rfl) hq3 (by decide) (fun c3 => ?_)
  refine r_ifnull C dX11_bar_12 (tgt := 30) (by decide) (fun n4 => ?_) (fun n4 => ?_)
  · have hf := ite_p n4 hf
    exact G.mask [false, false, false] rfl rfl (b_X11_bar_30 C hr   hf)
  · have hf := ite_n n4 hf
    refine r_aload_n C dX11_bar_15 rfl ?_
    obtain ⟨q5, hf⟩ := gf_s hf
    refine r_gf C ct11 (j := 0) (ji := 0) dX11_bar_16 q5 rfl rfl (by decide) w_440 rfl (fun c5 => ?_)
    obtain ⟨q6, hf⟩ := gf_s hf
    refine r_gf C ct10 (j := 1) (ji := 1) dX11_bar_19 q6 rfl rfl (by decide) w_302 rfl (fun c6 => ?_)
    refine r_iload_n C dX11_bar_22 rfl ?_
    refine r_iconst C dX11_bar_23 ?_
    obtain ⟨p7, hf⟩ := gk_s hf
    obtain ⟨r7, h7, hq7, hf⟩ := bd_s hf
    refine r_cV2 C (am_X5_find (gl g) n) cm_X5_find w_798 dX11_bar_24 ⟨Nat.le_of_ble_eq_true rfl, Nat.le_of_ble_eq_true rfl⟩ p7 rfl cv2 (in32_of rfl) rfl (Nat.le_of_ble_eq_true rfl) hq7 (by decide) (fun c7 => ?_)
    refine r_ifnonnull C dX11_bar_27 (tgt := 32) (by decide) (fun n8 => ?_) (fun n8 => ?_)
    · have hf := ite_n n8 hf
      refine r_iload_n C dX11_bar_32 rfl ?_
      refine r_iload_n C dX11_bar_33 rfl ?_
      refine r_icmp_ne C dX11_bar_34 (tgt := 40) (by decide) cv1 cv2 (fun n9 => ?_) (fun n9 => ?_)
      · have hf := ite_n n9 hf
        refine r_aload_n C dX11_bar_40 rfl ?_
        obtain ⟨q10, hf⟩ := gf_s hf
        refine r_gf C ct11 (j := 0) (ji := 0) dX11_bar_41 q10 rfl rfl (by decide) w_440 rfl (fun c10 => ?_)
        obtain ⟨q11, hf⟩ := gf_s hf
        refine r_gf C ct10 (j := 1) (ji := 1) dX11_bar_44 q11 rfl rfl (by decide) w_302 rfl (fun c11 => ?_)
        refine r_iload_n C dX11_bar_47 rfl ?_
        refine r_iload_n C dX11_bar_48 rfl ?_
        obtain ⟨p12, hf⟩ := gk_s hf
        obtain ⟨r12, h12, hq12, hf⟩ := bd_s hf
        refine r_cV2 C (am_X5_setAtBar (gl g) n) cm_X5_setAtBar w_985 dX11_bar_49 ⟨Nat.le_of_ble_eq_true rfl, Nat.le_of_ble_eq_true rfl⟩ p12 rfl cv1 cv2 rfl (Nat.le_of_ble_eq_true rfl) hq12 (by decide) (fun c12 => ?_)
        have c12 : in32 _ := c12
        refine r_if_eq C dX11_bar_52 (tgt := 59) (by decide) c12 (fun n13 => ?_) (fun n13 => ?_)
        · have hf := ite_p n13 hf
          refine r_iconst C dX11_bar_59 ?_
          exact G.mask [false, false, false] rfl rfl (b_X11_bar_60 C hr  (in32_of rfl) hf)
        · have hf := ite_n n13 hf
          refine r_iconst C dX11_bar_55 ?_
          refine r_goto C dX11_bar_56 (tgt := 60) (by decide) ?_
          exact G.mask [false, false, false] rfl rfl (b_X11_bar_60 C hr  (in32_of rfl) hf)
      · have hf := ite_p n9 hf
        refine r_bipush C dX11_bar_37 rfl ?_
        cases hf
        exact r_jret C hr dX11_bar_39 (in32_of rfl)
    · have hf := ite_p n8 hf
      exact G.mask [false, false, false] rfl rfl (b_X11_bar_30 C hr   hf)
set_option maxRecDepth 20000 in
theorem am_X11_bar (l : Launch) (n : Nat) : AM l yX11_bar cX11_bar 3 (some .int) 3 67 [2, 0, 0] 0 (un3 (f_X11_bar n)) := by
  refine AM.intro (by decide) (fun xs hx => ?_) (fun g xs h Z hl C hr hx hf => ?_)
  · obtain ⟨a0, a1, a2, rfl, c0, c1, c2⟩ := canL_3 hx
    exact Nat.le_of_ble_eq_true rfl
  · obtain ⟨a0, a1, a2, rfl, c0, c1, c2⟩ := canL_3 hx
    have hf := (un3_e _ a0 a1 a2 _).symm.trans hf
    exact e_X11_bar (n := n) C hr c0 c1 c2 hf
/-! LinesPromised$Papers.isMarked(I)Z -/
theorem dX5_isMarked_0 : decode cX5_isMarked 0 = .ok (.aload_n 0, 1) := by decide +kernel
theorem dX5_isMarked_1 : decode cX5_isMarked 1 = .ok (.getfield 40, 3) := by decide +kernel
theorem dX5_isMarked_4 : decode cX5_isMarked 4 = .ok (.iload_n 1, 1) := by decide +kernel
theorem dX5_isMarked_5 : decode cX5_isMarked 5 = .ok (.lshr, 1) := by decide +kernel
theorem dX5_isMarked_6 : decode cX5_isMarked 6 = .ok (.lconst 1, 1) := by decide +kernel
theorem dX5_isMarked_7 : decode cX5_isMarked 7 = .ok (.land, 1) := by decide +kernel
theorem dX5_isMarked_8 : decode cX5_isMarked 8 = .ok (.lconst 0, 1) := by decide +kernel
theorem dX5_isMarked_9 : decode cX5_isMarked 9 = .ok (.lcmp, 1) := by decide +kernel
theorem dX5_isMarked_10 : decode cX5_isMarked 10 = .ok (.ifCond .eq 7, 3) := by decide +kernel
theorem dX5_isMarked_13 : decode cX5_isMarked 13 = .ok (.iconst 1, 1) := by decide +kernel
theorem dX5_isMarked_14 : decode cX5_isMarked 14 = .ok (.goto 4, 3) := by decide +kernel
theorem dX5_isMarked_17 : decode cX5_isMarked 17 = .ok (.iconst 0, 1) := by decide +kernel
theorem dX5_isMarked_18 : decode cX5_isMarked 18 = .ok (.ireturn, 1) := by decide +kernel
theorem cm_X5_isMarked : CM yX5_isMarked cX5_isMarked 2 (some .boolean) 1 5 := ⟨w_994, w_995, w_996, w_90, ⟨by decide +kernel, by decide +kernel, by decide +kernel⟩, ⟨_, _, rfl⟩, by decide⟩
noncomputable def f_X5_isMarked_18 (n : Nat)  (s0 : Int) (h : MM) : RR :=
  ck (isb s0) <|
  some (s0, h)
noncomputable def f_X5_isMarked (n : Nat) (v0 v1 : Int) (h : MM) : RR :=
  gf h v0 5 6 fun r1 =>
  if lcm (lan (lsr r1 v1) 1) 0 = 0 then
    f_X5_isMarked_18 n 0 h
  else
  f_X5_isMarked_18 n 1 h
set_option maxRecDepth 20000 in
theorem b_X5_isMarked_18 {g : GT} {Z : Int × MM} {n : Nat} (C : Cx g cX5_isMarked 2 yX5_isMarked 0 0) (hr : Rt g (some .boolean) 0 Z) {s0 : Int}    (cs0 : in32 s0) {h : MM} (hf : f_X5_isMarked_18 n  s0 h = some Z) : G g 18 [(3, 0), (3, 0)] [(0, s0)] h := by
  unfold f_X5_isMarked_18 at hf
  obtain ⟨b1, hf⟩ := ck_s hf
  cases hf
  exact r_zret C hr dX5_isMarked_18 b1
set_option maxRecDepth 20000 in
theorem e_X5_isMarked {g : GT} {Z : Int × MM} {n : Nat} (C : Cx g cX5_isMarked 2 yX5_isMarked 0 0) (hr : Rt g (some .boolean) 0 Z) {v0 v1 : Int} (cv0 : cK 2 v0) (cv1 : cK 0 v1) {h : MM} (hf : f_X5_isMarked n v0 v1 h = some Z) : G g 0 [(2, v0), (0, v1)] [] h := by
  have cv1 : in32 v1 := cv1
  unfold f_X5_isMarked at hf
  refine r_aload_n C dX5_isMarked_0 rfl ?_
  obtain ⟨q1, hf⟩ := gf_s hf
  refine r_gf C ct5 (j := 6) (ji := 6) dX5_isMarked_1 q1 rfl rfl (by decide) w_176 rfl (fun c1 => ?_)
  have c1 : in64 _ := c1
  refine r_iload_n C dX5_isMarked_4 rfl ?_
  refine r_lshr C dX5_isMarked_5 ?_
  refine r_lconst C (v := 1) dX5_isMarked_6 rfl ?_
  refine r_land C dX5_isMarked_7 ?_
  refine r_lconst C (v := 0) dX5_isMarked_8 rfl ?_
  refine r_lcmp C dX5_isMarked_9 ?_
  refine r_if_eq C dX5_isMarked_10 (tgt := 17) (by decide) (in32_t _) (fun n2 => ?_) (fun n2 => ?_)
  · have hf := ite_p n2 hf
    refine r_iconst C dX5_isMarked_17 ?_
    exact G.mask [false, false] rfl rfl (b_X5_isMarked_18 C hr  (in32_of rfl) hf)
  · have hf := ite_n n2 hf
    refine r_iconst C dX5_isMarked_13 ?_
    refine r_goto C dX5_isMarked_14 (tgt := 18) (by decide) ?_
    exact G.mask [false, false] rfl rfl (b_X5_isMarked_18 C hr  (in32_of rfl) hf)
set_option maxRecDepth 20000 in
theorem am_X5_isMarked (l : Launch) (n : Nat) : AM l yX5_isMarked cX5_isMarked 2 (some .boolean) 0 0 [2, 0] 0 (un2 (f_X5_isMarked n)) := by
  refine AM.intro (by decide) (fun xs hx => ?_) (fun g xs h Z hl C hr hx hf => ?_)
  · obtain ⟨a0, a1, rfl, c0, c1⟩ := canL_2 hx
    exact Nat.le_of_ble_eq_true rfl
  · obtain ⟨a0, a1, rfl, c0, c1⟩ := canL_2 hx
    have hf := (un2_e _ a0 a1 _).symm.trans hf
    exact e_X5_isMarked (n := n) C hr c0 c1 hf
/-! LinesPromised$Papers.isBarred(I)Z -/
theorem dX5_isBarred_0 : decode cX5_isBarred 0 = .ok (.aload_n 0, 1) := by decide +kernel
theorem dX5_isBarred_1 : decode cX5_isBarred 1 = .ok (.getfield 17, 3) := by decide +kernel
theorem dX5_isBarred_4 : decode cX5_isBarred 4 = .ok (.iload_n 1, 1) := by decide +kernel
theorem dX5_isBarred_5 : decode cX5_isBarred 5 = .ok (.laload, 1) := by decide +kernel
theorem dX5_isBarred_6 : decode cX5_isBarred 6 = .ok (.aload_n 0, 1) := by decide +kernel
theorem dX5_isBarred_7 : decode cX5_isBarred 7 = .ok (.getfield 40, 3) := by decide +kernel
theorem dX5_isBarred_10 : decode cX5_isBarred 10 = .ok (.land, 1) := by decide +kernel
theorem dX5_isBarred_11 : decode cX5_isBarred 11 = .ok (.lconst 0, 1) := by decide +kernel
theorem dX5_isBarred_12 : decode cX5_isBarred 12 = .ok (.lcmp, 1) := by decide +kernel
theorem dX5_isBarred_13 : decode cX5_isBarred 13 = .ok (.ifCond .eq 7, 3) := by decide +kernel
theorem dX5_isBarred_16 : decode cX5_isBarred 16 = .ok (.iconst 1, 1) := by decide +kernel
theorem dX5_isBarred_17 : decode cX5_isBarred 17 = .ok (.goto 4, 3) := by decide +kernel
theorem dX5_isBarred_20 : decode cX5_isBarred 20 = .ok (.iconst 0, 1) := by decide +kernel
theorem dX5_isBarred_21 : decode cX5_isBarred 21 = .ok (.ireturn, 1) := by decide +kernel
theorem cm_X5_isBarred : CM yX5_isBarred cX5_isBarred 2 (some .boolean) 1 5 := ⟨w_998, w_999, w_1000, w_90, ⟨by decide +kernel, by decide +kernel, by decide +kernel⟩, ⟨_, _, rfl⟩, by decide⟩
noncomputable def f_X5_isBarred_21 (n : Nat)  (s0 : Int) (h : MM) : RR :=
  ck (isb s0) <|
  some (s0, h)
noncomputable def f_X5_isBarred (n : Nat) (v0 v1 : Int) (h : MM) : RR :=
  gf h v0 5 1 fun r1 =>
  rd h r1 101 v1 fun r2 =>
  gf h v0 5 6 fun r3 =>
  if lcm (lan r2 r3) 0 = 0 then
    f_X5_isBarred_21 n 0 h
  else
  f_X5_isBarred_21 n 1 h
set_option maxRecDepth 20000 in
theorem b_X5_isBarred_21 {g : GT} {Z : Int × MM} {n : Nat} (C : Cx g cX5_isBarred 2 yX5_isBarred 0 0) (hr : Rt g (some .boolean) 0 Z) {s0 : Int}    (cs0 : in32 s0) {h : MM} (hf : f_X5_isBarred_21 n  s0 h = some Z) : G g 21 [(3, 0), (3, 0)] [(0, s0)] h := by
  unfold f_X5_isBarred_21 at hf
  obtain ⟨b1, hf⟩ := ck_s hf
  cases hf
  exact r_zret C hr dX5_isBarred_21 b1
set_option maxRecDepth 20000 in
theorem e_X5_isBarred {g : GT} {Z : Int × MM} {n : Nat} (C : Cx g cX5_isBarred 2 yX5_isBarred 0 0) (hr : Rt g (some .boolean) 0 Z) {v0 v1 : Int} (cv0 : cK 2 v0) (cv1 : cK 0 v1) {h : MM} (hf : f_X5_isBarred n v0 v1 h = some Z) : G g 0 [(2, v0), (0, v1)] [] h := by
  have cv1 : in32 v1 := cv1
  unfold f_X5_isBarred at hf
  refine r_aload_n C dX5_isBarred_0 rfl ?_
  obtain ⟨q1, hf⟩ := gf_s hf
  refine r_gf C ct5 (j := 1) (ji := 1) dX5_isBarred_1 q1 rfl rfl (by decide) w_166 rfl (fun c1 => ?_)
  refine r_iload_n C dX5_isBarred_4 rfl ?_
  obtain ⟨q2, hf⟩ := rd_s hf
  refine r_lald C dX5_isBarred_5 q2 rfl (fun c2 => ?_)
  refine r_aload_n C dX5_isBarred_6 rfl ?_
  obtain ⟨q3, hf⟩ := gf_s hf
  refine r_gf C ct5 (j := 6) (ji := 6) dX5_isBarred_7 q3 rfl rfl (by decide) w_176 rfl (fun c3 => ?_)
  have c3 : in64 _ := c3
  refine r_land C dX5_isBarred_10 ?_
  refine r_lconst C (v := 0) dX5_isBarred_11 rfl ?_
  refine r_lcmp C dX5_isBarred_12 ?_
  refine r_if_eq C dX5_isBarred_13 (tgt := 20) (by decide) (in32_t _) (fun n4 => ?_) (fun n4 => ?_)
  · have hf := ite_p n4 hf
    refine r_iconst C dX5_isBarred_20 ?_
    exact G.mask [false, false] rfl rfl (b_X5_isBarred_21 C hr  (in32_of rfl) hf)
  · have hf := ite_n n4 hf
    refine r_iconst C dX5_isBarred_16 ?_
    refine r_goto C dX5_isBarred_17 (tgt := 21) (by decide) ?_
    exact G.mask [false, false] rfl rfl (b_X5_isBarred_21 C hr  (in32_of rfl) hf)
set_option maxRecDepth 20000 in
theorem am_X5_isBarred (l : Launch) (n : Nat) : AM l yX5_isBarred cX5_isBarred 2 (some .boolean) 0 0 [2, 0] 0 (un2 (f_X5_isBarred n)) := by
  refine AM.intro (by decide) (fun xs hx => ?_) (fun g xs h Z hl C hr hx hf => ?_)
  · obtain ⟨a0, a1, rfl, c0, c1⟩ := canL_2 hx
    exact Nat.le_of_ble_eq_true rfl
  · obtain ⟨a0, a1, rfl, c0, c1⟩ := canL_2 hx
    have hf := (un2_e _ a0 a1 _).symm.trans hf
    exact e_X5_isBarred (n := n) C hr c0 c1 hf
/-! LinesPromised$Papers.mark(I)V -/
theorem dX5_mark_0 : decode cX5_mark 0 = .ok (.aload_n 0, 1) := by decide +kernel
theorem dX5_mark_1 : decode cX5_mark 1 = .ok (.dup, 1) := by decide +kernel
theorem dX5_mark_2 : decode cX5_mark 2 = .ok (.getfield 40, 3) := by decide +kernel
theorem dX5_mark_5 : decode cX5_mark 5 = .ok (.lconst 1, 1) := by decide +kernel
theorem dX5_mark_6 : decode cX5_mark 6 = .ok (.iload_n 1, 1) := by decide +kernel
theorem dX5_mark_7 : decode cX5_mark 7 = .ok (.lshl, 1) := by decide +kernel
theorem dX5_mark_8 : decode cX5_mark 8 = .ok (.lor, 1) := by decide +kernel
theorem dX5_mark_9 : decode cX5_mark 9 = .ok (.putfield 40, 3) := by decide +kernel
theorem dX5_mark_12 : decode cX5_mark 12 = .ok (.return_, 1) := by decide +kernel
theorem cm_X5_mark : CM yX5_mark cX5_mark 2 none 1 5 := ⟨w_1002, w_1003, w_1004, w_90, ⟨by decide +kernel, by decide +kernel, by decide +kernel⟩, ⟨_, _, rfl⟩, by decide⟩
noncomputable def f_X5_mark (n : Nat) (v0 v1 : Int) (h : MM) : RR :=
  gf h v0 5 6 fun r1 =>
  pf h v0 5 6 (lor r1 (lsl 1 v1)) fun h2 =>
  some (0, h2)
set_option maxRecDepth 20000 in
theorem e_X5_mark {g : GT} {Z : Int × MM} {n : Nat} (C : Cx g cX5_mark 2 yX5_mark 0 0) (hr : Rt g none 3 Z) {v0 v1 : Int} (cv0 : cK 2 v0) (cv1 : cK 0 v1) {h : MM} (hf : f_X5_mark n v0 v1 h = some Z) : G g 0 [(2, v0), (0, v1)] [] h := by
  have cv1 : in32 v1 := cv1
  unfold f_X5_mark at hf
  refine r_aload_n C dX5_mark_0 rfl ?_
  refine r_dup C dX5_mark_1 (by decide) ?_
  obtain ⟨q1, hf⟩ := gf_s hf
  refine r_gf C ct5 (j := 6) (ji := 6) dX5_mark_2 q1 rfl rfl (by decide) w_176 rfl (fun c1 => ?_)
  have c1 : in64 _ := c1
  refine r_lconst C (v := 1) dX5_mark_5 rfl ?_
  refine r_iload_n C dX5_mark_6 rfl ?_
  refine r_lshl C dX5_mark_7 ?_
  refine r_lor C dX5_mark_8 ?_
  obtain ⟨q2, hf⟩ := pf_s hf
  refine r_pf C ct5 (j := 6) (ji := 6) dX5_mark_9 q2 rfl rfl (by decide) w_176 rfl (Or.inl rfl) nar_long (in64_t _) ?_
  cases hf
  exact r_vret C hr dX5_mark_12
set_option maxRecDepth 20000 in
theorem am_X5_mark (l : Launch) (n : Nat) : AM l yX5_mark cX5_mark 2 none 0 0 [2, 0] 3 (un2 (f_X5_mark n)) := by
  refine AM.intro (by decide) (fun xs hx => ?_) (fun g xs h Z hl C hr hx hf => ?_)
  · obtain ⟨a0, a1, rfl, c0, c1⟩ := canL_2 hx
    exact Nat.le_of_ble_eq_true rfl
  · obtain ⟨a0, a1, rfl, c0, c1⟩ := canL_2 hx
    have hf := (un2_e _ a0 a1 _).symm.trans hf
    exact e_X5_mark (n := n) C hr c0 c1 hf
/-! LinesPromised$Papers.isGranted(I)Z -/
theorem dX5_isGranted_0 : decode cX5_isGranted 0 = .ok (.aload_n 0, 1) := by decide +kernel
theorem dX5_isGranted_1 : decode cX5_isGranted 1 = .ok (.iload_n 1, 1) := by decide +kernel
theorem dX5_isGranted_2 : decode cX5_isGranted 2 = .ok (.invokevirtual 69, 3) := by decide +kernel
theorem dX5_isGranted_5 : decode cX5_isGranted 5 = .ok (.ifCond .eq 16, 3) := by decide +kernel
theorem dX5_isGranted_8 : decode cX5_isGranted 8 = .ok (.aload_n 0, 1) := by decide +kernel
theorem dX5_isGranted_9 : decode cX5_isGranted 9 = .ok (.iload_n 1, 1) := by decide +kernel
theorem dX5_isGranted_10 : decode cX5_isGranted 10 = .ok (.iconst 3, 1) := by decide +kernel
theorem dX5_isGranted_11 : decode cX5_isGranted 11 = .ok (.invokevirtual 73, 3) := by decide +kernel
theorem dX5_isGranted_14 : decode cX5_isGranted 14 = .ok (.ifnull 7, 3) := by decide +kernel
theorem dX5_isGranted_17 : decode cX5_isGranted 17 = .ok (.iconst 1, 1) := by decide +kernel
theorem dX5_isGranted_18 : decode cX5_isGranted 18 = .ok (.goto 4, 3) := by decide +kernel
theorem dX5_isGranted_21 : decode cX5_isGranted 21 = .ok (.iconst 0, 1) := by decide +kernel
theorem dX5_isGranted_22 : decode cX5_isGranted 22 = .ok (.ireturn, 1) := by decide +kernel
theorem cm_X5_isGranted : CM yX5_isGranted cX5_isGranted 2 (some .boolean) 1 5 := ⟨w_1010, w_1011, w_1012, w_90, ⟨by decide +kernel, by decide +kernel, by decide +kernel⟩, ⟨_, _, rfl⟩, by decide⟩
noncomputable def f_X5_isGranted_22 (n : Nat)  (s0 : Int) (h : MM) : RR :=
  ck (isb s0) <|
  some (s0, h)
noncomputable def f_X5_isGranted_21 (n : Nat)  (h : MM) : RR :=
  f_X5_isGranted_22 n 0 h
noncomputable def f_X5_isGranted (n : Nat) (v0 v1 : Int) (h : MM) : RR :=
  gk h v0 5 <|
  bd (f_X5_isMarked n v0 v1 h) fun r1 h1 =>
  if r1 = 0 then
    f_X5_isGranted_21 n h1
  else
  gk h1 v0 5 <|
  bd (f_X5_find n v0 v1 3 h1) fun r3 h3 =>
  if r3 = 0 then
    f_X5_isGranted_21 n h3
  else
  f_X5_isGranted_22 n 1 h3
set_option maxRecDepth 20000 in
theorem b_X5_isGranted_22 {g : GT} {Z : Int × MM} {n : Nat} (C : Cx g cX5_isGranted 2 yX5_isGranted 3 67) (hr : Rt g (some .boolean) 0 Z) {s0 : Int}    (cs0 : in32 s0) {h : MM} (hf : f_X5_isGranted_22 n  s0 h = some Z) : G g 22 [(3, 0), (3, 0)] [(0, s0)] h := by
  unfold f_X5_isGranted_22 at hf
  obtain ⟨b1, hf⟩ := ck_s hf
  cases hf
  exact r_zret C hr dX5_isGranted_22 b1
set_option maxRecDepth 20000 in
theorem b_X5_isGranted_21 {g : GT} {Z : Int × MM} {n : Nat} (C : Cx g cX5_isGranted 2 yX5_isGranted 3 67) (hr : Rt g (some .boolean) 0 Z)     {h : MM} (hf : f_X5_isGranted_21 n   h = some Z) : G g 21 [(3, 0), (3, 0)] [] h := by
  unfold f_X5_isGranted_21 at hf
  refine r_iconst C dX5_isGranted_21 ?_
  exact G.mask [false, false] rfl rfl (b_X5_isGranted_22 C hr  (in32_of rfl) hf)
set_option maxRecDepth 20000 in
theorem e_X5_isGranted {g : GT} {Z : Int × MM} {n : Nat} (C : Cx g cX5_isGranted 2 yX5_isGranted 3 67) (hr : Rt g (some .boolean) 0 Z) {v0 v1 : Int} (cv0 : cK 2 v0) (cv1 : cK 0 v1) {h : MM} (hf : f_X5_isGranted n v0 v1 h = some Z) : G g 0 [(2, v0), (0, v1)] [] h := by
  have cv1 : in32 v1 := cv1
  unfold f_X5_isGranted at hf
  refine r_aload_n C dX5_isGranted_0 rfl ?_
  refine r_iload_n C dX5_isGranted_1 rfl ?_
  obtain ⟨p1, hf⟩ := gk_s hf
  obtain ⟨r1, h1, hq1, hf⟩ := bd_s hf
  refine r_cV1 C (am_X5_isMarked (gl g) n) cm_X5_isMarked w_1013 dX5_isGranted_2 ⟨Nat.le_of_ble_eq_true rfl, Nat.le_of_ble_eq_true rfl⟩ p1 rfl cv1 rfl (Nat.le_of_ble_eq_true rfl) hq1 (by decide) (fun c1 => ?_)
  have c1 : in32 _ := c1
  refine r_if_eq C dX5_isGranted_5 (tgt := 21) (by decide) c1 (fun n2 => ?_) (fun n2 => ?_)
  · have hf := ite_p n2 hf
    exact G.mask [false, false] rfl rfl (b_X5_isGranted_21 C hr   hf)
  · have hf := ite_n n2 hf
    refine r_aload_n C dX5_isGranted_8 rfl ?_
    refine r_iload_n C dX5_isGranted_9 rfl ?_
    refine r_iconst C dX5_isGranted_10 ?_
    obtain ⟨p3, hf⟩ := gk_s hf
    obtain ⟨r3, h3, hq3, hf⟩ := bd_s hf
    refine r_cV2 C (am_X5_find (gl g) n) cm_X5_find w_949 dX5_isGranted_11 ⟨Nat.le_of_ble_eq_true rfl, Nat.le_of_ble_eq_true rfl⟩ p3 rfl cv1 (in32_of rfl) rfl (Nat.le_of_ble_eq_true rfl) hq3 (by decide) (fun c3 => ?_)
    refine r_ifnull C dX5_isGranted_14 (tgt := 21) (by decide) (fun n4 => ?_) (fun n4 => ?_)
    · have hf := ite_p n4 hf
      exact G.mask [false, false] rfl rfl (b_X5_isGranted_21 C hr   hf)
    · have hf := ite_n n4 hf
      refine r_iconst C dX5_isGranted_17 ?_
      refine r_goto C dX5_isGranted_18 (tgt := 22) (by decide) ?_
      exact G.mask [false, false] rfl rfl (b_X5_isGranted_22 C hr  (in32_of rfl) hf)
set_option maxRecDepth 20000 in
theorem am_X5_isGranted (l : Launch) (n : Nat) : AM l yX5_isGranted cX5_isGranted 2 (some .boolean) 3 67 [2, 0] 0 (un2 (f_X5_isGranted n)) := by
  refine AM.intro (by decide) (fun xs hx => ?_) (fun g xs h Z hl C hr hx hf => ?_)
  · obtain ⟨a0, a1, rfl, c0, c1⟩ := canL_2 hx
    exact Nat.le_of_ble_eq_true rfl
  · obtain ⟨a0, a1, rfl, c0, c1⟩ := canL_2 hx
    have hf := (un2_e _ a0 a1 _).symm.trans hf
    exact e_X5_isGranted (n := n) C hr c0 c1 hf
/-! LinesPromised$Papers.granted()I -/
theorem dX5_granted_0 : decode cX5_granted 0 = .ok (.iconst 0, 1) := by decide +kernel
theorem dX5_granted_1 : decode cX5_granted 1 = .ok (.istore_n 1, 1) := by decide +kernel
theorem dX5_granted_2 : decode cX5_granted 2 = .ok (.iconst 0, 1) := by decide +kernel
theorem dX5_granted_3 : decode cX5_granted 3 = .ok (.istore_n 2, 1) := by decide +kernel
theorem dX5_granted_4 : decode cX5_granted 4 = .ok (.iload_n 2, 1) := by decide +kernel
theorem dX5_granted_5 : decode cX5_granted 5 = .ok (.aload_n 0, 1) := by decide +kernel
theorem dX5_granted_6 : decode cX5_granted 6 = .ok (.getfield 44, 3) := by decide +kernel
theorem dX5_granted_9 : decode cX5_granted 9 = .ok (.if_icmp .ge 20, 3) := by decide +kernel
theorem dX5_granted_12 : decode cX5_granted 12 = .ok (.aload_n 0, 1) := by decide +kernel
theorem dX5_granted_13 : decode cX5_granted 13 = .ok (.iload_n 2, 1) := by decide +kernel
theorem dX5_granted_14 : decode cX5_granted 14 = .ok (.invokevirtual 80, 3) := by decide +kernel
theorem dX5_granted_17 : decode cX5_granted 17 = .ok (.ifCond .eq 6, 3) := by decide +kernel
theorem dX5_granted_20 : decode cX5_granted 20 = .ok (.iinc 1 1, 3) := by decide +kernel
theorem dX5_granted_23 : decode cX5_granted 23 = .ok (.iinc 2 1, 3) := by decide +kernel
theorem dX5_granted_26 : decode cX5_granted 26 = .ok (.goto (-22), 3) := by decide +kernel
theorem dX5_granted_29 : decode cX5_granted 29 = .ok (.iload_n 1, 1) := by decide +kernel
theorem dX5_granted_30 : decode cX5_granted 30 = .ok (.ireturn, 1) := by decide +kernel
theorem cm_X5_granted : CM yX5_granted cX5_granted 3 (some .int) 0 5 := ⟨w_1006, w_1007, w_1008, w_90, ⟨by decide +kernel, by decide +kernel, by decide +kernel⟩, ⟨_, _, rfl⟩, by decide⟩
noncomputable def f_X5_granted_23 (n : Nat) (rec4 : Int → Int → MM → RR) (v0 v1 v2 : Int) (h : MM) : RR :=
  lb (wr (v2 + 1)) fun x1 =>
  rec4 v1 x1 h
noncomputable def f_X5_granted_4b (n : Nat) (rec4 : Int → Int → MM → RR) (v0 v1 v2 : Int) (h : MM) : RR :=
  gf h v0 5 7 fun r1 =>
  if r1 ≤ v2 then
    some (v1, h)
  else
  gk h v0 5 <|
  bd (f_X5_isGranted n v0 v2 h) fun r3 h3 =>
  if r3 = 0 then
    f_X5_granted_23 n rec4 v0 v1 v2 h3
  else
  lb (wr (v1 + 1)) fun x5 =>
  f_X5_granted_23 n rec4 v0 x5 v2 h3
noncomputable def f_X5_granted_4 (n : Nat)  (v0 : Int) : Nat → Int → Int → MM → RR
  | 0, _, _, _ => none
  | k + 1, v1, v2, h => f_X5_granted_4b n  (f_X5_granted_4 n  v0 k) v0 v1 v2 h
noncomputable def f_X5_granted (n : Nat) (v0 : Int) (h : MM) : RR :=
  f_X5_granted_4 n v0 n 0 0 h
set_option maxRecDepth 20000 in
theorem b_X5_granted_23 {g : GT} {Z : Int × MM} {n : Nat} (C : Cx g cX5_granted 3 yX5_granted 4 88) (hr : Rt g (some .int) 0 Z) {v0 v1 v2 : Int}  {rec4 : Int → Int → MM → RR} (L4 : ∀ (u1 u2 : Int) (h : MM), in32 u1 → in32 u2 → rec4 u1 u2 h = some Z → G g 4 [(2, v0), (0, u1), (0, u2)] [] h) (cv1 : in32 v1) (cv2 : in32 v2) {h : MM} (hf : f_X5_granted_23 n rec4 v0 v1 v2 h = some Z) : G g 23 [(2, v0), (0, v1), (0, v2)] [] h := by
  unfold f_X5_granted_23 at hf
  obtain ⟨x1, e1, hf⟩ := lb_s hf
  have c1 : in32 x1 := by rw [e1]; exact (in32_t _)
  refine r_iincL C dX5_granted_23 rfl e1 (Nat.le_of_ble_eq_true rfl) rfl ?_
  refine r_goto C dX5_granted_26 (tgt := 4) (by decide) ?_
  exact G.mask [true, true, true] rfl rfl (L4 _ _ _ cv1 c1 hf)
set_option maxRecDepth 20000 in
theorem b_X5_granted_4b {g : GT} {Z : Int × MM} {n : Nat} (C : Cx g cX5_granted 3 yX5_granted 4 88) (hr : Rt g (some .int) 0 Z) {v0 v1 v2 : Int}  {rec4 : Int → Int → MM → RR} (L4 : ∀ (u1 u2 : Int) (h : MM), in32 u1 → in32 u2 → rec4 u1 u2 h = some Z → G g 4 [(2, v0), (0, u1), (0, u2)] [] h) (cv1 : in32 v1) (cv2 : in32 v2) {h : MM} (hf : f_X5_granted_4b n rec4 v0 v1 v2 h = some Z) : G g 4 [(2, v0), (0, v1), (0, v2)] [] h := by
  unfold f_X5_granted_4b at hf
  refine r_iload_n C dX5_granted_4 rfl ?_
  refine r_aload_n C dX5_granted_5 rfl ?_
  obtain ⟨q1, hf⟩ := gf_s hf
  refine r_gf C ct5 (j := 7) (ji := 7) dX5_granted_6 q1 rfl rfl (by decide) w_177 rfl (fun c1 => ?_)
  have c1 : in32 _ := c1
  refine r_icmp_ge C dX5_granted_9 (tgt := 29) (by decide) cv2 c1 (fun n2 => ?_) (fun n2 => ?_)
  · have hf := ite_p n2 hf
    refine r_iload_n C dX5_granted_29 rfl ?_
    cases hf
    exact r_jret C hr dX5_granted_30 cv1
  · have hf := ite_n n2 hf
    refine r_aload_n C dX5_granted_12 rfl ?_
    refine r_iload_n C dX5_granted_13 rfl ?_
    obtain ⟨p3, hf⟩ := gk_s hf
    obtain ⟨r3, h3, hq3, hf⟩ := bd_s hf
    refine r_cV1 C (am_X5_isGranted (gl g) n) cm_X5_isGranted w_1009 dX5_granted_14 ⟨Nat.le_of_ble_eq_true rfl, Nat.le_of_ble_eq_true rfl⟩ p3 rfl cv2 rfl (Nat.le_of_ble_eq_true rfl) hq3 (by decide) (fun c3 => ?_)
    have c3 : in32 _ := c3
    refine r_if_eq C dX5_granted_17 (tgt := 23) (by decide) c3 (fun n4 => ?_) (fun n4 => ?_)
    · have hf := ite_p n4 hf
      exact G.mask [true, true, true] rfl rfl (b_X5_granted_23 C hr L4 cv1 cv2 hf)
    · have hf := ite_n n4 hf
      obtain ⟨x5, e5, hf⟩ := lb_s hf
      have c5 : in32 x5 := by rw [e5]; exact (in32_t _)
      refine r_iincL C dX5_granted_20 rfl e5 (Nat.le_of_ble_eq_true rfl) rfl ?_
      exact G.mask [true, true, true] rfl rfl (b_X5_granted_23 C hr L4 c5 cv2 hf)
set_option maxRecDepth 20000 in
theorem l_X5_granted_4 {g : GT} {Z : Int × MM} {n : Nat} (C : Cx g cX5_granted 3 yX5_granted 4 88) (hr : Rt g (some .int) 0 Z) {v0 : Int}    : ∀ (k : Nat) (v1 v2 : Int) (h : MM), in32 v1 → in32 v2 → f_X5_granted_4 n  v0 k v1 v2 h = some Z → G g 4 [(2, v0), (0, v1), (0, v2)] [] h := by
  intro k
  induction k with
  | zero => intro v1 v2 h cv1 cv2 hf; exact absurd hf (by intro z; cases z)
  | succ k ih => intro v1 v2 h cv1 cv2 hf; exact b_X5_granted_4b C hr (rec4 := f_X5_granted_4 n  v0 k)  ih cv1 cv2 (show f_X5_granted_4b n  (f_X5_granted_4 n  v0 k) v0 v1 v2 h = some Z from hf)
set_option maxRecDepth 20000 in
theorem e_X5_granted {g : GT} {Z : Int × MM} {n : Nat} (C : Cx g cX5_granted 3 yX5_granted 4 88) (hr : Rt g (some .int) 0 Z) {v0 : Int} (cv0 : cK 2 v0) {h : MM} (hf : f_X5_granted n v0 h = some Z) : G g 0 [(2, v0), (3, 0), (3, 0)] [] h := by
  unfold f_X5_granted at hf
  refine r_iconst C dX5_granted_0 ?_
  refine r_istore_n C dX5_granted_1 (Nat.le_of_ble_eq_true rfl) rfl ?_
  refine r_iconst C dX5_granted_2 ?_
  refine r_istore_n C dX5_granted_3 (Nat.le_of_ble_eq_true rfl) rfl ?_
  exact G.mask [true, true, true] rfl rfl (l_X5_granted_4 C hr   _ _ _ _ (in32_of rfl) (in32_of rfl) hf)
set_option maxRecDepth 20000 in
theorem am_X5_granted (l : Launch) (n : Nat) : AM l yX5_granted cX5_granted 3 (some .int) 4 88 [2] 0 (un1 (f_X5_granted n)) := by
  refine AM.intro (by decide) (fun xs hx => ?_) (fun g xs h Z hl C hr hx hf => ?_)
  · obtain ⟨a0, rfl, c0⟩ := canL_1 hx
    exact Nat.le_of_ble_eq_true rfl
  · obtain ⟨a0, rfl, c0⟩ := canL_1 hx
    have hf := (un1_e _ a0 _).symm.trans hf
    exact e_X5_granted (n := n) C hr c0 hf
/-! LinesPromised.grant(I)I -/
theorem dX11_grant_0 : decode cX11_grant 0 = .ok (.aload_n 0, 1) := by decide +kernel
theorem dX11_grant_1 : decode cX11_grant 1 = .ok (.getfield 10, 3) := by decide +kernel
theorem dX11_grant_4 : decode cX11_grant 4 = .ok (.getfield 133, 3) := by decide +kernel
theorem dX11_grant_7 : decode cX11_grant 7 = .ok (.iload_n 1, 1) := by decide +kernel
theorem dX11_grant_8 : decode cX11_grant 8 = .ok (.iconst 3, 1) := by decide +kernel
theorem dX11_grant_9 : decode cX11_grant 9 = .ok (.invokevirtual 172, 3) := by decide +kernel
theorem dX11_grant_12 : decode cX11_grant 12 = .ok (.astore_n 2, 1) := by decide +kernel
theorem dX11_grant_13 : decode cX11_grant 13 = .ok (.aload_n 2, 1) := by decide +kernel
theorem dX11_grant_14 : decode cX11_grant 14 = .ok (.ifnonnull 5, 3) := by decide +kernel
theorem dX11_grant_17 : decode cX11_grant 17 = .ok (.iconst (-1), 1) := by decide +kernel
theorem dX11_grant_18 : decode cX11_grant 18 = .ok (.ireturn, 1) := by decide +kernel
theorem dX11_grant_19 : decode cX11_grant 19 = .ok (.aload_n 0, 1) := by decide +kernel
theorem dX11_grant_20 : decode cX11_grant 20 = .ok (.getfield 10, 3) := by decide +kernel
theorem dX11_grant_23 : decode cX11_grant 23 = .ok (.getfield 133, 3) := by decide +kernel
theorem dX11_grant_26 : decode cX11_grant 26 = .ok (.astore_n 3, 1) := by decide +kernel
theorem dX11_grant_27 : decode cX11_grant 27 = .ok (.aload_n 3, 1) := by decide +kernel
theorem dX11_grant_28 : decode cX11_grant 28 = .ok (.iload_n 1, 1) := by decide +kernel
theorem dX11_grant_29 : decode cX11_grant 29 = .ok (.invokevirtual 256, 3) := by decide +kernel
theorem dX11_grant_32 : decode cX11_grant 32 = .ok (.ifCond .ne 29, 3) := by decide +kernel
theorem dX11_grant_35 : decode cX11_grant 35 = .ok (.aload_n 3, 1) := by decide +kernel
theorem dX11_grant_36 : decode cX11_grant 36 = .ok (.iload_n 1, 1) := by decide +kernel
theorem dX11_grant_37 : decode cX11_grant 37 = .ok (.invokevirtual 259, 3) := by decide +kernel
theorem dX11_grant_40 : decode cX11_grant 40 = .ok (.ifCond .ne 21, 3) := by decide +kernel
theorem dX11_grant_43 : decode cX11_grant 43 = .ok (.aload_n 0, 1) := by decide +kernel
theorem dX11_grant_44 : decode cX11_grant 44 = .ok (.getfield 10, 3) := by decide +kernel
theorem dX11_grant_47 : decode cX11_grant 47 = .ok (.aload_n 2, 1) := by decide +kernel
theorem dX11_grant_48 : decode cX11_grant 48 = .ok (.aload_n 0, 1) := by decide +kernel
theorem dX11_grant_49 : decode cX11_grant 49 = .ok (.getfield 10, 3) := by decide +kernel
theorem dX11_grant_52 : decode cX11_grant 52 = .ok (.getfield 148, 3) := by decide +kernel
theorem dX11_grant_55 : decode cX11_grant 55 = .ok (.invokevirtual 248, 3) := by decide +kernel
theorem dX11_grant_58 : decode cX11_grant 58 = .ok (.ifCond .ne 6, 3) := by decide +kernel
theorem dX11_grant_61 : decode cX11_grant 61 = .ok (.bipush (-3), 2) := by decide +kernel
theorem dX11_grant_63 : decode cX11_grant 63 = .ok (.ireturn, 1) := by decide +kernel
theorem dX11_grant_64 : decode cX11_grant 64 = .ok (.aload_n 3, 1) := by decide +kernel
theorem dX11_grant_65 : decode cX11_grant 65 = .ok (.iload_n 1, 1) := by decide +kernel
theorem dX11_grant_66 : decode cX11_grant 66 = .ok (.invokevirtual 262, 3) := by decide +kernel
theorem dX11_grant_69 : decode cX11_grant 69 = .ok (.aload_n 3, 1) := by decide +kernel
theorem dX11_grant_70 : decode cX11_grant 70 = .ok (.getfield 266, 3) := by decide +kernel
theorem dX11_grant_73 : decode cX11_grant 73 = .ok (.iload_n 1, 1) := by decide +kernel
theorem dX11_grant_74 : decode cX11_grant 74 = .ok (.aload_n 0, 1) := by decide +kernel
theorem dX11_grant_75 : decode cX11_grant 75 = .ok (.getfield 10, 3) := by decide +kernel
theorem dX11_grant_78 : decode cX11_grant 78 = .ok (.getfield 50, 3) := by decide +kernel
theorem dX11_grant_81 : decode cX11_grant 81 = .ok (.aload_n 2, 1) := by decide +kernel
theorem dX11_grant_82 : decode cX11_grant 82 = .ok (.getfield 192, 3) := by decide +kernel
theorem dX11_grant_85 : decode cX11_grant 85 = .ok (.invokevirtual 198, 3) := by decide +kernel
theorem dX11_grant_88 : decode cX11_grant 88 = .ok (.iastore, 1) := by decide +kernel
theorem dX11_grant_89 : decode cX11_grant 89 = .ok (.aload_n 3, 1) := by decide +kernel
theorem dX11_grant_90 : decode cX11_grant 90 = .ok (.invokevirtual 269, 3) := by decide +kernel
theorem dX11_grant_93 : decode cX11_grant 93 = .ok (.ireturn, 1) := by decide +kernel
theorem cm_X11_grant : CM yX11_grant cX11_grant 4 (some .int) 1 11 := ⟨w_990, w_991, w_992, w_87, ⟨by decide +kernel, by decide +kernel, by decide +kernel⟩, ⟨_, _, rfl⟩, by decide⟩
noncomputable def f_X11_grant_61 (n : Nat)  (h : MM) : RR :=
  some ((-3), h)
noncomputable def f_X11_grant (n : Nat) (v0 v1 : Int) (h : MM) : RR :=
  gf h v0 11 0 fun r1 =>
  gf h r1 10 1 fun r2 =>
  gk h r2 5 <|
  bd (f_X5_find n r2 v1 3 h) fun r3 h3 =>
  if r3 = 0 then
    some ((-1), h3)
  else
  gf h3 v0 11 0 fun r5 =>
  gf h3 r5 10 1 fun r6 =>
  gk h3 r6 5 <|
  bd (f_X5_isMarked n r6 v1 h3) fun r7 h7 =>
  if r7 = 0 then
    gk h7 r6 5 <|
    bd (f_X5_isBarred n r6 v1 h7) fun r9 h9 =>
    if r9 = 0 then
      gf h9 v0 11 0 fun r11 =>
      gf h9 v0 11 0 fun r12 =>
      gf h9 r12 10 9 fun r13 =>
      gk h9 r11 10 <|
      bd (f_X10_canBeLet n r11 r3 r13 h9) fun r14 h14 =>
      if r14 = 0 then
        f_X11_grant_61 n h14
      else
      gk h14 r6 5 <|
      bd (f_X5_mark n r6 v1 h14) fun r16 h16 =>
      gf h16 r6 5 2 fun r17 =>
      gf h16 v0 11 0 fun r18 =>
      gf h16 r18 10 0 fun r19 =>
      gf h16 r3 4 3 fun r20 =>
      gk h16 r19 1 <|
      bd (f_X1_yardsOf n r19 r20 h16) fun r21 h21 =>
      wt h21 r17 100 v1 r21 fun h22 =>
      gk h22 r6 5 <|
      bd (f_X5_granted n r6 h22) fun r23 h23 =>
      some (r23, h23)
    else
    f_X11_grant_61 n h9
  else
  f_X11_grant_61 n h7
set_option maxRecDepth 20000 in
theorem b_X11_grant_61 {g : GT} {Z : Int × MM} {n : Nat} (C : Cx g cX11_grant 4 yX11_grant 35 821) (hr : Rt g (some .int) 0 Z)     {h : MM} (hf : f_X11_grant_61 n   h = some Z) : G g 61 [(3, 0), (3, 0), (3, 0), (3, 0)] [] h := by
  unfold f_X11_grant_61 at hf
  refine r_bipush C dX11_grant_61 rfl ?_
  cases hf
  exact r_jret C hr dX11_grant_63 (in32_of rfl)
set_option maxRecDepth 20000 in
theorem e_X11_grant {g : GT} {Z : Int × MM} {n : Nat} (C : Cx g cX11_grant 4 yX11_grant 35 821) (hr : Rt g (some .int) 0 Z) {v0 v1 : Int} (cv0 : cK 2 v0) (cv1 : cK 0 v1) {h : MM} (hf : f_X11_grant n v0 v1 h = some Z) : G g 0 [(2, v0), (0, v1), (3, 0), (3, 0)] [] h := by
  have cv1 : in32 v1 := cv1
  unfold f_X11_grant at hf
  refine r_aload_n C dX11_grant_0 rfl ?_
  obtain ⟨q1, hf⟩ := gf_s hf
  refine r_gf C ct11 (j := 0) (ji := 0) dX11_grant_1 q1 rfl rfl (by decide) w_440 rfl (fun c1 => ?_)
  obtain ⟨q2, hf⟩ := gf_s hf
  refine r_gf C ct10 (j := 1) (ji := 1) dX11_grant_4 q2 rfl rfl (by decide) w_302 rfl (fun c2 => ?_)
  refine r_iload_n C dX11_grant_7 rfl ?_
  refine r_iconst C dX11_grant_8 ?_
  obtain ⟨p3, hf⟩ := gk_s hf
  obtain ⟨r3, h3, hq3, hf⟩ := bd_s hf
  refine r_cV2 C (am_X5_find (gl g) n) cm_X5_find w_798 dX11_grant_9 ⟨Nat.le_of_ble_eq_true rfl, Nat.le_of_ble_eq_true rfl⟩ p3 rfl cv1 (in32_of rfl) rfl (Nat.le_of_ble_eq_true rfl) hq3 (by decide) (fun c3 => ?_)
  refine r_astore_n C dX11_grant_12 (Nat.le_of_ble_eq_true rfl) rfl ?_
  refine r_aload_n C dX11_grant_13 rfl ?_
  refine r_ifnonnull C dX11_grant_14 (tgt := 19) (by decide) (fun n4 => ?_) (fun n4 => ?_)
  · have hf := ite_n n4 hf
    refine r_aload_n C dX11_grant_19 rfl ?_
    obtain ⟨q5, hf⟩ := gf_s hf
    refine r_gf C ct11 (j := 0) (ji := 0) dX11_grant_20 q5 rfl rfl (by decide) w_440 rfl (fun c5 => ?_)
    obtain ⟨q6, hf⟩ := gf_s hf
    refine r_gf C ct10 (j := 1) (ji := 1) dX11_grant_23 q6 rfl rfl (by decide) w_302 rfl (fun c6 => ?_)
    refine r_astore_n C dX11_grant_26 (Nat.le_of_ble_eq_true rfl) rfl ?_
    refine r_aload_n C dX11_grant_27 rfl ?_
    refine r_iload_n C dX11_grant_28 rfl ?_
    obtain ⟨p7, hf⟩ := gk_s hf
    obtain ⟨r7, h7, hq7, hf⟩ := bd_s hf
    refine r_cV1 C (am_X5_isMarked (gl g) n) cm_X5_isMarked w_993 dX11_grant_29 ⟨Nat.le_of_ble_eq_true rfl, Nat.le_of_ble_eq_true rfl⟩ p7 rfl cv1 rfl (Nat.le_of_ble_eq_true rfl) hq7 (by decide) (fun c7 => ?_)
    have c7 : in32 _ := c7
    refine r_if_ne C dX11_grant_32 (tgt := 61) (by decide) c7 (fun n8 => ?_) (fun n8 => ?_)
    · have hf := ite_n n8 hf
      exact G.mask [false, false, false, false] rfl rfl (b_X11_grant_61 C hr   hf)
    · have hf := ite_p n8 hf
      refine r_aload_n C dX11_grant_35 rfl ?_
      refine r_iload_n C dX11_grant_36 rfl ?_
      obtain ⟨p9, hf⟩ := gk_s hf
      obtain ⟨r9, h9, hq9, hf⟩ := bd_s hf
      refine r_cV1 C (am_X5_isBarred (gl g) n) cm_X5_isBarred w_997 dX11_grant_37 ⟨Nat.le_of_ble_eq_true rfl, Nat.le_of_ble_eq_true rfl⟩ p9 rfl cv1 rfl (Nat.le_of_ble_eq_true rfl) hq9 (by decide) (fun c9 => ?_)
      have c9 : in32 _ := c9
      refine r_if_ne C dX11_grant_40 (tgt := 61) (by decide) c9 (fun n10 => ?_) (fun n10 => ?_)
      · have hf := ite_n n10 hf
        exact G.mask [false, false, false, false] rfl rfl (b_X11_grant_61 C hr   hf)
      · have hf := ite_p n10 hf
        refine r_aload_n C dX11_grant_43 rfl ?_
        obtain ⟨q11, hf⟩ := gf_s hf
        refine r_gf C ct11 (j := 0) (ji := 0) dX11_grant_44 q11 rfl rfl (by decide) w_440 rfl (fun c11 => ?_)
        refine r_aload_n C dX11_grant_47 rfl ?_
        refine r_aload_n C dX11_grant_48 rfl ?_
        obtain ⟨q12, hf⟩ := gf_s hf
        refine r_gf C ct11 (j := 0) (ji := 0) dX11_grant_49 q12 rfl rfl (by decide) w_440 rfl (fun c12 => ?_)
        obtain ⟨q13, hf⟩ := gf_s hf
        refine r_gf C ct10 (j := 9) (ji := 9) dX11_grant_52 q13 rfl rfl (by decide) w_317 rfl (fun c13 => ?_)
        have c13 : in32 _ := c13
        obtain ⟨p14, hf⟩ := gk_s hf
        obtain ⟨r14, h14, hq14, hf⟩ := bd_s hf
        refine r_cV2 C (am_X10_canBeLet (gl g) n) cm_X10_canBeLet w_964 dX11_grant_55 ⟨Nat.le_of_ble_eq_true rfl, Nat.le_of_ble_eq_true rfl⟩ p14 rfl trivial c13 rfl (Nat.le_of_ble_eq_true rfl) hq14 (by decide) (fun c14 => ?_)
        have c14 : in32 _ := c14
        refine r_if_ne C dX11_grant_58 (tgt := 64) (by decide) c14 (fun n15 => ?_) (fun n15 => ?_)
        · have hf := ite_n n15 hf
          refine r_aload_n C dX11_grant_64 rfl ?_
          refine r_iload_n C dX11_grant_65 rfl ?_
          obtain ⟨p16, hf⟩ := gk_s hf
          obtain ⟨r16, h16, hq16, hf⟩ := bd_s hf
          refine r_cV1v C (am_X5_mark (gl g) n) cm_X5_mark w_1001 dX11_grant_66 ⟨Nat.le_of_ble_eq_true rfl, Nat.le_of_ble_eq_true rfl⟩ p16 rfl cv1 rfl (Nat.le_of_ble_eq_true rfl) hq16 ?_
          refine r_aload_n C dX11_grant_69 rfl ?_
          obtain ⟨q17, hf⟩ := gf_s hf
          refine r_gf C ct5 (j := 2) (ji := 2) dX11_grant_70 q17 rfl rfl (by decide) w_170 rfl (fun c17 => ?_)
          refine r_iload_n C dX11_grant_73 rfl ?_
          refine r_aload_n C dX11_grant_74 rfl ?_
          obtain ⟨q18, hf⟩ := gf_s hf
          refine r_gf C ct11 (j := 0) (ji := 0) dX11_grant_75 q18 rfl rfl (by decide) w_440 rfl (fun c18 => ?_)
          obtain ⟨q19, hf⟩ := gf_s hf
          refine r_gf C ct10 (j := 0) (ji := 0) dX11_grant_78 q19 rfl rfl (by decide) w_300 rfl (fun c19 => ?_)
          refine r_aload_n C dX11_grant_81 rfl ?_
          obtain ⟨q20, hf⟩ := gf_s hf
          refine r_gf C ct4 (j := 3) (ji := 3) dX11_grant_82 q20 rfl rfl (by decide) w_725 rfl (fun c20 => ?_)
          obtain ⟨p21, hf⟩ := gk_s hf
          obtain ⟨r21, h21, hq21, hf⟩ := bd_s hf
          refine r_cV1 C (am_X1_yardsOf (gl g) n) cm_X1_yardsOf w_854 dX11_grant_85 ⟨Nat.le_of_ble_eq_true rfl, Nat.le_of_ble_eq_true rfl⟩ p21 rfl trivial rfl (Nat.le_of_ble_eq_true rfl) hq21 (by decide) (fun c21 => ?_)
          have c21 : in32 _ := c21
          obtain ⟨q22, hf⟩ := wt_s hf
          refine r_iast C dX11_grant_88 q22 rfl c21 ?_
          refine r_aload_n C dX11_grant_89 rfl ?_
          obtain ⟨p23, hf⟩ := gk_s hf
          obtain ⟨r23, h23, hq23, hf⟩ := bd_s hf
          refine r_cV0 C (am_X5_granted (gl g) n) cm_X5_granted w_1005 dX11_grant_90 ⟨Nat.le_of_ble_eq_true rfl, Nat.le_of_ble_eq_true rfl⟩ p23 rfl  rfl (Nat.le_of_ble_eq_true rfl) hq23 (by decide) (fun c23 => ?_)
          have c23 : in32 _ := c23
          cases hf
          exact r_jret C hr dX11_grant_93 c23
        · have hf := ite_p n15 hf
          exact G.mask [false, false, false, false] rfl rfl (b_X11_grant_61 C hr   hf)
  · have hf := ite_p n4 hf
    refine r_iconst C dX11_grant_17 ?_
    cases hf
    exact r_jret C hr dX11_grant_18 (in32_of rfl)
set_option maxRecDepth 20000 in
theorem am_X11_grant (l : Launch) (n : Nat) : AM l yX11_grant cX11_grant 4 (some .int) 35 821 [2, 0] 0 (un2 (f_X11_grant n)) := by
  refine AM.intro (by decide) (fun xs hx => ?_) (fun g xs h Z hl C hr hx hf => ?_)
  · obtain ⟨a0, a1, rfl, c0, c1⟩ := canL_2 hx
    exact Nat.le_of_ble_eq_true rfl
  · obtain ⟨a0, a1, rfl, c0, c1⟩ := canL_2 hx
    have hf := (un2_e _ a0 a1 _).symm.trans hf
    exact e_X11_grant (n := n) C hr c0 c1 hf
/-! LinesPromised$Paper.isUnder(I)Z -/
theorem dX4_isUnder_0 : decode cX4_isUnder 0 = .ok (.aload_n 0, 1) := by decide +kernel
theorem dX4_isUnder_1 : decode cX4_isUnder 1 = .ok (.getfield 30, 3) := by decide +kernel
theorem dX4_isUnder_4 : decode cX4_isUnder 4 = .ok (.istore_n 2, 1) := by decide +kernel
theorem dX4_isUnder_5 : decode cX4_isUnder 5 = .ok (.iconst 0, 1) := by decide +kernel
theorem dX4_isUnder_6 : decode cX4_isUnder 6 = .ok (.istore_n 3, 1) := by decide +kernel
theorem dX4_isUnder_7 : decode cX4_isUnder 7 = .ok (.iload_n 3, 1) := by decide +kernel
theorem dX4_isUnder_8 : decode cX4_isUnder 8 = .ok (.getstatic 46, 3) := by decide +kernel
theorem dX4_isUnder_11 : decode cX4_isUnder 11 = .ok (.arraylength, 1) := by decide +kernel
theorem dX4_isUnder_12 : decode cX4_isUnder 12 = .ok (.if_icmp .ge 27, 3) := by decide +kernel
theorem dX4_isUnder_15 : decode cX4_isUnder 15 = .ok (.iload_n 2, 1) := by decide +kernel
theorem dX4_isUnder_16 : decode cX4_isUnder 16 = .ok (.iconst (-1), 1) := by decide +kernel
theorem dX4_isUnder_17 : decode cX4_isUnder 17 = .ok (.if_icmp .eq 22, 3) := by decide +kernel
theorem dX4_isUnder_20 : decode cX4_isUnder 20 = .ok (.iload_n 2, 1) := by decide +kernel
theorem dX4_isUnder_21 : decode cX4_isUnder 21 = .ok (.iload_n 1, 1) := by decide +kernel
theorem dX4_isUnder_22 : decode cX4_isUnder 22 = .ok (.if_icmp .ne 5, 3) := by decide +kernel
theorem dX4_isUnder_25 : decode cX4_isUnder 25 = .ok (.iconst 1, 1) := by decide +kernel
theorem dX4_isUnder_26 : decode cX4_isUnder 26 = .ok (.ireturn, 1) := by decide +kernel
theorem dX4_isUnder_27 : decode cX4_isUnder 27 = .ok (.getstatic 46, 3) := by decide +kernel
theorem dX4_isUnder_30 : decode cX4_isUnder 30 = .ok (.iload_n 2, 1) := by decide +kernel
theorem dX4_isUnder_31 : decode cX4_isUnder 31 = .ok (.iaload, 1) := by decide +kernel
theorem dX4_isUnder_32 : decode cX4_isUnder 32 = .ok (.istore_n 2, 1) := by decide +kernel
theorem dX4_isUnder_33 : decode cX4_isUnder 33 = .ok (.iinc 3 1, 3) := by decide +kernel
theorem dX4_isUnder_36 : decode cX4_isUnder 36 = .ok (.goto (-29), 3) := by decide +kernel
theorem dX4_isUnder_39 : decode cX4_isUnder 39 = .ok (.iconst 0, 1) := by decide +kernel
theorem dX4_isUnder_40 : decode cX4_isUnder 40 = .ok (.ireturn, 1) := by decide +kernel
theorem cm_X4_isUnder : CM yX4_isUnder cX4_isUnder 4 (some .boolean) 1 4 := ⟨w_1020, w_1021, w_1022, w_106, ⟨by decide +kernel, by decide +kernel, by decide +kernel⟩, ⟨_, _, rfl⟩, by decide⟩
noncomputable def f_X4_isUnder_39 (n : Nat)  (h : MM) : RR :=
  ck (isb 0) <|
  some (0, h)
noncomputable def f_X4_isUnder_7b (n : Nat) (rec7 : Int → Int → MM → RR) (v1 v2 v3 : Int) (h : MM) : RR :=
  al h 2 100 fun r1 =>
  if r1 ≤ v3 then
    f_X4_isUnder_39 n h
  else
  if v2 = (-1) then
    f_X4_isUnder_39 n h
  else
  if v2 = v1 then
    ck (isb 1) <|
    some (1, h)
  else
  rd h 2 100 v2 fun r5 =>
  lb (wr (v3 + 1)) fun x6 =>
  rec7 r5 x6 h
noncomputable def f_X4_isUnder_7 (n : Nat)  (v1 : Int) : Nat → Int → Int → MM → RR
  | 0, _, _, _ => none
  | k + 1, v2, v3, h => f_X4_isUnder_7b n  (f_X4_isUnder_7 n  v1 k) v1 v2 v3 h
noncomputable def f_X4_isUnder (n : Nat) (v0 v1 : Int) (h : MM) : RR :=
  gf h v0 4 0 fun r1 =>
  f_X4_isUnder_7 n v1 n r1 0 h
set_option maxRecDepth 20000 in
theorem b_X4_isUnder_39 {g : GT} {Z : Int × MM} {n : Nat} (C : Cx g cX4_isUnder 4 yX4_isUnder 0 0) (hr : Rt g (some .boolean) 0 Z)     {h : MM} (hf : f_X4_isUnder_39 n   h = some Z) : G g 39 [(3, 0), (3, 0), (3, 0), (3, 0)] [] h := by
  unfold f_X4_isUnder_39 at hf
  refine r_iconst C dX4_isUnder_39 ?_
  obtain ⟨b1, hf⟩ := ck_s hf
  cases hf
  exact r_zret C hr dX4_isUnder_40 b1
set_option maxRecDepth 20000 in
theorem b_X4_isUnder_7b {g : GT} {Z : Int × MM} {n : Nat} (C : Cx g cX4_isUnder 4 yX4_isUnder 0 0) (hr : Rt g (some .boolean) 0 Z) {v1 v2 v3 : Int}  {rec7 : Int → Int → MM → RR} (L7 : ∀ (u2 u3 : Int) (h : MM), in32 u2 → in32 u3 → rec7 u2 u3 h = some Z → G g 7 [(3, 0), (0, v1), (0, u2), (0, u3)] [] h) (cv1 : in32 v1) (cv2 : in32 v2) (cv3 : in32 v3) {h : MM} (hf : f_X4_isUnder_7b n rec7 v1 v2 v3 h = some Z) : G g 7 [(3, 0), (0, v1), (0, v2), (0, v3)] [] h := by
  unfold f_X4_isUnder_7b at hf
  refine r_iload_n C dX4_isUnder_7 rfl ?_
  refine r_gsU C dX4_isUnder_8 C.hK.2.2.2.2.2.1 ?_
  obtain ⟨q1, hf⟩ := al_s hf
  refine r_alen C (tn := 100) dX4_isUnder_11 q1 rfl (by decide) (fun c1 _ => ?_)
  refine r_icmp_ge C dX4_isUnder_12 (tgt := 39) (by decide) cv3 c1 (fun n2 => ?_) (fun n2 => ?_)
  · have hf := ite_p n2 hf
    exact G.mask [false, false, false, false] rfl rfl (b_X4_isUnder_39 C hr   hf)
  · have hf := ite_n n2 hf
    refine r_iload_n C dX4_isUnder_15 rfl ?_
    refine r_iconst C dX4_isUnder_16 ?_
    refine r_icmp_eq C dX4_isUnder_17 (tgt := 39) (by decide) cv2 (in32_of rfl) (fun n3 => ?_) (fun n3 => ?_)
    · have hf := ite_p n3 hf
      exact G.mask [false, false, false, false] rfl rfl (b_X4_isUnder_39 C hr   hf)
    · have hf := ite_n n3 hf
      refine r_iload_n C dX4_isUnder_20 rfl ?_
      refine r_iload_n C dX4_isUnder_21 rfl ?_
      refine r_icmp_ne C dX4_isUnder_22 (tgt := 27) (by decide) cv2 cv1 (fun n4 => ?_) (fun n4 => ?_)
      · have hf := ite_n n4 hf
        refine r_gsU C dX4_isUnder_27 C.hK.2.2.2.2.2.1 ?_
        refine r_iload_n C dX4_isUnder_30 rfl ?_
        obtain ⟨q5, hf⟩ := rd_s hf
        refine r_iald C dX4_isUnder_31 q5 rfl (fun c5 => ?_)
        refine r_istore_n C dX4_isUnder_32 (Nat.le_of_ble_eq_true rfl) rfl ?_
        obtain ⟨x6, e6, hf⟩ := lb_s hf
        have c6 : in32 x6 := by rw [e6]; exact (in32_t _)
        refine r_iincL C dX4_isUnder_33 rfl e6 (Nat.le_of_ble_eq_true rfl) rfl ?_
        refine r_goto C dX4_isUnder_36 (tgt := 7) (by decide) ?_
        exact G.mask [false, true, true, true] rfl rfl (L7 _ _ _ c5 c6 hf)
      · have hf := ite_p n4 hf
        refine r_iconst C dX4_isUnder_25 ?_
        obtain ⟨b7, hf⟩ := ck_s hf
        cases hf
        exact r_zret C hr dX4_isUnder_26 b7
set_option maxRecDepth 20000 in
theorem l_X4_isUnder_7 {g : GT} {Z : Int × MM} {n : Nat} (C : Cx g cX4_isUnder 4 yX4_isUnder 0 0) (hr : Rt g (some .boolean) 0 Z) {v1 : Int}   (cv1 : in32 v1) : ∀ (k : Nat) (v2 v3 : Int) (h : MM), in32 v2 → in32 v3 → f_X4_isUnder_7 n  v1 k v2 v3 h = some Z → G g 7 [(3, 0), (0, v1), (0, v2), (0, v3)] [] h := by
  intro k
  induction k with
  | zero => intro v2 v3 h cv2 cv3 hf; exact absurd hf (by intro z; cases z)
  | succ k ih => intro v2 v3 h cv2 cv3 hf; exact b_X4_isUnder_7b C hr (rec7 := f_X4_isUnder_7 n  v1 k)  ih cv1 cv2 cv3 (show f_X4_isUnder_7b n  (f_X4_isUnder_7 n  v1 k) v1 v2 v3 h = some Z from hf)
set_option maxRecDepth 20000 in
theorem e_X4_isUnder {g : GT} {Z : Int × MM} {n : Nat} (C : Cx g cX4_isUnder 4 yX4_isUnder 0 0) (hr : Rt g (some .boolean) 0 Z) {v0 v1 : Int} (cv0 : cK 2 v0) (cv1 : cK 0 v1) {h : MM} (hf : f_X4_isUnder n v0 v1 h = some Z) : G g 0 [(2, v0), (0, v1), (3, 0), (3, 0)] [] h := by
  have cv1 : in32 v1 := cv1
  unfold f_X4_isUnder at hf
  refine r_aload_n C dX4_isUnder_0 rfl ?_
  obtain ⟨q1, hf⟩ := gf_s hf
  refine r_gf C ct4 (j := 0) (ji := 0) dX4_isUnder_1 q1 rfl rfl (by decide) w_712 rfl (fun c1 => ?_)
  have c1 : in32 _ := c1
  refine r_istore_n C dX4_isUnder_4 (Nat.le_of_ble_eq_true rfl) rfl ?_
  refine r_iconst C dX4_isUnder_5 ?_
  refine r_istore_n C dX4_isUnder_6 (Nat.le_of_ble_eq_true rfl) rfl ?_
  exact G.mask [false, true, true, true] rfl rfl (l_X4_isUnder_7 C hr  cv1 _ _ _ _ c1 (in32_of rfl) hf)
set_option maxRecDepth 20000 in
theorem am_X4_isUnder (l : Launch) (n : Nat) : AM l yX4_isUnder cX4_isUnder 4 (some .boolean) 0 0 [2, 0] 0 (un2 (f_X4_isUnder n)) := by
  refine AM.intro (by decide) (fun xs hx => ?_) (fun g xs h Z hl C hr hx hf => ?_)
  · obtain ⟨a0, a1, rfl, c0, c1⟩ := canL_2 hx
    exact Nat.le_of_ble_eq_true rfl
  · obtain ⟨a0, a1, rfl, c0, c1⟩ := canL_2 hx
    have hf := (un2_e _ a0 a1 _).symm.trans hf
    exact e_X4_isUnder (n := n) C hr c0 c1 hf
/-! LinesPromised$Papers.worthOfPlan(LLinesPromised$Paper;)I -/
theorem dX5_worthOfPlan_0 : decode cX5_worthOfPlan 0 = .ok (.aload_n 1, 1) := by decide +kernel
theorem dX5_worthOfPlan_1 : decode cX5_worthOfPlan 1 = .ok (.ifnonnull 7, 3) := by decide +kernel
theorem dX5_worthOfPlan_4 : decode cX5_worthOfPlan 4 = .ok (.aconst_null, 1) := by decide +kernel
theorem dX5_worthOfPlan_5 : decode cX5_worthOfPlan 5 = .ok (.goto 11, 3) := by decide +kernel
theorem dX5_worthOfPlan_8 : decode cX5_worthOfPlan 8 = .ok (.aload_n 0, 1) := by decide +kernel
theorem dX5_worthOfPlan_9 : decode cX5_worthOfPlan 9 = .ok (.aload_n 1, 1) := by decide +kernel
theorem dX5_worthOfPlan_10 : decode cX5_worthOfPlan 10 = .ok (.getfield 83, 3) := by decide +kernel
theorem dX5_worthOfPlan_13 : decode cX5_worthOfPlan 13 = .ok (.invokevirtual 65, 3) := by decide +kernel
theorem dX5_worthOfPlan_16 : decode cX5_worthOfPlan 16 = .ok (.astore_n 2, 1) := by decide +kernel
theorem dX5_worthOfPlan_17 : decode cX5_worthOfPlan 17 = .ok (.aload_n 2, 1) := by decide +kernel
theorem dX5_worthOfPlan_18 : decode cX5_worthOfPlan 18 = .ok (.ifnonnull 7, 3) := by decide +kernel
theorem dX5_worthOfPlan_21 : decode cX5_worthOfPlan 21 = .ok (.iconst 0, 1) := by decide +kernel
theorem dX5_worthOfPlan_22 : decode cX5_worthOfPlan 22 = .ok (.goto 16, 3) := by decide +kernel
theorem dX5_worthOfPlan_25 : decode cX5_worthOfPlan 25 = .ok (.bipush 10, 2) := by decide +kernel
theorem dX5_worthOfPlan_27 : decode cX5_worthOfPlan 27 = .ok (.aload_n 2, 1) := by decide +kernel
theorem dX5_worthOfPlan_28 : decode cX5_worthOfPlan 28 = .ok (.getfield 89, 3) := by decide +kernel
theorem dX5_worthOfPlan_31 : decode cX5_worthOfPlan 31 = .ok (.iadd, 1) := by decide +kernel
theorem dX5_worthOfPlan_32 : decode cX5_worthOfPlan 32 = .ok (.aload_n 1, 1) := by decide +kernel
theorem dX5_worthOfPlan_33 : decode cX5_worthOfPlan 33 = .ok (.getfield 100, 3) := by decide +kernel
theorem dX5_worthOfPlan_36 : decode cX5_worthOfPlan 36 = .ok (.arraylength, 1) := by decide +kernel
theorem dX5_worthOfPlan_37 : decode cX5_worthOfPlan 37 = .ok (.iadd, 1) := by decide +kernel
theorem dX5_worthOfPlan_38 : decode cX5_worthOfPlan 38 = .ok (.ireturn, 1) := by decide +kernel
theorem cm_X5_worthOfPlan : CM yX5_worthOfPlan cX5_worthOfPlan 3 (some .int) 1 5 := ⟨w_1031, w_18, w_1032, w_90, ⟨by decide +kernel, by decide +kernel, by decide +kernel⟩, ⟨_, _, rfl⟩, by decide⟩
noncomputable def f_X5_worthOfPlan_38 (n : Nat)  (s0 : Int) (h : MM) : RR :=
  some (s0, h)
noncomputable def f_X5_worthOfPlan_16 (n : Nat)  (v1 s0 : Int) (h : MM) : RR :=
  if s0 = 0 then
    f_X5_worthOfPlan_38 n 0 h
  else
  gf h s0 4 8 fun r2 =>
  gf h v1 4 3 fun r3 =>
  al h r3 100 fun r4 =>
  f_X5_worthOfPlan_38 n (wr ((wr (10 + r2)) + r4)) h
noncomputable def f_X5_worthOfPlan (n : Nat) (v0 v1 : Int) (h : MM) : RR :=
  if v1 = 0 then
    f_X5_worthOfPlan_16 n v1 0 h
  else
  gf h v1 4 1 fun r2 =>
  gk h v0 5 <|
  bd (f_X5_get n v0 r2 h) fun r3 h3 =>
  f_X5_worthOfPlan_16 n v1 r3 h3
set_option maxRecDepth 20000 in
theorem b_X5_worthOfPlan_38 {g : GT} {Z : Int × MM} {n : Nat} (C : Cx g cX5_worthOfPlan 3 yX5_worthOfPlan 2 44) (hr : Rt g (some .int) 0 Z) {s0 : Int}    (cs0 : in32 s0) {h : MM} (hf : f_X5_worthOfPlan_38 n  s0 h = some Z) : G g 38 [(3, 0), (3, 0), (3, 0)] [(0, s0)] h := by
  unfold f_X5_worthOfPlan_38 at hf
  cases hf
  exact r_jret C hr dX5_worthOfPlan_38 cs0
set_option maxRecDepth 20000 in
theorem b_X5_worthOfPlan_16 {g : GT} {Z : Int × MM} {n : Nat} (C : Cx g cX5_worthOfPlan 3 yX5_worthOfPlan 2 44) (hr : Rt g (some .int) 0 Z) {v1 s0 : Int}     {h : MM} (hf : f_X5_worthOfPlan_16 n  v1 s0 h = some Z) : G g 16 [(3, 0), (2, v1), (3, 0)] [(2, s0)] h := by
  unfold f_X5_worthOfPlan_16 at hf
  refine r_astore_n C dX5_worthOfPlan_16 (Nat.le_of_ble_eq_true rfl) rfl ?_
  refine r_aload_n C dX5_worthOfPlan_17 rfl ?_
  refine r_ifnonnull C dX5_worthOfPlan_18 (tgt := 25) (by decide) (fun n1 => ?_) (fun n1 => ?_)
  · have hf := ite_n n1 hf
    refine r_bipush C dX5_worthOfPlan_25 rfl ?_
    refine r_aload_n C dX5_worthOfPlan_27 rfl ?_
    obtain ⟨q2, hf⟩ := gf_s hf
    refine r_gf C ct4 (j := 8) (ji := 8) dX5_worthOfPlan_28 q2 rfl rfl (by decide) w_748 rfl (fun c2 => ?_)
    have c2 : in32 _ := c2
    refine r_iadd C dX5_worthOfPlan_31 ?_
    refine r_aload_n C dX5_worthOfPlan_32 rfl ?_
    obtain ⟨q3, hf⟩ := gf_s hf
    refine r_gf C ct4 (j := 3) (ji := 3) dX5_worthOfPlan_33 q3 rfl rfl (by decide) w_726 rfl (fun c3 => ?_)
    obtain ⟨q4, hf⟩ := al_s hf
    refine r_alen C (tn := 100) dX5_worthOfPlan_36 q4 rfl (by decide) (fun c4 _ => ?_)
    refine r_iadd C dX5_worthOfPlan_37 ?_
    exact G.mask [false, false, false] rfl rfl (b_X5_worthOfPlan_38 C hr  (in32_t _) hf)
  · have hf := ite_p n1 hf
    refine r_iconst C dX5_worthOfPlan_21 ?_
    refine r_goto C dX5_worthOfPlan_22 (tgt := 38) (by decide) ?_
    exact G.mask [false, false, false] rfl rfl (b_X5_worthOfPlan_38 C hr  (in32_of rfl) hf)
set_option maxRecDepth 20000 in
theorem e_X5_worthOfPlan {g : GT} {Z : Int × MM} {n : Nat} (C : Cx g cX5_worthOfPlan 3 yX5_worthOfPlan 2 44) (hr : Rt g (some .int) 0 Z) {v0 v1 : Int} (cv0 : cK 2 v0) (cv1 : cK 2 v1) {h : MM} (hf : f_X5_worthOfPlan n v0 v1 h = some Z) : G g 0 [(2, v0), (2, v1), (3, 0)] [] h := by
  unfold f_X5_worthOfPlan at hf
  refine r_aload_n C dX5_worthOfPlan_0 rfl ?_
  refine r_ifnonnull C dX5_worthOfPlan_1 (tgt := 8) (by decide) (fun n1 => ?_) (fun n1 => ?_)
  · have hf := ite_n n1 hf
    refine r_aload_n C dX5_worthOfPlan_8 rfl ?_
    refine r_aload_n C dX5_worthOfPlan_9 rfl ?_
    obtain ⟨q2, hf⟩ := gf_s hf
    refine r_gf C ct4 (j := 1) (ji := 1) dX5_worthOfPlan_10 q2 rfl rfl (by decide) w_718 rfl (fun c2 => ?_)
    have c2 : in32 _ := c2
    obtain ⟨p3, hf⟩ := gk_s hf
    obtain ⟨r3, h3, hq3, hf⟩ := bd_s hf
    refine r_cV1 C (am_X5_get (gl g) n) cm_X5_get w_802 dX5_worthOfPlan_13 ⟨Nat.le_of_ble_eq_true rfl, Nat.le_of_ble_eq_true rfl⟩ p3 rfl c2 rfl (Nat.le_of_ble_eq_true rfl) hq3 (by decide) (fun c3 => ?_)
    exact G.mask [false, true, false] rfl rfl (b_X5_worthOfPlan_16 C hr   hf)
  · have hf := ite_p n1 hf
    refine r_null C dX5_worthOfPlan_4 ?_
    refine r_goto C dX5_worthOfPlan_5 (tgt := 16) (by decide) ?_
    exact G.mask [false, true, false] rfl rfl (b_X5_worthOfPlan_16 C hr   hf)
set_option maxRecDepth 20000 in
theorem am_X5_worthOfPlan (l : Launch) (n : Nat) : AM l yX5_worthOfPlan cX5_worthOfPlan 3 (some .int) 2 44 [2, 2] 0 (un2 (f_X5_worthOfPlan n)) := by
  refine AM.intro (by decide) (fun xs hx => ?_) (fun g xs h Z hl C hr hx hf => ?_)
  · obtain ⟨a0, a1, rfl, c0, c1⟩ := canL_2 hx
    exact Nat.le_of_ble_eq_true rfl
  · obtain ⟨a0, a1, rfl, c0, c1⟩ := canL_2 hx
    have hf := (un2_e _ a0 a1 _).symm.trans hf
    exact e_X5_worthOfPlan (n := n) C hr c0 c1 hf
/-! LinesPromised$Papers.worthOfCall(I)I -/
theorem dX5_worthOfCall_0 : decode cX5_worthOfCall 0 = .ok (.iconst 4, 1) := by decide +kernel
theorem dX5_worthOfCall_1 : decode cX5_worthOfCall 1 = .ok (.iload_n 0, 1) := by decide +kernel
theorem dX5_worthOfCall_2 : decode cX5_worthOfCall 2 = .ok (.iadd, 1) := by decide +kernel
theorem dX5_worthOfCall_3 : decode cX5_worthOfCall 3 = .ok (.ireturn, 1) := by decide +kernel
theorem cm_X5_worthOfCall : CMs yX5_worthOfCall cX5_worthOfCall 1 (some .int) 1 := ⟨w_1034, w_1035, w_90, ⟨by decide +kernel, by decide +kernel, by decide +kernel⟩⟩
noncomputable def f_X5_worthOfCall (n : Nat) (v0 : Int) (h : MM) : RR :=
  some (wr (4 + v0), h)
set_option maxRecDepth 20000 in
theorem e_X5_worthOfCall {g : GT} {Z : Int × MM} {n : Nat} (C : Cx g cX5_worthOfCall 1 yX5_worthOfCall 0 0) (hr : Rt g (some .int) 0 Z) {v0 : Int} (cv0 : cK 0 v0) {h : MM} (hf : f_X5_worthOfCall n v0 h = some Z) : G g 0 [(0, v0)] [] h := by
  have cv0 : in32 v0 := cv0
  unfold f_X5_worthOfCall at hf
  refine r_iconst C dX5_worthOfCall_0 ?_
  refine r_iload_n C dX5_worthOfCall_1 rfl ?_
  refine r_iadd C dX5_worthOfCall_2 ?_
  cases hf
  exact r_jret C hr dX5_worthOfCall_3 (in32_t _)
set_option maxRecDepth 20000 in
theorem am_X5_worthOfCall (l : Launch) (n : Nat) : AM l yX5_worthOfCall cX5_worthOfCall 1 (some .int) 0 0 [0] 0 (un1 (f_X5_worthOfCall n)) := by
  refine AM.intro (by decide) (fun xs hx => ?_) (fun g xs h Z hl C hr hx hf => ?_)
  · obtain ⟨a0, rfl, c0⟩ := canL_1 hx
    exact Nat.le_of_ble_eq_true rfl
  · obtain ⟨a0, rfl, c0⟩ := canL_1 hx
    have hf := (un1_e _ a0 _).symm.trans hf
    exact e_X5_worthOfCall (n := n) C hr c0 hf
/-! LinesPromised$Papers.worthOf(LLinesPromised$Paper;)I -/
theorem dX5_worthOf_0 : decode cX5_worthOf 0 = .ok (.aload_n 1, 1) := by decide +kernel
theorem dX5_worthOf_1 : decode cX5_worthOf 1 = .ok (.getfield 58, 3) := by decide +kernel
theorem dX5_worthOf_4 : decode cX5_worthOf 4 = .ok (.tableswitch 85 1 5 #[36, 44, 50, 65, 73], 36) := by decide +kernel
theorem dX5_worthOf_40 : decode cX5_worthOf 40 = .ok (.bipush 10, 2) := by decide +kernel
theorem dX5_worthOf_42 : decode cX5_worthOf 42 = .ok (.aload_n 1, 1) := by decide +kernel
theorem dX5_worthOf_43 : decode cX5_worthOf 43 = .ok (.getfield 89, 3) := by decide +kernel
theorem dX5_worthOf_46 : decode cX5_worthOf 46 = .ok (.iadd, 1) := by decide +kernel
theorem dX5_worthOf_47 : decode cX5_worthOf 47 = .ok (.ireturn, 1) := by decide +kernel
theorem dX5_worthOf_48 : decode cX5_worthOf 48 = .ok (.aload_n 0, 1) := by decide +kernel
theorem dX5_worthOf_49 : decode cX5_worthOf 49 = .ok (.aload_n 1, 1) := by decide +kernel
theorem dX5_worthOf_50 : decode cX5_worthOf 50 = .ok (.invokevirtual 92, 3) := by decide +kernel
theorem dX5_worthOf_53 : decode cX5_worthOf 53 = .ok (.ireturn, 1) := by decide +kernel
theorem dX5_worthOf_54 : decode cX5_worthOf 54 = .ok (.iconst 2, 1) := by decide +kernel
theorem dX5_worthOf_55 : decode cX5_worthOf 55 = .ok (.aload_n 0, 1) := by decide +kernel
theorem dX5_worthOf_56 : decode cX5_worthOf 56 = .ok (.aload_n 0, 1) := by decide +kernel
theorem dX5_worthOf_57 : decode cX5_worthOf 57 = .ok (.aload_n 1, 1) := by decide +kernel
theorem dX5_worthOf_58 : decode cX5_worthOf 58 = .ok (.getfield 83, 3) := by decide +kernel
theorem dX5_worthOf_61 : decode cX5_worthOf 61 = .ok (.invokevirtual 65, 3) := by decide +kernel
theorem dX5_worthOf_64 : decode cX5_worthOf 64 = .ok (.invokevirtual 92, 3) := by decide +kernel
theorem dX5_worthOf_67 : decode cX5_worthOf 67 = .ok (.imul, 1) := by decide +kernel
theorem dX5_worthOf_68 : decode cX5_worthOf 68 = .ok (.ireturn, 1) := by decide +kernel
theorem dX5_worthOf_69 : decode cX5_worthOf 69 = .ok (.aload_n 1, 1) := by decide +kernel
theorem dX5_worthOf_70 : decode cX5_worthOf 70 = .ok (.getfield 89, 3) := by decide +kernel
theorem dX5_worthOf_73 : decode cX5_worthOf 73 = .ok (.invokestatic 96, 3) := by decide +kernel
theorem dX5_worthOf_76 : decode cX5_worthOf 76 = .ok (.ireturn, 1) := by decide +kernel
theorem dX5_worthOf_77 : decode cX5_worthOf 77 = .ok (.iconst 2, 1) := by decide +kernel
theorem dX5_worthOf_78 : decode cX5_worthOf 78 = .ok (.aload_n 1, 1) := by decide +kernel
theorem dX5_worthOf_79 : decode cX5_worthOf 79 = .ok (.getfield 89, 3) := by decide +kernel
theorem dX5_worthOf_82 : decode cX5_worthOf 82 = .ok (.invokestatic 96, 3) := by decide +kernel
theorem dX5_worthOf_85 : decode cX5_worthOf 85 = .ok (.imul, 1) := by decide +kernel
theorem dX5_worthOf_86 : decode cX5_worthOf 86 = .ok (.iconst 1, 1) := by decide +kernel
theorem dX5_worthOf_87 : decode cX5_worthOf 87 = .ok (.isub, 1) := by decide +kernel
theorem dX5_worthOf_88 : decode cX5_worthOf 88 = .ok (.ireturn, 1) := by decide +kernel
theorem dX5_worthOf_89 : decode cX5_worthOf 89 = .ok (.iconst 1, 1) := by decide +kernel
theorem dX5_worthOf_90 : decode cX5_worthOf 90 = .ok (.aload_n 1, 1) := by decide +kernel
theorem dX5_worthOf_91 : decode cX5_worthOf 91 = .ok (.getfield 89, 3) := by decide +kernel
theorem dX5_worthOf_94 : decode cX5_worthOf 94 = .ok (.iadd, 1) := by decide +kernel
theorem dX5_worthOf_95 : decode cX5_worthOf 95 = .ok (.ireturn, 1) := by decide +kernel
theorem cm_X5_worthOf : CM yX5_worthOf cX5_worthOf 2 (some .int) 1 5 := ⟨w_1026, w_1027, w_1028, w_90, ⟨by decide +kernel, by decide +kernel, by decide +kernel⟩, ⟨_, _, rfl⟩, by decide⟩
noncomputable def f_X5_worthOf (n : Nat) (v0 v1 : Int) (h : MM) : RR :=
  gf h v1 4 0 fun r1 =>
  if r1 = 1 then
    gf h v1 4 8 fun r3 =>
    some (wr (10 + r3), h)
  else
  if r1 = 2 then
    gk h v0 5 <|
    bd (f_X5_worthOfPlan n v0 v1 h) fun r5 h5 =>
    some (r5, h5)
  else
  if r1 = 3 then
    gf h v1 4 1 fun r7 =>
    gk h v0 5 <|
    bd (f_X5_get n v0 r7 h) fun r8 h8 =>
    gk h8 v0 5 <|
    bd (f_X5_worthOfPlan n v0 r8 h8) fun r9 h9 =>
    some (wr (2 * r9), h9)
  else
  if r1 = 4 then
    gf h v1 4 8 fun r11 =>
    bd (f_X5_worthOfCall n r11 h) fun r12 h12 =>
    some (r12, h12)
  else
  if r1 = 5 then
    gf h v1 4 8 fun r14 =>
    bd (f_X5_worthOfCall n r14 h) fun r15 h15 =>
    some (wr ((wr (2 * r15)) - 1), h15)
  else
  gf h v1 4 8 fun r16 =>
  some (wr (1 + r16), h)
set_option maxRecDepth 20000 in
theorem e_X5_worthOf {g : GT} {Z : Int × MM} {n : Nat} (C : Cx g cX5_worthOf 2 yX5_worthOf 3 66) (hr : Rt g (some .int) 0 Z) {v0 v1 : Int} (cv0 : cK 2 v0) (cv1 : cK 2 v1) {h : MM} (hf : f_X5_worthOf n v0 v1 h = some Z) : G g 0 [(2, v0), (2, v1)] [] h := by
  unfold f_X5_worthOf at hf
  refine r_aload_n C dX5_worthOf_0 rfl ?_
  obtain ⟨q1, hf⟩ := gf_s hf
  refine r_gf C ct4 (j := 0) (ji := 0) dX5_worthOf_1 q1 rfl rfl (by decide) w_714 rfl (fun c1 => ?_)
  have c1 : in32 _ := c1
  rcases ite_s hf with ⟨n2, hf⟩ | ⟨n2, hf⟩
  · refine r_tsw C dX5_worthOf_4 (tgt := 40) c1 n2 rfl rfl (by decide) ?_
    refine r_bipush C dX5_worthOf_40 rfl ?_
    refine r_aload_n C dX5_worthOf_42 rfl ?_
    obtain ⟨q3, hf⟩ := gf_s hf
    refine r_gf C ct4 (j := 8) (ji := 8) dX5_worthOf_43 q3 rfl rfl (by decide) w_748 rfl (fun c3 => ?_)
    have c3 : in32 _ := c3
    refine r_iadd C dX5_worthOf_46 ?_
    cases hf
    exact r_jret C hr dX5_worthOf_47 (in32_t _)
  rcases ite_s hf with ⟨n4, hf⟩ | ⟨n4, hf⟩
  · refine r_tsw C dX5_worthOf_4 (tgt := 48) c1 n4 rfl rfl (by decide) ?_
    refine r_aload_n C dX5_worthOf_48 rfl ?_
    refine r_aload_n C dX5_worthOf_49 rfl ?_
    obtain ⟨p5, hf⟩ := gk_s hf
    obtain ⟨r5, h5, hq5, hf⟩ := bd_s hf
    refine r_cV1 C (am_X5_worthOfPlan (gl g) n) cm_X5_worthOfPlan w_1029 dX5_worthOf_50 ⟨Nat.le_of_ble_eq_true rfl, Nat.le_of_ble_eq_true rfl⟩ p5 rfl trivial rfl (Nat.le_of_ble_eq_true rfl) hq5 (by decide) (fun c5 => ?_)
    have c5 : in32 _ := c5
    cases hf
    exact r_jret C hr dX5_worthOf_53 c5
  rcases ite_s hf with ⟨n6, hf⟩ | ⟨n6, hf⟩
  · refine r_tsw C dX5_worthOf_4 (tgt := 54) c1 n6 rfl rfl (by decide) ?_
    refine r_iconst C dX5_worthOf_54 ?_
    refine r_aload_n C dX5_worthOf_55 rfl ?_
    refine r_aload_n C dX5_worthOf_56 rfl ?_
    refine r_aload_n C dX5_worthOf_57 rfl ?_
    obtain ⟨q7, hf⟩ := gf_s hf
    refine r_gf C ct4 (j := 1) (ji := 1) dX5_worthOf_58 q7 rfl rfl (by decide) w_718 rfl (fun c7 => ?_)
    have c7 : in32 _ := c7
    obtain ⟨p8, hf⟩ := gk_s hf
    obtain ⟨r8, h8, hq8, hf⟩ := bd_s hf
    refine r_cV1 C (am_X5_get (gl g) n) cm_X5_get w_802 dX5_worthOf_61 ⟨Nat.le_of_ble_eq_true rfl, Nat.le_of_ble_eq_true rfl⟩ p8 rfl c7 rfl (Nat.le_of_ble_eq_true rfl) hq8 (by decide) (fun c8 => ?_)
    obtain ⟨p9, hf⟩ := gk_s hf
    obtain ⟨r9, h9, hq9, hf⟩ := bd_s hf
    refine r_cV1 C (am_X5_worthOfPlan (gl g) n) cm_X5_worthOfPlan w_1029 dX5_worthOf_64 ⟨Nat.le_of_ble_eq_true rfl, Nat.le_of_ble_eq_true rfl⟩ p9 rfl trivial rfl (Nat.le_of_ble_eq_true rfl) hq9 (by decide) (fun c9 => ?_)
    have c9 : in32 _ := c9
    refine r_imul C dX5_worthOf_67 ?_
    cases hf
    exact r_jret C hr dX5_worthOf_68 (in32_t _)
  rcases ite_s hf with ⟨n10, hf⟩ | ⟨n10, hf⟩
  · refine r_tsw C dX5_worthOf_4 (tgt := 69) c1 n10 rfl rfl (by decide) ?_
    refine r_aload_n C dX5_worthOf_69 rfl ?_
    obtain ⟨q11, hf⟩ := gf_s hf
    refine r_gf C ct4 (j := 8) (ji := 8) dX5_worthOf_70 q11 rfl rfl (by decide) w_748 rfl (fun c11 => ?_)
    have c11 : in32 _ := c11
    obtain ⟨r12, h12, hq12, hf⟩ := bd_s hf
    refine r_cS1 C (am_X5_worthOfCall (gl g) n) cm_X5_worthOfCall w_1033 dX5_worthOf_73 ⟨Nat.le_of_ble_eq_true rfl, Nat.le_of_ble_eq_true rfl⟩ c11 rfl (Nat.le_of_ble_eq_true rfl) hq12 (by decide) (fun c12 => ?_)
    have c12 : in32 _ := c12
    cases hf
    exact r_jret C hr dX5_worthOf_76 c12
  rcases ite_s hf with ⟨n13, hf⟩ | ⟨n13, hf⟩
  · refine r_tsw C dX5_worthOf_4 (tgt := 77) c1 n13 rfl rfl (by decide) ?_
    refine r_iconst C dX5_worthOf_77 ?_
    refine r_aload_n C dX5_worthOf_78 rfl ?_
    obtain ⟨q14, hf⟩ := gf_s hf
    refine r_gf C ct4 (j := 8) (ji := 8) dX5_worthOf_79 q14 rfl rfl (by decide) w_748 rfl (fun c14 => ?_)
    have c14 : in32 _ := c14
    obtain ⟨r15, h15, hq15, hf⟩ := bd_s hf
    refine r_cS1 C (am_X5_worthOfCall (gl g) n) cm_X5_worthOfCall w_1033 dX5_worthOf_82 ⟨Nat.le_of_ble_eq_true rfl, Nat.le_of_ble_eq_true rfl⟩ c14 rfl (Nat.le_of_ble_eq_true rfl) hq15 (by decide) (fun c15 => ?_)
    have c15 : in32 _ := c15
    refine r_imul C dX5_worthOf_85 ?_
    refine r_iconst C dX5_worthOf_86 ?_
    refine r_isub C dX5_worthOf_87 ?_
    cases hf
    exact r_jret C hr dX5_worthOf_88 (in32_t _)
  refine r_tswd C dX5_worthOf_4 (tgt := 89) c1 (by omega) (by decide) ?_
  refine r_iconst C dX5_worthOf_89 ?_
  refine r_aload_n C dX5_worthOf_90 rfl ?_
  obtain ⟨q16, hf⟩ := gf_s hf
  refine r_gf C ct4 (j := 8) (ji := 8) dX5_worthOf_91 q16 rfl rfl (by decide) w_748 rfl (fun c16 => ?_)
  have c16 : in32 _ := c16
  refine r_iadd C dX5_worthOf_94 ?_
  cases hf
  exact r_jret C hr dX5_worthOf_95 (in32_t _)
set_option maxRecDepth 20000 in
theorem am_X5_worthOf (l : Launch) (n : Nat) : AM l yX5_worthOf cX5_worthOf 2 (some .int) 3 66 [2, 2] 0 (un2 (f_X5_worthOf n)) := by
  refine AM.intro (by decide) (fun xs hx => ?_) (fun g xs h Z hl C hr hx hf => ?_)
  · obtain ⟨a0, a1, rfl, c0, c1⟩ := canL_2 hx
    exact Nat.le_of_ble_eq_true rfl
  · obtain ⟨a0, a1, rfl, c0, c1⟩ := canL_2 hx
    have hf := (un2_e _ a0 a1 _).symm.trans hf
    exact e_X5_worthOf (n := n) C hr c0 c1 hf
/-! LinesPromised.cast(II)I -/
theorem dX11_cast_0 : decode cX11_cast 0 = .ok (.aload_n 0, 1) := by decide +kernel
theorem dX11_cast_1 : decode cX11_cast 1 = .ok (.getfield 10, 3) := by decide +kernel
theorem dX11_cast_4 : decode cX11_cast 4 = .ok (.getfield 133, 3) := by decide +kernel
theorem dX11_cast_7 : decode cX11_cast 7 = .ok (.iload_n 1, 1) := by decide +kernel
theorem dX11_cast_8 : decode cX11_cast 8 = .ok (.invokevirtual 272, 3) := by decide +kernel
theorem dX11_cast_11 : decode cX11_cast 11 = .ok (.astore_n 3, 1) := by decide +kernel
theorem dX11_cast_12 : decode cX11_cast 12 = .ok (.aload_n 3, 1) := by decide +kernel
theorem dX11_cast_13 : decode cX11_cast 13 = .ok (.ifnull 14, 3) := by decide +kernel
theorem dX11_cast_16 : decode cX11_cast 16 = .ok (.iload_n 2, 1) := by decide +kernel
theorem dX11_cast_17 : decode cX11_cast 17 = .ok (.i2l, 1) := by decide +kernel
theorem dX11_cast_18 : decode cX11_cast 18 = .ok (.iconst 0, 1) := by decide +kernel
theorem dX11_cast_19 : decode cX11_cast 19 = .ok (.bipush 6, 2) := by decide +kernel
theorem dX11_cast_21 : decode cX11_cast 21 = .ok (.invokestatic 46, 3) := by decide +kernel
theorem dX11_cast_24 : decode cX11_cast 24 = .ok (.ifCond .ne 5, 3) := by decide +kernel
theorem dX11_cast_27 : decode cX11_cast 27 = .ok (.iconst (-1), 1) := by decide +kernel
theorem dX11_cast_28 : decode cX11_cast 28 = .ok (.ireturn, 1) := by decide +kernel
theorem dX11_cast_29 : decode cX11_cast 29 = .ok (.aload_n 3, 1) := by decide +kernel
theorem dX11_cast_30 : decode cX11_cast 30 = .ok (.iload_n 2, 1) := by decide +kernel
theorem dX11_cast_31 : decode cX11_cast 31 = .ok (.invokevirtual 276, 3) := by decide +kernel
theorem dX11_cast_34 : decode cX11_cast 34 = .ok (.ifCond .eq 17, 3) := by decide +kernel
theorem dX11_cast_37 : decode cX11_cast 37 = .ok (.aload_n 0, 1) := by decide +kernel
theorem dX11_cast_38 : decode cX11_cast 38 = .ok (.getfield 10, 3) := by decide +kernel
theorem dX11_cast_41 : decode cX11_cast 41 = .ok (.getfield 133, 3) := by decide +kernel
theorem dX11_cast_44 : decode cX11_cast 44 = .ok (.aload_n 3, 1) := by decide +kernel
theorem dX11_cast_45 : decode cX11_cast 45 = .ok (.invokevirtual 279, 3) := by decide +kernel
theorem dX11_cast_48 : decode cX11_cast 48 = .ok (.goto 5, 3) := by decide +kernel
theorem dX11_cast_51 : decode cX11_cast 51 = .ok (.bipush (-13), 2) := by decide +kernel
theorem dX11_cast_53 : decode cX11_cast 53 = .ok (.ireturn, 1) := by decide +kernel
theorem cm_X11_cast : CM yX11_cast cX11_cast 4 (some .int) 2 11 := ⟨w_1015, w_1016, w_1017, w_87, ⟨by decide +kernel, by decide +kernel, by decide +kernel⟩, ⟨_, _, rfl⟩, by decide⟩
noncomputable def f_X11_cast_27 (n : Nat)  (h : MM) : RR :=
  some ((-1), h)
noncomputable def f_X11_cast_53 (n : Nat)  (s0 : Int) (h : MM) : RR :=
  some (s0, h)
noncomputable def f_X11_cast (n : Nat) (v0 v1 v2 : Int) (h : MM) : RR :=
  gf h v0 11 0 fun r1 =>
  gf h r1 10 1 fun r2 =>
  gk h r2 5 <|
  bd (f_X5_get n r2 v1 h) fun r3 h3 =>
  if r3 = 0 then
    f_X11_cast_27 n h3
  else
  bd (f_X11_within n v2 0 6 h3) fun r5 h5 =>
  if r5 = 0 then
    f_X11_cast_27 n h5
  else
  gk h5 r3 4 <|
  bd (f_X4_isUnder n r3 v2 h5) fun r7 h7 =>
  if r7 = 0 then
    f_X11_cast_53 n ((-13)) h7
  else
  gf h7 v0 11 0 fun r9 =>
  gf h7 r9 10 1 fun r10 =>
  gk h7 r10 5 <|
  bd (f_X5_worthOf n r10 r3 h7) fun r11 h11 =>
  f_X11_cast_53 n r11 h11
set_option maxRecDepth 20000 in
theorem b_X11_cast_27 {g : GT} {Z : Int × MM} {n : Nat} (C : Cx g cX11_cast 4 yX11_cast 4 87) (hr : Rt g (some .int) 0 Z)     {h : MM} (hf : f_X11_cast_27 n   h = some Z) : G g 27 [(3, 0), (3, 0), (3, 0), (3, 0)] [] h := by
  unfold f_X11_cast_27 at hf
  refine r_iconst C dX11_cast_27 ?_
  cases hf
  exact r_jret C hr dX11_cast_28 (in32_of rfl)
set_option maxRecDepth 20000 in
theorem b_X11_cast_53 {g : GT} {Z : Int × MM} {n : Nat} (C : Cx g cX11_cast 4 yX11_cast 4 87) (hr : Rt g (some .int) 0 Z) {s0 : Int}    (cs0 : in32 s0) {h : MM} (hf : f_X11_cast_53 n  s0 h = some Z) : G g 53 [(3, 0), (3, 0), (3, 0), (3, 0)] [(0, s0)] h := by
  unfold f_X11_cast_53 at hf
  cases hf
  exact r_jret C hr dX11_cast_53 cs0
set_option maxRecDepth 20000 in
theorem e_X11_cast {g : GT} {Z : Int × MM} {n : Nat} (C : Cx g cX11_cast 4 yX11_cast 4 87) (hr : Rt g (some .int) 0 Z) {v0 v1 v2 : Int} (cv0 : cK 2 v0) (cv1 : cK 0 v1) (cv2 : cK 0 v2) {h : MM} (hf : f_X11_cast n v0 v1 v2 h = some Z) : G g 0 [(2, v0), (0, v1), (0, v2), (3, 0)] [] h := by
  have cv1 : in32 v1 := cv1
  have cv2 : in32 v2 := cv2
  unfold f_X11_cast at hf
  refine r_aload_n C dX11_cast_0 rfl ?_
  obtain ⟨q1, hf⟩ := gf_s hf
  refine r_gf C ct11 (j := 0) (ji := 0) dX11_cast_1 q1 rfl rfl (by decide) w_440 rfl (fun c1 => ?_)
  obtain ⟨q2, hf⟩ := gf_s hf
  refine r_gf C ct10 (j := 1) (ji := 1) dX11_cast_4 q2 rfl rfl (by decide) w_302 rfl (fun c2 => ?_)
  refine r_iload_n C dX11_cast_7 rfl ?_
  obtain ⟨p3, hf⟩ := gk_s hf
  obtain ⟨r3, h3, hq3, hf⟩ := bd_s hf
  refine r_cV1 C (am_X5_get (gl g) n) cm_X5_get w_1018 dX11_cast_8 ⟨Nat.le_of_ble_eq_true rfl, Nat.le_of_ble_eq_true rfl⟩ p3 rfl cv1 rfl (Nat.le_of_ble_eq_true rfl) hq3 (by decide) (fun c3 => ?_)
  refine r_astore_n C dX11_cast_11 (Nat.le_of_ble_eq_true rfl) rfl ?_
  refine r_aload_n C dX11_cast_12 rfl ?_
  refine r_ifnull C dX11_cast_13 (tgt := 27) (by decide) (fun n4 => ?_) (fun n4 => ?_)
  · have hf := ite_p n4 hf
    exact G.mask [false, false, false, false] rfl rfl (b_X11_cast_27 C hr   hf)
  · have hf := ite_n n4 hf
    refine r_iload_n C dX11_cast_16 rfl ?_
    refine r_i2l C dX11_cast_17 cv2 ?_
    refine r_iconst C dX11_cast_18 ?_
    refine r_bipush C dX11_cast_19 rfl ?_
    obtain ⟨r5, h5, hq5, hf⟩ := bd_s hf
    refine r_cS3 C (am_X11_within (gl g) n) cm_X11_within w_466 dX11_cast_21 ⟨Nat.le_of_ble_eq_true rfl, Nat.le_of_ble_eq_true rfl⟩ (in64_i cv2) (in32_of rfl) (in32_of rfl) rfl (Nat.le_of_ble_eq_true rfl) hq5 (by decide) (fun c5 => ?_)
    have c5 : in32 _ := c5
    refine r_if_ne C dX11_cast_24 (tgt := 29) (by decide) c5 (fun n6 => ?_) (fun n6 => ?_)
    · have hf := ite_n n6 hf
      refine r_aload_n C dX11_cast_29 rfl ?_
      refine r_iload_n C dX11_cast_30 rfl ?_
      obtain ⟨p7, hf⟩ := gk_s hf
      obtain ⟨r7, h7, hq7, hf⟩ := bd_s hf
      refine r_cV1 C (am_X4_isUnder (gl g) n) cm_X4_isUnder w_1019 dX11_cast_31 ⟨Nat.le_of_ble_eq_true rfl, Nat.le_of_ble_eq_true rfl⟩ p7 rfl cv2 rfl (Nat.le_of_ble_eq_true rfl) hq7 (by decide) (fun c7 => ?_)
      have c7 : in32 _ := c7
      refine r_if_eq C dX11_cast_34 (tgt := 51) (by decide) c7 (fun n8 => ?_) (fun n8 => ?_)
      · have hf := ite_p n8 hf
        refine r_bipush C dX11_cast_51 rfl ?_
        exact G.mask [false, false, false, false] rfl rfl (b_X11_cast_53 C hr  (in32_of rfl) hf)
      · have hf := ite_n n8 hf
        refine r_aload_n C dX11_cast_37 rfl ?_
        obtain ⟨q9, hf⟩ := gf_s hf
        refine r_gf C ct11 (j := 0) (ji := 0) dX11_cast_38 q9 rfl rfl (by decide) w_440 rfl (fun c9 => ?_)
        obtain ⟨q10, hf⟩ := gf_s hf
        refine r_gf C ct10 (j := 1) (ji := 1) dX11_cast_41 q10 rfl rfl (by decide) w_302 rfl (fun c10 => ?_)
        refine r_aload_n C dX11_cast_44 rfl ?_
        obtain ⟨p11, hf⟩ := gk_s hf
        obtain ⟨r11, h11, hq11, hf⟩ := bd_s hf
        refine r_cV1 C (am_X5_worthOf (gl g) n) cm_X5_worthOf w_1025 dX11_cast_45 ⟨Nat.le_of_ble_eq_true rfl, Nat.le_of_ble_eq_true rfl⟩ p11 rfl trivial rfl (Nat.le_of_ble_eq_true rfl) hq11 (by decide) (fun c11 => ?_)
        have c11 : in32 _ := c11
        refine r_goto C dX11_cast_48 (tgt := 53) (by decide) ?_
        exact G.mask [false, false, false, false] rfl rfl (b_X11_cast_53 C hr  c11 hf)
    · have hf := ite_p n6 hf
      exact G.mask [false, false, false, false] rfl rfl (b_X11_cast_27 C hr   hf)
set_option maxRecDepth 20000 in
theorem am_X11_cast (l : Launch) (n : Nat) : AM l yX11_cast cX11_cast 4 (some .int) 4 87 [2, 0, 0] 0 (un3 (f_X11_cast n)) := by
  refine AM.intro (by decide) (fun xs hx => ?_) (fun g xs h Z hl C hr hx hf => ?_)
  · obtain ⟨a0, a1, a2, rfl, c0, c1, c2⟩ := canL_3 hx
    exact Nat.le_of_ble_eq_true rfl
  · obtain ⟨a0, a1, a2, rfl, c0, c1, c2⟩ := canL_3 hx
    have hf := (un3_e _ a0 a1 a2 _).symm.trans hf
    exact e_X11_cast (n := n) C hr c0 c1 c2 hf
/-! LinesPromised.about(II)I -/
theorem dX11_about_0 : decode cX11_about 0 = .ok (.aload_n 0, 1) := by decide +kernel
theorem dX11_about_1 : decode cX11_about 1 = .ok (.getfield 10, 3) := by decide +kernel
theorem dX11_about_4 : decode cX11_about 4 = .ok (.getfield 133, 3) := by decide +kernel
theorem dX11_about_7 : decode cX11_about 7 = .ok (.iload_n 1, 1) := by decide +kernel
theorem dX11_about_8 : decode cX11_about 8 = .ok (.invokevirtual 272, 3) := by decide +kernel
theorem dX11_about_11 : decode cX11_about 11 = .ok (.astore_n 3, 1) := by decide +kernel
theorem dX11_about_12 : decode cX11_about 12 = .ok (.aload_n 3, 1) := by decide +kernel
theorem dX11_about_13 : decode cX11_about 13 = .ok (.ifnonnull 5, 3) := by decide +kernel
theorem dX11_about_16 : decode cX11_about 16 = .ok (.iconst (-1), 1) := by decide +kernel
theorem dX11_about_17 : decode cX11_about 17 = .ok (.ireturn, 1) := by decide +kernel
theorem dX11_about_18 : decode cX11_about 18 = .ok (.iload_n 2, 1) := by decide +kernel
theorem dX11_about_19 : decode cX11_about 19 = .ok (.tableswitch 100 0 7 #[45, 50, 55, 60, 65, 70, 75, 80], 45) := by decide +kernel
theorem dX11_about_64 : decode cX11_about 64 = .ok (.aload_n 3, 1) := by decide +kernel
theorem dX11_about_65 : decode cX11_about 65 = .ok (.getfield 282, 3) := by decide +kernel
theorem dX11_about_68 : decode cX11_about 68 = .ok (.ireturn, 1) := by decide +kernel
theorem dX11_about_69 : decode cX11_about 69 = .ok (.aload_n 3, 1) := by decide +kernel
theorem dX11_about_70 : decode cX11_about 70 = .ok (.getfield 285, 3) := by decide +kernel
theorem dX11_about_73 : decode cX11_about 73 = .ok (.ireturn, 1) := by decide +kernel
theorem dX11_about_74 : decode cX11_about 74 = .ok (.aload_n 3, 1) := by decide +kernel
theorem dX11_about_75 : decode cX11_about 75 = .ok (.getfield 288, 3) := by decide +kernel
theorem dX11_about_78 : decode cX11_about 78 = .ok (.ireturn, 1) := by decide +kernel
theorem dX11_about_79 : decode cX11_about 79 = .ok (.aload_n 3, 1) := by decide +kernel
theorem dX11_about_80 : decode cX11_about 80 = .ok (.getfield 239, 3) := by decide +kernel
theorem dX11_about_83 : decode cX11_about 83 = .ok (.ireturn, 1) := by decide +kernel
theorem dX11_about_84 : decode cX11_about 84 = .ok (.aload_n 3, 1) := by decide +kernel
theorem dX11_about_85 : decode cX11_about 85 = .ok (.getfield 242, 3) := by decide +kernel
theorem dX11_about_88 : decode cX11_about 88 = .ok (.ireturn, 1) := by decide +kernel
theorem dX11_about_89 : decode cX11_about 89 = .ok (.aload_n 3, 1) := by decide +kernel
theorem dX11_about_90 : decode cX11_about 90 = .ok (.getfield 245, 3) := by decide +kernel
theorem dX11_about_93 : decode cX11_about 93 = .ok (.ireturn, 1) := by decide +kernel
theorem dX11_about_94 : decode cX11_about 94 = .ok (.aload_n 3, 1) := by decide +kernel
theorem dX11_about_95 : decode cX11_about 95 = .ok (.getfield 291, 3) := by decide +kernel
theorem dX11_about_98 : decode cX11_about 98 = .ok (.ireturn, 1) := by decide +kernel
theorem dX11_about_99 : decode cX11_about 99 = .ok (.aload_n 0, 1) := by decide +kernel
theorem dX11_about_100 : decode cX11_about 100 = .ok (.getfield 10, 3) := by decide +kernel
theorem dX11_about_103 : decode cX11_about 103 = .ok (.getfield 133, 3) := by decide +kernel
theorem dX11_about_106 : decode cX11_about 106 = .ok (.iload_n 1, 1) := by decide +kernel
theorem dX11_about_107 : decode cX11_about 107 = .ok (.invokevirtual 256, 3) := by decide +kernel
theorem dX11_about_110 : decode cX11_about 110 = .ok (.ifCond .eq 7, 3) := by decide +kernel
theorem dX11_about_113 : decode cX11_about 113 = .ok (.iconst 1, 1) := by decide +kernel
theorem dX11_about_114 : decode cX11_about 114 = .ok (.goto 4, 3) := by decide +kernel
theorem dX11_about_117 : decode cX11_about 117 = .ok (.iconst 0, 1) := by decide +kernel
theorem dX11_about_118 : decode cX11_about 118 = .ok (.ireturn, 1) := by decide +kernel
theorem dX11_about_119 : decode cX11_about 119 = .ok (.iconst (-1), 1) := by decide +kernel
theorem dX11_about_120 : decode cX11_about 120 = .ok (.ireturn, 1) := by decide +kernel
theorem cm_X11_about : CM yX11_about cX11_about 4 (some .int) 2 11 := ⟨w_1037, w_1038, w_1039, w_87, ⟨by decide +kernel, by decide +kernel, by decide +kernel⟩, ⟨_, _, rfl⟩, by decide⟩
noncomputable def f_X11_about_118 (n : Nat)  (s0 : Int) (h : MM) : RR :=
  some (s0, h)
noncomputable def f_X11_about (n : Nat) (v0 v1 v2 : Int) (h : MM) : RR :=
  gf h v0 11 0 fun r1 =>
  gf h r1 10 1 fun r2 =>
  gk h r2 5 <|
  bd (f_X5_get n r2 v1 h) fun r3 h3 =>
  if r3 = 0 then
    some ((-1), h3)
  else
  if v2 = 0 then
    gf h3 r3 4 0 fun r6 =>
    some (r6, h3)
  else
  if v2 = 1 then
    gf h3 r3 4 1 fun r8 =>
    some (r8, h3)
  else
  if v2 = 2 then
    gf h3 r3 4 2 fun r10 =>
    some (r10, h3)
  else
  if v2 = 3 then
    gf h3 r3 4 5 fun r12 =>
    some (r12, h3)
  else
  if v2 = 4 then
    gf h3 r3 4 6 fun r14 =>
    some (r14, h3)
  else
  if v2 = 5 then
    gf h3 r3 4 7 fun r16 =>
    some (r16, h3)
  else
  if v2 = 6 then
    gf h3 r3 4 8 fun r18 =>
    some (r18, h3)
  else
  if v2 = 7 then
    gf h3 v0 11 0 fun r20 =>
    gf h3 r20 10 1 fun r21 =>
    gk h3 r21 5 <|
    bd (f_X5_isMarked n r21 v1 h3) fun r22 h22 =>
    if r22 = 0 then
      f_X11_about_118 n 0 h22
    else
    f_X11_about_118 n 1 h22
  else
  some ((-1), h3)
set_option maxRecDepth 20000 in
theorem b_X11_about_118 {g : GT} {Z : Int × MM} {n : Nat} (C : Cx g cX11_about 4 yX11_about 2 44) (hr : Rt g (some .int) 0 Z) {s0 : Int}    (cs0 : in32 s0) {h : MM} (hf : f_X11_about_118 n  s0 h = some Z) : G g 118 [(3, 0), (3, 0), (3, 0), (3, 0)] [(0, s0)] h := by
  unfold f_X11_about_118 at hf
  cases hf
  exact r_jret C hr dX11_about_118 cs0
set_option maxRecDepth 20000 in
theorem e_X11_about {g : GT} {Z : Int × MM} {n : Nat} (C : Cx g cX11_about 4 yX11_about 2 44) (hr : Rt g (some .int) 0 Z) {v0 v1 v2 : Int} (cv0 : cK 2 v0) (cv1 : cK 0 v1) (cv2 : cK 0 v2) {h : MM} (hf : f_X11_about n v0 v1 v2 h = some Z) : G g 0 [(2, v0), (0, v1), (0, v2), (3, 0)] [] h := by
  have cv1 : in32 v1 := cv1
  have cv2 : in32 v2 := cv2
  unfold f_X11_about at hf
  refine r_aload_n C dX11_about_0 rfl ?_
  obtain ⟨q1, hf⟩ := gf_s hf
  refine r_gf C ct11 (j := 0) (ji := 0) dX11_about_1 q1 rfl rfl (by decide) w_440 rfl (fun c1 => ?_)
  obtain ⟨q2, hf⟩ := gf_s hf
  refine r_gf C ct10 (j := 1) (ji := 1) dX11_about_4 q2 rfl rfl (by decide) w_302 rfl (fun c2 => ?_)
  refine r_iload_n C dX11_about_7 rfl ?_
  obtain ⟨p3, hf⟩ := gk_s hf
  obtain ⟨r3, h3, hq3, hf⟩ := bd_s hf
  refine r_cV1 C (am_X5_get (gl g) n) cm_X5_get w_1018 dX11_about_8 ⟨Nat.le_of_ble_eq_true rfl, Nat.le_of_ble_eq_true rfl⟩ p3 rfl cv1 rfl (Nat.le_of_ble_eq_true rfl) hq3 (by decide) (fun c3 => ?_)
  refine r_astore_n C dX11_about_11 (Nat.le_of_ble_eq_true rfl) rfl ?_
  refine r_aload_n C dX11_about_12 rfl ?_
  refine r_ifnonnull C dX11_about_13 (tgt := 18) (by decide) (fun n4 => ?_) (fun n4 => ?_)
  · have hf := ite_n n4 hf
    refine r_iload_n C dX11_about_18 rfl ?_
    rcases ite_s hf with ⟨n5, hf⟩ | ⟨n5, hf⟩
    · refine r_tsw C dX11_about_19 (tgt := 64) cv2 n5 rfl rfl (by decide) ?_
      refine r_aload_n C dX11_about_64 rfl ?_
      obtain ⟨q6, hf⟩ := gf_s hf
      refine r_gf C ct4 (j := 0) (ji := 0) dX11_about_65 q6 rfl rfl (by decide) w_715 rfl (fun c6 => ?_)
      have c6 : in32 _ := c6
      cases hf
      exact r_jret C hr dX11_about_68 c6
    rcases ite_s hf with ⟨n7, hf⟩ | ⟨n7, hf⟩
    · refine r_tsw C dX11_about_19 (tgt := 69) cv2 n7 rfl rfl (by decide) ?_
      refine r_aload_n C dX11_about_69 rfl ?_
      obtain ⟨q8, hf⟩ := gf_s hf
      refine r_gf C ct4 (j := 1) (ji := 1) dX11_about_70 q8 rfl rfl (by decide) w_719 rfl (fun c8 => ?_)
      have c8 : in32 _ := c8
      cases hf
      exact r_jret C hr dX11_about_73 c8
    rcases ite_s hf with ⟨n9, hf⟩ | ⟨n9, hf⟩
    · refine r_tsw C dX11_about_19 (tgt := 74) cv2 n9 rfl rfl (by decide) ?_
      refine r_aload_n C dX11_about_74 rfl ?_
      obtain ⟨q10, hf⟩ := gf_s hf
      refine r_gf C ct4 (j := 2) (ji := 2) dX11_about_75 q10 rfl rfl (by decide) w_722 rfl (fun c10 => ?_)
      have c10 : in32 _ := c10
      cases hf
      exact r_jret C hr dX11_about_78 c10
    rcases ite_s hf with ⟨n11, hf⟩ | ⟨n11, hf⟩
    · refine r_tsw C dX11_about_19 (tgt := 79) cv2 n11 rfl rfl (by decide) ?_
      refine r_aload_n C dX11_about_79 rfl ?_
      obtain ⟨q12, hf⟩ := gf_s hf
      refine r_gf C ct4 (j := 5) (ji := 5) dX11_about_80 q12 rfl rfl (by decide) w_734 rfl (fun c12 => ?_)
      have c12 : in32 _ := c12
      cases hf
      exact r_jret C hr dX11_about_83 c12
    rcases ite_s hf with ⟨n13, hf⟩ | ⟨n13, hf⟩
    · refine r_tsw C dX11_about_19 (tgt := 84) cv2 n13 rfl rfl (by decide) ?_
      refine r_aload_n C dX11_about_84 rfl ?_
      obtain ⟨q14, hf⟩ := gf_s hf
      refine r_gf C ct4 (j := 6) (ji := 6) dX11_about_85 q14 rfl rfl (by decide) w_739 rfl (fun c14 => ?_)
      have c14 : in32 _ := c14
      cases hf
      exact r_jret C hr dX11_about_88 c14
    rcases ite_s hf with ⟨n15, hf⟩ | ⟨n15, hf⟩
    · refine r_tsw C dX11_about_19 (tgt := 89) cv2 n15 rfl rfl (by decide) ?_
      refine r_aload_n C dX11_about_89 rfl ?_
      obtain ⟨q16, hf⟩ := gf_s hf
      refine r_gf C ct4 (j := 7) (ji := 7) dX11_about_90 q16 rfl rfl (by decide) w_744 rfl (fun c16 => ?_)
      have c16 : in32 _ := c16
      cases hf
      exact r_jret C hr dX11_about_93 c16
    rcases ite_s hf with ⟨n17, hf⟩ | ⟨n17, hf⟩
    · refine r_tsw C dX11_about_19 (tgt := 94) cv2 n17 rfl rfl (by decide) ?_
      refine r_aload_n C dX11_about_94 rfl ?_
      obtain ⟨q18, hf⟩ := gf_s hf
      refine r_gf C ct4 (j := 8) (ji := 8) dX11_about_95 q18 rfl rfl (by decide) w_749 rfl (fun c18 => ?_)
      have c18 : in32 _ := c18
      cases hf
      exact r_jret C hr dX11_about_98 c18
    rcases ite_s hf with ⟨n19, hf⟩ | ⟨n19, hf⟩
    · refine r_tsw C dX11_about_19 (tgt := 99) cv2 n19 rfl rfl (by decide) ?_
      refine r_aload_n C dX11_about_99 rfl ?_
      obtain ⟨q20, hf⟩ := gf_s hf
      refine r_gf C ct11 (j := 0) (ji := 0) dX11_about_100 q20 rfl rfl (by decide) w_440 rfl (fun c20 => ?_)
      obtain ⟨q21, hf⟩ := gf_s hf
      refine r_gf C ct10 (j := 1) (ji := 1) dX11_about_103 q21 rfl rfl (by decide) w_302 rfl (fun c21 => ?_)
      refine r_iload_n C dX11_about_106 rfl ?_
      obtain ⟨p22, hf⟩ := gk_s hf
      obtain ⟨r22, h22, hq22, hf⟩ := bd_s hf
      refine r_cV1 C (am_X5_isMarked (gl g) n) cm_X5_isMarked w_993 dX11_about_107 ⟨Nat.le_of_ble_eq_true rfl, Nat.le_of_ble_eq_true rfl⟩ p22 rfl cv1 rfl (Nat.le_of_ble_eq_true rfl) hq22 (by decide) (fun c22 => ?_)
      have c22 : in32 _ := c22
      refine r_if_eq C dX11_about_110 (tgt := 117) (by decide) c22 (fun n23 => ?_) (fun n23 => ?_)
      · have hf := ite_p n23 hf
        refine r_iconst C dX11_about_117 ?_
        exact G.mask [false, false, false, false] rfl rfl (b_X11_about_118 C hr  (in32_of rfl) hf)
      · have hf := ite_n n23 hf
        refine r_iconst C dX11_about_113 ?_
        refine r_goto C dX11_about_114 (tgt := 118) (by decide) ?_
        exact G.mask [false, false, false, false] rfl rfl (b_X11_about_118 C hr  (in32_of rfl) hf)
    refine r_tswd C dX11_about_19 (tgt := 119) cv2 (by omega) (by decide) ?_
    refine r_iconst C dX11_about_119 ?_
    cases hf
    exact r_jret C hr dX11_about_120 (in32_of rfl)
  · have hf := ite_p n4 hf
    refine r_iconst C dX11_about_16 ?_
    cases hf
    exact r_jret C hr dX11_about_17 (in32_of rfl)
set_option maxRecDepth 20000 in
theorem am_X11_about (l : Launch) (n : Nat) : AM l yX11_about cX11_about 4 (some .int) 2 44 [2, 0, 0] 0 (un3 (f_X11_about n)) := by
  refine AM.intro (by decide) (fun xs hx => ?_) (fun g xs h Z hl C hr hx hf => ?_)
  · obtain ⟨a0, a1, a2, rfl, c0, c1, c2⟩ := canL_3 hx
    exact Nat.le_of_ble_eq_true rfl
  · obtain ⟨a0, a1, a2, rfl, c0, c1, c2⟩ := canL_3 hx
    have hf := (un3_e _ a0 a1 a2 _).symm.trans hf
    exact e_X11_about (n := n) C hr c0 c1 c2 hf
/-! LinesPromised$Papers.vote(IIZ)I -/
theorem dX5_vote_0 : decode cX5_vote 0 = .ok (.iload_n 3, 1) := by decide +kernel
theorem dX5_vote_1 : decode cX5_vote 1 = .ok (.ifCond .eq 10, 3) := by decide +kernel
theorem dX5_vote_4 : decode cX5_vote 4 = .ok (.aload_n 0, 1) := by decide +kernel
theorem dX5_vote_5 : decode cX5_vote 5 = .ok (.getfield 28, 3) := by decide +kernel
theorem dX5_vote_8 : decode cX5_vote 8 = .ok (.goto 7, 3) := by decide +kernel
theorem dX5_vote_11 : decode cX5_vote 11 = .ok (.aload_n 0, 1) := by decide +kernel
theorem dX5_vote_12 : decode cX5_vote 12 = .ok (.getfield 31, 3) := by decide +kernel
theorem dX5_vote_15 : decode cX5_vote 15 = .ok (.astore 4, 2) := by decide +kernel
theorem dX5_vote_17 : decode cX5_vote 17 = .ok (.aload 4, 2) := by decide +kernel
theorem dX5_vote_19 : decode cX5_vote 19 = .ok (.iload_n 2, 1) := by decide +kernel
theorem dX5_vote_20 : decode cX5_vote 20 = .ok (.dup2, 1) := by decide +kernel
theorem dX5_vote_21 : decode cX5_vote 21 = .ok (.iaload, 1) := by decide +kernel
theorem dX5_vote_22 : decode cX5_vote 22 = .ok (.iconst 1, 1) := by decide +kernel
theorem dX5_vote_23 : decode cX5_vote 23 = .ok (.iload_n 1, 1) := by decide +kernel
theorem dX5_vote_24 : decode cX5_vote 24 = .ok (.ishl, 1) := by decide +kernel
theorem dX5_vote_25 : decode cX5_vote 25 = .ok (.ior, 1) := by decide +kernel
theorem dX5_vote_26 : decode cX5_vote 26 = .ok (.iastore, 1) := by decide +kernel
theorem dX5_vote_27 : decode cX5_vote 27 = .ok (.aload_n 0, 1) := by decide +kernel
theorem dX5_vote_28 : decode cX5_vote 28 = .ok (.dup, 1) := by decide +kernel
theorem dX5_vote_29 : decode cX5_vote 29 = .ok (.getfield 51, 3) := by decide +kernel
theorem dX5_vote_32 : decode cX5_vote 32 = .ok (.iconst 1, 1) := by decide +kernel
theorem dX5_vote_33 : decode cX5_vote 33 = .ok (.iadd, 1) := by decide +kernel
theorem dX5_vote_34 : decode cX5_vote 34 = .ok (.putfield 51, 3) := by decide +kernel
theorem dX5_vote_37 : decode cX5_vote 37 = .ok (.aload_n 0, 1) := by decide +kernel
theorem dX5_vote_38 : decode cX5_vote 38 = .ok (.getfield 51, 3) := by decide +kernel
theorem dX5_vote_41 : decode cX5_vote 41 = .ok (.ireturn, 1) := by decide +kernel
theorem cm_X5_vote : CM yX5_vote cX5_vote 5 (some .int) 3 5 := ⟨w_1045, w_1046, w_1047, w_90, ⟨by decide +kernel, by decide +kernel, by decide +kernel⟩, ⟨_, _, rfl⟩, by decide⟩
noncomputable def f_X5_vote_15 (n : Nat)  (v0 v1 v2 s0 : Int) (h : MM) : RR :=
  rd h s0 100 v2 fun r1 =>
  wt h s0 100 v2 (bor r1 (shl 1 v1)) fun h2 =>
  gf h2 v0 5 9 fun r3 =>
  pf h2 v0 5 9 (wr (r3 + 1)) fun h4 =>
  gf h4 v0 5 9 fun r5 =>
  some (r5, h4)
noncomputable def f_X5_vote (n : Nat) (v0 v1 v2 v3 : Int) (h : MM) : RR :=
  if v3 = 0 then
    gf h v0 5 5 fun r2 =>
    f_X5_vote_15 n v0 v1 v2 r2 h
  else
  gf h v0 5 4 fun r3 =>
  f_X5_vote_15 n v0 v1 v2 r3 h
set_option maxRecDepth 20000 in
theorem b_X5_vote_15 {g : GT} {Z : Int × MM} {n : Nat} (C : Cx g cX5_vote 5 yX5_vote 0 0) (hr : Rt g (some .int) 0 Z) {v0 v1 v2 s0 : Int}    (cv1 : in32 v1) (cv2 : in32 v2) {h : MM} (hf : f_X5_vote_15 n  v0 v1 v2 s0 h = some Z) : G g 15 [(2, v0), (0, v1), (0, v2), (3, 0), (3, 0)] [(2, s0)] h := by
  unfold f_X5_vote_15 at hf
  refine r_astore C dX5_vote_15 (Nat.le_of_ble_eq_true rfl) rfl ?_
  refine r_aload C dX5_vote_17 rfl ?_
  refine r_iload_n C dX5_vote_19 rfl ?_
  refine r_dup2 C dX5_vote_20 (by decide) (by decide) ?_
  obtain ⟨q1, hf⟩ := rd_s hf
  refine r_iald C dX5_vote_21 q1 rfl (fun c1 => ?_)
  refine r_iconst C dX5_vote_22 ?_
  refine r_iload_n C dX5_vote_23 rfl ?_
  refine r_ishl C dX5_vote_24 ?_
  refine r_ior C dX5_vote_25 ?_
  obtain ⟨q2, hf⟩ := wt_s hf
  refine r_iast C dX5_vote_26 q2 rfl (in32_t _) ?_
  refine r_aload_n C dX5_vote_27 rfl ?_
  refine r_dup C dX5_vote_28 (by decide) ?_
  obtain ⟨q3, hf⟩ := gf_s hf
  refine r_gf C ct5 (j := 9) (ji := 9) dX5_vote_29 q3 rfl rfl (by decide) w_184 rfl (fun c3 => ?_)
  have c3 : in32 _ := c3
  refine r_iconst C dX5_vote_32 ?_
  refine r_iadd C dX5_vote_33 ?_
  obtain ⟨q4, hf⟩ := pf_s hf
  refine r_pf C ct5 (j := 9) (ji := 9) dX5_vote_34 q4 rfl rfl (by decide) w_184 rfl (Or.inl rfl) nar_int (in32_t _) ?_
  refine r_aload_n C dX5_vote_37 rfl ?_
  obtain ⟨q5, hf⟩ := gf_s hf
  refine r_gf C ct5 (j := 9) (ji := 9) dX5_vote_38 q5 rfl rfl (by decide) w_184 rfl (fun c5 => ?_)
  have c5 : in32 _ := c5
  cases hf
  exact r_jret C hr dX5_vote_41 c5
set_option maxRecDepth 20000 in
theorem e_X5_vote {g : GT} {Z : Int × MM} {n : Nat} (C : Cx g cX5_vote 5 yX5_vote 0 0) (hr : Rt g (some .int) 0 Z) {v0 v1 v2 v3 : Int} (cv0 : cK 2 v0) (cv1 : cK 0 v1) (cv2 : cK 0 v2) (cv3 : cK 0 v3) {h : MM} (hf : f_X5_vote n v0 v1 v2 v3 h = some Z) : G g 0 [(2, v0), (0, v1), (0, v2), (0, v3), (3, 0)] [] h := by
  have cv1 : in32 v1 := cv1
  have cv2 : in32 v2 := cv2
  have cv3 : in32 v3 := cv3
  unfold f_X5_vote at hf
  refine r_iload_n C dX5_vote_0 rfl ?_
  refine r_if_eq C dX5_vote_1 (tgt := 11) (by decide) cv3 (fun n1 => ?_) (fun n1 => ?_)
  · have hf := ite_p n1 hf
    refine r_aload_n C dX5_vote_11 rfl ?_
    obtain ⟨q2, hf⟩ := gf_s hf
    refine r_gf C ct5 (j := 5) (ji := 5) dX5_vote_12 q2 rfl rfl (by decide) w_175 rfl (fun c2 => ?_)
    exact G.mask [true, true, true, false, false] rfl rfl (b_X5_vote_15 C hr  cv1 cv2 hf)
  · have hf := ite_n n1 hf
    refine r_aload_n C dX5_vote_4 rfl ?_
    obtain ⟨q3, hf⟩ := gf_s hf
    refine r_gf C ct5 (j := 4) (ji := 4) dX5_vote_5 q3 rfl rfl (by decide) w_174 rfl (fun c3 => ?_)
    refine r_goto C dX5_vote_8 (tgt := 15) (by decide) ?_
    exact G.mask [true, true, true, false, false] rfl rfl (b_X5_vote_15 C hr  cv1 cv2 hf)
set_option maxRecDepth 20000 in
theorem am_X5_vote (l : Launch) (n : Nat) : AM l yX5_vote cX5_vote 5 (some .int) 0 0 [2, 0, 0, 0] 0 (un4 (f_X5_vote n)) := by
  refine AM.intro (by decide) (fun xs hx => ?_) (fun g xs h Z hl C hr hx hf => ?_)
  · obtain ⟨a0, a1, a2, a3, rfl, c0, c1, c2, c3⟩ := canL_4 hx
    exact Nat.le_of_ble_eq_true rfl
  · obtain ⟨a0, a1, a2, a3, rfl, c0, c1, c2, c3⟩ := canL_4 hx
    have hf := (un4_e _ a0 a1 a2 a3 _).symm.trans hf
    exact e_X5_vote (n := n) C hr c0 c1 c2 c3 hf
/-! LinesPromised.board(IIZ)I -/
theorem dX11_board_0 : decode cX11_board 0 = .ok (.iload_n 1, 1) := by decide +kernel
theorem dX11_board_1 : decode cX11_board 1 = .ok (.invokestatic 74, 3) := by decide +kernel
theorem dX11_board_4 : decode cX11_board 4 = .ok (.ifCond .eq 18, 3) := by decide +kernel
theorem dX11_board_7 : decode cX11_board 7 = .ok (.aload_n 0, 1) := by decide +kernel
theorem dX11_board_8 : decode cX11_board 8 = .ok (.getfield 10, 3) := by decide +kernel
theorem dX11_board_11 : decode cX11_board 11 = .ok (.getfield 133, 3) := by decide +kernel
theorem dX11_board_14 : decode cX11_board 14 = .ok (.iload_n 2, 1) := by decide +kernel
theorem dX11_board_15 : decode cX11_board 15 = .ok (.iconst 3, 1) := by decide +kernel
theorem dX11_board_16 : decode cX11_board 16 = .ok (.invokevirtual 172, 3) := by decide +kernel
theorem dX11_board_19 : decode cX11_board 19 = .ok (.ifnonnull 5, 3) := by decide +kernel
theorem dX11_board_22 : decode cX11_board 22 = .ok (.iconst (-1), 1) := by decide +kernel
theorem dX11_board_23 : decode cX11_board 23 = .ok (.ireturn, 1) := by decide +kernel
theorem dX11_board_24 : decode cX11_board 24 = .ok (.aload_n 0, 1) := by decide +kernel
theorem dX11_board_25 : decode cX11_board 25 = .ok (.getfield 10, 3) := by decide +kernel
theorem dX11_board_28 : decode cX11_board 28 = .ok (.getfield 133, 3) := by decide +kernel
theorem dX11_board_31 : decode cX11_board 31 = .ok (.getfield 294, 3) := by decide +kernel
theorem dX11_board_34 : decode cX11_board 34 = .ok (.bipush 60, 2) := by decide +kernel
theorem dX11_board_36 : decode cX11_board 36 = .ok (.if_icmp .lt 6, 3) := by decide +kernel
theorem dX11_board_39 : decode cX11_board 39 = .ok (.bipush (-4), 2) := by decide +kernel
theorem dX11_board_41 : decode cX11_board 41 = .ok (.ireturn, 1) := by decide +kernel
theorem dX11_board_42 : decode cX11_board 42 = .ok (.aload_n 0, 1) := by decide +kernel
theorem dX11_board_43 : decode cX11_board 43 = .ok (.getfield 10, 3) := by decide +kernel
theorem dX11_board_46 : decode cX11_board 46 = .ok (.getfield 133, 3) := by decide +kernel
theorem dX11_board_49 : decode cX11_board 49 = .ok (.iload_n 1, 1) := by decide +kernel
theorem dX11_board_50 : decode cX11_board 50 = .ok (.iload_n 2, 1) := by decide +kernel
theorem dX11_board_51 : decode cX11_board 51 = .ok (.iload_n 3, 1) := by decide +kernel
theorem dX11_board_52 : decode cX11_board 52 = .ok (.invokevirtual 297, 3) := by decide +kernel
theorem dX11_board_55 : decode cX11_board 55 = .ok (.ireturn, 1) := by decide +kernel
theorem cm_X11_board : CM yX11_board cX11_board 4 (some .int) 3 11 := ⟨w_1041, w_1042, w_1043, w_87, ⟨by decide +kernel, by decide +kernel, by decide +kernel⟩, ⟨_, _, rfl⟩, by decide⟩
noncomputable def f_X11_board_22 (n : Nat)  (h : MM) : RR :=
  some ((-1), h)
noncomputable def f_X11_board (n : Nat) (v0 v1 v2 v3 : Int) (h : MM) : RR :=
  bd (f_X11_isHolder n v1 h) fun r1 h1 =>
  if r1 = 0 then
    f_X11_board_22 n h1
  else
  gf h1 v0 11 0 fun r3 =>
  gf h1 r3 10 1 fun r4 =>
  gk h1 r4 5 <|
  bd (f_X5_find n r4 v2 3 h1) fun r5 h5 =>
  if r5 = 0 then
    f_X11_board_22 n h5
  else
  gf h5 v0 11 0 fun r7 =>
  gf h5 r7 10 1 fun r8 =>
  gf h5 r8 5 9 fun r9 =>
  if r9 < 60 then
    gf h5 v0 11 0 fun r11 =>
    gf h5 r11 10 1 fun r12 =>
    gk h5 r12 5 <|
    bd (f_X5_vote n r12 v1 v2 v3 h5) fun r13 h13 =>
    some (r13, h13)
  else
  some ((-4), h5)
set_option maxRecDepth 20000 in
theorem b_X11_board_22 {g : GT} {Z : Int × MM} {n : Nat} (C : Cx g cX11_board 4 yX11_board 3 67) (hr : Rt g (some .int) 0 Z)     {h : MM} (hf : f_X11_board_22 n   h = some Z) : G g 22 [(3, 0), (3, 0), (3, 0), (3, 0)] [] h := by
  unfold f_X11_board_22 at hf
  refine r_iconst C dX11_board_22 ?_
  cases hf
  exact r_jret C hr dX11_board_23 (in32_of rfl)
set_option maxRecDepth 20000 in
theorem e_X11_board {g : GT} {Z : Int × MM} {n : Nat} (C : Cx g cX11_board 4 yX11_board 3 67) (hr : Rt g (some .int) 0 Z) {v0 v1 v2 v3 : Int} (cv0 : cK 2 v0) (cv1 : cK 0 v1) (cv2 : cK 0 v2) (cv3 : cK 0 v3) {h : MM} (hf : f_X11_board n v0 v1 v2 v3 h = some Z) : G g 0 [(2, v0), (0, v1), (0, v2), (0, v3)] [] h := by
  have cv1 : in32 v1 := cv1
  have cv2 : in32 v2 := cv2
  have cv3 : in32 v3 := cv3
  unfold f_X11_board at hf
  refine r_iload_n C dX11_board_0 rfl ?_
  obtain ⟨r1, h1, hq1, hf⟩ := bd_s hf
  refine r_cS1 C (am_X11_isHolder (gl g) n) cm_X11_isHolder w_485 dX11_board_1 ⟨Nat.le_of_ble_eq_true rfl, Nat.le_of_ble_eq_true rfl⟩ cv1 rfl (Nat.le_of_ble_eq_true rfl) hq1 (by decide) (fun c1 => ?_)
  have c1 : in32 _ := c1
  refine r_if_eq C dX11_board_4 (tgt := 22) (by decide) c1 (fun n2 => ?_) (fun n2 => ?_)
  · have hf := ite_p n2 hf
    exact G.mask [false, false, false, false] rfl rfl (b_X11_board_22 C hr   hf)
  · have hf := ite_n n2 hf
    refine r_aload_n C dX11_board_7 rfl ?_
    obtain ⟨q3, hf⟩ := gf_s hf
    refine r_gf C ct11 (j := 0) (ji := 0) dX11_board_8 q3 rfl rfl (by decide) w_440 rfl (fun c3 => ?_)
    obtain ⟨q4, hf⟩ := gf_s hf
    refine r_gf C ct10 (j := 1) (ji := 1) dX11_board_11 q4 rfl rfl (by decide) w_302 rfl (fun c4 => ?_)
    refine r_iload_n C dX11_board_14 rfl ?_
    refine r_iconst C dX11_board_15 ?_
    obtain ⟨p5, hf⟩ := gk_s hf
    obtain ⟨r5, h5, hq5, hf⟩ := bd_s hf
    refine r_cV2 C (am_X5_find (gl g) n) cm_X5_find w_798 dX11_board_16 ⟨Nat.le_of_ble_eq_true rfl, Nat.le_of_ble_eq_true rfl⟩ p5 rfl cv2 (in32_of rfl) rfl (Nat.le_of_ble_eq_true rfl) hq5 (by decide) (fun c5 => ?_)
    refine r_ifnonnull C dX11_board_19 (tgt := 24) (by decide) (fun n6 => ?_) (fun n6 => ?_)
    · have hf := ite_n n6 hf
      refine r_aload_n C dX11_board_24 rfl ?_
      obtain ⟨q7, hf⟩ := gf_s hf
      refine r_gf C ct11 (j := 0) (ji := 0) dX11_board_25 q7 rfl rfl (by decide) w_440 rfl (fun c7 => ?_)
      obtain ⟨q8, hf⟩ := gf_s hf
      refine r_gf C ct10 (j := 1) (ji := 1) dX11_board_28 q8 rfl rfl (by decide) w_302 rfl (fun c8 => ?_)
      obtain ⟨q9, hf⟩ := gf_s hf
      refine r_gf C ct5 (j := 9) (ji := 9) dX11_board_31 q9 rfl rfl (by decide) w_185 rfl (fun c9 => ?_)
      have c9 : in32 _ := c9
      refine r_bipush C dX11_board_34 rfl ?_
      refine r_icmp_lt C dX11_board_36 (tgt := 42) (by decide) c9 (in32_of rfl) (fun n10 => ?_) (fun n10 => ?_)
      · have hf := ite_p n10 hf
        refine r_aload_n C dX11_board_42 rfl ?_
        obtain ⟨q11, hf⟩ := gf_s hf
        refine r_gf C ct11 (j := 0) (ji := 0) dX11_board_43 q11 rfl rfl (by decide) w_440 rfl (fun c11 => ?_)
        obtain ⟨q12, hf⟩ := gf_s hf
        refine r_gf C ct10 (j := 1) (ji := 1) dX11_board_46 q12 rfl rfl (by decide) w_302 rfl (fun c12 => ?_)
        refine r_iload_n C dX11_board_49 rfl ?_
        refine r_iload_n C dX11_board_50 rfl ?_
        refine r_iload_n C dX11_board_51 rfl ?_
        obtain ⟨p13, hf⟩ := gk_s hf
        obtain ⟨r13, h13, hq13, hf⟩ := bd_s hf
        refine r_cV3 C (am_X5_vote (gl g) n) cm_X5_vote w_1044 dX11_board_52 ⟨Nat.le_of_ble_eq_true rfl, Nat.le_of_ble_eq_true rfl⟩ p13 rfl cv1 cv2 cv3 rfl (Nat.le_of_ble_eq_true rfl) hq13 (by decide) (fun c13 => ?_)
        have c13 : in32 _ := c13
        cases hf
        exact r_jret C hr dX11_board_55 c13
      · have hf := ite_n n10 hf
        refine r_bipush C dX11_board_39 rfl ?_
        cases hf
        exact r_jret C hr dX11_board_41 (in32_of rfl)
    · have hf := ite_p n6 hf
      exact G.mask [false, false, false, false] rfl rfl (b_X11_board_22 C hr   hf)
set_option maxRecDepth 20000 in
theorem am_X11_board (l : Launch) (n : Nat) : AM l yX11_board cX11_board 4 (some .int) 3 67 [2, 0, 0, 0] 0 (un4 (f_X11_board n)) := by
  refine AM.intro (by decide) (fun xs hx => ?_) (fun g xs h Z hl C hr hx hf => ?_)
  · obtain ⟨a0, a1, a2, a3, rfl, c0, c1, c2, c3⟩ := canL_4 hx
    exact Nat.le_of_ble_eq_true rfl
  · obtain ⟨a0, a1, a2, a3, rfl, c0, c1, c2, c3⟩ := canL_4 hx
    have hf := (un4_e _ a0 a1 a2 a3 _).symm.trans hf
    exact e_X11_board (n := n) C hr c0 c1 c2 c3 hf
/-! LinesPromised$Papers.votersBothWays()I -/
theorem dX5_votersBothWays_0 : decode cX5_votersBothWays 0 = .ok (.iconst 0, 1) := by decide +kernel
theorem dX5_votersBothWays_1 : decode cX5_votersBothWays 1 = .ok (.istore_n 1, 1) := by decide +kernel
theorem dX5_votersBothWays_2 : decode cX5_votersBothWays 2 = .ok (.iconst 0, 1) := by decide +kernel
theorem dX5_votersBothWays_3 : decode cX5_votersBothWays 3 = .ok (.istore_n 2, 1) := by decide +kernel
theorem dX5_votersBothWays_4 : decode cX5_votersBothWays 4 = .ok (.iload_n 2, 1) := by decide +kernel
theorem dX5_votersBothWays_5 : decode cX5_votersBothWays 5 = .ok (.aload_n 0, 1) := by decide +kernel
theorem dX5_votersBothWays_6 : decode cX5_votersBothWays 6 = .ok (.getfield 44, 3) := by decide +kernel
theorem dX5_votersBothWays_9 : decode cX5_votersBothWays 9 = .ok (.if_icmp .ge 25, 3) := by decide +kernel
theorem dX5_votersBothWays_12 : decode cX5_votersBothWays 12 = .ok (.iload_n 1, 1) := by decide +kernel
theorem dX5_votersBothWays_13 : decode cX5_votersBothWays 13 = .ok (.aload_n 0, 1) := by decide +kernel
theorem dX5_votersBothWays_14 : decode cX5_votersBothWays 14 = .ok (.getfield 28, 3) := by decide +kernel
theorem dX5_votersBothWays_17 : decode cX5_votersBothWays 17 = .ok (.iload_n 2, 1) := by decide +kernel
theorem dX5_votersBothWays_18 : decode cX5_votersBothWays 18 = .ok (.iaload, 1) := by decide +kernel
theorem dX5_votersBothWays_19 : decode cX5_votersBothWays 19 = .ok (.aload_n 0, 1) := by decide +kernel
theorem dX5_votersBothWays_20 : decode cX5_votersBothWays 20 = .ok (.getfield 31, 3) := by decide +kernel
theorem dX5_votersBothWays_23 : decode cX5_votersBothWays 23 = .ok (.iload_n 2, 1) := by decide +kernel
theorem dX5_votersBothWays_24 : decode cX5_votersBothWays 24 = .ok (.iaload, 1) := by decide +kernel
theorem dX5_votersBothWays_25 : decode cX5_votersBothWays 25 = .ok (.iand, 1) := by decide +kernel
theorem dX5_votersBothWays_26 : decode cX5_votersBothWays 26 = .ok (.ior, 1) := by decide +kernel
theorem dX5_votersBothWays_27 : decode cX5_votersBothWays 27 = .ok (.istore_n 1, 1) := by decide +kernel
theorem dX5_votersBothWays_28 : decode cX5_votersBothWays 28 = .ok (.iinc 2 1, 3) := by decide +kernel
theorem dX5_votersBothWays_31 : decode cX5_votersBothWays 31 = .ok (.goto (-27), 3) := by decide +kernel
theorem dX5_votersBothWays_34 : decode cX5_votersBothWays 34 = .ok (.iload_n 1, 1) := by decide +kernel
theorem dX5_votersBothWays_35 : decode cX5_votersBothWays 35 = .ok (.ireturn, 1) := by decide +kernel
theorem cm_X5_votersBothWays : CM yX5_votersBothWays cX5_votersBothWays 3 (some .int) 0 5 := ⟨w_1053, w_1054, w_1055, w_90, ⟨by decide +kernel, by decide +kernel, by decide +kernel⟩, ⟨_, _, rfl⟩, by decide⟩
noncomputable def f_X5_votersBothWays_4b (n : Nat) (rec4 : Int → Int → MM → RR) (v0 v1 v2 : Int) (h : MM) : RR :=
  gf h v0 5 7 fun r1 =>
  if r1 ≤ v2 then
    some (v1, h)
  else
  gf h v0 5 4 fun r3 =>
  rd h r3 100 v2 fun r4 =>
  gf h v0 5 5 fun r5 =>
  rd h r5 100 v2 fun r6 =>
  lb (bor v1 (ban r4 r6)) fun x7 =>
  lb (wr (v2 + 1)) fun x8 =>
  rec4 x7 x8 h
noncomputable def f_X5_votersBothWays_4 (n : Nat)  (v0 : Int) : Nat → Int → Int → MM → RR
  | 0, _, _, _ => none
  | k + 1, v1, v2, h => f_X5_votersBothWays_4b n  (f_X5_votersBothWays_4 n  v0 k) v0 v1 v2 h
noncomputable def f_X5_votersBothWays (n : Nat) (v0 : Int) (h : MM) : RR :=
  f_X5_votersBothWays_4 n v0 n 0 0 h
set_option maxRecDepth 20000 in
theorem b_X5_votersBothWays_4b {g : GT} {Z : Int × MM} {n : Nat} (C : Cx g cX5_votersBothWays 3 yX5_votersBothWays 0 0) (hr : Rt g (some .int) 0 Z) {v0 v1 v2 : Int}  {rec4 : Int → Int → MM → RR} (L4 : ∀ (u1 u2 : Int) (h : MM), in32 u1 → in32 u2 → rec4 u1 u2 h = some Z → G g 4 [(2, v0), (0, u1), (0, u2)] [] h) (cv1 : in32 v1) (cv2 : in32 v2) {h : MM} (hf : f_X5_votersBothWays_4b n rec4 v0 v1 v2 h = some Z) : G g 4 [(2, v0), (0, v1), (0, v2)] [] h := by
  unfold f_X5_votersBothWays_4b at hf
  refine r_iload_n C dX5_votersBothWays_4 rfl ?_
  refine r_aload_n C dX5_votersBothWays_5 rfl ?_
  obtain ⟨q1, hf⟩ := gf_s hf
  refine r_gf C ct5 (j := 7) (ji := 7) dX5_votersBothWays_6 q1 rfl rfl (by decide) w_177 rfl (fun c1 => ?_)
  have c1 : in32 _ := c1
  refine r_icmp_ge C dX5_votersBothWays_9 (tgt := 34) (by decide) cv2 c1 (fun n2 => ?_) (fun n2 => ?_)
  · have hf := ite_p n2 hf
    refine r_iload_n C dX5_votersBothWays_34 rfl ?_
    cases hf
    exact r_jret C hr dX5_votersBothWays_35 cv1
  · have hf := ite_n n2 hf
    refine r_iload_n C dX5_votersBothWays_12 rfl ?_
    refine r_aload_n C dX5_votersBothWays_13 rfl ?_
    obtain ⟨q3, hf⟩ := gf_s hf
    refine r_gf C ct5 (j := 4) (ji := 4) dX5_votersBothWays_14 q3 rfl rfl (by decide) w_174 rfl (fun c3 => ?_)
    refine r_iload_n C dX5_votersBothWays_17 rfl ?_
    obtain ⟨q4, hf⟩ := rd_s hf
    refine r_iald C dX5_votersBothWays_18 q4 rfl (fun c4 => ?_)
    refine r_aload_n C dX5_votersBothWays_19 rfl ?_
    obtain ⟨q5, hf⟩ := gf_s hf
    refine r_gf C ct5 (j := 5) (ji := 5) dX5_votersBothWays_20 q5 rfl rfl (by decide) w_175 rfl (fun c5 => ?_)
    refine r_iload_n C dX5_votersBothWays_23 rfl ?_
    obtain ⟨q6, hf⟩ := rd_s hf
    refine r_iald C dX5_votersBothWays_24 q6 rfl (fun c6 => ?_)
    refine r_iand C dX5_votersBothWays_25 ?_
    refine r_ior C dX5_votersBothWays_26 ?_
    obtain ⟨x7, e7, hf⟩ := lb_s hf
    have c7 : in32 x7 := by rw [e7]; exact (in32_t _)
    refine r_istore_nL C dX5_votersBothWays_27 e7 (Nat.le_of_ble_eq_true rfl) rfl ?_
    obtain ⟨x8, e8, hf⟩ := lb_s hf
    have c8 : in32 x8 := by rw [e8]; exact (in32_t _)
    refine r_iincL C dX5_votersBothWays_28 rfl e8 (Nat.le_of_ble_eq_true rfl) rfl ?_
    refine r_goto C dX5_votersBothWays_31 (tgt := 4) (by decide) ?_
    exact G.mask [true, true, true] rfl rfl (L4 _ _ _ c7 c8 hf)
set_option maxRecDepth 20000 in
theorem l_X5_votersBothWays_4 {g : GT} {Z : Int × MM} {n : Nat} (C : Cx g cX5_votersBothWays 3 yX5_votersBothWays 0 0) (hr : Rt g (some .int) 0 Z) {v0 : Int}    : ∀ (k : Nat) (v1 v2 : Int) (h : MM), in32 v1 → in32 v2 → f_X5_votersBothWays_4 n  v0 k v1 v2 h = some Z → G g 4 [(2, v0), (0, v1), (0, v2)] [] h := by
  intro k
  induction k with
  | zero => intro v1 v2 h cv1 cv2 hf; exact absurd hf (by intro z; cases z)
  | succ k ih => intro v1 v2 h cv1 cv2 hf; exact b_X5_votersBothWays_4b C hr (rec4 := f_X5_votersBothWays_4 n  v0 k)  ih cv1 cv2 (show f_X5_votersBothWays_4b n  (f_X5_votersBothWays_4 n  v0 k) v0 v1 v2 h = some Z from hf)
set_option maxRecDepth 20000 in
theorem e_X5_votersBothWays {g : GT} {Z : Int × MM} {n : Nat} (C : Cx g cX5_votersBothWays 3 yX5_votersBothWays 0 0) (hr : Rt g (some .int) 0 Z) {v0 : Int} (cv0 : cK 2 v0) {h : MM} (hf : f_X5_votersBothWays n v0 h = some Z) : G g 0 [(2, v0), (3, 0), (3, 0)] [] h := by
  unfold f_X5_votersBothWays at hf
  refine r_iconst C dX5_votersBothWays_0 ?_
  refine r_istore_n C dX5_votersBothWays_1 (Nat.le_of_ble_eq_true rfl) rfl ?_
  refine r_iconst C dX5_votersBothWays_2 ?_
  refine r_istore_n C dX5_votersBothWays_3 (Nat.le_of_ble_eq_true rfl) rfl ?_
  exact G.mask [true, true, true] rfl rfl (l_X5_votersBothWays_4 C hr   _ _ _ _ (in32_of rfl) (in32_of rfl) hf)
set_option maxRecDepth 20000 in
theorem am_X5_votersBothWays (l : Launch) (n : Nat) : AM l yX5_votersBothWays cX5_votersBothWays 3 (some .int) 0 0 [2] 0 (un1 (f_X5_votersBothWays n)) := by
  refine AM.intro (by decide) (fun xs hx => ?_) (fun g xs h Z hl C hr hx hf => ?_)
  · obtain ⟨a0, rfl, c0⟩ := canL_1 hx
    exact Nat.le_of_ble_eq_true rfl
  · obtain ⟨a0, rfl, c0⟩ := canL_1 hx
    have hf := (un1_e _ a0 _).symm.trans hf
    exact e_X5_votersBothWays (n := n) C hr c0 hf
/-! LinesPromised.doubled()I -/
theorem dX11_doubled_0 : decode cX11_doubled 0 = .ok (.aload_n 0, 1) := by decide +kernel
theorem dX11_doubled_1 : decode cX11_doubled 1 = .ok (.getfield 10, 3) := by decide +kernel
theorem dX11_doubled_4 : decode cX11_doubled 4 = .ok (.getfield 133, 3) := by decide +kernel
theorem dX11_doubled_7 : decode cX11_doubled 7 = .ok (.invokevirtual 301, 3) := by decide +kernel
theorem dX11_doubled_10 : decode cX11_doubled 10 = .ok (.ireturn, 1) := by decide +kernel
theorem cm_X11_doubled : CM yX11_doubled cX11_doubled 1 (some .int) 0 11 := ⟨w_1049, w_1050, w_1051, w_87, ⟨by decide +kernel, by decide +kernel, by decide +kernel⟩, ⟨_, _, rfl⟩, by decide⟩
noncomputable def f_X11_doubled (n : Nat) (v0 : Int) (h : MM) : RR :=
  gf h v0 11 0 fun r1 =>
  gf h r1 10 1 fun r2 =>
  gk h r2 5 <|
  bd (f_X5_votersBothWays n r2 h) fun r3 h3 =>
  some (r3, h3)
set_option maxRecDepth 20000 in
theorem e_X11_doubled {g : GT} {Z : Int × MM} {n : Nat} (C : Cx g cX11_doubled 1 yX11_doubled 1 22) (hr : Rt g (some .int) 0 Z) {v0 : Int} (cv0 : cK 2 v0) {h : MM} (hf : f_X11_doubled n v0 h = some Z) : G g 0 [(2, v0)] [] h := by
  unfold f_X11_doubled at hf
  refine r_aload_n C dX11_doubled_0 rfl ?_
  obtain ⟨q1, hf⟩ := gf_s hf
  refine r_gf C ct11 (j := 0) (ji := 0) dX11_doubled_1 q1 rfl rfl (by decide) w_440 rfl (fun c1 => ?_)
  obtain ⟨q2, hf⟩ := gf_s hf
  refine r_gf C ct10 (j := 1) (ji := 1) dX11_doubled_4 q2 rfl rfl (by decide) w_302 rfl (fun c2 => ?_)
  obtain ⟨p3, hf⟩ := gk_s hf
  obtain ⟨r3, h3, hq3, hf⟩ := bd_s hf
  refine r_cV0 C (am_X5_votersBothWays (gl g) n) cm_X5_votersBothWays w_1052 dX11_doubled_7 ⟨Nat.le_of_ble_eq_true rfl, Nat.le_of_ble_eq_true rfl⟩ p3 rfl  rfl (Nat.le_of_ble_eq_true rfl) hq3 (by decide) (fun c3 => ?_)
  have c3 : in32 _ := c3
  cases hf
  exact r_jret C hr dX11_doubled_10 c3
set_option maxRecDepth 20000 in
theorem am_X11_doubled (l : Launch) (n : Nat) : AM l yX11_doubled cX11_doubled 1 (some .int) 1 22 [2] 0 (un1 (f_X11_doubled n)) := by
  refine AM.intro (by decide) (fun xs hx => ?_) (fun g xs h Z hl C hr hx hf => ?_)
  · obtain ⟨a0, rfl, c0⟩ := canL_1 hx
    exact Nat.le_of_ble_eq_true rfl
  · obtain ⟨a0, rfl, c0⟩ := canL_1 hx
    have hf := (un1_e _ a0 _).symm.trans hf
    exact e_X11_doubled (n := n) C hr c0 hf
