theorem w_281 : (Cond.fieldLink "LinesPromised$Land" 50 "LinesPromised$Sheet" "row" "[I") ∈ wG := wG_in 281 (by decide +kernel) (by decide +kernel)
theorem w_822 : (Cond.methodLink "LinesPromised$Land" 57 ⟨"LinesPromised$Land", "areBeside", "(II)Z"⟩) ∈ wG := wG_in 822 (by decide +kernel) (by decide +kernel)
theorem w_820 : (Cond.code ⟨"LinesPromised$Land", "goesOn", "(LLinesPromised$Sheet;II)Z"⟩ prog_3_method_8_code 5 (some .boolean)) ∈ wG := wG_in 820 (by decide +kernel) (by decide +kernel)
theorem w_819 : (Cond.static ⟨"LinesPromised$Land", "goesOn", "(LLinesPromised$Sheet;II)Z"⟩) ∈ wG := wG_in 819 (by decide +kernel) (by decide +kernel)
theorem w_288 : (Cond.fieldLink "LinesPromised$Land" 41 "LinesPromised$Sheet" "size" "I") ∈ wG := wG_in 288 (by decide +kernel) (by decide +kernel)
theorem w_818 : (Cond.methodLink "LinesPromised$Land" 46 ⟨"LinesPromised$Land", "goesOn", "(LLinesPromised$Sheet;II)Z"⟩) ∈ wG := wG_in 818 (by decide +kernel) (by decide +kernel)
theorem w_817 : (Cond.code ⟨"LinesPromised$Land", "follow", "(LLinesPromised$Sheet;II)I"⟩ prog_3_method_7_code 5 (some .int)) ∈ wG := wG_in 817 (by decide +kernel) (by decide +kernel)
theorem w_815 : (Cond.instanceMethod ⟨"LinesPromised$Land", "follow", "(LLinesPromised$Sheet;II)I"⟩) ∈ wG := wG_in 815 (by decide +kernel) (by decide +kernel)
theorem w_816 : (Cond.selects "LinesPromised$Land" ⟨"LinesPromised$Land", "follow", "(LLinesPromised$Sheet;II)I"⟩ ⟨"LinesPromised$Land", "follow", "(LLinesPromised$Sheet;II)I"⟩) ∈ wG := wG_in 816 (by decide +kernel) (by decide +kernel)
theorem w_831 : (Cond.methodLink "java/util/Arrays" 316 ⟨"[I", "clone", "()Ljava/lang/Object;"⟩) ∈ wG := wG_in 831 (by decide +kernel) (by decide +kernel)
theorem w_835 : (Cond.classLink "java/util/Arrays" 317 "[I") ∈ wG := wG_in 835 (by decide +kernel) (by decide +kernel)
theorem w_830 : (Cond.code ⟨"java/util/Arrays", "copyOf", "([II)[I"⟩ prog_22_method_123_code 3 (some (.array .int))) ∈ wG := wG_in 830 (by decide +kernel) (by decide +kernel)
theorem w_829 : (Cond.static ⟨"java/util/Arrays", "copyOf", "([II)[I"⟩) ∈ wG := wG_in 829 (by decide +kernel) (by decide +kernel)
theorem w_846 : (Cond.constant "LinesPromised$Land" 73 (i32 1000000)) ∈ wG := wG_in 846 (by decide +kernel) (by decide +kernel)
theorem w_841 : (Cond.methodLink "LinesPromised$Land" 64 ⟨"java/lang/Math", "min", "(II)I"⟩) ∈ wG := wG_in 841 (by decide +kernel) (by decide +kernel)
theorem w_847 : (Cond.methodLink "LinesPromised$Land" 74 ⟨"java/lang/Math", "max", "(II)I"⟩) ∈ wG := wG_in 847 (by decide +kernel) (by decide +kernel)
theorem w_845 : (Cond.code ⟨"LinesPromised$Land", "riseTo", "([III)I"⟩ prog_3_method_10_code 4 (some .int)) ∈ wG := wG_in 845 (by decide +kernel) (by decide +kernel)
theorem w_844 : (Cond.instanceMethod ⟨"LinesPromised$Land", "riseTo", "([III)I"⟩) ∈ wG := wG_in 844 (by decide +kernel) (by decide +kernel)
theorem w_11 : (Cond.selects "LinesPromised$Land" ⟨"LinesPromised$Land", "riseTo", "([III)I"⟩ ⟨"LinesPromised$Land", "riseTo", "([III)I"⟩) ∈ wG := wG_in 11 (by decide +kernel) (by decide +kernel)
theorem w_842 : (Cond.methodLink "LinesPromised$Land" 69 ⟨"LinesPromised$Land", "riseTo", "([III)I"⟩) ∈ wG := wG_in 842 (by decide +kernel) (by decide +kernel)
theorem w_285 : (Cond.fieldLink "LinesPromised$Land" 61 "LinesPromised$Sheet" "sort" "I") ∈ wG := wG_in 285 (by decide +kernel) (by decide +kernel)
theorem w_840 : (Cond.code ⟨"LinesPromised$Land", "levelsOf", "([ILLinesPromised$Sheet;)[I"⟩ prog_3_method_9_code 6 (some (.array .int))) ∈ wG := wG_in 840 (by decide +kernel) (by decide +kernel)
theorem w_838 : (Cond.instanceMethod ⟨"LinesPromised$Land", "levelsOf", "([ILLinesPromised$Sheet;)[I"⟩) ∈ wG := wG_in 838 (by decide +kernel) (by decide +kernel)
theorem w_839 : (Cond.selects "LinesPromised$Land" ⟨"LinesPromised$Land", "levelsOf", "([ILLinesPromised$Sheet;)[I"⟩ ⟨"LinesPromised$Land", "levelsOf", "([ILLinesPromised$Sheet;)[I"⟩) ∈ wG := wG_in 839 (by decide +kernel) (by decide +kernel)
theorem w_756 : (Cond.fieldLink "LinesPromised$World" 156 "LinesPromised$Paper" "torn" "I") ∈ wG := wG_in 756 (by decide +kernel) (by decide +kernel)
theorem w_138 : (Cond.fieldLink "LinesPromised$World" 115 "LinesPromised$Land" "townCell" "[I") ∈ wG := wG_in 138 (by decide +kernel) (by decide +kernel)
theorem w_738 : (Cond.fieldLink "LinesPromised$World" 118 "LinesPromised$Paper" "second" "I") ∈ wG := wG_in 738 (by decide +kernel) (by decide +kernel)
theorem w_733 : (Cond.fieldLink "LinesPromised$World" 123 "LinesPromised$Paper" "first" "I") ∈ wG := wG_in 733 (by decide +kernel) (by decide +kernel)
theorem w_814 : (Cond.methodLink "LinesPromised$World" 126 ⟨"LinesPromised$Land", "follow", "(LLinesPromised$Sheet;II)I"⟩) ∈ wG := wG_in 814 (by decide +kernel) (by decide +kernel)
theorem w_282 : (Cond.fieldLink "LinesPromised$World" 130 "LinesPromised$Sheet" "row" "[I") ∈ wG := wG_in 282 (by decide +kernel) (by decide +kernel)
theorem w_828 : (Cond.methodLink "LinesPromised$World" 133 ⟨"java/util/Arrays", "copyOf", "([II)[I"⟩) ∈ wG := wG_in 828 (by decide +kernel) (by decide +kernel)
theorem w_836 : (Cond.classLink "LinesPromised$World" 119 "LinesPromised$Paper") ∈ wG := wG_in 836 (by decide +kernel) (by decide +kernel)
theorem w_316 : (Cond.fieldLink "LinesPromised$World" 85 "LinesPromised$World" "today" "I") ∈ wG := wG_in 316 (by decide +kernel) (by decide +kernel)
theorem w_837 : (Cond.methodLink "LinesPromised$World" 139 ⟨"LinesPromised$Land", "levelsOf", "([ILLinesPromised$Sheet;)[I"⟩) ∈ wG := wG_in 837 (by decide +kernel) (by decide +kernel)
theorem w_848 : (Cond.methodLink "LinesPromised$World" 143 ⟨"LinesPromised$Paper", "<init>", "(III[I[I)V"⟩) ∈ wG := wG_in 848 (by decide +kernel) (by decide +kernel)
theorem w_743 : (Cond.fieldLink "LinesPromised$World" 146 "LinesPromised$Paper" "gauge" "I") ∈ wG := wG_in 743 (by decide +kernel) (by decide +kernel)
theorem w_849 : (Cond.methodLink "LinesPromised$World" 149 ⟨"LinesPromised$Paper", "tell", "(IIII)V"⟩) ∈ wG := wG_in 849 (by decide +kernel) (by decide +kernel)
theorem w_752 : (Cond.fieldLink "LinesPromised$World" 153 "LinesPromised$Paper" "slot" "I") ∈ wG := wG_in 752 (by decide +kernel) (by decide +kernel)
theorem w_813 : (Cond.code ⟨"LinesPromised$World", "survey", "(ILLinesPromised$Paper;LLinesPromised$Sheet;LLinesPromised$Sheet;)LLinesPromised$Paper;"⟩ prog_12_method_9_code 9 (some (.object "LinesPromised$Paper"))) ∈ wG := wG_in 813 (by decide +kernel) (by decide +kernel)
theorem w_811 : (Cond.instanceMethod ⟨"LinesPromised$World", "survey", "(ILLinesPromised$Paper;LLinesPromised$Sheet;LLinesPromised$Sheet;)LLinesPromised$Paper;"⟩) ∈ wG := wG_in 811 (by decide +kernel) (by decide +kernel)
theorem w_812 : (Cond.selects "LinesPromised$World" ⟨"LinesPromised$World", "survey", "(ILLinesPromised$Paper;LLinesPromised$Sheet;LLinesPromised$Sheet;)LLinesPromised$Paper;"⟩ ⟨"LinesPromised$World", "survey", "(ILLinesPromised$Paper;LLinesPromised$Sheet;LLinesPromised$Sheet;)LLinesPromised$Paper;"⟩) ∈ wG := wG_in 812 (by decide +kernel) (by decide +kernel)
theorem w_798 : (Cond.methodLink "LinesPromised" 172 ⟨"LinesPromised$Papers", "find", "(II)LLinesPromised$Paper;"⟩) ∈ wG := wG_in 798 (by decide +kernel) (by decide +kernel)
theorem w_807 : (Cond.methodLink "LinesPromised" 176 ⟨"LinesPromised", "isSheet", "(I)Z"⟩) ∈ wG := wG_in 807 (by decide +kernel) (by decide +kernel)
theorem w_308 : (Cond.fieldLink "LinesPromised" 179 "LinesPromised$World" "sheets" "[LLinesPromised$Sheet;") ∈ wG := wG_in 308 (by decide +kernel) (by decide +kernel)
theorem w_286 : (Cond.fieldLink "LinesPromised" 183 "LinesPromised$Sheet" "sort" "I") ∈ wG := wG_in 286 (by decide +kernel) (by decide +kernel)
theorem w_810 : (Cond.methodLink "LinesPromised" 188 ⟨"LinesPromised$World", "survey", "(ILLinesPromised$Paper;LLinesPromised$Sheet;LLinesPromised$Sheet;)LLinesPromised$Paper;"⟩) ∈ wG := wG_in 810 (by decide +kernel) (by decide +kernel)
theorem w_797 : (Cond.code ⟨"LinesPromised", "chain", "(III)I"⟩ prog_1_method_11_code 5 (some .int)) ∈ wG := wG_in 797 (by decide +kernel) (by decide +kernel)
theorem w_795 : (Cond.instanceMethod ⟨"LinesPromised", "chain", "(III)I"⟩) ∈ wG := wG_in 795 (by decide +kernel) (by decide +kernel)
theorem w_796 : (Cond.selects "LinesPromised" ⟨"LinesPromised", "chain", "(III)I"⟩ ⟨"LinesPromised", "chain", "(III)I"⟩) ∈ wG := wG_in 796 (by decide +kernel) (by decide +kernel)
theorem w_866 : (Cond.methodLink "LinesPromised$Land" 77 ⟨"java/lang/Math", "abs", "(I)I"⟩) ∈ wG := wG_in 866 (by decide +kernel) (by decide +kernel)
theorem w_865 : (Cond.code ⟨"LinesPromised$Land", "climb", "(II)I"⟩ prog_3_method_11_code 3 (some .int)) ∈ wG := wG_in 865 (by decide +kernel) (by decide +kernel)
theorem w_863 : (Cond.instanceMethod ⟨"LinesPromised$Land", "climb", "(II)I"⟩) ∈ wG := wG_in 863 (by decide +kernel) (by decide +kernel)
theorem w_864 : (Cond.selects "LinesPromised$Land" ⟨"LinesPromised$Land", "climb", "(II)I"⟩ ⟨"LinesPromised$Land", "climb", "(II)I"⟩) ∈ wG := wG_in 864 (by decide +kernel) (by decide +kernel)
theorem w_862 : (Cond.methodLink "LinesPromised$Land" 81 ⟨"LinesPromised$Land", "climb", "(II)I"⟩) ∈ wG := wG_in 862 (by decide +kernel) (by decide +kernel)
theorem w_861 : (Cond.code ⟨"LinesPromised$Land", "yardsTo", "(II)I"⟩ prog_3_method_12_code 4 (some .int)) ∈ wG := wG_in 861 (by decide +kernel) (by decide +kernel)
theorem w_859 : (Cond.instanceMethod ⟨"LinesPromised$Land", "yardsTo", "(II)I"⟩) ∈ wG := wG_in 859 (by decide +kernel) (by decide +kernel)
theorem w_860 : (Cond.selects "LinesPromised$Land" ⟨"LinesPromised$Land", "yardsTo", "(II)I"⟩ ⟨"LinesPromised$Land", "yardsTo", "(II)I"⟩) ∈ wG := wG_in 860 (by decide +kernel) (by decide +kernel)
theorem w_858 : (Cond.methodLink "LinesPromised$Land" 84 ⟨"LinesPromised$Land", "yardsTo", "(II)I"⟩) ∈ wG := wG_in 858 (by decide +kernel) (by decide +kernel)
theorem w_857 : (Cond.code ⟨"LinesPromised$Land", "yardsOf", "([I)I"⟩ prog_3_method_13_code 4 (some .int)) ∈ wG := wG_in 857 (by decide +kernel) (by decide +kernel)
theorem w_855 : (Cond.instanceMethod ⟨"LinesPromised$Land", "yardsOf", "([I)I"⟩) ∈ wG := wG_in 855 (by decide +kernel) (by decide +kernel)
theorem w_856 : (Cond.selects "LinesPromised$Land" ⟨"LinesPromised$Land", "yardsOf", "([I)I"⟩ ⟨"LinesPromised$Land", "yardsOf", "([I)I"⟩) ∈ wG := wG_in 856 (by decide +kernel) (by decide +kernel)
theorem w_869 : (Cond.constantLong "LinesPromised" 202 (i64 10)) ∈ wG := wG_in 869 (by decide +kernel) (by decide +kernel)
theorem w_725 : (Cond.fieldLink "LinesPromised" 192 "LinesPromised$Paper" "cells" "[I") ∈ wG := wG_in 725 (by decide +kernel) (by decide +kernel)
theorem w_854 : (Cond.methodLink "LinesPromised" 198 ⟨"LinesPromised$Land", "yardsOf", "([I)I"⟩) ∈ wG := wG_in 854 (by decide +kernel) (by decide +kernel)
theorem w_757 : (Cond.fieldLink "LinesPromised" 195 "LinesPromised$Paper" "torn" "I") ∈ wG := wG_in 757 (by decide +kernel) (by decide +kernel)
theorem w_853 : (Cond.code ⟨"LinesPromised", "way", "(II)I"⟩ prog_1_method_12_code 4 (some .int)) ∈ wG := wG_in 853 (by decide +kernel) (by decide +kernel)
theorem w_851 : (Cond.instanceMethod ⟨"LinesPromised", "way", "(II)I"⟩) ∈ wG := wG_in 851 (by decide +kernel) (by decide +kernel)
theorem w_852 : (Cond.selects "LinesPromised" ⟨"LinesPromised", "way", "(II)I"⟩ ⟨"LinesPromised", "way", "(II)I"⟩) ∈ wG := wG_in 852 (by decide +kernel) (by decide +kernel)
theorem w_729 : (Cond.fieldLink "LinesPromised" 204 "LinesPromised$Paper" "levels" "[I") ∈ wG := wG_in 729 (by decide +kernel) (by decide +kernel)
theorem w_874 : (Cond.constant "LinesPromised" 207 (i32 (-1000000))) ∈ wG := wG_in 874 (by decide +kernel) (by decide +kernel)
theorem w_873 : (Cond.code ⟨"LinesPromised", "level", "(II)I"⟩ prog_1_method_13_code 4 (some .int)) ∈ wG := wG_in 873 (by decide +kernel) (by decide +kernel)
theorem w_871 : (Cond.instanceMethod ⟨"LinesPromised", "level", "(II)I"⟩) ∈ wG := wG_in 871 (by decide +kernel) (by decide +kernel)
theorem w_872 : (Cond.selects "LinesPromised" ⟨"LinesPromised", "level", "(II)I"⟩ ⟨"LinesPromised", "level", "(II)I"⟩) ∈ wG := wG_in 872 (by decide +kernel) (by decide +kernel)
theorem w_724 : (Cond.fieldLink "LinesPromised$World" 162 "LinesPromised$Paper" "cells" "[I") ∈ wG := wG_in 724 (by decide +kernel) (by decide +kernel)
theorem w_728 : (Cond.fieldLink "LinesPromised$World" 165 "LinesPromised$Paper" "levels" "[I") ∈ wG := wG_in 728 (by decide +kernel) (by decide +kernel)
theorem w_130 : (Cond.fieldLink "LinesPromised$World" 168 "LinesPromised$Land" "height" "[I") ∈ wG := wG_in 130 (by decide +kernel) (by decide +kernel)
theorem w_884 : (Cond.methodLink "LinesPromised$World" 171 ⟨"java/lang/Math", "abs", "(I)I"⟩) ∈ wG := wG_in 884 (by decide +kernel) (by decide +kernel)
theorem w_883 : (Cond.methodLink "LinesPromised$World" 159 ⟨"LinesPromised$World", "ruleOf", "(II)I"⟩) ∈ wG := wG_in 883 (by decide +kernel) (by decide +kernel)
theorem w_882 : (Cond.code ⟨"LinesPromised$World", "whereNotClose", "(LLinesPromised$Paper;I)I"⟩ prog_12_method_10_code 5 (some .int)) ∈ wG := wG_in 882 (by decide +kernel) (by decide +kernel)
theorem w_880 : (Cond.instanceMethod ⟨"LinesPromised$World", "whereNotClose", "(LLinesPromised$Paper;I)I"⟩) ∈ wG := wG_in 880 (by decide +kernel) (by decide +kernel)
theorem w_881 : (Cond.selects "LinesPromised$World" ⟨"LinesPromised$World", "whereNotClose", "(LLinesPromised$Paper;I)I"⟩ ⟨"LinesPromised$World", "whereNotClose", "(LLinesPromised$Paper;I)I"⟩) ∈ wG := wG_in 881 (by decide +kernel) (by decide +kernel)
theorem w_889 : (Cond.methodLink "LinesPromised$World" 177 ⟨"LinesPromised$Land", "climb", "(II)I"⟩) ∈ wG := wG_in 889 (by decide +kernel) (by decide +kernel)
theorem w_888 : (Cond.code ⟨"LinesPromised$World", "whereSteep", "(LLinesPromised$Paper;I)I"⟩ prog_12_method_11_code 5 (some .int)) ∈ wG := wG_in 888 (by decide +kernel) (by decide +kernel)
theorem w_886 : (Cond.instanceMethod ⟨"LinesPromised$World", "whereSteep", "(LLinesPromised$Paper;I)I"⟩) ∈ wG := wG_in 886 (by decide +kernel) (by decide +kernel)
theorem w_887 : (Cond.selects "LinesPromised$World" ⟨"LinesPromised$World", "whereSteep", "(LLinesPromised$Paper;I)I"⟩ ⟨"LinesPromised$World", "whereSteep", "(LLinesPromised$Paper;I)I"⟩) ∈ wG := wG_in 887 (by decide +kernel) (by decide +kernel)
theorem w_885 : (Cond.methodLink "LinesPromised" 212 ⟨"LinesPromised$World", "whereSteep", "(LLinesPromised$Paper;I)I"⟩) ∈ wG := wG_in 885 (by decide +kernel) (by decide +kernel)
theorem w_879 : (Cond.methodLink "LinesPromised" 208 ⟨"LinesPromised$World", "whereNotClose", "(LLinesPromised$Paper;I)I"⟩) ∈ wG := wG_in 879 (by decide +kernel) (by decide +kernel)
theorem w_878 : (Cond.code ⟨"LinesPromised", "close", "(III)I"⟩ prog_1_method_14_code 5 (some .int)) ∈ wG := wG_in 878 (by decide +kernel) (by decide +kernel)
theorem w_876 : (Cond.instanceMethod ⟨"LinesPromised", "close", "(III)I"⟩) ∈ wG := wG_in 876 (by decide +kernel) (by decide +kernel)
theorem w_877 : (Cond.selects "LinesPromised" ⟨"LinesPromised", "close", "(III)I"⟩ ⟨"LinesPromised", "close", "(III)I"⟩) ∈ wG := wG_in 877 (by decide +kernel) (by decide +kernel)
theorem w_897 : (Cond.code ⟨"LinesPromised$Paper", "cellAtOddsWith", "(LLinesPromised$Paper;)I"⟩ prog_6_method_4_code 4 (some .int)) ∈ wG := wG_in 897 (by decide +kernel) (by decide +kernel)
theorem w_895 : (Cond.instanceMethod ⟨"LinesPromised$Paper", "cellAtOddsWith", "(LLinesPromised$Paper;)I"⟩) ∈ wG := wG_in 895 (by decide +kernel) (by decide +kernel)
theorem w_896 : (Cond.selects "LinesPromised$Paper" ⟨"LinesPromised$Paper", "cellAtOddsWith", "(LLinesPromised$Paper;)I"⟩ ⟨"LinesPromised$Paper", "cellAtOddsWith", "(LLinesPromised$Paper;)I"⟩) ∈ wG := wG_in 896 (by decide +kernel) (by decide +kernel)
theorem w_894 : (Cond.methodLink "LinesPromised" 215 ⟨"LinesPromised$Paper", "cellAtOddsWith", "(LLinesPromised$Paper;)I"⟩) ∈ wG := wG_in 894 (by decide +kernel) (by decide +kernel)
theorem w_893 : (Cond.code ⟨"LinesPromised", "quarrel", "(II)I"⟩ prog_1_method_15_code 5 (some .int)) ∈ wG := wG_in 893 (by decide +kernel) (by decide +kernel)
theorem w_891 : (Cond.instanceMethod ⟨"LinesPromised", "quarrel", "(II)I"⟩) ∈ wG := wG_in 891 (by decide +kernel) (by decide +kernel)
theorem w_892 : (Cond.selects "LinesPromised" ⟨"LinesPromised", "quarrel", "(II)I"⟩ ⟨"LinesPromised", "quarrel", "(II)I"⟩) ∈ wG := wG_in 892 (by decide +kernel) (by decide +kernel)
theorem w_911 : (Cond.constant "LinesPromised$Roads" 58 (i32 1000000)) ∈ wG := wG_in 911 (by decide +kernel) (by decide +kernel)
theorem w_916 : (Cond.code ⟨"LinesPromised$Roads", "nearest", "()I"⟩ prog_9_method_4_code 3 (some .int)) ∈ wG := wG_in 916 (by decide +kernel) (by decide +kernel)
theorem w_915 : (Cond.instanceMethod ⟨"LinesPromised$Roads", "nearest", "()I"⟩) ∈ wG := wG_in 915 (by decide +kernel) (by decide +kernel)
theorem w_13 : (Cond.selects "LinesPromised$Roads" ⟨"LinesPromised$Roads", "nearest", "()I"⟩ ⟨"LinesPromised$Roads", "nearest", "()I"⟩) ∈ wG := wG_in 13 (by decide +kernel) (by decide +kernel)
theorem w_362 : (Cond.fieldLink "LinesPromised$Roads" 47 "LinesPromised$Roads" "throughParks" "Z") ∈ wG := wG_in 362 (by decide +kernel) (by decide +kernel)
theorem w_133 : (Cond.fieldLink "LinesPromised$Roads" 94 "LinesPromised$Land" "ground" "[I") ∈ wG := wG_in 133 (by decide +kernel) (by decide +kernel)
theorem w_359 : (Cond.fieldLink "LinesPromised$Roads" 33 "LinesPromised$Roads" "from" "I") ∈ wG := wG_in 359 (by decide +kernel) (by decide +kernel)
theorem w_360 : (Cond.fieldLink "LinesPromised$Roads" 37 "LinesPromised$Roads" "to" "I") ∈ wG := wG_in 360 (by decide +kernel) (by decide +kernel)
theorem w_925 : (Cond.code ⟨"LinesPromised$Roads", "isOpen", "(LLinesPromised$Land;I)Z"⟩ prog_9_method_6_code 3 (some .boolean)) ∈ wG := wG_in 925 (by decide +kernel) (by decide +kernel)
theorem w_924 : (Cond.instanceMethod ⟨"LinesPromised$Roads", "isOpen", "(LLinesPromised$Land;I)Z"⟩) ∈ wG := wG_in 924 (by decide +kernel) (by decide +kernel)
theorem w_15 : (Cond.selects "LinesPromised$Roads" ⟨"LinesPromised$Roads", "isOpen", "(LLinesPromised$Land;I)Z"⟩ ⟨"LinesPromised$Roads", "isOpen", "(LLinesPromised$Land;I)Z"⟩) ∈ wG := wG_in 15 (by decide +kernel) (by decide +kernel)
theorem w_922 : (Cond.methodLink "LinesPromised$Roads" 87 ⟨"LinesPromised$Roads", "isOpen", "(LLinesPromised$Land;I)Z"⟩) ∈ wG := wG_in 922 (by decide +kernel) (by decide +kernel)
theorem w_926 : (Cond.methodLink "LinesPromised$Roads" 91 ⟨"LinesPromised$Land", "climb", "(II)I"⟩) ∈ wG := wG_in 926 (by decide +kernel) (by decide +kernel)
theorem w_361 : (Cond.fieldLink "LinesPromised$Roads" 44 "LinesPromised$Roads" "steepest" "I") ∈ wG := wG_in 361 (by decide +kernel) (by decide +kernel)
theorem w_921 : (Cond.code ⟨"LinesPromised$Roads", "canStep", "(LLinesPromised$Land;II)Z"⟩ prog_9_method_5_code 4 (some .boolean)) ∈ wG := wG_in 921 (by decide +kernel) (by decide +kernel)
theorem w_920 : (Cond.instanceMethod ⟨"LinesPromised$Roads", "canStep", "(LLinesPromised$Land;II)Z"⟩) ∈ wG := wG_in 920 (by decide +kernel) (by decide +kernel)
theorem w_14 : (Cond.selects "LinesPromised$Roads" ⟨"LinesPromised$Roads", "canStep", "(LLinesPromised$Land;II)Z"⟩ ⟨"LinesPromised$Roads", "canStep", "(LLinesPromised$Land;II)Z"⟩) ∈ wG := wG_in 14 (by decide +kernel) (by decide +kernel)
theorem w_917 : (Cond.methodLink "LinesPromised$Roads" 72 ⟨"LinesPromised$Land", "beside", "(II)I"⟩) ∈ wG := wG_in 917 (by decide +kernel) (by decide +kernel)
theorem w_918 : (Cond.methodLink "LinesPromised$Roads" 75 ⟨"LinesPromised$Roads", "canStep", "(LLinesPromised$Land;II)Z"⟩) ∈ wG := wG_in 918 (by decide +kernel) (by decide +kernel)
theorem w_927 : (Cond.methodLink "LinesPromised$Roads" 79 ⟨"LinesPromised$Land", "yardsTo", "(II)I"⟩) ∈ wG := wG_in 927 (by decide +kernel) (by decide +kernel)
theorem w_928 : (Cond.methodLink "LinesPromised$Roads" 82 ⟨"java/lang/Math", "min", "(II)I"⟩) ∈ wG := wG_in 928 (by decide +kernel) (by decide +kernel)
theorem w_913 : (Cond.methodLink "LinesPromised$Roads" 68 ⟨"LinesPromised$Roads", "nearest", "()I"⟩) ∈ wG := wG_in 913 (by decide +kernel) (by decide +kernel)
theorem w_912 : (Cond.methodLink "LinesPromised$Roads" 62 ⟨"java/util/Arrays", "fill", "([II)V"⟩) ∈ wG := wG_in 912 (by decide +kernel) (by decide +kernel)
theorem w_910 : (Cond.code ⟨"LinesPromised$Roads", "measure", "(LLinesPromised$Land;)V"⟩ prog_9_method_3_code 6 none) ∈ wG := wG_in 910 (by decide +kernel) (by decide +kernel)
theorem w_909 : (Cond.instanceMethod ⟨"LinesPromised$Roads", "measure", "(LLinesPromised$Land;)V"⟩) ∈ wG := wG_in 909 (by decide +kernel) (by decide +kernel)
theorem w_12 : (Cond.selects "LinesPromised$Roads" ⟨"LinesPromised$Roads", "measure", "(LLinesPromised$Land;)V"⟩ ⟨"LinesPromised$Roads", "measure", "(LLinesPromised$Land;)V"⟩) ∈ wG := wG_in 12 (by decide +kernel) (by decide +kernel)
theorem w_936 : (Cond.code ⟨"LinesPromised$Roads", "leastNext", "(LLinesPromised$Land;I)I"⟩ prog_9_method_8_code 5 (some .int)) ∈ wG := wG_in 936 (by decide +kernel) (by decide +kernel)
theorem w_935 : (Cond.instanceMethod ⟨"LinesPromised$Roads", "leastNext", "(LLinesPromised$Land;I)I"⟩) ∈ wG := wG_in 935 (by decide +kernel) (by decide +kernel)
theorem w_17 : (Cond.selects "LinesPromised$Roads" ⟨"LinesPromised$Roads", "leastNext", "(LLinesPromised$Land;I)I"⟩ ⟨"LinesPromised$Roads", "leastNext", "(LLinesPromised$Land;I)I"⟩) ∈ wG := wG_in 17 (by decide +kernel) (by decide +kernel)
theorem w_933 : (Cond.methodLink "LinesPromised$Roads" 100 ⟨"LinesPromised$Roads", "leastNext", "(LLinesPromised$Land;I)I"⟩) ∈ wG := wG_in 933 (by decide +kernel) (by decide +kernel)
theorem w_353 : (Cond.fieldLink "LinesPromised$Roads" 97 "LinesPromised$Roads" "size" "I") ∈ wG := wG_in 353 (by decide +kernel) (by decide +kernel)
theorem w_932 : (Cond.code ⟨"LinesPromised$Roads", "walk", "(LLinesPromised$Land;)V"⟩ prog_9_method_7_code 4 none) ∈ wG := wG_in 932 (by decide +kernel) (by decide +kernel)
theorem w_931 : (Cond.instanceMethod ⟨"LinesPromised$Roads", "walk", "(LLinesPromised$Land;)V"⟩) ∈ wG := wG_in 931 (by decide +kernel) (by decide +kernel)
theorem w_16 : (Cond.selects "LinesPromised$Roads" ⟨"LinesPromised$Roads", "walk", "(LLinesPromised$Land;)V"⟩ ⟨"LinesPromised$Roads", "walk", "(LLinesPromised$Land;)V"⟩) ∈ wG := wG_in 16 (by decide +kernel) (by decide +kernel)
/-! LinesPromised$Land.goesOn(LLinesPromised$Sheet;II)Z -/
theorem dX1_goesOn_0 : decode cX1_goesOn 0 = .ok (.aload_n 0, 1) := by decide +kernel
theorem dX1_goesOn_1 : decode cX1_goesOn 1 = .ok (.getfield 50, 3) := by decide +kernel
theorem dX1_goesOn_4 : decode cX1_goesOn 4 = .ok (.iload_n 1, 1) := by decide +kernel
theorem dX1_goesOn_5 : decode cX1_goesOn 5 = .ok (.iaload, 1) := by decide +kernel
theorem dX1_goesOn_6 : decode cX1_goesOn 6 = .ok (.istore_n 3, 1) := by decide +kernel
theorem dX1_goesOn_7 : decode cX1_goesOn 7 = .ok (.iload_n 1, 1) := by decide +kernel
theorem dX1_goesOn_8 : decode cX1_goesOn 8 = .ok (.ifCond .ne 14, 3) := by decide +kernel
theorem dX1_goesOn_11 : decode cX1_goesOn 11 = .ok (.iload_n 3, 1) := by decide +kernel
theorem dX1_goesOn_12 : decode cX1_goesOn 12 = .ok (.iload_n 2, 1) := by decide +kernel
theorem dX1_goesOn_13 : decode cX1_goesOn 13 = .ok (.if_icmp .ne 7, 3) := by decide +kernel
theorem dX1_goesOn_16 : decode cX1_goesOn 16 = .ok (.iconst 1, 1) := by decide +kernel
theorem dX1_goesOn_17 : decode cX1_goesOn 17 = .ok (.goto 4, 3) := by decide +kernel
theorem dX1_goesOn_20 : decode cX1_goesOn 20 = .ok (.iconst 0, 1) := by decide +kernel
theorem dX1_goesOn_21 : decode cX1_goesOn 21 = .ok (.ireturn, 1) := by decide +kernel
theorem dX1_goesOn_22 : decode cX1_goesOn 22 = .ok (.iload_n 3, 1) := by decide +kernel
theorem dX1_goesOn_23 : decode cX1_goesOn 23 = .ok (.i2l, 1) := by decide +kernel
theorem dX1_goesOn_24 : decode cX1_goesOn 24 = .ok (.iconst 0, 1) := by decide +kernel
theorem dX1_goesOn_25 : decode cX1_goesOn 25 = .ok (.bipush 79, 2) := by decide +kernel
theorem dX1_goesOn_27 : decode cX1_goesOn 27 = .ok (.invokestatic 53, 3) := by decide +kernel
theorem dX1_goesOn_30 : decode cX1_goesOn 30 = .ok (.ifCond .eq 18, 3) := by decide +kernel
theorem dX1_goesOn_33 : decode cX1_goesOn 33 = .ok (.aload_n 0, 1) := by decide +kernel
theorem dX1_goesOn_34 : decode cX1_goesOn 34 = .ok (.getfield 50, 3) := by decide +kernel
theorem dX1_goesOn_37 : decode cX1_goesOn 37 = .ok (.iload_n 1, 1) := by decide +kernel
theorem dX1_goesOn_38 : decode cX1_goesOn 38 = .ok (.iconst 1, 1) := by decide +kernel
theorem dX1_goesOn_39 : decode cX1_goesOn 39 = .ok (.isub, 1) := by decide +kernel
theorem dX1_goesOn_40 : decode cX1_goesOn 40 = .ok (.iaload, 1) := by decide +kernel
theorem dX1_goesOn_41 : decode cX1_goesOn 41 = .ok (.iload_n 3, 1) := by decide +kernel
theorem dX1_goesOn_42 : decode cX1_goesOn 42 = .ok (.invokestatic 57, 3) := by decide +kernel
theorem dX1_goesOn_45 : decode cX1_goesOn 45 = .ok (.ifCond .ne 5, 3) := by decide +kernel
theorem dX1_goesOn_48 : decode cX1_goesOn 48 = .ok (.iconst 0, 1) := by decide +kernel
theorem dX1_goesOn_49 : decode cX1_goesOn 49 = .ok (.ireturn, 1) := by decide +kernel
theorem dX1_goesOn_50 : decode cX1_goesOn 50 = .ok (.iconst 0, 1) := by decide +kernel
theorem dX1_goesOn_51 : decode cX1_goesOn 51 = .ok (.istore 4, 2) := by decide +kernel
theorem dX1_goesOn_53 : decode cX1_goesOn 53 = .ok (.iload 4, 2) := by decide +kernel
theorem dX1_goesOn_55 : decode cX1_goesOn 55 = .ok (.iload_n 1, 1) := by decide +kernel
theorem dX1_goesOn_56 : decode cX1_goesOn 56 = .ok (.if_icmp .ge 22, 3) := by decide +kernel
theorem dX1_goesOn_59 : decode cX1_goesOn 59 = .ok (.aload_n 0, 1) := by decide +kernel
theorem dX1_goesOn_60 : decode cX1_goesOn 60 = .ok (.getfield 50, 3) := by decide +kernel
theorem dX1_goesOn_63 : decode cX1_goesOn 63 = .ok (.iload 4, 2) := by decide +kernel
theorem dX1_goesOn_65 : decode cX1_goesOn 65 = .ok (.iaload, 1) := by decide +kernel
theorem dX1_goesOn_66 : decode cX1_goesOn 66 = .ok (.iload_n 3, 1) := by decide +kernel
theorem dX1_goesOn_67 : decode cX1_goesOn 67 = .ok (.if_icmp .ne 5, 3) := by decide +kernel
theorem dX1_goesOn_70 : decode cX1_goesOn 70 = .ok (.iconst 0, 1) := by decide +kernel
theorem dX1_goesOn_71 : decode cX1_goesOn 71 = .ok (.ireturn, 1) := by decide +kernel
theorem dX1_goesOn_72 : decode cX1_goesOn 72 = .ok (.iinc 4 1, 3) := by decide +kernel
theorem dX1_goesOn_75 : decode cX1_goesOn 75 = .ok (.goto (-22), 3) := by decide +kernel
theorem dX1_goesOn_78 : decode cX1_goesOn 78 = .ok (.iconst 1, 1) := by decide +kernel
theorem dX1_goesOn_79 : decode cX1_goesOn 79 = .ok (.ireturn, 1) := by decide +kernel
theorem cm_X1_goesOn : CMs yX1_goesOn cX1_goesOn 5 (some .boolean) 3 := ⟨w_819, w_820, w_89, ⟨by decide +kernel, by decide +kernel, by decide +kernel⟩⟩
noncomputable def f_X1_goesOn_48 (n : Nat)  (h : MM) : RR :=
  ck (isb 0) <|
  some (0, h)
noncomputable def f_X1_goesOn_53b (n : Nat) (rec53 : Int → MM → RR) (v0 v1 v3 v4 : Int) (h : MM) : RR :=
  if v1 ≤ v4 then
    ck (isb 1) <|
    some (1, h)
  else
  gf h v0 9 0 fun r3 =>
  rd h r3 100 v4 fun r4 =>
  if r4 = v3 then
    ck (isb 0) <|
    some (0, h)
  else
  lb (wr (v4 + 1)) fun x6 =>
  rec53 x6 h
noncomputable def f_X1_goesOn_53 (n : Nat)  (v0 v1 v3 : Int) : Nat → Int → MM → RR
  | 0, _, _ => none
  | k + 1, v4, h => f_X1_goesOn_53b n  (f_X1_goesOn_53 n  v0 v1 v3 k) v0 v1 v3 v4 h
noncomputable def f_X1_goesOn_21 (n : Nat)  (s0 : Int) (h : MM) : RR :=
  ck (isb s0) <|
  some (s0, h)
noncomputable def f_X1_goesOn (n : Nat) (v0 v1 v2 : Int) (h : MM) : RR :=
  gf h v0 9 0 fun r1 =>
  rd h r1 100 v1 fun r2 =>
  if v1 = 0 then
    if r2 = v2 then
      f_X1_goesOn_21 n 1 h
    else
    f_X1_goesOn_21 n 0 h
  else
  bd (f_X11_within n r2 0 79 h) fun r4 h4 =>
  if r4 = 0 then
    f_X1_goesOn_48 n h4
  else
  gf h4 v0 9 0 fun r6 =>
  rd h4 r6 100 (wr (v1 - 1)) fun r7 =>
  bd (f_X1_areBeside n r7 r2 h4) fun r8 h8 =>
  if r8 = 0 then
    f_X1_goesOn_48 n h8
  else
  f_X1_goesOn_53 n v0 v1 r2 n 0 h8
set_option maxRecDepth 20000 in
theorem b_X1_goesOn_48 {g : GT} {Z : Int × MM} {n : Nat} (C : Cx g cX1_goesOn 5 yX1_goesOn 2 43) (hr : Rt g (some .boolean) 0 Z)     {h : MM} (hf : f_X1_goesOn_48 n   h = some Z) : G g 48 [(3, 0), (3, 0), (3, 0), (3, 0), (3, 0)] [] h := by
  unfold f_X1_goesOn_48 at hf
  refine r_iconst C dX1_goesOn_48 ?_
  obtain ⟨b1, hf⟩ := ck_s hf
  cases hf
  exact r_zret C hr dX1_goesOn_49 b1
set_option maxRecDepth 20000 in
theorem b_X1_goesOn_53b {g : GT} {Z : Int × MM} {n : Nat} (C : Cx g cX1_goesOn 5 yX1_goesOn 2 43) (hr : Rt g (some .boolean) 0 Z) {v0 v1 v3 v4 : Int}  {rec53 : Int → MM → RR} (L53 : ∀ (u4 : Int) (h : MM), in32 u4 → rec53 u4 h = some Z → G g 53 [(2, v0), (0, v1), (3, 0), (0, v3), (0, u4)] [] h) (cv1 : in32 v1) (cv3 : in32 v3) (cv4 : in32 v4) {h : MM} (hf : f_X1_goesOn_53b n rec53 v0 v1 v3 v4 h = some Z) : G g 53 [(2, v0), (0, v1), (3, 0), (0, v3), (0, v4)] [] h := by
  unfold f_X1_goesOn_53b at hf
  refine r_iload C dX1_goesOn_53 rfl ?_
  refine r_iload_n C dX1_goesOn_55 rfl ?_
  refine r_icmp_ge C dX1_goesOn_56 (tgt := 78) (by decide) cv4 cv1 (fun n1 => ?_) (fun n1 => ?_)
  · have hf := ite_p n1 hf
    refine r_iconst C dX1_goesOn_78 ?_
    obtain ⟨b2, hf⟩ := ck_s hf
    cases hf
    exact r_zret C hr dX1_goesOn_79 b2
  · have hf := ite_n n1 hf
    refine r_aload_n C dX1_goesOn_59 rfl ?_
    obtain ⟨q3, hf⟩ := gf_s hf
    refine r_gf C ct9 (j := 0) (ji := 0) dX1_goesOn_60 q3 rfl rfl (by decide) w_281 rfl (fun c3 => ?_)
    refine r_iload C dX1_goesOn_63 rfl ?_
    obtain ⟨q4, hf⟩ := rd_s hf
    refine r_iald C dX1_goesOn_65 q4 rfl (fun c4 => ?_)
    refine r_iload_n C dX1_goesOn_66 rfl ?_
    refine r_icmp_ne C dX1_goesOn_67 (tgt := 72) (by decide) c4 cv3 (fun n5 => ?_) (fun n5 => ?_)
    · have hf := ite_n n5 hf
      obtain ⟨x6, e6, hf⟩ := lb_s hf
      have c6 : in32 x6 := by rw [e6]; exact (in32_t _)
      refine r_iincL C dX1_goesOn_72 rfl e6 (Nat.le_of_ble_eq_true rfl) rfl ?_
      refine r_goto C dX1_goesOn_75 (tgt := 53) (by decide) ?_
      exact G.mask [true, true, false, true, true] rfl rfl (L53 _ _ c6 hf)
    · have hf := ite_p n5 hf
      refine r_iconst C dX1_goesOn_70 ?_
      obtain ⟨b7, hf⟩ := ck_s hf
      cases hf
      exact r_zret C hr dX1_goesOn_71 b7
set_option maxRecDepth 20000 in
theorem l_X1_goesOn_53 {g : GT} {Z : Int × MM} {n : Nat} (C : Cx g cX1_goesOn 5 yX1_goesOn 2 43) (hr : Rt g (some .boolean) 0 Z) {v0 v1 v3 : Int}   (cv1 : in32 v1) (cv3 : in32 v3) : ∀ (k : Nat) (v4 : Int) (h : MM), in32 v4 → f_X1_goesOn_53 n  v0 v1 v3 k v4 h = some Z → G g 53 [(2, v0), (0, v1), (3, 0), (0, v3), (0, v4)] [] h := by
  intro k
  induction k with
  | zero => intro v4 h cv4 hf; exact absurd hf (by intro z; cases z)
  | succ k ih => intro v4 h cv4 hf; exact b_X1_goesOn_53b C hr (rec53 := f_X1_goesOn_53 n  v0 v1 v3 k)  ih cv1 cv3 cv4 (show f_X1_goesOn_53b n  (f_X1_goesOn_53 n  v0 v1 v3 k) v0 v1 v3 v4 h = some Z from hf)
set_option maxRecDepth 20000 in
theorem b_X1_goesOn_21 {g : GT} {Z : Int × MM} {n : Nat} (C : Cx g cX1_goesOn 5 yX1_goesOn 2 43) (hr : Rt g (some .boolean) 0 Z) {s0 : Int}    (cs0 : in32 s0) {h : MM} (hf : f_X1_goesOn_21 n  s0 h = some Z) : G g 21 [(3, 0), (3, 0), (3, 0), (3, 0), (3, 0)] [(0, s0)] h := by
  unfold f_X1_goesOn_21 at hf
  obtain ⟨b1, hf⟩ := ck_s hf
  cases hf
  exact r_zret C hr dX1_goesOn_21 b1
set_option maxRecDepth 20000 in
theorem e_X1_goesOn {g : GT} {Z : Int × MM} {n : Nat} (C : Cx g cX1_goesOn 5 yX1_goesOn 2 43) (hr : Rt g (some .boolean) 0 Z) {v0 v1 v2 : Int} (cv0 : cK 2 v0) (cv1 : cK 0 v1) (cv2 : cK 0 v2) {h : MM} (hf : f_X1_goesOn n v0 v1 v2 h = some Z) : G g 0 [(2, v0), (0, v1), (0, v2), (3, 0), (3, 0)] [] h := by
  have cv1 : in32 v1 := cv1
  have cv2 : in32 v2 := cv2
  unfold f_X1_goesOn at hf
  refine r_aload_n C dX1_goesOn_0 rfl ?_
  obtain ⟨q1, hf⟩ := gf_s hf
  refine r_gf C ct9 (j := 0) (ji := 0) dX1_goesOn_1 q1 rfl rfl (by decide) w_281 rfl (fun c1 => ?_)
  refine r_iload_n C dX1_goesOn_4 rfl ?_
  obtain ⟨q2, hf⟩ := rd_s hf
  refine r_iald C dX1_goesOn_5 q2 rfl (fun c2 => ?_)
  refine r_istore_n C dX1_goesOn_6 (Nat.le_of_ble_eq_true rfl) rfl ?_
  refine r_iload_n C dX1_goesOn_7 rfl ?_
  refine r_if_ne C dX1_goesOn_8 (tgt := 22) (by decide) cv1 (fun n3 => ?_) (fun n3 => ?_)
  · have hf := ite_n n3 hf
    refine r_iload_n C dX1_goesOn_22 rfl ?_
    refine r_i2l C dX1_goesOn_23 c2 ?_
    refine r_iconst C dX1_goesOn_24 ?_
    refine r_bipush C dX1_goesOn_25 rfl ?_
    obtain ⟨r4, h4, hq4, hf⟩ := bd_s hf
    refine r_cN3 C (am_X11_within (gl g) n) cm_X11_within (C.hK.2.2.2.2.2.2.2.1) dX1_goesOn_27 ⟨Nat.le_of_ble_eq_true rfl, Nat.le_of_ble_eq_true rfl⟩ (in64_i c2) (in32_of rfl) (in32_of rfl) rfl (Nat.le_of_ble_eq_true rfl) hq4 (by decide) (fun c4 => ?_)
    have c4 : in32 _ := c4
    refine r_if_eq C dX1_goesOn_30 (tgt := 48) (by decide) c4 (fun n5 => ?_) (fun n5 => ?_)
    · have hf := ite_p n5 hf
      exact G.mask [false, false, false, false, false] rfl rfl (b_X1_goesOn_48 C hr   hf)
    · have hf := ite_n n5 hf
      refine r_aload_n C dX1_goesOn_33 rfl ?_
      obtain ⟨q6, hf⟩ := gf_s hf
      refine r_gf C ct9 (j := 0) (ji := 0) dX1_goesOn_34 q6 rfl rfl (by decide) w_281 rfl (fun c6 => ?_)
      refine r_iload_n C dX1_goesOn_37 rfl ?_
      refine r_iconst C dX1_goesOn_38 ?_
      refine r_isub C dX1_goesOn_39 ?_
      obtain ⟨q7, hf⟩ := rd_s hf
      refine r_iald C dX1_goesOn_40 q7 rfl (fun c7 => ?_)
      refine r_iload_n C dX1_goesOn_41 rfl ?_
      obtain ⟨r8, h8, hq8, hf⟩ := bd_s hf
      refine r_cS2 C (am_X1_areBeside (gl g) n) cm_X1_areBeside w_822 dX1_goesOn_42 ⟨Nat.le_of_ble_eq_true rfl, Nat.le_of_ble_eq_true rfl⟩ c7 c2 rfl (Nat.le_of_ble_eq_true rfl) hq8 (by decide) (fun c8 => ?_)
      have c8 : in32 _ := c8
      refine r_if_ne C dX1_goesOn_45 (tgt := 50) (by decide) c8 (fun n9 => ?_) (fun n9 => ?_)
      · have hf := ite_n n9 hf
        refine r_iconst C dX1_goesOn_50 ?_
        refine r_istore C dX1_goesOn_51 (Nat.le_of_ble_eq_true rfl) rfl ?_
        exact G.mask [true, true, false, true, true] rfl rfl (l_X1_goesOn_53 C hr  cv1 c2 _ _ _ (in32_of rfl) hf)
      · have hf := ite_p n9 hf
        exact G.mask [false, false, false, false, false] rfl rfl (b_X1_goesOn_48 C hr   hf)
  · have hf := ite_p n3 hf
    refine r_iload_n C dX1_goesOn_11 rfl ?_
    refine r_iload_n C dX1_goesOn_12 rfl ?_
    refine r_icmp_ne C dX1_goesOn_13 (tgt := 20) (by decide) c2 cv2 (fun n10 => ?_) (fun n10 => ?_)
    · have hf := ite_n n10 hf
      refine r_iconst C dX1_goesOn_20 ?_
      exact G.mask [false, false, false, false, false] rfl rfl (b_X1_goesOn_21 C hr  (in32_of rfl) hf)
    · have hf := ite_p n10 hf
      refine r_iconst C dX1_goesOn_16 ?_
      refine r_goto C dX1_goesOn_17 (tgt := 21) (by decide) ?_
      exact G.mask [false, false, false, false, false] rfl rfl (b_X1_goesOn_21 C hr  (in32_of rfl) hf)
set_option maxRecDepth 20000 in
theorem am_X1_goesOn (l : Launch) (n : Nat) : AM l yX1_goesOn cX1_goesOn 5 (some .boolean) 2 43 [2, 0, 0] 0 (un3 (f_X1_goesOn n)) := by
  refine AM.intro (by decide) (fun xs hx => ?_) (fun g xs h Z hl C hr hx hf => ?_)
  · obtain ⟨a0, a1, a2, rfl, c0, c1, c2⟩ := canL_3 hx
    exact Nat.le_of_ble_eq_true rfl
  · obtain ⟨a0, a1, a2, rfl, c0, c1, c2⟩ := canL_3 hx
    have hf := (un3_e _ a0 a1 a2 _).symm.trans hf
    exact e_X1_goesOn (n := n) C hr c0 c1 c2 hf
/-! LinesPromised$Land.follow(LLinesPromised$Sheet;II)I -/
theorem dX1_follow_0 : decode cX1_follow 0 = .ok (.iconst 0, 1) := by decide +kernel
theorem dX1_follow_1 : decode cX1_follow 1 = .ok (.istore 4, 2) := by decide +kernel
theorem dX1_follow_3 : decode cX1_follow 3 = .ok (.iload 4, 2) := by decide +kernel
theorem dX1_follow_5 : decode cX1_follow 5 = .ok (.aload_n 1, 1) := by decide +kernel
theorem dX1_follow_6 : decode cX1_follow 6 = .ok (.getfield 41, 3) := by decide +kernel
theorem dX1_follow_9 : decode cX1_follow 9 = .ok (.if_icmp .ge 38, 3) := by decide +kernel
theorem dX1_follow_12 : decode cX1_follow 12 = .ok (.aload_n 1, 1) := by decide +kernel
theorem dX1_follow_13 : decode cX1_follow 13 = .ok (.iload 4, 2) := by decide +kernel
theorem dX1_follow_15 : decode cX1_follow 15 = .ok (.iload_n 2, 1) := by decide +kernel
theorem dX1_follow_16 : decode cX1_follow 16 = .ok (.invokestatic 46, 3) := by decide +kernel
theorem dX1_follow_19 : decode cX1_follow 19 = .ok (.ifCond .ne 6, 3) := by decide +kernel
theorem dX1_follow_22 : decode cX1_follow 22 = .ok (.iload 4, 2) := by decide +kernel
theorem dX1_follow_24 : decode cX1_follow 24 = .ok (.ireturn, 1) := by decide +kernel
theorem dX1_follow_25 : decode cX1_follow 25 = .ok (.aload_n 1, 1) := by decide +kernel
theorem dX1_follow_26 : decode cX1_follow 26 = .ok (.getfield 50, 3) := by decide +kernel
theorem dX1_follow_29 : decode cX1_follow 29 = .ok (.iload 4, 2) := by decide +kernel
theorem dX1_follow_31 : decode cX1_follow 31 = .ok (.iaload, 1) := by decide +kernel
theorem dX1_follow_32 : decode cX1_follow 32 = .ok (.iload_n 3, 1) := by decide +kernel
theorem dX1_follow_33 : decode cX1_follow 33 = .ok (.if_icmp .ne 8, 3) := by decide +kernel
theorem dX1_follow_36 : decode cX1_follow 36 = .ok (.iload 4, 2) := by decide +kernel
theorem dX1_follow_38 : decode cX1_follow 38 = .ok (.iconst 1, 1) := by decide +kernel
theorem dX1_follow_39 : decode cX1_follow 39 = .ok (.iadd, 1) := by decide +kernel
theorem dX1_follow_40 : decode cX1_follow 40 = .ok (.ireturn, 1) := by decide +kernel
theorem dX1_follow_41 : decode cX1_follow 41 = .ok (.iinc 4 1, 3) := by decide +kernel
theorem dX1_follow_44 : decode cX1_follow 44 = .ok (.goto (-41), 3) := by decide +kernel
theorem dX1_follow_47 : decode cX1_follow 47 = .ok (.aload_n 1, 1) := by decide +kernel
theorem dX1_follow_48 : decode cX1_follow 48 = .ok (.getfield 41, 3) := by decide +kernel
theorem dX1_follow_51 : decode cX1_follow 51 = .ok (.ireturn, 1) := by decide +kernel
theorem cm_X1_follow : CM yX1_follow cX1_follow 5 (some .int) 3 1 := ⟨w_815, w_816, w_817, w_89, ⟨by decide +kernel, by decide +kernel, by decide +kernel⟩, ⟨_, _, rfl⟩, by decide⟩
noncomputable def f_X1_follow_3b (n : Nat) (rec3 : Int → MM → RR) (v1 v2 v3 v4 : Int) (h : MM) : RR :=
  gf h v1 9 2 fun r1 =>
  if r1 ≤ v4 then
    gf h v1 9 2 fun r3 =>
    some (r3, h)
  else
  bd (f_X1_goesOn n v1 v4 v2 h) fun r4 h4 =>
  if r4 = 0 then
    some (v4, h4)
  else
  gf h4 v1 9 0 fun r6 =>
  rd h4 r6 100 v4 fun r7 =>
  if r7 = v3 then
    some (wr (v4 + 1), h4)
  else
  lb (wr (v4 + 1)) fun x9 =>
  rec3 x9 h4
noncomputable def f_X1_follow_3 (n : Nat)  (v1 v2 v3 : Int) : Nat → Int → MM → RR
  | 0, _, _ => none
  | k + 1, v4, h => f_X1_follow_3b n  (f_X1_follow_3 n  v1 v2 v3 k) v1 v2 v3 v4 h
noncomputable def f_X1_follow (n : Nat) (v0 v1 v2 v3 : Int) (h : MM) : RR :=
  f_X1_follow_3 n v1 v2 v3 n 0 h
set_option maxRecDepth 20000 in
theorem b_X1_follow_3b {g : GT} {Z : Int × MM} {n : Nat} (C : Cx g cX1_follow 5 yX1_follow 3 67) (hr : Rt g (some .int) 0 Z) {v1 v2 v3 v4 : Int}  {rec3 : Int → MM → RR} (L3 : ∀ (u4 : Int) (h : MM), in32 u4 → rec3 u4 h = some Z → G g 3 [(3, 0), (2, v1), (0, v2), (0, v3), (0, u4)] [] h) (cv2 : in32 v2) (cv3 : in32 v3) (cv4 : in32 v4) {h : MM} (hf : f_X1_follow_3b n rec3 v1 v2 v3 v4 h = some Z) : G g 3 [(3, 0), (2, v1), (0, v2), (0, v3), (0, v4)] [] h := by
  unfold f_X1_follow_3b at hf
  refine r_iload C dX1_follow_3 rfl ?_
  refine r_aload_n C dX1_follow_5 rfl ?_
  obtain ⟨q1, hf⟩ := gf_s hf
  refine r_gf C ct9 (j := 2) (ji := 2) dX1_follow_6 q1 rfl rfl (by decide) w_288 rfl (fun c1 => ?_)
  have c1 : in32 _ := c1
  refine r_icmp_ge C dX1_follow_9 (tgt := 47) (by decide) cv4 c1 (fun n2 => ?_) (fun n2 => ?_)
  · have hf := ite_p n2 hf
    refine r_aload_n C dX1_follow_47 rfl ?_
    obtain ⟨q3, hf⟩ := gf_s hf
    refine r_gf C ct9 (j := 2) (ji := 2) dX1_follow_48 q3 rfl rfl (by decide) w_288 rfl (fun c3 => ?_)
    have c3 : in32 _ := c3
    cases hf
    exact r_jret C hr dX1_follow_51 c3
  · have hf := ite_n n2 hf
    refine r_aload_n C dX1_follow_12 rfl ?_
    refine r_iload C dX1_follow_13 rfl ?_
    refine r_iload_n C dX1_follow_15 rfl ?_
    obtain ⟨r4, h4, hq4, hf⟩ := bd_s hf
    refine r_cS3 C (am_X1_goesOn (gl g) n) cm_X1_goesOn w_818 dX1_follow_16 ⟨Nat.le_of_ble_eq_true rfl, Nat.le_of_ble_eq_true rfl⟩ trivial cv4 cv2 rfl (Nat.le_of_ble_eq_true rfl) hq4 (by decide) (fun c4 => ?_)
    have c4 : in32 _ := c4
    refine r_if_ne C dX1_follow_19 (tgt := 25) (by decide) c4 (fun n5 => ?_) (fun n5 => ?_)
    · have hf := ite_n n5 hf
      refine r_aload_n C dX1_follow_25 rfl ?_
      obtain ⟨q6, hf⟩ := gf_s hf
      refine r_gf C ct9 (j := 0) (ji := 0) dX1_follow_26 q6 rfl rfl (by decide) w_281 rfl (fun c6 => ?_)
      refine r_iload C dX1_follow_29 rfl ?_
      obtain ⟨q7, hf⟩ := rd_s hf
      refine r_iald C dX1_follow_31 q7 rfl (fun c7 => ?_)
      refine r_iload_n C dX1_follow_32 rfl ?_
      refine r_icmp_ne C dX1_follow_33 (tgt := 41) (by decide) c7 cv3 (fun n8 => ?_) (fun n8 => ?_)
      · have hf := ite_n n8 hf
        obtain ⟨x9, e9, hf⟩ := lb_s hf
        have c9 : in32 x9 := by rw [e9]; exact (in32_t _)
        refine r_iincL C dX1_follow_41 rfl e9 (Nat.le_of_ble_eq_true rfl) rfl ?_
        refine r_goto C dX1_follow_44 (tgt := 3) (by decide) ?_
        exact G.mask [false, true, true, true, true] rfl rfl (L3 _ _ c9 hf)
      · have hf := ite_p n8 hf
        refine r_iload C dX1_follow_36 rfl ?_
        refine r_iconst C dX1_follow_38 ?_
        refine r_iadd C dX1_follow_39 ?_
        cases hf
        exact r_jret C hr dX1_follow_40 (in32_t _)
    · have hf := ite_p n5 hf
      refine r_iload C dX1_follow_22 rfl ?_
      cases hf
      exact r_jret C hr dX1_follow_24 cv4
set_option maxRecDepth 20000 in
theorem l_X1_follow_3 {g : GT} {Z : Int × MM} {n : Nat} (C : Cx g cX1_follow 5 yX1_follow 3 67) (hr : Rt g (some .int) 0 Z) {v1 v2 v3 : Int}   (cv2 : in32 v2) (cv3 : in32 v3) : ∀ (k : Nat) (v4 : Int) (h : MM), in32 v4 → f_X1_follow_3 n  v1 v2 v3 k v4 h = some Z → G g 3 [(3, 0), (2, v1), (0, v2), (0, v3), (0, v4)] [] h := by
  intro k
  induction k with
  | zero => intro v4 h cv4 hf; exact absurd hf (by intro z; cases z)
  | succ k ih => intro v4 h cv4 hf; exact b_X1_follow_3b C hr (rec3 := f_X1_follow_3 n  v1 v2 v3 k)  ih cv2 cv3 cv4 (show f_X1_follow_3b n  (f_X1_follow_3 n  v1 v2 v3 k) v1 v2 v3 v4 h = some Z from hf)
set_option maxRecDepth 20000 in
theorem e_X1_follow {g : GT} {Z : Int × MM} {n : Nat} (C : Cx g cX1_follow 5 yX1_follow 3 67) (hr : Rt g (some .int) 0 Z) {v0 v1 v2 v3 : Int} (cv0 : cK 2 v0) (cv1 : cK 2 v1) (cv2 : cK 0 v2) (cv3 : cK 0 v3) {h : MM} (hf : f_X1_follow n v0 v1 v2 v3 h = some Z) : G g 0 [(2, v0), (2, v1), (0, v2), (0, v3), (3, 0)] [] h := by
  have cv2 : in32 v2 := cv2
  have cv3 : in32 v3 := cv3
  unfold f_X1_follow at hf
  refine r_iconst C dX1_follow_0 ?_
  refine r_istore C dX1_follow_1 (Nat.le_of_ble_eq_true rfl) rfl ?_
  exact G.mask [false, true, true, true, true] rfl rfl (l_X1_follow_3 C hr  cv2 cv3 _ _ _ (in32_of rfl) hf)
set_option maxRecDepth 20000 in
theorem am_X1_follow (l : Launch) (n : Nat) : AM l yX1_follow cX1_follow 5 (some .int) 3 67 [2, 2, 0, 0] 0 (un4 (f_X1_follow n)) := by
  refine AM.intro (by decide) (fun xs hx => ?_) (fun g xs h Z hl C hr hx hf => ?_)
  · obtain ⟨a0, a1, a2, a3, rfl, c0, c1, c2, c3⟩ := canL_4 hx
    exact Nat.le_of_ble_eq_true rfl
  · obtain ⟨a0, a1, a2, a3, rfl, c0, c1, c2, c3⟩ := canL_4 hx
    have hf := (un4_e _ a0 a1 a2 a3 _).symm.trans hf
    exact e_X1_follow (n := n) C hr c0 c1 c2 c3 hf
/-! java/util/Arrays.copyOf([II)[I -/
theorem dJ7_copyOf_59c91_0 : decode cJ7_copyOf_59c91 0 = .ok (.iload_n 1, 1) := by decide +kernel
theorem dJ7_copyOf_59c91_1 : decode cJ7_copyOf_59c91 1 = .ok (.aload_n 0, 1) := by decide +kernel
theorem dJ7_copyOf_59c91_2 : decode cJ7_copyOf_59c91 2 = .ok (.arraylength, 1) := by decide +kernel
theorem dJ7_copyOf_59c91_3 : decode cJ7_copyOf_59c91 3 = .ok (.if_icmp .ne 11, 3) := by decide +kernel
theorem dJ7_copyOf_59c91_6 : decode cJ7_copyOf_59c91 6 = .ok (.aload_n 0, 1) := by decide +kernel
theorem dJ7_copyOf_59c91_7 : decode cJ7_copyOf_59c91 7 = .ok (.invokevirtual 316, 3) := by decide +kernel
theorem dJ7_copyOf_59c91_10 : decode cJ7_copyOf_59c91 10 = .ok (.checkcast 317, 3) := by decide +kernel
theorem dJ7_copyOf_59c91_13 : decode cJ7_copyOf_59c91 13 = .ok (.areturn, 1) := by decide +kernel
theorem dJ7_copyOf_59c91_14 : decode cJ7_copyOf_59c91 14 = .ok (.iload_n 1, 1) := by decide +kernel
theorem dJ7_copyOf_59c91_15 : decode cJ7_copyOf_59c91 15 = .ok (.newarray .int, 2) := by decide +kernel
theorem dJ7_copyOf_59c91_17 : decode cJ7_copyOf_59c91 17 = .ok (.astore_n 2, 1) := by decide +kernel
theorem dJ7_copyOf_59c91_18 : decode cJ7_copyOf_59c91 18 = .ok (.aload_n 0, 1) := by decide +kernel
theorem dJ7_copyOf_59c91_19 : decode cJ7_copyOf_59c91 19 = .ok (.iconst 0, 1) := by decide +kernel
theorem dJ7_copyOf_59c91_20 : decode cJ7_copyOf_59c91 20 = .ok (.aload_n 2, 1) := by decide +kernel
theorem dJ7_copyOf_59c91_21 : decode cJ7_copyOf_59c91 21 = .ok (.iconst 0, 1) := by decide +kernel
theorem dJ7_copyOf_59c91_22 : decode cJ7_copyOf_59c91 22 = .ok (.aload_n 0, 1) := by decide +kernel
theorem dJ7_copyOf_59c91_23 : decode cJ7_copyOf_59c91 23 = .ok (.arraylength, 1) := by decide +kernel
theorem dJ7_copyOf_59c91_24 : decode cJ7_copyOf_59c91 24 = .ok (.iload_n 1, 1) := by decide +kernel
theorem dJ7_copyOf_59c91_25 : decode cJ7_copyOf_59c91 25 = .ok (.invokestatic 304, 3) := by decide +kernel
theorem dJ7_copyOf_59c91_28 : decode cJ7_copyOf_59c91 28 = .ok (.invokestatic 150, 3) := by decide +kernel
theorem dJ7_copyOf_59c91_31 : decode cJ7_copyOf_59c91 31 = .ok (.aload_n 2, 1) := by decide +kernel
theorem dJ7_copyOf_59c91_32 : decode cJ7_copyOf_59c91 32 = .ok (.areturn, 1) := by decide +kernel
theorem cm_J7_copyOf_59c91 : CMs yJ7_copyOf_59c91 cJ7_copyOf_59c91 3 (some (.array .int)) 2 := ⟨w_829, w_830, w_99, ⟨by decide +kernel, by decide +kernel, by decide +kernel⟩⟩
noncomputable def f_J7_copyOf_59c91 (n : Nat) (v0 v1 : Int) (h : MM) : RR :=
  al h v0 100 fun r1 =>
  if v1 = r1 then
    cln h 100 v0 fun r6 h6 =>
    gk2 h6 r6 100 <|
    some (r6, h6)
  else
  na h 100 v1 fun r3 h3 =>
  al h3 v0 100 fun r4 =>
  ac h3 100 v0 0 r3 0 (jmin r4 v1) fun h5 =>
  some (r3, h5)
set_option maxRecDepth 20000 in
theorem e_J7_copyOf_59c91 {g : GT} {Z : Int × MM} {n : Nat} (C : Cx g cJ7_copyOf_59c91 3 yJ7_copyOf_59c91 1 60) (hr : Rt g (some (.array .int)) 2 Z) {v0 v1 : Int} (cv0 : cK 2 v0) (cv1 : cK 0 v1) {h : MM} (hf : f_J7_copyOf_59c91 n v0 v1 h = some Z) : G g 0 [(2, v0), (0, v1), (3, 0)] [] h := by
  have cv1 : in32 v1 := cv1
  unfold f_J7_copyOf_59c91 at hf
  refine r_iload_n C dJ7_copyOf_59c91_0 rfl ?_
  refine r_aload_n C dJ7_copyOf_59c91_1 rfl ?_
  obtain ⟨q1, hf⟩ := al_s hf
  refine r_alen C (tn := 100) dJ7_copyOf_59c91_2 q1 rfl (by decide) (fun c1 _ => ?_)
  refine r_icmp_ne C dJ7_copyOf_59c91_3 (tgt := 14) (by decide) cv1 c1 (fun n2 => ?_) (fun n2 => ?_)
  · have hf := ite_n n2 hf
    refine r_iload_n C dJ7_copyOf_59c91_14 rfl ?_
    obtain ⟨q3, hf⟩ := na_s hf
    refine r_na C (tn := 100) (t := 100) dJ7_copyOf_59c91_15 q3 rfl (by decide) (by decide) w_156 ?_
    refine r_astore_n C dJ7_copyOf_59c91_17 (Nat.le_of_ble_eq_true rfl) rfl ?_
    refine r_aload_n C dJ7_copyOf_59c91_18 rfl ?_
    refine r_iconst C dJ7_copyOf_59c91_19 ?_
    refine r_aload_n C dJ7_copyOf_59c91_20 rfl ?_
    refine r_iconst C dJ7_copyOf_59c91_21 ?_
    refine r_aload_n C dJ7_copyOf_59c91_22 rfl ?_
    obtain ⟨q4, hf⟩ := al_s hf
    refine r_alen C (tn := 100) dJ7_copyOf_59c91_23 q4 rfl (by decide) (fun c4 _ => ?_)
    refine r_iload_n C dJ7_copyOf_59c91_24 rfl ?_
    refine r_mmin C dJ7_copyOf_59c91_25 w_523 ⟨Nat.le_of_ble_eq_true rfl, Nat.le_of_ble_eq_true rfl⟩ rfl c4 cv1 ?_
    obtain ⟨q5, hf⟩ := ac_s hf
    refine r_acopy C (t := 100) dJ7_copyOf_59c91_28 q5 rfl (by decide) (by decide) w_526 wa1 wa2 wa3 ⟨Nat.le_of_ble_eq_true rfl, by decide⟩ rfl ?_
    refine r_aload_n C dJ7_copyOf_59c91_31 rfl ?_
    cases hf
    exact r_aret C hr dJ7_copyOf_59c91_32 (Or.inr ⟨_, rfl⟩)
  · have hf := ite_p n2 hf
    refine r_aload_n C dJ7_copyOf_59c91_6 rfl ?_
    obtain ⟨q6, hf⟩ := cln_s hf
    refine r_aclone C (t := 100) dJ7_copyOf_59c91_7 q6 rfl (by decide) (by decide) rfl w_831 wc100a wc1 wc2 wc100b C.hK.2.2.2.2.2.2.2.2.2.1 ⟨Nat.le_of_ble_eq_true rfl, Nat.le_of_ble_eq_true rfl⟩ rfl ?_
    obtain ⟨p7, hf⟩ := gk2_s hf
    refine r_ccast C (t := 100) dJ7_copyOf_59c91_10 w_835 p7 rfl (by decide) (by decide) rfl ?_
    cases hf
    exact r_aret C hr dJ7_copyOf_59c91_13 (Or.inr ⟨_, rfl⟩)
set_option maxRecDepth 20000 in
theorem am_J7_copyOf_59c91 (l : Launch) (n : Nat) : AM l yJ7_copyOf_59c91 cJ7_copyOf_59c91 3 (some (.array .int)) 1 60 [2, 0] 2 (un2 (f_J7_copyOf_59c91 n)) := by
  refine AM.intro (by decide) (fun xs hx => ?_) (fun g xs h Z hl C hr hx hf => ?_)
  · obtain ⟨a0, a1, rfl, c0, c1⟩ := canL_2 hx
    exact Nat.le_of_ble_eq_true rfl
  · obtain ⟨a0, a1, rfl, c0, c1⟩ := canL_2 hx
    have hf := (un2_e _ a0 a1 _).symm.trans hf
    exact e_J7_copyOf_59c91 (n := n) C hr c0 c1 hf
/-! LinesPromised$Land.riseTo([III)I -/
theorem dX1_riseTo_0 : decode cX1_riseTo 0 = .ok (.iload_n 3, 1) := by decide +kernel
theorem dX1_riseTo_1 : decode cX1_riseTo 1 = .ok (.ldc 73, 2) := by decide +kernel
theorem dX1_riseTo_3 : decode cX1_riseTo 3 = .ok (.if_icmp .ne 23, 3) := by decide +kernel
theorem dX1_riseTo_6 : decode cX1_riseTo 6 = .ok (.aload_n 0, 1) := by decide +kernel
theorem dX1_riseTo_7 : decode cX1_riseTo 7 = .ok (.getfield 9, 3) := by decide +kernel
theorem dX1_riseTo_10 : decode cX1_riseTo 10 = .ok (.aload_n 1, 1) := by decide +kernel
theorem dX1_riseTo_11 : decode cX1_riseTo 11 = .ok (.iload_n 2, 1) := by decide +kernel
theorem dX1_riseTo_12 : decode cX1_riseTo 12 = .ok (.iaload, 1) := by decide +kernel
theorem dX1_riseTo_13 : decode cX1_riseTo 13 = .ok (.iaload, 1) := by decide +kernel
theorem dX1_riseTo_14 : decode cX1_riseTo 14 = .ok (.aload_n 0, 1) := by decide +kernel
theorem dX1_riseTo_15 : decode cX1_riseTo 15 = .ok (.getfield 9, 3) := by decide +kernel
theorem dX1_riseTo_18 : decode cX1_riseTo 18 = .ok (.aload_n 1, 1) := by decide +kernel
theorem dX1_riseTo_19 : decode cX1_riseTo 19 = .ok (.iload_n 2, 1) := by decide +kernel
theorem dX1_riseTo_20 : decode cX1_riseTo 20 = .ok (.iconst 1, 1) := by decide +kernel
theorem dX1_riseTo_21 : decode cX1_riseTo 21 = .ok (.isub, 1) := by decide +kernel
theorem dX1_riseTo_22 : decode cX1_riseTo 22 = .ok (.iaload, 1) := by decide +kernel
theorem dX1_riseTo_23 : decode cX1_riseTo 23 = .ok (.iaload, 1) := by decide +kernel
theorem dX1_riseTo_24 : decode cX1_riseTo 24 = .ok (.isub, 1) := by decide +kernel
theorem dX1_riseTo_25 : decode cX1_riseTo 25 = .ok (.ireturn, 1) := by decide +kernel
theorem dX1_riseTo_26 : decode cX1_riseTo 26 = .ok (.sipush (-10000), 3) := by decide +kernel
theorem dX1_riseTo_29 : decode cX1_riseTo 29 = .ok (.sipush 10000, 3) := by decide +kernel
theorem dX1_riseTo_32 : decode cX1_riseTo 32 = .ok (.iload_n 3, 1) := by decide +kernel
theorem dX1_riseTo_33 : decode cX1_riseTo 33 = .ok (.invokestatic 64, 3) := by decide +kernel
theorem dX1_riseTo_36 : decode cX1_riseTo 36 = .ok (.invokestatic 74, 3) := by decide +kernel
theorem dX1_riseTo_39 : decode cX1_riseTo 39 = .ok (.ireturn, 1) := by decide +kernel
theorem cm_X1_riseTo : CM yX1_riseTo cX1_riseTo 4 (some .int) 3 1 := ⟨w_844, w_11, w_845, w_89, ⟨by decide +kernel, by decide +kernel, by decide +kernel⟩, ⟨_, _, rfl⟩, by decide⟩
noncomputable def f_X1_riseTo (n : Nat) (v0 v1 v2 v3 : Int) (h : MM) : RR :=
  if v3 = 1000000 then
    gf h v0 1 0 fun r2 =>
    rd h v1 100 v2 fun r3 =>
    rd h r2 100 r3 fun r4 =>
    gf h v0 1 0 fun r5 =>
    rd h v1 100 (wr (v2 - 1)) fun r6 =>
    rd h r5 100 r6 fun r7 =>
    some (wr (r4 - r7), h)
  else
  some (jmax ((-10000)) (jmin 10000 v3), h)
set_option maxRecDepth 20000 in
theorem e_X1_riseTo {g : GT} {Z : Int × MM} {n : Nat} (C : Cx g cX1_riseTo 4 yX1_riseTo 1 24) (hr : Rt g (some .int) 0 Z) {v0 v1 v2 v3 : Int} (cv0 : cK 2 v0) (cv1 : cK 2 v1) (cv2 : cK 0 v2) (cv3 : cK 0 v3) {h : MM} (hf : f_X1_riseTo n v0 v1 v2 v3 h = some Z) : G g 0 [(2, v0), (2, v1), (0, v2), (0, v3)] [] h := by
  have cv2 : in32 v2 := cv2
  have cv3 : in32 v3 := cv3
  unfold f_X1_riseTo at hf
  refine r_iload_n C dX1_riseTo_0 rfl ?_
  refine r_ldc C (v := 1000000) dX1_riseTo_1 w_846 ?_
  refine r_icmp_ne C dX1_riseTo_3 (tgt := 26) (by decide) cv3 (in32_of rfl) (fun n1 => ?_) (fun n1 => ?_)
  · have hf := ite_n n1 hf
    refine r_sipush C dX1_riseTo_26 rfl ?_
    refine r_sipush C dX1_riseTo_29 rfl ?_
    refine r_iload_n C dX1_riseTo_32 rfl ?_
    refine r_mmin C dX1_riseTo_33 w_841 ⟨Nat.le_of_ble_eq_true rfl, Nat.le_of_ble_eq_true rfl⟩ rfl (in32_of rfl) cv3 ?_
    refine r_mmax C dX1_riseTo_36 w_847 ⟨Nat.le_of_ble_eq_true rfl, Nat.le_of_ble_eq_true rfl⟩ rfl (in32_of rfl) (in32_min (in32_of rfl) cv3) ?_
    cases hf
    exact r_jret C hr dX1_riseTo_39 (in32_max (in32_of rfl) (in32_min (in32_of rfl) cv3))
  · have hf := ite_p n1 hf
    refine r_aload_n C dX1_riseTo_6 rfl ?_
    obtain ⟨q2, hf⟩ := gf_s hf
    refine r_gf C ct1 (j := 0) (ji := 0) dX1_riseTo_7 q2 rfl rfl (by decide) w_128 rfl (fun c2 => ?_)
    refine r_aload_n C dX1_riseTo_10 rfl ?_
    refine r_iload_n C dX1_riseTo_11 rfl ?_
    obtain ⟨q3, hf⟩ := rd_s hf
    refine r_iald C dX1_riseTo_12 q3 rfl (fun c3 => ?_)
    obtain ⟨q4, hf⟩ := rd_s hf
    refine r_iald C dX1_riseTo_13 q4 rfl (fun c4 => ?_)
    refine r_aload_n C dX1_riseTo_14 rfl ?_
    obtain ⟨q5, hf⟩ := gf_s hf
    refine r_gf C ct1 (j := 0) (ji := 0) dX1_riseTo_15 q5 rfl rfl (by decide) w_128 rfl (fun c5 => ?_)
    refine r_aload_n C dX1_riseTo_18 rfl ?_
    refine r_iload_n C dX1_riseTo_19 rfl ?_
    refine r_iconst C dX1_riseTo_20 ?_
    refine r_isub C dX1_riseTo_21 ?_
    obtain ⟨q6, hf⟩ := rd_s hf
    refine r_iald C dX1_riseTo_22 q6 rfl (fun c6 => ?_)
    obtain ⟨q7, hf⟩ := rd_s hf
    refine r_iald C dX1_riseTo_23 q7 rfl (fun c7 => ?_)
    refine r_isub C dX1_riseTo_24 ?_
    cases hf
    exact r_jret C hr dX1_riseTo_25 (in32_t _)
set_option maxRecDepth 20000 in
theorem am_X1_riseTo (l : Launch) (n : Nat) : AM l yX1_riseTo cX1_riseTo 4 (some .int) 1 24 [2, 2, 0, 0] 0 (un4 (f_X1_riseTo n)) := by
  refine AM.intro (by decide) (fun xs hx => ?_) (fun g xs h Z hl C hr hx hf => ?_)
  · obtain ⟨a0, a1, a2, a3, rfl, c0, c1, c2, c3⟩ := canL_4 hx
    exact Nat.le_of_ble_eq_true rfl
  · obtain ⟨a0, a1, a2, a3, rfl, c0, c1, c2, c3⟩ := canL_4 hx
    have hf := (un4_e _ a0 a1 a2 a3 _).symm.trans hf
    exact e_X1_riseTo (n := n) C hr c0 c1 c2 c3 hf
/-! LinesPromised$Land.levelsOf([ILLinesPromised$Sheet;)[I -/
theorem dX1_levelsOf_0 : decode cX1_levelsOf 0 = .ok (.aload_n 1, 1) := by decide +kernel
theorem dX1_levelsOf_1 : decode cX1_levelsOf 1 = .ok (.arraylength, 1) := by decide +kernel
theorem dX1_levelsOf_2 : decode cX1_levelsOf 2 = .ok (.aload_n 2, 1) := by decide +kernel
theorem dX1_levelsOf_3 : decode cX1_levelsOf 3 = .ok (.getfield 61, 3) := by decide +kernel
theorem dX1_levelsOf_6 : decode cX1_levelsOf 6 = .ok (.iconst 2, 1) := by decide +kernel
theorem dX1_levelsOf_7 : decode cX1_levelsOf 7 = .ok (.if_icmp .ne 12, 3) := by decide +kernel
theorem dX1_levelsOf_10 : decode cX1_levelsOf 10 = .ok (.aload_n 2, 1) := by decide +kernel
theorem dX1_levelsOf_11 : decode cX1_levelsOf 11 = .ok (.getfield 41, 3) := by decide +kernel
theorem dX1_levelsOf_14 : decode cX1_levelsOf 14 = .ok (.iconst 1, 1) := by decide +kernel
theorem dX1_levelsOf_15 : decode cX1_levelsOf 15 = .ok (.iadd, 1) := by decide +kernel
theorem dX1_levelsOf_16 : decode cX1_levelsOf 16 = .ok (.goto 4, 3) := by decide +kernel
theorem dX1_levelsOf_19 : decode cX1_levelsOf 19 = .ok (.iconst 1, 1) := by decide +kernel
theorem dX1_levelsOf_20 : decode cX1_levelsOf 20 = .ok (.invokestatic 64, 3) := by decide +kernel
theorem dX1_levelsOf_23 : decode cX1_levelsOf 23 = .ok (.istore_n 3, 1) := by decide +kernel
theorem dX1_levelsOf_24 : decode cX1_levelsOf 24 = .ok (.iload_n 3, 1) := by decide +kernel
theorem dX1_levelsOf_25 : decode cX1_levelsOf 25 = .ok (.newarray .int, 2) := by decide +kernel
theorem dX1_levelsOf_27 : decode cX1_levelsOf 27 = .ok (.astore 4, 2) := by decide +kernel
theorem dX1_levelsOf_29 : decode cX1_levelsOf 29 = .ok (.iconst 0, 1) := by decide +kernel
theorem dX1_levelsOf_30 : decode cX1_levelsOf 30 = .ok (.istore 5, 2) := by decide +kernel
theorem dX1_levelsOf_32 : decode cX1_levelsOf 32 = .ok (.iload 5, 2) := by decide +kernel
theorem dX1_levelsOf_34 : decode cX1_levelsOf 34 = .ok (.iload_n 3, 1) := by decide +kernel
theorem dX1_levelsOf_35 : decode cX1_levelsOf 35 = .ok (.if_icmp .ge 54, 3) := by decide +kernel
theorem dX1_levelsOf_38 : decode cX1_levelsOf 38 = .ok (.aload 4, 2) := by decide +kernel
theorem dX1_levelsOf_40 : decode cX1_levelsOf 40 = .ok (.iload 5, 2) := by decide +kernel
theorem dX1_levelsOf_42 : decode cX1_levelsOf 42 = .ok (.iload 5, 2) := by decide +kernel
theorem dX1_levelsOf_44 : decode cX1_levelsOf 44 = .ok (.ifCond .ne 14, 3) := by decide +kernel
theorem dX1_levelsOf_47 : decode cX1_levelsOf 47 = .ok (.aload_n 0, 1) := by decide +kernel
theorem dX1_levelsOf_48 : decode cX1_levelsOf 48 = .ok (.getfield 9, 3) := by decide +kernel
theorem dX1_levelsOf_51 : decode cX1_levelsOf 51 = .ok (.aload_n 1, 1) := by decide +kernel
theorem dX1_levelsOf_52 : decode cX1_levelsOf 52 = .ok (.iconst 0, 1) := by decide +kernel
theorem dX1_levelsOf_53 : decode cX1_levelsOf 53 = .ok (.iaload, 1) := by decide +kernel
theorem dX1_levelsOf_54 : decode cX1_levelsOf 54 = .ok (.iaload, 1) := by decide +kernel
theorem dX1_levelsOf_55 : decode cX1_levelsOf 55 = .ok (.goto 27, 3) := by decide +kernel
theorem dX1_levelsOf_58 : decode cX1_levelsOf 58 = .ok (.aload 4, 2) := by decide +kernel
theorem dX1_levelsOf_60 : decode cX1_levelsOf 60 = .ok (.iload 5, 2) := by decide +kernel
theorem dX1_levelsOf_62 : decode cX1_levelsOf 62 = .ok (.iconst 1, 1) := by decide +kernel
theorem dX1_levelsOf_63 : decode cX1_levelsOf 63 = .ok (.isub, 1) := by decide +kernel
theorem dX1_levelsOf_64 : decode cX1_levelsOf 64 = .ok (.iaload, 1) := by decide +kernel
theorem dX1_levelsOf_65 : decode cX1_levelsOf 65 = .ok (.aload_n 0, 1) := by decide +kernel
theorem dX1_levelsOf_66 : decode cX1_levelsOf 66 = .ok (.aload_n 1, 1) := by decide +kernel
theorem dX1_levelsOf_67 : decode cX1_levelsOf 67 = .ok (.iload 5, 2) := by decide +kernel
theorem dX1_levelsOf_69 : decode cX1_levelsOf 69 = .ok (.aload_n 2, 1) := by decide +kernel
theorem dX1_levelsOf_70 : decode cX1_levelsOf 70 = .ok (.getfield 50, 3) := by decide +kernel
theorem dX1_levelsOf_73 : decode cX1_levelsOf 73 = .ok (.iload 5, 2) := by decide +kernel
theorem dX1_levelsOf_75 : decode cX1_levelsOf 75 = .ok (.iconst 1, 1) := by decide +kernel
theorem dX1_levelsOf_76 : decode cX1_levelsOf 76 = .ok (.isub, 1) := by decide +kernel
theorem dX1_levelsOf_77 : decode cX1_levelsOf 77 = .ok (.iaload, 1) := by decide +kernel
theorem dX1_levelsOf_78 : decode cX1_levelsOf 78 = .ok (.invokevirtual 69, 3) := by decide +kernel
theorem dX1_levelsOf_81 : decode cX1_levelsOf 81 = .ok (.iadd, 1) := by decide +kernel
theorem dX1_levelsOf_82 : decode cX1_levelsOf 82 = .ok (.iastore, 1) := by decide +kernel
theorem dX1_levelsOf_83 : decode cX1_levelsOf 83 = .ok (.iinc 5 1, 3) := by decide +kernel
theorem dX1_levelsOf_86 : decode cX1_levelsOf 86 = .ok (.goto (-54), 3) := by decide +kernel
theorem dX1_levelsOf_89 : decode cX1_levelsOf 89 = .ok (.aload 4, 2) := by decide +kernel
theorem dX1_levelsOf_91 : decode cX1_levelsOf 91 = .ok (.areturn, 1) := by decide +kernel
theorem cm_X1_levelsOf : CM yX1_levelsOf cX1_levelsOf 6 (some (.array .int)) 2 1 := ⟨w_838, w_839, w_840, w_89, ⟨by decide +kernel, by decide +kernel, by decide +kernel⟩, ⟨_, _, rfl⟩, by decide⟩
noncomputable def f_X1_levelsOf_82 (n : Nat) (rec32 : Int → MM → RR) (v0 v1 v2 v3 v4 v5 s0 s1 s2 : Int) (h : MM) : RR :=
  wt h s0 100 s1 s2 fun h1 =>
  lb (wr (v5 + 1)) fun x2 =>
  rec32 x2 h1
noncomputable def f_X1_levelsOf_32b (n : Nat) (rec32 : Int → MM → RR) (v0 v1 v2 v3 v4 v5 : Int) (h : MM) : RR :=
  if v3 ≤ v5 then
    some (v4, h)
  else
  if v5 = 0 then
    gf h v0 1 0 fun r7 =>
    rd h v1 100 0 fun r8 =>
    rd h r7 100 r8 fun r9 =>
    f_X1_levelsOf_82 n rec32 v0 v1 v2 v3 v4 v5 v4 v5 r9 h
  else
  rd h v4 100 (wr (v5 - 1)) fun r3 =>
  gf h v2 9 0 fun r4 =>
  rd h r4 100 (wr (v5 - 1)) fun r5 =>
  gk h v0 1 <|
  bd (f_X1_riseTo n v0 v1 v5 r5 h) fun r6 h6 =>
  f_X1_levelsOf_82 n rec32 v0 v1 v2 v3 v4 v5 v4 v5 (wr (r3 + r6)) h6
noncomputable def f_X1_levelsOf_32 (n : Nat)  (v0 v1 v2 v3 v4 : Int) : Nat → Int → MM → RR
  | 0, _, _ => none
  | k + 1, v5, h => f_X1_levelsOf_32b n  (f_X1_levelsOf_32 n  v0 v1 v2 v3 v4 k) v0 v1 v2 v3 v4 v5 h
noncomputable def f_X1_levelsOf_20 (n : Nat)  (v0 v1 v2 s0 s1 : Int) (h : MM) : RR :=
  lb (jmin s0 s1) fun x1 =>
  na h 100 x1 fun r2 h2 =>
  f_X1_levelsOf_32 n v0 v1 v2 x1 r2 n 0 h2
noncomputable def f_X1_levelsOf (n : Nat) (v0 v1 v2 : Int) (h : MM) : RR :=
  al h v1 100 fun r1 =>
  gf h v2 9 1 fun r2 =>
  if r2 = 2 then
    gf h v2 9 2 fun r4 =>
    f_X1_levelsOf_20 n v0 v1 v2 r1 (wr (r4 + 1)) h
  else
  f_X1_levelsOf_20 n v0 v1 v2 r1 1 h
set_option maxRecDepth 20000 in
theorem b_X1_levelsOf_82 {g : GT} {Z : Int × MM} {n : Nat} (C : Cx g cX1_levelsOf 6 yX1_levelsOf 2 47) (hr : Rt g (some (.array .int)) 2 Z) {v0 v1 v2 v3 v4 v5 s0 s1 s2 : Int}  {rec32 : Int → MM → RR} (L32 : ∀ (u5 : Int) (h : MM), in32 u5 → rec32 u5 h = some Z → G g 32 [(2, v0), (2, v1), (2, v2), (0, v3), (2, v4), (0, u5)] [] h) (cv3 : in32 v3) (cv5 : in32 v5) (cs1 : in32 s1) (cs2 : in32 s2) {h : MM} (hf : f_X1_levelsOf_82 n rec32 v0 v1 v2 v3 v4 v5 s0 s1 s2 h = some Z) : G g 82 [(2, v0), (2, v1), (2, v2), (0, v3), (2, v4), (0, v5)] [(0, s2), (0, s1), (2, s0)] h := by
  unfold f_X1_levelsOf_82 at hf
  obtain ⟨q1, hf⟩ := wt_s hf
  refine r_iast C dX1_levelsOf_82 q1 rfl cs2 ?_
  obtain ⟨x2, e2, hf⟩ := lb_s hf
  have c2 : in32 x2 := by rw [e2]; exact (in32_t _)
  refine r_iincL C dX1_levelsOf_83 rfl e2 (Nat.le_of_ble_eq_true rfl) rfl ?_
  refine r_goto C dX1_levelsOf_86 (tgt := 32) (by decide) ?_
  exact G.mask [true, true, true, true, true, true] rfl rfl (L32 _ _ c2 hf)
set_option maxRecDepth 20000 in
theorem b_X1_levelsOf_32b {g : GT} {Z : Int × MM} {n : Nat} (C : Cx g cX1_levelsOf 6 yX1_levelsOf 2 47) (hr : Rt g (some (.array .int)) 2 Z) {v0 v1 v2 v3 v4 v5 : Int}  {rec32 : Int → MM → RR} (L32 : ∀ (u5 : Int) (h : MM), in32 u5 → rec32 u5 h = some Z → G g 32 [(2, v0), (2, v1), (2, v2), (0, v3), (2, v4), (0, u5)] [] h) (cv3 : in32 v3) (cv5 : in32 v5) {h : MM} (hf : f_X1_levelsOf_32b n rec32 v0 v1 v2 v3 v4 v5 h = some Z) : G g 32 [(2, v0), (2, v1), (2, v2), (0, v3), (2, v4), (0, v5)] [] h := by
  unfold f_X1_levelsOf_32b at hf
  refine r_iload C dX1_levelsOf_32 rfl ?_
  refine r_iload_n C dX1_levelsOf_34 rfl ?_
  refine r_icmp_ge C dX1_levelsOf_35 (tgt := 89) (by decide) cv5 cv3 (fun n1 => ?_) (fun n1 => ?_)
  · have hf := ite_p n1 hf
    refine r_aload C dX1_levelsOf_89 rfl ?_
    cases hf
    exact r_aret C hr dX1_levelsOf_91 (Or.inr ⟨_, rfl⟩)
  · have hf := ite_n n1 hf
    refine r_aload C dX1_levelsOf_38 rfl ?_
    refine r_iload C dX1_levelsOf_40 rfl ?_
    refine r_iload C dX1_levelsOf_42 rfl ?_
    refine r_if_ne C dX1_levelsOf_44 (tgt := 58) (by decide) cv5 (fun n2 => ?_) (fun n2 => ?_)
    · have hf := ite_n n2 hf
      refine r_aload C dX1_levelsOf_58 rfl ?_
      refine r_iload C dX1_levelsOf_60 rfl ?_
      refine r_iconst C dX1_levelsOf_62 ?_
      refine r_isub C dX1_levelsOf_63 ?_
      obtain ⟨q3, hf⟩ := rd_s hf
      refine r_iald C dX1_levelsOf_64 q3 rfl (fun c3 => ?_)
      refine r_aload_n C dX1_levelsOf_65 rfl ?_
      refine r_aload_n C dX1_levelsOf_66 rfl ?_
      refine r_iload C dX1_levelsOf_67 rfl ?_
      refine r_aload_n C dX1_levelsOf_69 rfl ?_
      obtain ⟨q4, hf⟩ := gf_s hf
      refine r_gf C ct9 (j := 0) (ji := 0) dX1_levelsOf_70 q4 rfl rfl (by decide) w_281 rfl (fun c4 => ?_)
      refine r_iload C dX1_levelsOf_73 rfl ?_
      refine r_iconst C dX1_levelsOf_75 ?_
      refine r_isub C dX1_levelsOf_76 ?_
      obtain ⟨q5, hf⟩ := rd_s hf
      refine r_iald C dX1_levelsOf_77 q5 rfl (fun c5 => ?_)
      obtain ⟨p6, hf⟩ := gk_s hf
      obtain ⟨r6, h6, hq6, hf⟩ := bd_s hf
      refine r_cV3 C (am_X1_riseTo (gl g) n) cm_X1_riseTo w_842 dX1_levelsOf_78 ⟨Nat.le_of_ble_eq_true rfl, Nat.le_of_ble_eq_true rfl⟩ p6 rfl trivial cv5 c5 rfl (Nat.le_of_ble_eq_true rfl) hq6 (by decide) (fun c6 => ?_)
      have c6 : in32 _ := c6
      refine r_iadd C dX1_levelsOf_81 ?_
      exact G.mask [true, true, true, true, true, true] rfl rfl (b_X1_levelsOf_82 C hr L32 cv3 cv5 cv5 (in32_t _) hf)
    · have hf := ite_p n2 hf
      refine r_aload_n C dX1_levelsOf_47 rfl ?_
      obtain ⟨q7, hf⟩ := gf_s hf
      refine r_gf C ct1 (j := 0) (ji := 0) dX1_levelsOf_48 q7 rfl rfl (by decide) w_128 rfl (fun c7 => ?_)
      refine r_aload_n C dX1_levelsOf_51 rfl ?_
      refine r_iconst C dX1_levelsOf_52 ?_
      obtain ⟨q8, hf⟩ := rd_s hf
      refine r_iald C dX1_levelsOf_53 q8 rfl (fun c8 => ?_)
      obtain ⟨q9, hf⟩ := rd_s hf
      refine r_iald C dX1_levelsOf_54 q9 rfl (fun c9 => ?_)
      refine r_goto C dX1_levelsOf_55 (tgt := 82) (by decide) ?_
      exact G.mask [true, true, true, true, true, true] rfl rfl (b_X1_levelsOf_82 C hr L32 cv3 cv5 cv5 c9 hf)
set_option maxRecDepth 20000 in
theorem l_X1_levelsOf_32 {g : GT} {Z : Int × MM} {n : Nat} (C : Cx g cX1_levelsOf 6 yX1_levelsOf 2 47) (hr : Rt g (some (.array .int)) 2 Z) {v0 v1 v2 v3 v4 : Int}   (cv3 : in32 v3) : ∀ (k : Nat) (v5 : Int) (h : MM), in32 v5 → f_X1_levelsOf_32 n  v0 v1 v2 v3 v4 k v5 h = some Z → G g 32 [(2, v0), (2, v1), (2, v2), (0, v3), (2, v4), (0, v5)] [] h := by
  intro k
  induction k with
  | zero => intro v5 h cv5 hf; exact absurd hf (by intro z; cases z)
  | succ k ih => intro v5 h cv5 hf; exact b_X1_levelsOf_32b C hr (rec32 := f_X1_levelsOf_32 n  v0 v1 v2 v3 v4 k)  ih cv3 cv5 (show f_X1_levelsOf_32b n  (f_X1_levelsOf_32 n  v0 v1 v2 v3 v4 k) v0 v1 v2 v3 v4 v5 h = some Z from hf)
set_option maxRecDepth 20000 in
theorem b_X1_levelsOf_20 {g : GT} {Z : Int × MM} {n : Nat} (C : Cx g cX1_levelsOf 6 yX1_levelsOf 2 47) (hr : Rt g (some (.array .int)) 2 Z) {v0 v1 v2 s0 s1 : Int}    (cs0 : in32 s0) (cs1 : in32 s1) {h : MM} (hf : f_X1_levelsOf_20 n  v0 v1 v2 s0 s1 h = some Z) : G g 20 [(2, v0), (2, v1), (2, v2), (3, 0), (3, 0), (3, 0)] [(0, s1), (0, s0)] h := by
  unfold f_X1_levelsOf_20 at hf
  refine r_mmin C dX1_levelsOf_20 w_841 ⟨Nat.le_of_ble_eq_true rfl, Nat.le_of_ble_eq_true rfl⟩ rfl cs0 cs1 ?_
  obtain ⟨x1, e1, hf⟩ := lb_s hf
  have c1 : in32 x1 := by rw [e1]; exact (in32_min cs0 cs1)
  refine r_istore_nL C dX1_levelsOf_23 e1 (Nat.le_of_ble_eq_true rfl) rfl ?_
  refine r_iload_n C dX1_levelsOf_24 rfl ?_
  obtain ⟨q2, hf⟩ := na_s hf
  refine r_na C (tn := 100) (t := 100) dX1_levelsOf_25 q2 rfl (by decide) (by decide) w_156 ?_
  refine r_astore C dX1_levelsOf_27 (Nat.le_of_ble_eq_true rfl) rfl ?_
  refine r_iconst C dX1_levelsOf_29 ?_
  refine r_istore C dX1_levelsOf_30 (Nat.le_of_ble_eq_true rfl) rfl ?_
  exact G.mask [true, true, true, true, true, true] rfl rfl (l_X1_levelsOf_32 C hr  c1 _ _ _ (in32_of rfl) hf)
set_option maxRecDepth 20000 in
theorem e_X1_levelsOf {g : GT} {Z : Int × MM} {n : Nat} (C : Cx g cX1_levelsOf 6 yX1_levelsOf 2 47) (hr : Rt g (some (.array .int)) 2 Z) {v0 v1 v2 : Int} (cv0 : cK 2 v0) (cv1 : cK 2 v1) (cv2 : cK 2 v2) {h : MM} (hf : f_X1_levelsOf n v0 v1 v2 h = some Z) : G g 0 [(2, v0), (2, v1), (2, v2), (3, 0), (3, 0), (3, 0)] [] h := by
  unfold f_X1_levelsOf at hf
  refine r_aload_n C dX1_levelsOf_0 rfl ?_
  obtain ⟨q1, hf⟩ := al_s hf
  refine r_alen C (tn := 100) dX1_levelsOf_1 q1 rfl (by decide) (fun c1 _ => ?_)
  refine r_aload_n C dX1_levelsOf_2 rfl ?_
  obtain ⟨q2, hf⟩ := gf_s hf
  refine r_gf C ct9 (j := 1) (ji := 1) dX1_levelsOf_3 q2 rfl rfl (by decide) w_285 rfl (fun c2 => ?_)
  have c2 : in32 _ := c2
  refine r_iconst C dX1_levelsOf_6 ?_
  refine r_icmp_ne C dX1_levelsOf_7 (tgt := 19) (by decide) c2 (in32_of rfl) (fun n3 => ?_) (fun n3 => ?_)
  · have hf := ite_n n3 hf
    refine r_iconst C dX1_levelsOf_19 ?_
    exact G.mask [true, true, true, false, false, false] rfl rfl (b_X1_levelsOf_20 C hr  c1 (in32_of rfl) hf)
  · have hf := ite_p n3 hf
    refine r_aload_n C dX1_levelsOf_10 rfl ?_
    obtain ⟨q4, hf⟩ := gf_s hf
    refine r_gf C ct9 (j := 2) (ji := 2) dX1_levelsOf_11 q4 rfl rfl (by decide) w_288 rfl (fun c4 => ?_)
    have c4 : in32 _ := c4
    refine r_iconst C dX1_levelsOf_14 ?_
    refine r_iadd C dX1_levelsOf_15 ?_
    refine r_goto C dX1_levelsOf_16 (tgt := 20) (by decide) ?_
    exact G.mask [true, true, true, false, false, false] rfl rfl (b_X1_levelsOf_20 C hr  c1 (in32_t _) hf)
set_option maxRecDepth 20000 in
theorem am_X1_levelsOf (l : Launch) (n : Nat) : AM l yX1_levelsOf cX1_levelsOf 6 (some (.array .int)) 2 47 [2, 2, 2] 2 (un3 (f_X1_levelsOf n)) := by
  refine AM.intro (by decide) (fun xs hx => ?_) (fun g xs h Z hl C hr hx hf => ?_)
  · obtain ⟨a0, a1, a2, rfl, c0, c1, c2⟩ := canL_3 hx
    exact Nat.le_of_ble_eq_true rfl
  · obtain ⟨a0, a1, a2, rfl, c0, c1, c2⟩ := canL_3 hx
    have hf := (un3_e _ a0 a1 a2 _).symm.trans hf
    exact e_X1_levelsOf (n := n) C hr c0 c1 c2 hf
/-! LinesPromised$World.survey(ILLinesPromised$Paper;LLinesPromised$Sheet;LLinesPromised$Sheet;)LLinesPromised$Paper; -/
theorem dX10_survey_0 : decode cX10_survey 0 = .ok (.aload_n 0, 1) := by decide +kernel
theorem dX10_survey_1 : decode cX10_survey 1 = .ok (.getfield 12, 3) := by decide +kernel
theorem dX10_survey_4 : decode cX10_survey 4 = .ok (.getfield 115, 3) := by decide +kernel
theorem dX10_survey_7 : decode cX10_survey 7 = .ok (.aload_n 2, 1) := by decide +kernel
theorem dX10_survey_8 : decode cX10_survey 8 = .ok (.getfield 118, 3) := by decide +kernel
theorem dX10_survey_11 : decode cX10_survey 11 = .ok (.iaload, 1) := by decide +kernel
theorem dX10_survey_12 : decode cX10_survey 12 = .ok (.istore 5, 2) := by decide +kernel
theorem dX10_survey_14 : decode cX10_survey 14 = .ok (.aload_n 0, 1) := by decide +kernel
theorem dX10_survey_15 : decode cX10_survey 15 = .ok (.getfield 12, 3) := by decide +kernel
theorem dX10_survey_18 : decode cX10_survey 18 = .ok (.aload_n 3, 1) := by decide +kernel
theorem dX10_survey_19 : decode cX10_survey 19 = .ok (.aload_n 0, 1) := by decide +kernel
theorem dX10_survey_20 : decode cX10_survey 20 = .ok (.getfield 12, 3) := by decide +kernel
theorem dX10_survey_23 : decode cX10_survey 23 = .ok (.getfield 115, 3) := by decide +kernel
theorem dX10_survey_26 : decode cX10_survey 26 = .ok (.aload_n 2, 1) := by decide +kernel
theorem dX10_survey_27 : decode cX10_survey 27 = .ok (.getfield 123, 3) := by decide +kernel
theorem dX10_survey_30 : decode cX10_survey 30 = .ok (.iaload, 1) := by decide +kernel
theorem dX10_survey_31 : decode cX10_survey 31 = .ok (.iload 5, 2) := by decide +kernel
theorem dX10_survey_33 : decode cX10_survey 33 = .ok (.invokevirtual 126, 3) := by decide +kernel
theorem dX10_survey_36 : decode cX10_survey 36 = .ok (.istore 6, 2) := by decide +kernel
theorem dX10_survey_38 : decode cX10_survey 38 = .ok (.aload_n 3, 1) := by decide +kernel
theorem dX10_survey_39 : decode cX10_survey 39 = .ok (.getfield 130, 3) := by decide +kernel
theorem dX10_survey_42 : decode cX10_survey 42 = .ok (.iload 6, 2) := by decide +kernel
theorem dX10_survey_44 : decode cX10_survey 44 = .ok (.invokestatic 133, 3) := by decide +kernel
theorem dX10_survey_47 : decode cX10_survey 47 = .ok (.astore 7, 2) := by decide +kernel
theorem dX10_survey_49 : decode cX10_survey 49 = .ok (.new 119, 3) := by decide +kernel
theorem dX10_survey_52 : decode cX10_survey 52 = .ok (.dup, 1) := by decide +kernel
theorem dX10_survey_53 : decode cX10_survey 53 = .ok (.iconst 2, 1) := by decide +kernel
theorem dX10_survey_54 : decode cX10_survey 54 = .ok (.iload_n 1, 1) := by decide +kernel
theorem dX10_survey_55 : decode cX10_survey 55 = .ok (.aload_n 0, 1) := by decide +kernel
theorem dX10_survey_56 : decode cX10_survey 56 = .ok (.getfield 85, 3) := by decide +kernel
theorem dX10_survey_59 : decode cX10_survey 59 = .ok (.aload 7, 2) := by decide +kernel
theorem dX10_survey_61 : decode cX10_survey 61 = .ok (.aload_n 0, 1) := by decide +kernel
theorem dX10_survey_62 : decode cX10_survey 62 = .ok (.getfield 12, 3) := by decide +kernel
theorem dX10_survey_65 : decode cX10_survey 65 = .ok (.aload 7, 2) := by decide +kernel
theorem dX10_survey_67 : decode cX10_survey 67 = .ok (.aload 4, 2) := by decide +kernel
theorem dX10_survey_69 : decode cX10_survey 69 = .ok (.invokevirtual 139, 3) := by decide +kernel
theorem dX10_survey_72 : decode cX10_survey 72 = .ok (.invokespecial 143, 3) := by decide +kernel
theorem dX10_survey_75 : decode cX10_survey 75 = .ok (.astore 8, 2) := by decide +kernel
theorem dX10_survey_77 : decode cX10_survey 77 = .ok (.aload 8, 2) := by decide +kernel
theorem dX10_survey_79 : decode cX10_survey 79 = .ok (.aload_n 2, 1) := by decide +kernel
theorem dX10_survey_80 : decode cX10_survey 80 = .ok (.getfield 123, 3) := by decide +kernel
theorem dX10_survey_83 : decode cX10_survey 83 = .ok (.aload_n 2, 1) := by decide +kernel
theorem dX10_survey_84 : decode cX10_survey 84 = .ok (.getfield 118, 3) := by decide +kernel
theorem dX10_survey_87 : decode cX10_survey 87 = .ok (.aload_n 2, 1) := by decide +kernel
theorem dX10_survey_88 : decode cX10_survey 88 = .ok (.getfield 146, 3) := by decide +kernel
theorem dX10_survey_91 : decode cX10_survey 91 = .ok (.iconst (-1), 1) := by decide +kernel
theorem dX10_survey_92 : decode cX10_survey 92 = .ok (.invokevirtual 149, 3) := by decide +kernel
theorem dX10_survey_95 : decode cX10_survey 95 = .ok (.aload 8, 2) := by decide +kernel
theorem dX10_survey_97 : decode cX10_survey 97 = .ok (.aload_n 2, 1) := by decide +kernel
theorem dX10_survey_98 : decode cX10_survey 98 = .ok (.getfield 153, 3) := by decide +kernel
theorem dX10_survey_101 : decode cX10_survey 101 = .ok (.putfield 153, 3) := by decide +kernel
theorem dX10_survey_104 : decode cX10_survey 104 = .ok (.iload 6, 2) := by decide +kernel
theorem dX10_survey_106 : decode cX10_survey 106 = .ok (.ifCond .eq 15, 3) := by decide +kernel
theorem dX10_survey_109 : decode cX10_survey 109 = .ok (.aload 7, 2) := by decide +kernel
theorem dX10_survey_111 : decode cX10_survey 111 = .ok (.iload 6, 2) := by decide +kernel
theorem dX10_survey_113 : decode cX10_survey 113 = .ok (.iconst 1, 1) := by decide +kernel
theorem dX10_survey_114 : decode cX10_survey 114 = .ok (.isub, 1) := by decide +kernel
theorem dX10_survey_115 : decode cX10_survey 115 = .ok (.iaload, 1) := by decide +kernel
theorem dX10_survey_116 : decode cX10_survey 116 = .ok (.iload 5, 2) := by decide +kernel
theorem dX10_survey_118 : decode cX10_survey 118 = .ok (.if_icmp .eq 10, 3) := by decide +kernel
theorem dX10_survey_121 : decode cX10_survey 121 = .ok (.aload 8, 2) := by decide +kernel
theorem dX10_survey_123 : decode cX10_survey 123 = .ok (.iload 6, 2) := by decide +kernel
theorem dX10_survey_125 : decode cX10_survey 125 = .ok (.putfield 156, 3) := by decide +kernel
theorem dX10_survey_128 : decode cX10_survey 128 = .ok (.aload 8, 2) := by decide +kernel
theorem dX10_survey_130 : decode cX10_survey 130 = .ok (.areturn, 1) := by decide +kernel
theorem cm_X10_survey : CM yX10_survey cX10_survey 9 (some (.object "LinesPromised$Paper")) 4 10 := ⟨w_811, w_812, w_813, w_88, ⟨by decide +kernel, by decide +kernel, by decide +kernel⟩, ⟨_, _, rfl⟩, by decide⟩
noncomputable def f_X10_survey_128 (n : Nat)  (v8 : Int) (h : MM) : RR :=
  some (v8, h)
noncomputable def f_X10_survey_121 (n : Nat)  (v6 v8 : Int) (h : MM) : RR :=
  pf h v8 4 10 v6 fun h1 =>
  f_X10_survey_128 n v8 h1
noncomputable def f_X10_survey (n : Nat) (v0 v1 v2 v3 v4 : Int) (h : MM) : RR :=
  gf h v0 10 0 fun r1 =>
  gf h r1 1 3 fun r2 =>
  gf h v2 4 6 fun r3 =>
  rd h r2 100 r3 fun r4 =>
  gf h v0 10 0 fun r5 =>
  gf h v0 10 0 fun r6 =>
  gf h r6 1 3 fun r7 =>
  gf h v2 4 5 fun r8 =>
  rd h r7 100 r8 fun r9 =>
  gk h r5 1 <|
  bd (f_X1_follow n r5 v3 r9 r4 h) fun r10 h10 =>
  gf h10 v3 9 0 fun r11 =>
  bd (f_J7_copyOf_59c91 n r11 r10 h10) fun r12 h12 =>
  nw h12 4 11 fun r13 h13 =>
  gf h13 v0 10 9 fun r14 =>
  gf h13 v0 10 0 fun r15 =>
  gk h13 r15 1 <|
  bd (f_X1_levelsOf n r15 r12 v4 h13) fun r16 h16 =>
  nz r13 <|
  bd (f_X4_init n r13 2 v1 r14 r12 r16 h16) fun r17 h17 =>
  gf h17 v2 4 5 fun r18 =>
  gf h17 v2 4 6 fun r19 =>
  gf h17 v2 4 7 fun r20 =>
  gk h17 r13 4 <|
  bd (f_X4_tell n r13 r18 r19 r20 ((-1)) h17) fun r21 h21 =>
  gf h21 v2 4 9 fun r22 =>
  pf h21 r13 4 9 r22 fun h23 =>
  if r10 = 0 then
    f_X10_survey_121 n r10 r13 h23
  else
  rd h23 r12 100 (wr (r10 - 1)) fun r25 =>
  if r25 = r4 then
    f_X10_survey_128 n r13 h23
  else
  f_X10_survey_121 n r10 r13 h23
set_option maxRecDepth 20000 in
theorem b_X10_survey_128 {g : GT} {Z : Int × MM} {n : Nat} (C : Cx g cX10_survey 9 yX10_survey 4 91) (hr : Rt g (some (.object "LinesPromised$Paper")) 2 Z) {v8 : Int}     {h : MM} (hf : f_X10_survey_128 n  v8 h = some Z) : G g 128 [(3, 0), (3, 0), (3, 0), (3, 0), (3, 0), (3, 0), (3, 0), (3, 0), (2, v8)] [] h := by
  unfold f_X10_survey_128 at hf
  refine r_aload C dX10_survey_128 rfl ?_
  cases hf
  exact r_aret C hr dX10_survey_130 (Or.inl ⟨_, rfl⟩)
set_option maxRecDepth 20000 in
theorem b_X10_survey_121 {g : GT} {Z : Int × MM} {n : Nat} (C : Cx g cX10_survey 9 yX10_survey 4 91) (hr : Rt g (some (.object "LinesPromised$Paper")) 2 Z) {v6 v8 : Int}    (cv6 : in32 v6) {h : MM} (hf : f_X10_survey_121 n  v6 v8 h = some Z) : G g 121 [(3, 0), (3, 0), (3, 0), (3, 0), (3, 0), (3, 0), (0, v6), (3, 0), (2, v8)] [] h := by
  unfold f_X10_survey_121 at hf
  refine r_aload C dX10_survey_121 rfl ?_
  refine r_iload C dX10_survey_123 rfl ?_
  obtain ⟨q1, hf⟩ := pf_s hf
  refine r_pf C ct4 (j := 10) (ji := 10) dX10_survey_125 q1 rfl rfl (by decide) w_756 rfl (Or.inl rfl) nar_int cv6 ?_
  exact G.mask [false, false, false, false, false, false, false, false, true] rfl rfl (b_X10_survey_128 C hr   hf)
set_option maxRecDepth 20000 in
theorem e_X10_survey {g : GT} {Z : Int × MM} {n : Nat} (C : Cx g cX10_survey 9 yX10_survey 4 91) (hr : Rt g (some (.object "LinesPromised$Paper")) 2 Z) {v0 v1 v2 v3 v4 : Int} (cv0 : cK 2 v0) (cv1 : cK 0 v1) (cv2 : cK 2 v2) (cv3 : cK 2 v3) (cv4 : cK 2 v4) {h : MM} (hf : f_X10_survey n v0 v1 v2 v3 v4 h = some Z) : G g 0 [(2, v0), (0, v1), (2, v2), (2, v3), (2, v4), (3, 0), (3, 0), (3, 0), (3, 0)] [] h := by
  have cv1 : in32 v1 := cv1
  unfold f_X10_survey at hf
  refine r_aload_n C dX10_survey_0 rfl ?_
  obtain ⟨q1, hf⟩ := gf_s hf
  refine r_gf C ct10 (j := 0) (ji := 0) dX10_survey_1 q1 rfl rfl (by decide) w_298 rfl (fun c1 => ?_)
  obtain ⟨q2, hf⟩ := gf_s hf
  refine r_gf C ct1 (j := 3) (ji := 3) dX10_survey_4 q2 rfl rfl (by decide) w_138 rfl (fun c2 => ?_)
  refine r_aload_n C dX10_survey_7 rfl ?_
  obtain ⟨q3, hf⟩ := gf_s hf
  refine r_gf C ct4 (j := 6) (ji := 6) dX10_survey_8 q3 rfl rfl (by decide) w_738 rfl (fun c3 => ?_)
  have c3 : in32 _ := c3
  obtain ⟨q4, hf⟩ := rd_s hf
  refine r_iald C dX10_survey_11 q4 rfl (fun c4 => ?_)
  refine r_istore C dX10_survey_12 (Nat.le_of_ble_eq_true rfl) rfl ?_
  refine r_aload_n C dX10_survey_14 rfl ?_
  obtain ⟨q5, hf⟩ := gf_s hf
  refine r_gf C ct10 (j := 0) (ji := 0) dX10_survey_15 q5 rfl rfl (by decide) w_298 rfl (fun c5 => ?_)
  refine r_aload_n C dX10_survey_18 rfl ?_
  refine r_aload_n C dX10_survey_19 rfl ?_
  obtain ⟨q6, hf⟩ := gf_s hf
  refine r_gf C ct10 (j := 0) (ji := 0) dX10_survey_20 q6 rfl rfl (by decide) w_298 rfl (fun c6 => ?_)
  obtain ⟨q7, hf⟩ := gf_s hf
  refine r_gf C ct1 (j := 3) (ji := 3) dX10_survey_23 q7 rfl rfl (by decide) w_138 rfl (fun c7 => ?_)
  refine r_aload_n C dX10_survey_26 rfl ?_
  obtain ⟨q8, hf⟩ := gf_s hf
  refine r_gf C ct4 (j := 5) (ji := 5) dX10_survey_27 q8 rfl rfl (by decide) w_733 rfl (fun c8 => ?_)
  have c8 : in32 _ := c8
  obtain ⟨q9, hf⟩ := rd_s hf
  refine r_iald C dX10_survey_30 q9 rfl (fun c9 => ?_)
  refine r_iload C dX10_survey_31 rfl ?_
  obtain ⟨p10, hf⟩ := gk_s hf
  obtain ⟨r10, h10, hq10, hf⟩ := bd_s hf
  refine r_cV3 C (am_X1_follow (gl g) n) cm_X1_follow w_814 dX10_survey_33 ⟨Nat.le_of_ble_eq_true rfl, Nat.le_of_ble_eq_true rfl⟩ p10 rfl trivial c9 c4 rfl (Nat.le_of_ble_eq_true rfl) hq10 (by decide) (fun c10 => ?_)
  have c10 : in32 _ := c10
  refine r_istore C dX10_survey_36 (Nat.le_of_ble_eq_true rfl) rfl ?_
  refine r_aload_n C dX10_survey_38 rfl ?_
  obtain ⟨q11, hf⟩ := gf_s hf
  refine r_gf C ct9 (j := 0) (ji := 0) dX10_survey_39 q11 rfl rfl (by decide) w_282 rfl (fun c11 => ?_)
  refine r_iload C dX10_survey_42 rfl ?_
  obtain ⟨r12, h12, hq12, hf⟩ := bd_s hf
  refine r_cS2 C (am_J7_copyOf_59c91 (gl g) n) cm_J7_copyOf_59c91 w_828 dX10_survey_44 ⟨Nat.le_of_ble_eq_true rfl, Nat.le_of_ble_eq_true rfl⟩ trivial c10 rfl (Nat.le_of_ble_eq_true rfl) hq12 (by decide) (fun c12 => ?_)
  refine r_astore C dX10_survey_47 (Nat.le_of_ble_eq_true rfl) rfl ?_
  obtain ⟨q13, hf⟩ := nw_s hf
  refine r_new C ct4 cf4 (ti := 4) (ni := 11) dX10_survey_49 q13 rfl rfl w_836 w_705 w_106 ?_
  refine r_dup C dX10_survey_52 (by decide) ?_
  refine r_iconst C dX10_survey_53 ?_
  refine r_iload_n C dX10_survey_54 rfl ?_
  refine r_aload_n C dX10_survey_55 rfl ?_
  obtain ⟨q14, hf⟩ := gf_s hf
  refine r_gf C ct10 (j := 9) (ji := 9) dX10_survey_56 q14 rfl rfl (by decide) w_316 rfl (fun c14 => ?_)
  have c14 : in32 _ := c14
  refine r_aload C dX10_survey_59 rfl ?_
  refine r_aload_n C dX10_survey_61 rfl ?_
  obtain ⟨q15, hf⟩ := gf_s hf
  refine r_gf C ct10 (j := 0) (ji := 0) dX10_survey_62 q15 rfl rfl (by decide) w_298 rfl (fun c15 => ?_)
  refine r_aload C dX10_survey_65 rfl ?_
  refine r_aload C dX10_survey_67 rfl ?_
  obtain ⟨p16, hf⟩ := gk_s hf
  obtain ⟨r16, h16, hq16, hf⟩ := bd_s hf
  refine r_cV2 C (am_X1_levelsOf (gl g) n) cm_X1_levelsOf w_837 dX10_survey_69 ⟨Nat.le_of_ble_eq_true rfl, Nat.le_of_ble_eq_true rfl⟩ p16 rfl trivial trivial rfl (Nat.le_of_ble_eq_true rfl) hq16 (by decide) (fun c16 => ?_)
  obtain ⟨p17, hf⟩ := nz_s hf
  obtain ⟨r17, h17, hq17, hf⟩ := bd_s hf
  refine r_cI5 C (am_X4_init (gl g) n) cm_X4_init w_848 dX10_survey_72 ⟨Nat.le_of_ble_eq_true rfl, Nat.le_of_ble_eq_true rfl⟩ p17 (in32_of rfl) cv1 c14 trivial trivial rfl (Nat.le_of_ble_eq_true rfl) hq17 ?_
  refine r_astore C dX10_survey_75 (Nat.le_of_ble_eq_true rfl) rfl ?_
  refine r_aload C dX10_survey_77 rfl ?_
  refine r_aload_n C dX10_survey_79 rfl ?_
  obtain ⟨q18, hf⟩ := gf_s hf
  refine r_gf C ct4 (j := 5) (ji := 5) dX10_survey_80 q18 rfl rfl (by decide) w_733 rfl (fun c18 => ?_)
  have c18 : in32 _ := c18
  refine r_aload_n C dX10_survey_83 rfl ?_
  obtain ⟨q19, hf⟩ := gf_s hf
  refine r_gf C ct4 (j := 6) (ji := 6) dX10_survey_84 q19 rfl rfl (by decide) w_738 rfl (fun c19 => ?_)
  have c19 : in32 _ := c19
  refine r_aload_n C dX10_survey_87 rfl ?_
  obtain ⟨q20, hf⟩ := gf_s hf
  refine r_gf C ct4 (j := 7) (ji := 7) dX10_survey_88 q20 rfl rfl (by decide) w_743 rfl (fun c20 => ?_)
  have c20 : in32 _ := c20
  refine r_iconst C dX10_survey_91 ?_
  obtain ⟨p21, hf⟩ := gk_s hf
  obtain ⟨r21, h21, hq21, hf⟩ := bd_s hf
  refine r_cV4v C (am_X4_tell (gl g) n) cm_X4_tell w_849 dX10_survey_92 ⟨Nat.le_of_ble_eq_true rfl, Nat.le_of_ble_eq_true rfl⟩ p21 rfl c18 c19 c20 (in32_of rfl) rfl (Nat.le_of_ble_eq_true rfl) hq21 ?_
  refine r_aload C dX10_survey_95 rfl ?_
  refine r_aload_n C dX10_survey_97 rfl ?_
  obtain ⟨q22, hf⟩ := gf_s hf
  refine r_gf C ct4 (j := 9) (ji := 9) dX10_survey_98 q22 rfl rfl (by decide) w_752 rfl (fun c22 => ?_)
  have c22 : in32 _ := c22
  obtain ⟨q23, hf⟩ := pf_s hf
  refine r_pf C ct4 (j := 9) (ji := 9) dX10_survey_101 q23 rfl rfl (by decide) w_752 rfl (Or.inl rfl) nar_int c22 ?_
  refine r_iload C dX10_survey_104 rfl ?_
  refine r_if_eq C dX10_survey_106 (tgt := 121) (by decide) c10 (fun n24 => ?_) (fun n24 => ?_)
  · have hf := ite_p n24 hf
    exact G.mask [false, false, false, false, false, false, true, false, true] rfl rfl (b_X10_survey_121 C hr  c10 hf)
  · have hf := ite_n n24 hf
    refine r_aload C dX10_survey_109 rfl ?_
    refine r_iload C dX10_survey_111 rfl ?_
    refine r_iconst C dX10_survey_113 ?_
    refine r_isub C dX10_survey_114 ?_
    obtain ⟨q25, hf⟩ := rd_s hf
    refine r_iald C dX10_survey_115 q25 rfl (fun c25 => ?_)
    refine r_iload C dX10_survey_116 rfl ?_
    refine r_icmp_eq C dX10_survey_118 (tgt := 128) (by decide) c25 c4 (fun n26 => ?_) (fun n26 => ?_)
    · have hf := ite_p n26 hf
      exact G.mask [false, false, false, false, false, false, false, false, true] rfl rfl (b_X10_survey_128 C hr   hf)
    · have hf := ite_n n26 hf
      exact G.mask [false, false, false, false, false, false, true, false, true] rfl rfl (b_X10_survey_121 C hr  c10 hf)
set_option maxRecDepth 20000 in
theorem am_X10_survey (l : Launch) (n : Nat) : AM l yX10_survey cX10_survey 9 (some (.object "LinesPromised$Paper")) 4 91 [2, 0, 2, 2, 2] 2 (un5 (f_X10_survey n)) := by
  refine AM.intro (by decide) (fun xs hx => ?_) (fun g xs h Z hl C hr hx hf => ?_)
  · obtain ⟨a0, a1, a2, a3, a4, rfl, c0, c1, c2, c3, c4⟩ := canL_5 hx
    exact Nat.le_of_ble_eq_true rfl
  · obtain ⟨a0, a1, a2, a3, a4, rfl, c0, c1, c2, c3, c4⟩ := canL_5 hx
    have hf := (un5_e _ a0 a1 a2 a3 a4 _).symm.trans hf
    exact e_X10_survey (n := n) C hr c0 c1 c2 c3 c4 hf
/-! LinesPromised.chain(III)I -/
theorem dX11_chain_0 : decode cX11_chain 0 = .ok (.aload_n 0, 1) := by decide +kernel
theorem dX11_chain_1 : decode cX11_chain 1 = .ok (.getfield 10, 3) := by decide +kernel
theorem dX11_chain_4 : decode cX11_chain 4 = .ok (.getfield 133, 3) := by decide +kernel
theorem dX11_chain_7 : decode cX11_chain 7 = .ok (.iload_n 1, 1) := by decide +kernel
theorem dX11_chain_8 : decode cX11_chain 8 = .ok (.iconst 1, 1) := by decide +kernel
theorem dX11_chain_9 : decode cX11_chain 9 = .ok (.invokevirtual 172, 3) := by decide +kernel
theorem dX11_chain_12 : decode cX11_chain 12 = .ok (.astore 4, 2) := by decide +kernel
theorem dX11_chain_14 : decode cX11_chain 14 = .ok (.aload 4, 2) := by decide +kernel
theorem dX11_chain_16 : decode cX11_chain 16 = .ok (.ifnull 17, 3) := by decide +kernel
theorem dX11_chain_19 : decode cX11_chain 19 = .ok (.iload_n 2, 1) := by decide +kernel
theorem dX11_chain_20 : decode cX11_chain 20 = .ok (.invokestatic 176, 3) := by decide +kernel
theorem dX11_chain_23 : decode cX11_chain 23 = .ok (.ifCond .eq 10, 3) := by decide +kernel
theorem dX11_chain_26 : decode cX11_chain 26 = .ok (.iload_n 3, 1) := by decide +kernel
theorem dX11_chain_27 : decode cX11_chain 27 = .ok (.invokestatic 176, 3) := by decide +kernel
theorem dX11_chain_30 : decode cX11_chain 30 = .ok (.ifCond .ne 5, 3) := by decide +kernel
theorem dX11_chain_33 : decode cX11_chain 33 = .ok (.iconst (-1), 1) := by decide +kernel
theorem dX11_chain_34 : decode cX11_chain 34 = .ok (.ireturn, 1) := by decide +kernel
theorem dX11_chain_35 : decode cX11_chain 35 = .ok (.aload_n 0, 1) := by decide +kernel
theorem dX11_chain_36 : decode cX11_chain 36 = .ok (.getfield 10, 3) := by decide +kernel
theorem dX11_chain_39 : decode cX11_chain 39 = .ok (.getfield 179, 3) := by decide +kernel
theorem dX11_chain_42 : decode cX11_chain 42 = .ok (.iload_n 2, 1) := by decide +kernel
theorem dX11_chain_43 : decode cX11_chain 43 = .ok (.aaload, 1) := by decide +kernel
theorem dX11_chain_44 : decode cX11_chain 44 = .ok (.getfield 183, 3) := by decide +kernel
theorem dX11_chain_47 : decode cX11_chain 47 = .ok (.iconst (-1), 1) := by decide +kernel
theorem dX11_chain_48 : decode cX11_chain 48 = .ok (.if_icmp .ne 6, 3) := by decide +kernel
theorem dX11_chain_51 : decode cX11_chain 51 = .ok (.bipush (-11), 2) := by decide +kernel
theorem dX11_chain_53 : decode cX11_chain 53 = .ok (.ireturn, 1) := by decide +kernel
theorem dX11_chain_54 : decode cX11_chain 54 = .ok (.aload_n 0, 1) := by decide +kernel
theorem dX11_chain_55 : decode cX11_chain 55 = .ok (.getfield 10, 3) := by decide +kernel
theorem dX11_chain_58 : decode cX11_chain 58 = .ok (.getfield 179, 3) := by decide +kernel
theorem dX11_chain_61 : decode cX11_chain 61 = .ok (.iload_n 2, 1) := by decide +kernel
theorem dX11_chain_62 : decode cX11_chain 62 = .ok (.aaload, 1) := by decide +kernel
theorem dX11_chain_63 : decode cX11_chain 63 = .ok (.getfield 183, 3) := by decide +kernel
theorem dX11_chain_66 : decode cX11_chain 66 = .ok (.ifCond .eq 6, 3) := by decide +kernel
theorem dX11_chain_69 : decode cX11_chain 69 = .ok (.bipush (-13), 2) := by decide +kernel
theorem dX11_chain_71 : decode cX11_chain 71 = .ok (.ireturn, 1) := by decide +kernel
theorem dX11_chain_72 : decode cX11_chain 72 = .ok (.aload_n 0, 1) := by decide +kernel
theorem dX11_chain_73 : decode cX11_chain 73 = .ok (.getfield 10, 3) := by decide +kernel
theorem dX11_chain_76 : decode cX11_chain 76 = .ok (.getfield 133, 3) := by decide +kernel
theorem dX11_chain_79 : decode cX11_chain 79 = .ok (.invokevirtual 137, 3) := by decide +kernel
theorem dX11_chain_82 : decode cX11_chain 82 = .ok (.ifCond .eq 6, 3) := by decide +kernel
theorem dX11_chain_85 : decode cX11_chain 85 = .ok (.bipush (-4), 2) := by decide +kernel
theorem dX11_chain_87 : decode cX11_chain 87 = .ok (.ireturn, 1) := by decide +kernel
theorem dX11_chain_88 : decode cX11_chain 88 = .ok (.aload_n 0, 1) := by decide +kernel
theorem dX11_chain_89 : decode cX11_chain 89 = .ok (.getfield 10, 3) := by decide +kernel
theorem dX11_chain_92 : decode cX11_chain 92 = .ok (.getfield 133, 3) := by decide +kernel
theorem dX11_chain_95 : decode cX11_chain 95 = .ok (.aload_n 0, 1) := by decide +kernel
theorem dX11_chain_96 : decode cX11_chain 96 = .ok (.getfield 10, 3) := by decide +kernel
theorem dX11_chain_99 : decode cX11_chain 99 = .ok (.iload_n 1, 1) := by decide +kernel
theorem dX11_chain_100 : decode cX11_chain 100 = .ok (.aload 4, 2) := by decide +kernel
theorem dX11_chain_102 : decode cX11_chain 102 = .ok (.aload_n 0, 1) := by decide +kernel
theorem dX11_chain_103 : decode cX11_chain 103 = .ok (.getfield 10, 3) := by decide +kernel
theorem dX11_chain_106 : decode cX11_chain 106 = .ok (.getfield 179, 3) := by decide +kernel
theorem dX11_chain_109 : decode cX11_chain 109 = .ok (.iload_n 2, 1) := by decide +kernel
theorem dX11_chain_110 : decode cX11_chain 110 = .ok (.aaload, 1) := by decide +kernel
theorem dX11_chain_111 : decode cX11_chain 111 = .ok (.aload_n 0, 1) := by decide +kernel
theorem dX11_chain_112 : decode cX11_chain 112 = .ok (.getfield 10, 3) := by decide +kernel
theorem dX11_chain_115 : decode cX11_chain 115 = .ok (.getfield 179, 3) := by decide +kernel
theorem dX11_chain_118 : decode cX11_chain 118 = .ok (.iload_n 3, 1) := by decide +kernel
theorem dX11_chain_119 : decode cX11_chain 119 = .ok (.aaload, 1) := by decide +kernel
theorem dX11_chain_120 : decode cX11_chain 120 = .ok (.invokevirtual 188, 3) := by decide +kernel
theorem dX11_chain_123 : decode cX11_chain 123 = .ok (.invokevirtual 168, 3) := by decide +kernel
theorem dX11_chain_126 : decode cX11_chain 126 = .ok (.ireturn, 1) := by decide +kernel
theorem cm_X11_chain : CM yX11_chain cX11_chain 5 (some .int) 3 11 := ⟨w_795, w_796, w_797, w_87, ⟨by decide +kernel, by decide +kernel, by decide +kernel⟩, ⟨_, _, rfl⟩, by decide⟩
noncomputable def f_X11_chain_33 (n : Nat)  (h : MM) : RR :=
  some ((-1), h)
noncomputable def f_X11_chain (n : Nat) (v0 v1 v2 v3 : Int) (h : MM) : RR :=
  gf h v0 11 0 fun r1 =>
  gf h r1 10 1 fun r2 =>
  gk h r2 5 <|
  bd (f_X5_find n r2 v1 1 h) fun r3 h3 =>
  if r3 = 0 then
    f_X11_chain_33 n h3
  else
  bd (f_X11_isSheet n v2 h3) fun r5 h5 =>
  if r5 = 0 then
    f_X11_chain_33 n h5
  else
  bd (f_X11_isSheet n v3 h5) fun r7 h7 =>
  if r7 = 0 then
    f_X11_chain_33 n h7
  else
  gf h7 v0 11 0 fun r9 =>
  gf h7 r9 10 4 fun r10 =>
  rd h7 r10 106 v2 fun r11 =>
  gf h7 r11 9 1 fun r12 =>
  if r12 = (-1) then
    some ((-11), h7)
  else
  gf h7 v0 11 0 fun r14 =>
  gf h7 r14 10 4 fun r15 =>
  rd h7 r15 106 v2 fun r16 =>
  gf h7 r16 9 1 fun r17 =>
  if r17 = 0 then
    gf h7 v0 11 0 fun r19 =>
    gf h7 r19 10 1 fun r20 =>
    gk h7 r20 5 <|
    bd (f_X5_isFull n r20 h7) fun r21 h21 =>
    if r21 = 0 then
      gf h21 v0 11 0 fun r23 =>
      gf h21 r23 10 1 fun r24 =>
      gf h21 v0 11 0 fun r25 =>
      gf h21 v0 11 0 fun r26 =>
      gf h21 r26 10 4 fun r27 =>
      rd h21 r27 106 v2 fun r28 =>
      gf h21 v0 11 0 fun r29 =>
      gf h21 r29 10 4 fun r30 =>
      rd h21 r30 106 v3 fun r31 =>
      gk h21 r25 10 <|
      bd (f_X10_survey n r25 v1 r3 r28 r31 h21) fun r32 h32 =>
      gk h32 r24 5 <|
      bd (f_X5_file n r24 r32 h32) fun r33 h33 =>
      some (r33, h33)
    else
    some ((-4), h21)
  else
  some ((-13), h7)
set_option maxRecDepth 20000 in
theorem b_X11_chain_33 {g : GT} {Z : Int × MM} {n : Nat} (C : Cx g cX11_chain 5 yX11_chain 5 119) (hr : Rt g (some .int) 0 Z)     {h : MM} (hf : f_X11_chain_33 n   h = some Z) : G g 33 [(3, 0), (3, 0), (3, 0), (3, 0), (3, 0)] [] h := by
  unfold f_X11_chain_33 at hf
  refine r_iconst C dX11_chain_33 ?_
  cases hf
  exact r_jret C hr dX11_chain_34 (in32_of rfl)
set_option maxRecDepth 20000 in
theorem e_X11_chain {g : GT} {Z : Int × MM} {n : Nat} (C : Cx g cX11_chain 5 yX11_chain 5 119) (hr : Rt g (some .int) 0 Z) {v0 v1 v2 v3 : Int} (cv0 : cK 2 v0) (cv1 : cK 0 v1) (cv2 : cK 0 v2) (cv3 : cK 0 v3) {h : MM} (hf : f_X11_chain n v0 v1 v2 v3 h = some Z) : G g 0 [(2, v0), (0, v1), (0, v2), (0, v3), (3, 0)] [] h := by
  have cv1 : in32 v1 := cv1
  have cv2 : in32 v2 := cv2
  have cv3 : in32 v3 := cv3
  unfold f_X11_chain at hf
  refine r_aload_n C dX11_chain_0 rfl ?_
  obtain ⟨q1, hf⟩ := gf_s hf
  refine r_gf C ct11 (j := 0) (ji := 0) dX11_chain_1 q1 rfl rfl (by decide) w_440 rfl (fun c1 => ?_)
  obtain ⟨q2, hf⟩ := gf_s hf
  refine r_gf C ct10 (j := 1) (ji := 1) dX11_chain_4 q2 rfl rfl (by decide) w_302 rfl (fun c2 => ?_)
  refine r_iload_n C dX11_chain_7 rfl ?_
  refine r_iconst C dX11_chain_8 ?_
  obtain ⟨p3, hf⟩ := gk_s hf
  obtain ⟨r3, h3, hq3, hf⟩ := bd_s hf
  refine r_cV2 C (am_X5_find (gl g) n) cm_X5_find w_798 dX11_chain_9 ⟨Nat.le_of_ble_eq_true rfl, Nat.le_of_ble_eq_true rfl⟩ p3 rfl cv1 (in32_of rfl) rfl (Nat.le_of_ble_eq_true rfl) hq3 (by decide) (fun c3 => ?_)
  refine r_astore C dX11_chain_12 (Nat.le_of_ble_eq_true rfl) rfl ?_
  refine r_aload C dX11_chain_14 rfl ?_
  refine r_ifnull C dX11_chain_16 (tgt := 33) (by decide) (fun n4 => ?_) (fun n4 => ?_)
  · have hf := ite_p n4 hf
    exact G.mask [false, false, false, false, false] rfl rfl (b_X11_chain_33 C hr   hf)
  · have hf := ite_n n4 hf
    refine r_iload_n C dX11_chain_19 rfl ?_
    obtain ⟨r5, h5, hq5, hf⟩ := bd_s hf
    refine r_cS1 C (am_X11_isSheet (gl g) n) cm_X11_isSheet w_807 dX11_chain_20 ⟨Nat.le_of_ble_eq_true rfl, Nat.le_of_ble_eq_true rfl⟩ cv2 rfl (Nat.le_of_ble_eq_true rfl) hq5 (by decide) (fun c5 => ?_)
    have c5 : in32 _ := c5
    refine r_if_eq C dX11_chain_23 (tgt := 33) (by decide) c5 (fun n6 => ?_) (fun n6 => ?_)
    · have hf := ite_p n6 hf
      exact G.mask [false, false, false, false, false] rfl rfl (b_X11_chain_33 C hr   hf)
    · have hf := ite_n n6 hf
      refine r_iload_n C dX11_chain_26 rfl ?_
      obtain ⟨r7, h7, hq7, hf⟩ := bd_s hf
      refine r_cS1 C (am_X11_isSheet (gl g) n) cm_X11_isSheet w_807 dX11_chain_27 ⟨Nat.le_of_ble_eq_true rfl, Nat.le_of_ble_eq_true rfl⟩ cv3 rfl (Nat.le_of_ble_eq_true rfl) hq7 (by decide) (fun c7 => ?_)
      have c7 : in32 _ := c7
      refine r_if_ne C dX11_chain_30 (tgt := 35) (by decide) c7 (fun n8 => ?_) (fun n8 => ?_)
      · have hf := ite_n n8 hf
        refine r_aload_n C dX11_chain_35 rfl ?_
        obtain ⟨q9, hf⟩ := gf_s hf
        refine r_gf C ct11 (j := 0) (ji := 0) dX11_chain_36 q9 rfl rfl (by decide) w_440 rfl (fun c9 => ?_)
        obtain ⟨q10, hf⟩ := gf_s hf
        refine r_gf C ct10 (j := 4) (ji := 4) dX11_chain_39 q10 rfl rfl (by decide) w_308 rfl (fun c10 => ?_)
        refine r_iload_n C dX11_chain_42 rfl ?_
        obtain ⟨q11, hf⟩ := rd_s hf
        refine r_aald C dX11_chain_43 q11 (tn := 106) rfl (by decide) ?_
        obtain ⟨q12, hf⟩ := gf_s hf
        refine r_gf C ct9 (j := 1) (ji := 1) dX11_chain_44 q12 rfl rfl (by decide) w_286 rfl (fun c12 => ?_)
        have c12 : in32 _ := c12
        refine r_iconst C dX11_chain_47 ?_
        refine r_icmp_ne C dX11_chain_48 (tgt := 54) (by decide) c12 (in32_of rfl) (fun n13 => ?_) (fun n13 => ?_)
        · have hf := ite_n n13 hf
          refine r_aload_n C dX11_chain_54 rfl ?_
          obtain ⟨q14, hf⟩ := gf_s hf
          refine r_gf C ct11 (j := 0) (ji := 0) dX11_chain_55 q14 rfl rfl (by decide) w_440 rfl (fun c14 => ?_)
          obtain ⟨q15, hf⟩ := gf_s hf
          refine r_gf C ct10 (j := 4) (ji := 4) dX11_chain_58 q15 rfl rfl (by decide) w_308 rfl (fun c15 => ?_)
          refine r_iload_n C dX11_chain_61 rfl ?_
          obtain ⟨q16, hf⟩ := rd_s hf
          refine r_aald C dX11_chain_62 q16 (tn := 106) rfl (by decide) ?_
          obtain ⟨q17, hf⟩ := gf_s hf
          refine r_gf C ct9 (j := 1) (ji := 1) dX11_chain_63 q17 rfl rfl (by decide) w_286 rfl (fun c17 => ?_)
          have c17 : in32 _ := c17
          refine r_if_eq C dX11_chain_66 (tgt := 72) (by decide) c17 (fun n18 => ?_) (fun n18 => ?_)
          · have hf := ite_p n18 hf
            refine r_aload_n C dX11_chain_72 rfl ?_
            obtain ⟨q19, hf⟩ := gf_s hf
            refine r_gf C ct11 (j := 0) (ji := 0) dX11_chain_73 q19 rfl rfl (by decide) w_440 rfl (fun c19 => ?_)
            obtain ⟨q20, hf⟩ := gf_s hf
            refine r_gf C ct10 (j := 1) (ji := 1) dX11_chain_76 q20 rfl rfl (by decide) w_302 rfl (fun c20 => ?_)
            obtain ⟨p21, hf⟩ := gk_s hf
            obtain ⟨r21, h21, hq21, hf⟩ := bd_s hf
            refine r_cV0 C (am_X5_isFull (gl g) n) cm_X5_isFull w_700 dX11_chain_79 ⟨Nat.le_of_ble_eq_true rfl, Nat.le_of_ble_eq_true rfl⟩ p21 rfl  rfl (Nat.le_of_ble_eq_true rfl) hq21 (by decide) (fun c21 => ?_)
            have c21 : in32 _ := c21
            refine r_if_eq C dX11_chain_82 (tgt := 88) (by decide) c21 (fun n22 => ?_) (fun n22 => ?_)
            · have hf := ite_p n22 hf
              refine r_aload_n C dX11_chain_88 rfl ?_
              obtain ⟨q23, hf⟩ := gf_s hf
              refine r_gf C ct11 (j := 0) (ji := 0) dX11_chain_89 q23 rfl rfl (by decide) w_440 rfl (fun c23 => ?_)
              obtain ⟨q24, hf⟩ := gf_s hf
              refine r_gf C ct10 (j := 1) (ji := 1) dX11_chain_92 q24 rfl rfl (by decide) w_302 rfl (fun c24 => ?_)
              refine r_aload_n C dX11_chain_95 rfl ?_
              obtain ⟨q25, hf⟩ := gf_s hf
              refine r_gf C ct11 (j := 0) (ji := 0) dX11_chain_96 q25 rfl rfl (by decide) w_440 rfl (fun c25 => ?_)
              refine r_iload_n C dX11_chain_99 rfl ?_
              refine r_aload C dX11_chain_100 rfl ?_
              refine r_aload_n C dX11_chain_102 rfl ?_
              obtain ⟨q26, hf⟩ := gf_s hf
              refine r_gf C ct11 (j := 0) (ji := 0) dX11_chain_103 q26 rfl rfl (by decide) w_440 rfl (fun c26 => ?_)
              obtain ⟨q27, hf⟩ := gf_s hf
              refine r_gf C ct10 (j := 4) (ji := 4) dX11_chain_106 q27 rfl rfl (by decide) w_308 rfl (fun c27 => ?_)
              refine r_iload_n C dX11_chain_109 rfl ?_
              obtain ⟨q28, hf⟩ := rd_s hf
              refine r_aald C dX11_chain_110 q28 (tn := 106) rfl (by decide) ?_
              refine r_aload_n C dX11_chain_111 rfl ?_
              obtain ⟨q29, hf⟩ := gf_s hf
              refine r_gf C ct11 (j := 0) (ji := 0) dX11_chain_112 q29 rfl rfl (by decide) w_440 rfl (fun c29 => ?_)
              obtain ⟨q30, hf⟩ := gf_s hf
              refine r_gf C ct10 (j := 4) (ji := 4) dX11_chain_115 q30 rfl rfl (by decide) w_308 rfl (fun c30 => ?_)
              refine r_iload_n C dX11_chain_118 rfl ?_
              obtain ⟨q31, hf⟩ := rd_s hf
              refine r_aald C dX11_chain_119 q31 (tn := 106) rfl (by decide) ?_
              obtain ⟨p32, hf⟩ := gk_s hf
              obtain ⟨r32, h32, hq32, hf⟩ := bd_s hf
              refine r_cV4 C (am_X10_survey (gl g) n) cm_X10_survey w_810 dX11_chain_120 ⟨Nat.le_of_ble_eq_true rfl, Nat.le_of_ble_eq_true rfl⟩ p32 rfl cv1 trivial trivial trivial rfl (Nat.le_of_ble_eq_true rfl) hq32 (by decide) (fun c32 => ?_)
              obtain ⟨p33, hf⟩ := gk_s hf
              obtain ⟨r33, h33, hq33, hf⟩ := bd_s hf
              refine r_cV1 C (am_X5_file (gl g) n) cm_X5_file w_789 dX11_chain_123 ⟨Nat.le_of_ble_eq_true rfl, Nat.le_of_ble_eq_true rfl⟩ p33 rfl trivial rfl (Nat.le_of_ble_eq_true rfl) hq33 (by decide) (fun c33 => ?_)
              have c33 : in32 _ := c33
              cases hf
              exact r_jret C hr dX11_chain_126 c33
            · have hf := ite_n n22 hf
              refine r_bipush C dX11_chain_85 rfl ?_
              cases hf
              exact r_jret C hr dX11_chain_87 (in32_of rfl)
          · have hf := ite_n n18 hf
            refine r_bipush C dX11_chain_69 rfl ?_
            cases hf
            exact r_jret C hr dX11_chain_71 (in32_of rfl)
        · have hf := ite_p n13 hf
          refine r_bipush C dX11_chain_51 rfl ?_
          cases hf
          exact r_jret C hr dX11_chain_53 (in32_of rfl)
      · have hf := ite_p n8 hf
        exact G.mask [false, false, false, false, false] rfl rfl (b_X11_chain_33 C hr   hf)
set_option maxRecDepth 20000 in
theorem am_X11_chain (l : Launch) (n : Nat) : AM l yX11_chain cX11_chain 5 (some .int) 5 119 [2, 0, 0, 0] 0 (un4 (f_X11_chain n)) := by
  refine AM.intro (by decide) (fun xs hx => ?_) (fun g xs h Z hl C hr hx hf => ?_)
  · obtain ⟨a0, a1, a2, a3, rfl, c0, c1, c2, c3⟩ := canL_4 hx
    exact Nat.le_of_ble_eq_true rfl
  · obtain ⟨a0, a1, a2, a3, rfl, c0, c1, c2, c3⟩ := canL_4 hx
    have hf := (un4_e _ a0 a1 a2 a3 _).symm.trans hf
    exact e_X11_chain (n := n) C hr c0 c1 c2 c3 hf
/-! LinesPromised$Land.climb(II)I -/
theorem dX1_climb_0 : decode cX1_climb 0 = .ok (.aload_n 0, 1) := by decide +kernel
theorem dX1_climb_1 : decode cX1_climb 1 = .ok (.getfield 9, 3) := by decide +kernel
theorem dX1_climb_4 : decode cX1_climb 4 = .ok (.iload_n 2, 1) := by decide +kernel
theorem dX1_climb_5 : decode cX1_climb 5 = .ok (.iaload, 1) := by decide +kernel
theorem dX1_climb_6 : decode cX1_climb 6 = .ok (.aload_n 0, 1) := by decide +kernel
theorem dX1_climb_7 : decode cX1_climb 7 = .ok (.getfield 9, 3) := by decide +kernel
theorem dX1_climb_10 : decode cX1_climb 10 = .ok (.iload_n 1, 1) := by decide +kernel
theorem dX1_climb_11 : decode cX1_climb 11 = .ok (.iaload, 1) := by decide +kernel
theorem dX1_climb_12 : decode cX1_climb 12 = .ok (.isub, 1) := by decide +kernel
theorem dX1_climb_13 : decode cX1_climb 13 = .ok (.invokestatic 77, 3) := by decide +kernel
theorem dX1_climb_16 : decode cX1_climb 16 = .ok (.ireturn, 1) := by decide +kernel
theorem cm_X1_climb : CM yX1_climb cX1_climb 3 (some .int) 2 1 := ⟨w_863, w_864, w_865, w_89, ⟨by decide +kernel, by decide +kernel, by decide +kernel⟩, ⟨_, _, rfl⟩, by decide⟩
noncomputable def f_X1_climb (n : Nat) (v0 v1 v2 : Int) (h : MM) : RR :=
  gf h v0 1 0 fun r1 =>
  rd h r1 100 v2 fun r2 =>
  gf h v0 1 0 fun r3 =>
  rd h r3 100 v1 fun r4 =>
  some (jabs (wr (r2 - r4)), h)
set_option maxRecDepth 20000 in
theorem e_X1_climb {g : GT} {Z : Int × MM} {n : Nat} (C : Cx g cX1_climb 3 yX1_climb 1 24) (hr : Rt g (some .int) 0 Z) {v0 v1 v2 : Int} (cv0 : cK 2 v0) (cv1 : cK 0 v1) (cv2 : cK 0 v2) {h : MM} (hf : f_X1_climb n v0 v1 v2 h = some Z) : G g 0 [(2, v0), (0, v1), (0, v2)] [] h := by
  have cv1 : in32 v1 := cv1
  have cv2 : in32 v2 := cv2
  unfold f_X1_climb at hf
  refine r_aload_n C dX1_climb_0 rfl ?_
  obtain ⟨q1, hf⟩ := gf_s hf
  refine r_gf C ct1 (j := 0) (ji := 0) dX1_climb_1 q1 rfl rfl (by decide) w_128 rfl (fun c1 => ?_)
  refine r_iload_n C dX1_climb_4 rfl ?_
  obtain ⟨q2, hf⟩ := rd_s hf
  refine r_iald C dX1_climb_5 q2 rfl (fun c2 => ?_)
  refine r_aload_n C dX1_climb_6 rfl ?_
  obtain ⟨q3, hf⟩ := gf_s hf
  refine r_gf C ct1 (j := 0) (ji := 0) dX1_climb_7 q3 rfl rfl (by decide) w_128 rfl (fun c3 => ?_)
  refine r_iload_n C dX1_climb_10 rfl ?_
  obtain ⟨q4, hf⟩ := rd_s hf
  refine r_iald C dX1_climb_11 q4 rfl (fun c4 => ?_)
  refine r_isub C dX1_climb_12 ?_
  refine r_mabs C dX1_climb_13 w_866 ⟨Nat.le_of_ble_eq_true rfl, Nat.le_of_ble_eq_true rfl⟩ rfl (in32_t _) ?_
  cases hf
  exact r_jret C hr dX1_climb_16 (in32_abs (in32_t _))
set_option maxRecDepth 20000 in
theorem am_X1_climb (l : Launch) (n : Nat) : AM l yX1_climb cX1_climb 3 (some .int) 1 24 [2, 0, 0] 0 (un3 (f_X1_climb n)) := by
  refine AM.intro (by decide) (fun xs hx => ?_) (fun g xs h Z hl C hr hx hf => ?_)
  · obtain ⟨a0, a1, a2, rfl, c0, c1, c2⟩ := canL_3 hx
    exact Nat.le_of_ble_eq_true rfl
  · obtain ⟨a0, a1, a2, rfl, c0, c1, c2⟩ := canL_3 hx
    have hf := (un3_e _ a0 a1 a2 _).symm.trans hf
    exact e_X1_climb (n := n) C hr c0 c1 c2 hf
/-! LinesPromised$Land.yardsTo(II)I -/
theorem dX1_yardsTo_0 : decode cX1_yardsTo 0 = .ok (.aload_n 0, 1) := by decide +kernel
theorem dX1_yardsTo_1 : decode cX1_yardsTo 1 = .ok (.getfield 15, 3) := by decide +kernel
theorem dX1_yardsTo_4 : decode cX1_yardsTo 4 = .ok (.iload_n 2, 1) := by decide +kernel
theorem dX1_yardsTo_5 : decode cX1_yardsTo 5 = .ok (.iaload, 1) := by decide +kernel
theorem dX1_yardsTo_6 : decode cX1_yardsTo 6 = .ok (.iconst 1, 1) := by decide +kernel
theorem dX1_yardsTo_7 : decode cX1_yardsTo 7 = .ok (.if_icmp .ne 8, 3) := by decide +kernel
theorem dX1_yardsTo_10 : decode cX1_yardsTo 10 = .ok (.bipush 20, 2) := by decide +kernel
theorem dX1_yardsTo_12 : decode cX1_yardsTo 12 = .ok (.goto 18, 3) := by decide +kernel
theorem dX1_yardsTo_15 : decode cX1_yardsTo 15 = .ok (.aload_n 0, 1) := by decide +kernel
theorem dX1_yardsTo_16 : decode cX1_yardsTo 16 = .ok (.getfield 15, 3) := by decide +kernel
theorem dX1_yardsTo_19 : decode cX1_yardsTo 19 = .ok (.iload_n 2, 1) := by decide +kernel
theorem dX1_yardsTo_20 : decode cX1_yardsTo 20 = .ok (.iaload, 1) := by decide +kernel
theorem dX1_yardsTo_21 : decode cX1_yardsTo 21 = .ok (.iconst 2, 1) := by decide +kernel
theorem dX1_yardsTo_22 : decode cX1_yardsTo 22 = .ok (.if_icmp .ne 7, 3) := by decide +kernel
theorem dX1_yardsTo_25 : decode cX1_yardsTo 25 = .ok (.iconst 5, 1) := by decide +kernel
theorem dX1_yardsTo_26 : decode cX1_yardsTo 26 = .ok (.goto 4, 3) := by decide +kernel
theorem dX1_yardsTo_29 : decode cX1_yardsTo 29 = .ok (.iconst 0, 1) := by decide +kernel
theorem dX1_yardsTo_30 : decode cX1_yardsTo 30 = .ok (.istore_n 3, 1) := by decide +kernel
theorem dX1_yardsTo_31 : decode cX1_yardsTo 31 = .ok (.bipush 10, 2) := by decide +kernel
theorem dX1_yardsTo_33 : decode cX1_yardsTo 33 = .ok (.iconst 3, 1) := by decide +kernel
theorem dX1_yardsTo_34 : decode cX1_yardsTo 34 = .ok (.aload_n 0, 1) := by decide +kernel
theorem dX1_yardsTo_35 : decode cX1_yardsTo 35 = .ok (.iload_n 1, 1) := by decide +kernel
theorem dX1_yardsTo_36 : decode cX1_yardsTo 36 = .ok (.iload_n 2, 1) := by decide +kernel
theorem dX1_yardsTo_37 : decode cX1_yardsTo 37 = .ok (.invokevirtual 81, 3) := by decide +kernel
theorem dX1_yardsTo_40 : decode cX1_yardsTo 40 = .ok (.imul, 1) := by decide +kernel
theorem dX1_yardsTo_41 : decode cX1_yardsTo 41 = .ok (.iadd, 1) := by decide +kernel
theorem dX1_yardsTo_42 : decode cX1_yardsTo 42 = .ok (.iload_n 3, 1) := by decide +kernel
theorem dX1_yardsTo_43 : decode cX1_yardsTo 43 = .ok (.iadd, 1) := by decide +kernel
theorem dX1_yardsTo_44 : decode cX1_yardsTo 44 = .ok (.ireturn, 1) := by decide +kernel
theorem cm_X1_yardsTo : CM yX1_yardsTo cX1_yardsTo 4 (some .int) 2 1 := ⟨w_859, w_860, w_861, w_89, ⟨by decide +kernel, by decide +kernel, by decide +kernel⟩, ⟨_, _, rfl⟩, by decide⟩
noncomputable def f_X1_yardsTo_30 (n : Nat)  (v0 v1 v2 s0 : Int) (h : MM) : RR :=
  gk h v0 1 <|
  bd (f_X1_climb n v0 v1 v2 h) fun r1 h1 =>
  some (wr ((wr (10 + (wr (3 * r1)))) + s0), h1)
noncomputable def f_X1_yardsTo (n : Nat) (v0 v1 v2 : Int) (h : MM) : RR :=
  gf h v0 1 1 fun r1 =>
  rd h r1 100 v2 fun r2 =>
  if r2 = 1 then
    f_X1_yardsTo_30 n v0 v1 v2 20 h
  else
  gf h v0 1 1 fun r4 =>
  rd h r4 100 v2 fun r5 =>
  if r5 = 2 then
    f_X1_yardsTo_30 n v0 v1 v2 5 h
  else
  f_X1_yardsTo_30 n v0 v1 v2 0 h
set_option maxRecDepth 20000 in
theorem b_X1_yardsTo_30 {g : GT} {Z : Int × MM} {n : Nat} (C : Cx g cX1_yardsTo 4 yX1_yardsTo 2 46) (hr : Rt g (some .int) 0 Z) {v0 v1 v2 s0 : Int}    (cv1 : in32 v1) (cv2 : in32 v2) (cs0 : in32 s0) {h : MM} (hf : f_X1_yardsTo_30 n  v0 v1 v2 s0 h = some Z) : G g 30 [(2, v0), (0, v1), (0, v2), (3, 0)] [(0, s0)] h := by
  unfold f_X1_yardsTo_30 at hf
  refine r_istore_n C dX1_yardsTo_30 (Nat.le_of_ble_eq_true rfl) rfl ?_
  refine r_bipush C dX1_yardsTo_31 rfl ?_
  refine r_iconst C dX1_yardsTo_33 ?_
  refine r_aload_n C dX1_yardsTo_34 rfl ?_
  refine r_iload_n C dX1_yardsTo_35 rfl ?_
  refine r_iload_n C dX1_yardsTo_36 rfl ?_
  obtain ⟨p1, hf⟩ := gk_s hf
  obtain ⟨r1, h1, hq1, hf⟩ := bd_s hf
  refine r_cV2 C (am_X1_climb (gl g) n) cm_X1_climb w_862 dX1_yardsTo_37 ⟨Nat.le_of_ble_eq_true rfl, Nat.le_of_ble_eq_true rfl⟩ p1 rfl cv1 cv2 rfl (Nat.le_of_ble_eq_true rfl) hq1 (by decide) (fun c1 => ?_)
  have c1 : in32 _ := c1
  refine r_imul C dX1_yardsTo_40 ?_
  refine r_iadd C dX1_yardsTo_41 ?_
  refine r_iload_n C dX1_yardsTo_42 rfl ?_
  refine r_iadd C dX1_yardsTo_43 ?_
  cases hf
  exact r_jret C hr dX1_yardsTo_44 (in32_t _)
set_option maxRecDepth 20000 in
theorem e_X1_yardsTo {g : GT} {Z : Int × MM} {n : Nat} (C : Cx g cX1_yardsTo 4 yX1_yardsTo 2 46) (hr : Rt g (some .int) 0 Z) {v0 v1 v2 : Int} (cv0 : cK 2 v0) (cv1 : cK 0 v1) (cv2 : cK 0 v2) {h : MM} (hf : f_X1_yardsTo n v0 v1 v2 h = some Z) : G g 0 [(2, v0), (0, v1), (0, v2), (3, 0)] [] h := by
  have cv1 : in32 v1 := cv1
  have cv2 : in32 v2 := cv2
  unfold f_X1_yardsTo at hf
  refine r_aload_n C dX1_yardsTo_0 rfl ?_
  obtain ⟨q1, hf⟩ := gf_s hf
  refine r_gf C ct1 (j := 1) (ji := 1) dX1_yardsTo_1 q1 rfl rfl (by decide) w_131 rfl (fun c1 => ?_)
  refine r_iload_n C dX1_yardsTo_4 rfl ?_
  obtain ⟨q2, hf⟩ := rd_s hf
  refine r_iald C dX1_yardsTo_5 q2 rfl (fun c2 => ?_)
  refine r_iconst C dX1_yardsTo_6 ?_
  refine r_icmp_ne C dX1_yardsTo_7 (tgt := 15) (by decide) c2 (in32_of rfl) (fun n3 => ?_) (fun n3 => ?_)
  · have hf := ite_n n3 hf
    refine r_aload_n C dX1_yardsTo_15 rfl ?_
    obtain ⟨q4, hf⟩ := gf_s hf
    refine r_gf C ct1 (j := 1) (ji := 1) dX1_yardsTo_16 q4 rfl rfl (by decide) w_131 rfl (fun c4 => ?_)
    refine r_iload_n C dX1_yardsTo_19 rfl ?_
    obtain ⟨q5, hf⟩ := rd_s hf
    refine r_iald C dX1_yardsTo_20 q5 rfl (fun c5 => ?_)
    refine r_iconst C dX1_yardsTo_21 ?_
    refine r_icmp_ne C dX1_yardsTo_22 (tgt := 29) (by decide) c5 (in32_of rfl) (fun n6 => ?_) (fun n6 => ?_)
    · have hf := ite_n n6 hf
      refine r_iconst C dX1_yardsTo_29 ?_
      exact G.mask [true, true, true, false] rfl rfl (b_X1_yardsTo_30 C hr  cv1 cv2 (in32_of rfl) hf)
    · have hf := ite_p n6 hf
      refine r_iconst C dX1_yardsTo_25 ?_
      refine r_goto C dX1_yardsTo_26 (tgt := 30) (by decide) ?_
      exact G.mask [true, true, true, false] rfl rfl (b_X1_yardsTo_30 C hr  cv1 cv2 (in32_of rfl) hf)
  · have hf := ite_p n3 hf
    refine r_bipush C dX1_yardsTo_10 rfl ?_
    refine r_goto C dX1_yardsTo_12 (tgt := 30) (by decide) ?_
    exact G.mask [true, true, true, false] rfl rfl (b_X1_yardsTo_30 C hr  cv1 cv2 (in32_of rfl) hf)
set_option maxRecDepth 20000 in
theorem am_X1_yardsTo (l : Launch) (n : Nat) : AM l yX1_yardsTo cX1_yardsTo 4 (some .int) 2 46 [2, 0, 0] 0 (un3 (f_X1_yardsTo n)) := by
  refine AM.intro (by decide) (fun xs hx => ?_) (fun g xs h Z hl C hr hx hf => ?_)
  · obtain ⟨a0, a1, a2, rfl, c0, c1, c2⟩ := canL_3 hx
    exact Nat.le_of_ble_eq_true rfl
  · obtain ⟨a0, a1, a2, rfl, c0, c1, c2⟩ := canL_3 hx
    have hf := (un3_e _ a0 a1 a2 _).symm.trans hf
    exact e_X1_yardsTo (n := n) C hr c0 c1 c2 hf
/-! LinesPromised$Land.yardsOf([I)I -/
theorem dX1_yardsOf_0 : decode cX1_yardsOf 0 = .ok (.iconst 0, 1) := by decide +kernel
theorem dX1_yardsOf_1 : decode cX1_yardsOf 1 = .ok (.istore_n 2, 1) := by decide +kernel
theorem dX1_yardsOf_2 : decode cX1_yardsOf 2 = .ok (.iconst 1, 1) := by decide +kernel
theorem dX1_yardsOf_3 : decode cX1_yardsOf 3 = .ok (.istore_n 3, 1) := by decide +kernel
theorem dX1_yardsOf_4 : decode cX1_yardsOf 4 = .ok (.iload_n 3, 1) := by decide +kernel
theorem dX1_yardsOf_5 : decode cX1_yardsOf 5 = .ok (.aload_n 1, 1) := by decide +kernel
theorem dX1_yardsOf_6 : decode cX1_yardsOf 6 = .ok (.arraylength, 1) := by decide +kernel
theorem dX1_yardsOf_7 : decode cX1_yardsOf 7 = .ok (.if_icmp .ge 24, 3) := by decide +kernel
theorem dX1_yardsOf_10 : decode cX1_yardsOf 10 = .ok (.iload_n 2, 1) := by decide +kernel
theorem dX1_yardsOf_11 : decode cX1_yardsOf 11 = .ok (.aload_n 0, 1) := by decide +kernel
theorem dX1_yardsOf_12 : decode cX1_yardsOf 12 = .ok (.aload_n 1, 1) := by decide +kernel
theorem dX1_yardsOf_13 : decode cX1_yardsOf 13 = .ok (.iload_n 3, 1) := by decide +kernel
theorem dX1_yardsOf_14 : decode cX1_yardsOf 14 = .ok (.iconst 1, 1) := by decide +kernel
theorem dX1_yardsOf_15 : decode cX1_yardsOf 15 = .ok (.isub, 1) := by decide +kernel
theorem dX1_yardsOf_16 : decode cX1_yardsOf 16 = .ok (.iaload, 1) := by decide +kernel
theorem dX1_yardsOf_17 : decode cX1_yardsOf 17 = .ok (.aload_n 1, 1) := by decide +kernel
theorem dX1_yardsOf_18 : decode cX1_yardsOf 18 = .ok (.iload_n 3, 1) := by decide +kernel
theorem dX1_yardsOf_19 : decode cX1_yardsOf 19 = .ok (.iaload, 1) := by decide +kernel
theorem dX1_yardsOf_20 : decode cX1_yardsOf 20 = .ok (.invokevirtual 84, 3) := by decide +kernel
theorem dX1_yardsOf_23 : decode cX1_yardsOf 23 = .ok (.iadd, 1) := by decide +kernel
theorem dX1_yardsOf_24 : decode cX1_yardsOf 24 = .ok (.istore_n 2, 1) := by decide +kernel
theorem dX1_yardsOf_25 : decode cX1_yardsOf 25 = .ok (.iinc 3 1, 3) := by decide +kernel
theorem dX1_yardsOf_28 : decode cX1_yardsOf 28 = .ok (.goto (-24), 3) := by decide +kernel
theorem dX1_yardsOf_31 : decode cX1_yardsOf 31 = .ok (.iload_n 2, 1) := by decide +kernel
theorem dX1_yardsOf_32 : decode cX1_yardsOf 32 = .ok (.ireturn, 1) := by decide +kernel
theorem cm_X1_yardsOf : CM yX1_yardsOf cX1_yardsOf 4 (some .int) 1 1 := ⟨w_855, w_856, w_857, w_89, ⟨by decide +kernel, by decide +kernel, by decide +kernel⟩, ⟨_, _, rfl⟩, by decide⟩
noncomputable def f_X1_yardsOf_4b (n : Nat) (rec4 : Int → Int → MM → RR) (v0 v1 v2 v3 : Int) (h : MM) : RR :=
  al h v1 100 fun r1 =>
  if r1 ≤ v3 then
    some (v2, h)
  else
  rd h v1 100 (wr (v3 - 1)) fun r3 =>
  rd h v1 100 v3 fun r4 =>
  gk h v0 1 <|
  bd (f_X1_yardsTo n v0 r3 r4 h) fun r5 h5 =>
  lb (wr (v2 + r5)) fun x6 =>
  lb (wr (v3 + 1)) fun x7 =>
  rec4 x6 x7 h5
noncomputable def f_X1_yardsOf_4 (n : Nat)  (v0 v1 : Int) : Nat → Int → Int → MM → RR
  | 0, _, _, _ => none
  | k + 1, v2, v3, h => f_X1_yardsOf_4b n  (f_X1_yardsOf_4 n  v0 v1 k) v0 v1 v2 v3 h
noncomputable def f_X1_yardsOf (n : Nat) (v0 v1 : Int) (h : MM) : RR :=
  f_X1_yardsOf_4 n v0 v1 n 0 1 h
set_option maxRecDepth 20000 in
theorem b_X1_yardsOf_4b {g : GT} {Z : Int × MM} {n : Nat} (C : Cx g cX1_yardsOf 4 yX1_yardsOf 3 69) (hr : Rt g (some .int) 0 Z) {v0 v1 v2 v3 : Int}  {rec4 : Int → Int → MM → RR} (L4 : ∀ (u2 u3 : Int) (h : MM), in32 u2 → in32 u3 → rec4 u2 u3 h = some Z → G g 4 [(2, v0), (2, v1), (0, u2), (0, u3)] [] h) (cv2 : in32 v2) (cv3 : in32 v3) {h : MM} (hf : f_X1_yardsOf_4b n rec4 v0 v1 v2 v3 h = some Z) : G g 4 [(2, v0), (2, v1), (0, v2), (0, v3)] [] h := by
  unfold f_X1_yardsOf_4b at hf
  refine r_iload_n C dX1_yardsOf_4 rfl ?_
  refine r_aload_n C dX1_yardsOf_5 rfl ?_
  obtain ⟨q1, hf⟩ := al_s hf
  refine r_alen C (tn := 100) dX1_yardsOf_6 q1 rfl (by decide) (fun c1 _ => ?_)
  refine r_icmp_ge C dX1_yardsOf_7 (tgt := 31) (by decide) cv3 c1 (fun n2 => ?_) (fun n2 => ?_)
  · have hf := ite_p n2 hf
    refine r_iload_n C dX1_yardsOf_31 rfl ?_
    cases hf
    exact r_jret C hr dX1_yardsOf_32 cv2
  · have hf := ite_n n2 hf
    refine r_iload_n C dX1_yardsOf_10 rfl ?_
    refine r_aload_n C dX1_yardsOf_11 rfl ?_
    refine r_aload_n C dX1_yardsOf_12 rfl ?_
    refine r_iload_n C dX1_yardsOf_13 rfl ?_
    refine r_iconst C dX1_yardsOf_14 ?_
    refine r_isub C dX1_yardsOf_15 ?_
    obtain ⟨q3, hf⟩ := rd_s hf
    refine r_iald C dX1_yardsOf_16 q3 rfl (fun c3 => ?_)
    refine r_aload_n C dX1_yardsOf_17 rfl ?_
    refine r_iload_n C dX1_yardsOf_18 rfl ?_
    obtain ⟨q4, hf⟩ := rd_s hf
    refine r_iald C dX1_yardsOf_19 q4 rfl (fun c4 => ?_)
    obtain ⟨p5, hf⟩ := gk_s hf
    obtain ⟨r5, h5, hq5, hf⟩ := bd_s hf
    refine r_cV2 C (am_X1_yardsTo (gl g) n) cm_X1_yardsTo w_858 dX1_yardsOf_20 ⟨Nat.le_of_ble_eq_true rfl, Nat.le_of_ble_eq_true rfl⟩ p5 rfl c3 c4 rfl (Nat.le_of_ble_eq_true rfl) hq5 (by decide) (fun c5 => ?_)
    have c5 : in32 _ := c5
    refine r_iadd C dX1_yardsOf_23 ?_
    obtain ⟨x6, e6, hf⟩ := lb_s hf
    have c6 : in32 x6 := by rw [e6]; exact (in32_t _)
    refine r_istore_nL C dX1_yardsOf_24 e6 (Nat.le_of_ble_eq_true rfl) rfl ?_
    obtain ⟨x7, e7, hf⟩ := lb_s hf
    have c7 : in32 x7 := by rw [e7]; exact (in32_t _)
    refine r_iincL C dX1_yardsOf_25 rfl e7 (Nat.le_of_ble_eq_true rfl) rfl ?_
    refine r_goto C dX1_yardsOf_28 (tgt := 4) (by decide) ?_
    exact G.mask [true, true, true, true] rfl rfl (L4 _ _ _ c6 c7 hf)
set_option maxRecDepth 20000 in
theorem l_X1_yardsOf_4 {g : GT} {Z : Int × MM} {n : Nat} (C : Cx g cX1_yardsOf 4 yX1_yardsOf 3 69) (hr : Rt g (some .int) 0 Z) {v0 v1 : Int}    : ∀ (k : Nat) (v2 v3 : Int) (h : MM), in32 v2 → in32 v3 → f_X1_yardsOf_4 n  v0 v1 k v2 v3 h = some Z → G g 4 [(2, v0), (2, v1), (0, v2), (0, v3)] [] h := by
  intro k
  induction k with
  | zero => intro v2 v3 h cv2 cv3 hf; exact absurd hf (by intro z; cases z)
  | succ k ih => intro v2 v3 h cv2 cv3 hf; exact b_X1_yardsOf_4b C hr (rec4 := f_X1_yardsOf_4 n  v0 v1 k)  ih cv2 cv3 (show f_X1_yardsOf_4b n  (f_X1_yardsOf_4 n  v0 v1 k) v0 v1 v2 v3 h = some Z from hf)
set_option maxRecDepth 20000 in
theorem e_X1_yardsOf {g : GT} {Z : Int × MM} {n : Nat} (C : Cx g cX1_yardsOf 4 yX1_yardsOf 3 69) (hr : Rt g (some .int) 0 Z) {v0 v1 : Int} (cv0 : cK 2 v0) (cv1 : cK 2 v1) {h : MM} (hf : f_X1_yardsOf n v0 v1 h = some Z) : G g 0 [(2, v0), (2, v1), (3, 0), (3, 0)] [] h := by
  unfold f_X1_yardsOf at hf
  refine r_iconst C dX1_yardsOf_0 ?_
  refine r_istore_n C dX1_yardsOf_1 (Nat.le_of_ble_eq_true rfl) rfl ?_
  refine r_iconst C dX1_yardsOf_2 ?_
  refine r_istore_n C dX1_yardsOf_3 (Nat.le_of_ble_eq_true rfl) rfl ?_
  exact G.mask [true, true, true, true] rfl rfl (l_X1_yardsOf_4 C hr   _ _ _ _ (in32_of rfl) (in32_of rfl) hf)
set_option maxRecDepth 20000 in
theorem am_X1_yardsOf (l : Launch) (n : Nat) : AM l yX1_yardsOf cX1_yardsOf 4 (some .int) 3 69 [2, 2] 0 (un2 (f_X1_yardsOf n)) := by
  refine AM.intro (by decide) (fun xs hx => ?_) (fun g xs h Z hl C hr hx hf => ?_)
  · obtain ⟨a0, a1, rfl, c0, c1⟩ := canL_2 hx
    exact Nat.le_of_ble_eq_true rfl
  · obtain ⟨a0, a1, rfl, c0, c1⟩ := canL_2 hx
    have hf := (un2_e _ a0 a1 _).symm.trans hf
    exact e_X1_yardsOf (n := n) C hr c0 c1 hf
/-! LinesPromised.way(II)I -/
theorem dX11_way_0 : decode cX11_way 0 = .ok (.aload_n 0, 1) := by decide +kernel
theorem dX11_way_1 : decode cX11_way 1 = .ok (.getfield 10, 3) := by decide +kernel
theorem dX11_way_4 : decode cX11_way 4 = .ok (.getfield 133, 3) := by decide +kernel
theorem dX11_way_7 : decode cX11_way 7 = .ok (.iload_n 1, 1) := by decide +kernel
theorem dX11_way_8 : decode cX11_way 8 = .ok (.iconst 2, 1) := by decide +kernel
theorem dX11_way_9 : decode cX11_way 9 = .ok (.invokevirtual 172, 3) := by decide +kernel
theorem dX11_way_12 : decode cX11_way 12 = .ok (.astore_n 3, 1) := by decide +kernel
theorem dX11_way_13 : decode cX11_way 13 = .ok (.aload_n 3, 1) := by decide +kernel
theorem dX11_way_14 : decode cX11_way 14 = .ok (.ifnonnull 5, 3) := by decide +kernel
theorem dX11_way_17 : decode cX11_way 17 = .ok (.iconst (-1), 1) := by decide +kernel
theorem dX11_way_18 : decode cX11_way 18 = .ok (.ireturn, 1) := by decide +kernel
theorem dX11_way_19 : decode cX11_way 19 = .ok (.iload_n 2, 1) := by decide +kernel
theorem dX11_way_20 : decode cX11_way 20 = .ok (.ifCond .ne 9, 3) := by decide +kernel
theorem dX11_way_23 : decode cX11_way 23 = .ok (.aload_n 3, 1) := by decide +kernel
theorem dX11_way_24 : decode cX11_way 24 = .ok (.getfield 192, 3) := by decide +kernel
theorem dX11_way_27 : decode cX11_way 27 = .ok (.arraylength, 1) := by decide +kernel
theorem dX11_way_28 : decode cX11_way 28 = .ok (.ireturn, 1) := by decide +kernel
theorem dX11_way_29 : decode cX11_way 29 = .ok (.iload_n 2, 1) := by decide +kernel
theorem dX11_way_30 : decode cX11_way 30 = .ok (.iconst 1, 1) := by decide +kernel
theorem dX11_way_31 : decode cX11_way 31 = .ok (.if_icmp .ne 8, 3) := by decide +kernel
theorem dX11_way_34 : decode cX11_way 34 = .ok (.aload_n 3, 1) := by decide +kernel
theorem dX11_way_35 : decode cX11_way 35 = .ok (.getfield 195, 3) := by decide +kernel
theorem dX11_way_38 : decode cX11_way 38 = .ok (.ireturn, 1) := by decide +kernel
theorem dX11_way_39 : decode cX11_way 39 = .ok (.iload_n 2, 1) := by decide +kernel
theorem dX11_way_40 : decode cX11_way 40 = .ok (.iconst 2, 1) := by decide +kernel
theorem dX11_way_41 : decode cX11_way 41 = .ok (.if_icmp .ne 18, 3) := by decide +kernel
theorem dX11_way_44 : decode cX11_way 44 = .ok (.aload_n 0, 1) := by decide +kernel
theorem dX11_way_45 : decode cX11_way 45 = .ok (.getfield 10, 3) := by decide +kernel
theorem dX11_way_48 : decode cX11_way 48 = .ok (.getfield 50, 3) := by decide +kernel
theorem dX11_way_51 : decode cX11_way 51 = .ok (.aload_n 3, 1) := by decide +kernel
theorem dX11_way_52 : decode cX11_way 52 = .ok (.getfield 192, 3) := by decide +kernel
theorem dX11_way_55 : decode cX11_way 55 = .ok (.invokevirtual 198, 3) := by decide +kernel
theorem dX11_way_58 : decode cX11_way 58 = .ok (.ireturn, 1) := by decide +kernel
theorem dX11_way_59 : decode cX11_way 59 = .ok (.iload_n 2, 1) := by decide +kernel
theorem dX11_way_60 : decode cX11_way 60 = .ok (.i2l, 1) := by decide +kernel
theorem dX11_way_61 : decode cX11_way 61 = .ok (.ldc2_w 202, 3) := by decide +kernel
theorem dX11_way_64 : decode cX11_way 64 = .ok (.lsub, 1) := by decide +kernel
theorem dX11_way_65 : decode cX11_way 65 = .ok (.iconst 0, 1) := by decide +kernel
theorem dX11_way_66 : decode cX11_way 66 = .ok (.aload_n 3, 1) := by decide +kernel
theorem dX11_way_67 : decode cX11_way 67 = .ok (.getfield 192, 3) := by decide +kernel
theorem dX11_way_70 : decode cX11_way 70 = .ok (.arraylength, 1) := by decide +kernel
theorem dX11_way_71 : decode cX11_way 71 = .ok (.iconst 1, 1) := by decide +kernel
theorem dX11_way_72 : decode cX11_way 72 = .ok (.isub, 1) := by decide +kernel
theorem dX11_way_73 : decode cX11_way 73 = .ok (.invokestatic 46, 3) := by decide +kernel
theorem dX11_way_76 : decode cX11_way 76 = .ok (.ifCond .eq 15, 3) := by decide +kernel
theorem dX11_way_79 : decode cX11_way 79 = .ok (.aload_n 3, 1) := by decide +kernel
theorem dX11_way_80 : decode cX11_way 80 = .ok (.getfield 192, 3) := by decide +kernel
theorem dX11_way_83 : decode cX11_way 83 = .ok (.iload_n 2, 1) := by decide +kernel
theorem dX11_way_84 : decode cX11_way 84 = .ok (.bipush 10, 2) := by decide +kernel
theorem dX11_way_86 : decode cX11_way 86 = .ok (.isub, 1) := by decide +kernel
theorem dX11_way_87 : decode cX11_way 87 = .ok (.iaload, 1) := by decide +kernel
theorem dX11_way_88 : decode cX11_way 88 = .ok (.goto 4, 3) := by decide +kernel
theorem dX11_way_91 : decode cX11_way 91 = .ok (.iconst (-1), 1) := by decide +kernel
theorem dX11_way_92 : decode cX11_way 92 = .ok (.ireturn, 1) := by decide +kernel
theorem cm_X11_way : CM yX11_way cX11_way 4 (some .int) 2 11 := ⟨w_851, w_852, w_853, w_87, ⟨by decide +kernel, by decide +kernel, by decide +kernel⟩, ⟨_, _, rfl⟩, by decide⟩
noncomputable def f_X11_way_92 (n : Nat)  (s0 : Int) (h : MM) : RR :=
  some (s0, h)
noncomputable def f_X11_way (n : Nat) (v0 v1 v2 : Int) (h : MM) : RR :=
  gf h v0 11 0 fun r1 =>
  gf h r1 10 1 fun r2 =>
  gk h r2 5 <|
  bd (f_X5_find n r2 v1 2 h) fun r3 h3 =>
  if r3 = 0 then
    some ((-1), h3)
  else
  if v2 = 0 then
    gf h3 r3 4 3 fun r19 =>
    al h3 r19 100 fun r20 =>
    some (r20, h3)
  else
  if v2 = 1 then
    gf h3 r3 4 10 fun r18 =>
    some (r18, h3)
  else
  if v2 = 2 then
    gf h3 v0 11 0 fun r14 =>
    gf h3 r14 10 0 fun r15 =>
    gf h3 r3 4 3 fun r16 =>
    gk h3 r15 1 <|
    bd (f_X1_yardsOf n r15 r16 h3) fun r17 h17 =>
    some (r17, h17)
  else
  gf h3 r3 4 3 fun r8 =>
  al h3 r8 100 fun r9 =>
  bd (f_X11_within n (wl (v2 - 10)) 0 (wr (r9 - 1)) h3) fun r10 h10 =>
  if r10 = 0 then
    f_X11_way_92 n ((-1)) h10
  else
  gf h10 r3 4 3 fun r12 =>
  rd h10 r12 100 (wr (v2 - 10)) fun r13 =>
  f_X11_way_92 n r13 h10
set_option maxRecDepth 20000 in
theorem b_X11_way_92 {g : GT} {Z : Int × MM} {n : Nat} (C : Cx g cX11_way 4 yX11_way 4 92) (hr : Rt g (some .int) 0 Z) {s0 : Int}    (cs0 : in32 s0) {h : MM} (hf : f_X11_way_92 n  s0 h = some Z) : G g 92 [(3, 0), (3, 0), (3, 0), (3, 0)] [(0, s0)] h := by
  unfold f_X11_way_92 at hf
  cases hf
  exact r_jret C hr dX11_way_92 cs0
set_option maxRecDepth 20000 in
theorem e_X11_way {g : GT} {Z : Int × MM} {n : Nat} (C : Cx g cX11_way 4 yX11_way 4 92) (hr : Rt g (some .int) 0 Z) {v0 v1 v2 : Int} (cv0 : cK 2 v0) (cv1 : cK 0 v1) (cv2 : cK 0 v2) {h : MM} (hf : f_X11_way n v0 v1 v2 h = some Z) : G g 0 [(2, v0), (0, v1), (0, v2), (3, 0)] [] h := by
  have cv1 : in32 v1 := cv1
  have cv2 : in32 v2 := cv2
  unfold f_X11_way at hf
  refine r_aload_n C dX11_way_0 rfl ?_
  obtain ⟨q1, hf⟩ := gf_s hf
  refine r_gf C ct11 (j := 0) (ji := 0) dX11_way_1 q1 rfl rfl (by decide) w_440 rfl (fun c1 => ?_)
  obtain ⟨q2, hf⟩ := gf_s hf
  refine r_gf C ct10 (j := 1) (ji := 1) dX11_way_4 q2 rfl rfl (by decide) w_302 rfl (fun c2 => ?_)
  refine r_iload_n C dX11_way_7 rfl ?_
  refine r_iconst C dX11_way_8 ?_
  obtain ⟨p3, hf⟩ := gk_s hf
  obtain ⟨r3, h3, hq3, hf⟩ := bd_s hf
  refine r_cV2 C (am_X5_find (gl g) n) cm_X5_find w_798 dX11_way_9 ⟨Nat.le_of_ble_eq_true rfl, Nat.le_of_ble_eq_true rfl⟩ p3 rfl cv1 (in32_of rfl) rfl (Nat.le_of_ble_eq_true rfl) hq3 (by decide) (fun c3 => ?_)
  refine r_astore_n C dX11_way_12 (Nat.le_of_ble_eq_true rfl) rfl ?_
  refine r_aload_n C dX11_way_13 rfl ?_
  refine r_ifnonnull C dX11_way_14 (tgt := 19) (by decide) (fun n4 => ?_) (fun n4 => ?_)
  · have hf := ite_n n4 hf
    refine r_iload_n C dX11_way_19 rfl ?_
    refine r_if_ne C dX11_way_20 (tgt := 29) (by decide) cv2 (fun n5 => ?_) (fun n5 => ?_)
    · have hf := ite_n n5 hf
      refine r_iload_n C dX11_way_29 rfl ?_
      refine r_iconst C dX11_way_30 ?_
      refine r_icmp_ne C dX11_way_31 (tgt := 39) (by decide) cv2 (in32_of rfl) (fun n6 => ?_) (fun n6 => ?_)
      · have hf := ite_n n6 hf
        refine r_iload_n C dX11_way_39 rfl ?_
        refine r_iconst C dX11_way_40 ?_
        refine r_icmp_ne C dX11_way_41 (tgt := 59) (by decide) cv2 (in32_of rfl) (fun n7 => ?_) (fun n7 => ?_)
        · have hf := ite_n n7 hf
          refine r_iload_n C dX11_way_59 rfl ?_
          refine r_i2l C dX11_way_60 cv2 ?_
          refine r_ldc2 C (v := 10) dX11_way_61 w_869 ?_
          refine r_lsub C dX11_way_64 ?_
          refine r_iconst C dX11_way_65 ?_
          refine r_aload_n C dX11_way_66 rfl ?_
          obtain ⟨q8, hf⟩ := gf_s hf
          refine r_gf C ct4 (j := 3) (ji := 3) dX11_way_67 q8 rfl rfl (by decide) w_725 rfl (fun c8 => ?_)
          obtain ⟨q9, hf⟩ := al_s hf
          refine r_alen C (tn := 100) dX11_way_70 q9 rfl (by decide) (fun c9 _ => ?_)
          refine r_iconst C dX11_way_71 ?_
          refine r_isub C dX11_way_72 ?_
          obtain ⟨r10, h10, hq10, hf⟩ := bd_s hf
          refine r_cS3 C (am_X11_within (gl g) n) cm_X11_within w_466 dX11_way_73 ⟨Nat.le_of_ble_eq_true rfl, Nat.le_of_ble_eq_true rfl⟩ (in64_t _) (in32_of rfl) (in32_t _) rfl (Nat.le_of_ble_eq_true rfl) hq10 (by decide) (fun c10 => ?_)
          have c10 : in32 _ := c10
          refine r_if_eq C dX11_way_76 (tgt := 91) (by decide) c10 (fun n11 => ?_) (fun n11 => ?_)
          · have hf := ite_p n11 hf
            refine r_iconst C dX11_way_91 ?_
            exact G.mask [false, false, false, false] rfl rfl (b_X11_way_92 C hr  (in32_of rfl) hf)
          · have hf := ite_n n11 hf
            refine r_aload_n C dX11_way_79 rfl ?_
            obtain ⟨q12, hf⟩ := gf_s hf
            refine r_gf C ct4 (j := 3) (ji := 3) dX11_way_80 q12 rfl rfl (by decide) w_725 rfl (fun c12 => ?_)
            refine r_iload_n C dX11_way_83 rfl ?_
            refine r_bipush C dX11_way_84 rfl ?_
            refine r_isub C dX11_way_86 ?_
            obtain ⟨q13, hf⟩ := rd_s hf
            refine r_iald C dX11_way_87 q13 rfl (fun c13 => ?_)
            refine r_goto C dX11_way_88 (tgt := 92) (by decide) ?_
            exact G.mask [false, false, false, false] rfl rfl (b_X11_way_92 C hr  c13 hf)
        · have hf := ite_p n7 hf
          refine r_aload_n C dX11_way_44 rfl ?_
          obtain ⟨q14, hf⟩ := gf_s hf
          refine r_gf C ct11 (j := 0) (ji := 0) dX11_way_45 q14 rfl rfl (by decide) w_440 rfl (fun c14 => ?_)
          obtain ⟨q15, hf⟩ := gf_s hf
          refine r_gf C ct10 (j := 0) (ji := 0) dX11_way_48 q15 rfl rfl (by decide) w_300 rfl (fun c15 => ?_)
          refine r_aload_n C dX11_way_51 rfl ?_
          obtain ⟨q16, hf⟩ := gf_s hf
          refine r_gf C ct4 (j := 3) (ji := 3) dX11_way_52 q16 rfl rfl (by decide) w_725 rfl (fun c16 => ?_)
          obtain ⟨p17, hf⟩ := gk_s hf
          obtain ⟨r17, h17, hq17, hf⟩ := bd_s hf
          refine r_cV1 C (am_X1_yardsOf (gl g) n) cm_X1_yardsOf w_854 dX11_way_55 ⟨Nat.le_of_ble_eq_true rfl, Nat.le_of_ble_eq_true rfl⟩ p17 rfl trivial rfl (Nat.le_of_ble_eq_true rfl) hq17 (by decide) (fun c17 => ?_)
          have c17 : in32 _ := c17
          cases hf
          exact r_jret C hr dX11_way_58 c17
      · have hf := ite_p n6 hf
        refine r_aload_n C dX11_way_34 rfl ?_
        obtain ⟨q18, hf⟩ := gf_s hf
        refine r_gf C ct4 (j := 10) (ji := 10) dX11_way_35 q18 rfl rfl (by decide) w_757 rfl (fun c18 => ?_)
        have c18 : in32 _ := c18
        cases hf
        exact r_jret C hr dX11_way_38 c18
    · have hf := ite_p n5 hf
      refine r_aload_n C dX11_way_23 rfl ?_
      obtain ⟨q19, hf⟩ := gf_s hf
      refine r_gf C ct4 (j := 3) (ji := 3) dX11_way_24 q19 rfl rfl (by decide) w_725 rfl (fun c19 => ?_)
      obtain ⟨q20, hf⟩ := al_s hf
      refine r_alen C (tn := 100) dX11_way_27 q20 rfl (by decide) (fun c20 _ => ?_)
      cases hf
      exact r_jret C hr dX11_way_28 c20
  · have hf := ite_p n4 hf
    refine r_iconst C dX11_way_17 ?_
    cases hf
    exact r_jret C hr dX11_way_18 (in32_of rfl)
set_option maxRecDepth 20000 in
theorem am_X11_way (l : Launch) (n : Nat) : AM l yX11_way cX11_way 4 (some .int) 4 92 [2, 0, 0] 0 (un3 (f_X11_way n)) := by
  refine AM.intro (by decide) (fun xs hx => ?_) (fun g xs h Z hl C hr hx hf => ?_)
  · obtain ⟨a0, a1, a2, rfl, c0, c1, c2⟩ := canL_3 hx
    exact Nat.le_of_ble_eq_true rfl
  · obtain ⟨a0, a1, a2, rfl, c0, c1, c2⟩ := canL_3 hx
    have hf := (un3_e _ a0 a1 a2 _).symm.trans hf
    exact e_X11_way (n := n) C hr c0 c1 c2 hf
/-! LinesPromised.level(II)I -/
theorem dX11_level_0 : decode cX11_level 0 = .ok (.aload_n 0, 1) := by decide +kernel
theorem dX11_level_1 : decode cX11_level 1 = .ok (.getfield 10, 3) := by decide +kernel
theorem dX11_level_4 : decode cX11_level 4 = .ok (.getfield 133, 3) := by decide +kernel
theorem dX11_level_7 : decode cX11_level 7 = .ok (.iload_n 1, 1) := by decide +kernel
theorem dX11_level_8 : decode cX11_level 8 = .ok (.iconst 2, 1) := by decide +kernel
theorem dX11_level_9 : decode cX11_level 9 = .ok (.invokevirtual 172, 3) := by decide +kernel
theorem dX11_level_12 : decode cX11_level 12 = .ok (.astore_n 3, 1) := by decide +kernel
theorem dX11_level_13 : decode cX11_level 13 = .ok (.aload_n 3, 1) := by decide +kernel
theorem dX11_level_14 : decode cX11_level 14 = .ok (.ifnull 19, 3) := by decide +kernel
theorem dX11_level_17 : decode cX11_level 17 = .ok (.iload_n 2, 1) := by decide +kernel
theorem dX11_level_18 : decode cX11_level 18 = .ok (.i2l, 1) := by decide +kernel
theorem dX11_level_19 : decode cX11_level 19 = .ok (.iconst 0, 1) := by decide +kernel
theorem dX11_level_20 : decode cX11_level 20 = .ok (.aload_n 3, 1) := by decide +kernel
theorem dX11_level_21 : decode cX11_level 21 = .ok (.getfield 192, 3) := by decide +kernel
theorem dX11_level_24 : decode cX11_level 24 = .ok (.arraylength, 1) := by decide +kernel
theorem dX11_level_25 : decode cX11_level 25 = .ok (.iconst 1, 1) := by decide +kernel
theorem dX11_level_26 : decode cX11_level 26 = .ok (.isub, 1) := by decide +kernel
theorem dX11_level_27 : decode cX11_level 27 = .ok (.invokestatic 46, 3) := by decide +kernel
theorem dX11_level_30 : decode cX11_level 30 = .ok (.ifCond .ne 5, 3) := by decide +kernel
theorem dX11_level_33 : decode cX11_level 33 = .ok (.iconst (-1), 1) := by decide +kernel
theorem dX11_level_34 : decode cX11_level 34 = .ok (.ireturn, 1) := by decide +kernel
theorem dX11_level_35 : decode cX11_level 35 = .ok (.iload_n 2, 1) := by decide +kernel
theorem dX11_level_36 : decode cX11_level 36 = .ok (.aload_n 3, 1) := by decide +kernel
theorem dX11_level_37 : decode cX11_level 37 = .ok (.getfield 204, 3) := by decide +kernel
theorem dX11_level_40 : decode cX11_level 40 = .ok (.arraylength, 1) := by decide +kernel
theorem dX11_level_41 : decode cX11_level 41 = .ok (.if_icmp .ge 12, 3) := by decide +kernel
theorem dX11_level_44 : decode cX11_level 44 = .ok (.aload_n 3, 1) := by decide +kernel
theorem dX11_level_45 : decode cX11_level 45 = .ok (.getfield 204, 3) := by decide +kernel
theorem dX11_level_48 : decode cX11_level 48 = .ok (.iload_n 2, 1) := by decide +kernel
theorem dX11_level_49 : decode cX11_level 49 = .ok (.iaload, 1) := by decide +kernel
theorem dX11_level_50 : decode cX11_level 50 = .ok (.goto 5, 3) := by decide +kernel
theorem dX11_level_53 : decode cX11_level 53 = .ok (.ldc 207, 2) := by decide +kernel
theorem dX11_level_55 : decode cX11_level 55 = .ok (.ireturn, 1) := by decide +kernel
theorem cm_X11_level : CM yX11_level cX11_level 4 (some .int) 2 11 := ⟨w_871, w_872, w_873, w_87, ⟨by decide +kernel, by decide +kernel, by decide +kernel⟩, ⟨_, _, rfl⟩, by decide⟩
noncomputable def f_X11_level_33 (n : Nat)  (h : MM) : RR :=
  some ((-1), h)
noncomputable def f_X11_level_55 (n : Nat)  (s0 : Int) (h : MM) : RR :=
  some (s0, h)
noncomputable def f_X11_level (n : Nat) (v0 v1 v2 : Int) (h : MM) : RR :=
  gf h v0 11 0 fun r1 =>
  gf h r1 10 1 fun r2 =>
  gk h r2 5 <|
  bd (f_X5_find n r2 v1 2 h) fun r3 h3 =>
  if r3 = 0 then
    f_X11_level_33 n h3
  else
  gf h3 r3 4 3 fun r5 =>
  al h3 r5 100 fun r6 =>
  bd (f_X11_within n v2 0 (wr (r6 - 1)) h3) fun r7 h7 =>
  if r7 = 0 then
    f_X11_level_33 n h7
  else
  gf h7 r3 4 4 fun r9 =>
  al h7 r9 100 fun r10 =>
  if r10 ≤ v2 then
    f_X11_level_55 n ((-1000000)) h7
  else
  gf h7 r3 4 4 fun r12 =>
  rd h7 r12 100 v2 fun r13 =>
  f_X11_level_55 n r13 h7
set_option maxRecDepth 20000 in
theorem b_X11_level_33 {g : GT} {Z : Int × MM} {n : Nat} (C : Cx g cX11_level 4 yX11_level 3 67) (hr : Rt g (some .int) 0 Z)     {h : MM} (hf : f_X11_level_33 n   h = some Z) : G g 33 [(3, 0), (3, 0), (3, 0), (3, 0)] [] h := by
  unfold f_X11_level_33 at hf
  refine r_iconst C dX11_level_33 ?_
  cases hf
  exact r_jret C hr dX11_level_34 (in32_of rfl)
set_option maxRecDepth 20000 in
theorem b_X11_level_55 {g : GT} {Z : Int × MM} {n : Nat} (C : Cx g cX11_level 4 yX11_level 3 67) (hr : Rt g (some .int) 0 Z) {s0 : Int}    (cs0 : in32 s0) {h : MM} (hf : f_X11_level_55 n  s0 h = some Z) : G g 55 [(3, 0), (3, 0), (3, 0), (3, 0)] [(0, s0)] h := by
  unfold f_X11_level_55 at hf
  cases hf
  exact r_jret C hr dX11_level_55 cs0
set_option maxRecDepth 20000 in
theorem e_X11_level {g : GT} {Z : Int × MM} {n : Nat} (C : Cx g cX11_level 4 yX11_level 3 67) (hr : Rt g (some .int) 0 Z) {v0 v1 v2 : Int} (cv0 : cK 2 v0) (cv1 : cK 0 v1) (cv2 : cK 0 v2) {h : MM} (hf : f_X11_level n v0 v1 v2 h = some Z) : G g 0 [(2, v0), (0, v1), (0, v2), (3, 0)] [] h := by
  have cv1 : in32 v1 := cv1
  have cv2 : in32 v2 := cv2
  unfold f_X11_level at hf
  refine r_aload_n C dX11_level_0 rfl ?_
  obtain ⟨q1, hf⟩ := gf_s hf
  refine r_gf C ct11 (j := 0) (ji := 0) dX11_level_1 q1 rfl rfl (by decide) w_440 rfl (fun c1 => ?_)
  obtain ⟨q2, hf⟩ := gf_s hf
  refine r_gf C ct10 (j := 1) (ji := 1) dX11_level_4 q2 rfl rfl (by decide) w_302 rfl (fun c2 => ?_)
  refine r_iload_n C dX11_level_7 rfl ?_
  refine r_iconst C dX11_level_8 ?_
  obtain ⟨p3, hf⟩ := gk_s hf
  obtain ⟨r3, h3, hq3, hf⟩ := bd_s hf
  refine r_cV2 C (am_X5_find (gl g) n) cm_X5_find w_798 dX11_level_9 ⟨Nat.le_of_ble_eq_true rfl, Nat.le_of_ble_eq_true rfl⟩ p3 rfl cv1 (in32_of rfl) rfl (Nat.le_of_ble_eq_true rfl) hq3 (by decide) (fun c3 => ?_)
  refine r_astore_n C dX11_level_12 (Nat.le_of_ble_eq_true rfl) rfl ?_
  refine r_aload_n C dX11_level_13 rfl ?_
  refine r_ifnull C dX11_level_14 (tgt := 33) (by decide) (fun n4 => ?_) (fun n4 => ?_)
  · have hf := ite_p n4 hf
    exact G.mask [false, false, false, false] rfl rfl (b_X11_level_33 C hr   hf)
  · have hf := ite_n n4 hf
    refine r_iload_n C dX11_level_17 rfl ?_
    refine r_i2l C dX11_level_18 cv2 ?_
    refine r_iconst C dX11_level_19 ?_
    refine r_aload_n C dX11_level_20 rfl ?_
    obtain ⟨q5, hf⟩ := gf_s hf
    refine r_gf C ct4 (j := 3) (ji := 3) dX11_level_21 q5 rfl rfl (by decide) w_725 rfl (fun c5 => ?_)
    obtain ⟨q6, hf⟩ := al_s hf
    refine r_alen C (tn := 100) dX11_level_24 q6 rfl (by decide) (fun c6 _ => ?_)
    refine r_iconst C dX11_level_25 ?_
    refine r_isub C dX11_level_26 ?_
    obtain ⟨r7, h7, hq7, hf⟩ := bd_s hf
    refine r_cS3 C (am_X11_within (gl g) n) cm_X11_within w_466 dX11_level_27 ⟨Nat.le_of_ble_eq_true rfl, Nat.le_of_ble_eq_true rfl⟩ (in64_i cv2) (in32_of rfl) (in32_t _) rfl (Nat.le_of_ble_eq_true rfl) hq7 (by decide) (fun c7 => ?_)
    have c7 : in32 _ := c7
    refine r_if_ne C dX11_level_30 (tgt := 35) (by decide) c7 (fun n8 => ?_) (fun n8 => ?_)
    · have hf := ite_n n8 hf
      refine r_iload_n C dX11_level_35 rfl ?_
      refine r_aload_n C dX11_level_36 rfl ?_
      obtain ⟨q9, hf⟩ := gf_s hf
      refine r_gf C ct4 (j := 4) (ji := 4) dX11_level_37 q9 rfl rfl (by decide) w_729 rfl (fun c9 => ?_)
      obtain ⟨q10, hf⟩ := al_s hf
      refine r_alen C (tn := 100) dX11_level_40 q10 rfl (by decide) (fun c10 _ => ?_)
      refine r_icmp_ge C dX11_level_41 (tgt := 53) (by decide) cv2 c10 (fun n11 => ?_) (fun n11 => ?_)
      · have hf := ite_p n11 hf
        refine r_ldc C (v := (-1000000)) dX11_level_53 w_874 ?_
        exact G.mask [false, false, false, false] rfl rfl (b_X11_level_55 C hr  (in32_of rfl) hf)
      · have hf := ite_n n11 hf
        refine r_aload_n C dX11_level_44 rfl ?_
        obtain ⟨q12, hf⟩ := gf_s hf
        refine r_gf C ct4 (j := 4) (ji := 4) dX11_level_45 q12 rfl rfl (by decide) w_729 rfl (fun c12 => ?_)
        refine r_iload_n C dX11_level_48 rfl ?_
        obtain ⟨q13, hf⟩ := rd_s hf
        refine r_iald C dX11_level_49 q13 rfl (fun c13 => ?_)
        refine r_goto C dX11_level_50 (tgt := 55) (by decide) ?_
        exact G.mask [false, false, false, false] rfl rfl (b_X11_level_55 C hr  c13 hf)
    · have hf := ite_p n8 hf
      exact G.mask [false, false, false, false] rfl rfl (b_X11_level_33 C hr   hf)
set_option maxRecDepth 20000 in
theorem am_X11_level (l : Launch) (n : Nat) : AM l yX11_level cX11_level 4 (some .int) 3 67 [2, 0, 0] 0 (un3 (f_X11_level n)) := by
  refine AM.intro (by decide) (fun xs hx => ?_) (fun g xs h Z hl C hr hx hf => ?_)
  · obtain ⟨a0, a1, a2, rfl, c0, c1, c2⟩ := canL_3 hx
    exact Nat.le_of_ble_eq_true rfl
  · obtain ⟨a0, a1, a2, rfl, c0, c1, c2⟩ := canL_3 hx
    have hf := (un3_e _ a0 a1 a2 _).symm.trans hf
    exact e_X11_level (n := n) C hr c0 c1 c2 hf
/-! LinesPromised$World.whereNotClose(LLinesPromised$Paper;I)I -/
theorem dX10_whereNotClose_0 : decode cX10_whereNotClose 0 = .ok (.aload_n 0, 1) := by decide +kernel
theorem dX10_whereNotClose_1 : decode cX10_whereNotClose 1 = .ok (.iconst 1, 1) := by decide +kernel
theorem dX10_whereNotClose_2 : decode cX10_whereNotClose 2 = .ok (.iload_n 2, 1) := by decide +kernel
theorem dX10_whereNotClose_3 : decode cX10_whereNotClose 3 = .ok (.invokevirtual 159, 3) := by decide +kernel
theorem dX10_whereNotClose_6 : decode cX10_whereNotClose 6 = .ok (.istore_n 3, 1) := by decide +kernel
theorem dX10_whereNotClose_7 : decode cX10_whereNotClose 7 = .ok (.iconst 0, 1) := by decide +kernel
theorem dX10_whereNotClose_8 : decode cX10_whereNotClose 8 = .ok (.istore 4, 2) := by decide +kernel
theorem dX10_whereNotClose_10 : decode cX10_whereNotClose 10 = .ok (.iload 4, 2) := by decide +kernel
theorem dX10_whereNotClose_12 : decode cX10_whereNotClose 12 = .ok (.aload_n 1, 1) := by decide +kernel
theorem dX10_whereNotClose_13 : decode cX10_whereNotClose 13 = .ok (.getfield 162, 3) := by decide +kernel
theorem dX10_whereNotClose_16 : decode cX10_whereNotClose 16 = .ok (.arraylength, 1) := by decide +kernel
theorem dX10_whereNotClose_17 : decode cX10_whereNotClose 17 = .ok (.if_icmp .ge 55, 3) := by decide +kernel
theorem dX10_whereNotClose_20 : decode cX10_whereNotClose 20 = .ok (.iload 4, 2) := by decide +kernel
theorem dX10_whereNotClose_22 : decode cX10_whereNotClose 22 = .ok (.aload_n 1, 1) := by decide +kernel
theorem dX10_whereNotClose_23 : decode cX10_whereNotClose 23 = .ok (.getfield 165, 3) := by decide +kernel
theorem dX10_whereNotClose_26 : decode cX10_whereNotClose 26 = .ok (.arraylength, 1) := by decide +kernel
theorem dX10_whereNotClose_27 : decode cX10_whereNotClose 27 = .ok (.if_icmp .lt 6, 3) := by decide +kernel
theorem dX10_whereNotClose_30 : decode cX10_whereNotClose 30 = .ok (.iload 4, 2) := by decide +kernel
theorem dX10_whereNotClose_32 : decode cX10_whereNotClose 32 = .ok (.ireturn, 1) := by decide +kernel
theorem dX10_whereNotClose_33 : decode cX10_whereNotClose 33 = .ok (.aload_n 1, 1) := by decide +kernel
theorem dX10_whereNotClose_34 : decode cX10_whereNotClose 34 = .ok (.getfield 165, 3) := by decide +kernel
theorem dX10_whereNotClose_37 : decode cX10_whereNotClose 37 = .ok (.iload 4, 2) := by decide +kernel
theorem dX10_whereNotClose_39 : decode cX10_whereNotClose 39 = .ok (.iaload, 1) := by decide +kernel
theorem dX10_whereNotClose_40 : decode cX10_whereNotClose 40 = .ok (.aload_n 0, 1) := by decide +kernel
theorem dX10_whereNotClose_41 : decode cX10_whereNotClose 41 = .ok (.getfield 12, 3) := by decide +kernel
theorem dX10_whereNotClose_44 : decode cX10_whereNotClose 44 = .ok (.getfield 168, 3) := by decide +kernel
theorem dX10_whereNotClose_47 : decode cX10_whereNotClose 47 = .ok (.aload_n 1, 1) := by decide +kernel
theorem dX10_whereNotClose_48 : decode cX10_whereNotClose 48 = .ok (.getfield 162, 3) := by decide +kernel
theorem dX10_whereNotClose_51 : decode cX10_whereNotClose 51 = .ok (.iload 4, 2) := by decide +kernel
theorem dX10_whereNotClose_53 : decode cX10_whereNotClose 53 = .ok (.iaload, 1) := by decide +kernel
theorem dX10_whereNotClose_54 : decode cX10_whereNotClose 54 = .ok (.iaload, 1) := by decide +kernel
theorem dX10_whereNotClose_55 : decode cX10_whereNotClose 55 = .ok (.isub, 1) := by decide +kernel
theorem dX10_whereNotClose_56 : decode cX10_whereNotClose 56 = .ok (.invokestatic 171, 3) := by decide +kernel
theorem dX10_whereNotClose_59 : decode cX10_whereNotClose 59 = .ok (.iload_n 3, 1) := by decide +kernel
theorem dX10_whereNotClose_60 : decode cX10_whereNotClose 60 = .ok (.if_icmp .le 6, 3) := by decide +kernel
theorem dX10_whereNotClose_63 : decode cX10_whereNotClose 63 = .ok (.iload 4, 2) := by decide +kernel
theorem dX10_whereNotClose_65 : decode cX10_whereNotClose 65 = .ok (.ireturn, 1) := by decide +kernel
theorem dX10_whereNotClose_66 : decode cX10_whereNotClose 66 = .ok (.iinc 4 1, 3) := by decide +kernel
theorem dX10_whereNotClose_69 : decode cX10_whereNotClose 69 = .ok (.goto (-59), 3) := by decide +kernel
theorem dX10_whereNotClose_72 : decode cX10_whereNotClose 72 = .ok (.bipush (-5), 2) := by decide +kernel
theorem dX10_whereNotClose_74 : decode cX10_whereNotClose 74 = .ok (.ireturn, 1) := by decide +kernel
theorem cm_X10_whereNotClose : CM yX10_whereNotClose cX10_whereNotClose 5 (some .int) 2 10 := ⟨w_880, w_881, w_882, w_88, ⟨by decide +kernel, by decide +kernel, by decide +kernel⟩, ⟨_, _, rfl⟩, by decide⟩
noncomputable def f_X10_whereNotClose_10b (n : Nat) (rec10 : Int → MM → RR) (v0 v1 v3 v4 : Int) (h : MM) : RR :=
  gf h v1 4 3 fun r1 =>
  al h r1 100 fun r2 =>
  if r2 ≤ v4 then
    some ((-5), h)
  else
  gf h v1 4 4 fun r4 =>
  al h r4 100 fun r5 =>
  if v4 < r5 then
    gf h v1 4 4 fun r7 =>
    rd h r7 100 v4 fun r8 =>
    gf h v0 10 0 fun r9 =>
    gf h r9 1 0 fun r10 =>
    gf h v1 4 3 fun r11 =>
    rd h r11 100 v4 fun r12 =>
    rd h r10 100 r12 fun r13 =>
    if jabs (wr (r8 - r13)) ≤ v3 then
      lb (wr (v4 + 1)) fun x15 =>
      rec10 x15 h
    else
    some (v4, h)
  else
  some (v4, h)
noncomputable def f_X10_whereNotClose_10 (n : Nat)  (v0 v1 v3 : Int) : Nat → Int → MM → RR
  | 0, _, _ => none
  | k + 1, v4, h => f_X10_whereNotClose_10b n  (f_X10_whereNotClose_10 n  v0 v1 v3 k) v0 v1 v3 v4 h
noncomputable def f_X10_whereNotClose (n : Nat) (v0 v1 v2 : Int) (h : MM) : RR :=
  gk h v0 10 <|
  bd (f_X10_ruleOf n v0 1 v2 h) fun r1 h1 =>
  f_X10_whereNotClose_10 n v0 v1 r1 n 0 h1
set_option maxRecDepth 20000 in
theorem b_X10_whereNotClose_10b {g : GT} {Z : Int × MM} {n : Nat} (C : Cx g cX10_whereNotClose 5 yX10_whereNotClose 3 72) (hr : Rt g (some .int) 0 Z) {v0 v1 v3 v4 : Int}  {rec10 : Int → MM → RR} (L10 : ∀ (u4 : Int) (h : MM), in32 u4 → rec10 u4 h = some Z → G g 10 [(2, v0), (2, v1), (3, 0), (0, v3), (0, u4)] [] h) (cv3 : in32 v3) (cv4 : in32 v4) {h : MM} (hf : f_X10_whereNotClose_10b n rec10 v0 v1 v3 v4 h = some Z) : G g 10 [(2, v0), (2, v1), (3, 0), (0, v3), (0, v4)] [] h := by
  unfold f_X10_whereNotClose_10b at hf
  refine r_iload C dX10_whereNotClose_10 rfl ?_
  refine r_aload_n C dX10_whereNotClose_12 rfl ?_
  obtain ⟨q1, hf⟩ := gf_s hf
  refine r_gf C ct4 (j := 3) (ji := 3) dX10_whereNotClose_13 q1 rfl rfl (by decide) w_724 rfl (fun c1 => ?_)
  obtain ⟨q2, hf⟩ := al_s hf
  refine r_alen C (tn := 100) dX10_whereNotClose_16 q2 rfl (by decide) (fun c2 _ => ?_)
  refine r_icmp_ge C dX10_whereNotClose_17 (tgt := 72) (by decide) cv4 c2 (fun n3 => ?_) (fun n3 => ?_)
  · have hf := ite_p n3 hf
    refine r_bipush C dX10_whereNotClose_72 rfl ?_
    cases hf
    exact r_jret C hr dX10_whereNotClose_74 (in32_of rfl)
  · have hf := ite_n n3 hf
    refine r_iload C dX10_whereNotClose_20 rfl ?_
    refine r_aload_n C dX10_whereNotClose_22 rfl ?_
    obtain ⟨q4, hf⟩ := gf_s hf
    refine r_gf C ct4 (j := 4) (ji := 4) dX10_whereNotClose_23 q4 rfl rfl (by decide) w_728 rfl (fun c4 => ?_)
    obtain ⟨q5, hf⟩ := al_s hf
    refine r_alen C (tn := 100) dX10_whereNotClose_26 q5 rfl (by decide) (fun c5 _ => ?_)
    refine r_icmp_lt C dX10_whereNotClose_27 (tgt := 33) (by decide) cv4 c5 (fun n6 => ?_) (fun n6 => ?_)
    · have hf := ite_p n6 hf
      refine r_aload_n C dX10_whereNotClose_33 rfl ?_
      obtain ⟨q7, hf⟩ := gf_s hf
      refine r_gf C ct4 (j := 4) (ji := 4) dX10_whereNotClose_34 q7 rfl rfl (by decide) w_728 rfl (fun c7 => ?_)
      refine r_iload C dX10_whereNotClose_37 rfl ?_
      obtain ⟨q8, hf⟩ := rd_s hf
      refine r_iald C dX10_whereNotClose_39 q8 rfl (fun c8 => ?_)
      refine r_aload_n C dX10_whereNotClose_40 rfl ?_
      obtain ⟨q9, hf⟩ := gf_s hf
      refine r_gf C ct10 (j := 0) (ji := 0) dX10_whereNotClose_41 q9 rfl rfl (by decide) w_298 rfl (fun c9 => ?_)
      obtain ⟨q10, hf⟩ := gf_s hf
      refine r_gf C ct1 (j := 0) (ji := 0) dX10_whereNotClose_44 q10 rfl rfl (by decide) w_130 rfl (fun c10 => ?_)
      refine r_aload_n C dX10_whereNotClose_47 rfl ?_
      obtain ⟨q11, hf⟩ := gf_s hf
      refine r_gf C ct4 (j := 3) (ji := 3) dX10_whereNotClose_48 q11 rfl rfl (by decide) w_724 rfl (fun c11 => ?_)
      refine r_iload C dX10_whereNotClose_51 rfl ?_
      obtain ⟨q12, hf⟩ := rd_s hf
      refine r_iald C dX10_whereNotClose_53 q12 rfl (fun c12 => ?_)
      obtain ⟨q13, hf⟩ := rd_s hf
      refine r_iald C dX10_whereNotClose_54 q13 rfl (fun c13 => ?_)
      refine r_isub C dX10_whereNotClose_55 ?_
      refine r_mabs C dX10_whereNotClose_56 w_884 ⟨Nat.le_of_ble_eq_true rfl, Nat.le_of_ble_eq_true rfl⟩ rfl (in32_t _) ?_
      refine r_iload_n C dX10_whereNotClose_59 rfl ?_
      refine r_icmp_le C dX10_whereNotClose_60 (tgt := 66) (by decide) (in32_abs (in32_t _)) cv3 (fun n14 => ?_) (fun n14 => ?_)
      · have hf := ite_p n14 hf
        obtain ⟨x15, e15, hf⟩ := lb_s hf
        have c15 : in32 x15 := by rw [e15]; exact (in32_t _)
        refine r_iincL C dX10_whereNotClose_66 rfl e15 (Nat.le_of_ble_eq_true rfl) rfl ?_
        refine r_goto C dX10_whereNotClose_69 (tgt := 10) (by decide) ?_
        exact G.mask [true, true, false, true, true] rfl rfl (L10 _ _ c15 hf)
      · have hf := ite_n n14 hf
        refine r_iload C dX10_whereNotClose_63 rfl ?_
        cases hf
        exact r_jret C hr dX10_whereNotClose_65 cv4
    · have hf := ite_n n6 hf
      refine r_iload C dX10_whereNotClose_30 rfl ?_
      cases hf
      exact r_jret C hr dX10_whereNotClose_32 cv4
set_option maxRecDepth 20000 in
theorem l_X10_whereNotClose_10 {g : GT} {Z : Int × MM} {n : Nat} (C : Cx g cX10_whereNotClose 5 yX10_whereNotClose 3 72) (hr : Rt g (some .int) 0 Z) {v0 v1 v3 : Int}   (cv3 : in32 v3) : ∀ (k : Nat) (v4 : Int) (h : MM), in32 v4 → f_X10_whereNotClose_10 n  v0 v1 v3 k v4 h = some Z → G g 10 [(2, v0), (2, v1), (3, 0), (0, v3), (0, v4)] [] h := by
  intro k
  induction k with
  | zero => intro v4 h cv4 hf; exact absurd hf (by intro z; cases z)
  | succ k ih => intro v4 h cv4 hf; exact b_X10_whereNotClose_10b C hr (rec10 := f_X10_whereNotClose_10 n  v0 v1 v3 k)  ih cv3 cv4 (show f_X10_whereNotClose_10b n  (f_X10_whereNotClose_10 n  v0 v1 v3 k) v0 v1 v3 v4 h = some Z from hf)
set_option maxRecDepth 20000 in
theorem e_X10_whereNotClose {g : GT} {Z : Int × MM} {n : Nat} (C : Cx g cX10_whereNotClose 5 yX10_whereNotClose 3 72) (hr : Rt g (some .int) 0 Z) {v0 v1 v2 : Int} (cv0 : cK 2 v0) (cv1 : cK 2 v1) (cv2 : cK 0 v2) {h : MM} (hf : f_X10_whereNotClose n v0 v1 v2 h = some Z) : G g 0 [(2, v0), (2, v1), (0, v2), (3, 0), (3, 0)] [] h := by
  have cv2 : in32 v2 := cv2
  unfold f_X10_whereNotClose at hf
  refine r_aload_n C dX10_whereNotClose_0 rfl ?_
  refine r_iconst C dX10_whereNotClose_1 ?_
  refine r_iload_n C dX10_whereNotClose_2 rfl ?_
  obtain ⟨p1, hf⟩ := gk_s hf
  obtain ⟨r1, h1, hq1, hf⟩ := bd_s hf
  refine r_cV2 C (am_X10_ruleOf (gl g) n) cm_X10_ruleOf w_883 dX10_whereNotClose_3 ⟨Nat.le_of_ble_eq_true rfl, Nat.le_of_ble_eq_true rfl⟩ p1 rfl (in32_of rfl) cv2 rfl (Nat.le_of_ble_eq_true rfl) hq1 (by decide) (fun c1 => ?_)
  have c1 : in32 _ := c1
  refine r_istore_n C dX10_whereNotClose_6 (Nat.le_of_ble_eq_true rfl) rfl ?_
  refine r_iconst C dX10_whereNotClose_7 ?_
  refine r_istore C dX10_whereNotClose_8 (Nat.le_of_ble_eq_true rfl) rfl ?_
  exact G.mask [true, true, false, true, true] rfl rfl (l_X10_whereNotClose_10 C hr  c1 _ _ _ (in32_of rfl) hf)
set_option maxRecDepth 20000 in
theorem am_X10_whereNotClose (l : Launch) (n : Nat) : AM l yX10_whereNotClose cX10_whereNotClose 5 (some .int) 3 72 [2, 2, 0] 0 (un3 (f_X10_whereNotClose n)) := by
  refine AM.intro (by decide) (fun xs hx => ?_) (fun g xs h Z hl C hr hx hf => ?_)
  · obtain ⟨a0, a1, a2, rfl, c0, c1, c2⟩ := canL_3 hx
    exact Nat.le_of_ble_eq_true rfl
  · obtain ⟨a0, a1, a2, rfl, c0, c1, c2⟩ := canL_3 hx
    have hf := (un3_e _ a0 a1 a2 _).symm.trans hf
    exact e_X10_whereNotClose (n := n) C hr c0 c1 c2 hf
/-! LinesPromised$World.whereSteep(LLinesPromised$Paper;I)I -/
theorem dX10_whereSteep_0 : decode cX10_whereSteep 0 = .ok (.aload_n 0, 1) := by decide +kernel
theorem dX10_whereSteep_1 : decode cX10_whereSteep 1 = .ok (.iconst 0, 1) := by decide +kernel
theorem dX10_whereSteep_2 : decode cX10_whereSteep 2 = .ok (.iload_n 2, 1) := by decide +kernel
theorem dX10_whereSteep_3 : decode cX10_whereSteep 3 = .ok (.invokevirtual 159, 3) := by decide +kernel
theorem dX10_whereSteep_6 : decode cX10_whereSteep 6 = .ok (.istore_n 3, 1) := by decide +kernel
theorem dX10_whereSteep_7 : decode cX10_whereSteep 7 = .ok (.iconst 1, 1) := by decide +kernel
theorem dX10_whereSteep_8 : decode cX10_whereSteep 8 = .ok (.istore 4, 2) := by decide +kernel
theorem dX10_whereSteep_10 : decode cX10_whereSteep 10 = .ok (.iload 4, 2) := by decide +kernel
theorem dX10_whereSteep_12 : decode cX10_whereSteep 12 = .ok (.aload_n 1, 1) := by decide +kernel
theorem dX10_whereSteep_13 : decode cX10_whereSteep 13 = .ok (.getfield 162, 3) := by decide +kernel
theorem dX10_whereSteep_16 : decode cX10_whereSteep 16 = .ok (.arraylength, 1) := by decide +kernel
theorem dX10_whereSteep_17 : decode cX10_whereSteep 17 = .ok (.if_icmp .ge 39, 3) := by decide +kernel
theorem dX10_whereSteep_20 : decode cX10_whereSteep 20 = .ok (.aload_n 0, 1) := by decide +kernel
theorem dX10_whereSteep_21 : decode cX10_whereSteep 21 = .ok (.getfield 12, 3) := by decide +kernel
theorem dX10_whereSteep_24 : decode cX10_whereSteep 24 = .ok (.aload_n 1, 1) := by decide +kernel
theorem dX10_whereSteep_25 : decode cX10_whereSteep 25 = .ok (.getfield 162, 3) := by decide +kernel
theorem dX10_whereSteep_28 : decode cX10_whereSteep 28 = .ok (.iload 4, 2) := by decide +kernel
theorem dX10_whereSteep_30 : decode cX10_whereSteep 30 = .ok (.iconst 1, 1) := by decide +kernel
theorem dX10_whereSteep_31 : decode cX10_whereSteep 31 = .ok (.isub, 1) := by decide +kernel
theorem dX10_whereSteep_32 : decode cX10_whereSteep 32 = .ok (.iaload, 1) := by decide +kernel
theorem dX10_whereSteep_33 : decode cX10_whereSteep 33 = .ok (.aload_n 1, 1) := by decide +kernel
theorem dX10_whereSteep_34 : decode cX10_whereSteep 34 = .ok (.getfield 162, 3) := by decide +kernel
theorem dX10_whereSteep_37 : decode cX10_whereSteep 37 = .ok (.iload 4, 2) := by decide +kernel
theorem dX10_whereSteep_39 : decode cX10_whereSteep 39 = .ok (.iaload, 1) := by decide +kernel
theorem dX10_whereSteep_40 : decode cX10_whereSteep 40 = .ok (.invokevirtual 177, 3) := by decide +kernel
theorem dX10_whereSteep_43 : decode cX10_whereSteep 43 = .ok (.iload_n 3, 1) := by decide +kernel
theorem dX10_whereSteep_44 : decode cX10_whereSteep 44 = .ok (.if_icmp .le 6, 3) := by decide +kernel
theorem dX10_whereSteep_47 : decode cX10_whereSteep 47 = .ok (.iload 4, 2) := by decide +kernel
theorem dX10_whereSteep_49 : decode cX10_whereSteep 49 = .ok (.ireturn, 1) := by decide +kernel
theorem dX10_whereSteep_50 : decode cX10_whereSteep 50 = .ok (.iinc 4 1, 3) := by decide +kernel
theorem dX10_whereSteep_53 : decode cX10_whereSteep 53 = .ok (.goto (-43), 3) := by decide +kernel
theorem dX10_whereSteep_56 : decode cX10_whereSteep 56 = .ok (.bipush (-5), 2) := by decide +kernel
theorem dX10_whereSteep_58 : decode cX10_whereSteep 58 = .ok (.ireturn, 1) := by decide +kernel
theorem cm_X10_whereSteep : CM yX10_whereSteep cX10_whereSteep 5 (some .int) 2 10 := ⟨w_886, w_887, w_888, w_88, ⟨by decide +kernel, by decide +kernel, by decide +kernel⟩, ⟨_, _, rfl⟩, by decide⟩
noncomputable def f_X10_whereSteep_10b (n : Nat) (rec10 : Int → MM → RR) (v0 v1 v3 v4 : Int) (h : MM) : RR :=
  gf h v1 4 3 fun r1 =>
  al h r1 100 fun r2 =>
  if r2 ≤ v4 then
    some ((-5), h)
  else
  gf h v0 10 0 fun r4 =>
  gf h v1 4 3 fun r5 =>
  rd h r5 100 (wr (v4 - 1)) fun r6 =>
  gf h v1 4 3 fun r7 =>
  rd h r7 100 v4 fun r8 =>
  gk h r4 1 <|
  bd (f_X1_climb n r4 r6 r8 h) fun r9 h9 =>
  if r9 ≤ v3 then
    lb (wr (v4 + 1)) fun x11 =>
    rec10 x11 h9
  else
  some (v4, h9)
noncomputable def f_X10_whereSteep_10 (n : Nat)  (v0 v1 v3 : Int) : Nat → Int → MM → RR
  | 0, _, _ => none
  | k + 1, v4, h => f_X10_whereSteep_10b n  (f_X10_whereSteep_10 n  v0 v1 v3 k) v0 v1 v3 v4 h
noncomputable def f_X10_whereSteep (n : Nat) (v0 v1 v2 : Int) (h : MM) : RR :=
  gk h v0 10 <|
  bd (f_X10_ruleOf n v0 0 v2 h) fun r1 h1 =>
  f_X10_whereSteep_10 n v0 v1 r1 n 1 h1
set_option maxRecDepth 20000 in
theorem b_X10_whereSteep_10b {g : GT} {Z : Int × MM} {n : Nat} (C : Cx g cX10_whereSteep 5 yX10_whereSteep 3 72) (hr : Rt g (some .int) 0 Z) {v0 v1 v3 v4 : Int}  {rec10 : Int → MM → RR} (L10 : ∀ (u4 : Int) (h : MM), in32 u4 → rec10 u4 h = some Z → G g 10 [(2, v0), (2, v1), (3, 0), (0, v3), (0, u4)] [] h) (cv3 : in32 v3) (cv4 : in32 v4) {h : MM} (hf : f_X10_whereSteep_10b n rec10 v0 v1 v3 v4 h = some Z) : G g 10 [(2, v0), (2, v1), (3, 0), (0, v3), (0, v4)] [] h := by
  unfold f_X10_whereSteep_10b at hf
  refine r_iload C dX10_whereSteep_10 rfl ?_
  refine r_aload_n C dX10_whereSteep_12 rfl ?_
  obtain ⟨q1, hf⟩ := gf_s hf
  refine r_gf C ct4 (j := 3) (ji := 3) dX10_whereSteep_13 q1 rfl rfl (by decide) w_724 rfl (fun c1 => ?_)
  obtain ⟨q2, hf⟩ := al_s hf
  refine r_alen C (tn := 100) dX10_whereSteep_16 q2 rfl (by decide) (fun c2 _ => ?_)
  refine r_icmp_ge C dX10_whereSteep_17 (tgt := 56) (by decide) cv4 c2 (fun n3 => ?_) (fun n3 => ?_)
  · have hf := ite_p n3 hf
    refine r_bipush C dX10_whereSteep_56 rfl ?_
    cases hf
    exact r_jret C hr dX10_whereSteep_58 (in32_of rfl)
  · have hf := ite_n n3 hf
    refine r_aload_n C dX10_whereSteep_20 rfl ?_
    obtain ⟨q4, hf⟩ := gf_s hf
    refine r_gf C ct10 (j := 0) (ji := 0) dX10_whereSteep_21 q4 rfl rfl (by decide) w_298 rfl (fun c4 => ?_)
    refine r_aload_n C dX10_whereSteep_24 rfl ?_
    obtain ⟨q5, hf⟩ := gf_s hf
    refine r_gf C ct4 (j := 3) (ji := 3) dX10_whereSteep_25 q5 rfl rfl (by decide) w_724 rfl (fun c5 => ?_)
    refine r_iload C dX10_whereSteep_28 rfl ?_
    refine r_iconst C dX10_whereSteep_30 ?_
    refine r_isub C dX10_whereSteep_31 ?_
    obtain ⟨q6, hf⟩ := rd_s hf
    refine r_iald C dX10_whereSteep_32 q6 rfl (fun c6 => ?_)
    refine r_aload_n C dX10_whereSteep_33 rfl ?_
    obtain ⟨q7, hf⟩ := gf_s hf
    refine r_gf C ct4 (j := 3) (ji := 3) dX10_whereSteep_34 q7 rfl rfl (by decide) w_724 rfl (fun c7 => ?_)
    refine r_iload C dX10_whereSteep_37 rfl ?_
    obtain ⟨q8, hf⟩ := rd_s hf
    refine r_iald C dX10_whereSteep_39 q8 rfl (fun c8 => ?_)
    obtain ⟨p9, hf⟩ := gk_s hf
    obtain ⟨r9, h9, hq9, hf⟩ := bd_s hf
    refine r_cV2 C (am_X1_climb (gl g) n) cm_X1_climb w_889 dX10_whereSteep_40 ⟨Nat.le_of_ble_eq_true rfl, Nat.le_of_ble_eq_true rfl⟩ p9 rfl c6 c8 rfl (Nat.le_of_ble_eq_true rfl) hq9 (by decide) (fun c9 => ?_)
    have c9 : in32 _ := c9
    refine r_iload_n C dX10_whereSteep_43 rfl ?_
    refine r_icmp_le C dX10_whereSteep_44 (tgt := 50) (by decide) c9 cv3 (fun n10 => ?_) (fun n10 => ?_)
    · have hf := ite_p n10 hf
      obtain ⟨x11, e11, hf⟩ := lb_s hf
      have c11 : in32 x11 := by rw [e11]; exact (in32_t _)
      refine r_iincL C dX10_whereSteep_50 rfl e11 (Nat.le_of_ble_eq_true rfl) rfl ?_
      refine r_goto C dX10_whereSteep_53 (tgt := 10) (by decide) ?_
      exact G.mask [true, true, false, true, true] rfl rfl (L10 _ _ c11 hf)
    · have hf := ite_n n10 hf
      refine r_iload C dX10_whereSteep_47 rfl ?_
      cases hf
      exact r_jret C hr dX10_whereSteep_49 cv4
set_option maxRecDepth 20000 in
theorem l_X10_whereSteep_10 {g : GT} {Z : Int × MM} {n : Nat} (C : Cx g cX10_whereSteep 5 yX10_whereSteep 3 72) (hr : Rt g (some .int) 0 Z) {v0 v1 v3 : Int}   (cv3 : in32 v3) : ∀ (k : Nat) (v4 : Int) (h : MM), in32 v4 → f_X10_whereSteep_10 n  v0 v1 v3 k v4 h = some Z → G g 10 [(2, v0), (2, v1), (3, 0), (0, v3), (0, v4)] [] h := by
  intro k
  induction k with
  | zero => intro v4 h cv4 hf; exact absurd hf (by intro z; cases z)
  | succ k ih => intro v4 h cv4 hf; exact b_X10_whereSteep_10b C hr (rec10 := f_X10_whereSteep_10 n  v0 v1 v3 k)  ih cv3 cv4 (show f_X10_whereSteep_10b n  (f_X10_whereSteep_10 n  v0 v1 v3 k) v0 v1 v3 v4 h = some Z from hf)
set_option maxRecDepth 20000 in
theorem e_X10_whereSteep {g : GT} {Z : Int × MM} {n : Nat} (C : Cx g cX10_whereSteep 5 yX10_whereSteep 3 72) (hr : Rt g (some .int) 0 Z) {v0 v1 v2 : Int} (cv0 : cK 2 v0) (cv1 : cK 2 v1) (cv2 : cK 0 v2) {h : MM} (hf : f_X10_whereSteep n v0 v1 v2 h = some Z) : G g 0 [(2, v0), (2, v1), (0, v2), (3, 0), (3, 0)] [] h := by
  have cv2 : in32 v2 := cv2
  unfold f_X10_whereSteep at hf
  refine r_aload_n C dX10_whereSteep_0 rfl ?_
  refine r_iconst C dX10_whereSteep_1 ?_
  refine r_iload_n C dX10_whereSteep_2 rfl ?_
  obtain ⟨p1, hf⟩ := gk_s hf
  obtain ⟨r1, h1, hq1, hf⟩ := bd_s hf
  refine r_cV2 C (am_X10_ruleOf (gl g) n) cm_X10_ruleOf w_883 dX10_whereSteep_3 ⟨Nat.le_of_ble_eq_true rfl, Nat.le_of_ble_eq_true rfl⟩ p1 rfl (in32_of rfl) cv2 rfl (Nat.le_of_ble_eq_true rfl) hq1 (by decide) (fun c1 => ?_)
  have c1 : in32 _ := c1
  refine r_istore_n C dX10_whereSteep_6 (Nat.le_of_ble_eq_true rfl) rfl ?_
  refine r_iconst C dX10_whereSteep_7 ?_
  refine r_istore C dX10_whereSteep_8 (Nat.le_of_ble_eq_true rfl) rfl ?_
  exact G.mask [true, true, false, true, true] rfl rfl (l_X10_whereSteep_10 C hr  c1 _ _ _ (in32_of rfl) hf)
set_option maxRecDepth 20000 in
theorem am_X10_whereSteep (l : Launch) (n : Nat) : AM l yX10_whereSteep cX10_whereSteep 5 (some .int) 3 72 [2, 2, 0] 0 (un3 (f_X10_whereSteep n)) := by
  refine AM.intro (by decide) (fun xs hx => ?_) (fun g xs h Z hl C hr hx hf => ?_)
  · obtain ⟨a0, a1, a2, rfl, c0, c1, c2⟩ := canL_3 hx
    exact Nat.le_of_ble_eq_true rfl
  · obtain ⟨a0, a1, a2, rfl, c0, c1, c2⟩ := canL_3 hx
    have hf := (un3_e _ a0 a1 a2 _).symm.trans hf
    exact e_X10_whereSteep (n := n) C hr c0 c1 c2 hf
/-! LinesPromised.close(III)I -/
theorem dX11_close_0 : decode cX11_close 0 = .ok (.aload_n 0, 1) := by decide +kernel
theorem dX11_close_1 : decode cX11_close 1 = .ok (.getfield 10, 3) := by decide +kernel
theorem dX11_close_4 : decode cX11_close 4 = .ok (.getfield 133, 3) := by decide +kernel
theorem dX11_close_7 : decode cX11_close 7 = .ok (.iload_n 1, 1) := by decide +kernel
theorem dX11_close_8 : decode cX11_close 8 = .ok (.iconst 2, 1) := by decide +kernel
theorem dX11_close_9 : decode cX11_close 9 = .ok (.invokevirtual 172, 3) := by decide +kernel
theorem dX11_close_12 : decode cX11_close 12 = .ok (.astore 4, 2) := by decide +kernel
theorem dX11_close_14 : decode cX11_close 14 = .ok (.aload 4, 2) := by decide +kernel
theorem dX11_close_16 : decode cX11_close 16 = .ok (.ifnull 13, 3) := by decide +kernel
theorem dX11_close_19 : decode cX11_close 19 = .ok (.iload_n 2, 1) := by decide +kernel
theorem dX11_close_20 : decode cX11_close 20 = .ok (.i2l, 1) := by decide +kernel
theorem dX11_close_21 : decode cX11_close 21 = .ok (.iconst 0, 1) := by decide +kernel
theorem dX11_close_22 : decode cX11_close 22 = .ok (.iconst 1, 1) := by decide +kernel
theorem dX11_close_23 : decode cX11_close 23 = .ok (.invokestatic 46, 3) := by decide +kernel
theorem dX11_close_26 : decode cX11_close 26 = .ok (.ifCond .ne 5, 3) := by decide +kernel
theorem dX11_close_29 : decode cX11_close 29 = .ok (.iconst (-1), 1) := by decide +kernel
theorem dX11_close_30 : decode cX11_close 30 = .ok (.ireturn, 1) := by decide +kernel
theorem dX11_close_31 : decode cX11_close 31 = .ok (.iload_n 3, 1) := by decide +kernel
theorem dX11_close_32 : decode cX11_close 32 = .ok (.invokestatic 97, 3) := by decide +kernel
theorem dX11_close_35 : decode cX11_close 35 = .ok (.ifCond .ne 6, 3) := by decide +kernel
theorem dX11_close_38 : decode cX11_close 38 = .ok (.bipush (-2), 2) := by decide +kernel
theorem dX11_close_40 : decode cX11_close 40 = .ok (.ireturn, 1) := by decide +kernel
theorem dX11_close_41 : decode cX11_close 41 = .ok (.iload_n 2, 1) := by decide +kernel
theorem dX11_close_42 : decode cX11_close 42 = .ok (.ifCond .ne 16, 3) := by decide +kernel
theorem dX11_close_45 : decode cX11_close 45 = .ok (.aload_n 0, 1) := by decide +kernel
theorem dX11_close_46 : decode cX11_close 46 = .ok (.getfield 10, 3) := by decide +kernel
theorem dX11_close_49 : decode cX11_close 49 = .ok (.aload 4, 2) := by decide +kernel
theorem dX11_close_51 : decode cX11_close 51 = .ok (.iload_n 3, 1) := by decide +kernel
theorem dX11_close_52 : decode cX11_close 52 = .ok (.invokevirtual 208, 3) := by decide +kernel
theorem dX11_close_55 : decode cX11_close 55 = .ok (.goto 13, 3) := by decide +kernel
theorem dX11_close_58 : decode cX11_close 58 = .ok (.aload_n 0, 1) := by decide +kernel
theorem dX11_close_59 : decode cX11_close 59 = .ok (.getfield 10, 3) := by decide +kernel
theorem dX11_close_62 : decode cX11_close 62 = .ok (.aload 4, 2) := by decide +kernel
theorem dX11_close_64 : decode cX11_close 64 = .ok (.iload_n 3, 1) := by decide +kernel
theorem dX11_close_65 : decode cX11_close 65 = .ok (.invokevirtual 212, 3) := by decide +kernel
theorem dX11_close_68 : decode cX11_close 68 = .ok (.ireturn, 1) := by decide +kernel
theorem cm_X11_close : CM yX11_close cX11_close 5 (some .int) 3 11 := ⟨w_876, w_877, w_878, w_87, ⟨by decide +kernel, by decide +kernel, by decide +kernel⟩, ⟨_, _, rfl⟩, by decide⟩
noncomputable def f_X11_close_29 (n : Nat)  (h : MM) : RR :=
  some ((-1), h)
noncomputable def f_X11_close_68 (n : Nat)  (s0 : Int) (h : MM) : RR :=
  some (s0, h)
noncomputable def f_X11_close (n : Nat) (v0 v1 v2 v3 : Int) (h : MM) : RR :=
  gf h v0 11 0 fun r1 =>
  gf h r1 10 1 fun r2 =>
  gk h r2 5 <|
  bd (f_X5_find n r2 v1 2 h) fun r3 h3 =>
  if r3 = 0 then
    f_X11_close_29 n h3
  else
  bd (f_X11_within n v2 0 1 h3) fun r5 h5 =>
  if r5 = 0 then
    f_X11_close_29 n h5
  else
  bd (f_X11_isDay n v3 h5) fun r7 h7 =>
  if r7 = 0 then
    some ((-2), h7)
  else
  if v2 = 0 then
    gf h7 v0 11 0 fun r12 =>
    gk h7 r12 10 <|
    bd (f_X10_whereNotClose n r12 r3 v3 h7) fun r13 h13 =>
    f_X11_close_68 n r13 h13
  else
  gf h7 v0 11 0 fun r10 =>
  gk h7 r10 10 <|
  bd (f_X10_whereSteep n r10 r3 v3 h7) fun r11 h11 =>
  f_X11_close_68 n r11 h11
set_option maxRecDepth 20000 in
theorem b_X11_close_29 {g : GT} {Z : Int × MM} {n : Nat} (C : Cx g cX11_close 5 yX11_close 4 96) (hr : Rt g (some .int) 0 Z)     {h : MM} (hf : f_X11_close_29 n   h = some Z) : G g 29 [(3, 0), (3, 0), (3, 0), (3, 0), (3, 0)] [] h := by
  unfold f_X11_close_29 at hf
  refine r_iconst C dX11_close_29 ?_
  cases hf
  exact r_jret C hr dX11_close_30 (in32_of rfl)
set_option maxRecDepth 20000 in
theorem b_X11_close_68 {g : GT} {Z : Int × MM} {n : Nat} (C : Cx g cX11_close 5 yX11_close 4 96) (hr : Rt g (some .int) 0 Z) {s0 : Int}    (cs0 : in32 s0) {h : MM} (hf : f_X11_close_68 n  s0 h = some Z) : G g 68 [(3, 0), (3, 0), (3, 0), (3, 0), (3, 0)] [(0, s0)] h := by
  unfold f_X11_close_68 at hf
  cases hf
  exact r_jret C hr dX11_close_68 cs0
set_option maxRecDepth 20000 in
theorem e_X11_close {g : GT} {Z : Int × MM} {n : Nat} (C : Cx g cX11_close 5 yX11_close 4 96) (hr : Rt g (some .int) 0 Z) {v0 v1 v2 v3 : Int} (cv0 : cK 2 v0) (cv1 : cK 0 v1) (cv2 : cK 0 v2) (cv3 : cK 0 v3) {h : MM} (hf : f_X11_close n v0 v1 v2 v3 h = some Z) : G g 0 [(2, v0), (0, v1), (0, v2), (0, v3), (3, 0)] [] h := by
  have cv1 : in32 v1 := cv1
  have cv2 : in32 v2 := cv2
  have cv3 : in32 v3 := cv3
  unfold f_X11_close at hf
  refine r_aload_n C dX11_close_0 rfl ?_
  obtain ⟨q1, hf⟩ := gf_s hf
  refine r_gf C ct11 (j := 0) (ji := 0) dX11_close_1 q1 rfl rfl (by decide) w_440 rfl (fun c1 => ?_)
  obtain ⟨q2, hf⟩ := gf_s hf
  refine r_gf C ct10 (j := 1) (ji := 1) dX11_close_4 q2 rfl rfl (by decide) w_302 rfl (fun c2 => ?_)
  refine r_iload_n C dX11_close_7 rfl ?_
  refine r_iconst C dX11_close_8 ?_
  obtain ⟨p3, hf⟩ := gk_s hf
  obtain ⟨r3, h3, hq3, hf⟩ := bd_s hf
  refine r_cV2 C (am_X5_find (gl g) n) cm_X5_find w_798 dX11_close_9 ⟨Nat.le_of_ble_eq_true rfl, Nat.le_of_ble_eq_true rfl⟩ p3 rfl cv1 (in32_of rfl) rfl (Nat.le_of_ble_eq_true rfl) hq3 (by decide) (fun c3 => ?_)
  refine r_astore C dX11_close_12 (Nat.le_of_ble_eq_true rfl) rfl ?_
  refine r_aload C dX11_close_14 rfl ?_
  refine r_ifnull C dX11_close_16 (tgt := 29) (by decide) (fun n4 => ?_) (fun n4 => ?_)
  · have hf := ite_p n4 hf
    exact G.mask [false, false, false, false, false] rfl rfl (b_X11_close_29 C hr   hf)
  · have hf := ite_n n4 hf
    refine r_iload_n C dX11_close_19 rfl ?_
    refine r_i2l C dX11_close_20 cv2 ?_
    refine r_iconst C dX11_close_21 ?_
    refine r_iconst C dX11_close_22 ?_
    obtain ⟨r5, h5, hq5, hf⟩ := bd_s hf
    refine r_cS3 C (am_X11_within (gl g) n) cm_X11_within w_466 dX11_close_23 ⟨Nat.le_of_ble_eq_true rfl, Nat.le_of_ble_eq_true rfl⟩ (in64_i cv2) (in32_of rfl) (in32_of rfl) rfl (Nat.le_of_ble_eq_true rfl) hq5 (by decide) (fun c5 => ?_)
    have c5 : in32 _ := c5
    refine r_if_ne C dX11_close_26 (tgt := 31) (by decide) c5 (fun n6 => ?_) (fun n6 => ?_)
    · have hf := ite_n n6 hf
      refine r_iload_n C dX11_close_31 rfl ?_
      obtain ⟨r7, h7, hq7, hf⟩ := bd_s hf
      refine r_cS1 C (am_X11_isDay (gl g) n) cm_X11_isDay w_501 dX11_close_32 ⟨Nat.le_of_ble_eq_true rfl, Nat.le_of_ble_eq_true rfl⟩ cv3 rfl (Nat.le_of_ble_eq_true rfl) hq7 (by decide) (fun c7 => ?_)
      have c7 : in32 _ := c7
      refine r_if_ne C dX11_close_35 (tgt := 41) (by decide) c7 (fun n8 => ?_) (fun n8 => ?_)
      · have hf := ite_n n8 hf
        refine r_iload_n C dX11_close_41 rfl ?_
        refine r_if_ne C dX11_close_42 (tgt := 58) (by decide) cv2 (fun n9 => ?_) (fun n9 => ?_)
        · have hf := ite_n n9 hf
          refine r_aload_n C dX11_close_58 rfl ?_
          obtain ⟨q10, hf⟩ := gf_s hf
          refine r_gf C ct11 (j := 0) (ji := 0) dX11_close_59 q10 rfl rfl (by decide) w_440 rfl (fun c10 => ?_)
          refine r_aload C dX11_close_62 rfl ?_
          refine r_iload_n C dX11_close_64 rfl ?_
          obtain ⟨p11, hf⟩ := gk_s hf
          obtain ⟨r11, h11, hq11, hf⟩ := bd_s hf
          refine r_cV2 C (am_X10_whereSteep (gl g) n) cm_X10_whereSteep w_885 dX11_close_65 ⟨Nat.le_of_ble_eq_true rfl, Nat.le_of_ble_eq_true rfl⟩ p11 rfl trivial cv3 rfl (Nat.le_of_ble_eq_true rfl) hq11 (by decide) (fun c11 => ?_)
          have c11 : in32 _ := c11
          exact G.mask [false, false, false, false, false] rfl rfl (b_X11_close_68 C hr  c11 hf)
        · have hf := ite_p n9 hf
          refine r_aload_n C dX11_close_45 rfl ?_
          obtain ⟨q12, hf⟩ := gf_s hf
          refine r_gf C ct11 (j := 0) (ji := 0) dX11_close_46 q12 rfl rfl (by decide) w_440 rfl (fun c12 => ?_)
          refine r_aload C dX11_close_49 rfl ?_
          refine r_iload_n C dX11_close_51 rfl ?_
          obtain ⟨p13, hf⟩ := gk_s hf
          obtain ⟨r13, h13, hq13, hf⟩ := bd_s hf
          refine r_cV2 C (am_X10_whereNotClose (gl g) n) cm_X10_whereNotClose w_879 dX11_close_52 ⟨Nat.le_of_ble_eq_true rfl, Nat.le_of_ble_eq_true rfl⟩ p13 rfl trivial cv3 rfl (Nat.le_of_ble_eq_true rfl) hq13 (by decide) (fun c13 => ?_)
          have c13 : in32 _ := c13
          refine r_goto C dX11_close_55 (tgt := 68) (by decide) ?_
          exact G.mask [false, false, false, false, false] rfl rfl (b_X11_close_68 C hr  c13 hf)
      · have hf := ite_p n8 hf
        refine r_bipush C dX11_close_38 rfl ?_
        cases hf
        exact r_jret C hr dX11_close_40 (in32_of rfl)
    · have hf := ite_p n6 hf
      exact G.mask [false, false, false, false, false] rfl rfl (b_X11_close_29 C hr   hf)
set_option maxRecDepth 20000 in
theorem am_X11_close (l : Launch) (n : Nat) : AM l yX11_close cX11_close 5 (some .int) 4 96 [2, 0, 0, 0] 0 (un4 (f_X11_close n)) := by
  refine AM.intro (by decide) (fun xs hx => ?_) (fun g xs h Z hl C hr hx hf => ?_)
  · obtain ⟨a0, a1, a2, a3, rfl, c0, c1, c2, c3⟩ := canL_4 hx
    exact Nat.le_of_ble_eq_true rfl
  · obtain ⟨a0, a1, a2, a3, rfl, c0, c1, c2, c3⟩ := canL_4 hx
    have hf := (un4_e _ a0 a1 a2 a3 _).symm.trans hf
    exact e_X11_close (n := n) C hr c0 c1 c2 c3 hf
/-! LinesPromised$Paper.cellAtOddsWith(LLinesPromised$Paper;)I -/
theorem dX4_cellAtOddsWith_0 : decode cX4_cellAtOddsWith 0 = .ok (.iconst 0, 1) := by decide +kernel
theorem dX4_cellAtOddsWith_1 : decode cX4_cellAtOddsWith 1 = .ok (.istore_n 2, 1) := by decide +kernel
theorem dX4_cellAtOddsWith_2 : decode cX4_cellAtOddsWith 2 = .ok (.iload_n 2, 1) := by decide +kernel
theorem dX4_cellAtOddsWith_3 : decode cX4_cellAtOddsWith 3 = .ok (.aload_n 0, 1) := by decide +kernel
theorem dX4_cellAtOddsWith_4 : decode cX4_cellAtOddsWith 4 = .ok (.getfield 43, 3) := by decide +kernel
theorem dX4_cellAtOddsWith_7 : decode cX4_cellAtOddsWith 7 = .ok (.arraylength, 1) := by decide +kernel
theorem dX4_cellAtOddsWith_8 : decode cX4_cellAtOddsWith 8 = .ok (.if_icmp .ge 63, 3) := by decide +kernel
theorem dX4_cellAtOddsWith_11 : decode cX4_cellAtOddsWith 11 = .ok (.iconst 0, 1) := by decide +kernel
theorem dX4_cellAtOddsWith_12 : decode cX4_cellAtOddsWith 12 = .ok (.istore_n 3, 1) := by decide +kernel
theorem dX4_cellAtOddsWith_13 : decode cX4_cellAtOddsWith 13 = .ok (.iload_n 3, 1) := by decide +kernel
theorem dX4_cellAtOddsWith_14 : decode cX4_cellAtOddsWith 14 = .ok (.aload_n 1, 1) := by decide +kernel
theorem dX4_cellAtOddsWith_15 : decode cX4_cellAtOddsWith 15 = .ok (.getfield 43, 3) := by decide +kernel
theorem dX4_cellAtOddsWith_18 : decode cX4_cellAtOddsWith 18 = .ok (.arraylength, 1) := by decide +kernel
theorem dX4_cellAtOddsWith_19 : decode cX4_cellAtOddsWith 19 = .ok (.if_icmp .ge 46, 3) := by decide +kernel
theorem dX4_cellAtOddsWith_22 : decode cX4_cellAtOddsWith 22 = .ok (.aload_n 0, 1) := by decide +kernel
theorem dX4_cellAtOddsWith_23 : decode cX4_cellAtOddsWith 23 = .ok (.getfield 39, 3) := by decide +kernel
theorem dX4_cellAtOddsWith_26 : decode cX4_cellAtOddsWith 26 = .ok (.iload_n 2, 1) := by decide +kernel
theorem dX4_cellAtOddsWith_27 : decode cX4_cellAtOddsWith 27 = .ok (.iaload, 1) := by decide +kernel
theorem dX4_cellAtOddsWith_28 : decode cX4_cellAtOddsWith 28 = .ok (.aload_n 1, 1) := by decide +kernel
theorem dX4_cellAtOddsWith_29 : decode cX4_cellAtOddsWith 29 = .ok (.getfield 39, 3) := by decide +kernel
theorem dX4_cellAtOddsWith_32 : decode cX4_cellAtOddsWith 32 = .ok (.iload_n 3, 1) := by decide +kernel
theorem dX4_cellAtOddsWith_33 : decode cX4_cellAtOddsWith 33 = .ok (.iaload, 1) := by decide +kernel
theorem dX4_cellAtOddsWith_34 : decode cX4_cellAtOddsWith 34 = .ok (.if_icmp .ne 25, 3) := by decide +kernel
theorem dX4_cellAtOddsWith_37 : decode cX4_cellAtOddsWith 37 = .ok (.aload_n 0, 1) := by decide +kernel
theorem dX4_cellAtOddsWith_38 : decode cX4_cellAtOddsWith 38 = .ok (.getfield 43, 3) := by decide +kernel
theorem dX4_cellAtOddsWith_41 : decode cX4_cellAtOddsWith 41 = .ok (.iload_n 2, 1) := by decide +kernel
theorem dX4_cellAtOddsWith_42 : decode cX4_cellAtOddsWith 42 = .ok (.iaload, 1) := by decide +kernel
theorem dX4_cellAtOddsWith_43 : decode cX4_cellAtOddsWith 43 = .ok (.aload_n 1, 1) := by decide +kernel
theorem dX4_cellAtOddsWith_44 : decode cX4_cellAtOddsWith 44 = .ok (.getfield 43, 3) := by decide +kernel
theorem dX4_cellAtOddsWith_47 : decode cX4_cellAtOddsWith 47 = .ok (.iload_n 3, 1) := by decide +kernel
theorem dX4_cellAtOddsWith_48 : decode cX4_cellAtOddsWith 48 = .ok (.iaload, 1) := by decide +kernel
theorem dX4_cellAtOddsWith_49 : decode cX4_cellAtOddsWith 49 = .ok (.if_icmp .eq 10, 3) := by decide +kernel
theorem dX4_cellAtOddsWith_52 : decode cX4_cellAtOddsWith 52 = .ok (.aload_n 0, 1) := by decide +kernel
theorem dX4_cellAtOddsWith_53 : decode cX4_cellAtOddsWith 53 = .ok (.getfield 39, 3) := by decide +kernel
theorem dX4_cellAtOddsWith_56 : decode cX4_cellAtOddsWith 56 = .ok (.iload_n 2, 1) := by decide +kernel
theorem dX4_cellAtOddsWith_57 : decode cX4_cellAtOddsWith 57 = .ok (.iaload, 1) := by decide +kernel
theorem dX4_cellAtOddsWith_58 : decode cX4_cellAtOddsWith 58 = .ok (.ireturn, 1) := by decide +kernel
theorem dX4_cellAtOddsWith_59 : decode cX4_cellAtOddsWith 59 = .ok (.iinc 3 1, 3) := by decide +kernel
theorem dX4_cellAtOddsWith_62 : decode cX4_cellAtOddsWith 62 = .ok (.goto (-49), 3) := by decide +kernel
theorem dX4_cellAtOddsWith_65 : decode cX4_cellAtOddsWith 65 = .ok (.iinc 2 1, 3) := by decide +kernel
theorem dX4_cellAtOddsWith_68 : decode cX4_cellAtOddsWith 68 = .ok (.goto (-66), 3) := by decide +kernel
theorem dX4_cellAtOddsWith_71 : decode cX4_cellAtOddsWith 71 = .ok (.bipush (-5), 2) := by decide +kernel
theorem dX4_cellAtOddsWith_73 : decode cX4_cellAtOddsWith 73 = .ok (.ireturn, 1) := by decide +kernel
theorem cm_X4_cellAtOddsWith : CM yX4_cellAtOddsWith cX4_cellAtOddsWith 4 (some .int) 1 4 := ⟨w_895, w_896, w_897, w_106, ⟨by decide +kernel, by decide +kernel, by decide +kernel⟩, ⟨_, _, rfl⟩, by decide⟩
noncomputable def f_X4_cellAtOddsWith_59 (n : Nat) (rec2 : Int → MM → RR) (rec13 : Int → MM → RR) (v0 v1 v2 v3 : Int) (h : MM) : RR :=
  lb (wr (v3 + 1)) fun x1 =>
  rec13 x1 h
noncomputable def f_X4_cellAtOddsWith_13b (n : Nat) (rec2 : Int → MM → RR) (rec13 : Int → MM → RR) (v0 v1 v2 v3 : Int) (h : MM) : RR :=
  gf h v1 4 4 fun r1 =>
  al h r1 100 fun r2 =>
  if r2 ≤ v3 then
    lb (wr (v2 + 1)) fun x4 =>
    rec2 x4 h
  else
  gf h v0 4 3 fun r5 =>
  rd h r5 100 v2 fun r6 =>
  gf h v1 4 3 fun r7 =>
  rd h r7 100 v3 fun r8 =>
  if r6 = r8 then
    gf h v0 4 4 fun r10 =>
    rd h r10 100 v2 fun r11 =>
    gf h v1 4 4 fun r12 =>
    rd h r12 100 v3 fun r13 =>
    if r11 = r13 then
      f_X4_cellAtOddsWith_59 n rec2 rec13 v0 v1 v2 v3 h
    else
    gf h v0 4 3 fun r15 =>
    rd h r15 100 v2 fun r16 =>
    some (r16, h)
  else
  f_X4_cellAtOddsWith_59 n rec2 rec13 v0 v1 v2 v3 h
noncomputable def f_X4_cellAtOddsWith_13 (n : Nat) (rec2 : Int → MM → RR) (v0 v1 v2 : Int) : Nat → Int → MM → RR
  | 0, _, _ => none
  | k + 1, v3, h => f_X4_cellAtOddsWith_13b n rec2 (f_X4_cellAtOddsWith_13 n rec2 v0 v1 v2 k) v0 v1 v2 v3 h
noncomputable def f_X4_cellAtOddsWith_2b (n : Nat) (rec2 : Int → MM → RR) (v0 v1 v2 : Int) (h : MM) : RR :=
  gf h v0 4 4 fun r1 =>
  al h r1 100 fun r2 =>
  if r2 ≤ v2 then
    some ((-5), h)
  else
  f_X4_cellAtOddsWith_13 n rec2 v0 v1 v2 n 0 h
noncomputable def f_X4_cellAtOddsWith_2 (n : Nat)  (v0 v1 : Int) : Nat → Int → MM → RR
  | 0, _, _ => none
  | k + 1, v2, h => f_X4_cellAtOddsWith_2b n  (f_X4_cellAtOddsWith_2 n  v0 v1 k) v0 v1 v2 h
noncomputable def f_X4_cellAtOddsWith (n : Nat) (v0 v1 : Int) (h : MM) : RR :=
  f_X4_cellAtOddsWith_2 n v0 v1 n 0 h
set_option maxRecDepth 20000 in
theorem b_X4_cellAtOddsWith_59 {g : GT} {Z : Int × MM} {n : Nat} (C : Cx g cX4_cellAtOddsWith 4 yX4_cellAtOddsWith 0 0) (hr : Rt g (some .int) 0 Z) {v0 v1 v2 v3 : Int}  {rec2 : Int → MM → RR} {rec13 : Int → MM → RR} (L2 : ∀ (u2 : Int) (h : MM), in32 u2 → rec2 u2 h = some Z → G g 2 [(2, v0), (2, v1), (0, u2), (3, 0)] [] h) (L13 : ∀ (u3 : Int) (h : MM), in32 u3 → rec13 u3 h = some Z → G g 13 [(2, v0), (2, v1), (0, v2), (0, u3)] [] h) (cv2 : in32 v2) (cv3 : in32 v3) {h : MM} (hf : f_X4_cellAtOddsWith_59 n rec2 rec13 v0 v1 v2 v3 h = some Z) : G g 59 [(2, v0), (2, v1), (0, v2), (0, v3)] [] h := by
  unfold f_X4_cellAtOddsWith_59 at hf
  obtain ⟨x1, e1, hf⟩ := lb_s hf
  have c1 : in32 x1 := by rw [e1]; exact (in32_t _)
  refine r_iincL C dX4_cellAtOddsWith_59 rfl e1 (Nat.le_of_ble_eq_true rfl) rfl ?_
  refine r_goto C dX4_cellAtOddsWith_62 (tgt := 13) (by decide) ?_
  exact G.mask [true, true, true, true] rfl rfl (L13 _ _ c1 hf)
set_option maxRecDepth 20000 in
theorem b_X4_cellAtOddsWith_13b {g : GT} {Z : Int × MM} {n : Nat} (C : Cx g cX4_cellAtOddsWith 4 yX4_cellAtOddsWith 0 0) (hr : Rt g (some .int) 0 Z) {v0 v1 v2 v3 : Int}  {rec2 : Int → MM → RR} {rec13 : Int → MM → RR} (L2 : ∀ (u2 : Int) (h : MM), in32 u2 → rec2 u2 h = some Z → G g 2 [(2, v0), (2, v1), (0, u2), (3, 0)] [] h) (L13 : ∀ (u3 : Int) (h : MM), in32 u3 → rec13 u3 h = some Z → G g 13 [(2, v0), (2, v1), (0, v2), (0, u3)] [] h) (cv2 : in32 v2) (cv3 : in32 v3) {h : MM} (hf : f_X4_cellAtOddsWith_13b n rec2 rec13 v0 v1 v2 v3 h = some Z) : G g 13 [(2, v0), (2, v1), (0, v2), (0, v3)] [] h := by
  unfold f_X4_cellAtOddsWith_13b at hf
  refine r_iload_n C dX4_cellAtOddsWith_13 rfl ?_
  refine r_aload_n C dX4_cellAtOddsWith_14 rfl ?_
  obtain ⟨q1, hf⟩ := gf_s hf
  refine r_gf C ct4 (j := 4) (ji := 4) dX4_cellAtOddsWith_15 q1 rfl rfl (by decide) w_727 rfl (fun c1 => ?_)
  obtain ⟨q2, hf⟩ := al_s hf
  refine r_alen C (tn := 100) dX4_cellAtOddsWith_18 q2 rfl (by decide) (fun c2 _ => ?_)
  refine r_icmp_ge C dX4_cellAtOddsWith_19 (tgt := 65) (by decide) cv3 c2 (fun n3 => ?_) (fun n3 => ?_)
  · have hf := ite_p n3 hf
    obtain ⟨x4, e4, hf⟩ := lb_s hf
    have c4 : in32 x4 := by rw [e4]; exact (in32_t _)
    refine r_iincL C dX4_cellAtOddsWith_65 rfl e4 (Nat.le_of_ble_eq_true rfl) rfl ?_
    refine r_goto C dX4_cellAtOddsWith_68 (tgt := 2) (by decide) ?_
    exact G.mask [true, true, true, false] rfl rfl (L2 _ _ c4 hf)
  · have hf := ite_n n3 hf
    refine r_aload_n C dX4_cellAtOddsWith_22 rfl ?_
    obtain ⟨q5, hf⟩ := gf_s hf
    refine r_gf C ct4 (j := 3) (ji := 3) dX4_cellAtOddsWith_23 q5 rfl rfl (by decide) w_723 rfl (fun c5 => ?_)
    refine r_iload_n C dX4_cellAtOddsWith_26 rfl ?_
    obtain ⟨q6, hf⟩ := rd_s hf
    refine r_iald C dX4_cellAtOddsWith_27 q6 rfl (fun c6 => ?_)
    refine r_aload_n C dX4_cellAtOddsWith_28 rfl ?_
    obtain ⟨q7, hf⟩ := gf_s hf
    refine r_gf C ct4 (j := 3) (ji := 3) dX4_cellAtOddsWith_29 q7 rfl rfl (by decide) w_723 rfl (fun c7 => ?_)
    refine r_iload_n C dX4_cellAtOddsWith_32 rfl ?_
    obtain ⟨q8, hf⟩ := rd_s hf
    refine r_iald C dX4_cellAtOddsWith_33 q8 rfl (fun c8 => ?_)
    refine r_icmp_ne C dX4_cellAtOddsWith_34 (tgt := 59) (by decide) c6 c8 (fun n9 => ?_) (fun n9 => ?_)
    · have hf := ite_n n9 hf
      exact G.mask [true, true, true, true] rfl rfl (b_X4_cellAtOddsWith_59 C hr L2 L13 cv2 cv3 hf)
    · have hf := ite_p n9 hf
      refine r_aload_n C dX4_cellAtOddsWith_37 rfl ?_
      obtain ⟨q10, hf⟩ := gf_s hf
      refine r_gf C ct4 (j := 4) (ji := 4) dX4_cellAtOddsWith_38 q10 rfl rfl (by decide) w_727 rfl (fun c10 => ?_)
      refine r_iload_n C dX4_cellAtOddsWith_41 rfl ?_
      obtain ⟨q11, hf⟩ := rd_s hf
      refine r_iald C dX4_cellAtOddsWith_42 q11 rfl (fun c11 => ?_)
      refine r_aload_n C dX4_cellAtOddsWith_43 rfl ?_
      obtain ⟨q12, hf⟩ := gf_s hf
      refine r_gf C ct4 (j := 4) (ji := 4) dX4_cellAtOddsWith_44 q12 rfl rfl (by decide) w_727 rfl (fun c12 => ?_)
      refine r_iload_n C dX4_cellAtOddsWith_47 rfl ?_
      obtain ⟨q13, hf⟩ := rd_s hf
      refine r_iald C dX4_cellAtOddsWith_48 q13 rfl (fun c13 => ?_)
      refine r_icmp_eq C dX4_cellAtOddsWith_49 (tgt := 59) (by decide) c11 c13 (fun n14 => ?_) (fun n14 => ?_)
      · have hf := ite_p n14 hf
        exact G.mask [true, true, true, true] rfl rfl (b_X4_cellAtOddsWith_59 C hr L2 L13 cv2 cv3 hf)
      · have hf := ite_n n14 hf
        refine r_aload_n C dX4_cellAtOddsWith_52 rfl ?_
        obtain ⟨q15, hf⟩ := gf_s hf
        refine r_gf C ct4 (j := 3) (ji := 3) dX4_cellAtOddsWith_53 q15 rfl rfl (by decide) w_723 rfl (fun c15 => ?_)
        refine r_iload_n C dX4_cellAtOddsWith_56 rfl ?_
        obtain ⟨q16, hf⟩ := rd_s hf
        refine r_iald C dX4_cellAtOddsWith_57 q16 rfl (fun c16 => ?_)
        cases hf
        exact r_jret C hr dX4_cellAtOddsWith_58 c16
set_option maxRecDepth 20000 in
theorem l_X4_cellAtOddsWith_13 {g : GT} {Z : Int × MM} {n : Nat} (C : Cx g cX4_cellAtOddsWith 4 yX4_cellAtOddsWith 0 0) (hr : Rt g (some .int) 0 Z) {v0 v1 v2 : Int} {rec2 : Int → MM → RR} (L2 : ∀ (u2 : Int) (h : MM), in32 u2 → rec2 u2 h = some Z → G g 2 [(2, v0), (2, v1), (0, u2), (3, 0)] [] h) (cv2 : in32 v2) : ∀ (k : Nat) (v3 : Int) (h : MM), in32 v3 → f_X4_cellAtOddsWith_13 n rec2 v0 v1 v2 k v3 h = some Z → G g 13 [(2, v0), (2, v1), (0, v2), (0, v3)] [] h := by
  intro k
  induction k with
  | zero => intro v3 h cv3 hf; exact absurd hf (by intro z; cases z)
  | succ k ih => intro v3 h cv3 hf; exact b_X4_cellAtOddsWith_13b C hr (rec13 := f_X4_cellAtOddsWith_13 n rec2 v0 v1 v2 k) L2 ih cv2 cv3 (show f_X4_cellAtOddsWith_13b n rec2 (f_X4_cellAtOddsWith_13 n rec2 v0 v1 v2 k) v0 v1 v2 v3 h = some Z from hf)
set_option maxRecDepth 20000 in
theorem b_X4_cellAtOddsWith_2b {g : GT} {Z : Int × MM} {n : Nat} (C : Cx g cX4_cellAtOddsWith 4 yX4_cellAtOddsWith 0 0) (hr : Rt g (some .int) 0 Z) {v0 v1 v2 : Int}  {rec2 : Int → MM → RR} (L2 : ∀ (u2 : Int) (h : MM), in32 u2 → rec2 u2 h = some Z → G g 2 [(2, v0), (2, v1), (0, u2), (3, 0)] [] h) (cv2 : in32 v2) {h : MM} (hf : f_X4_cellAtOddsWith_2b n rec2 v0 v1 v2 h = some Z) : G g 2 [(2, v0), (2, v1), (0, v2), (3, 0)] [] h := by
  unfold f_X4_cellAtOddsWith_2b at hf
  refine r_iload_n C dX4_cellAtOddsWith_2 rfl ?_
  refine r_aload_n C dX4_cellAtOddsWith_3 rfl ?_
  obtain ⟨q1, hf⟩ := gf_s hf
  refine r_gf C ct4 (j := 4) (ji := 4) dX4_cellAtOddsWith_4 q1 rfl rfl (by decide) w_727 rfl (fun c1 => ?_)
  obtain ⟨q2, hf⟩ := al_s hf
  refine r_alen C (tn := 100) dX4_cellAtOddsWith_7 q2 rfl (by decide) (fun c2 _ => ?_)
  refine r_icmp_ge C dX4_cellAtOddsWith_8 (tgt := 71) (by decide) cv2 c2 (fun n3 => ?_) (fun n3 => ?_)
  · have hf := ite_p n3 hf
    refine r_bipush C dX4_cellAtOddsWith_71 rfl ?_
    cases hf
    exact r_jret C hr dX4_cellAtOddsWith_73 (in32_of rfl)
  · have hf := ite_n n3 hf
    refine r_iconst C dX4_cellAtOddsWith_11 ?_
    refine r_istore_n C dX4_cellAtOddsWith_12 (Nat.le_of_ble_eq_true rfl) rfl ?_
    exact G.mask [true, true, true, true] rfl rfl (l_X4_cellAtOddsWith_13 C hr L2 cv2 _ _ _ (in32_of rfl) hf)
set_option maxRecDepth 20000 in
theorem l_X4_cellAtOddsWith_2 {g : GT} {Z : Int × MM} {n : Nat} (C : Cx g cX4_cellAtOddsWith 4 yX4_cellAtOddsWith 0 0) (hr : Rt g (some .int) 0 Z) {v0 v1 : Int}    : ∀ (k : Nat) (v2 : Int) (h : MM), in32 v2 → f_X4_cellAtOddsWith_2 n  v0 v1 k v2 h = some Z → G g 2 [(2, v0), (2, v1), (0, v2), (3, 0)] [] h := by
  intro k
  induction k with
  | zero => intro v2 h cv2 hf; exact absurd hf (by intro z; cases z)
  | succ k ih => intro v2 h cv2 hf; exact b_X4_cellAtOddsWith_2b C hr (rec2 := f_X4_cellAtOddsWith_2 n  v0 v1 k)  ih cv2 (show f_X4_cellAtOddsWith_2b n  (f_X4_cellAtOddsWith_2 n  v0 v1 k) v0 v1 v2 h = some Z from hf)
set_option maxRecDepth 20000 in
theorem e_X4_cellAtOddsWith {g : GT} {Z : Int × MM} {n : Nat} (C : Cx g cX4_cellAtOddsWith 4 yX4_cellAtOddsWith 0 0) (hr : Rt g (some .int) 0 Z) {v0 v1 : Int} (cv0 : cK 2 v0) (cv1 : cK 2 v1) {h : MM} (hf : f_X4_cellAtOddsWith n v0 v1 h = some Z) : G g 0 [(2, v0), (2, v1), (3, 0), (3, 0)] [] h := by
  unfold f_X4_cellAtOddsWith at hf
  refine r_iconst C dX4_cellAtOddsWith_0 ?_
  refine r_istore_n C dX4_cellAtOddsWith_1 (Nat.le_of_ble_eq_true rfl) rfl ?_
  exact G.mask [true, true, true, false] rfl rfl (l_X4_cellAtOddsWith_2 C hr   _ _ _ (in32_of rfl) hf)
set_option maxRecDepth 20000 in
theorem am_X4_cellAtOddsWith (l : Launch) (n : Nat) : AM l yX4_cellAtOddsWith cX4_cellAtOddsWith 4 (some .int) 0 0 [2, 2] 0 (un2 (f_X4_cellAtOddsWith n)) := by
  refine AM.intro (by decide) (fun xs hx => ?_) (fun g xs h Z hl C hr hx hf => ?_)
  · obtain ⟨a0, a1, rfl, c0, c1⟩ := canL_2 hx
    exact Nat.le_of_ble_eq_true rfl
  · obtain ⟨a0, a1, rfl, c0, c1⟩ := canL_2 hx
    have hf := (un2_e _ a0 a1 _).symm.trans hf
    exact e_X4_cellAtOddsWith (n := n) C hr c0 c1 hf
/-! LinesPromised.quarrel(II)I -/
theorem dX11_quarrel_0 : decode cX11_quarrel 0 = .ok (.aload_n 0, 1) := by decide +kernel
theorem dX11_quarrel_1 : decode cX11_quarrel 1 = .ok (.getfield 10, 3) := by decide +kernel
theorem dX11_quarrel_4 : decode cX11_quarrel 4 = .ok (.getfield 133, 3) := by decide +kernel
theorem dX11_quarrel_7 : decode cX11_quarrel 7 = .ok (.iload_n 1, 1) := by decide +kernel
theorem dX11_quarrel_8 : decode cX11_quarrel 8 = .ok (.iconst 2, 1) := by decide +kernel
theorem dX11_quarrel_9 : decode cX11_quarrel 9 = .ok (.invokevirtual 172, 3) := by decide +kernel
theorem dX11_quarrel_12 : decode cX11_quarrel 12 = .ok (.astore_n 3, 1) := by decide +kernel
theorem dX11_quarrel_13 : decode cX11_quarrel 13 = .ok (.aload_n 0, 1) := by decide +kernel
theorem dX11_quarrel_14 : decode cX11_quarrel 14 = .ok (.getfield 10, 3) := by decide +kernel
theorem dX11_quarrel_17 : decode cX11_quarrel 17 = .ok (.getfield 133, 3) := by decide +kernel
theorem dX11_quarrel_20 : decode cX11_quarrel 20 = .ok (.iload_n 2, 1) := by decide +kernel
theorem dX11_quarrel_21 : decode cX11_quarrel 21 = .ok (.iconst 2, 1) := by decide +kernel
theorem dX11_quarrel_22 : decode cX11_quarrel 22 = .ok (.invokevirtual 172, 3) := by decide +kernel
theorem dX11_quarrel_25 : decode cX11_quarrel 25 = .ok (.astore 4, 2) := by decide +kernel
theorem dX11_quarrel_27 : decode cX11_quarrel 27 = .ok (.aload_n 3, 1) := by decide +kernel
theorem dX11_quarrel_28 : decode cX11_quarrel 28 = .ok (.ifnull 8, 3) := by decide +kernel
theorem dX11_quarrel_31 : decode cX11_quarrel 31 = .ok (.aload 4, 2) := by decide +kernel
theorem dX11_quarrel_33 : decode cX11_quarrel 33 = .ok (.ifnonnull 5, 3) := by decide +kernel
theorem dX11_quarrel_36 : decode cX11_quarrel 36 = .ok (.iconst (-1), 1) := by decide +kernel
theorem dX11_quarrel_37 : decode cX11_quarrel 37 = .ok (.ireturn, 1) := by decide +kernel
theorem dX11_quarrel_38 : decode cX11_quarrel 38 = .ok (.iload_n 1, 1) := by decide +kernel
theorem dX11_quarrel_39 : decode cX11_quarrel 39 = .ok (.iload_n 2, 1) := by decide +kernel
theorem dX11_quarrel_40 : decode cX11_quarrel 40 = .ok (.if_icmp .ne 6, 3) := by decide +kernel
theorem dX11_quarrel_43 : decode cX11_quarrel 43 = .ok (.bipush (-2), 2) := by decide +kernel
theorem dX11_quarrel_45 : decode cX11_quarrel 45 = .ok (.ireturn, 1) := by decide +kernel
theorem dX11_quarrel_46 : decode cX11_quarrel 46 = .ok (.aload_n 3, 1) := by decide +kernel
theorem dX11_quarrel_47 : decode cX11_quarrel 47 = .ok (.aload 4, 2) := by decide +kernel
theorem dX11_quarrel_49 : decode cX11_quarrel 49 = .ok (.invokevirtual 215, 3) := by decide +kernel
theorem dX11_quarrel_52 : decode cX11_quarrel 52 = .ok (.ireturn, 1) := by decide +kernel
theorem cm_X11_quarrel : CM yX11_quarrel cX11_quarrel 5 (some .int) 2 11 := ⟨w_891, w_892, w_893, w_87, ⟨by decide +kernel, by decide +kernel, by decide +kernel⟩, ⟨_, _, rfl⟩, by decide⟩
noncomputable def f_X11_quarrel_36 (n : Nat)  (h : MM) : RR :=
  some ((-1), h)
noncomputable def f_X11_quarrel (n : Nat) (v0 v1 v2 : Int) (h : MM) : RR :=
  gf h v0 11 0 fun r1 =>
  gf h r1 10 1 fun r2 =>
  gk h r2 5 <|
  bd (f_X5_find n r2 v1 2 h) fun r3 h3 =>
  gf h3 v0 11 0 fun r4 =>
  gf h3 r4 10 1 fun r5 =>
  gk h3 r5 5 <|
  bd (f_X5_find n r5 v2 2 h3) fun r6 h6 =>
  if r3 = 0 then
    f_X11_quarrel_36 n h6
  else
  if r6 = 0 then
    f_X11_quarrel_36 n h6
  else
  if v1 = v2 then
    some ((-2), h6)
  else
  gk h6 r3 4 <|
  bd (f_X4_cellAtOddsWith n r3 r6 h6) fun r10 h10 =>
  some (r10, h10)
set_option maxRecDepth 20000 in
theorem b_X11_quarrel_36 {g : GT} {Z : Int × MM} {n : Nat} (C : Cx g cX11_quarrel 5 yX11_quarrel 3 67) (hr : Rt g (some .int) 0 Z)     {h : MM} (hf : f_X11_quarrel_36 n   h = some Z) : G g 36 [(3, 0), (3, 0), (3, 0), (3, 0), (3, 0)] [] h := by
  unfold f_X11_quarrel_36 at hf
  refine r_iconst C dX11_quarrel_36 ?_
  cases hf
  exact r_jret C hr dX11_quarrel_37 (in32_of rfl)
set_option maxRecDepth 20000 in
theorem e_X11_quarrel {g : GT} {Z : Int × MM} {n : Nat} (C : Cx g cX11_quarrel 5 yX11_quarrel 3 67) (hr : Rt g (some .int) 0 Z) {v0 v1 v2 : Int} (cv0 : cK 2 v0) (cv1 : cK 0 v1) (cv2 : cK 0 v2) {h : MM} (hf : f_X11_quarrel n v0 v1 v2 h = some Z) : G g 0 [(2, v0), (0, v1), (0, v2), (3, 0), (3, 0)] [] h := by
  have cv1 : in32 v1 := cv1
  have cv2 : in32 v2 := cv2
  unfold f_X11_quarrel at hf
  refine r_aload_n C dX11_quarrel_0 rfl ?_
  obtain ⟨q1, hf⟩ := gf_s hf
  refine r_gf C ct11 (j := 0) (ji := 0) dX11_quarrel_1 q1 rfl rfl (by decide) w_440 rfl (fun c1 => ?_)
  obtain ⟨q2, hf⟩ := gf_s hf
  refine r_gf C ct10 (j := 1) (ji := 1) dX11_quarrel_4 q2 rfl rfl (by decide) w_302 rfl (fun c2 => ?_)
  refine r_iload_n C dX11_quarrel_7 rfl ?_
  refine r_iconst C dX11_quarrel_8 ?_
  obtain ⟨p3, hf⟩ := gk_s hf
  obtain ⟨r3, h3, hq3, hf⟩ := bd_s hf
  refine r_cV2 C (am_X5_find (gl g) n) cm_X5_find w_798 dX11_quarrel_9 ⟨Nat.le_of_ble_eq_true rfl, Nat.le_of_ble_eq_true rfl⟩ p3 rfl cv1 (in32_of rfl) rfl (Nat.le_of_ble_eq_true rfl) hq3 (by decide) (fun c3 => ?_)
  refine r_astore_n C dX11_quarrel_12 (Nat.le_of_ble_eq_true rfl) rfl ?_
  refine r_aload_n C dX11_quarrel_13 rfl ?_
  obtain ⟨q4, hf⟩ := gf_s hf
  refine r_gf C ct11 (j := 0) (ji := 0) dX11_quarrel_14 q4 rfl rfl (by decide) w_440 rfl (fun c4 => ?_)
  obtain ⟨q5, hf⟩ := gf_s hf
  refine r_gf C ct10 (j := 1) (ji := 1) dX11_quarrel_17 q5 rfl rfl (by decide) w_302 rfl (fun c5 => ?_)
  refine r_iload_n C dX11_quarrel_20 rfl ?_
  refine r_iconst C dX11_quarrel_21 ?_
  obtain ⟨p6, hf⟩ := gk_s hf
  obtain ⟨r6, h6, hq6, hf⟩ := bd_s hf
  refine r_cV2 C (am_X5_find (gl g) n) cm_X5_find w_798 dX11_quarrel_22 ⟨Nat.le_of_ble_eq_true rfl, Nat.le_of_ble_eq_true rfl⟩ p6 rfl cv2 (in32_of rfl) rfl (Nat.le_of_ble_eq_true rfl) hq6 (by decide) (fun c6 => ?_)
  refine r_astore C dX11_quarrel_25 (Nat.le_of_ble_eq_true rfl) rfl ?_
  refine r_aload_n C dX11_quarrel_27 rfl ?_
  refine r_ifnull C dX11_quarrel_28 (tgt := 36) (by decide) (fun n7 => ?_) (fun n7 => ?_)
  · have hf := ite_p n7 hf
    exact G.mask [false, false, false, false, false] rfl rfl (b_X11_quarrel_36 C hr   hf)
  · have hf := ite_n n7 hf
    refine r_aload C dX11_quarrel_31 rfl ?_
    refine r_ifnonnull C dX11_quarrel_33 (tgt := 38) (by decide) (fun n8 => ?_) (fun n8 => ?_)
    · have hf := ite_n n8 hf
      refine r_iload_n C dX11_quarrel_38 rfl ?_
      refine r_iload_n C dX11_quarrel_39 rfl ?_
      refine r_icmp_ne C dX11_quarrel_40 (tgt := 46) (by decide) cv1 cv2 (fun n9 => ?_) (fun n9 => ?_)
      · have hf := ite_n n9 hf
        refine r_aload_n C dX11_quarrel_46 rfl ?_
        refine r_aload C dX11_quarrel_47 rfl ?_
        obtain ⟨p10, hf⟩ := gk_s hf
        obtain ⟨r10, h10, hq10, hf⟩ := bd_s hf
        refine r_cV1 C (am_X4_cellAtOddsWith (gl g) n) cm_X4_cellAtOddsWith w_894 dX11_quarrel_49 ⟨Nat.le_of_ble_eq_true rfl, Nat.le_of_ble_eq_true rfl⟩ p10 rfl trivial rfl (Nat.le_of_ble_eq_true rfl) hq10 (by decide) (fun c10 => ?_)
        have c10 : in32 _ := c10
        cases hf
        exact r_jret C hr dX11_quarrel_52 c10
      · have hf := ite_p n9 hf
        refine r_bipush C dX11_quarrel_43 rfl ?_
        cases hf
        exact r_jret C hr dX11_quarrel_45 (in32_of rfl)
    · have hf := ite_p n8 hf
      exact G.mask [false, false, false, false, false] rfl rfl (b_X11_quarrel_36 C hr   hf)
set_option maxRecDepth 20000 in
theorem am_X11_quarrel (l : Launch) (n : Nat) : AM l yX11_quarrel cX11_quarrel 5 (some .int) 3 67 [2, 0, 0] 0 (un3 (f_X11_quarrel n)) := by
  refine AM.intro (by decide) (fun xs hx => ?_) (fun g xs h Z hl C hr hx hf => ?_)
  · obtain ⟨a0, a1, a2, rfl, c0, c1, c2⟩ := canL_3 hx
    exact Nat.le_of_ble_eq_true rfl
  · obtain ⟨a0, a1, a2, rfl, c0, c1, c2⟩ := canL_3 hx
    have hf := (un3_e _ a0 a1 a2 _).symm.trans hf
    exact e_X11_quarrel (n := n) C hr c0 c1 c2 hf
/-! LinesPromised$Roads.nearest()I -/
theorem dX7_nearest_0 : decode cX7_nearest 0 = .ok (.iconst (-1), 1) := by decide +kernel
theorem dX7_nearest_1 : decode cX7_nearest 1 = .ok (.istore_n 1, 1) := by decide +kernel
theorem dX7_nearest_2 : decode cX7_nearest 2 = .ok (.iconst 0, 1) := by decide +kernel
theorem dX7_nearest_3 : decode cX7_nearest 3 = .ok (.istore_n 2, 1) := by decide +kernel
theorem dX7_nearest_4 : decode cX7_nearest 4 = .ok (.iload_n 2, 1) := by decide +kernel
theorem dX7_nearest_5 : decode cX7_nearest 5 = .ok (.bipush 80, 2) := by decide +kernel
theorem dX7_nearest_7 : decode cX7_nearest 7 = .ok (.if_icmp .ge 45, 3) := by decide +kernel
theorem dX7_nearest_10 : decode cX7_nearest 10 = .ok (.aload_n 0, 1) := by decide +kernel
theorem dX7_nearest_11 : decode cX7_nearest 11 = .ok (.getfield 18, 3) := by decide +kernel
theorem dX7_nearest_14 : decode cX7_nearest 14 = .ok (.iload_n 2, 1) := by decide +kernel
theorem dX7_nearest_15 : decode cX7_nearest 15 = .ok (.baload, 1) := by decide +kernel
theorem dX7_nearest_16 : decode cX7_nearest 16 = .ok (.ifCond .ne 30, 3) := by decide +kernel
theorem dX7_nearest_19 : decode cX7_nearest 19 = .ok (.aload_n 0, 1) := by decide +kernel
theorem dX7_nearest_20 : decode cX7_nearest 20 = .ok (.getfield 15, 3) := by decide +kernel
theorem dX7_nearest_23 : decode cX7_nearest 23 = .ok (.iload_n 2, 1) := by decide +kernel
theorem dX7_nearest_24 : decode cX7_nearest 24 = .ok (.iaload, 1) := by decide +kernel
theorem dX7_nearest_25 : decode cX7_nearest 25 = .ok (.iload_n 1, 1) := by decide +kernel
theorem dX7_nearest_26 : decode cX7_nearest 26 = .ok (.iconst (-1), 1) := by decide +kernel
theorem dX7_nearest_27 : decode cX7_nearest 27 = .ok (.if_icmp .ne 8, 3) := by decide +kernel
theorem dX7_nearest_30 : decode cX7_nearest 30 = .ok (.ldc 58, 2) := by decide +kernel
theorem dX7_nearest_32 : decode cX7_nearest 32 = .ok (.goto 9, 3) := by decide +kernel
theorem dX7_nearest_35 : decode cX7_nearest 35 = .ok (.aload_n 0, 1) := by decide +kernel
theorem dX7_nearest_36 : decode cX7_nearest 36 = .ok (.getfield 15, 3) := by decide +kernel
theorem dX7_nearest_39 : decode cX7_nearest 39 = .ok (.iload_n 1, 1) := by decide +kernel
theorem dX7_nearest_40 : decode cX7_nearest 40 = .ok (.iaload, 1) := by decide +kernel
theorem dX7_nearest_41 : decode cX7_nearest 41 = .ok (.if_icmp .ge 5, 3) := by decide +kernel
theorem dX7_nearest_44 : decode cX7_nearest 44 = .ok (.iload_n 2, 1) := by decide +kernel
theorem dX7_nearest_45 : decode cX7_nearest 45 = .ok (.istore_n 1, 1) := by decide +kernel
theorem dX7_nearest_46 : decode cX7_nearest 46 = .ok (.iinc 2 1, 3) := by decide +kernel
theorem dX7_nearest_49 : decode cX7_nearest 49 = .ok (.goto (-45), 3) := by decide +kernel
theorem dX7_nearest_52 : decode cX7_nearest 52 = .ok (.iload_n 1, 1) := by decide +kernel
theorem dX7_nearest_53 : decode cX7_nearest 53 = .ok (.ireturn, 1) := by decide +kernel
theorem cm_X7_nearest : CM yX7_nearest cX7_nearest 3 (some .int) 0 7 := ⟨w_915, w_13, w_916, w_94, ⟨by decide +kernel, by decide +kernel, by decide +kernel⟩, ⟨_, _, rfl⟩, by decide⟩
noncomputable def f_X7_nearest_46 (n : Nat) (rec4 : Int → Int → MM → RR) (v0 v1 v2 : Int) (h : MM) : RR :=
  lb (wr (v2 + 1)) fun x1 =>
  rec4 v1 x1 h
noncomputable def f_X7_nearest_41 (n : Nat) (rec4 : Int → Int → MM → RR) (v0 v1 v2 s0 s1 : Int) (h : MM) : RR :=
  if s1 ≤ s0 then
    f_X7_nearest_46 n rec4 v0 v1 v2 h
  else
  f_X7_nearest_46 n rec4 v0 v2 v2 h
noncomputable def f_X7_nearest_4b (n : Nat) (rec4 : Int → Int → MM → RR) (v0 v1 v2 : Int) (h : MM) : RR :=
  if 80 ≤ v2 then
    some (v1, h)
  else
  gf h v0 7 4 fun r2 =>
  rd h r2 103 v2 fun r3 =>
  if r3 = 0 then
    gf h v0 7 3 fun r5 =>
    rd h r5 100 v2 fun r6 =>
    if v1 = (-1) then
      f_X7_nearest_41 n rec4 v0 v1 v2 r6 1000000 h
    else
    gf h v0 7 3 fun r8 =>
    rd h r8 100 v1 fun r9 =>
    f_X7_nearest_41 n rec4 v0 v1 v2 r6 r9 h
  else
  f_X7_nearest_46 n rec4 v0 v1 v2 h
noncomputable def f_X7_nearest_4 (n : Nat)  (v0 : Int) : Nat → Int → Int → MM → RR
  | 0, _, _, _ => none
  | k + 1, v1, v2, h => f_X7_nearest_4b n  (f_X7_nearest_4 n  v0 k) v0 v1 v2 h
noncomputable def f_X7_nearest (n : Nat) (v0 : Int) (h : MM) : RR :=
  f_X7_nearest_4 n v0 n ((-1)) 0 h
set_option maxRecDepth 20000 in
theorem b_X7_nearest_46 {g : GT} {Z : Int × MM} {n : Nat} (C : Cx g cX7_nearest 3 yX7_nearest 0 0) (hr : Rt g (some .int) 0 Z) {v0 v1 v2 : Int}  {rec4 : Int → Int → MM → RR} (L4 : ∀ (u1 u2 : Int) (h : MM), in32 u1 → in32 u2 → rec4 u1 u2 h = some Z → G g 4 [(2, v0), (0, u1), (0, u2)] [] h) (cv1 : in32 v1) (cv2 : in32 v2) {h : MM} (hf : f_X7_nearest_46 n rec4 v0 v1 v2 h = some Z) : G g 46 [(2, v0), (0, v1), (0, v2)] [] h := by
  unfold f_X7_nearest_46 at hf
  obtain ⟨x1, e1, hf⟩ := lb_s hf
  have c1 : in32 x1 := by rw [e1]; exact (in32_t _)
  refine r_iincL C dX7_nearest_46 rfl e1 (Nat.le_of_ble_eq_true rfl) rfl ?_
  refine r_goto C dX7_nearest_49 (tgt := 4) (by decide) ?_
  exact G.mask [true, true, true] rfl rfl (L4 _ _ _ cv1 c1 hf)
set_option maxRecDepth 20000 in
theorem b_X7_nearest_41 {g : GT} {Z : Int × MM} {n : Nat} (C : Cx g cX7_nearest 3 yX7_nearest 0 0) (hr : Rt g (some .int) 0 Z) {v0 v1 v2 s0 s1 : Int}  {rec4 : Int → Int → MM → RR} (L4 : ∀ (u1 u2 : Int) (h : MM), in32 u1 → in32 u2 → rec4 u1 u2 h = some Z → G g 4 [(2, v0), (0, u1), (0, u2)] [] h) (cv1 : in32 v1) (cv2 : in32 v2) (cs0 : in32 s0) (cs1 : in32 s1) {h : MM} (hf : f_X7_nearest_41 n rec4 v0 v1 v2 s0 s1 h = some Z) : G g 41 [(2, v0), (0, v1), (0, v2)] [(0, s1), (0, s0)] h := by
  unfold f_X7_nearest_41 at hf
  refine r_icmp_ge C dX7_nearest_41 (tgt := 46) (by decide) cs0 cs1 (fun n1 => ?_) (fun n1 => ?_)
  · have hf := ite_p n1 hf
    exact G.mask [true, true, true] rfl rfl (b_X7_nearest_46 C hr L4 cv1 cv2 hf)
  · have hf := ite_n n1 hf
    refine r_iload_n C dX7_nearest_44 rfl ?_
    refine r_istore_n C dX7_nearest_45 (Nat.le_of_ble_eq_true rfl) rfl ?_
    exact G.mask [true, true, true] rfl rfl (b_X7_nearest_46 C hr L4 cv2 cv2 hf)
set_option maxRecDepth 20000 in
theorem b_X7_nearest_4b {g : GT} {Z : Int × MM} {n : Nat} (C : Cx g cX7_nearest 3 yX7_nearest 0 0) (hr : Rt g (some .int) 0 Z) {v0 v1 v2 : Int}  {rec4 : Int → Int → MM → RR} (L4 : ∀ (u1 u2 : Int) (h : MM), in32 u1 → in32 u2 → rec4 u1 u2 h = some Z → G g 4 [(2, v0), (0, u1), (0, u2)] [] h) (cv1 : in32 v1) (cv2 : in32 v2) {h : MM} (hf : f_X7_nearest_4b n rec4 v0 v1 v2 h = some Z) : G g 4 [(2, v0), (0, v1), (0, v2)] [] h := by
  unfold f_X7_nearest_4b at hf
  refine r_iload_n C dX7_nearest_4 rfl ?_
  refine r_bipush C dX7_nearest_5 rfl ?_
  refine r_icmp_ge C dX7_nearest_7 (tgt := 52) (by decide) cv2 (in32_of rfl) (fun n1 => ?_) (fun n1 => ?_)
  · have hf := ite_p n1 hf
    refine r_iload_n C dX7_nearest_52 rfl ?_
    cases hf
    exact r_jret C hr dX7_nearest_53 cv1
  · have hf := ite_n n1 hf
    refine r_aload_n C dX7_nearest_10 rfl ?_
    obtain ⟨q2, hf⟩ := gf_s hf
    refine r_gf C ct7 (j := 4) (ji := 4) dX7_nearest_11 q2 rfl rfl (by decide) w_358 rfl (fun c2 => ?_)
    refine r_iload_n C dX7_nearest_14 rfl ?_
    obtain ⟨q3, hf⟩ := rd_s hf
    refine r_zald C dX7_nearest_15 q3 rfl (fun c3 => ?_)
    refine r_if_ne C dX7_nearest_16 (tgt := 46) (by decide) c3 (fun n4 => ?_) (fun n4 => ?_)
    · have hf := ite_n n4 hf
      exact G.mask [true, true, true] rfl rfl (b_X7_nearest_46 C hr L4 cv1 cv2 hf)
    · have hf := ite_p n4 hf
      refine r_aload_n C dX7_nearest_19 rfl ?_
      obtain ⟨q5, hf⟩ := gf_s hf
      refine r_gf C ct7 (j := 3) (ji := 3) dX7_nearest_20 q5 rfl rfl (by decide) w_357 rfl (fun c5 => ?_)
      refine r_iload_n C dX7_nearest_23 rfl ?_
      obtain ⟨q6, hf⟩ := rd_s hf
      refine r_iald C dX7_nearest_24 q6 rfl (fun c6 => ?_)
      refine r_iload_n C dX7_nearest_25 rfl ?_
      refine r_iconst C dX7_nearest_26 ?_
      refine r_icmp_ne C dX7_nearest_27 (tgt := 35) (by decide) cv1 (in32_of rfl) (fun n7 => ?_) (fun n7 => ?_)
      · have hf := ite_n n7 hf
        refine r_aload_n C dX7_nearest_35 rfl ?_
        obtain ⟨q8, hf⟩ := gf_s hf
        refine r_gf C ct7 (j := 3) (ji := 3) dX7_nearest_36 q8 rfl rfl (by decide) w_357 rfl (fun c8 => ?_)
        refine r_iload_n C dX7_nearest_39 rfl ?_
        obtain ⟨q9, hf⟩ := rd_s hf
        refine r_iald C dX7_nearest_40 q9 rfl (fun c9 => ?_)
        exact G.mask [true, true, true] rfl rfl (b_X7_nearest_41 C hr L4 cv1 cv2 c6 c9 hf)
      · have hf := ite_p n7 hf
        refine r_ldc C (v := 1000000) dX7_nearest_30 w_911 ?_
        refine r_goto C dX7_nearest_32 (tgt := 41) (by decide) ?_
        exact G.mask [true, true, true] rfl rfl (b_X7_nearest_41 C hr L4 cv1 cv2 c6 (in32_of rfl) hf)
set_option maxRecDepth 20000 in
theorem l_X7_nearest_4 {g : GT} {Z : Int × MM} {n : Nat} (C : Cx g cX7_nearest 3 yX7_nearest 0 0) (hr : Rt g (some .int) 0 Z) {v0 : Int}    : ∀ (k : Nat) (v1 v2 : Int) (h : MM), in32 v1 → in32 v2 → f_X7_nearest_4 n  v0 k v1 v2 h = some Z → G g 4 [(2, v0), (0, v1), (0, v2)] [] h := by
  intro k
  induction k with
  | zero => intro v1 v2 h cv1 cv2 hf; exact absurd hf (by intro z; cases z)
  | succ k ih => intro v1 v2 h cv1 cv2 hf; exact b_X7_nearest_4b C hr (rec4 := f_X7_nearest_4 n  v0 k)  ih cv1 cv2 (show f_X7_nearest_4b n  (f_X7_nearest_4 n  v0 k) v0 v1 v2 h = some Z from hf)
set_option maxRecDepth 20000 in
theorem e_X7_nearest {g : GT} {Z : Int × MM} {n : Nat} (C : Cx g cX7_nearest 3 yX7_nearest 0 0) (hr : Rt g (some .int) 0 Z) {v0 : Int} (cv0 : cK 2 v0) {h : MM} (hf : f_X7_nearest n v0 h = some Z) : G g 0 [(2, v0), (3, 0), (3, 0)] [] h := by
  unfold f_X7_nearest at hf
  refine r_iconst C dX7_nearest_0 ?_
  refine r_istore_n C dX7_nearest_1 (Nat.le_of_ble_eq_true rfl) rfl ?_
  refine r_iconst C dX7_nearest_2 ?_
  refine r_istore_n C dX7_nearest_3 (Nat.le_of_ble_eq_true rfl) rfl ?_
  exact G.mask [true, true, true] rfl rfl (l_X7_nearest_4 C hr   _ _ _ _ (in32_of rfl) (in32_of rfl) hf)
set_option maxRecDepth 20000 in
theorem am_X7_nearest (l : Launch) (n : Nat) : AM l yX7_nearest cX7_nearest 3 (some .int) 0 0 [2] 0 (un1 (f_X7_nearest n)) := by
  refine AM.intro (by decide) (fun xs hx => ?_) (fun g xs h Z hl C hr hx hf => ?_)
  · obtain ⟨a0, rfl, c0⟩ := canL_1 hx
    exact Nat.le_of_ble_eq_true rfl
  · obtain ⟨a0, rfl, c0⟩ := canL_1 hx
    have hf := (un1_e _ a0 _).symm.trans hf
    exact e_X7_nearest (n := n) C hr c0 hf
/-! LinesPromised$Roads.isOpen(LLinesPromised$Land;I)Z -/
theorem dX7_isOpen_0 : decode cX7_isOpen 0 = .ok (.aload_n 0, 1) := by decide +kernel
theorem dX7_isOpen_1 : decode cX7_isOpen 1 = .ok (.getfield 47, 3) := by decide +kernel
theorem dX7_isOpen_4 : decode cX7_isOpen 4 = .ok (.ifCond .ne 29, 3) := by decide +kernel
theorem dX7_isOpen_7 : decode cX7_isOpen 7 = .ok (.aload_n 1, 1) := by decide +kernel
theorem dX7_isOpen_8 : decode cX7_isOpen 8 = .ok (.getfield 94, 3) := by decide +kernel
theorem dX7_isOpen_11 : decode cX7_isOpen 11 = .ok (.iload_n 2, 1) := by decide +kernel
theorem dX7_isOpen_12 : decode cX7_isOpen 12 = .ok (.iaload, 1) := by decide +kernel
theorem dX7_isOpen_13 : decode cX7_isOpen 13 = .ok (.iconst 2, 1) := by decide +kernel
theorem dX7_isOpen_14 : decode cX7_isOpen 14 = .ok (.if_icmp .ne 19, 3) := by decide +kernel
theorem dX7_isOpen_17 : decode cX7_isOpen 17 = .ok (.iload_n 2, 1) := by decide +kernel
theorem dX7_isOpen_18 : decode cX7_isOpen 18 = .ok (.aload_n 0, 1) := by decide +kernel
theorem dX7_isOpen_19 : decode cX7_isOpen 19 = .ok (.getfield 33, 3) := by decide +kernel
theorem dX7_isOpen_22 : decode cX7_isOpen 22 = .ok (.if_icmp .eq 11, 3) := by decide +kernel
theorem dX7_isOpen_25 : decode cX7_isOpen 25 = .ok (.iload_n 2, 1) := by decide +kernel
theorem dX7_isOpen_26 : decode cX7_isOpen 26 = .ok (.aload_n 0, 1) := by decide +kernel
theorem dX7_isOpen_27 : decode cX7_isOpen 27 = .ok (.getfield 37, 3) := by decide +kernel
theorem dX7_isOpen_30 : decode cX7_isOpen 30 = .ok (.if_icmp .ne 7, 3) := by decide +kernel
theorem dX7_isOpen_33 : decode cX7_isOpen 33 = .ok (.iconst 1, 1) := by decide +kernel
theorem dX7_isOpen_34 : decode cX7_isOpen 34 = .ok (.goto 4, 3) := by decide +kernel
theorem dX7_isOpen_37 : decode cX7_isOpen 37 = .ok (.iconst 0, 1) := by decide +kernel
theorem dX7_isOpen_38 : decode cX7_isOpen 38 = .ok (.ireturn, 1) := by decide +kernel
theorem cm_X7_isOpen : CM yX7_isOpen cX7_isOpen 3 (some .boolean) 2 7 := ⟨w_924, w_15, w_925, w_94, ⟨by decide +kernel, by decide +kernel, by decide +kernel⟩, ⟨_, _, rfl⟩, by decide⟩
noncomputable def f_X7_isOpen_38 (n : Nat)  (s0 : Int) (h : MM) : RR :=
  ck (isb s0) <|
  some (s0, h)
noncomputable def f_X7_isOpen_33 (n : Nat)  (h : MM) : RR :=
  f_X7_isOpen_38 n 1 h
noncomputable def f_X7_isOpen (n : Nat) (v0 v1 v2 : Int) (h : MM) : RR :=
  gf h v0 7 8 fun r1 =>
  if r1 = 0 then
    gf h v1 1 1 fun r3 =>
    rd h r3 100 v2 fun r4 =>
    if r4 = 2 then
      gf h v0 7 5 fun r6 =>
      if v2 = r6 then
        f_X7_isOpen_33 n h
      else
      gf h v0 7 6 fun r8 =>
      if v2 = r8 then
        f_X7_isOpen_33 n h
      else
      f_X7_isOpen_38 n 0 h
    else
    f_X7_isOpen_33 n h
  else
  f_X7_isOpen_33 n h
set_option maxRecDepth 20000 in
theorem b_X7_isOpen_38 {g : GT} {Z : Int × MM} {n : Nat} (C : Cx g cX7_isOpen 3 yX7_isOpen 0 0) (hr : Rt g (some .boolean) 0 Z) {s0 : Int}    (cs0 : in32 s0) {h : MM} (hf : f_X7_isOpen_38 n  s0 h = some Z) : G g 38 [(3, 0), (3, 0), (3, 0)] [(0, s0)] h := by
  unfold f_X7_isOpen_38 at hf
  obtain ⟨b1, hf⟩ := ck_s hf
  cases hf
  exact r_zret C hr dX7_isOpen_38 b1
set_option maxRecDepth 20000 in
theorem b_X7_isOpen_33 {g : GT} {Z : Int × MM} {n : Nat} (C : Cx g cX7_isOpen 3 yX7_isOpen 0 0) (hr : Rt g (some .boolean) 0 Z)     {h : MM} (hf : f_X7_isOpen_33 n   h = some Z) : G g 33 [(3, 0), (3, 0), (3, 0)] [] h := by
  unfold f_X7_isOpen_33 at hf
  refine r_iconst C dX7_isOpen_33 ?_
  refine r_goto C dX7_isOpen_34 (tgt := 38) (by decide) ?_
  exact G.mask [false, false, false] rfl rfl (b_X7_isOpen_38 C hr  (in32_of rfl) hf)
set_option maxRecDepth 20000 in
theorem e_X7_isOpen {g : GT} {Z : Int × MM} {n : Nat} (C : Cx g cX7_isOpen 3 yX7_isOpen 0 0) (hr : Rt g (some .boolean) 0 Z) {v0 v1 v2 : Int} (cv0 : cK 2 v0) (cv1 : cK 2 v1) (cv2 : cK 0 v2) {h : MM} (hf : f_X7_isOpen n v0 v1 v2 h = some Z) : G g 0 [(2, v0), (2, v1), (0, v2)] [] h := by
  have cv2 : in32 v2 := cv2
  unfold f_X7_isOpen at hf
  refine r_aload_n C dX7_isOpen_0 rfl ?_
  obtain ⟨q1, hf⟩ := gf_s hf
  refine r_gf C ct7 (j := 8) (ji := 8) dX7_isOpen_1 q1 rfl rfl (by decide) w_362 rfl (fun c1 => ?_)
  have c1 : in32 _ := c1
  refine r_if_ne C dX7_isOpen_4 (tgt := 33) (by decide) c1 (fun n2 => ?_) (fun n2 => ?_)
  · have hf := ite_n n2 hf
    exact G.mask [false, false, false] rfl rfl (b_X7_isOpen_33 C hr   hf)
  · have hf := ite_p n2 hf
    refine r_aload_n C dX7_isOpen_7 rfl ?_
    obtain ⟨q3, hf⟩ := gf_s hf
    refine r_gf C ct1 (j := 1) (ji := 1) dX7_isOpen_8 q3 rfl rfl (by decide) w_133 rfl (fun c3 => ?_)
    refine r_iload_n C dX7_isOpen_11 rfl ?_
    obtain ⟨q4, hf⟩ := rd_s hf
    refine r_iald C dX7_isOpen_12 q4 rfl (fun c4 => ?_)
    refine r_iconst C dX7_isOpen_13 ?_
    refine r_icmp_ne C dX7_isOpen_14 (tgt := 33) (by decide) c4 (in32_of rfl) (fun n5 => ?_) (fun n5 => ?_)
    · have hf := ite_n n5 hf
      exact G.mask [false, false, false] rfl rfl (b_X7_isOpen_33 C hr   hf)
    · have hf := ite_p n5 hf
      refine r_iload_n C dX7_isOpen_17 rfl ?_
      refine r_aload_n C dX7_isOpen_18 rfl ?_
      obtain ⟨q6, hf⟩ := gf_s hf
      refine r_gf C ct7 (j := 5) (ji := 5) dX7_isOpen_19 q6 rfl rfl (by decide) w_359 rfl (fun c6 => ?_)
      have c6 : in32 _ := c6
      refine r_icmp_eq C dX7_isOpen_22 (tgt := 33) (by decide) cv2 c6 (fun n7 => ?_) (fun n7 => ?_)
      · have hf := ite_p n7 hf
        exact G.mask [false, false, false] rfl rfl (b_X7_isOpen_33 C hr   hf)
      · have hf := ite_n n7 hf
        refine r_iload_n C dX7_isOpen_25 rfl ?_
        refine r_aload_n C dX7_isOpen_26 rfl ?_
        obtain ⟨q8, hf⟩ := gf_s hf
        refine r_gf C ct7 (j := 6) (ji := 6) dX7_isOpen_27 q8 rfl rfl (by decide) w_360 rfl (fun c8 => ?_)
        have c8 : in32 _ := c8
        refine r_icmp_ne C dX7_isOpen_30 (tgt := 37) (by decide) cv2 c8 (fun n9 => ?_) (fun n9 => ?_)
        · have hf := ite_n n9 hf
          refine r_iconst C dX7_isOpen_37 ?_
          exact G.mask [false, false, false] rfl rfl (b_X7_isOpen_38 C hr  (in32_of rfl) hf)
        · have hf := ite_p n9 hf
          exact G.mask [false, false, false] rfl rfl (b_X7_isOpen_33 C hr   hf)
set_option maxRecDepth 20000 in
theorem am_X7_isOpen (l : Launch) (n : Nat) : AM l yX7_isOpen cX7_isOpen 3 (some .boolean) 0 0 [2, 2, 0] 0 (un3 (f_X7_isOpen n)) := by
  refine AM.intro (by decide) (fun xs hx => ?_) (fun g xs h Z hl C hr hx hf => ?_)
  · obtain ⟨a0, a1, a2, rfl, c0, c1, c2⟩ := canL_3 hx
    exact Nat.le_of_ble_eq_true rfl
  · obtain ⟨a0, a1, a2, rfl, c0, c1, c2⟩ := canL_3 hx
    have hf := (un3_e _ a0 a1 a2 _).symm.trans hf
    exact e_X7_isOpen (n := n) C hr c0 c1 c2 hf
/-! LinesPromised$Roads.canStep(LLinesPromised$Land;II)Z -/
theorem dX7_canStep_0 : decode cX7_canStep 0 = .ok (.aload_n 0, 1) := by decide +kernel
theorem dX7_canStep_1 : decode cX7_canStep 1 = .ok (.aload_n 1, 1) := by decide +kernel
theorem dX7_canStep_2 : decode cX7_canStep 2 = .ok (.iload_n 2, 1) := by decide +kernel
theorem dX7_canStep_3 : decode cX7_canStep 3 = .ok (.invokevirtual 87, 3) := by decide +kernel
theorem dX7_canStep_6 : decode cX7_canStep 6 = .ok (.ifCond .eq 29, 3) := by decide +kernel
theorem dX7_canStep_9 : decode cX7_canStep 9 = .ok (.aload_n 0, 1) := by decide +kernel
theorem dX7_canStep_10 : decode cX7_canStep 10 = .ok (.aload_n 1, 1) := by decide +kernel
theorem dX7_canStep_11 : decode cX7_canStep 11 = .ok (.iload_n 3, 1) := by decide +kernel
theorem dX7_canStep_12 : decode cX7_canStep 12 = .ok (.invokevirtual 87, 3) := by decide +kernel
theorem dX7_canStep_15 : decode cX7_canStep 15 = .ok (.ifCond .eq 20, 3) := by decide +kernel
theorem dX7_canStep_18 : decode cX7_canStep 18 = .ok (.aload_n 1, 1) := by decide +kernel
theorem dX7_canStep_19 : decode cX7_canStep 19 = .ok (.iload_n 2, 1) := by decide +kernel
theorem dX7_canStep_20 : decode cX7_canStep 20 = .ok (.iload_n 3, 1) := by decide +kernel
theorem dX7_canStep_21 : decode cX7_canStep 21 = .ok (.invokevirtual 91, 3) := by decide +kernel
theorem dX7_canStep_24 : decode cX7_canStep 24 = .ok (.aload_n 0, 1) := by decide +kernel
theorem dX7_canStep_25 : decode cX7_canStep 25 = .ok (.getfield 44, 3) := by decide +kernel
theorem dX7_canStep_28 : decode cX7_canStep 28 = .ok (.if_icmp .gt 7, 3) := by decide +kernel
theorem dX7_canStep_31 : decode cX7_canStep 31 = .ok (.iconst 1, 1) := by decide +kernel
theorem dX7_canStep_32 : decode cX7_canStep 32 = .ok (.goto 4, 3) := by decide +kernel
theorem dX7_canStep_35 : decode cX7_canStep 35 = .ok (.iconst 0, 1) := by decide +kernel
theorem dX7_canStep_36 : decode cX7_canStep 36 = .ok (.ireturn, 1) := by decide +kernel
theorem cm_X7_canStep : CM yX7_canStep cX7_canStep 4 (some .boolean) 3 7 := ⟨w_920, w_14, w_921, w_94, ⟨by decide +kernel, by decide +kernel, by decide +kernel⟩, ⟨_, _, rfl⟩, by decide⟩
noncomputable def f_X7_canStep_36 (n : Nat)  (s0 : Int) (h : MM) : RR :=
  ck (isb s0) <|
  some (s0, h)
noncomputable def f_X7_canStep_35 (n : Nat)  (h : MM) : RR :=
  f_X7_canStep_36 n 0 h
noncomputable def f_X7_canStep (n : Nat) (v0 v1 v2 v3 : Int) (h : MM) : RR :=
  gk h v0 7 <|
  bd (f_X7_isOpen n v0 v1 v2 h) fun r1 h1 =>
  if r1 = 0 then
    f_X7_canStep_35 n h1
  else
  gk h1 v0 7 <|
  bd (f_X7_isOpen n v0 v1 v3 h1) fun r3 h3 =>
  if r3 = 0 then
    f_X7_canStep_35 n h3
  else
  gk h3 v1 1 <|
  bd (f_X1_climb n v1 v2 v3 h3) fun r5 h5 =>
  gf h5 v0 7 7 fun r6 =>
  if r6 < r5 then
    f_X7_canStep_35 n h5
  else
  f_X7_canStep_36 n 1 h5
set_option maxRecDepth 20000 in
theorem b_X7_canStep_36 {g : GT} {Z : Int × MM} {n : Nat} (C : Cx g cX7_canStep 4 yX7_canStep 2 46) (hr : Rt g (some .boolean) 0 Z) {s0 : Int}    (cs0 : in32 s0) {h : MM} (hf : f_X7_canStep_36 n  s0 h = some Z) : G g 36 [(3, 0), (3, 0), (3, 0), (3, 0)] [(0, s0)] h := by
  unfold f_X7_canStep_36 at hf
  obtain ⟨b1, hf⟩ := ck_s hf
  cases hf
  exact r_zret C hr dX7_canStep_36 b1
set_option maxRecDepth 20000 in
theorem b_X7_canStep_35 {g : GT} {Z : Int × MM} {n : Nat} (C : Cx g cX7_canStep 4 yX7_canStep 2 46) (hr : Rt g (some .boolean) 0 Z)     {h : MM} (hf : f_X7_canStep_35 n   h = some Z) : G g 35 [(3, 0), (3, 0), (3, 0), (3, 0)] [] h := by
  unfold f_X7_canStep_35 at hf
  refine r_iconst C dX7_canStep_35 ?_
  exact G.mask [false, false, false, false] rfl rfl (b_X7_canStep_36 C hr  (in32_of rfl) hf)
set_option maxRecDepth 20000 in
theorem e_X7_canStep {g : GT} {Z : Int × MM} {n : Nat} (C : Cx g cX7_canStep 4 yX7_canStep 2 46) (hr : Rt g (some .boolean) 0 Z) {v0 v1 v2 v3 : Int} (cv0 : cK 2 v0) (cv1 : cK 2 v1) (cv2 : cK 0 v2) (cv3 : cK 0 v3) {h : MM} (hf : f_X7_canStep n v0 v1 v2 v3 h = some Z) : G g 0 [(2, v0), (2, v1), (0, v2), (0, v3)] [] h := by
  have cv2 : in32 v2 := cv2
  have cv3 : in32 v3 := cv3
  unfold f_X7_canStep at hf
  refine r_aload_n C dX7_canStep_0 rfl ?_
  refine r_aload_n C dX7_canStep_1 rfl ?_
  refine r_iload_n C dX7_canStep_2 rfl ?_
  obtain ⟨p1, hf⟩ := gk_s hf
  obtain ⟨r1, h1, hq1, hf⟩ := bd_s hf
  refine r_cV2 C (am_X7_isOpen (gl g) n) cm_X7_isOpen w_922 dX7_canStep_3 ⟨Nat.le_of_ble_eq_true rfl, Nat.le_of_ble_eq_true rfl⟩ p1 rfl trivial cv2 rfl (Nat.le_of_ble_eq_true rfl) hq1 (by decide) (fun c1 => ?_)
  have c1 : in32 _ := c1
  refine r_if_eq C dX7_canStep_6 (tgt := 35) (by decide) c1 (fun n2 => ?_) (fun n2 => ?_)
  · have hf := ite_p n2 hf
    exact G.mask [false, false, false, false] rfl rfl (b_X7_canStep_35 C hr   hf)
  · have hf := ite_n n2 hf
    refine r_aload_n C dX7_canStep_9 rfl ?_
    refine r_aload_n C dX7_canStep_10 rfl ?_
    refine r_iload_n C dX7_canStep_11 rfl ?_
    obtain ⟨p3, hf⟩ := gk_s hf
    obtain ⟨r3, h3, hq3, hf⟩ := bd_s hf
    refine r_cV2 C (am_X7_isOpen (gl g) n) cm_X7_isOpen w_922 dX7_canStep_12 ⟨Nat.le_of_ble_eq_true rfl, Nat.le_of_ble_eq_true rfl⟩ p3 rfl trivial cv3 rfl (Nat.le_of_ble_eq_true rfl) hq3 (by decide) (fun c3 => ?_)
    have c3 : in32 _ := c3
    refine r_if_eq C dX7_canStep_15 (tgt := 35) (by decide) c3 (fun n4 => ?_) (fun n4 => ?_)
    · have hf := ite_p n4 hf
      exact G.mask [false, false, false, false] rfl rfl (b_X7_canStep_35 C hr   hf)
    · have hf := ite_n n4 hf
      refine r_aload_n C dX7_canStep_18 rfl ?_
      refine r_iload_n C dX7_canStep_19 rfl ?_
      refine r_iload_n C dX7_canStep_20 rfl ?_
      obtain ⟨p5, hf⟩ := gk_s hf
      obtain ⟨r5, h5, hq5, hf⟩ := bd_s hf
      refine r_cV2 C (am_X1_climb (gl g) n) cm_X1_climb w_926 dX7_canStep_21 ⟨Nat.le_of_ble_eq_true rfl, Nat.le_of_ble_eq_true rfl⟩ p5 rfl cv2 cv3 rfl (Nat.le_of_ble_eq_true rfl) hq5 (by decide) (fun c5 => ?_)
      have c5 : in32 _ := c5
      refine r_aload_n C dX7_canStep_24 rfl ?_
      obtain ⟨q6, hf⟩ := gf_s hf
      refine r_gf C ct7 (j := 7) (ji := 7) dX7_canStep_25 q6 rfl rfl (by decide) w_361 rfl (fun c6 => ?_)
      have c6 : in32 _ := c6
      refine r_icmp_gt C dX7_canStep_28 (tgt := 35) (by decide) c5 c6 (fun n7 => ?_) (fun n7 => ?_)
      · have hf := ite_p n7 hf
        exact G.mask [false, false, false, false] rfl rfl (b_X7_canStep_35 C hr   hf)
      · have hf := ite_n n7 hf
        refine r_iconst C dX7_canStep_31 ?_
        refine r_goto C dX7_canStep_32 (tgt := 36) (by decide) ?_
        exact G.mask [false, false, false, false] rfl rfl (b_X7_canStep_36 C hr  (in32_of rfl) hf)
set_option maxRecDepth 20000 in
theorem am_X7_canStep (l : Launch) (n : Nat) : AM l yX7_canStep cX7_canStep 4 (some .boolean) 2 46 [2, 2, 0, 0] 0 (un4 (f_X7_canStep n)) := by
  refine AM.intro (by decide) (fun xs hx => ?_) (fun g xs h Z hl C hr hx hf => ?_)
  · obtain ⟨a0, a1, a2, a3, rfl, c0, c1, c2, c3⟩ := canL_4 hx
    exact Nat.le_of_ble_eq_true rfl
  · obtain ⟨a0, a1, a2, a3, rfl, c0, c1, c2, c3⟩ := canL_4 hx
    have hf := (un4_e _ a0 a1 a2 a3 _).symm.trans hf
    exact e_X7_canStep (n := n) C hr c0 c1 c2 c3 hf
/-! LinesPromised$Roads.measure(LLinesPromised$Land;)V -/
theorem dX7_measure_0 : decode cX7_measure 0 = .ok (.aload_n 0, 1) := by decide +kernel
theorem dX7_measure_1 : decode cX7_measure 1 = .ok (.getfield 15, 3) := by decide +kernel
theorem dX7_measure_4 : decode cX7_measure 4 = .ok (.ldc 58, 2) := by decide +kernel
theorem dX7_measure_6 : decode cX7_measure 6 = .ok (.invokestatic 62, 3) := by decide +kernel
theorem dX7_measure_9 : decode cX7_measure 9 = .ok (.iconst 0, 1) := by decide +kernel
theorem dX7_measure_10 : decode cX7_measure 10 = .ok (.istore_n 2, 1) := by decide +kernel
theorem dX7_measure_11 : decode cX7_measure 11 = .ok (.iload_n 2, 1) := by decide +kernel
theorem dX7_measure_12 : decode cX7_measure 12 = .ok (.bipush 80, 2) := by decide +kernel
theorem dX7_measure_14 : decode cX7_measure 14 = .ok (.if_icmp .ge 16, 3) := by decide +kernel
theorem dX7_measure_17 : decode cX7_measure 17 = .ok (.aload_n 0, 1) := by decide +kernel
theorem dX7_measure_18 : decode cX7_measure 18 = .ok (.getfield 18, 3) := by decide +kernel
theorem dX7_measure_21 : decode cX7_measure 21 = .ok (.iload_n 2, 1) := by decide +kernel
theorem dX7_measure_22 : decode cX7_measure 22 = .ok (.iconst 0, 1) := by decide +kernel
theorem dX7_measure_23 : decode cX7_measure 23 = .ok (.bastore, 1) := by decide +kernel
theorem dX7_measure_24 : decode cX7_measure 24 = .ok (.iinc 2 1, 3) := by decide +kernel
theorem dX7_measure_27 : decode cX7_measure 27 = .ok (.goto (-16), 3) := by decide +kernel
theorem dX7_measure_30 : decode cX7_measure 30 = .ok (.aload_n 0, 1) := by decide +kernel
theorem dX7_measure_31 : decode cX7_measure 31 = .ok (.getfield 15, 3) := by decide +kernel
theorem dX7_measure_34 : decode cX7_measure 34 = .ok (.aload_n 0, 1) := by decide +kernel
theorem dX7_measure_35 : decode cX7_measure 35 = .ok (.getfield 37, 3) := by decide +kernel
theorem dX7_measure_38 : decode cX7_measure 38 = .ok (.iconst 0, 1) := by decide +kernel
theorem dX7_measure_39 : decode cX7_measure 39 = .ok (.iastore, 1) := by decide +kernel
theorem dX7_measure_40 : decode cX7_measure 40 = .ok (.iconst 0, 1) := by decide +kernel
theorem dX7_measure_41 : decode cX7_measure 41 = .ok (.istore_n 2, 1) := by decide +kernel
theorem dX7_measure_42 : decode cX7_measure 42 = .ok (.iload_n 2, 1) := by decide +kernel
theorem dX7_measure_43 : decode cX7_measure 43 = .ok (.bipush 80, 2) := by decide +kernel
theorem dX7_measure_45 : decode cX7_measure 45 = .ok (.if_icmp .ge 98, 3) := by decide +kernel
theorem dX7_measure_48 : decode cX7_measure 48 = .ok (.aload_n 0, 1) := by decide +kernel
theorem dX7_measure_49 : decode cX7_measure 49 = .ok (.invokevirtual 68, 3) := by decide +kernel
theorem dX7_measure_52 : decode cX7_measure 52 = .ok (.istore_n 3, 1) := by decide +kernel
theorem dX7_measure_53 : decode cX7_measure 53 = .ok (.iload_n 3, 1) := by decide +kernel
theorem dX7_measure_54 : decode cX7_measure 54 = .ok (.iconst (-1), 1) := by decide +kernel
theorem dX7_measure_55 : decode cX7_measure 55 = .ok (.if_icmp .ne 4, 3) := by decide +kernel
theorem dX7_measure_58 : decode cX7_measure 58 = .ok (.return_, 1) := by decide +kernel
theorem dX7_measure_59 : decode cX7_measure 59 = .ok (.aload_n 0, 1) := by decide +kernel
theorem dX7_measure_60 : decode cX7_measure 60 = .ok (.getfield 18, 3) := by decide +kernel
theorem dX7_measure_63 : decode cX7_measure 63 = .ok (.iload_n 3, 1) := by decide +kernel
theorem dX7_measure_64 : decode cX7_measure 64 = .ok (.iconst 1, 1) := by decide +kernel
theorem dX7_measure_65 : decode cX7_measure 65 = .ok (.bastore, 1) := by decide +kernel
theorem dX7_measure_66 : decode cX7_measure 66 = .ok (.iconst 0, 1) := by decide +kernel
theorem dX7_measure_67 : decode cX7_measure 67 = .ok (.istore 4, 2) := by decide +kernel
theorem dX7_measure_69 : decode cX7_measure 69 = .ok (.iload 4, 2) := by decide +kernel
theorem dX7_measure_71 : decode cX7_measure 71 = .ok (.iconst 4, 1) := by decide +kernel
theorem dX7_measure_72 : decode cX7_measure 72 = .ok (.if_icmp .ge 65, 3) := by decide +kernel
theorem dX7_measure_75 : decode cX7_measure 75 = .ok (.iload_n 3, 1) := by decide +kernel
theorem dX7_measure_76 : decode cX7_measure 76 = .ok (.iload 4, 2) := by decide +kernel
theorem dX7_measure_78 : decode cX7_measure 78 = .ok (.invokestatic 72, 3) := by decide +kernel
theorem dX7_measure_81 : decode cX7_measure 81 = .ok (.istore 5, 2) := by decide +kernel
theorem dX7_measure_83 : decode cX7_measure 83 = .ok (.iload 5, 2) := by decide +kernel
theorem dX7_measure_85 : decode cX7_measure 85 = .ok (.iconst (-1), 1) := by decide +kernel
theorem dX7_measure_86 : decode cX7_measure 86 = .ok (.if_icmp .eq 45, 3) := by decide +kernel
theorem dX7_measure_89 : decode cX7_measure 89 = .ok (.aload_n 0, 1) := by decide +kernel
theorem dX7_measure_90 : decode cX7_measure 90 = .ok (.aload_n 1, 1) := by decide +kernel
theorem dX7_measure_91 : decode cX7_measure 91 = .ok (.iload 5, 2) := by decide +kernel
theorem dX7_measure_93 : decode cX7_measure 93 = .ok (.iload_n 3, 1) := by decide +kernel
theorem dX7_measure_94 : decode cX7_measure 94 = .ok (.invokevirtual 75, 3) := by decide +kernel
theorem dX7_measure_97 : decode cX7_measure 97 = .ok (.ifCond .eq 34, 3) := by decide +kernel
theorem dX7_measure_100 : decode cX7_measure 100 = .ok (.aload_n 0, 1) := by decide +kernel
theorem dX7_measure_101 : decode cX7_measure 101 = .ok (.getfield 15, 3) := by decide +kernel
theorem dX7_measure_104 : decode cX7_measure 104 = .ok (.iload 5, 2) := by decide +kernel
theorem dX7_measure_106 : decode cX7_measure 106 = .ok (.aload_n 0, 1) := by decide +kernel
theorem dX7_measure_107 : decode cX7_measure 107 = .ok (.getfield 15, 3) := by decide +kernel
theorem dX7_measure_110 : decode cX7_measure 110 = .ok (.iload 5, 2) := by decide +kernel
theorem dX7_measure_112 : decode cX7_measure 112 = .ok (.iaload, 1) := by decide +kernel
theorem dX7_measure_113 : decode cX7_measure 113 = .ok (.aload_n 0, 1) := by decide +kernel
theorem dX7_measure_114 : decode cX7_measure 114 = .ok (.getfield 15, 3) := by decide +kernel
theorem dX7_measure_117 : decode cX7_measure 117 = .ok (.iload_n 3, 1) := by decide +kernel
theorem dX7_measure_118 : decode cX7_measure 118 = .ok (.iaload, 1) := by decide +kernel
theorem dX7_measure_119 : decode cX7_measure 119 = .ok (.aload_n 1, 1) := by decide +kernel
theorem dX7_measure_120 : decode cX7_measure 120 = .ok (.iload 5, 2) := by decide +kernel
theorem dX7_measure_122 : decode cX7_measure 122 = .ok (.iload_n 3, 1) := by decide +kernel
theorem dX7_measure_123 : decode cX7_measure 123 = .ok (.invokevirtual 79, 3) := by decide +kernel
theorem dX7_measure_126 : decode cX7_measure 126 = .ok (.iadd, 1) := by decide +kernel
theorem dX7_measure_127 : decode cX7_measure 127 = .ok (.invokestatic 82, 3) := by decide +kernel
theorem dX7_measure_130 : decode cX7_measure 130 = .ok (.iastore, 1) := by decide +kernel
theorem dX7_measure_131 : decode cX7_measure 131 = .ok (.iinc 4 1, 3) := by decide +kernel
theorem dX7_measure_134 : decode cX7_measure 134 = .ok (.goto (-65), 3) := by decide +kernel
theorem dX7_measure_137 : decode cX7_measure 137 = .ok (.iinc 2 1, 3) := by decide +kernel
theorem dX7_measure_140 : decode cX7_measure 140 = .ok (.goto (-98), 3) := by decide +kernel
theorem dX7_measure_143 : decode cX7_measure 143 = .ok (.return_, 1) := by decide +kernel
theorem cm_X7_measure : CM yX7_measure cX7_measure 6 none 1 7 := ⟨w_909, w_12, w_910, w_94, ⟨by decide +kernel, by decide +kernel, by decide +kernel⟩, ⟨_, _, rfl⟩, by decide⟩
noncomputable def f_X7_measure_131 (n : Nat) (rec42 : Int → MM → RR) (rec69 : Int → MM → RR) (v0 v1 v2 v3 v4 : Int) (h : MM) : RR :=
  lb (wr (v4 + 1)) fun x1 =>
  rec69 x1 h
noncomputable def f_X7_measure_69b (n : Nat) (rec42 : Int → MM → RR) (rec69 : Int → MM → RR) (v0 v1 v2 v3 v4 : Int) (h : MM) : RR :=
  if 4 ≤ v4 then
    lb (wr (v2 + 1)) fun x2 =>
    rec42 x2 h
  else
  bd (f_X1_beside n v3 v4 h) fun r3 h3 =>
  if r3 = (-1) then
    f_X7_measure_131 n rec42 rec69 v0 v1 v2 v3 v4 h3
  else
  gk h3 v0 7 <|
  bd (f_X7_canStep n v0 v1 r3 v3 h3) fun r5 h5 =>
  if r5 = 0 then
    f_X7_measure_131 n rec42 rec69 v0 v1 v2 v3 v4 h5
  else
  gf h5 v0 7 3 fun r7 =>
  gf h5 v0 7 3 fun r8 =>
  rd h5 r8 100 r3 fun r9 =>
  gf h5 v0 7 3 fun r10 =>
  rd h5 r10 100 v3 fun r11 =>
  gk h5 v1 1 <|
  bd (f_X1_yardsTo n v1 r3 v3 h5) fun r12 h12 =>
  wt h12 r7 100 r3 (jmin r9 (wr (r11 + r12))) fun h13 =>
  f_X7_measure_131 n rec42 rec69 v0 v1 v2 v3 v4 h13
noncomputable def f_X7_measure_69 (n : Nat) (rec42 : Int → MM → RR) (v0 v1 v2 v3 : Int) : Nat → Int → MM → RR
  | 0, _, _ => none
  | k + 1, v4, h => f_X7_measure_69b n rec42 (f_X7_measure_69 n rec42 v0 v1 v2 v3 k) v0 v1 v2 v3 v4 h
noncomputable def f_X7_measure_42b (n : Nat) (rec42 : Int → MM → RR) (v0 v1 v2 : Int) (h : MM) : RR :=
  if 80 ≤ v2 then
    some (0, h)
  else
  gk h v0 7 <|
  bd (f_X7_nearest n v0 h) fun r2 h2 =>
  if r2 = (-1) then
    some (0, h2)
  else
  gf h2 v0 7 4 fun r4 =>
  ck (isb 1) <|
  wt h2 r4 103 r2 1 fun h5 =>
  f_X7_measure_69 n rec42 v0 v1 v2 r2 n 0 h5
noncomputable def f_X7_measure_42 (n : Nat)  (v0 v1 : Int) : Nat → Int → MM → RR
  | 0, _, _ => none
  | k + 1, v2, h => f_X7_measure_42b n  (f_X7_measure_42 n  v0 v1 k) v0 v1 v2 h
noncomputable def f_X7_measure_11b (n : Nat) (rec11 : Int → MM → RR) (v0 v1 v2 : Int) (h : MM) : RR :=
  if 80 ≤ v2 then
    gf h v0 7 3 fun r2 =>
    gf h v0 7 6 fun r3 =>
    wt h r2 100 r3 0 fun h4 =>
    f_X7_measure_42 n v0 v1 n 0 h4
  else
  gf h v0 7 4 fun r5 =>
  ck (isb 0) <|
  wt h r5 103 v2 0 fun h6 =>
  lb (wr (v2 + 1)) fun x7 =>
  rec11 x7 h6
noncomputable def f_X7_measure_11 (n : Nat)  (v0 v1 : Int) : Nat → Int → MM → RR
  | 0, _, _ => none
  | k + 1, v2, h => f_X7_measure_11b n  (f_X7_measure_11 n  v0 v1 k) v0 v1 v2 h
noncomputable def f_X7_measure (n : Nat) (v0 v1 : Int) (h : MM) : RR :=
  gf h v0 7 3 fun r1 =>
  bd (f_J7_fill_53178 n r1 1000000 h) fun r2 h2 =>
  f_X7_measure_11 n v0 v1 n 0 h2
set_option maxRecDepth 20000 in
theorem b_X7_measure_131 {g : GT} {Z : Int × MM} {n : Nat} (C : Cx g cX7_measure 6 yX7_measure 3 69) (hr : Rt g none 3 Z) {v0 v1 v2 v3 v4 : Int}  {rec42 : Int → MM → RR} {rec69 : Int → MM → RR} (L42 : ∀ (u2 : Int) (h : MM), in32 u2 → rec42 u2 h = some Z → G g 42 [(2, v0), (2, v1), (0, u2), (3, 0), (3, 0), (3, 0)] [] h) (L69 : ∀ (u4 : Int) (h : MM), in32 u4 → rec69 u4 h = some Z → G g 69 [(2, v0), (2, v1), (0, v2), (0, v3), (0, u4), (3, 0)] [] h) (cv2 : in32 v2) (cv3 : in32 v3) (cv4 : in32 v4) {h : MM} (hf : f_X7_measure_131 n rec42 rec69 v0 v1 v2 v3 v4 h = some Z) : G g 131 [(2, v0), (2, v1), (0, v2), (0, v3), (0, v4), (3, 0)] [] h := by
  unfold f_X7_measure_131 at hf
  obtain ⟨x1, e1, hf⟩ := lb_s hf
  have c1 : in32 x1 := by rw [e1]; exact (in32_t _)
  refine r_iincL C dX7_measure_131 rfl e1 (Nat.le_of_ble_eq_true rfl) rfl ?_
  refine r_goto C dX7_measure_134 (tgt := 69) (by decide) ?_
  exact G.mask [true, true, true, true, true, false] rfl rfl (L69 _ _ c1 hf)
set_option maxRecDepth 20000 in
theorem b_X7_measure_69b {g : GT} {Z : Int × MM} {n : Nat} (C : Cx g cX7_measure 6 yX7_measure 3 69) (hr : Rt g none 3 Z) {v0 v1 v2 v3 v4 : Int}  {rec42 : Int → MM → RR} {rec69 : Int → MM → RR} (L42 : ∀ (u2 : Int) (h : MM), in32 u2 → rec42 u2 h = some Z → G g 42 [(2, v0), (2, v1), (0, u2), (3, 0), (3, 0), (3, 0)] [] h) (L69 : ∀ (u4 : Int) (h : MM), in32 u4 → rec69 u4 h = some Z → G g 69 [(2, v0), (2, v1), (0, v2), (0, v3), (0, u4), (3, 0)] [] h) (cv2 : in32 v2) (cv3 : in32 v3) (cv4 : in32 v4) {h : MM} (hf : f_X7_measure_69b n rec42 rec69 v0 v1 v2 v3 v4 h = some Z) : G g 69 [(2, v0), (2, v1), (0, v2), (0, v3), (0, v4), (3, 0)] [] h := by
  unfold f_X7_measure_69b at hf
  refine r_iload C dX7_measure_69 rfl ?_
  refine r_iconst C dX7_measure_71 ?_
  refine r_icmp_ge C dX7_measure_72 (tgt := 137) (by decide) cv4 (in32_of rfl) (fun n1 => ?_) (fun n1 => ?_)
  · have hf := ite_p n1 hf
    obtain ⟨x2, e2, hf⟩ := lb_s hf
    have c2 : in32 x2 := by rw [e2]; exact (in32_t _)
    refine r_iincL C dX7_measure_137 rfl e2 (Nat.le_of_ble_eq_true rfl) rfl ?_
    refine r_goto C dX7_measure_140 (tgt := 42) (by decide) ?_
    exact G.mask [true, true, true, false, false, false] rfl rfl (L42 _ _ c2 hf)
  · have hf := ite_n n1 hf
    refine r_iload_n C dX7_measure_75 rfl ?_
    refine r_iload C dX7_measure_76 rfl ?_
    obtain ⟨r3, h3, hq3, hf⟩ := bd_s hf
    refine r_cS2 C (am_X1_beside (gl g) n) cm_X1_beside w_917 dX7_measure_78 ⟨Nat.le_of_ble_eq_true rfl, Nat.le_of_ble_eq_true rfl⟩ cv3 cv4 rfl (Nat.le_of_ble_eq_true rfl) hq3 (by decide) (fun c3 => ?_)
    have c3 : in32 _ := c3
    refine r_istore C dX7_measure_81 (Nat.le_of_ble_eq_true rfl) rfl ?_
    refine r_iload C dX7_measure_83 rfl ?_
    refine r_iconst C dX7_measure_85 ?_
    refine r_icmp_eq C dX7_measure_86 (tgt := 131) (by decide) c3 (in32_of rfl) (fun n4 => ?_) (fun n4 => ?_)
    · have hf := ite_p n4 hf
      exact G.mask [true, true, true, true, true, false] rfl rfl (b_X7_measure_131 C hr L42 L69 cv2 cv3 cv4 hf)
    · have hf := ite_n n4 hf
      refine r_aload_n C dX7_measure_89 rfl ?_
      refine r_aload_n C dX7_measure_90 rfl ?_
      refine r_iload C dX7_measure_91 rfl ?_
      refine r_iload_n C dX7_measure_93 rfl ?_
      obtain ⟨p5, hf⟩ := gk_s hf
      obtain ⟨r5, h5, hq5, hf⟩ := bd_s hf
      refine r_cV3 C (am_X7_canStep (gl g) n) cm_X7_canStep w_918 dX7_measure_94 ⟨Nat.le_of_ble_eq_true rfl, Nat.le_of_ble_eq_true rfl⟩ p5 rfl trivial c3 cv3 rfl (Nat.le_of_ble_eq_true rfl) hq5 (by decide) (fun c5 => ?_)
      have c5 : in32 _ := c5
      refine r_if_eq C dX7_measure_97 (tgt := 131) (by decide) c5 (fun n6 => ?_) (fun n6 => ?_)
      · have hf := ite_p n6 hf
        exact G.mask [true, true, true, true, true, false] rfl rfl (b_X7_measure_131 C hr L42 L69 cv2 cv3 cv4 hf)
      · have hf := ite_n n6 hf
        refine r_aload_n C dX7_measure_100 rfl ?_
        obtain ⟨q7, hf⟩ := gf_s hf
        refine r_gf C ct7 (j := 3) (ji := 3) dX7_measure_101 q7 rfl rfl (by decide) w_357 rfl (fun c7 => ?_)
        refine r_iload C dX7_measure_104 rfl ?_
        refine r_aload_n C dX7_measure_106 rfl ?_
        obtain ⟨q8, hf⟩ := gf_s hf
        refine r_gf C ct7 (j := 3) (ji := 3) dX7_measure_107 q8 rfl rfl (by decide) w_357 rfl (fun c8 => ?_)
        refine r_iload C dX7_measure_110 rfl ?_
        obtain ⟨q9, hf⟩ := rd_s hf
        refine r_iald C dX7_measure_112 q9 rfl (fun c9 => ?_)
        refine r_aload_n C dX7_measure_113 rfl ?_
        obtain ⟨q10, hf⟩ := gf_s hf
        refine r_gf C ct7 (j := 3) (ji := 3) dX7_measure_114 q10 rfl rfl (by decide) w_357 rfl (fun c10 => ?_)
        refine r_iload_n C dX7_measure_117 rfl ?_
        obtain ⟨q11, hf⟩ := rd_s hf
        refine r_iald C dX7_measure_118 q11 rfl (fun c11 => ?_)
        refine r_aload_n C dX7_measure_119 rfl ?_
        refine r_iload C dX7_measure_120 rfl ?_
        refine r_iload_n C dX7_measure_122 rfl ?_
        obtain ⟨p12, hf⟩ := gk_s hf
        obtain ⟨r12, h12, hq12, hf⟩ := bd_s hf
        refine r_cV2 C (am_X1_yardsTo (gl g) n) cm_X1_yardsTo w_927 dX7_measure_123 ⟨Nat.le_of_ble_eq_true rfl, Nat.le_of_ble_eq_true rfl⟩ p12 rfl c3 cv3 rfl (Nat.le_of_ble_eq_true rfl) hq12 (by decide) (fun c12 => ?_)
        have c12 : in32 _ := c12
        refine r_iadd C dX7_measure_126 ?_
        refine r_mmin C dX7_measure_127 w_928 ⟨Nat.le_of_ble_eq_true rfl, Nat.le_of_ble_eq_true rfl⟩ rfl c9 (in32_t _) ?_
        obtain ⟨q13, hf⟩ := wt_s hf
        refine r_iast C dX7_measure_130 q13 rfl (in32_min c9 (in32_t _)) ?_
        exact G.mask [true, true, true, true, true, false] rfl rfl (b_X7_measure_131 C hr L42 L69 cv2 cv3 cv4 hf)
set_option maxRecDepth 20000 in
theorem l_X7_measure_69 {g : GT} {Z : Int × MM} {n : Nat} (C : Cx g cX7_measure 6 yX7_measure 3 69) (hr : Rt g none 3 Z) {v0 v1 v2 v3 : Int} {rec42 : Int → MM → RR} (L42 : ∀ (u2 : Int) (h : MM), in32 u2 → rec42 u2 h = some Z → G g 42 [(2, v0), (2, v1), (0, u2), (3, 0), (3, 0), (3, 0)] [] h) (cv2 : in32 v2) (cv3 : in32 v3) : ∀ (k : Nat) (v4 : Int) (h : MM), in32 v4 → f_X7_measure_69 n rec42 v0 v1 v2 v3 k v4 h = some Z → G g 69 [(2, v0), (2, v1), (0, v2), (0, v3), (0, v4), (3, 0)] [] h := by
  intro k
  induction k with
  | zero => intro v4 h cv4 hf; exact absurd hf (by intro z; cases z)
  | succ k ih => intro v4 h cv4 hf; exact b_X7_measure_69b C hr (rec69 := f_X7_measure_69 n rec42 v0 v1 v2 v3 k) L42 ih cv2 cv3 cv4 (show f_X7_measure_69b n rec42 (f_X7_measure_69 n rec42 v0 v1 v2 v3 k) v0 v1 v2 v3 v4 h = some Z from hf)
set_option maxRecDepth 20000 in
theorem b_X7_measure_42b {g : GT} {Z : Int × MM} {n : Nat} (C : Cx g cX7_measure 6 yX7_measure 3 69) (hr : Rt g none 3 Z) {v0 v1 v2 : Int}  {rec42 : Int → MM → RR} (L42 : ∀ (u2 : Int) (h : MM), in32 u2 → rec42 u2 h = some Z → G g 42 [(2, v0), (2, v1), (0, u2), (3, 0), (3, 0), (3, 0)] [] h) (cv2 : in32 v2) {h : MM} (hf : f_X7_measure_42b n rec42 v0 v1 v2 h = some Z) : G g 42 [(2, v0), (2, v1), (0, v2), (3, 0), (3, 0), (3, 0)] [] h := by
  unfold f_X7_measure_42b at hf
  refine r_iload_n C dX7_measure_42 rfl ?_
  refine r_bipush C dX7_measure_43 rfl ?_
  refine r_icmp_ge C dX7_measure_45 (tgt := 143) (by decide) cv2 (in32_of rfl) (fun n1 => ?_) (fun n1 => ?_)
  · have hf := ite_p n1 hf
    cases hf
    exact r_vret C hr dX7_measure_143
  · have hf := ite_n n1 hf
    refine r_aload_n C dX7_measure_48 rfl ?_
    obtain ⟨p2, hf⟩ := gk_s hf
    obtain ⟨r2, h2, hq2, hf⟩ := bd_s hf
    refine r_cV0 C (am_X7_nearest (gl g) n) cm_X7_nearest w_913 dX7_measure_49 ⟨Nat.le_of_ble_eq_true rfl, Nat.le_of_ble_eq_true rfl⟩ p2 rfl  rfl (Nat.le_of_ble_eq_true rfl) hq2 (by decide) (fun c2 => ?_)
    have c2 : in32 _ := c2
    refine r_istore_n C dX7_measure_52 (Nat.le_of_ble_eq_true rfl) rfl ?_
    refine r_iload_n C dX7_measure_53 rfl ?_
    refine r_iconst C dX7_measure_54 ?_
    refine r_icmp_ne C dX7_measure_55 (tgt := 59) (by decide) c2 (in32_of rfl) (fun n3 => ?_) (fun n3 => ?_)
    · have hf := ite_n n3 hf
      refine r_aload_n C dX7_measure_59 rfl ?_
      obtain ⟨q4, hf⟩ := gf_s hf
      refine r_gf C ct7 (j := 4) (ji := 4) dX7_measure_60 q4 rfl rfl (by decide) w_358 rfl (fun c4 => ?_)
      refine r_iload_n C dX7_measure_63 rfl ?_
      refine r_iconst C dX7_measure_64 ?_
      obtain ⟨b5, hf⟩ := ck_s hf
      obtain ⟨q5, hf⟩ := wt_s hf
      refine r_zast C dX7_measure_65 q5 rfl (isb_s b5) ?_
      refine r_iconst C dX7_measure_66 ?_
      refine r_istore C dX7_measure_67 (Nat.le_of_ble_eq_true rfl) rfl ?_
      exact G.mask [true, true, true, true, true, false] rfl rfl (l_X7_measure_69 C hr L42 cv2 c2 _ _ _ (in32_of rfl) hf)
    · have hf := ite_p n3 hf
      cases hf
      exact r_vret C hr dX7_measure_58
set_option maxRecDepth 20000 in
theorem l_X7_measure_42 {g : GT} {Z : Int × MM} {n : Nat} (C : Cx g cX7_measure 6 yX7_measure 3 69) (hr : Rt g none 3 Z) {v0 v1 : Int}    : ∀ (k : Nat) (v2 : Int) (h : MM), in32 v2 → f_X7_measure_42 n  v0 v1 k v2 h = some Z → G g 42 [(2, v0), (2, v1), (0, v2), (3, 0), (3, 0), (3, 0)] [] h := by
  intro k
  induction k with
  | zero => intro v2 h cv2 hf; exact absurd hf (by intro z; cases z)
  | succ k ih => intro v2 h cv2 hf; exact b_X7_measure_42b C hr (rec42 := f_X7_measure_42 n  v0 v1 k)  ih cv2 (show f_X7_measure_42b n  (f_X7_measure_42 n  v0 v1 k) v0 v1 v2 h = some Z from hf)
set_option maxRecDepth 20000 in
theorem b_X7_measure_11b {g : GT} {Z : Int × MM} {n : Nat} (C : Cx g cX7_measure 6 yX7_measure 3 69) (hr : Rt g none 3 Z) {v0 v1 v2 : Int}  {rec11 : Int → MM → RR} (L11 : ∀ (u2 : Int) (h : MM), in32 u2 → rec11 u2 h = some Z → G g 11 [(2, v0), (2, v1), (0, u2), (3, 0), (3, 0), (3, 0)] [] h) (cv2 : in32 v2) {h : MM} (hf : f_X7_measure_11b n rec11 v0 v1 v2 h = some Z) : G g 11 [(2, v0), (2, v1), (0, v2), (3, 0), (3, 0), (3, 0)] [] h := by
  unfold f_X7_measure_11b at hf
  refine r_iload_n C dX7_measure_11 rfl ?_
  refine r_bipush C dX7_measure_12 rfl ?_
  refine r_icmp_ge C dX7_measure_14 (tgt := 30) (by decide) cv2 (in32_of rfl) (fun n1 => ?_) (fun n1 => ?_)
  · have hf := ite_p n1 hf
    refine r_aload_n C dX7_measure_30 rfl ?_
    obtain ⟨q2, hf⟩ := gf_s hf
    refine r_gf C ct7 (j := 3) (ji := 3) dX7_measure_31 q2 rfl rfl (by decide) w_357 rfl (fun c2 => ?_)
    refine r_aload_n C dX7_measure_34 rfl ?_
    obtain ⟨q3, hf⟩ := gf_s hf
    refine r_gf C ct7 (j := 6) (ji := 6) dX7_measure_35 q3 rfl rfl (by decide) w_360 rfl (fun c3 => ?_)
    have c3 : in32 _ := c3
    refine r_iconst C dX7_measure_38 ?_
    obtain ⟨q4, hf⟩ := wt_s hf
    refine r_iast C dX7_measure_39 q4 rfl (in32_of rfl) ?_
    refine r_iconst C dX7_measure_40 ?_
    refine r_istore_n C dX7_measure_41 (Nat.le_of_ble_eq_true rfl) rfl ?_
    exact G.mask [true, true, true, false, false, false] rfl rfl (l_X7_measure_42 C hr   _ _ _ (in32_of rfl) hf)
  · have hf := ite_n n1 hf
    refine r_aload_n C dX7_measure_17 rfl ?_
    obtain ⟨q5, hf⟩ := gf_s hf
    refine r_gf C ct7 (j := 4) (ji := 4) dX7_measure_18 q5 rfl rfl (by decide) w_358 rfl (fun c5 => ?_)
    refine r_iload_n C dX7_measure_21 rfl ?_
    refine r_iconst C dX7_measure_22 ?_
    obtain ⟨b6, hf⟩ := ck_s hf
    obtain ⟨q6, hf⟩ := wt_s hf
    refine r_zast C dX7_measure_23 q6 rfl (isb_s b6) ?_
    obtain ⟨x7, e7, hf⟩ := lb_s hf
    have c7 : in32 x7 := by rw [e7]; exact (in32_t _)
    refine r_iincL C dX7_measure_24 rfl e7 (Nat.le_of_ble_eq_true rfl) rfl ?_
    refine r_goto C dX7_measure_27 (tgt := 11) (by decide) ?_
    exact G.mask [true, true, true, false, false, false] rfl rfl (L11 _ _ c7 hf)
set_option maxRecDepth 20000 in
theorem l_X7_measure_11 {g : GT} {Z : Int × MM} {n : Nat} (C : Cx g cX7_measure 6 yX7_measure 3 69) (hr : Rt g none 3 Z) {v0 v1 : Int}    : ∀ (k : Nat) (v2 : Int) (h : MM), in32 v2 → f_X7_measure_11 n  v0 v1 k v2 h = some Z → G g 11 [(2, v0), (2, v1), (0, v2), (3, 0), (3, 0), (3, 0)] [] h := by
  intro k
  induction k with
  | zero => intro v2 h cv2 hf; exact absurd hf (by intro z; cases z)
  | succ k ih => intro v2 h cv2 hf; exact b_X7_measure_11b C hr (rec11 := f_X7_measure_11 n  v0 v1 k)  ih cv2 (show f_X7_measure_11b n  (f_X7_measure_11 n  v0 v1 k) v0 v1 v2 h = some Z from hf)
set_option maxRecDepth 20000 in
theorem e_X7_measure {g : GT} {Z : Int × MM} {n : Nat} (C : Cx g cX7_measure 6 yX7_measure 3 69) (hr : Rt g none 3 Z) {v0 v1 : Int} (cv0 : cK 2 v0) (cv1 : cK 2 v1) {h : MM} (hf : f_X7_measure n v0 v1 h = some Z) : G g 0 [(2, v0), (2, v1), (3, 0), (3, 0), (3, 0), (3, 0)] [] h := by
  unfold f_X7_measure at hf
  refine r_aload_n C dX7_measure_0 rfl ?_
  obtain ⟨q1, hf⟩ := gf_s hf
  refine r_gf C ct7 (j := 3) (ji := 3) dX7_measure_1 q1 rfl rfl (by decide) w_357 rfl (fun c1 => ?_)
  refine r_ldc C (v := 1000000) dX7_measure_4 w_911 ?_
  obtain ⟨r2, h2, hq2, hf⟩ := bd_s hf
  refine r_cS2v C (am_J7_fill_53178 (gl g) n) cm_J7_fill_53178 w_912 dX7_measure_6 ⟨Nat.le_of_ble_eq_true rfl, Nat.le_of_ble_eq_true rfl⟩ trivial (in32_of rfl) rfl (Nat.le_of_ble_eq_true rfl) hq2 ?_
  refine r_iconst C dX7_measure_9 ?_
  refine r_istore_n C dX7_measure_10 (Nat.le_of_ble_eq_true rfl) rfl ?_
  exact G.mask [true, true, true, false, false, false] rfl rfl (l_X7_measure_11 C hr   _ _ _ (in32_of rfl) hf)
set_option maxRecDepth 20000 in
theorem am_X7_measure (l : Launch) (n : Nat) : AM l yX7_measure cX7_measure 6 none 3 69 [2, 2] 3 (un2 (f_X7_measure n)) := by
  refine AM.intro (by decide) (fun xs hx => ?_) (fun g xs h Z hl C hr hx hf => ?_)
  · obtain ⟨a0, a1, rfl, c0, c1⟩ := canL_2 hx
    exact Nat.le_of_ble_eq_true rfl
  · obtain ⟨a0, a1, rfl, c0, c1⟩ := canL_2 hx
    have hf := (un2_e _ a0 a1 _).symm.trans hf
    exact e_X7_measure (n := n) C hr c0 c1 hf
/-! LinesPromised$Roads.leastNext(LLinesPromised$Land;I)I -/
theorem dX7_leastNext_0 : decode cX7_leastNext 0 = .ok (.iconst 0, 1) := by decide +kernel
theorem dX7_leastNext_1 : decode cX7_leastNext 1 = .ok (.istore_n 3, 1) := by decide +kernel
theorem dX7_leastNext_2 : decode cX7_leastNext 2 = .ok (.iload_n 3, 1) := by decide +kernel
theorem dX7_leastNext_3 : decode cX7_leastNext 3 = .ok (.iconst 4, 1) := by decide +kernel
theorem dX7_leastNext_4 : decode cX7_leastNext 4 = .ok (.if_icmp .ge 63, 3) := by decide +kernel
theorem dX7_leastNext_7 : decode cX7_leastNext 7 = .ok (.iload_n 2, 1) := by decide +kernel
theorem dX7_leastNext_8 : decode cX7_leastNext 8 = .ok (.iload_n 3, 1) := by decide +kernel
theorem dX7_leastNext_9 : decode cX7_leastNext 9 = .ok (.invokestatic 72, 3) := by decide +kernel
theorem dX7_leastNext_12 : decode cX7_leastNext 12 = .ok (.istore 4, 2) := by decide +kernel
theorem dX7_leastNext_14 : decode cX7_leastNext 14 = .ok (.iload 4, 2) := by decide +kernel
theorem dX7_leastNext_16 : decode cX7_leastNext 16 = .ok (.iconst (-1), 1) := by decide +kernel
theorem dX7_leastNext_17 : decode cX7_leastNext 17 = .ok (.if_icmp .eq 44, 3) := by decide +kernel
theorem dX7_leastNext_20 : decode cX7_leastNext 20 = .ok (.aload_n 0, 1) := by decide +kernel
theorem dX7_leastNext_21 : decode cX7_leastNext 21 = .ok (.aload_n 1, 1) := by decide +kernel
theorem dX7_leastNext_22 : decode cX7_leastNext 22 = .ok (.iload_n 2, 1) := by decide +kernel
theorem dX7_leastNext_23 : decode cX7_leastNext 23 = .ok (.iload 4, 2) := by decide +kernel
theorem dX7_leastNext_25 : decode cX7_leastNext 25 = .ok (.invokevirtual 75, 3) := by decide +kernel
theorem dX7_leastNext_28 : decode cX7_leastNext 28 = .ok (.ifCond .ne 6, 3) := by decide +kernel
theorem dX7_leastNext_31 : decode cX7_leastNext 31 = .ok (.goto 30, 3) := by decide +kernel
theorem dX7_leastNext_34 : decode cX7_leastNext 34 = .ok (.aload_n 0, 1) := by decide +kernel
theorem dX7_leastNext_35 : decode cX7_leastNext 35 = .ok (.getfield 15, 3) := by decide +kernel
theorem dX7_leastNext_38 : decode cX7_leastNext 38 = .ok (.iload 4, 2) := by decide +kernel
theorem dX7_leastNext_40 : decode cX7_leastNext 40 = .ok (.iaload, 1) := by decide +kernel
theorem dX7_leastNext_41 : decode cX7_leastNext 41 = .ok (.aload_n 1, 1) := by decide +kernel
theorem dX7_leastNext_42 : decode cX7_leastNext 42 = .ok (.iload_n 2, 1) := by decide +kernel
theorem dX7_leastNext_43 : decode cX7_leastNext 43 = .ok (.iload 4, 2) := by decide +kernel
theorem dX7_leastNext_45 : decode cX7_leastNext 45 = .ok (.invokevirtual 79, 3) := by decide +kernel
theorem dX7_leastNext_48 : decode cX7_leastNext 48 = .ok (.iadd, 1) := by decide +kernel
theorem dX7_leastNext_49 : decode cX7_leastNext 49 = .ok (.aload_n 0, 1) := by decide +kernel
theorem dX7_leastNext_50 : decode cX7_leastNext 50 = .ok (.getfield 15, 3) := by decide +kernel
theorem dX7_leastNext_53 : decode cX7_leastNext 53 = .ok (.iload_n 2, 1) := by decide +kernel
theorem dX7_leastNext_54 : decode cX7_leastNext 54 = .ok (.iaload, 1) := by decide +kernel
theorem dX7_leastNext_55 : decode cX7_leastNext 55 = .ok (.if_icmp .ne 6, 3) := by decide +kernel
theorem dX7_leastNext_58 : decode cX7_leastNext 58 = .ok (.iload 4, 2) := by decide +kernel
theorem dX7_leastNext_60 : decode cX7_leastNext 60 = .ok (.ireturn, 1) := by decide +kernel
theorem dX7_leastNext_61 : decode cX7_leastNext 61 = .ok (.iinc 3 1, 3) := by decide +kernel
theorem dX7_leastNext_64 : decode cX7_leastNext 64 = .ok (.goto (-62), 3) := by decide +kernel
theorem dX7_leastNext_67 : decode cX7_leastNext 67 = .ok (.iconst (-1), 1) := by decide +kernel
theorem dX7_leastNext_68 : decode cX7_leastNext 68 = .ok (.ireturn, 1) := by decide +kernel
theorem cm_X7_leastNext : CM yX7_leastNext cX7_leastNext 5 (some .int) 2 7 := ⟨w_935, w_17, w_936, w_94, ⟨by decide +kernel, by decide +kernel, by decide +kernel⟩, ⟨_, _, rfl⟩, by decide⟩
noncomputable def f_X7_leastNext_61 (n : Nat) (rec2 : Int → MM → RR) (v0 v1 v2 v3 : Int) (h : MM) : RR :=
  lb (wr (v3 + 1)) fun x1 =>
  rec2 x1 h
noncomputable def f_X7_leastNext_2b (n : Nat) (rec2 : Int → MM → RR) (v0 v1 v2 v3 : Int) (h : MM) : RR :=
  if 4 ≤ v3 then
    some ((-1), h)
  else
  bd (f_X1_beside n v2 v3 h) fun r2 h2 =>
  if r2 = (-1) then
    f_X7_leastNext_61 n rec2 v0 v1 v2 v3 h2
  else
  gk h2 v0 7 <|
  bd (f_X7_canStep n v0 v1 v2 r2 h2) fun r4 h4 =>
  if r4 = 0 then
    f_X7_leastNext_61 n rec2 v0 v1 v2 v3 h4
  else
  gf h4 v0 7 3 fun r6 =>
  rd h4 r6 100 r2 fun r7 =>
  gk h4 v1 1 <|
  bd (f_X1_yardsTo n v1 v2 r2 h4) fun r8 h8 =>
  gf h8 v0 7 3 fun r9 =>
  rd h8 r9 100 v2 fun r10 =>
  if wr (r7 + r8) = r10 then
    some (r2, h8)
  else
  f_X7_leastNext_61 n rec2 v0 v1 v2 v3 h8
noncomputable def f_X7_leastNext_2 (n : Nat)  (v0 v1 v2 : Int) : Nat → Int → MM → RR
  | 0, _, _ => none
  | k + 1, v3, h => f_X7_leastNext_2b n  (f_X7_leastNext_2 n  v0 v1 v2 k) v0 v1 v2 v3 h
noncomputable def f_X7_leastNext (n : Nat) (v0 v1 v2 : Int) (h : MM) : RR :=
  f_X7_leastNext_2 n v0 v1 v2 n 0 h
set_option maxRecDepth 20000 in
theorem b_X7_leastNext_61 {g : GT} {Z : Int × MM} {n : Nat} (C : Cx g cX7_leastNext 5 yX7_leastNext 3 69) (hr : Rt g (some .int) 0 Z) {v0 v1 v2 v3 : Int}  {rec2 : Int → MM → RR} (L2 : ∀ (u3 : Int) (h : MM), in32 u3 → rec2 u3 h = some Z → G g 2 [(2, v0), (2, v1), (0, v2), (0, u3), (3, 0)] [] h) (cv2 : in32 v2) (cv3 : in32 v3) {h : MM} (hf : f_X7_leastNext_61 n rec2 v0 v1 v2 v3 h = some Z) : G g 61 [(2, v0), (2, v1), (0, v2), (0, v3), (3, 0)] [] h := by
  unfold f_X7_leastNext_61 at hf
  obtain ⟨x1, e1, hf⟩ := lb_s hf
  have c1 : in32 x1 := by rw [e1]; exact (in32_t _)
  refine r_iincL C dX7_leastNext_61 rfl e1 (Nat.le_of_ble_eq_true rfl) rfl ?_
  refine r_goto C dX7_leastNext_64 (tgt := 2) (by decide) ?_
  exact G.mask [true, true, true, true, false] rfl rfl (L2 _ _ c1 hf)
set_option maxRecDepth 20000 in
theorem b_X7_leastNext_2b {g : GT} {Z : Int × MM} {n : Nat} (C : Cx g cX7_leastNext 5 yX7_leastNext 3 69) (hr : Rt g (some .int) 0 Z) {v0 v1 v2 v3 : Int}  {rec2 : Int → MM → RR} (L2 : ∀ (u3 : Int) (h : MM), in32 u3 → rec2 u3 h = some Z → G g 2 [(2, v0), (2, v1), (0, v2), (0, u3), (3, 0)] [] h) (cv2 : in32 v2) (cv3 : in32 v3) {h : MM} (hf : f_X7_leastNext_2b n rec2 v0 v1 v2 v3 h = some Z) : G g 2 [(2, v0), (2, v1), (0, v2), (0, v3), (3, 0)] [] h := by
  unfold f_X7_leastNext_2b at hf
  refine r_iload_n C dX7_leastNext_2 rfl ?_
  refine r_iconst C dX7_leastNext_3 ?_
  refine r_icmp_ge C dX7_leastNext_4 (tgt := 67) (by decide) cv3 (in32_of rfl) (fun n1 => ?_) (fun n1 => ?_)
  · have hf := ite_p n1 hf
    refine r_iconst C dX7_leastNext_67 ?_
    cases hf
    exact r_jret C hr dX7_leastNext_68 (in32_of rfl)
  · have hf := ite_n n1 hf
    refine r_iload_n C dX7_leastNext_7 rfl ?_
    refine r_iload_n C dX7_leastNext_8 rfl ?_
    obtain ⟨r2, h2, hq2, hf⟩ := bd_s hf
    refine r_cS2 C (am_X1_beside (gl g) n) cm_X1_beside w_917 dX7_leastNext_9 ⟨Nat.le_of_ble_eq_true rfl, Nat.le_of_ble_eq_true rfl⟩ cv2 cv3 rfl (Nat.le_of_ble_eq_true rfl) hq2 (by decide) (fun c2 => ?_)
    have c2 : in32 _ := c2
    refine r_istore C dX7_leastNext_12 (Nat.le_of_ble_eq_true rfl) rfl ?_
    refine r_iload C dX7_leastNext_14 rfl ?_
    refine r_iconst C dX7_leastNext_16 ?_
    refine r_icmp_eq C dX7_leastNext_17 (tgt := 61) (by decide) c2 (in32_of rfl) (fun n3 => ?_) (fun n3 => ?_)
    · have hf := ite_p n3 hf
      exact G.mask [true, true, true, true, false] rfl rfl (b_X7_leastNext_61 C hr L2 cv2 cv3 hf)
    · have hf := ite_n n3 hf
      refine r_aload_n C dX7_leastNext_20 rfl ?_
      refine r_aload_n C dX7_leastNext_21 rfl ?_
      refine r_iload_n C dX7_leastNext_22 rfl ?_
      refine r_iload C dX7_leastNext_23 rfl ?_
      obtain ⟨p4, hf⟩ := gk_s hf
      obtain ⟨r4, h4, hq4, hf⟩ := bd_s hf
      refine r_cV3 C (am_X7_canStep (gl g) n) cm_X7_canStep w_918 dX7_leastNext_25 ⟨Nat.le_of_ble_eq_true rfl, Nat.le_of_ble_eq_true rfl⟩ p4 rfl trivial cv2 c2 rfl (Nat.le_of_ble_eq_true rfl) hq4 (by decide) (fun c4 => ?_)
      have c4 : in32 _ := c4
      refine r_if_ne C dX7_leastNext_28 (tgt := 34) (by decide) c4 (fun n5 => ?_) (fun n5 => ?_)
      · have hf := ite_n n5 hf
        refine r_aload_n C dX7_leastNext_34 rfl ?_
        obtain ⟨q6, hf⟩ := gf_s hf
        refine r_gf C ct7 (j := 3) (ji := 3) dX7_leastNext_35 q6 rfl rfl (by decide) w_357 rfl (fun c6 => ?_)
        refine r_iload C dX7_leastNext_38 rfl ?_
        obtain ⟨q7, hf⟩ := rd_s hf
        refine r_iald C dX7_leastNext_40 q7 rfl (fun c7 => ?_)
        refine r_aload_n C dX7_leastNext_41 rfl ?_
        refine r_iload_n C dX7_leastNext_42 rfl ?_
        refine r_iload C dX7_leastNext_43 rfl ?_
        obtain ⟨p8, hf⟩ := gk_s hf
        obtain ⟨r8, h8, hq8, hf⟩ := bd_s hf
        refine r_cV2 C (am_X1_yardsTo (gl g) n) cm_X1_yardsTo w_927 dX7_leastNext_45 ⟨Nat.le_of_ble_eq_true rfl, Nat.le_of_ble_eq_true rfl⟩ p8 rfl cv2 c2 rfl (Nat.le_of_ble_eq_true rfl) hq8 (by decide) (fun c8 => ?_)
        have c8 : in32 _ := c8
        refine r_iadd C dX7_leastNext_48 ?_
        refine r_aload_n C dX7_leastNext_49 rfl ?_
        obtain ⟨q9, hf⟩ := gf_s hf
        refine r_gf C ct7 (j := 3) (ji := 3) dX7_leastNext_50 q9 rfl rfl (by decide) w_357 rfl (fun c9 => ?_)
        refine r_iload_n C dX7_leastNext_53 rfl ?_
        obtain ⟨q10, hf⟩ := rd_s hf
        refine r_iald C dX7_leastNext_54 q10 rfl (fun c10 => ?_)
        refine r_icmp_ne C dX7_leastNext_55 (tgt := 61) (by decide) (in32_t _) c10 (fun n11 => ?_) (fun n11 => ?_)
        · have hf := ite_n n11 hf
          exact G.mask [true, true, true, true, false] rfl rfl (b_X7_leastNext_61 C hr L2 cv2 cv3 hf)
        · have hf := ite_p n11 hf
          refine r_iload C dX7_leastNext_58 rfl ?_
          cases hf
          exact r_jret C hr dX7_leastNext_60 c2
      · have hf := ite_p n5 hf
        refine r_goto C dX7_leastNext_31 (tgt := 61) (by decide) ?_
        exact G.mask [true, true, true, true, false] rfl rfl (b_X7_leastNext_61 C hr L2 cv2 cv3 hf)
set_option maxRecDepth 20000 in
theorem l_X7_leastNext_2 {g : GT} {Z : Int × MM} {n : Nat} (C : Cx g cX7_leastNext 5 yX7_leastNext 3 69) (hr : Rt g (some .int) 0 Z) {v0 v1 v2 : Int}   (cv2 : in32 v2) : ∀ (k : Nat) (v3 : Int) (h : MM), in32 v3 → f_X7_leastNext_2 n  v0 v1 v2 k v3 h = some Z → G g 2 [(2, v0), (2, v1), (0, v2), (0, v3), (3, 0)] [] h := by
  intro k
  induction k with
  | zero => intro v3 h cv3 hf; exact absurd hf (by intro z; cases z)
  | succ k ih => intro v3 h cv3 hf; exact b_X7_leastNext_2b C hr (rec2 := f_X7_leastNext_2 n  v0 v1 v2 k)  ih cv2 cv3 (show f_X7_leastNext_2b n  (f_X7_leastNext_2 n  v0 v1 v2 k) v0 v1 v2 v3 h = some Z from hf)
set_option maxRecDepth 20000 in
theorem e_X7_leastNext {g : GT} {Z : Int × MM} {n : Nat} (C : Cx g cX7_leastNext 5 yX7_leastNext 3 69) (hr : Rt g (some .int) 0 Z) {v0 v1 v2 : Int} (cv0 : cK 2 v0) (cv1 : cK 2 v1) (cv2 : cK 0 v2) {h : MM} (hf : f_X7_leastNext n v0 v1 v2 h = some Z) : G g 0 [(2, v0), (2, v1), (0, v2), (3, 0), (3, 0)] [] h := by
  have cv2 : in32 v2 := cv2
  unfold f_X7_leastNext at hf
  refine r_iconst C dX7_leastNext_0 ?_
  refine r_istore_n C dX7_leastNext_1 (Nat.le_of_ble_eq_true rfl) rfl ?_
  exact G.mask [true, true, true, true, false] rfl rfl (l_X7_leastNext_2 C hr  cv2 _ _ _ (in32_of rfl) hf)
set_option maxRecDepth 20000 in
theorem am_X7_leastNext (l : Launch) (n : Nat) : AM l yX7_leastNext cX7_leastNext 5 (some .int) 3 69 [2, 2, 0] 0 (un3 (f_X7_leastNext n)) := by
  refine AM.intro (by decide) (fun xs hx => ?_) (fun g xs h Z hl C hr hx hf => ?_)
  · obtain ⟨a0, a1, a2, rfl, c0, c1, c2⟩ := canL_3 hx
    exact Nat.le_of_ble_eq_true rfl
  · obtain ⟨a0, a1, a2, rfl, c0, c1, c2⟩ := canL_3 hx
    have hf := (un3_e _ a0 a1 a2 _).symm.trans hf
    exact e_X7_leastNext (n := n) C hr c0 c1 c2 hf
/-! LinesPromised$Roads.walk(LLinesPromised$Land;)V -/
theorem dX7_walk_0 : decode cX7_walk 0 = .ok (.aload_n 0, 1) := by decide +kernel
theorem dX7_walk_1 : decode cX7_walk 1 = .ok (.getfield 9, 3) := by decide +kernel
theorem dX7_walk_4 : decode cX7_walk 4 = .ok (.iconst 0, 1) := by decide +kernel
theorem dX7_walk_5 : decode cX7_walk 5 = .ok (.aload_n 0, 1) := by decide +kernel
theorem dX7_walk_6 : decode cX7_walk 6 = .ok (.getfield 33, 3) := by decide +kernel
theorem dX7_walk_9 : decode cX7_walk 9 = .ok (.iastore, 1) := by decide +kernel
theorem dX7_walk_10 : decode cX7_walk 10 = .ok (.aload_n 0, 1) := by decide +kernel
theorem dX7_walk_11 : decode cX7_walk 11 = .ok (.iconst 1, 1) := by decide +kernel
theorem dX7_walk_12 : decode cX7_walk 12 = .ok (.putfield 97, 3) := by decide +kernel
theorem dX7_walk_15 : decode cX7_walk 15 = .ok (.iconst 1, 1) := by decide +kernel
theorem dX7_walk_16 : decode cX7_walk 16 = .ok (.istore_n 2, 1) := by decide +kernel
theorem dX7_walk_17 : decode cX7_walk 17 = .ok (.iload_n 2, 1) := by decide +kernel
theorem dX7_walk_18 : decode cX7_walk 18 = .ok (.bipush 80, 2) := by decide +kernel
theorem dX7_walk_20 : decode cX7_walk 20 = .ok (.if_icmp .ge 58, 3) := by decide +kernel
theorem dX7_walk_23 : decode cX7_walk 23 = .ok (.aload_n 0, 1) := by decide +kernel
theorem dX7_walk_24 : decode cX7_walk 24 = .ok (.getfield 9, 3) := by decide +kernel
theorem dX7_walk_27 : decode cX7_walk 27 = .ok (.iload_n 2, 1) := by decide +kernel
theorem dX7_walk_28 : decode cX7_walk 28 = .ok (.iconst 1, 1) := by decide +kernel
theorem dX7_walk_29 : decode cX7_walk 29 = .ok (.isub, 1) := by decide +kernel
theorem dX7_walk_30 : decode cX7_walk 30 = .ok (.iaload, 1) := by decide +kernel
theorem dX7_walk_31 : decode cX7_walk 31 = .ok (.aload_n 0, 1) := by decide +kernel
theorem dX7_walk_32 : decode cX7_walk 32 = .ok (.getfield 37, 3) := by decide +kernel
theorem dX7_walk_35 : decode cX7_walk 35 = .ok (.if_icmp .eq 43, 3) := by decide +kernel
theorem dX7_walk_38 : decode cX7_walk 38 = .ok (.aload_n 0, 1) := by decide +kernel
theorem dX7_walk_39 : decode cX7_walk 39 = .ok (.aload_n 1, 1) := by decide +kernel
theorem dX7_walk_40 : decode cX7_walk 40 = .ok (.aload_n 0, 1) := by decide +kernel
theorem dX7_walk_41 : decode cX7_walk 41 = .ok (.getfield 9, 3) := by decide +kernel
theorem dX7_walk_44 : decode cX7_walk 44 = .ok (.iload_n 2, 1) := by decide +kernel
theorem dX7_walk_45 : decode cX7_walk 45 = .ok (.iconst 1, 1) := by decide +kernel
theorem dX7_walk_46 : decode cX7_walk 46 = .ok (.isub, 1) := by decide +kernel
theorem dX7_walk_47 : decode cX7_walk 47 = .ok (.iaload, 1) := by decide +kernel
theorem dX7_walk_48 : decode cX7_walk 48 = .ok (.invokevirtual 100, 3) := by decide +kernel
theorem dX7_walk_51 : decode cX7_walk 51 = .ok (.istore_n 3, 1) := by decide +kernel
theorem dX7_walk_52 : decode cX7_walk 52 = .ok (.iload_n 3, 1) := by decide +kernel
theorem dX7_walk_53 : decode cX7_walk 53 = .ok (.iconst (-1), 1) := by decide +kernel
theorem dX7_walk_54 : decode cX7_walk 54 = .ok (.if_icmp .ne 4, 3) := by decide +kernel
theorem dX7_walk_57 : decode cX7_walk 57 = .ok (.return_, 1) := by decide +kernel
theorem dX7_walk_58 : decode cX7_walk 58 = .ok (.aload_n 0, 1) := by decide +kernel
theorem dX7_walk_59 : decode cX7_walk 59 = .ok (.getfield 9, 3) := by decide +kernel
theorem dX7_walk_62 : decode cX7_walk 62 = .ok (.iload_n 2, 1) := by decide +kernel
theorem dX7_walk_63 : decode cX7_walk 63 = .ok (.iload_n 3, 1) := by decide +kernel
theorem dX7_walk_64 : decode cX7_walk 64 = .ok (.iastore, 1) := by decide +kernel
theorem dX7_walk_65 : decode cX7_walk 65 = .ok (.aload_n 0, 1) := by decide +kernel
theorem dX7_walk_66 : decode cX7_walk 66 = .ok (.iload_n 2, 1) := by decide +kernel
theorem dX7_walk_67 : decode cX7_walk 67 = .ok (.iconst 1, 1) := by decide +kernel
theorem dX7_walk_68 : decode cX7_walk 68 = .ok (.iadd, 1) := by decide +kernel
theorem dX7_walk_69 : decode cX7_walk 69 = .ok (.putfield 97, 3) := by decide +kernel
theorem dX7_walk_72 : decode cX7_walk 72 = .ok (.iinc 2 1, 3) := by decide +kernel
theorem dX7_walk_75 : decode cX7_walk 75 = .ok (.goto (-58), 3) := by decide +kernel
theorem dX7_walk_78 : decode cX7_walk 78 = .ok (.return_, 1) := by decide +kernel
theorem cm_X7_walk : CM yX7_walk cX7_walk 4 none 1 7 := ⟨w_931, w_16, w_932, w_94, ⟨by decide +kernel, by decide +kernel, by decide +kernel⟩, ⟨_, _, rfl⟩, by decide⟩
noncomputable def f_X7_walk_78 (n : Nat)  (h : MM) : RR :=
  some (0, h)
noncomputable def f_X7_walk_17b (n : Nat) (rec17 : Int → MM → RR) (v0 v1 v2 : Int) (h : MM) : RR :=
  if 80 ≤ v2 then
    f_X7_walk_78 n h
  else
  gf h v0 7 0 fun r2 =>
  rd h r2 100 (wr (v2 - 1)) fun r3 =>
  gf h v0 7 6 fun r4 =>
  if r3 = r4 then
    f_X7_walk_78 n h
  else
  gf h v0 7 0 fun r6 =>
  rd h r6 100 (wr (v2 - 1)) fun r7 =>
  gk h v0 7 <|
  bd (f_X7_leastNext n v0 v1 r7 h) fun r8 h8 =>
  if r8 = (-1) then
    some (0, h8)
  else
  gf h8 v0 7 0 fun r10 =>
  wt h8 r10 100 v2 r8 fun h11 =>
  pf h11 v0 7 1 (wr (v2 + 1)) fun h12 =>
  lb (wr (v2 + 1)) fun x13 =>
  rec17 x13 h12
noncomputable def f_X7_walk_17 (n : Nat)  (v0 v1 : Int) : Nat → Int → MM → RR
  | 0, _, _ => none
  | k + 1, v2, h => f_X7_walk_17b n  (f_X7_walk_17 n  v0 v1 k) v0 v1 v2 h
noncomputable def f_X7_walk (n : Nat) (v0 v1 : Int) (h : MM) : RR :=
  gf h v0 7 0 fun r1 =>
  gf h v0 7 5 fun r2 =>
  wt h r1 100 0 r2 fun h3 =>
  pf h3 v0 7 1 1 fun h4 =>
  f_X7_walk_17 n v0 v1 n 1 h4
set_option maxRecDepth 20000 in
theorem b_X7_walk_78 {g : GT} {Z : Int × MM} {n : Nat} (C : Cx g cX7_walk 4 yX7_walk 4 93) (hr : Rt g none 3 Z)     {h : MM} (hf : f_X7_walk_78 n   h = some Z) : G g 78 [(3, 0), (3, 0), (3, 0), (3, 0)] [] h := by
  unfold f_X7_walk_78 at hf
  cases hf
  exact r_vret C hr dX7_walk_78
set_option maxRecDepth 20000 in
theorem b_X7_walk_17b {g : GT} {Z : Int × MM} {n : Nat} (C : Cx g cX7_walk 4 yX7_walk 4 93) (hr : Rt g none 3 Z) {v0 v1 v2 : Int}  {rec17 : Int → MM → RR} (L17 : ∀ (u2 : Int) (h : MM), in32 u2 → rec17 u2 h = some Z → G g 17 [(2, v0), (2, v1), (0, u2), (3, 0)] [] h) (cv2 : in32 v2) {h : MM} (hf : f_X7_walk_17b n rec17 v0 v1 v2 h = some Z) : G g 17 [(2, v0), (2, v1), (0, v2), (3, 0)] [] h := by
  unfold f_X7_walk_17b at hf
  refine r_iload_n C dX7_walk_17 rfl ?_
  refine r_bipush C dX7_walk_18 rfl ?_
  refine r_icmp_ge C dX7_walk_20 (tgt := 78) (by decide) cv2 (in32_of rfl) (fun n1 => ?_) (fun n1 => ?_)
  · have hf := ite_p n1 hf
    exact G.mask [false, false, false, false] rfl rfl (b_X7_walk_78 C hr   hf)
  · have hf := ite_n n1 hf
    refine r_aload_n C dX7_walk_23 rfl ?_
    obtain ⟨q2, hf⟩ := gf_s hf
    refine r_gf C ct7 (j := 0) (ji := 0) dX7_walk_24 q2 rfl rfl (by decide) w_351 rfl (fun c2 => ?_)
    refine r_iload_n C dX7_walk_27 rfl ?_
    refine r_iconst C dX7_walk_28 ?_
    refine r_isub C dX7_walk_29 ?_
    obtain ⟨q3, hf⟩ := rd_s hf
    refine r_iald C dX7_walk_30 q3 rfl (fun c3 => ?_)
    refine r_aload_n C dX7_walk_31 rfl ?_
    obtain ⟨q4, hf⟩ := gf_s hf
    refine r_gf C ct7 (j := 6) (ji := 6) dX7_walk_32 q4 rfl rfl (by decide) w_360 rfl (fun c4 => ?_)
    have c4 : in32 _ := c4
    refine r_icmp_eq C dX7_walk_35 (tgt := 78) (by decide) c3 c4 (fun n5 => ?_) (fun n5 => ?_)
    · have hf := ite_p n5 hf
      exact G.mask [false, false, false, false] rfl rfl (b_X7_walk_78 C hr   hf)
    · have hf := ite_n n5 hf
      refine r_aload_n C dX7_walk_38 rfl ?_
      refine r_aload_n C dX7_walk_39 rfl ?_
      refine r_aload_n C dX7_walk_40 rfl ?_
      obtain ⟨q6, hf⟩ := gf_s hf
      refine r_gf C ct7 (j := 0) (ji := 0) dX7_walk_41 q6 rfl rfl (by decide) w_351 rfl (fun c6 => ?_)
      refine r_iload_n C dX7_walk_44 rfl ?_
      refine r_iconst C dX7_walk_45 ?_
      refine r_isub C dX7_walk_46 ?_
      obtain ⟨q7, hf⟩ := rd_s hf
      refine r_iald C dX7_walk_47 q7 rfl (fun c7 => ?_)
      obtain ⟨p8, hf⟩ := gk_s hf
      obtain ⟨r8, h8, hq8, hf⟩ := bd_s hf
      refine r_cV2 C (am_X7_leastNext (gl g) n) cm_X7_leastNext w_933 dX7_walk_48 ⟨Nat.le_of_ble_eq_true rfl, Nat.le_of_ble_eq_true rfl⟩ p8 rfl trivial c7 rfl (Nat.le_of_ble_eq_true rfl) hq8 (by decide) (fun c8 => ?_)
      have c8 : in32 _ := c8
      refine r_istore_n C dX7_walk_51 (Nat.le_of_ble_eq_true rfl) rfl ?_
      refine r_iload_n C dX7_walk_52 rfl ?_
      refine r_iconst C dX7_walk_53 ?_
      refine r_icmp_ne C dX7_walk_54 (tgt := 58) (by decide) c8 (in32_of rfl) (fun n9 => ?_) (fun n9 => ?_)
      · have hf := ite_n n9 hf
        refine r_aload_n C dX7_walk_58 rfl ?_
        obtain ⟨q10, hf⟩ := gf_s hf
        refine r_gf C ct7 (j := 0) (ji := 0) dX7_walk_59 q10 rfl rfl (by decide) w_351 rfl (fun c10 => ?_)
        refine r_iload_n C dX7_walk_62 rfl ?_
        refine r_iload_n C dX7_walk_63 rfl ?_
        obtain ⟨q11, hf⟩ := wt_s hf
        refine r_iast C dX7_walk_64 q11 rfl c8 ?_
        refine r_aload_n C dX7_walk_65 rfl ?_
        refine r_iload_n C dX7_walk_66 rfl ?_
        refine r_iconst C dX7_walk_67 ?_
        refine r_iadd C dX7_walk_68 ?_
        obtain ⟨q12, hf⟩ := pf_s hf
        refine r_pf C ct7 (j := 1) (ji := 1) dX7_walk_69 q12 rfl rfl (by decide) w_353 rfl (Or.inl rfl) nar_int (in32_t _) ?_
        obtain ⟨x13, e13, hf⟩ := lb_s hf
        have c13 : in32 x13 := by rw [e13]; exact (in32_t _)
        refine r_iincL C dX7_walk_72 rfl e13 (Nat.le_of_ble_eq_true rfl) rfl ?_
        refine r_goto C dX7_walk_75 (tgt := 17) (by decide) ?_
        exact G.mask [true, true, true, false] rfl rfl (L17 _ _ c13 hf)
      · have hf := ite_p n9 hf
        cases hf
        exact r_vret C hr dX7_walk_57
set_option maxRecDepth 20000 in
theorem l_X7_walk_17 {g : GT} {Z : Int × MM} {n : Nat} (C : Cx g cX7_walk 4 yX7_walk 4 93) (hr : Rt g none 3 Z) {v0 v1 : Int}    : ∀ (k : Nat) (v2 : Int) (h : MM), in32 v2 → f_X7_walk_17 n  v0 v1 k v2 h = some Z → G g 17 [(2, v0), (2, v1), (0, v2), (3, 0)] [] h := by
  intro k
  induction k with
  | zero => intro v2 h cv2 hf; exact absurd hf (by intro z; cases z)
  | succ k ih => intro v2 h cv2 hf; exact b_X7_walk_17b C hr (rec17 := f_X7_walk_17 n  v0 v1 k)  ih cv2 (show f_X7_walk_17b n  (f_X7_walk_17 n  v0 v1 k) v0 v1 v2 h = some Z from hf)
set_option maxRecDepth 20000 in
theorem e_X7_walk {g : GT} {Z : Int × MM} {n : Nat} (C : Cx g cX7_walk 4 yX7_walk 4 93) (hr : Rt g none 3 Z) {v0 v1 : Int} (cv0 : cK 2 v0) (cv1 : cK 2 v1) {h : MM} (hf : f_X7_walk n v0 v1 h = some Z) : G g 0 [(2, v0), (2, v1), (3, 0), (3, 0)] [] h := by
  unfold f_X7_walk at hf
  refine r_aload_n C dX7_walk_0 rfl ?_
  obtain ⟨q1, hf⟩ := gf_s hf
  refine r_gf C ct7 (j := 0) (ji := 0) dX7_walk_1 q1 rfl rfl (by decide) w_351 rfl (fun c1 => ?_)
  refine r_iconst C dX7_walk_4 ?_
  refine r_aload_n C dX7_walk_5 rfl ?_
  obtain ⟨q2, hf⟩ := gf_s hf
  refine r_gf C ct7 (j := 5) (ji := 5) dX7_walk_6 q2 rfl rfl (by decide) w_359 rfl (fun c2 => ?_)
  have c2 : in32 _ := c2
  obtain ⟨q3, hf⟩ := wt_s hf
  refine r_iast C dX7_walk_9 q3 rfl c2 ?_
  refine r_aload_n C dX7_walk_10 rfl ?_
  refine r_iconst C dX7_walk_11 ?_
  obtain ⟨q4, hf⟩ := pf_s hf
  refine r_pf C ct7 (j := 1) (ji := 1) dX7_walk_12 q4 rfl rfl (by decide) w_353 rfl (Or.inl rfl) nar_int (in32_of rfl) ?_
  refine r_iconst C dX7_walk_15 ?_
  refine r_istore_n C dX7_walk_16 (Nat.le_of_ble_eq_true rfl) rfl ?_
  exact G.mask [true, true, true, false] rfl rfl (l_X7_walk_17 C hr   _ _ _ (in32_of rfl) hf)
set_option maxRecDepth 20000 in
theorem am_X7_walk (l : Launch) (n : Nat) : AM l yX7_walk cX7_walk 4 none 4 93 [2, 2] 3 (un2 (f_X7_walk n)) := by
  refine AM.intro (by decide) (fun xs hx => ?_) (fun g xs h Z hl C hr hx hf => ?_)
  · obtain ⟨a0, a1, rfl, c0, c1⟩ := canL_2 hx
    exact Nat.le_of_ble_eq_true rfl
  · obtain ⟨a0, a1, rfl, c0, c1⟩ := canL_2 hx
    have hf := (un2_e _ a0 a1 _).symm.trans hf
    exact e_X7_walk (n := n) C hr c0 c1 hf
