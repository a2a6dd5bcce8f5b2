theorem w_659 : (Cond.code ⟨"LinesPromised$Order", "readNumber", "()I"⟩ prog_5_method_10_code 4 (some .int)) ∈ wG := wG_in 659 (by decide +kernel) (by decide +kernel)
theorem w_658 : (Cond.instanceMethod ⟨"LinesPromised$Order", "readNumber", "()I"⟩) ∈ wG := wG_in 658 (by decide +kernel) (by decide +kernel)
theorem w_8 : (Cond.selects "LinesPromised$Order" ⟨"LinesPromised$Order", "readNumber", "()I"⟩ ⟨"LinesPromised$Order", "readNumber", "()I"⟩) ∈ wG := wG_in 8 (by decide +kernel) (by decide +kernel)
theorem w_656 : (Cond.methodLink "LinesPromised$Order" 71 ⟨"LinesPromised$Order", "readNumber", "()I"⟩) ∈ wG := wG_in 656 (by decide +kernel) (by decide +kernel)
theorem w_641 : (Cond.methodLink "LinesPromised$Order" 97 ⟨"LinesPromised$Order", "peek", "()I"⟩) ∈ wG := wG_in 641 (by decide +kernel) (by decide +kernel)
theorem w_652 : (Cond.methodLink "LinesPromised$Order" 109 ⟨"LinesPromised$Order", "comparedGauge", "(I)I"⟩) ∈ wG := wG_in 652 (by decide +kernel) (by decide +kernel)
theorem w_649 : (Cond.methodLink "LinesPromised$Order" 106 ⟨"LinesPromised$Order", "factOf", "(I)I"⟩) ∈ wG := wG_in 649 (by decide +kernel) (by decide +kernel)
theorem w_648 : (Cond.code ⟨"LinesPromised$Order", "compared", "(I)I"⟩ prog_5_method_14_code 5 (some .int)) ∈ wG := wG_in 648 (by decide +kernel) (by decide +kernel)
theorem w_647 : (Cond.instanceMethod ⟨"LinesPromised$Order", "compared", "(I)I"⟩) ∈ wG := wG_in 647 (by decide +kernel) (by decide +kernel)
theorem w_6 : (Cond.selects "LinesPromised$Order" ⟨"LinesPromised$Order", "compared", "(I)I"⟩ ⟨"LinesPromised$Order", "compared", "(I)I"⟩) ∈ wG := wG_in 6 (by decide +kernel) (by decide +kernel)
theorem w_637 : (Cond.methodLink "LinesPromised$Order" 100 ⟨"LinesPromised$Order", "single", "(I)I"⟩) ∈ wG := wG_in 637 (by decide +kernel) (by decide +kernel)
theorem w_633 : (Cond.methodLink "LinesPromised$Order" 46 ⟨"LinesPromised$Order", "either", "(I)I"⟩) ∈ wG := wG_in 633 (by decide +kernel) (by decide +kernel)
theorem w_645 : (Cond.methodLink "LinesPromised$Order" 103 ⟨"LinesPromised$Order", "compared", "(I)I"⟩) ∈ wG := wG_in 645 (by decide +kernel) (by decide +kernel)
theorem w_636 : (Cond.code ⟨"LinesPromised$Order", "either", "(I)I"⟩ prog_5_method_11_code 7 (some .int)) ∈ wG := wG_in 636 (by decide +kernel) (by decide +kernel)
theorem w_635 : (Cond.instanceMethod ⟨"LinesPromised$Order", "either", "(I)I"⟩) ∈ wG := wG_in 635 (by decide +kernel) (by decide +kernel)
theorem w_3 : (Cond.selects "LinesPromised$Order" ⟨"LinesPromised$Order", "either", "(I)I"⟩ ⟨"LinesPromised$Order", "either", "(I)I"⟩) ∈ wG := wG_in 3 (by decide +kernel) (by decide +kernel)
theorem w_640 : (Cond.code ⟨"LinesPromised$Order", "single", "(I)I"⟩ prog_5_method_12_code 4 (some .int)) ∈ wG := wG_in 640 (by decide +kernel) (by decide +kernel)
theorem w_639 : (Cond.instanceMethod ⟨"LinesPromised$Order", "single", "(I)I"⟩) ∈ wG := wG_in 639 (by decide +kernel) (by decide +kernel)
theorem w_4 : (Cond.selects "LinesPromised$Order" ⟨"LinesPromised$Order", "single", "(I)I"⟩ ⟨"LinesPromised$Order", "single", "(I)I"⟩) ∈ wG := wG_in 4 (by decide +kernel) (by decide +kernel)
theorem w_663 : (Cond.code ⟨"LinesPromised$Order", "readYesOrNo", "()I"⟩ prog_5_method_9_code 2 (some .int)) ∈ wG := wG_in 663 (by decide +kernel) (by decide +kernel)
theorem w_662 : (Cond.instanceMethod ⟨"LinesPromised$Order", "readYesOrNo", "()I"⟩) ∈ wG := wG_in 662 (by decide +kernel) (by decide +kernel)
theorem w_9 : (Cond.selects "LinesPromised$Order" ⟨"LinesPromised$Order", "readYesOrNo", "()I"⟩ ⟨"LinesPromised$Order", "readYesOrNo", "()I"⟩) ∈ wG := wG_in 9 (by decide +kernel) (by decide +kernel)
theorem w_564 : (Cond.methodLink "LinesPromised$Order" 64 ⟨"LinesPromised$Order", "readWord", "()I"⟩) ∈ wG := wG_in 564 (by decide +kernel) (by decide +kernel)
theorem w_660 : (Cond.methodLink "LinesPromised$Order" 68 ⟨"LinesPromised$Order", "readYesOrNo", "()I"⟩) ∈ wG := wG_in 660 (by decide +kernel) (by decide +kernel)
theorem w_563 : (Cond.code ⟨"LinesPromised$Order", "readClause", "(I)Z"⟩ prog_5_method_6_code 5 (some .boolean)) ∈ wG := wG_in 563 (by decide +kernel) (by decide +kernel)
theorem w_562 : (Cond.instanceMethod ⟨"LinesPromised$Order", "readClause", "(I)Z"⟩) ∈ wG := wG_in 562 (by decide +kernel) (by decide +kernel)
theorem w_0 : (Cond.selects "LinesPromised$Order" ⟨"LinesPromised$Order", "readClause", "(I)Z"⟩ ⟨"LinesPromised$Order", "readClause", "(I)Z"⟩) ∈ wG := wG_in 0 (by decide +kernel) (by decide +kernel)
theorem w_560 : (Cond.methodLink "LinesPromised$Order" 42 ⟨"LinesPromised$Order", "readClause", "(I)Z"⟩) ∈ wG := wG_in 560 (by decide +kernel) (by decide +kernel)
theorem w_559 : (Cond.code ⟨"LinesPromised$Order", "faultOf", "()I"⟩ prog_5_method_2_code 2 (some .int)) ∈ wG := wG_in 559 (by decide +kernel) (by decide +kernel)
theorem w_557 : (Cond.instanceMethod ⟨"LinesPromised$Order", "faultOf", "()I"⟩) ∈ wG := wG_in 557 (by decide +kernel) (by decide +kernel)
theorem w_558 : (Cond.selects "LinesPromised$Order" ⟨"LinesPromised$Order", "faultOf", "()I"⟩ ⟨"LinesPromised$Order", "faultOf", "()I"⟩) ∈ wG := wG_in 558 (by decide +kernel) (by decide +kernel)
theorem w_314 : (Cond.fieldLink "LinesPromised$World" 82 "LinesPromised$World" "ordered" "I") ∈ wG := wG_in 314 (by decide +kernel) (by decide +kernel)
theorem w_667 : (Cond.code ⟨"LinesPromised$World", "enforce", "(LLinesPromised$Order;)I"⟩ prog_12_method_4_code 2 (some .int)) ∈ wG := wG_in 667 (by decide +kernel) (by decide +kernel)
theorem w_665 : (Cond.instanceMethod ⟨"LinesPromised$World", "enforce", "(LLinesPromised$Order;)I"⟩) ∈ wG := wG_in 665 (by decide +kernel) (by decide +kernel)
theorem w_666 : (Cond.selects "LinesPromised$World" ⟨"LinesPromised$World", "enforce", "(LLinesPromised$Order;)I"⟩ ⟨"LinesPromised$World", "enforce", "(LLinesPromised$Order;)I"⟩) ∈ wG := wG_in 666 (by decide +kernel) (by decide +kernel)
theorem w_501 : (Cond.methodLink "LinesPromised" 97 ⟨"LinesPromised", "isDay", "(I)Z"⟩) ∈ wG := wG_in 501 (by decide +kernel) (by decide +kernel)
theorem w_315 : (Cond.fieldLink "LinesPromised" 100 "LinesPromised$World" "ordered" "I") ∈ wG := wG_in 315 (by decide +kernel) (by decide +kernel)
theorem w_504 : (Cond.methodLink "LinesPromised" 103 ⟨"LinesPromised$World", "takeTape", "(I)LLinesPromised$Order;"⟩) ∈ wG := wG_in 504 (by decide +kernel) (by decide +kernel)
theorem w_556 : (Cond.methodLink "LinesPromised" 107 ⟨"LinesPromised$Order", "faultOf", "()I"⟩) ∈ wG := wG_in 556 (by decide +kernel) (by decide +kernel)
theorem w_664 : (Cond.methodLink "LinesPromised" 113 ⟨"LinesPromised$World", "enforce", "(LLinesPromised$Order;)I"⟩) ∈ wG := wG_in 664 (by decide +kernel) (by decide +kernel)
theorem w_500 : (Cond.code ⟨"LinesPromised", "text", "(I)I"⟩ prog_1_method_7_code 4 (some .int)) ∈ wG := wG_in 500 (by decide +kernel) (by decide +kernel)
theorem w_498 : (Cond.instanceMethod ⟨"LinesPromised", "text", "(I)I"⟩) ∈ wG := wG_in 498 (by decide +kernel) (by decide +kernel)
theorem w_499 : (Cond.selects "LinesPromised" ⟨"LinesPromised", "text", "(I)I"⟩ ⟨"LinesPromised", "text", "(I)I"⟩) ∈ wG := wG_in 499 (by decide +kernel) (by decide +kernel)
theorem w_538 : (Cond.fieldLink "LinesPromised$World" 94 "LinesPromised$Order" "place" "[I") ∈ wG := wG_in 538 (by decide +kernel) (by decide +kernel)
theorem w_533 : (Cond.fieldLink "LinesPromised$World" 98 "LinesPromised$Order" "day" "I") ∈ wG := wG_in 533 (by decide +kernel) (by decide +kernel)
theorem w_679 : (Cond.code ⟨"LinesPromised$World", "ordering", "(II)I"⟩ prog_12_method_6_code 7 (some .int)) ∈ wG := wG_in 679 (by decide +kernel) (by decide +kernel)
theorem w_677 : (Cond.instanceMethod ⟨"LinesPromised$World", "ordering", "(II)I"⟩) ∈ wG := wG_in 677 (by decide +kernel) (by decide +kernel)
theorem w_678 : (Cond.selects "LinesPromised$World" ⟨"LinesPromised$World", "ordering", "(II)I"⟩ ⟨"LinesPromised$World", "ordering", "(II)I"⟩) ∈ wG := wG_in 678 (by decide +kernel) (by decide +kernel)
theorem w_676 : (Cond.methodLink "LinesPromised$World" 101 ⟨"LinesPromised$World", "ordering", "(II)I"⟩) ∈ wG := wG_in 676 (by decide +kernel) (by decide +kernel)
theorem w_675 : (Cond.code ⟨"LinesPromised$World", "ruling", "(II)LLinesPromised$Order;"⟩ prog_12_method_7_code 4 (some (.object "LinesPromised$Order"))) ∈ wG := wG_in 675 (by decide +kernel) (by decide +kernel)
theorem w_673 : (Cond.instanceMethod ⟨"LinesPromised$World", "ruling", "(II)LLinesPromised$Order;"⟩) ∈ wG := wG_in 673 (by decide +kernel) (by decide +kernel)
theorem w_674 : (Cond.selects "LinesPromised$World" ⟨"LinesPromised$World", "ruling", "(II)LLinesPromised$Order;"⟩ ⟨"LinesPromised$World", "ruling", "(II)LLinesPromised$Order;"⟩) ∈ wG := wG_in 674 (by decide +kernel) (by decide +kernel)
theorem w_684 : (Cond.methodLink "LinesPromised$World" 105 ⟨"LinesPromised$World", "ruling", "(II)LLinesPromised$Order;"⟩) ∈ wG := wG_in 684 (by decide +kernel) (by decide +kernel)
theorem w_536 : (Cond.fieldLink "LinesPromised$World" 112 "LinesPromised$Order" "number" "[I") ∈ wG := wG_in 536 (by decide +kernel) (by decide +kernel)
theorem w_683 : (Cond.code ⟨"LinesPromised$World", "ruleOf", "(II)I"⟩ prog_12_method_8_code 4 (some .int)) ∈ wG := wG_in 683 (by decide +kernel) (by decide +kernel)
theorem w_681 : (Cond.instanceMethod ⟨"LinesPromised$World", "ruleOf", "(II)I"⟩) ∈ wG := wG_in 681 (by decide +kernel) (by decide +kernel)
theorem w_682 : (Cond.selects "LinesPromised$World" ⟨"LinesPromised$World", "ruleOf", "(II)I"⟩ ⟨"LinesPromised$World", "ruleOf", "(II)I"⟩) ∈ wG := wG_in 682 (by decide +kernel) (by decide +kernel)
theorem w_680 : (Cond.methodLink "LinesPromised" 121 ⟨"LinesPromised$World", "ruleOf", "(II)I"⟩) ∈ wG := wG_in 680 (by decide +kernel) (by decide +kernel)
theorem w_672 : (Cond.methodLink "LinesPromised" 117 ⟨"LinesPromised$World", "ruling", "(II)LLinesPromised$Order;"⟩) ∈ wG := wG_in 672 (by decide +kernel) (by decide +kernel)
theorem w_671 : (Cond.code ⟨"LinesPromised", "force", "(II)I"⟩ prog_1_method_8_code 3 (some .int)) ∈ wG := wG_in 671 (by decide +kernel) (by decide +kernel)
theorem w_669 : (Cond.instanceMethod ⟨"LinesPromised", "force", "(II)I"⟩) ∈ wG := wG_in 669 (by decide +kernel) (by decide +kernel)
theorem w_670 : (Cond.selects "LinesPromised" ⟨"LinesPromised", "force", "(II)I"⟩ ⟨"LinesPromised", "force", "(II)I"⟩) ∈ wG := wG_in 670 (by decide +kernel) (by decide +kernel)
theorem w_691 : (Cond.methodLink "LinesPromised" 124 ⟨"LinesPromised$World", "ordering", "(II)I"⟩) ∈ wG := wG_in 691 (by decide +kernel) (by decide +kernel)
theorem w_539 : (Cond.fieldLink "LinesPromised" 127 "LinesPromised$Order" "place" "[I") ∈ wG := wG_in 539 (by decide +kernel) (by decide +kernel)
theorem w_690 : (Cond.code ⟨"LinesPromised", "why", "(II)I"⟩ prog_1_method_9_code 5 (some .int)) ∈ wG := wG_in 690 (by decide +kernel) (by decide +kernel)
theorem w_688 : (Cond.instanceMethod ⟨"LinesPromised", "why", "(II)I"⟩) ∈ wG := wG_in 688 (by decide +kernel) (by decide +kernel)
theorem w_689 : (Cond.selects "LinesPromised" ⟨"LinesPromised", "why", "(II)I"⟩ ⟨"LinesPromised", "why", "(II)I"⟩) ∈ wG := wG_in 689 (by decide +kernel) (by decide +kernel)
theorem w_699 : (Cond.code ⟨"LinesPromised", "isTown", "(I)Z"⟩ prog_1_method_55_code 2 (some .boolean)) ∈ wG := wG_in 699 (by decide +kernel) (by decide +kernel)
theorem w_698 : (Cond.instanceMethod ⟨"LinesPromised", "isTown", "(I)Z"⟩) ∈ wG := wG_in 698 (by decide +kernel) (by decide +kernel)
theorem w_10 : (Cond.selects "LinesPromised" ⟨"LinesPromised", "isTown", "(I)Z"⟩ ⟨"LinesPromised", "isTown", "(I)Z"⟩) ∈ wG := wG_in 10 (by decide +kernel) (by decide +kernel)
theorem w_177 : (Cond.fieldLink "LinesPromised$Papers" 44 "LinesPromised$Papers" "size" "I") ∈ wG := wG_in 177 (by decide +kernel) (by decide +kernel)
theorem w_703 : (Cond.code ⟨"LinesPromised$Papers", "isFull", "()Z"⟩ prog_7_method_3_code 1 (some .boolean)) ∈ wG := wG_in 703 (by decide +kernel) (by decide +kernel)
theorem w_701 : (Cond.instanceMethod ⟨"LinesPromised$Papers", "isFull", "()Z"⟩) ∈ wG := wG_in 701 (by decide +kernel) (by decide +kernel)
theorem w_702 : (Cond.selects "LinesPromised$Papers" ⟨"LinesPromised$Papers", "isFull", "()Z"⟩ ⟨"LinesPromised$Papers", "isFull", "()Z"⟩) ∈ wG := wG_in 702 (by decide +kernel) (by decide +kernel)
theorem w_711 : (Cond.methodLink "LinesPromised$Paper" 3 ⟨"java/lang/Object", "<init>", "()V"⟩) ∈ wG := wG_in 711 (by decide +kernel) (by decide +kernel)
theorem w_730 : (Cond.fieldLink "LinesPromised$Paper" 9 "LinesPromised$Paper" "first" "I") ∈ wG := wG_in 730 (by decide +kernel) (by decide +kernel)
theorem w_736 : (Cond.fieldLink "LinesPromised$Paper" 15 "LinesPromised$Paper" "second" "I") ∈ wG := wG_in 736 (by decide +kernel) (by decide +kernel)
theorem w_741 : (Cond.fieldLink "LinesPromised$Paper" 18 "LinesPromised$Paper" "gauge" "I") ∈ wG := wG_in 741 (by decide +kernel) (by decide +kernel)
theorem w_746 : (Cond.fieldLink "LinesPromised$Paper" 21 "LinesPromised$Paper" "sum" "I") ∈ wG := wG_in 746 (by decide +kernel) (by decide +kernel)
theorem w_750 : (Cond.fieldLink "LinesPromised$Paper" 24 "LinesPromised$Paper" "slot" "I") ∈ wG := wG_in 750 (by decide +kernel) (by decide +kernel)
theorem w_755 : (Cond.fieldLink "LinesPromised$Paper" 27 "LinesPromised$Paper" "torn" "I") ∈ wG := wG_in 755 (by decide +kernel) (by decide +kernel)
theorem w_712 : (Cond.fieldLink "LinesPromised$Paper" 30 "LinesPromised$Paper" "kind" "I") ∈ wG := wG_in 712 (by decide +kernel) (by decide +kernel)
theorem w_716 : (Cond.fieldLink "LinesPromised$Paper" 33 "LinesPromised$Paper" "of" "I") ∈ wG := wG_in 716 (by decide +kernel) (by decide +kernel)
theorem w_720 : (Cond.fieldLink "LinesPromised$Paper" 36 "LinesPromised$Paper" "day" "I") ∈ wG := wG_in 720 (by decide +kernel) (by decide +kernel)
theorem w_723 : (Cond.fieldLink "LinesPromised$Paper" 39 "LinesPromised$Paper" "cells" "[I") ∈ wG := wG_in 723 (by decide +kernel) (by decide +kernel)
theorem w_727 : (Cond.fieldLink "LinesPromised$Paper" 43 "LinesPromised$Paper" "levels" "[I") ∈ wG := wG_in 727 (by decide +kernel) (by decide +kernel)
theorem w_710 : (Cond.code ⟨"LinesPromised$Paper", "<init>", "(III[I[I)V"⟩ prog_6_method_1_code 6 none) ∈ wG := wG_in 710 (by decide +kernel) (by decide +kernel)
theorem w_106 : (Cond.initialized "LinesPromised$Paper") ∈ wG := wG_in 106 (by decide +kernel) (by decide +kernel)
theorem w_709 : (Cond.instanceMethod ⟨"LinesPromised$Paper", "<init>", "(III[I[I)V"⟩) ∈ wG := wG_in 709 (by decide +kernel) (by decide +kernel)
theorem w_784 : (Cond.code ⟨"LinesPromised$Paper", "tell", "(IIII)V"⟩ prog_6_method_2_code 5 none) ∈ wG := wG_in 784 (by decide +kernel) (by decide +kernel)
theorem w_782 : (Cond.instanceMethod ⟨"LinesPromised$Paper", "tell", "(IIII)V"⟩) ∈ wG := wG_in 782 (by decide +kernel) (by decide +kernel)
theorem w_783 : (Cond.selects "LinesPromised$Paper" ⟨"LinesPromised$Paper", "tell", "(IIII)V"⟩ ⟨"LinesPromised$Paper", "tell", "(IIII)V"⟩) ∈ wG := wG_in 783 (by decide +kernel) (by decide +kernel)
theorem w_788 : (Cond.code ⟨"LinesPromised$Scrip", "begin", "(II)V"⟩ prog_10_method_3_code 4 none) ∈ wG := wG_in 788 (by decide +kernel) (by decide +kernel)
theorem w_786 : (Cond.instanceMethod ⟨"LinesPromised$Scrip", "begin", "(II)V"⟩) ∈ wG := wG_in 786 (by decide +kernel) (by decide +kernel)
theorem w_787 : (Cond.selects "LinesPromised$Scrip" ⟨"LinesPromised$Scrip", "begin", "(II)V"⟩ ⟨"LinesPromised$Scrip", "begin", "(II)V"⟩) ∈ wG := wG_in 787 (by decide +kernel) (by decide +kernel)
theorem w_793 : (Cond.methodLink "LinesPromised$Papers" 54 ⟨"LinesPromised$Papers", "isFull", "()Z"⟩) ∈ wG := wG_in 793 (by decide +kernel) (by decide +kernel)
theorem w_714 : (Cond.fieldLink "LinesPromised$Papers" 58 "LinesPromised$Paper" "kind" "I") ∈ wG := wG_in 714 (by decide +kernel) (by decide +kernel)
theorem w_182 : (Cond.fieldLink "LinesPromised$Papers" 48 "LinesPromised$Papers" "schemes" "I") ∈ wG := wG_in 182 (by decide +kernel) (by decide +kernel)
theorem w_792 : (Cond.code ⟨"LinesPromised$Papers", "file", "(LLinesPromised$Paper;)I"⟩ prog_7_method_4_code 3 (some .int)) ∈ wG := wG_in 792 (by decide +kernel) (by decide +kernel)
theorem w_790 : (Cond.instanceMethod ⟨"LinesPromised$Papers", "file", "(LLinesPromised$Paper;)I"⟩) ∈ wG := wG_in 790 (by decide +kernel) (by decide +kernel)
theorem w_791 : (Cond.selects "LinesPromised$Papers" ⟨"LinesPromised$Papers", "file", "(LLinesPromised$Paper;)I"⟩ ⟨"LinesPromised$Papers", "file", "(LLinesPromised$Paper;)I"⟩) ∈ wG := wG_in 791 (by decide +kernel) (by decide +kernel)
theorem w_696 : (Cond.methodLink "LinesPromised" 130 ⟨"LinesPromised", "isTown", "(I)Z"⟩) ∈ wG := wG_in 696 (by decide +kernel) (by decide +kernel)
theorem w_302 : (Cond.fieldLink "LinesPromised" 133 "LinesPromised$World" "papers" "LLinesPromised$Papers;") ∈ wG := wG_in 302 (by decide +kernel) (by decide +kernel)
theorem w_700 : (Cond.methodLink "LinesPromised" 137 ⟨"LinesPromised$Papers", "isFull", "()Z"⟩) ∈ wG := wG_in 700 (by decide +kernel) (by decide +kernel)
theorem w_183 : (Cond.fieldLink "LinesPromised" 143 "LinesPromised$Papers" "schemes" "I") ∈ wG := wG_in 183 (by decide +kernel) (by decide +kernel)
theorem w_704 : (Cond.classLink "LinesPromised" 146 "LinesPromised$Paper") ∈ wG := wG_in 704 (by decide +kernel) (by decide +kernel)
theorem w_705 : (Cond.instantiable "LinesPromised$Paper" 11) ∈ wG := wG_in 705 (by decide +kernel) (by decide +kernel)
theorem w_317 : (Cond.fieldLink "LinesPromised" 148 "LinesPromised$World" "today" "I") ∈ wG := wG_in 317 (by decide +kernel) (by decide +kernel)
theorem w_706 : (Cond.fieldLink "LinesPromised" 151 "LinesPromised" "NO_CELLS" "[I") ∈ wG := wG_in 706 (by decide +kernel) (by decide +kernel)
theorem w_708 : (Cond.methodLink "LinesPromised" 154 ⟨"LinesPromised$Paper", "<init>", "(III[I[I)V"⟩) ∈ wG := wG_in 708 (by decide +kernel) (by decide +kernel)
theorem w_781 : (Cond.methodLink "LinesPromised" 157 ⟨"LinesPromised$Paper", "tell", "(IIII)V"⟩) ∈ wG := wG_in 781 (by decide +kernel) (by decide +kernel)
theorem w_754 : (Cond.fieldLink "LinesPromised" 161 "LinesPromised$Paper" "slot" "I") ∈ wG := wG_in 754 (by decide +kernel) (by decide +kernel)
theorem w_785 : (Cond.methodLink "LinesPromised" 164 ⟨"LinesPromised$Scrip", "begin", "(II)V"⟩) ∈ wG := wG_in 785 (by decide +kernel) (by decide +kernel)
theorem w_789 : (Cond.methodLink "LinesPromised" 168 ⟨"LinesPromised$Papers", "file", "(LLinesPromised$Paper;)I"⟩) ∈ wG := wG_in 789 (by decide +kernel) (by decide +kernel)
theorem w_695 : (Cond.code ⟨"LinesPromised", "scheme", "(IIII)I"⟩ prog_1_method_10_code 6 (some .int)) ∈ wG := wG_in 695 (by decide +kernel) (by decide +kernel)
theorem w_693 : (Cond.instanceMethod ⟨"LinesPromised", "scheme", "(IIII)I"⟩) ∈ wG := wG_in 693 (by decide +kernel) (by decide +kernel)
theorem w_694 : (Cond.selects "LinesPromised" ⟨"LinesPromised", "scheme", "(IIII)I"⟩ ⟨"LinesPromised", "scheme", "(IIII)I"⟩) ∈ wG := wG_in 694 (by decide +kernel) (by decide +kernel)
theorem w_805 : (Cond.code ⟨"LinesPromised$Papers", "get", "(I)LLinesPromised$Paper;"⟩ prog_7_method_5_code 2 (some (.object "LinesPromised$Paper"))) ∈ wG := wG_in 805 (by decide +kernel) (by decide +kernel)
theorem w_803 : (Cond.instanceMethod ⟨"LinesPromised$Papers", "get", "(I)LLinesPromised$Paper;"⟩) ∈ wG := wG_in 803 (by decide +kernel) (by decide +kernel)
theorem w_804 : (Cond.selects "LinesPromised$Papers" ⟨"LinesPromised$Papers", "get", "(I)LLinesPromised$Paper;"⟩ ⟨"LinesPromised$Papers", "get", "(I)LLinesPromised$Paper;"⟩) ∈ wG := wG_in 804 (by decide +kernel) (by decide +kernel)
theorem w_802 : (Cond.methodLink "LinesPromised$Papers" 65 ⟨"LinesPromised$Papers", "get", "(I)LLinesPromised$Paper;"⟩) ∈ wG := wG_in 802 (by decide +kernel) (by decide +kernel)
theorem w_801 : (Cond.code ⟨"LinesPromised$Papers", "find", "(II)LLinesPromised$Paper;"⟩ prog_7_method_6_code 4 (some (.object "LinesPromised$Paper"))) ∈ wG := wG_in 801 (by decide +kernel) (by decide +kernel)
theorem w_799 : (Cond.instanceMethod ⟨"LinesPromised$Papers", "find", "(II)LLinesPromised$Paper;"⟩) ∈ wG := wG_in 799 (by decide +kernel) (by decide +kernel)
theorem w_800 : (Cond.selects "LinesPromised$Papers" ⟨"LinesPromised$Papers", "find", "(II)LLinesPromised$Paper;"⟩ ⟨"LinesPromised$Papers", "find", "(II)LLinesPromised$Paper;"⟩) ∈ wG := wG_in 800 (by decide +kernel) (by decide +kernel)
theorem w_809 : (Cond.code ⟨"LinesPromised", "isSheet", "(I)Z"⟩ prog_1_method_54_code 1 (some .boolean)) ∈ wG := wG_in 809 (by decide +kernel) (by decide +kernel)
theorem w_808 : (Cond.static ⟨"LinesPromised", "isSheet", "(I)Z"⟩) ∈ wG := wG_in 808 (by decide +kernel) (by decide +kernel)
theorem w_827 : (Cond.code ⟨"LinesPromised$Land", "beside", "(II)I"⟩ prog_3_method_5_code 2 (some .int)) ∈ wG := wG_in 827 (by decide +kernel) (by decide +kernel)
theorem w_826 : (Cond.static ⟨"LinesPromised$Land", "beside", "(II)I"⟩) ∈ wG := wG_in 826 (by decide +kernel) (by decide +kernel)
theorem w_825 : (Cond.methodLink "LinesPromised$Land" 37 ⟨"LinesPromised$Land", "beside", "(II)I"⟩) ∈ wG := wG_in 825 (by decide +kernel) (by decide +kernel)
theorem w_824 : (Cond.code ⟨"LinesPromised$Land", "areBeside", "(II)Z"⟩ prog_3_method_6_code 3 (some .boolean)) ∈ wG := wG_in 824 (by decide +kernel) (by decide +kernel)
theorem w_823 : (Cond.static ⟨"LinesPromised$Land", "areBeside", "(II)Z"⟩) ∈ wG := wG_in 823 (by decide +kernel) (by decide +kernel)
/-! LinesPromised$Order.readNumber()I -/
theorem dX3_readNumber_0 : decode cX3_readNumber 0 = .ok (.iconst (-1), 1) := by decide +kernel
theorem dX3_readNumber_1 : decode cX3_readNumber 1 = .ok (.istore_n 1, 1) := by decide +kernel
theorem dX3_readNumber_2 : decode cX3_readNumber 2 = .ok (.iconst 0, 1) := by decide +kernel
theorem dX3_readNumber_3 : decode cX3_readNumber 3 = .ok (.istore_n 2, 1) := by decide +kernel
theorem dX3_readNumber_4 : decode cX3_readNumber 4 = .ok (.iload_n 2, 1) := by decide +kernel
theorem dX3_readNumber_5 : decode cX3_readNumber 5 = .ok (.iconst 3, 1) := by decide +kernel
theorem dX3_readNumber_6 : decode cX3_readNumber 6 = .ok (.if_icmp .ge 76, 3) := by decide +kernel
theorem dX3_readNumber_9 : decode cX3_readNumber 9 = .ok (.iload_n 1, 1) := by decide +kernel
theorem dX3_readNumber_10 : decode cX3_readNumber 10 = .ok (.ifCond .eq 72, 3) := by decide +kernel
theorem dX3_readNumber_13 : decode cX3_readNumber 13 = .ok (.aload_n 0, 1) := by decide +kernel
theorem dX3_readNumber_14 : decode cX3_readNumber 14 = .ok (.getfield 39, 3) := by decide +kernel
theorem dX3_readNumber_17 : decode cX3_readNumber 17 = .ok (.aload_n 0, 1) := by decide +kernel
theorem dX3_readNumber_18 : decode cX3_readNumber 18 = .ok (.getfield 31, 3) := by decide +kernel
theorem dX3_readNumber_21 : decode cX3_readNumber 21 = .ok (.arraylength, 1) := by decide +kernel
theorem dX3_readNumber_22 : decode cX3_readNumber 22 = .ok (.if_icmp .ge 60, 3) := by decide +kernel
theorem dX3_readNumber_25 : decode cX3_readNumber 25 = .ok (.aload_n 0, 1) := by decide +kernel
theorem dX3_readNumber_26 : decode cX3_readNumber 26 = .ok (.getfield 31, 3) := by decide +kernel
theorem dX3_readNumber_29 : decode cX3_readNumber 29 = .ok (.aload_n 0, 1) := by decide +kernel
theorem dX3_readNumber_30 : decode cX3_readNumber 30 = .ok (.getfield 39, 3) := by decide +kernel
theorem dX3_readNumber_33 : decode cX3_readNumber 33 = .ok (.baload, 1) := by decide +kernel
theorem dX3_readNumber_34 : decode cX3_readNumber 34 = .ok (.bipush 48, 2) := by decide +kernel
theorem dX3_readNumber_36 : decode cX3_readNumber 36 = .ok (.isub, 1) := by decide +kernel
theorem dX3_readNumber_37 : decode cX3_readNumber 37 = .ok (.istore_n 3, 1) := by decide +kernel
theorem dX3_readNumber_38 : decode cX3_readNumber 38 = .ok (.iload_n 3, 1) := by decide +kernel
theorem dX3_readNumber_39 : decode cX3_readNumber 39 = .ok (.ifCond .lt 9, 3) := by decide +kernel
theorem dX3_readNumber_42 : decode cX3_readNumber 42 = .ok (.iload_n 3, 1) := by decide +kernel
theorem dX3_readNumber_43 : decode cX3_readNumber 43 = .ok (.bipush 9, 2) := by decide +kernel
theorem dX3_readNumber_45 : decode cX3_readNumber 45 = .ok (.if_icmp .le 5, 3) := by decide +kernel
theorem dX3_readNumber_48 : decode cX3_readNumber 48 = .ok (.iload_n 1, 1) := by decide +kernel
theorem dX3_readNumber_49 : decode cX3_readNumber 49 = .ok (.ireturn, 1) := by decide +kernel
theorem dX3_readNumber_50 : decode cX3_readNumber 50 = .ok (.iload_n 1, 1) := by decide +kernel
theorem dX3_readNumber_51 : decode cX3_readNumber 51 = .ok (.iconst (-1), 1) := by decide +kernel
theorem dX3_readNumber_52 : decode cX3_readNumber 52 = .ok (.if_icmp .ne 7, 3) := by decide +kernel
theorem dX3_readNumber_55 : decode cX3_readNumber 55 = .ok (.iload_n 3, 1) := by decide +kernel
theorem dX3_readNumber_56 : decode cX3_readNumber 56 = .ok (.goto 9, 3) := by decide +kernel
theorem dX3_readNumber_59 : decode cX3_readNumber 59 = .ok (.bipush 10, 2) := by decide +kernel
theorem dX3_readNumber_61 : decode cX3_readNumber 61 = .ok (.iload_n 1, 1) := by decide +kernel
theorem dX3_readNumber_62 : decode cX3_readNumber 62 = .ok (.imul, 1) := by decide +kernel
theorem dX3_readNumber_63 : decode cX3_readNumber 63 = .ok (.iload_n 3, 1) := by decide +kernel
theorem dX3_readNumber_64 : decode cX3_readNumber 64 = .ok (.iadd, 1) := by decide +kernel
theorem dX3_readNumber_65 : decode cX3_readNumber 65 = .ok (.istore_n 1, 1) := by decide +kernel
theorem dX3_readNumber_66 : decode cX3_readNumber 66 = .ok (.aload_n 0, 1) := by decide +kernel
theorem dX3_readNumber_67 : decode cX3_readNumber 67 = .ok (.dup, 1) := by decide +kernel
theorem dX3_readNumber_68 : decode cX3_readNumber 68 = .ok (.getfield 39, 3) := by decide +kernel
theorem dX3_readNumber_71 : decode cX3_readNumber 71 = .ok (.iconst 1, 1) := by decide +kernel
theorem dX3_readNumber_72 : decode cX3_readNumber 72 = .ok (.iadd, 1) := by decide +kernel
theorem dX3_readNumber_73 : decode cX3_readNumber 73 = .ok (.putfield 39, 3) := by decide +kernel
theorem dX3_readNumber_76 : decode cX3_readNumber 76 = .ok (.iinc 2 1, 3) := by decide +kernel
theorem dX3_readNumber_79 : decode cX3_readNumber 79 = .ok (.goto (-75), 3) := by decide +kernel
theorem dX3_readNumber_82 : decode cX3_readNumber 82 = .ok (.iload_n 1, 1) := by decide +kernel
theorem dX3_readNumber_83 : decode cX3_readNumber 83 = .ok (.ireturn, 1) := by decide +kernel
theorem cm_X3_readNumber : CM yX3_readNumber cX3_readNumber 4 (some .int) 0 3 := ⟨w_658, w_8, w_659, w_98, ⟨by decide +kernel, by decide +kernel, by decide +kernel⟩, ⟨_, _, rfl⟩, by decide⟩
noncomputable def f_X3_readNumber_82 (n : Nat)  (v1 : Int) (h : MM) : RR :=
  some (v1, h)
noncomputable def f_X3_readNumber_48 (n : Nat)  (v1 : Int) (h : MM) : RR :=
  some (v1, h)
noncomputable def f_X3_readNumber_65 (n : Nat) (rec4 : Int → Int → MM → RR) (v0 v2 s0 : Int) (h : MM) : RR :=
  gf h v0 3 5 fun r1 =>
  pf h v0 3 5 (wr (r1 + 1)) fun h2 =>
  lb (wr (v2 + 1)) fun x3 =>
  rec4 s0 x3 h2
noncomputable def f_X3_readNumber_4b (n : Nat) (rec4 : Int → Int → MM → RR) (v0 v1 v2 : Int) (h : MM) : RR :=
  if 3 ≤ v2 then
    f_X3_readNumber_82 n v1 h
  else
  if v1 = 0 then
    f_X3_readNumber_82 n v1 h
  else
  gf h v0 3 5 fun r3 =>
  gf h v0 3 1 fun r4 =>
  al h r4 102 fun r5 =>
  if r5 ≤ r3 then
    f_X3_readNumber_82 n v1 h
  else
  gf h v0 3 1 fun r7 =>
  gf h v0 3 5 fun r8 =>
  rd h r7 102 r8 fun r9 =>
  lb (wr (r9 - 48)) fun x10 =>
  if x10 < 0 then
    f_X3_readNumber_48 n v1 h
  else
  if x10 ≤ 9 then
    if v1 = (-1) then
      f_X3_readNumber_65 n rec4 v0 v2 x10 h
    else
    f_X3_readNumber_65 n rec4 v0 v2 (wr ((wr (10 * v1)) + x10)) h
  else
  f_X3_readNumber_48 n v1 h
noncomputable def f_X3_readNumber_4 (n : Nat)  (v0 : Int) : Nat → Int → Int → MM → RR
  | 0, _, _, _ => none
  | k + 1, v1, v2, h => f_X3_readNumber_4b n  (f_X3_readNumber_4 n  v0 k) v0 v1 v2 h
noncomputable def f_X3_readNumber (n : Nat) (v0 : Int) (h : MM) : RR :=
  f_X3_readNumber_4 n v0 n ((-1)) 0 h
set_option maxRecDepth 20000 in
theorem b_X3_readNumber_82 {g : GT} {Z : Int × MM} {n : Nat} (C : Cx g cX3_readNumber 4 yX3_readNumber 0 0) (hr : Rt g (some .int) 0 Z) {v1 : Int}    (cv1 : in32 v1) {h : MM} (hf : f_X3_readNumber_82 n  v1 h = some Z) : G g 82 [(3, 0), (0, v1), (3, 0), (3, 0)] [] h := by
  unfold f_X3_readNumber_82 at hf
  refine r_iload_n C dX3_readNumber_82 rfl ?_
  cases hf
  exact r_jret C hr dX3_readNumber_83 cv1
set_option maxRecDepth 20000 in
theorem b_X3_readNumber_48 {g : GT} {Z : Int × MM} {n : Nat} (C : Cx g cX3_readNumber 4 yX3_readNumber 0 0) (hr : Rt g (some .int) 0 Z) {v1 : Int}    (cv1 : in32 v1) {h : MM} (hf : f_X3_readNumber_48 n  v1 h = some Z) : G g 48 [(3, 0), (0, v1), (3, 0), (3, 0)] [] h := by
  unfold f_X3_readNumber_48 at hf
  refine r_iload_n C dX3_readNumber_48 rfl ?_
  cases hf
  exact r_jret C hr dX3_readNumber_49 cv1
set_option maxRecDepth 20000 in
theorem b_X3_readNumber_65 {g : GT} {Z : Int × MM} {n : Nat} (C : Cx g cX3_readNumber 4 yX3_readNumber 0 0) (hr : Rt g (some .int) 0 Z) {v0 v2 s0 : Int}  {rec4 : Int → Int → MM → RR} (L4 : ∀ (u1 u2 : Int) (h : MM), in32 u1 → in32 u2 → rec4 u1 u2 h = some Z → G g 4 [(2, v0), (0, u1), (0, u2), (3, 0)] [] h) (cv2 : in32 v2) (cs0 : in32 s0) {h : MM} (hf : f_X3_readNumber_65 n rec4 v0 v2 s0 h = some Z) : G g 65 [(2, v0), (3, 0), (0, v2), (3, 0)] [(0, s0)] h := by
  unfold f_X3_readNumber_65 at hf
  refine r_istore_n C dX3_readNumber_65 (Nat.le_of_ble_eq_true rfl) rfl ?_
  refine r_aload_n C dX3_readNumber_66 rfl ?_
  refine r_dup C dX3_readNumber_67 (by decide) ?_
  obtain ⟨q1, hf⟩ := gf_s hf
  refine r_gf C ct3 (j := 5) (ji := 5) dX3_readNumber_68 q1 rfl rfl (by decide) w_542 rfl (fun c1 => ?_)
  have c1 : in32 _ := c1
  refine r_iconst C dX3_readNumber_71 ?_
  refine r_iadd C dX3_readNumber_72 ?_
  obtain ⟨q2, hf⟩ := pf_s hf
  refine r_pf C ct3 (j := 5) (ji := 5) dX3_readNumber_73 q2 rfl rfl (by decide) w_542 rfl (Or.inl rfl) nar_int (in32_t _) ?_
  obtain ⟨x3, e3, hf⟩ := lb_s hf
  have c3 : in32 x3 := by rw [e3]; exact (in32_t _)
  refine r_iincL C dX3_readNumber_76 rfl e3 (Nat.le_of_ble_eq_true rfl) rfl ?_
  refine r_goto C dX3_readNumber_79 (tgt := 4) (by decide) ?_
  exact G.mask [true, true, true, false] rfl rfl (L4 _ _ _ cs0 c3 hf)
set_option maxRecDepth 20000 in
theorem b_X3_readNumber_4b {g : GT} {Z : Int × MM} {n : Nat} (C : Cx g cX3_readNumber 4 yX3_readNumber 0 0) (hr : Rt g (some .int) 0 Z) {v0 v1 v2 : Int}  {rec4 : Int → Int → MM → RR} (L4 : ∀ (u1 u2 : Int) (h : MM), in32 u1 → in32 u2 → rec4 u1 u2 h = some Z → G g 4 [(2, v0), (0, u1), (0, u2), (3, 0)] [] h) (cv1 : in32 v1) (cv2 : in32 v2) {h : MM} (hf : f_X3_readNumber_4b n rec4 v0 v1 v2 h = some Z) : G g 4 [(2, v0), (0, v1), (0, v2), (3, 0)] [] h := by
  unfold f_X3_readNumber_4b at hf
  refine r_iload_n C dX3_readNumber_4 rfl ?_
  refine r_iconst C dX3_readNumber_5 ?_
  refine r_icmp_ge C dX3_readNumber_6 (tgt := 82) (by decide) cv2 (in32_of rfl) (fun n1 => ?_) (fun n1 => ?_)
  · have hf := ite_p n1 hf
    exact G.mask [false, true, false, false] rfl rfl (b_X3_readNumber_82 C hr  cv1 hf)
  · have hf := ite_n n1 hf
    refine r_iload_n C dX3_readNumber_9 rfl ?_
    refine r_if_eq C dX3_readNumber_10 (tgt := 82) (by decide) cv1 (fun n2 => ?_) (fun n2 => ?_)
    · have hf := ite_p n2 hf
      exact G.mask [false, true, false, false] rfl rfl (b_X3_readNumber_82 C hr  cv1 hf)
    · have hf := ite_n n2 hf
      refine r_aload_n C dX3_readNumber_13 rfl ?_
      obtain ⟨q3, hf⟩ := gf_s hf
      refine r_gf C ct3 (j := 5) (ji := 5) dX3_readNumber_14 q3 rfl rfl (by decide) w_542 rfl (fun c3 => ?_)
      have c3 : in32 _ := c3
      refine r_aload_n C dX3_readNumber_17 rfl ?_
      obtain ⟨q4, hf⟩ := gf_s hf
      refine r_gf C ct3 (j := 1) (ji := 1) dX3_readNumber_18 q4 rfl rfl (by decide) w_534 rfl (fun c4 => ?_)
      obtain ⟨q5, hf⟩ := al_s hf
      refine r_alen C (tn := 102) dX3_readNumber_21 q5 rfl (by decide) (fun c5 _ => ?_)
      refine r_icmp_ge C dX3_readNumber_22 (tgt := 82) (by decide) c3 c5 (fun n6 => ?_) (fun n6 => ?_)
      · have hf := ite_p n6 hf
        exact G.mask [false, true, false, false] rfl rfl (b_X3_readNumber_82 C hr  cv1 hf)
      · have hf := ite_n n6 hf
        refine r_aload_n C dX3_readNumber_25 rfl ?_
        obtain ⟨q7, hf⟩ := gf_s hf
        refine r_gf C ct3 (j := 1) (ji := 1) dX3_readNumber_26 q7 rfl rfl (by decide) w_534 rfl (fun c7 => ?_)
        refine r_aload_n C dX3_readNumber_29 rfl ?_
        obtain ⟨q8, hf⟩ := gf_s hf
        refine r_gf C ct3 (j := 5) (ji := 5) dX3_readNumber_30 q8 rfl rfl (by decide) w_542 rfl (fun c8 => ?_)
        have c8 : in32 _ := c8
        obtain ⟨q9, hf⟩ := rd_s hf
        refine r_bald C dX3_readNumber_33 q9 rfl (fun c9 => ?_)
        refine r_bipush C dX3_readNumber_34 rfl ?_
        refine r_isub C dX3_readNumber_36 ?_
        obtain ⟨x10, e10, hf⟩ := lb_s hf
        have c10 : in32 x10 := by rw [e10]; exact (in32_t _)
        refine r_istore_nL C dX3_readNumber_37 e10 (Nat.le_of_ble_eq_true rfl) rfl ?_
        refine r_iload_n C dX3_readNumber_38 rfl ?_
        refine r_if_lt C dX3_readNumber_39 (tgt := 48) (by decide) c10 (fun n11 => ?_) (fun n11 => ?_)
        · have hf := ite_p n11 hf
          exact G.mask [false, true, false, false] rfl rfl (b_X3_readNumber_48 C hr  cv1 hf)
        · have hf := ite_n n11 hf
          refine r_iload_n C dX3_readNumber_42 rfl ?_
          refine r_bipush C dX3_readNumber_43 rfl ?_
          refine r_icmp_le C dX3_readNumber_45 (tgt := 50) (by decide) c10 (in32_of rfl) (fun n12 => ?_) (fun n12 => ?_)
          · have hf := ite_p n12 hf
            refine r_iload_n C dX3_readNumber_50 rfl ?_
            refine r_iconst C dX3_readNumber_51 ?_
            refine r_icmp_ne C dX3_readNumber_52 (tgt := 59) (by decide) cv1 (in32_of rfl) (fun n13 => ?_) (fun n13 => ?_)
            · have hf := ite_n n13 hf
              refine r_bipush C dX3_readNumber_59 rfl ?_
              refine r_iload_n C dX3_readNumber_61 rfl ?_
              refine r_imul C dX3_readNumber_62 ?_
              refine r_iload_n C dX3_readNumber_63 rfl ?_
              refine r_iadd C dX3_readNumber_64 ?_
              exact G.mask [true, false, true, false] rfl rfl (b_X3_readNumber_65 C hr L4 cv2 (in32_t _) hf)
            · have hf := ite_p n13 hf
              refine r_iload_n C dX3_readNumber_55 rfl ?_
              refine r_goto C dX3_readNumber_56 (tgt := 65) (by decide) ?_
              exact G.mask [true, false, true, false] rfl rfl (b_X3_readNumber_65 C hr L4 cv2 c10 hf)
          · have hf := ite_n n12 hf
            exact G.mask [false, true, false, false] rfl rfl (b_X3_readNumber_48 C hr  cv1 hf)
set_option maxRecDepth 20000 in
theorem l_X3_readNumber_4 {g : GT} {Z : Int × MM} {n : Nat} (C : Cx g cX3_readNumber 4 yX3_readNumber 0 0) (hr : Rt g (some .int) 0 Z) {v0 : Int}    : ∀ (k : Nat) (v1 v2 : Int) (h : MM), in32 v1 → in32 v2 → f_X3_readNumber_4 n  v0 k v1 v2 h = some Z → G g 4 [(2, v0), (0, v1), (0, v2), (3, 0)] [] h := by
  intro k
  induction k with
  | zero => intro v1 v2 h cv1 cv2 hf; exact absurd hf (by intro z; cases z)
  | succ k ih => intro v1 v2 h cv1 cv2 hf; exact b_X3_readNumber_4b C hr (rec4 := f_X3_readNumber_4 n  v0 k)  ih cv1 cv2 (show f_X3_readNumber_4b n  (f_X3_readNumber_4 n  v0 k) v0 v1 v2 h = some Z from hf)
set_option maxRecDepth 20000 in
theorem e_X3_readNumber {g : GT} {Z : Int × MM} {n : Nat} (C : Cx g cX3_readNumber 4 yX3_readNumber 0 0) (hr : Rt g (some .int) 0 Z) {v0 : Int} (cv0 : cK 2 v0) {h : MM} (hf : f_X3_readNumber n v0 h = some Z) : G g 0 [(2, v0), (3, 0), (3, 0), (3, 0)] [] h := by
  unfold f_X3_readNumber at hf
  refine r_iconst C dX3_readNumber_0 ?_
  refine r_istore_n C dX3_readNumber_1 (Nat.le_of_ble_eq_true rfl) rfl ?_
  refine r_iconst C dX3_readNumber_2 ?_
  refine r_istore_n C dX3_readNumber_3 (Nat.le_of_ble_eq_true rfl) rfl ?_
  exact G.mask [true, true, true, false] rfl rfl (l_X3_readNumber_4 C hr   _ _ _ _ (in32_of rfl) (in32_of rfl) hf)
set_option maxRecDepth 20000 in
theorem am_X3_readNumber (l : Launch) (n : Nat) : AM l yX3_readNumber cX3_readNumber 4 (some .int) 0 0 [2] 0 (un1 (f_X3_readNumber n)) := by
  refine AM.intro (by decide) (fun xs hx => ?_) (fun g xs h Z hl C hr hx hf => ?_)
  · obtain ⟨a0, rfl, c0⟩ := canL_1 hx
    exact Nat.le_of_ble_eq_true rfl
  · obtain ⟨a0, rfl, c0⟩ := canL_1 hx
    have hf := (un1_e _ a0 _).symm.trans hf
    exact e_X3_readNumber (n := n) C hr c0 hf
/-! LinesPromised$Order.compared(I)I -/
theorem dX3_compared_0 : decode cX3_compared 0 = .ok (.iload_n 1, 1) := by decide +kernel
theorem dX3_compared_1 : decode cX3_compared 1 = .ok (.invokestatic 106, 3) := by decide +kernel
theorem dX3_compared_4 : decode cX3_compared 4 = .ok (.istore_n 2, 1) := by decide +kernel
theorem dX3_compared_5 : decode cX3_compared 5 = .ok (.iload_n 2, 1) := by decide +kernel
theorem dX3_compared_6 : decode cX3_compared 6 = .ok (.iconst (-1), 1) := by decide +kernel
theorem dX3_compared_7 : decode cX3_compared 7 = .ok (.if_icmp .ne 5, 3) := by decide +kernel
theorem dX3_compared_10 : decode cX3_compared 10 = .ok (.iconst (-1), 1) := by decide +kernel
theorem dX3_compared_11 : decode cX3_compared 11 = .ok (.ireturn, 1) := by decide +kernel
theorem dX3_compared_12 : decode cX3_compared 12 = .ok (.aload_n 0, 1) := by decide +kernel
theorem dX3_compared_13 : decode cX3_compared 13 = .ok (.dup, 1) := by decide +kernel
theorem dX3_compared_14 : decode cX3_compared 14 = .ok (.getfield 39, 3) := by decide +kernel
theorem dX3_compared_17 : decode cX3_compared 17 = .ok (.iconst 1, 1) := by decide +kernel
theorem dX3_compared_18 : decode cX3_compared 18 = .ok (.iadd, 1) := by decide +kernel
theorem dX3_compared_19 : decode cX3_compared 19 = .ok (.putfield 39, 3) := by decide +kernel
theorem dX3_compared_22 : decode cX3_compared 22 = .ok (.aload_n 0, 1) := by decide +kernel
theorem dX3_compared_23 : decode cX3_compared 23 = .ok (.invokevirtual 97, 3) := by decide +kernel
theorem dX3_compared_26 : decode cX3_compared 26 = .ok (.istore_n 3, 1) := by decide +kernel
theorem dX3_compared_27 : decode cX3_compared 27 = .ok (.iload_n 2, 1) := by decide +kernel
theorem dX3_compared_28 : decode cX3_compared 28 = .ok (.iconst 5, 1) := by decide +kernel
theorem dX3_compared_29 : decode cX3_compared 29 = .ok (.if_icmp .ne 12, 3) := by decide +kernel
theorem dX3_compared_32 : decode cX3_compared 32 = .ok (.iload_n 3, 1) := by decide +kernel
theorem dX3_compared_33 : decode cX3_compared 33 = .ok (.bipush 61, 2) := by decide +kernel
theorem dX3_compared_35 : decode cX3_compared 35 = .ok (.if_icmp .eq 20, 3) := by decide +kernel
theorem dX3_compared_38 : decode cX3_compared 38 = .ok (.goto 15, 3) := by decide +kernel
theorem dX3_compared_41 : decode cX3_compared 41 = .ok (.iload_n 3, 1) := by decide +kernel
theorem dX3_compared_42 : decode cX3_compared 42 = .ok (.bipush 60, 2) := by decide +kernel
theorem dX3_compared_44 : decode cX3_compared 44 = .ok (.if_icmp .eq 11, 3) := by decide +kernel
theorem dX3_compared_47 : decode cX3_compared 47 = .ok (.iload_n 3, 1) := by decide +kernel
theorem dX3_compared_48 : decode cX3_compared 48 = .ok (.bipush 62, 2) := by decide +kernel
theorem dX3_compared_50 : decode cX3_compared 50 = .ok (.if_icmp .eq 5, 3) := by decide +kernel
theorem dX3_compared_53 : decode cX3_compared 53 = .ok (.iconst (-1), 1) := by decide +kernel
theorem dX3_compared_54 : decode cX3_compared 54 = .ok (.ireturn, 1) := by decide +kernel
theorem dX3_compared_55 : decode cX3_compared 55 = .ok (.aload_n 0, 1) := by decide +kernel
theorem dX3_compared_56 : decode cX3_compared 56 = .ok (.dup, 1) := by decide +kernel
theorem dX3_compared_57 : decode cX3_compared 57 = .ok (.getfield 39, 3) := by decide +kernel
theorem dX3_compared_60 : decode cX3_compared 60 = .ok (.iconst 1, 1) := by decide +kernel
theorem dX3_compared_61 : decode cX3_compared 61 = .ok (.iadd, 1) := by decide +kernel
theorem dX3_compared_62 : decode cX3_compared 62 = .ok (.putfield 39, 3) := by decide +kernel
theorem dX3_compared_65 : decode cX3_compared 65 = .ok (.iload_n 2, 1) := by decide +kernel
theorem dX3_compared_66 : decode cX3_compared 66 = .ok (.iconst 5, 1) := by decide +kernel
theorem dX3_compared_67 : decode cX3_compared 67 = .ok (.if_icmp .ne 12, 3) := by decide +kernel
theorem dX3_compared_70 : decode cX3_compared 70 = .ok (.aload_n 0, 1) := by decide +kernel
theorem dX3_compared_71 : decode cX3_compared 71 = .ok (.aload_n 0, 1) := by decide +kernel
theorem dX3_compared_72 : decode cX3_compared 72 = .ok (.invokevirtual 97, 3) := by decide +kernel
theorem dX3_compared_75 : decode cX3_compared 75 = .ok (.invokevirtual 109, 3) := by decide +kernel
theorem dX3_compared_78 : decode cX3_compared 78 = .ok (.ireturn, 1) := by decide +kernel
theorem dX3_compared_79 : decode cX3_compared 79 = .ok (.aload_n 0, 1) := by decide +kernel
theorem dX3_compared_80 : decode cX3_compared 80 = .ok (.invokevirtual 71, 3) := by decide +kernel
theorem dX3_compared_83 : decode cX3_compared 83 = .ok (.istore 4, 2) := by decide +kernel
theorem dX3_compared_85 : decode cX3_compared 85 = .ok (.iload 4, 2) := by decide +kernel
theorem dX3_compared_87 : decode cX3_compared 87 = .ok (.iconst (-1), 1) := by decide +kernel
theorem dX3_compared_88 : decode cX3_compared 88 = .ok (.if_icmp .ne 5, 3) := by decide +kernel
theorem dX3_compared_91 : decode cX3_compared 91 = .ok (.iconst (-1), 1) := by decide +kernel
theorem dX3_compared_92 : decode cX3_compared 92 = .ok (.ireturn, 1) := by decide +kernel
theorem dX3_compared_93 : decode cX3_compared 93 = .ok (.iload_n 3, 1) := by decide +kernel
theorem dX3_compared_94 : decode cX3_compared 94 = .ok (.bipush 60, 2) := by decide +kernel
theorem dX3_compared_96 : decode cX3_compared 96 = .ok (.if_icmp .ne 17, 3) := by decide +kernel
theorem dX3_compared_99 : decode cX3_compared 99 = .ok (.aload_n 0, 1) := by decide +kernel
theorem dX3_compared_100 : decode cX3_compared 100 = .ok (.getfield 18, 3) := by decide +kernel
theorem dX3_compared_103 : decode cX3_compared 103 = .ok (.iload_n 2, 1) := by decide +kernel
theorem dX3_compared_104 : decode cX3_compared 104 = .ok (.iaload, 1) := by decide +kernel
theorem dX3_compared_105 : decode cX3_compared 105 = .ok (.iload 4, 2) := by decide +kernel
theorem dX3_compared_107 : decode cX3_compared 107 = .ok (.if_icmp .ge 21, 3) := by decide +kernel
theorem dX3_compared_110 : decode cX3_compared 110 = .ok (.goto 14, 3) := by decide +kernel
theorem dX3_compared_113 : decode cX3_compared 113 = .ok (.aload_n 0, 1) := by decide +kernel
theorem dX3_compared_114 : decode cX3_compared 114 = .ok (.getfield 18, 3) := by decide +kernel
theorem dX3_compared_117 : decode cX3_compared 117 = .ok (.iload_n 2, 1) := by decide +kernel
theorem dX3_compared_118 : decode cX3_compared 118 = .ok (.iaload, 1) := by decide +kernel
theorem dX3_compared_119 : decode cX3_compared 119 = .ok (.iload 4, 2) := by decide +kernel
theorem dX3_compared_121 : decode cX3_compared 121 = .ok (.if_icmp .le 7, 3) := by decide +kernel
theorem dX3_compared_124 : decode cX3_compared 124 = .ok (.iconst 1, 1) := by decide +kernel
theorem dX3_compared_125 : decode cX3_compared 125 = .ok (.goto 4, 3) := by decide +kernel
theorem dX3_compared_128 : decode cX3_compared 128 = .ok (.iconst 0, 1) := by decide +kernel
theorem dX3_compared_129 : decode cX3_compared 129 = .ok (.ireturn, 1) := by decide +kernel
theorem cm_X3_compared : CM yX3_compared cX3_compared 5 (some .int) 1 3 := ⟨w_647, w_6, w_648, w_98, ⟨by decide +kernel, by decide +kernel, by decide +kernel⟩, ⟨_, _, rfl⟩, by decide⟩
noncomputable def f_X3_compared_129 (n : Nat)  (s0 : Int) (h : MM) : RR :=
  some (s0, h)
noncomputable def f_X3_compared_128 (n : Nat)  (h : MM) : RR :=
  f_X3_compared_129 n 0 h
noncomputable def f_X3_compared_124 (n : Nat)  (h : MM) : RR :=
  f_X3_compared_129 n 1 h
noncomputable def f_X3_compared_55 (n : Nat)  (v0 v2 v3 : Int) (h : MM) : RR :=
  gf h v0 3 5 fun r1 =>
  pf h v0 3 5 (wr (r1 + 1)) fun h2 =>
  if v2 = 5 then
    gk h2 v0 3 <|
    bd (f_X3_peek n v0 h2) fun r13 h13 =>
    gk h13 v0 3 <|
    bd (f_X3_comparedGauge n v0 r13 h13) fun r14 h14 =>
    some (r14, h14)
  else
  gk h2 v0 3 <|
  bd (f_X3_readNumber n v0 h2) fun r4 h4 =>
  if r4 = (-1) then
    some ((-1), h4)
  else
  if v3 = 60 then
    gf h4 v0 3 4 fun r10 =>
    rd h4 r10 100 v2 fun r11 =>
    if r4 ≤ r11 then
      f_X3_compared_128 n h4
    else
    f_X3_compared_124 n h4
  else
  gf h4 v0 3 4 fun r7 =>
  rd h4 r7 100 v2 fun r8 =>
  if r8 ≤ r4 then
    f_X3_compared_128 n h4
  else
  f_X3_compared_124 n h4
noncomputable def f_X3_compared_53 (n : Nat)  (h : MM) : RR :=
  some ((-1), h)
noncomputable def f_X3_compared (n : Nat) (v0 v1 : Int) (h : MM) : RR :=
  bd (f_X3_factOf n v1 h) fun r1 h1 =>
  if r1 = (-1) then
    some ((-1), h1)
  else
  gf h1 v0 3 5 fun r3 =>
  pf h1 v0 3 5 (wr (r3 + 1)) fun h4 =>
  gk h4 v0 3 <|
  bd (f_X3_peek n v0 h4) fun r5 h5 =>
  if r1 = 5 then
    if r5 = 61 then
      f_X3_compared_55 n v0 r1 r5 h5
    else
    f_X3_compared_53 n h5
  else
  if r5 = 60 then
    f_X3_compared_55 n v0 r1 r5 h5
  else
  if r5 = 62 then
    f_X3_compared_55 n v0 r1 r5 h5
  else
  f_X3_compared_53 n h5
set_option maxRecDepth 20000 in
theorem b_X3_compared_129 {g : GT} {Z : Int × MM} {n : Nat} (C : Cx g cX3_compared 5 yX3_compared 1 23) (hr : Rt g (some .int) 0 Z) {s0 : Int}    (cs0 : in32 s0) {h : MM} (hf : f_X3_compared_129 n  s0 h = some Z) : G g 129 [(3, 0), (3, 0), (3, 0), (3, 0), (3, 0)] [(0, s0)] h := by
  unfold f_X3_compared_129 at hf
  cases hf
  exact r_jret C hr dX3_compared_129 cs0
set_option maxRecDepth 20000 in
theorem b_X3_compared_128 {g : GT} {Z : Int × MM} {n : Nat} (C : Cx g cX3_compared 5 yX3_compared 1 23) (hr : Rt g (some .int) 0 Z)     {h : MM} (hf : f_X3_compared_128 n   h = some Z) : G g 128 [(3, 0), (3, 0), (3, 0), (3, 0), (3, 0)] [] h := by
  unfold f_X3_compared_128 at hf
  refine r_iconst C dX3_compared_128 ?_
  exact G.mask [false, false, false, false, false] rfl rfl (b_X3_compared_129 C hr  (in32_of rfl) hf)
set_option maxRecDepth 20000 in
theorem b_X3_compared_124 {g : GT} {Z : Int × MM} {n : Nat} (C : Cx g cX3_compared 5 yX3_compared 1 23) (hr : Rt g (some .int) 0 Z)     {h : MM} (hf : f_X3_compared_124 n   h = some Z) : G g 124 [(3, 0), (3, 0), (3, 0), (3, 0), (3, 0)] [] h := by
  unfold f_X3_compared_124 at hf
  refine r_iconst C dX3_compared_124 ?_
  refine r_goto C dX3_compared_125 (tgt := 129) (by decide) ?_
  exact G.mask [false, false, false, false, false] rfl rfl (b_X3_compared_129 C hr  (in32_of rfl) hf)
set_option maxRecDepth 20000 in
theorem b_X3_compared_55 {g : GT} {Z : Int × MM} {n : Nat} (C : Cx g cX3_compared 5 yX3_compared 1 23) (hr : Rt g (some .int) 0 Z) {v0 v2 v3 : Int}    (cv2 : in32 v2) (cv3 : in32 v3) {h : MM} (hf : f_X3_compared_55 n  v0 v2 v3 h = some Z) : G g 55 [(2, v0), (3, 0), (0, v2), (0, v3), (3, 0)] [] h := by
  unfold f_X3_compared_55 at hf
  refine r_aload_n C dX3_compared_55 rfl ?_
  refine r_dup C dX3_compared_56 (by decide) ?_
  obtain ⟨q1, hf⟩ := gf_s hf
  refine r_gf C ct3 (j := 5) (ji := 5) dX3_compared_57 q1 rfl rfl (by decide) w_542 rfl (fun c1 => ?_)
  have c1 : in32 _ := c1
  refine r_iconst C dX3_compared_60 ?_
  refine r_iadd C dX3_compared_61 ?_
  obtain ⟨q2, hf⟩ := pf_s hf
  refine r_pf C ct3 (j := 5) (ji := 5) dX3_compared_62 q2 rfl rfl (by decide) w_542 rfl (Or.inl rfl) nar_int (in32_t _) ?_
  refine r_iload_n C dX3_compared_65 rfl ?_
  refine r_iconst C dX3_compared_66 ?_
  refine r_icmp_ne C dX3_compared_67 (tgt := 79) (by decide) cv2 (in32_of rfl) (fun n3 => ?_) (fun n3 => ?_)
  · have hf := ite_n n3 hf
    refine r_aload_n C dX3_compared_79 rfl ?_
    obtain ⟨p4, hf⟩ := gk_s hf
    obtain ⟨r4, h4, hq4, hf⟩ := bd_s hf
    refine r_cV0 C (am_X3_readNumber (gl g) n) cm_X3_readNumber w_656 dX3_compared_80 ⟨Nat.le_of_ble_eq_true rfl, Nat.le_of_ble_eq_true rfl⟩ p4 rfl  rfl (Nat.le_of_ble_eq_true rfl) hq4 (by decide) (fun c4 => ?_)
    have c4 : in32 _ := c4
    refine r_istore C dX3_compared_83 (Nat.le_of_ble_eq_true rfl) rfl ?_
    refine r_iload C dX3_compared_85 rfl ?_
    refine r_iconst C dX3_compared_87 ?_
    refine r_icmp_ne C dX3_compared_88 (tgt := 93) (by decide) c4 (in32_of rfl) (fun n5 => ?_) (fun n5 => ?_)
    · have hf := ite_n n5 hf
      refine r_iload_n C dX3_compared_93 rfl ?_
      refine r_bipush C dX3_compared_94 rfl ?_
      refine r_icmp_ne C dX3_compared_96 (tgt := 113) (by decide) cv3 (in32_of rfl) (fun n6 => ?_) (fun n6 => ?_)
      · have hf := ite_n n6 hf
        refine r_aload_n C dX3_compared_113 rfl ?_
        obtain ⟨q7, hf⟩ := gf_s hf
        refine r_gf C ct3 (j := 4) (ji := 4) dX3_compared_114 q7 rfl rfl (by decide) w_540 rfl (fun c7 => ?_)
        refine r_iload_n C dX3_compared_117 rfl ?_
        obtain ⟨q8, hf⟩ := rd_s hf
        refine r_iald C dX3_compared_118 q8 rfl (fun c8 => ?_)
        refine r_iload C dX3_compared_119 rfl ?_
        refine r_icmp_le C dX3_compared_121 (tgt := 128) (by decide) c8 c4 (fun n9 => ?_) (fun n9 => ?_)
        · have hf := ite_p n9 hf
          exact G.mask [false, false, false, false, false] rfl rfl (b_X3_compared_128 C hr   hf)
        · have hf := ite_n n9 hf
          exact G.mask [false, false, false, false, false] rfl rfl (b_X3_compared_124 C hr   hf)
      · have hf := ite_p n6 hf
        refine r_aload_n C dX3_compared_99 rfl ?_
        obtain ⟨q10, hf⟩ := gf_s hf
        refine r_gf C ct3 (j := 4) (ji := 4) dX3_compared_100 q10 rfl rfl (by decide) w_540 rfl (fun c10 => ?_)
        refine r_iload_n C dX3_compared_103 rfl ?_
        obtain ⟨q11, hf⟩ := rd_s hf
        refine r_iald C dX3_compared_104 q11 rfl (fun c11 => ?_)
        refine r_iload C dX3_compared_105 rfl ?_
        refine r_icmp_ge C dX3_compared_107 (tgt := 128) (by decide) c11 c4 (fun n12 => ?_) (fun n12 => ?_)
        · have hf := ite_p n12 hf
          exact G.mask [false, false, false, false, false] rfl rfl (b_X3_compared_128 C hr   hf)
        · have hf := ite_n n12 hf
          refine r_goto C dX3_compared_110 (tgt := 124) (by decide) ?_
          exact G.mask [false, false, false, false, false] rfl rfl (b_X3_compared_124 C hr   hf)
    · have hf := ite_p n5 hf
      refine r_iconst C dX3_compared_91 ?_
      cases hf
      exact r_jret C hr dX3_compared_92 (in32_of rfl)
  · have hf := ite_p n3 hf
    refine r_aload_n C dX3_compared_70 rfl ?_
    refine r_aload_n C dX3_compared_71 rfl ?_
    obtain ⟨p13, hf⟩ := gk_s hf
    obtain ⟨r13, h13, hq13, hf⟩ := bd_s hf
    refine r_cV0 C (am_X3_peek (gl g) n) cm_X3_peek w_641 dX3_compared_72 ⟨Nat.le_of_ble_eq_true rfl, Nat.le_of_ble_eq_true rfl⟩ p13 rfl  rfl (Nat.le_of_ble_eq_true rfl) hq13 (by decide) (fun c13 => ?_)
    have c13 : in32 _ := c13
    obtain ⟨p14, hf⟩ := gk_s hf
    obtain ⟨r14, h14, hq14, hf⟩ := bd_s hf
    refine r_cV1 C (am_X3_comparedGauge (gl g) n) cm_X3_comparedGauge w_652 dX3_compared_75 ⟨Nat.le_of_ble_eq_true rfl, Nat.le_of_ble_eq_true rfl⟩ p14 rfl c13 rfl (Nat.le_of_ble_eq_true rfl) hq14 (by decide) (fun c14 => ?_)
    have c14 : in32 _ := c14
    cases hf
    exact r_jret C hr dX3_compared_78 c14
set_option maxRecDepth 20000 in
theorem b_X3_compared_53 {g : GT} {Z : Int × MM} {n : Nat} (C : Cx g cX3_compared 5 yX3_compared 1 23) (hr : Rt g (some .int) 0 Z)     {h : MM} (hf : f_X3_compared_53 n   h = some Z) : G g 53 [(3, 0), (3, 0), (3, 0), (3, 0), (3, 0)] [] h := by
  unfold f_X3_compared_53 at hf
  refine r_iconst C dX3_compared_53 ?_
  cases hf
  exact r_jret C hr dX3_compared_54 (in32_of rfl)
set_option maxRecDepth 20000 in
theorem e_X3_compared {g : GT} {Z : Int × MM} {n : Nat} (C : Cx g cX3_compared 5 yX3_compared 1 23) (hr : Rt g (some .int) 0 Z) {v0 v1 : Int} (cv0 : cK 2 v0) (cv1 : cK 0 v1) {h : MM} (hf : f_X3_compared n v0 v1 h = some Z) : G g 0 [(2, v0), (0, v1), (3, 0), (3, 0), (3, 0)] [] h := by
  have cv1 : in32 v1 := cv1
  unfold f_X3_compared at hf
  refine r_iload_n C dX3_compared_0 rfl ?_
  obtain ⟨r1, h1, hq1, hf⟩ := bd_s hf
  refine r_cS1 C (am_X3_factOf (gl g) n) cm_X3_factOf w_649 dX3_compared_1 ⟨Nat.le_of_ble_eq_true rfl, Nat.le_of_ble_eq_true rfl⟩ cv1 rfl (Nat.le_of_ble_eq_true rfl) hq1 (by decide) (fun c1 => ?_)
  have c1 : in32 _ := c1
  refine r_istore_n C dX3_compared_4 (Nat.le_of_ble_eq_true rfl) rfl ?_
  refine r_iload_n C dX3_compared_5 rfl ?_
  refine r_iconst C dX3_compared_6 ?_
  refine r_icmp_ne C dX3_compared_7 (tgt := 12) (by decide) c1 (in32_of rfl) (fun n2 => ?_) (fun n2 => ?_)
  · have hf := ite_n n2 hf
    refine r_aload_n C dX3_compared_12 rfl ?_
    refine r_dup C dX3_compared_13 (by decide) ?_
    obtain ⟨q3, hf⟩ := gf_s hf
    refine r_gf C ct3 (j := 5) (ji := 5) dX3_compared_14 q3 rfl rfl (by decide) w_542 rfl (fun c3 => ?_)
    have c3 : in32 _ := c3
    refine r_iconst C dX3_compared_17 ?_
    refine r_iadd C dX3_compared_18 ?_
    obtain ⟨q4, hf⟩ := pf_s hf
    refine r_pf C ct3 (j := 5) (ji := 5) dX3_compared_19 q4 rfl rfl (by decide) w_542 rfl (Or.inl rfl) nar_int (in32_t _) ?_
    refine r_aload_n C dX3_compared_22 rfl ?_
    obtain ⟨p5, hf⟩ := gk_s hf
    obtain ⟨r5, h5, hq5, hf⟩ := bd_s hf
    refine r_cV0 C (am_X3_peek (gl g) n) cm_X3_peek w_641 dX3_compared_23 ⟨Nat.le_of_ble_eq_true rfl, Nat.le_of_ble_eq_true rfl⟩ p5 rfl  rfl (Nat.le_of_ble_eq_true rfl) hq5 (by decide) (fun c5 => ?_)
    have c5 : in32 _ := c5
    refine r_istore_n C dX3_compared_26 (Nat.le_of_ble_eq_true rfl) rfl ?_
    refine r_iload_n C dX3_compared_27 rfl ?_
    refine r_iconst C dX3_compared_28 ?_
    refine r_icmp_ne C dX3_compared_29 (tgt := 41) (by decide) c1 (in32_of rfl) (fun n6 => ?_) (fun n6 => ?_)
    · have hf := ite_n n6 hf
      refine r_iload_n C dX3_compared_41 rfl ?_
      refine r_bipush C dX3_compared_42 rfl ?_
      refine r_icmp_eq C dX3_compared_44 (tgt := 55) (by decide) c5 (in32_of rfl) (fun n7 => ?_) (fun n7 => ?_)
      · have hf := ite_p n7 hf
        exact G.mask [true, false, true, true, false] rfl rfl (b_X3_compared_55 C hr  c1 c5 hf)
      · have hf := ite_n n7 hf
        refine r_iload_n C dX3_compared_47 rfl ?_
        refine r_bipush C dX3_compared_48 rfl ?_
        refine r_icmp_eq C dX3_compared_50 (tgt := 55) (by decide) c5 (in32_of rfl) (fun n8 => ?_) (fun n8 => ?_)
        · have hf := ite_p n8 hf
          exact G.mask [true, false, true, true, false] rfl rfl (b_X3_compared_55 C hr  c1 c5 hf)
        · have hf := ite_n n8 hf
          exact G.mask [false, false, false, false, false] rfl rfl (b_X3_compared_53 C hr   hf)
    · have hf := ite_p n6 hf
      refine r_iload_n C dX3_compared_32 rfl ?_
      refine r_bipush C dX3_compared_33 rfl ?_
      refine r_icmp_eq C dX3_compared_35 (tgt := 55) (by decide) c5 (in32_of rfl) (fun n9 => ?_) (fun n9 => ?_)
      · have hf := ite_p n9 hf
        exact G.mask [true, false, true, true, false] rfl rfl (b_X3_compared_55 C hr  c1 c5 hf)
      · have hf := ite_n n9 hf
        refine r_goto C dX3_compared_38 (tgt := 53) (by decide) ?_
        exact G.mask [false, false, false, false, false] rfl rfl (b_X3_compared_53 C hr   hf)
  · have hf := ite_p n2 hf
    refine r_iconst C dX3_compared_10 ?_
    cases hf
    exact r_jret C hr dX3_compared_11 (in32_of rfl)
set_option maxRecDepth 20000 in
theorem am_X3_compared (l : Launch) (n : Nat) : AM l yX3_compared cX3_compared 5 (some .int) 1 23 [2, 0] 0 (un2 (f_X3_compared n)) := by
  refine AM.intro (by decide) (fun xs hx => ?_) (fun g xs h Z hl C hr hx hf => ?_)
  · obtain ⟨a0, a1, rfl, c0, c1⟩ := canL_2 hx
    exact Nat.le_of_ble_eq_true rfl
  · obtain ⟨a0, a1, rfl, c0, c1⟩ := canL_2 hx
    have hf := (un2_e _ a0 a1 _).symm.trans hf
    exact e_X3_compared (n := n) C hr c0 c1 hf
/-! LinesPromised$Order.either(I)I, LinesPromised$Order.single(I)I -/
theorem dX3_either_0 : decode cX3_either 0 = .ok (.iconst 0, 1) := by decide +kernel
theorem dX3_either_1 : decode cX3_either 1 = .ok (.istore_n 2, 1) := by decide +kernel
theorem dX3_either_2 : decode cX3_either 2 = .ok (.iconst 1, 1) := by decide +kernel
theorem dX3_either_3 : decode cX3_either 3 = .ok (.istore_n 3, 1) := by decide +kernel
theorem dX3_either_4 : decode cX3_either 4 = .ok (.iconst 0, 1) := by decide +kernel
theorem dX3_either_5 : decode cX3_either 5 = .ok (.istore 4, 2) := by decide +kernel
theorem dX3_either_7 : decode cX3_either 7 = .ok (.iload 4, 2) := by decide +kernel
theorem dX3_either_9 : decode cX3_either 9 = .ok (.sipush 140, 3) := by decide +kernel
theorem dX3_either_12 : decode cX3_either 12 = .ok (.if_icmp .ge 67, 3) := by decide +kernel
theorem dX3_either_15 : decode cX3_either 15 = .ok (.aload_n 0, 1) := by decide +kernel
theorem dX3_either_16 : decode cX3_either 16 = .ok (.iload_n 1, 1) := by decide +kernel
theorem dX3_either_17 : decode cX3_either 17 = .ok (.invokevirtual 100, 3) := by decide +kernel
theorem dX3_either_20 : decode cX3_either 20 = .ok (.istore 5, 2) := by decide +kernel
theorem dX3_either_22 : decode cX3_either 22 = .ok (.iload 5, 2) := by decide +kernel
theorem dX3_either_24 : decode cX3_either 24 = .ok (.iconst (-1), 1) := by decide +kernel
theorem dX3_either_25 : decode cX3_either 25 = .ok (.if_icmp .ne 5, 3) := by decide +kernel
theorem dX3_either_28 : decode cX3_either 28 = .ok (.iconst (-1), 1) := by decide +kernel
theorem dX3_either_29 : decode cX3_either 29 = .ok (.ireturn, 1) := by decide +kernel
theorem dX3_either_30 : decode cX3_either 30 = .ok (.iload_n 3, 1) := by decide +kernel
theorem dX3_either_31 : decode cX3_either 31 = .ok (.iload 5, 2) := by decide +kernel
theorem dX3_either_33 : decode cX3_either 33 = .ok (.iand, 1) := by decide +kernel
theorem dX3_either_34 : decode cX3_either 34 = .ok (.istore_n 3, 1) := by decide +kernel
theorem dX3_either_35 : decode cX3_either 35 = .ok (.aload_n 0, 1) := by decide +kernel
theorem dX3_either_36 : decode cX3_either 36 = .ok (.invokevirtual 97, 3) := by decide +kernel
theorem dX3_either_39 : decode cX3_either 39 = .ok (.istore 6, 2) := by decide +kernel
theorem dX3_either_41 : decode cX3_either 41 = .ok (.iload 6, 2) := by decide +kernel
theorem dX3_either_43 : decode cX3_either 43 = .ok (.bipush 38, 2) := by decide +kernel
theorem dX3_either_45 : decode cX3_either 45 = .ok (.if_icmp .eq 18, 3) := by decide +kernel
theorem dX3_either_48 : decode cX3_either 48 = .ok (.iload_n 2, 1) := by decide +kernel
theorem dX3_either_49 : decode cX3_either 49 = .ok (.iload_n 3, 1) := by decide +kernel
theorem dX3_either_50 : decode cX3_either 50 = .ok (.ior, 1) := by decide +kernel
theorem dX3_either_51 : decode cX3_either 51 = .ok (.istore_n 2, 1) := by decide +kernel
theorem dX3_either_52 : decode cX3_either 52 = .ok (.iconst 1, 1) := by decide +kernel
theorem dX3_either_53 : decode cX3_either 53 = .ok (.istore_n 3, 1) := by decide +kernel
theorem dX3_either_54 : decode cX3_either 54 = .ok (.iload 6, 2) := by decide +kernel
theorem dX3_either_56 : decode cX3_either 56 = .ok (.bipush 124, 2) := by decide +kernel
theorem dX3_either_58 : decode cX3_either 58 = .ok (.if_icmp .eq 5, 3) := by decide +kernel
theorem dX3_either_61 : decode cX3_either 61 = .ok (.iload_n 2, 1) := by decide +kernel
theorem dX3_either_62 : decode cX3_either 62 = .ok (.ireturn, 1) := by decide +kernel
theorem dX3_either_63 : decode cX3_either 63 = .ok (.aload_n 0, 1) := by decide +kernel
theorem dX3_either_64 : decode cX3_either 64 = .ok (.dup, 1) := by decide +kernel
theorem dX3_either_65 : decode cX3_either 65 = .ok (.getfield 39, 3) := by decide +kernel
theorem dX3_either_68 : decode cX3_either 68 = .ok (.iconst 1, 1) := by decide +kernel
theorem dX3_either_69 : decode cX3_either 69 = .ok (.iadd, 1) := by decide +kernel
theorem dX3_either_70 : decode cX3_either 70 = .ok (.putfield 39, 3) := by decide +kernel
theorem dX3_either_73 : decode cX3_either 73 = .ok (.iinc 4 1, 3) := by decide +kernel
theorem dX3_either_76 : decode cX3_either 76 = .ok (.goto (-69), 3) := by decide +kernel
theorem dX3_either_79 : decode cX3_either 79 = .ok (.iconst (-1), 1) := by decide +kernel
theorem dX3_either_80 : decode cX3_either 80 = .ok (.ireturn, 1) := by decide +kernel
theorem dX3_single_0 : decode cX3_single 0 = .ok (.aload_n 0, 1) := by decide +kernel
theorem dX3_single_1 : decode cX3_single 1 = .ok (.invokevirtual 97, 3) := by decide +kernel
theorem dX3_single_4 : decode cX3_single 4 = .ok (.istore_n 2, 1) := by decide +kernel
theorem dX3_single_5 : decode cX3_single 5 = .ok (.iload_n 2, 1) := by decide +kernel
theorem dX3_single_6 : decode cX3_single 6 = .ok (.bipush 33, 2) := by decide +kernel
theorem dX3_single_8 : decode cX3_single 8 = .ok (.if_icmp .eq 15, 3) := by decide +kernel
theorem dX3_single_11 : decode cX3_single 11 = .ok (.iload_n 2, 1) := by decide +kernel
theorem dX3_single_12 : decode cX3_single 12 = .ok (.bipush 40, 2) := by decide +kernel
theorem dX3_single_14 : decode cX3_single 14 = .ok (.if_icmp .eq 9, 3) := by decide +kernel
theorem dX3_single_17 : decode cX3_single 17 = .ok (.aload_n 0, 1) := by decide +kernel
theorem dX3_single_18 : decode cX3_single 18 = .ok (.iload_n 2, 1) := by decide +kernel
theorem dX3_single_19 : decode cX3_single 19 = .ok (.invokevirtual 103, 3) := by decide +kernel
theorem dX3_single_22 : decode cX3_single 22 = .ok (.ireturn, 1) := by decide +kernel
theorem dX3_single_23 : decode cX3_single 23 = .ok (.iload_n 1, 1) := by decide +kernel
theorem dX3_single_24 : decode cX3_single 24 = .ok (.iconst 5, 1) := by decide +kernel
theorem dX3_single_25 : decode cX3_single 25 = .ok (.if_icmp .lt 5, 3) := by decide +kernel
theorem dX3_single_28 : decode cX3_single 28 = .ok (.iconst (-1), 1) := by decide +kernel
theorem dX3_single_29 : decode cX3_single 29 = .ok (.ireturn, 1) := by decide +kernel
theorem dX3_single_30 : decode cX3_single 30 = .ok (.aload_n 0, 1) := by decide +kernel
theorem dX3_single_31 : decode cX3_single 31 = .ok (.dup, 1) := by decide +kernel
theorem dX3_single_32 : decode cX3_single 32 = .ok (.getfield 39, 3) := by decide +kernel
theorem dX3_single_35 : decode cX3_single 35 = .ok (.iconst 1, 1) := by decide +kernel
theorem dX3_single_36 : decode cX3_single 36 = .ok (.iadd, 1) := by decide +kernel
theorem dX3_single_37 : decode cX3_single 37 = .ok (.putfield 39, 3) := by decide +kernel
theorem dX3_single_40 : decode cX3_single 40 = .ok (.iload_n 2, 1) := by decide +kernel
theorem dX3_single_41 : decode cX3_single 41 = .ok (.bipush 33, 2) := by decide +kernel
theorem dX3_single_43 : decode cX3_single 43 = .ok (.if_icmp .ne 24, 3) := by decide +kernel
theorem dX3_single_46 : decode cX3_single 46 = .ok (.aload_n 0, 1) := by decide +kernel
theorem dX3_single_47 : decode cX3_single 47 = .ok (.iload_n 1, 1) := by decide +kernel
theorem dX3_single_48 : decode cX3_single 48 = .ok (.iconst 1, 1) := by decide +kernel
theorem dX3_single_49 : decode cX3_single 49 = .ok (.iadd, 1) := by decide +kernel
theorem dX3_single_50 : decode cX3_single 50 = .ok (.invokevirtual 100, 3) := by decide +kernel
theorem dX3_single_53 : decode cX3_single 53 = .ok (.istore_n 3, 1) := by decide +kernel
theorem dX3_single_54 : decode cX3_single 54 = .ok (.iload_n 3, 1) := by decide +kernel
theorem dX3_single_55 : decode cX3_single 55 = .ok (.iconst (-1), 1) := by decide +kernel
theorem dX3_single_56 : decode cX3_single 56 = .ok (.if_icmp .ne 7, 3) := by decide +kernel
theorem dX3_single_59 : decode cX3_single 59 = .ok (.iconst (-1), 1) := by decide +kernel
theorem dX3_single_60 : decode cX3_single 60 = .ok (.goto 6, 3) := by decide +kernel
theorem dX3_single_63 : decode cX3_single 63 = .ok (.iconst 1, 1) := by decide +kernel
theorem dX3_single_64 : decode cX3_single 64 = .ok (.iload_n 3, 1) := by decide +kernel
theorem dX3_single_65 : decode cX3_single 65 = .ok (.isub, 1) := by decide +kernel
theorem dX3_single_66 : decode cX3_single 66 = .ok (.ireturn, 1) := by decide +kernel
theorem dX3_single_67 : decode cX3_single 67 = .ok (.aload_n 0, 1) := by decide +kernel
theorem dX3_single_68 : decode cX3_single 68 = .ok (.iload_n 1, 1) := by decide +kernel
theorem dX3_single_69 : decode cX3_single 69 = .ok (.iconst 1, 1) := by decide +kernel
theorem dX3_single_70 : decode cX3_single 70 = .ok (.iadd, 1) := by decide +kernel
theorem dX3_single_71 : decode cX3_single 71 = .ok (.invokevirtual 46, 3) := by decide +kernel
theorem dX3_single_74 : decode cX3_single 74 = .ok (.istore_n 3, 1) := by decide +kernel
theorem dX3_single_75 : decode cX3_single 75 = .ok (.iload_n 3, 1) := by decide +kernel
theorem dX3_single_76 : decode cX3_single 76 = .ok (.iconst (-1), 1) := by decide +kernel
theorem dX3_single_77 : decode cX3_single 77 = .ok (.if_icmp .eq 12, 3) := by decide +kernel
theorem dX3_single_80 : decode cX3_single 80 = .ok (.aload_n 0, 1) := by decide +kernel
theorem dX3_single_81 : decode cX3_single 81 = .ok (.invokevirtual 97, 3) := by decide +kernel
theorem dX3_single_84 : decode cX3_single 84 = .ok (.bipush 41, 2) := by decide +kernel
theorem dX3_single_86 : decode cX3_single 86 = .ok (.if_icmp .eq 5, 3) := by decide +kernel
theorem dX3_single_89 : decode cX3_single 89 = .ok (.iconst (-1), 1) := by decide +kernel
theorem dX3_single_90 : decode cX3_single 90 = .ok (.ireturn, 1) := by decide +kernel
theorem dX3_single_91 : decode cX3_single 91 = .ok (.aload_n 0, 1) := by decide +kernel
theorem dX3_single_92 : decode cX3_single 92 = .ok (.dup, 1) := by decide +kernel
theorem dX3_single_93 : decode cX3_single 93 = .ok (.getfield 39, 3) := by decide +kernel
theorem dX3_single_96 : decode cX3_single 96 = .ok (.iconst 1, 1) := by decide +kernel
theorem dX3_single_97 : decode cX3_single 97 = .ok (.iadd, 1) := by decide +kernel
theorem dX3_single_98 : decode cX3_single 98 = .ok (.putfield 39, 3) := by decide +kernel
theorem dX3_single_101 : decode cX3_single 101 = .ok (.iload_n 3, 1) := by decide +kernel
theorem dX3_single_102 : decode cX3_single 102 = .ok (.ireturn, 1) := by decide +kernel
theorem cm_X3_either : CM yX3_either cX3_either 7 (some .int) 1 3 := ⟨w_635, w_3, w_636, w_98, ⟨by decide +kernel, by decide +kernel, by decide +kernel⟩, ⟨_, _, rfl⟩, by decide⟩
theorem cm_X3_single : CM yX3_single cX3_single 4 (some .int) 1 3 := ⟨w_639, w_4, w_640, w_98, ⟨by decide +kernel, by decide +kernel, by decide +kernel⟩, ⟨_, _, rfl⟩, by decide⟩
noncomputable def f_X3_either_63 (F_X3_either : Int → Int → MM → RR) (F_X3_single : Int → Int → MM → RR) (n : Nat) (rec7 : Int → Int → Int → MM → RR) (v0 v1 v2 v3 v4 : Int) (h : MM) : RR :=
  gf h v0 3 5 fun r1 =>
  pf h v0 3 5 (wr (r1 + 1)) fun h2 =>
  lb (wr (v4 + 1)) fun x3 =>
  rec7 v2 v3 x3 h2
noncomputable def f_X3_either_7b (F_X3_either : Int → Int → MM → RR) (F_X3_single : Int → Int → MM → RR) (n : Nat) (rec7 : Int → Int → Int → MM → RR) (v0 v1 v2 v3 v4 : Int) (h : MM) : RR :=
  if 140 ≤ v4 then
    some ((-1), h)
  else
  gk h v0 3 <|
  bd (F_X3_single v0 v1 h) fun r2 h2 =>
  if r2 = (-1) then
    some ((-1), h2)
  else
  lb (ban v3 r2) fun x4 =>
  gk h2 v0 3 <|
  bd (f_X3_peek n v0 h2) fun r5 h5 =>
  if r5 = 38 then
    f_X3_either_63 F_X3_either F_X3_single n rec7 v0 v1 v2 x4 v4 h5
  else
  lb (bor v2 x4) fun x7 =>
  if r5 = 124 then
    f_X3_either_63 F_X3_either F_X3_single n rec7 v0 v1 x7 1 v4 h5
  else
  some (x7, h5)
noncomputable def f_X3_either_7 (F_X3_either : Int → Int → MM → RR) (F_X3_single : Int → Int → MM → RR) (n : Nat)  (v0 v1 : Int) : Nat → Int → Int → Int → MM → RR
  | 0, _, _, _, _ => none
  | k + 1, v2, v3, v4, h => f_X3_either_7b F_X3_either F_X3_single n  (f_X3_either_7 F_X3_either F_X3_single n  v0 v1 k) v0 v1 v2 v3 v4 h
noncomputable def f_X3_either_op (F_X3_either : Int → Int → MM → RR) (F_X3_single : Int → Int → MM → RR) (n : Nat) (v0 v1 : Int) (h : MM) : RR :=
  f_X3_either_7 F_X3_either F_X3_single n v0 v1 n 0 1 0 h
noncomputable def f_X3_single_89 (F_X3_either : Int → Int → MM → RR) (F_X3_single : Int → Int → MM → RR) (n : Nat)  (h : MM) : RR :=
  some ((-1), h)
noncomputable def f_X3_single_66 (F_X3_either : Int → Int → MM → RR) (F_X3_single : Int → Int → MM → RR) (n : Nat)  (s0 : Int) (h : MM) : RR :=
  some (s0, h)
noncomputable def f_X3_single_23 (F_X3_either : Int → Int → MM → RR) (F_X3_single : Int → Int → MM → RR) (n : Nat)  (v0 v1 v2 : Int) (h : MM) : RR :=
  if v1 < 5 then
    gf h v0 3 5 fun r2 =>
    pf h v0 3 5 (wr (r2 + 1)) fun h3 =>
    if v2 = 33 then
      gk h3 v0 3 <|
      bd (F_X3_single v0 (wr (v1 + 1)) h3) fun r11 h11 =>
      if r11 = (-1) then
        f_X3_single_66 F_X3_either F_X3_single n ((-1)) h11
      else
      f_X3_single_66 F_X3_either F_X3_single n (wr (1 - r11)) h11
    else
    gk h3 v0 3 <|
    bd (F_X3_either v0 (wr (v1 + 1)) h3) fun r5 h5 =>
    if r5 = (-1) then
      f_X3_single_89 F_X3_either F_X3_single n h5
    else
    gk h5 v0 3 <|
    bd (f_X3_peek n v0 h5) fun r7 h7 =>
    if r7 = 41 then
      gf h7 v0 3 5 fun r9 =>
      pf h7 v0 3 5 (wr (r9 + 1)) fun h10 =>
      some (r5, h10)
    else
    f_X3_single_89 F_X3_either F_X3_single n h7
  else
  some ((-1), h)
noncomputable def f_X3_single_op (F_X3_either : Int → Int → MM → RR) (F_X3_single : Int → Int → MM → RR) (n : Nat) (v0 v1 : Int) (h : MM) : RR :=
  gk h v0 3 <|
  bd (f_X3_peek n v0 h) fun r1 h1 =>
  if r1 = 33 then
    f_X3_single_23 F_X3_either F_X3_single n v0 v1 r1 h1
  else
  if r1 = 40 then
    f_X3_single_23 F_X3_either F_X3_single n v0 v1 r1 h1
  else
  gk h1 v0 3 <|
  bd (f_X3_compared n v0 r1 h1) fun r4 h4 =>
  some (r4, h4)
noncomputable def t_X3_either (n : Nat) : Nat → (Int → Int → MM → RR) × (Int → Int → MM → RR)
  | 0 => ((fun _ _ _ => none), (fun _ _ _ => none))
  | k + 1 => (f_X3_either_op ((t_X3_either n k).1) ((t_X3_either n k).2) n, f_X3_single_op ((t_X3_either n k).1) ((t_X3_either n k).2) n)
noncomputable def f_X3_either (n : Nat) : (Int → Int → MM → RR) := (t_X3_either n 16).1
noncomputable def f_X3_single (n : Nat) : (Int → Int → MM → RR) := (t_X3_either n 16).2
set_option maxRecDepth 20000 in
theorem b_X3_either_63 {g : GT} {Z : Int × MM} {n : Nat} {fA lA : Nat} {F_X3_either : Int → Int → MM → RR} (A_X3_either : AM (gl g) yX3_either cX3_either 7 (some .int) (fA) (lA) [2, 0] 0 (un2 F_X3_either)) {F_X3_single : Int → Int → MM → RR} (A_X3_single : AM (gl g) yX3_single cX3_single 4 (some .int) (fA) (lA) [2, 0] 0 (un2 F_X3_single)) (C : Cx g cX3_either 7 yX3_either (fA + 2) (lA + 47)) (hr : Rt g (some .int) 0 Z) {v0 v1 v2 v3 v4 : Int}  {rec7 : Int → Int → Int → MM → RR} (L7 : ∀ (u2 u3 u4 : Int) (h : MM), in32 u2 → in32 u3 → in32 u4 → rec7 u2 u3 u4 h = some Z → G g 7 [(2, v0), (0, v1), (0, u2), (0, u3), (0, u4), (3, 0), (3, 0)] [] h) (cv1 : in32 v1) (cv2 : in32 v2) (cv3 : in32 v3) (cv4 : in32 v4) {h : MM} (hf : f_X3_either_63 F_X3_either F_X3_single n rec7 v0 v1 v2 v3 v4 h = some Z) : G g 63 [(2, v0), (0, v1), (0, v2), (0, v3), (0, v4), (3, 0), (3, 0)] [] h := by
  unfold f_X3_either_63 at hf
  refine r_aload_n C dX3_either_63 rfl ?_
  refine r_dup C dX3_either_64 (by decide) ?_
  obtain ⟨q1, hf⟩ := gf_s hf
  refine r_gf C ct3 (j := 5) (ji := 5) dX3_either_65 q1 rfl rfl (by decide) w_542 rfl (fun c1 => ?_)
  have c1 : in32 _ := c1
  refine r_iconst C dX3_either_68 ?_
  refine r_iadd C dX3_either_69 ?_
  obtain ⟨q2, hf⟩ := pf_s hf
  refine r_pf C ct3 (j := 5) (ji := 5) dX3_either_70 q2 rfl rfl (by decide) w_542 rfl (Or.inl rfl) nar_int (in32_t _) ?_
  obtain ⟨x3, e3, hf⟩ := lb_s hf
  have c3 : in32 x3 := by rw [e3]; exact (in32_t _)
  refine r_iincL C dX3_either_73 rfl e3 (Nat.le_of_ble_eq_true rfl) rfl ?_
  refine r_goto C dX3_either_76 (tgt := 7) (by decide) ?_
  exact G.mask [true, true, true, true, true, false, false] rfl rfl (L7 _ _ _ _ cv2 cv3 c3 hf)
set_option maxRecDepth 20000 in
theorem b_X3_either_7b {g : GT} {Z : Int × MM} {n : Nat} {fA lA : Nat} {F_X3_either : Int → Int → MM → RR} (A_X3_either : AM (gl g) yX3_either cX3_either 7 (some .int) (fA) (lA) [2, 0] 0 (un2 F_X3_either)) {F_X3_single : Int → Int → MM → RR} (A_X3_single : AM (gl g) yX3_single cX3_single 4 (some .int) (fA) (lA) [2, 0] 0 (un2 F_X3_single)) (C : Cx g cX3_either 7 yX3_either (fA + 2) (lA + 47)) (hr : Rt g (some .int) 0 Z) {v0 v1 v2 v3 v4 : Int}  {rec7 : Int → Int → Int → MM → RR} (L7 : ∀ (u2 u3 u4 : Int) (h : MM), in32 u2 → in32 u3 → in32 u4 → rec7 u2 u3 u4 h = some Z → G g 7 [(2, v0), (0, v1), (0, u2), (0, u3), (0, u4), (3, 0), (3, 0)] [] h) (cv1 : in32 v1) (cv2 : in32 v2) (cv3 : in32 v3) (cv4 : in32 v4) {h : MM} (hf : f_X3_either_7b F_X3_either F_X3_single n rec7 v0 v1 v2 v3 v4 h = some Z) : G g 7 [(2, v0), (0, v1), (0, v2), (0, v3), (0, v4), (3, 0), (3, 0)] [] h := by
  unfold f_X3_either_7b at hf
  refine r_iload C dX3_either_7 rfl ?_
  refine r_sipush C dX3_either_9 rfl ?_
  refine r_icmp_ge C dX3_either_12 (tgt := 79) (by decide) cv4 (in32_of rfl) (fun n1 => ?_) (fun n1 => ?_)
  · have hf := ite_p n1 hf
    refine r_iconst C dX3_either_79 ?_
    cases hf
    exact r_jret C hr dX3_either_80 (in32_of rfl)
  · have hf := ite_n n1 hf
    refine r_aload_n C dX3_either_15 rfl ?_
    refine r_iload_n C dX3_either_16 rfl ?_
    obtain ⟨p2, hf⟩ := gk_s hf
    obtain ⟨r2, h2, hq2, hf⟩ := bd_s hf
    refine r_cV1 C A_X3_single cm_X3_single w_637 dX3_either_17 ⟨by omega, by omega⟩ p2 rfl cv1 rfl (Nat.le_of_ble_eq_true rfl) hq2 (by decide) (fun c2 => ?_)
    have c2 : in32 _ := c2
    refine r_istore C dX3_either_20 (Nat.le_of_ble_eq_true rfl) rfl ?_
    refine r_iload C dX3_either_22 rfl ?_
    refine r_iconst C dX3_either_24 ?_
    refine r_icmp_ne C dX3_either_25 (tgt := 30) (by decide) c2 (in32_of rfl) (fun n3 => ?_) (fun n3 => ?_)
    · have hf := ite_n n3 hf
      refine r_iload_n C dX3_either_30 rfl ?_
      refine r_iload C dX3_either_31 rfl ?_
      refine r_iand C dX3_either_33 ?_
      obtain ⟨x4, e4, hf⟩ := lb_s hf
      have c4 : in32 x4 := by rw [e4]; exact (in32_t _)
      refine r_istore_nL C dX3_either_34 e4 (Nat.le_of_ble_eq_true rfl) rfl ?_
      refine r_aload_n C dX3_either_35 rfl ?_
      obtain ⟨p5, hf⟩ := gk_s hf
      obtain ⟨r5, h5, hq5, hf⟩ := bd_s hf
      refine r_cV0 C (am_X3_peek (gl g) n) cm_X3_peek w_641 dX3_either_36 ⟨by omega, by omega⟩ p5 rfl  rfl (Nat.le_of_ble_eq_true rfl) hq5 (by decide) (fun c5 => ?_)
      have c5 : in32 _ := c5
      refine r_istore C dX3_either_39 (Nat.le_of_ble_eq_true rfl) rfl ?_
      refine r_iload C dX3_either_41 rfl ?_
      refine r_bipush C dX3_either_43 rfl ?_
      refine r_icmp_eq C dX3_either_45 (tgt := 63) (by decide) c5 (in32_of rfl) (fun n6 => ?_) (fun n6 => ?_)
      · have hf := ite_p n6 hf
        exact G.mask [true, true, true, true, true, false, false] rfl rfl (b_X3_either_63 A_X3_either A_X3_single C hr L7 cv1 cv2 c4 cv4 hf)
      · have hf := ite_n n6 hf
        refine r_iload_n C dX3_either_48 rfl ?_
        refine r_iload_n C dX3_either_49 rfl ?_
        refine r_ior C dX3_either_50 ?_
        obtain ⟨x7, e7, hf⟩ := lb_s hf
        have c7 : in32 x7 := by rw [e7]; exact (in32_t _)
        refine r_istore_nL C dX3_either_51 e7 (Nat.le_of_ble_eq_true rfl) rfl ?_
        refine r_iconst C dX3_either_52 ?_
        refine r_istore_n C dX3_either_53 (Nat.le_of_ble_eq_true rfl) rfl ?_
        refine r_iload C dX3_either_54 rfl ?_
        refine r_bipush C dX3_either_56 rfl ?_
        refine r_icmp_eq C dX3_either_58 (tgt := 63) (by decide) c5 (in32_of rfl) (fun n8 => ?_) (fun n8 => ?_)
        · have hf := ite_p n8 hf
          exact G.mask [true, true, true, true, true, false, false] rfl rfl (b_X3_either_63 A_X3_either A_X3_single C hr L7 cv1 c7 (in32_of rfl) cv4 hf)
        · have hf := ite_n n8 hf
          refine r_iload_n C dX3_either_61 rfl ?_
          cases hf
          exact r_jret C hr dX3_either_62 c7
    · have hf := ite_p n3 hf
      refine r_iconst C dX3_either_28 ?_
      cases hf
      exact r_jret C hr dX3_either_29 (in32_of rfl)
set_option maxRecDepth 20000 in
theorem l_X3_either_7 {g : GT} {Z : Int × MM} {n : Nat} {fA lA : Nat} {F_X3_either : Int → Int → MM → RR} (A_X3_either : AM (gl g) yX3_either cX3_either 7 (some .int) (fA) (lA) [2, 0] 0 (un2 F_X3_either)) {F_X3_single : Int → Int → MM → RR} (A_X3_single : AM (gl g) yX3_single cX3_single 4 (some .int) (fA) (lA) [2, 0] 0 (un2 F_X3_single)) (C : Cx g cX3_either 7 yX3_either (fA + 2) (lA + 47)) (hr : Rt g (some .int) 0 Z) {v0 v1 : Int}   (cv1 : in32 v1) : ∀ (k : Nat) (v2 v3 v4 : Int) (h : MM), in32 v2 → in32 v3 → in32 v4 → f_X3_either_7 F_X3_either F_X3_single n  v0 v1 k v2 v3 v4 h = some Z → G g 7 [(2, v0), (0, v1), (0, v2), (0, v3), (0, v4), (3, 0), (3, 0)] [] h := by
  intro k
  induction k with
  | zero => intro v2 v3 v4 h cv2 cv3 cv4 hf; exact absurd hf (by intro z; cases z)
  | succ k ih => intro v2 v3 v4 h cv2 cv3 cv4 hf; exact b_X3_either_7b A_X3_either A_X3_single C hr (rec7 := f_X3_either_7 F_X3_either F_X3_single n  v0 v1 k)  ih cv1 cv2 cv3 cv4 (show f_X3_either_7b F_X3_either F_X3_single n  (f_X3_either_7 F_X3_either F_X3_single n  v0 v1 k) v0 v1 v2 v3 v4 h = some Z from hf)
set_option maxRecDepth 20000 in
theorem e_X3_either {g : GT} {Z : Int × MM} {n : Nat} {fA lA : Nat} {F_X3_either : Int → Int → MM → RR} (A_X3_either : AM (gl g) yX3_either cX3_either 7 (some .int) (fA) (lA) [2, 0] 0 (un2 F_X3_either)) {F_X3_single : Int → Int → MM → RR} (A_X3_single : AM (gl g) yX3_single cX3_single 4 (some .int) (fA) (lA) [2, 0] 0 (un2 F_X3_single)) (C : Cx g cX3_either 7 yX3_either (fA + 2) (lA + 47)) (hr : Rt g (some .int) 0 Z) {v0 v1 : Int} (cv0 : cK 2 v0) (cv1 : cK 0 v1) {h : MM} (hf : f_X3_either_op F_X3_either F_X3_single n v0 v1 h = some Z) : G g 0 [(2, v0), (0, v1), (3, 0), (3, 0), (3, 0), (3, 0), (3, 0)] [] h := by
  have cv1 : in32 v1 := cv1
  unfold f_X3_either_op at hf
  refine r_iconst C dX3_either_0 ?_
  refine r_istore_n C dX3_either_1 (Nat.le_of_ble_eq_true rfl) rfl ?_
  refine r_iconst C dX3_either_2 ?_
  refine r_istore_n C dX3_either_3 (Nat.le_of_ble_eq_true rfl) rfl ?_
  refine r_iconst C dX3_either_4 ?_
  refine r_istore C dX3_either_5 (Nat.le_of_ble_eq_true rfl) rfl ?_
  exact G.mask [true, true, true, true, true, false, false] rfl rfl (l_X3_either_7 A_X3_either A_X3_single C hr  cv1 _ _ _ _ _ (in32_of rfl) (in32_of rfl) (in32_of rfl) hf)
set_option maxRecDepth 20000 in
theorem b_X3_single_89 {g : GT} {Z : Int × MM} {n : Nat} {fA lA : Nat} {F_X3_either : Int → Int → MM → RR} (A_X3_either : AM (gl g) yX3_either cX3_either 7 (some .int) (fA) (lA) [2, 0] 0 (un2 F_X3_either)) {F_X3_single : Int → Int → MM → RR} (A_X3_single : AM (gl g) yX3_single cX3_single 4 (some .int) (fA) (lA) [2, 0] 0 (un2 F_X3_single)) (C : Cx g cX3_single 4 yX3_single (fA + 2) (lA + 47)) (hr : Rt g (some .int) 0 Z)     {h : MM} (hf : f_X3_single_89 F_X3_either F_X3_single n   h = some Z) : G g 89 [(3, 0), (3, 0), (3, 0), (3, 0)] [] h := by
  unfold f_X3_single_89 at hf
  refine r_iconst C dX3_single_89 ?_
  cases hf
  exact r_jret C hr dX3_single_90 (in32_of rfl)
set_option maxRecDepth 20000 in
theorem b_X3_single_66 {g : GT} {Z : Int × MM} {n : Nat} {fA lA : Nat} {F_X3_either : Int → Int → MM → RR} (A_X3_either : AM (gl g) yX3_either cX3_either 7 (some .int) (fA) (lA) [2, 0] 0 (un2 F_X3_either)) {F_X3_single : Int → Int → MM → RR} (A_X3_single : AM (gl g) yX3_single cX3_single 4 (some .int) (fA) (lA) [2, 0] 0 (un2 F_X3_single)) (C : Cx g cX3_single 4 yX3_single (fA + 2) (lA + 47)) (hr : Rt g (some .int) 0 Z) {s0 : Int}    (cs0 : in32 s0) {h : MM} (hf : f_X3_single_66 F_X3_either F_X3_single n  s0 h = some Z) : G g 66 [(3, 0), (3, 0), (3, 0), (3, 0)] [(0, s0)] h := by
  unfold f_X3_single_66 at hf
  cases hf
  exact r_jret C hr dX3_single_66 cs0
set_option maxRecDepth 20000 in
theorem b_X3_single_23 {g : GT} {Z : Int × MM} {n : Nat} {fA lA : Nat} {F_X3_either : Int → Int → MM → RR} (A_X3_either : AM (gl g) yX3_either cX3_either 7 (some .int) (fA) (lA) [2, 0] 0 (un2 F_X3_either)) {F_X3_single : Int → Int → MM → RR} (A_X3_single : AM (gl g) yX3_single cX3_single 4 (some .int) (fA) (lA) [2, 0] 0 (un2 F_X3_single)) (C : Cx g cX3_single 4 yX3_single (fA + 2) (lA + 47)) (hr : Rt g (some .int) 0 Z) {v0 v1 v2 : Int}    (cv1 : in32 v1) (cv2 : in32 v2) {h : MM} (hf : f_X3_single_23 F_X3_either F_X3_single n  v0 v1 v2 h = some Z) : G g 23 [(2, v0), (0, v1), (0, v2), (3, 0)] [] h := by
  unfold f_X3_single_23 at hf
  refine r_iload_n C dX3_single_23 rfl ?_
  refine r_iconst C dX3_single_24 ?_
  refine r_icmp_lt C dX3_single_25 (tgt := 30) (by decide) cv1 (in32_of rfl) (fun n1 => ?_) (fun n1 => ?_)
  · have hf := ite_p n1 hf
    refine r_aload_n C dX3_single_30 rfl ?_
    refine r_dup C dX3_single_31 (by decide) ?_
    obtain ⟨q2, hf⟩ := gf_s hf
    refine r_gf C ct3 (j := 5) (ji := 5) dX3_single_32 q2 rfl rfl (by decide) w_542 rfl (fun c2 => ?_)
    have c2 : in32 _ := c2
    refine r_iconst C dX3_single_35 ?_
    refine r_iadd C dX3_single_36 ?_
    obtain ⟨q3, hf⟩ := pf_s hf
    refine r_pf C ct3 (j := 5) (ji := 5) dX3_single_37 q3 rfl rfl (by decide) w_542 rfl (Or.inl rfl) nar_int (in32_t _) ?_
    refine r_iload_n C dX3_single_40 rfl ?_
    refine r_bipush C dX3_single_41 rfl ?_
    refine r_icmp_ne C dX3_single_43 (tgt := 67) (by decide) cv2 (in32_of rfl) (fun n4 => ?_) (fun n4 => ?_)
    · have hf := ite_n n4 hf
      refine r_aload_n C dX3_single_67 rfl ?_
      refine r_iload_n C dX3_single_68 rfl ?_
      refine r_iconst C dX3_single_69 ?_
      refine r_iadd C dX3_single_70 ?_
      obtain ⟨p5, hf⟩ := gk_s hf
      obtain ⟨r5, h5, hq5, hf⟩ := bd_s hf
      refine r_cV1 C A_X3_either cm_X3_either w_633 dX3_single_71 ⟨by omega, by omega⟩ p5 rfl (in32_t _) rfl (Nat.le_of_ble_eq_true rfl) hq5 (by decide) (fun c5 => ?_)
      have c5 : in32 _ := c5
      refine r_istore_n C dX3_single_74 (Nat.le_of_ble_eq_true rfl) rfl ?_
      refine r_iload_n C dX3_single_75 rfl ?_
      refine r_iconst C dX3_single_76 ?_
      refine r_icmp_eq C dX3_single_77 (tgt := 89) (by decide) c5 (in32_of rfl) (fun n6 => ?_) (fun n6 => ?_)
      · have hf := ite_p n6 hf
        exact G.mask [false, false, false, false] rfl rfl (b_X3_single_89 A_X3_either A_X3_single C hr   hf)
      · have hf := ite_n n6 hf
        refine r_aload_n C dX3_single_80 rfl ?_
        obtain ⟨p7, hf⟩ := gk_s hf
        obtain ⟨r7, h7, hq7, hf⟩ := bd_s hf
        refine r_cV0 C (am_X3_peek (gl g) n) cm_X3_peek w_641 dX3_single_81 ⟨by omega, by omega⟩ p7 rfl  rfl (Nat.le_of_ble_eq_true rfl) hq7 (by decide) (fun c7 => ?_)
        have c7 : in32 _ := c7
        refine r_bipush C dX3_single_84 rfl ?_
        refine r_icmp_eq C dX3_single_86 (tgt := 91) (by decide) c7 (in32_of rfl) (fun n8 => ?_) (fun n8 => ?_)
        · have hf := ite_p n8 hf
          refine r_aload_n C dX3_single_91 rfl ?_
          refine r_dup C dX3_single_92 (by decide) ?_
          obtain ⟨q9, hf⟩ := gf_s hf
          refine r_gf C ct3 (j := 5) (ji := 5) dX3_single_93 q9 rfl rfl (by decide) w_542 rfl (fun c9 => ?_)
          have c9 : in32 _ := c9
          refine r_iconst C dX3_single_96 ?_
          refine r_iadd C dX3_single_97 ?_
          obtain ⟨q10, hf⟩ := pf_s hf
          refine r_pf C ct3 (j := 5) (ji := 5) dX3_single_98 q10 rfl rfl (by decide) w_542 rfl (Or.inl rfl) nar_int (in32_t _) ?_
          refine r_iload_n C dX3_single_101 rfl ?_
          cases hf
          exact r_jret C hr dX3_single_102 c5
        · have hf := ite_n n8 hf
          exact G.mask [false, false, false, false] rfl rfl (b_X3_single_89 A_X3_either A_X3_single C hr   hf)
    · have hf := ite_p n4 hf
      refine r_aload_n C dX3_single_46 rfl ?_
      refine r_iload_n C dX3_single_47 rfl ?_
      refine r_iconst C dX3_single_48 ?_
      refine r_iadd C dX3_single_49 ?_
      obtain ⟨p11, hf⟩ := gk_s hf
      obtain ⟨r11, h11, hq11, hf⟩ := bd_s hf
      refine r_cV1 C A_X3_single cm_X3_single w_637 dX3_single_50 ⟨by omega, by omega⟩ p11 rfl (in32_t _) rfl (Nat.le_of_ble_eq_true rfl) hq11 (by decide) (fun c11 => ?_)
      have c11 : in32 _ := c11
      refine r_istore_n C dX3_single_53 (Nat.le_of_ble_eq_true rfl) rfl ?_
      refine r_iload_n C dX3_single_54 rfl ?_
      refine r_iconst C dX3_single_55 ?_
      refine r_icmp_ne C dX3_single_56 (tgt := 63) (by decide) c11 (in32_of rfl) (fun n12 => ?_) (fun n12 => ?_)
      · have hf := ite_n n12 hf
        refine r_iconst C dX3_single_63 ?_
        refine r_iload_n C dX3_single_64 rfl ?_
        refine r_isub C dX3_single_65 ?_
        exact G.mask [false, false, false, false] rfl rfl (b_X3_single_66 A_X3_either A_X3_single C hr  (in32_t _) hf)
      · have hf := ite_p n12 hf
        refine r_iconst C dX3_single_59 ?_
        refine r_goto C dX3_single_60 (tgt := 66) (by decide) ?_
        exact G.mask [false, false, false, false] rfl rfl (b_X3_single_66 A_X3_either A_X3_single C hr  (in32_of rfl) hf)
  · have hf := ite_n n1 hf
    refine r_iconst C dX3_single_28 ?_
    cases hf
    exact r_jret C hr dX3_single_29 (in32_of rfl)
set_option maxRecDepth 20000 in
theorem e_X3_single {g : GT} {Z : Int × MM} {n : Nat} {fA lA : Nat} {F_X3_either : Int → Int → MM → RR} (A_X3_either : AM (gl g) yX3_either cX3_either 7 (some .int) (fA) (lA) [2, 0] 0 (un2 F_X3_either)) {F_X3_single : Int → Int → MM → RR} (A_X3_single : AM (gl g) yX3_single cX3_single 4 (some .int) (fA) (lA) [2, 0] 0 (un2 F_X3_single)) (C : Cx g cX3_single 4 yX3_single (fA + 2) (lA + 47)) (hr : Rt g (some .int) 0 Z) {v0 v1 : Int} (cv0 : cK 2 v0) (cv1 : cK 0 v1) {h : MM} (hf : f_X3_single_op F_X3_either F_X3_single n v0 v1 h = some Z) : G g 0 [(2, v0), (0, v1), (3, 0), (3, 0)] [] h := by
  have cv1 : in32 v1 := cv1
  unfold f_X3_single_op at hf
  refine r_aload_n C dX3_single_0 rfl ?_
  obtain ⟨p1, hf⟩ := gk_s hf
  obtain ⟨r1, h1, hq1, hf⟩ := bd_s hf
  refine r_cV0 C (am_X3_peek (gl g) n) cm_X3_peek w_641 dX3_single_1 ⟨by omega, by omega⟩ p1 rfl  rfl (Nat.le_of_ble_eq_true rfl) hq1 (by decide) (fun c1 => ?_)
  have c1 : in32 _ := c1
  refine r_istore_n C dX3_single_4 (Nat.le_of_ble_eq_true rfl) rfl ?_
  refine r_iload_n C dX3_single_5 rfl ?_
  refine r_bipush C dX3_single_6 rfl ?_
  refine r_icmp_eq C dX3_single_8 (tgt := 23) (by decide) c1 (in32_of rfl) (fun n2 => ?_) (fun n2 => ?_)
  · have hf := ite_p n2 hf
    exact G.mask [true, true, true, false] rfl rfl (b_X3_single_23 A_X3_either A_X3_single C hr  cv1 c1 hf)
  · have hf := ite_n n2 hf
    refine r_iload_n C dX3_single_11 rfl ?_
    refine r_bipush C dX3_single_12 rfl ?_
    refine r_icmp_eq C dX3_single_14 (tgt := 23) (by decide) c1 (in32_of rfl) (fun n3 => ?_) (fun n3 => ?_)
    · have hf := ite_p n3 hf
      exact G.mask [true, true, true, false] rfl rfl (b_X3_single_23 A_X3_either A_X3_single C hr  cv1 c1 hf)
    · have hf := ite_n n3 hf
      refine r_aload_n C dX3_single_17 rfl ?_
      refine r_iload_n C dX3_single_18 rfl ?_
      obtain ⟨p4, hf⟩ := gk_s hf
      obtain ⟨r4, h4, hq4, hf⟩ := bd_s hf
      refine r_cV1 C (am_X3_compared (gl g) n) cm_X3_compared w_645 dX3_single_19 ⟨by omega, by omega⟩ p4 rfl c1 rfl (Nat.le_of_ble_eq_true rfl) hq4 (by decide) (fun c4 => ?_)
      have c4 : in32 _ := c4
      cases hf
      exact r_jret C hr dX3_single_22 c4
set_option maxRecDepth 20000 in
theorem at_t_X3_either (l : Launch) (n : Nat) : ∀ k : Nat, AM l yX3_either cX3_either 7 (some .int) (2 * k) (47 * k) [2, 0] 0 (un2 ((t_X3_either n k).1)) ∧ AM l yX3_single cX3_single 4 (some .int) (2 * k) (47 * k) [2, 0] 0 (un2 ((t_X3_either n k).2)) := by
  intro k
  induction k with
  | zero =>
    exact ⟨AM.none (fun xs h Z hx q => by
      obtain ⟨a0, a1, rfl, c0, c1⟩ := canL_2 hx
      cases q), AM.none (fun xs h Z hx q => by
      obtain ⟨a0, a1, rfl, c0, c1⟩ := canL_2 hx
      cases q)⟩
  | succ k ih =>
    obtain ⟨i_X3_either, i_X3_single⟩ := ih
    exact ⟨AM.intro (by decide) (fun xs hx => by
      obtain ⟨a0, a1, rfl, c0, c1⟩ := canL_2 hx
      exact Nat.le_of_ble_eq_true rfl) (fun g xs h Z hl C hr hx hf => by
      subst hl
      obtain ⟨a0, a1, rfl, c0, c1⟩ := canL_2 hx
      exact e_X3_either (n := n) i_X3_either i_X3_single C hr c0 c1 hf), AM.intro (by decide) (fun xs hx => by
      obtain ⟨a0, a1, rfl, c0, c1⟩ := canL_2 hx
      exact Nat.le_of_ble_eq_true rfl) (fun g xs h Z hl C hr hx hf => by
      subst hl
      obtain ⟨a0, a1, rfl, c0, c1⟩ := canL_2 hx
      exact e_X3_single (n := n) i_X3_either i_X3_single C hr c0 c1 hf)⟩
set_option maxRecDepth 20000 in
theorem am_X3_either (l : Launch) (n : Nat) : AM l yX3_either cX3_either 7 (some .int) 32 752 [2, 0] 0 (un2 (f_X3_either n)) := (at_t_X3_either l n 16).1
set_option maxRecDepth 20000 in
theorem am_X3_single (l : Launch) (n : Nat) : AM l yX3_single cX3_single 4 (some .int) 32 752 [2, 0] 0 (un2 (f_X3_single n)) := (at_t_X3_either l n 16).2
/-! LinesPromised$Order.readYesOrNo()I -/
theorem dX3_readYesOrNo_0 : decode cX3_readYesOrNo 0 = .ok (.aload_n 0, 1) := by decide +kernel
theorem dX3_readYesOrNo_1 : decode cX3_readYesOrNo 1 = .ok (.invokevirtual 97, 3) := by decide +kernel
theorem dX3_readYesOrNo_4 : decode cX3_readYesOrNo 4 = .ok (.istore_n 1, 1) := by decide +kernel
theorem dX3_readYesOrNo_5 : decode cX3_readYesOrNo 5 = .ok (.iload_n 1, 1) := by decide +kernel
theorem dX3_readYesOrNo_6 : decode cX3_readYesOrNo 6 = .ok (.bipush 121, 2) := by decide +kernel
theorem dX3_readYesOrNo_8 : decode cX3_readYesOrNo 8 = .ok (.if_icmp .eq 11, 3) := by decide +kernel
theorem dX3_readYesOrNo_11 : decode cX3_readYesOrNo 11 = .ok (.iload_n 1, 1) := by decide +kernel
theorem dX3_readYesOrNo_12 : decode cX3_readYesOrNo 12 = .ok (.bipush 110, 2) := by decide +kernel
theorem dX3_readYesOrNo_14 : decode cX3_readYesOrNo 14 = .ok (.if_icmp .eq 5, 3) := by decide +kernel
theorem dX3_readYesOrNo_17 : decode cX3_readYesOrNo 17 = .ok (.iconst (-1), 1) := by decide +kernel
theorem dX3_readYesOrNo_18 : decode cX3_readYesOrNo 18 = .ok (.ireturn, 1) := by decide +kernel
theorem dX3_readYesOrNo_19 : decode cX3_readYesOrNo 19 = .ok (.aload_n 0, 1) := by decide +kernel
theorem dX3_readYesOrNo_20 : decode cX3_readYesOrNo 20 = .ok (.dup, 1) := by decide +kernel
theorem dX3_readYesOrNo_21 : decode cX3_readYesOrNo 21 = .ok (.getfield 39, 3) := by decide +kernel
theorem dX3_readYesOrNo_24 : decode cX3_readYesOrNo 24 = .ok (.iconst 1, 1) := by decide +kernel
theorem dX3_readYesOrNo_25 : decode cX3_readYesOrNo 25 = .ok (.iadd, 1) := by decide +kernel
theorem dX3_readYesOrNo_26 : decode cX3_readYesOrNo 26 = .ok (.putfield 39, 3) := by decide +kernel
theorem dX3_readYesOrNo_29 : decode cX3_readYesOrNo 29 = .ok (.iload_n 1, 1) := by decide +kernel
theorem dX3_readYesOrNo_30 : decode cX3_readYesOrNo 30 = .ok (.bipush 121, 2) := by decide +kernel
theorem dX3_readYesOrNo_32 : decode cX3_readYesOrNo 32 = .ok (.if_icmp .ne 7, 3) := by decide +kernel
theorem dX3_readYesOrNo_35 : decode cX3_readYesOrNo 35 = .ok (.iconst 1, 1) := by decide +kernel
theorem dX3_readYesOrNo_36 : decode cX3_readYesOrNo 36 = .ok (.goto 4, 3) := by decide +kernel
theorem dX3_readYesOrNo_39 : decode cX3_readYesOrNo 39 = .ok (.iconst 0, 1) := by decide +kernel
theorem dX3_readYesOrNo_40 : decode cX3_readYesOrNo 40 = .ok (.ireturn, 1) := by decide +kernel
theorem cm_X3_readYesOrNo : CM yX3_readYesOrNo cX3_readYesOrNo 2 (some .int) 0 3 := ⟨w_662, w_9, w_663, w_98, ⟨by decide +kernel, by decide +kernel, by decide +kernel⟩, ⟨_, _, rfl⟩, by decide⟩
noncomputable def f_X3_readYesOrNo_40 (n : Nat)  (s0 : Int) (h : MM) : RR :=
  some (s0, h)
noncomputable def f_X3_readYesOrNo_19 (n : Nat)  (v0 v1 : Int) (h : MM) : RR :=
  gf h v0 3 5 fun r1 =>
  pf h v0 3 5 (wr (r1 + 1)) fun h2 =>
  if v1 = 121 then
    f_X3_readYesOrNo_40 n 1 h2
  else
  f_X3_readYesOrNo_40 n 0 h2
noncomputable def f_X3_readYesOrNo (n : Nat) (v0 : Int) (h : MM) : RR :=
  gk h v0 3 <|
  bd (f_X3_peek n v0 h) fun r1 h1 =>
  if r1 = 121 then
    f_X3_readYesOrNo_19 n v0 r1 h1
  else
  if r1 = 110 then
    f_X3_readYesOrNo_19 n v0 r1 h1
  else
  some ((-1), h1)
set_option maxRecDepth 20000 in
theorem b_X3_readYesOrNo_40 {g : GT} {Z : Int × MM} {n : Nat} (C : Cx g cX3_readYesOrNo 2 yX3_readYesOrNo 1 20) (hr : Rt g (some .int) 0 Z) {s0 : Int}    (cs0 : in32 s0) {h : MM} (hf : f_X3_readYesOrNo_40 n  s0 h = some Z) : G g 40 [(3, 0), (3, 0)] [(0, s0)] h := by
  unfold f_X3_readYesOrNo_40 at hf
  cases hf
  exact r_jret C hr dX3_readYesOrNo_40 cs0
set_option maxRecDepth 20000 in
theorem b_X3_readYesOrNo_19 {g : GT} {Z : Int × MM} {n : Nat} (C : Cx g cX3_readYesOrNo 2 yX3_readYesOrNo 1 20) (hr : Rt g (some .int) 0 Z) {v0 v1 : Int}    (cv1 : in32 v1) {h : MM} (hf : f_X3_readYesOrNo_19 n  v0 v1 h = some Z) : G g 19 [(2, v0), (0, v1)] [] h := by
  unfold f_X3_readYesOrNo_19 at hf
  refine r_aload_n C dX3_readYesOrNo_19 rfl ?_
  refine r_dup C dX3_readYesOrNo_20 (by decide) ?_
  obtain ⟨q1, hf⟩ := gf_s hf
  refine r_gf C ct3 (j := 5) (ji := 5) dX3_readYesOrNo_21 q1 rfl rfl (by decide) w_542 rfl (fun c1 => ?_)
  have c1 : in32 _ := c1
  refine r_iconst C dX3_readYesOrNo_24 ?_
  refine r_iadd C dX3_readYesOrNo_25 ?_
  obtain ⟨q2, hf⟩ := pf_s hf
  refine r_pf C ct3 (j := 5) (ji := 5) dX3_readYesOrNo_26 q2 rfl rfl (by decide) w_542 rfl (Or.inl rfl) nar_int (in32_t _) ?_
  refine r_iload_n C dX3_readYesOrNo_29 rfl ?_
  refine r_bipush C dX3_readYesOrNo_30 rfl ?_
  refine r_icmp_ne C dX3_readYesOrNo_32 (tgt := 39) (by decide) cv1 (in32_of rfl) (fun n3 => ?_) (fun n3 => ?_)
  · have hf := ite_n n3 hf
    refine r_iconst C dX3_readYesOrNo_39 ?_
    exact G.mask [false, false] rfl rfl (b_X3_readYesOrNo_40 C hr  (in32_of rfl) hf)
  · have hf := ite_p n3 hf
    refine r_iconst C dX3_readYesOrNo_35 ?_
    refine r_goto C dX3_readYesOrNo_36 (tgt := 40) (by decide) ?_
    exact G.mask [false, false] rfl rfl (b_X3_readYesOrNo_40 C hr  (in32_of rfl) hf)
set_option maxRecDepth 20000 in
theorem e_X3_readYesOrNo {g : GT} {Z : Int × MM} {n : Nat} (C : Cx g cX3_readYesOrNo 2 yX3_readYesOrNo 1 20) (hr : Rt g (some .int) 0 Z) {v0 : Int} (cv0 : cK 2 v0) {h : MM} (hf : f_X3_readYesOrNo n v0 h = some Z) : G g 0 [(2, v0), (3, 0)] [] h := by
  unfold f_X3_readYesOrNo at hf
  refine r_aload_n C dX3_readYesOrNo_0 rfl ?_
  obtain ⟨p1, hf⟩ := gk_s hf
  obtain ⟨r1, h1, hq1, hf⟩ := bd_s hf
  refine r_cV0 C (am_X3_peek (gl g) n) cm_X3_peek w_641 dX3_readYesOrNo_1 ⟨Nat.le_of_ble_eq_true rfl, Nat.le_of_ble_eq_true rfl⟩ p1 rfl  rfl (Nat.le_of_ble_eq_true rfl) hq1 (by decide) (fun c1 => ?_)
  have c1 : in32 _ := c1
  refine r_istore_n C dX3_readYesOrNo_4 (Nat.le_of_ble_eq_true rfl) rfl ?_
  refine r_iload_n C dX3_readYesOrNo_5 rfl ?_
  refine r_bipush C dX3_readYesOrNo_6 rfl ?_
  refine r_icmp_eq C dX3_readYesOrNo_8 (tgt := 19) (by decide) c1 (in32_of rfl) (fun n2 => ?_) (fun n2 => ?_)
  · have hf := ite_p n2 hf
    exact G.mask [true, true] rfl rfl (b_X3_readYesOrNo_19 C hr  c1 hf)
  · have hf := ite_n n2 hf
    refine r_iload_n C dX3_readYesOrNo_11 rfl ?_
    refine r_bipush C dX3_readYesOrNo_12 rfl ?_
    refine r_icmp_eq C dX3_readYesOrNo_14 (tgt := 19) (by decide) c1 (in32_of rfl) (fun n3 => ?_) (fun n3 => ?_)
    · have hf := ite_p n3 hf
      exact G.mask [true, true] rfl rfl (b_X3_readYesOrNo_19 C hr  c1 hf)
    · have hf := ite_n n3 hf
      refine r_iconst C dX3_readYesOrNo_17 ?_
      cases hf
      exact r_jret C hr dX3_readYesOrNo_18 (in32_of rfl)
set_option maxRecDepth 20000 in
theorem am_X3_readYesOrNo (l : Launch) (n : Nat) : AM l yX3_readYesOrNo cX3_readYesOrNo 2 (some .int) 1 20 [2] 0 (un1 (f_X3_readYesOrNo n)) := by
  refine AM.intro (by decide) (fun xs hx => ?_) (fun g xs h Z hl C hr hx hf => ?_)
  · obtain ⟨a0, rfl, c0⟩ := canL_1 hx
    exact Nat.le_of_ble_eq_true rfl
  · obtain ⟨a0, rfl, c0⟩ := canL_1 hx
    have hf := (un1_e _ a0 _).symm.trans hf
    exact e_X3_readYesOrNo (n := n) C hr c0 hf
/-! LinesPromised$Order.readClause(I)Z -/
theorem dX3_readClause_0 : decode cX3_readClause 0 = .ok (.aload_n 0, 1) := by decide +kernel
theorem dX3_readClause_1 : decode cX3_readClause 1 = .ok (.invokevirtual 64, 3) := by decide +kernel
theorem dX3_readClause_4 : decode cX3_readClause 4 = .ok (.istore_n 2, 1) := by decide +kernel
theorem dX3_readClause_5 : decode cX3_readClause 5 = .ok (.iload_n 2, 1) := by decide +kernel
theorem dX3_readClause_6 : decode cX3_readClause 6 = .ok (.iconst (-1), 1) := by decide +kernel
theorem dX3_readClause_7 : decode cX3_readClause 7 = .ok (.if_icmp .ne 5, 3) := by decide +kernel
theorem dX3_readClause_10 : decode cX3_readClause 10 = .ok (.iconst 0, 1) := by decide +kernel
theorem dX3_readClause_11 : decode cX3_readClause 11 = .ok (.ireturn, 1) := by decide +kernel
theorem dX3_readClause_12 : decode cX3_readClause 12 = .ok (.aload_n 0, 1) := by decide +kernel
theorem dX3_readClause_13 : decode cX3_readClause 13 = .ok (.getfield 39, 3) := by decide +kernel
theorem dX3_readClause_16 : decode cX3_readClause 16 = .ok (.istore_n 3, 1) := by decide +kernel
theorem dX3_readClause_17 : decode cX3_readClause 17 = .ok (.iload_n 2, 1) := by decide +kernel
theorem dX3_readClause_18 : decode cX3_readClause 18 = .ok (.bipush 6, 2) := by decide +kernel
theorem dX3_readClause_20 : decode cX3_readClause 20 = .ok (.if_icmp .ne 11, 3) := by decide +kernel
theorem dX3_readClause_23 : decode cX3_readClause 23 = .ok (.aload_n 0, 1) := by decide +kernel
theorem dX3_readClause_24 : decode cX3_readClause 24 = .ok (.iconst 0, 1) := by decide +kernel
theorem dX3_readClause_25 : decode cX3_readClause 25 = .ok (.invokevirtual 46, 3) := by decide +kernel
theorem dX3_readClause_28 : decode cX3_readClause 28 = .ok (.goto 19, 3) := by decide +kernel
theorem dX3_readClause_31 : decode cX3_readClause 31 = .ok (.iload_n 2, 1) := by decide +kernel
theorem dX3_readClause_32 : decode cX3_readClause 32 = .ok (.iconst 5, 1) := by decide +kernel
theorem dX3_readClause_33 : decode cX3_readClause 33 = .ok (.if_icmp .ne 10, 3) := by decide +kernel
theorem dX3_readClause_36 : decode cX3_readClause 36 = .ok (.aload_n 0, 1) := by decide +kernel
theorem dX3_readClause_37 : decode cX3_readClause 37 = .ok (.invokevirtual 68, 3) := by decide +kernel
theorem dX3_readClause_40 : decode cX3_readClause 40 = .ok (.goto 7, 3) := by decide +kernel
theorem dX3_readClause_43 : decode cX3_readClause 43 = .ok (.aload_n 0, 1) := by decide +kernel
theorem dX3_readClause_44 : decode cX3_readClause 44 = .ok (.invokevirtual 71, 3) := by decide +kernel
theorem dX3_readClause_47 : decode cX3_readClause 47 = .ok (.istore 4, 2) := by decide +kernel
theorem dX3_readClause_49 : decode cX3_readClause 49 = .ok (.iload 4, 2) := by decide +kernel
theorem dX3_readClause_51 : decode cX3_readClause 51 = .ok (.iconst (-1), 1) := by decide +kernel
theorem dX3_readClause_52 : decode cX3_readClause 52 = .ok (.if_icmp .ne 5, 3) := by decide +kernel
theorem dX3_readClause_55 : decode cX3_readClause 55 = .ok (.iconst 0, 1) := by decide +kernel
theorem dX3_readClause_56 : decode cX3_readClause 56 = .ok (.ireturn, 1) := by decide +kernel
theorem dX3_readClause_57 : decode cX3_readClause 57 = .ok (.aload_n 0, 1) := by decide +kernel
theorem dX3_readClause_58 : decode cX3_readClause 58 = .ok (.getfield 9, 3) := by decide +kernel
theorem dX3_readClause_61 : decode cX3_readClause 61 = .ok (.iload_n 2, 1) := by decide +kernel
theorem dX3_readClause_62 : decode cX3_readClause 62 = .ok (.iload_n 2, 1) := by decide +kernel
theorem dX3_readClause_63 : decode cX3_readClause 63 = .ok (.bipush 6, 2) := by decide +kernel
theorem dX3_readClause_65 : decode cX3_readClause 65 = .ok (.if_icmp .ne 7, 3) := by decide +kernel
theorem dX3_readClause_68 : decode cX3_readClause 68 = .ok (.iload_n 3, 1) := by decide +kernel
theorem dX3_readClause_69 : decode cX3_readClause 69 = .ok (.goto 5, 3) := by decide +kernel
theorem dX3_readClause_72 : decode cX3_readClause 72 = .ok (.iload 4, 2) := by decide +kernel
theorem dX3_readClause_74 : decode cX3_readClause 74 = .ok (.iastore, 1) := by decide +kernel
theorem dX3_readClause_75 : decode cX3_readClause 75 = .ok (.aload_n 0, 1) := by decide +kernel
theorem dX3_readClause_76 : decode cX3_readClause 76 = .ok (.getfield 15, 3) := by decide +kernel
theorem dX3_readClause_79 : decode cX3_readClause 79 = .ok (.iload_n 2, 1) := by decide +kernel
theorem dX3_readClause_80 : decode cX3_readClause 80 = .ok (.iload_n 1, 1) := by decide +kernel
theorem dX3_readClause_81 : decode cX3_readClause 81 = .ok (.iastore, 1) := by decide +kernel
theorem dX3_readClause_82 : decode cX3_readClause 82 = .ok (.iconst 1, 1) := by decide +kernel
theorem dX3_readClause_83 : decode cX3_readClause 83 = .ok (.ireturn, 1) := by decide +kernel
theorem cm_X3_readClause : CM yX3_readClause cX3_readClause 5 (some .boolean) 1 3 := ⟨w_562, w_0, w_563, w_98, ⟨by decide +kernel, by decide +kernel, by decide +kernel⟩, ⟨_, _, rfl⟩, by decide⟩
noncomputable def f_X3_readClause_74 (n : Nat)  (v0 v1 v2 s0 s1 s2 : Int) (h : MM) : RR :=
  wt h s0 100 s1 s2 fun h1 =>
  gf h1 v0 3 3 fun r2 =>
  wt h1 r2 100 v2 v1 fun h3 =>
  ck (isb 1) <|
  some (1, h3)
noncomputable def f_X3_readClause_47 (n : Nat)  (v0 v1 v2 v3 s0 : Int) (h : MM) : RR :=
  if s0 = (-1) then
    ck (isb 0) <|
    some (0, h)
  else
  gf h v0 3 2 fun r2 =>
  if v2 = 6 then
    f_X3_readClause_74 n v0 v1 v2 r2 v2 v3 h
  else
  f_X3_readClause_74 n v0 v1 v2 r2 v2 s0 h
noncomputable def f_X3_readClause (n : Nat) (v0 v1 : Int) (h : MM) : RR :=
  gk h v0 3 <|
  bd (f_X3_readWord n v0 h) fun r1 h1 =>
  if r1 = (-1) then
    ck (isb 0) <|
    some (0, h1)
  else
  gf h1 v0 3 5 fun r3 =>
  if r1 = 6 then
    gk h1 v0 3 <|
    bd (f_X3_either n v0 0 h1) fun r8 h8 =>
    f_X3_readClause_47 n v0 v1 r1 r3 r8 h8
  else
  if r1 = 5 then
    gk h1 v0 3 <|
    bd (f_X3_readYesOrNo n v0 h1) fun r7 h7 =>
    f_X3_readClause_47 n v0 v1 r1 r3 r7 h7
  else
  gk h1 v0 3 <|
  bd (f_X3_readNumber n v0 h1) fun r6 h6 =>
  f_X3_readClause_47 n v0 v1 r1 r3 r6 h6
set_option maxRecDepth 20000 in
theorem b_X3_readClause_74 {g : GT} {Z : Int × MM} {n : Nat} (C : Cx g cX3_readClause 5 yX3_readClause 33 778) (hr : Rt g (some .boolean) 0 Z) {v0 v1 v2 s0 s1 s2 : Int}    (cv1 : in32 v1) (cv2 : in32 v2) (cs1 : in32 s1) (cs2 : in32 s2) {h : MM} (hf : f_X3_readClause_74 n  v0 v1 v2 s0 s1 s2 h = some Z) : G g 74 [(2, v0), (0, v1), (0, v2), (3, 0), (3, 0)] [(0, s2), (0, s1), (2, s0)] h := by
  unfold f_X3_readClause_74 at hf
  obtain ⟨q1, hf⟩ := wt_s hf
  refine r_iast C dX3_readClause_74 q1 rfl cs2 ?_
  refine r_aload_n C dX3_readClause_75 rfl ?_
  obtain ⟨q2, hf⟩ := gf_s hf
  refine r_gf C ct3 (j := 3) (ji := 3) dX3_readClause_76 q2 rfl rfl (by decide) w_537 rfl (fun c2 => ?_)
  refine r_iload_n C dX3_readClause_79 rfl ?_
  refine r_iload_n C dX3_readClause_80 rfl ?_
  obtain ⟨q3, hf⟩ := wt_s hf
  refine r_iast C dX3_readClause_81 q3 rfl cv1 ?_
  refine r_iconst C dX3_readClause_82 ?_
  obtain ⟨b4, hf⟩ := ck_s hf
  cases hf
  exact r_zret C hr dX3_readClause_83 b4
set_option maxRecDepth 20000 in
theorem b_X3_readClause_47 {g : GT} {Z : Int × MM} {n : Nat} (C : Cx g cX3_readClause 5 yX3_readClause 33 778) (hr : Rt g (some .boolean) 0 Z) {v0 v1 v2 v3 s0 : Int}    (cv1 : in32 v1) (cv2 : in32 v2) (cv3 : in32 v3) (cs0 : in32 s0) {h : MM} (hf : f_X3_readClause_47 n  v0 v1 v2 v3 s0 h = some Z) : G g 47 [(2, v0), (0, v1), (0, v2), (0, v3), (3, 0)] [(0, s0)] h := by
  unfold f_X3_readClause_47 at hf
  refine r_istore C dX3_readClause_47 (Nat.le_of_ble_eq_true rfl) rfl ?_
  refine r_iload C dX3_readClause_49 rfl ?_
  refine r_iconst C dX3_readClause_51 ?_
  refine r_icmp_ne C dX3_readClause_52 (tgt := 57) (by decide) cs0 (in32_of rfl) (fun n1 => ?_) (fun n1 => ?_)
  · have hf := ite_n n1 hf
    refine r_aload_n C dX3_readClause_57 rfl ?_
    obtain ⟨q2, hf⟩ := gf_s hf
    refine r_gf C ct3 (j := 2) (ji := 2) dX3_readClause_58 q2 rfl rfl (by decide) w_535 rfl (fun c2 => ?_)
    refine r_iload_n C dX3_readClause_61 rfl ?_
    refine r_iload_n C dX3_readClause_62 rfl ?_
    refine r_bipush C dX3_readClause_63 rfl ?_
    refine r_icmp_ne C dX3_readClause_65 (tgt := 72) (by decide) cv2 (in32_of rfl) (fun n3 => ?_) (fun n3 => ?_)
    · have hf := ite_n n3 hf
      refine r_iload C dX3_readClause_72 rfl ?_
      exact G.mask [true, true, true, false, false] rfl rfl (b_X3_readClause_74 C hr  cv1 cv2 cv2 cs0 hf)
    · have hf := ite_p n3 hf
      refine r_iload_n C dX3_readClause_68 rfl ?_
      refine r_goto C dX3_readClause_69 (tgt := 74) (by decide) ?_
      exact G.mask [true, true, true, false, false] rfl rfl (b_X3_readClause_74 C hr  cv1 cv2 cv2 cv3 hf)
  · have hf := ite_p n1 hf
    refine r_iconst C dX3_readClause_55 ?_
    obtain ⟨b4, hf⟩ := ck_s hf
    cases hf
    exact r_zret C hr dX3_readClause_56 b4
set_option maxRecDepth 20000 in
theorem e_X3_readClause {g : GT} {Z : Int × MM} {n : Nat} (C : Cx g cX3_readClause 5 yX3_readClause 33 778) (hr : Rt g (some .boolean) 0 Z) {v0 v1 : Int} (cv0 : cK 2 v0) (cv1 : cK 0 v1) {h : MM} (hf : f_X3_readClause n v0 v1 h = some Z) : G g 0 [(2, v0), (0, v1), (3, 0), (3, 0), (3, 0)] [] h := by
  have cv1 : in32 v1 := cv1
  unfold f_X3_readClause at hf
  refine r_aload_n C dX3_readClause_0 rfl ?_
  obtain ⟨p1, hf⟩ := gk_s hf
  obtain ⟨r1, h1, hq1, hf⟩ := bd_s hf
  refine r_cV0 C (am_X3_readWord (gl g) n) cm_X3_readWord w_564 dX3_readClause_1 ⟨Nat.le_of_ble_eq_true rfl, Nat.le_of_ble_eq_true rfl⟩ p1 rfl  rfl (Nat.le_of_ble_eq_true rfl) hq1 (by decide) (fun c1 => ?_)
  have c1 : in32 _ := c1
  refine r_istore_n C dX3_readClause_4 (Nat.le_of_ble_eq_true rfl) rfl ?_
  refine r_iload_n C dX3_readClause_5 rfl ?_
  refine r_iconst C dX3_readClause_6 ?_
  refine r_icmp_ne C dX3_readClause_7 (tgt := 12) (by decide) c1 (in32_of rfl) (fun n2 => ?_) (fun n2 => ?_)
  · have hf := ite_n n2 hf
    refine r_aload_n C dX3_readClause_12 rfl ?_
    obtain ⟨q3, hf⟩ := gf_s hf
    refine r_gf C ct3 (j := 5) (ji := 5) dX3_readClause_13 q3 rfl rfl (by decide) w_542 rfl (fun c3 => ?_)
    have c3 : in32 _ := c3
    refine r_istore_n C dX3_readClause_16 (Nat.le_of_ble_eq_true rfl) rfl ?_
    refine r_iload_n C dX3_readClause_17 rfl ?_
    refine r_bipush C dX3_readClause_18 rfl ?_
    refine r_icmp_ne C dX3_readClause_20 (tgt := 31) (by decide) c1 (in32_of rfl) (fun n4 => ?_) (fun n4 => ?_)
    · have hf := ite_n n4 hf
      refine r_iload_n C dX3_readClause_31 rfl ?_
      refine r_iconst C dX3_readClause_32 ?_
      refine r_icmp_ne C dX3_readClause_33 (tgt := 43) (by decide) c1 (in32_of rfl) (fun n5 => ?_) (fun n5 => ?_)
      · have hf := ite_n n5 hf
        refine r_aload_n C dX3_readClause_43 rfl ?_
        obtain ⟨p6, hf⟩ := gk_s hf
        obtain ⟨r6, h6, hq6, hf⟩ := bd_s hf
        refine r_cV0 C (am_X3_readNumber (gl g) n) cm_X3_readNumber w_656 dX3_readClause_44 ⟨Nat.le_of_ble_eq_true rfl, Nat.le_of_ble_eq_true rfl⟩ p6 rfl  rfl (Nat.le_of_ble_eq_true rfl) hq6 (by decide) (fun c6 => ?_)
        have c6 : in32 _ := c6
        exact G.mask [true, true, true, true, false] rfl rfl (b_X3_readClause_47 C hr  cv1 c1 c3 c6 hf)
      · have hf := ite_p n5 hf
        refine r_aload_n C dX3_readClause_36 rfl ?_
        obtain ⟨p7, hf⟩ := gk_s hf
        obtain ⟨r7, h7, hq7, hf⟩ := bd_s hf
        refine r_cV0 C (am_X3_readYesOrNo (gl g) n) cm_X3_readYesOrNo w_660 dX3_readClause_37 ⟨Nat.le_of_ble_eq_true rfl, Nat.le_of_ble_eq_true rfl⟩ p7 rfl  rfl (Nat.le_of_ble_eq_true rfl) hq7 (by decide) (fun c7 => ?_)
        have c7 : in32 _ := c7
        refine r_goto C dX3_readClause_40 (tgt := 47) (by decide) ?_
        exact G.mask [true, true, true, true, false] rfl rfl (b_X3_readClause_47 C hr  cv1 c1 c3 c7 hf)
    · have hf := ite_p n4 hf
      refine r_aload_n C dX3_readClause_23 rfl ?_
      refine r_iconst C dX3_readClause_24 ?_
      obtain ⟨p8, hf⟩ := gk_s hf
      obtain ⟨r8, h8, hq8, hf⟩ := bd_s hf
      refine r_cV1 C (am_X3_either (gl g) n) cm_X3_either w_633 dX3_readClause_25 ⟨Nat.le_of_ble_eq_true rfl, Nat.le_of_ble_eq_true rfl⟩ p8 rfl (in32_of rfl) rfl (Nat.le_of_ble_eq_true rfl) hq8 (by decide) (fun c8 => ?_)
      have c8 : in32 _ := c8
      refine r_goto C dX3_readClause_28 (tgt := 47) (by decide) ?_
      exact G.mask [true, true, true, true, false] rfl rfl (b_X3_readClause_47 C hr  cv1 c1 c3 c8 hf)
  · have hf := ite_p n2 hf
    refine r_iconst C dX3_readClause_10 ?_
    obtain ⟨b9, hf⟩ := ck_s hf
    cases hf
    exact r_zret C hr dX3_readClause_11 b9
set_option maxRecDepth 20000 in
theorem am_X3_readClause (l : Launch) (n : Nat) : AM l yX3_readClause cX3_readClause 5 (some .boolean) 33 778 [2, 0] 0 (un2 (f_X3_readClause n)) := by
  refine AM.intro (by decide) (fun xs hx => ?_) (fun g xs h Z hl C hr hx hf => ?_)
  · obtain ⟨a0, a1, rfl, c0, c1⟩ := canL_2 hx
    exact Nat.le_of_ble_eq_true rfl
  · obtain ⟨a0, a1, rfl, c0, c1⟩ := canL_2 hx
    have hf := (un2_e _ a0 a1 _).symm.trans hf
    exact e_X3_readClause (n := n) C hr c0 c1 hf
/-! LinesPromised$Order.faultOf()I -/
theorem dX3_faultOf_0 : decode cX3_faultOf 0 = .ok (.aload_n 0, 1) := by decide +kernel
theorem dX3_faultOf_1 : decode cX3_faultOf 1 = .ok (.iconst 0, 1) := by decide +kernel
theorem dX3_faultOf_2 : decode cX3_faultOf 2 = .ok (.putfield 39, 3) := by decide +kernel
theorem dX3_faultOf_5 : decode cX3_faultOf 5 = .ok (.iconst 0, 1) := by decide +kernel
theorem dX3_faultOf_6 : decode cX3_faultOf 6 = .ok (.istore_n 1, 1) := by decide +kernel
theorem dX3_faultOf_7 : decode cX3_faultOf 7 = .ok (.iload_n 1, 1) := by decide +kernel
theorem dX3_faultOf_8 : decode cX3_faultOf 8 = .ok (.bipush 8, 2) := by decide +kernel
theorem dX3_faultOf_10 : decode cX3_faultOf 10 = .ok (.if_icmp .ge 71, 3) := by decide +kernel
theorem dX3_faultOf_13 : decode cX3_faultOf 13 = .ok (.aload_n 0, 1) := by decide +kernel
theorem dX3_faultOf_14 : decode cX3_faultOf 14 = .ok (.iload_n 1, 1) := by decide +kernel
theorem dX3_faultOf_15 : decode cX3_faultOf 15 = .ok (.invokevirtual 42, 3) := by decide +kernel
theorem dX3_faultOf_18 : decode cX3_faultOf 18 = .ok (.ifCond .ne 8, 3) := by decide +kernel
theorem dX3_faultOf_21 : decode cX3_faultOf 21 = .ok (.aload_n 0, 1) := by decide +kernel
theorem dX3_faultOf_22 : decode cX3_faultOf 22 = .ok (.getfield 39, 3) := by decide +kernel
theorem dX3_faultOf_25 : decode cX3_faultOf 25 = .ok (.ireturn, 1) := by decide +kernel
theorem dX3_faultOf_26 : decode cX3_faultOf 26 = .ok (.aload_n 0, 1) := by decide +kernel
theorem dX3_faultOf_27 : decode cX3_faultOf 27 = .ok (.getfield 39, 3) := by decide +kernel
theorem dX3_faultOf_30 : decode cX3_faultOf 30 = .ok (.aload_n 0, 1) := by decide +kernel
theorem dX3_faultOf_31 : decode cX3_faultOf 31 = .ok (.getfield 31, 3) := by decide +kernel
theorem dX3_faultOf_34 : decode cX3_faultOf 34 = .ok (.arraylength, 1) := by decide +kernel
theorem dX3_faultOf_35 : decode cX3_faultOf 35 = .ok (.if_icmp .lt 5, 3) := by decide +kernel
theorem dX3_faultOf_38 : decode cX3_faultOf 38 = .ok (.iconst (-1), 1) := by decide +kernel
theorem dX3_faultOf_39 : decode cX3_faultOf 39 = .ok (.ireturn, 1) := by decide +kernel
theorem dX3_faultOf_40 : decode cX3_faultOf 40 = .ok (.aload_n 0, 1) := by decide +kernel
theorem dX3_faultOf_41 : decode cX3_faultOf 41 = .ok (.getfield 31, 3) := by decide +kernel
theorem dX3_faultOf_44 : decode cX3_faultOf 44 = .ok (.aload_n 0, 1) := by decide +kernel
theorem dX3_faultOf_45 : decode cX3_faultOf 45 = .ok (.getfield 39, 3) := by decide +kernel
theorem dX3_faultOf_48 : decode cX3_faultOf 48 = .ok (.baload, 1) := by decide +kernel
theorem dX3_faultOf_49 : decode cX3_faultOf 49 = .ok (.bipush 59, 2) := by decide +kernel
theorem dX3_faultOf_51 : decode cX3_faultOf 51 = .ok (.if_icmp .ne 9, 3) := by decide +kernel
theorem dX3_faultOf_54 : decode cX3_faultOf 54 = .ok (.iload_n 1, 1) := by decide +kernel
theorem dX3_faultOf_55 : decode cX3_faultOf 55 = .ok (.bipush 7, 2) := by decide +kernel
theorem dX3_faultOf_57 : decode cX3_faultOf 57 = .ok (.if_icmp .ne 8, 3) := by decide +kernel
theorem dX3_faultOf_60 : decode cX3_faultOf 60 = .ok (.aload_n 0, 1) := by decide +kernel
theorem dX3_faultOf_61 : decode cX3_faultOf 61 = .ok (.getfield 39, 3) := by decide +kernel
theorem dX3_faultOf_64 : decode cX3_faultOf 64 = .ok (.ireturn, 1) := by decide +kernel
theorem dX3_faultOf_65 : decode cX3_faultOf 65 = .ok (.aload_n 0, 1) := by decide +kernel
theorem dX3_faultOf_66 : decode cX3_faultOf 66 = .ok (.dup, 1) := by decide +kernel
theorem dX3_faultOf_67 : decode cX3_faultOf 67 = .ok (.getfield 39, 3) := by decide +kernel
theorem dX3_faultOf_70 : decode cX3_faultOf 70 = .ok (.iconst 1, 1) := by decide +kernel
theorem dX3_faultOf_71 : decode cX3_faultOf 71 = .ok (.iadd, 1) := by decide +kernel
theorem dX3_faultOf_72 : decode cX3_faultOf 72 = .ok (.putfield 39, 3) := by decide +kernel
theorem dX3_faultOf_75 : decode cX3_faultOf 75 = .ok (.iinc 1 1, 3) := by decide +kernel
theorem dX3_faultOf_78 : decode cX3_faultOf 78 = .ok (.goto (-71), 3) := by decide +kernel
theorem dX3_faultOf_81 : decode cX3_faultOf 81 = .ok (.aload_n 0, 1) := by decide +kernel
theorem dX3_faultOf_82 : decode cX3_faultOf 82 = .ok (.getfield 39, 3) := by decide +kernel
theorem dX3_faultOf_85 : decode cX3_faultOf 85 = .ok (.ireturn, 1) := by decide +kernel
theorem cm_X3_faultOf : CM yX3_faultOf cX3_faultOf 2 (some .int) 0 3 := ⟨w_557, w_558, w_559, w_98, ⟨by decide +kernel, by decide +kernel, by decide +kernel⟩, ⟨_, _, rfl⟩, by decide⟩
noncomputable def f_X3_faultOf_60 (n : Nat)  (v0 : Int) (h : MM) : RR :=
  gf h v0 3 5 fun r1 =>
  some (r1, h)
noncomputable def f_X3_faultOf_7b (n : Nat) (rec7 : Int → MM → RR) (v0 v1 : Int) (h : MM) : RR :=
  if 8 ≤ v1 then
    gf h v0 3 5 fun r2 =>
    some (r2, h)
  else
  gk h v0 3 <|
  bd (f_X3_readClause n v0 v1 h) fun r3 h3 =>
  if r3 = 0 then
    gf h3 v0 3 5 fun r17 =>
    some (r17, h3)
  else
  gf h3 v0 3 5 fun r5 =>
  gf h3 v0 3 1 fun r6 =>
  al h3 r6 102 fun r7 =>
  if r5 < r7 then
    gf h3 v0 3 1 fun r9 =>
    gf h3 v0 3 5 fun r10 =>
    rd h3 r9 102 r10 fun r11 =>
    if r11 = 59 then
      if v1 = 7 then
        f_X3_faultOf_60 n v0 h3
      else
      gf h3 v0 3 5 fun r14 =>
      pf h3 v0 3 5 (wr (r14 + 1)) fun h15 =>
      lb (wr (v1 + 1)) fun x16 =>
      rec7 x16 h15
    else
    f_X3_faultOf_60 n v0 h3
  else
  some ((-1), h3)
noncomputable def f_X3_faultOf_7 (n : Nat)  (v0 : Int) : Nat → Int → MM → RR
  | 0, _, _ => none
  | k + 1, v1, h => f_X3_faultOf_7b n  (f_X3_faultOf_7 n  v0 k) v0 v1 h
noncomputable def f_X3_faultOf (n : Nat) (v0 : Int) (h : MM) : RR :=
  pf h v0 3 5 0 fun h1 =>
  f_X3_faultOf_7 n v0 n 0 h1
set_option maxRecDepth 20000 in
theorem b_X3_faultOf_60 {g : GT} {Z : Int × MM} {n : Nat} (C : Cx g cX3_faultOf 2 yX3_faultOf 34 802) (hr : Rt g (some .int) 0 Z) {v0 : Int}     {h : MM} (hf : f_X3_faultOf_60 n  v0 h = some Z) : G g 60 [(2, v0), (3, 0)] [] h := by
  unfold f_X3_faultOf_60 at hf
  refine r_aload_n C dX3_faultOf_60 rfl ?_
  obtain ⟨q1, hf⟩ := gf_s hf
  refine r_gf C ct3 (j := 5) (ji := 5) dX3_faultOf_61 q1 rfl rfl (by decide) w_542 rfl (fun c1 => ?_)
  have c1 : in32 _ := c1
  cases hf
  exact r_jret C hr dX3_faultOf_64 c1
set_option maxRecDepth 20000 in
theorem b_X3_faultOf_7b {g : GT} {Z : Int × MM} {n : Nat} (C : Cx g cX3_faultOf 2 yX3_faultOf 34 802) (hr : Rt g (some .int) 0 Z) {v0 v1 : Int}  {rec7 : Int → MM → RR} (L7 : ∀ (u1 : Int) (h : MM), in32 u1 → rec7 u1 h = some Z → G g 7 [(2, v0), (0, u1)] [] h) (cv1 : in32 v1) {h : MM} (hf : f_X3_faultOf_7b n rec7 v0 v1 h = some Z) : G g 7 [(2, v0), (0, v1)] [] h := by
  unfold f_X3_faultOf_7b at hf
  refine r_iload_n C dX3_faultOf_7 rfl ?_
  refine r_bipush C dX3_faultOf_8 rfl ?_
  refine r_icmp_ge C dX3_faultOf_10 (tgt := 81) (by decide) cv1 (in32_of rfl) (fun n1 => ?_) (fun n1 => ?_)
  · have hf := ite_p n1 hf
    refine r_aload_n C dX3_faultOf_81 rfl ?_
    obtain ⟨q2, hf⟩ := gf_s hf
    refine r_gf C ct3 (j := 5) (ji := 5) dX3_faultOf_82 q2 rfl rfl (by decide) w_542 rfl (fun c2 => ?_)
    have c2 : in32 _ := c2
    cases hf
    exact r_jret C hr dX3_faultOf_85 c2
  · have hf := ite_n n1 hf
    refine r_aload_n C dX3_faultOf_13 rfl ?_
    refine r_iload_n C dX3_faultOf_14 rfl ?_
    obtain ⟨p3, hf⟩ := gk_s hf
    obtain ⟨r3, h3, hq3, hf⟩ := bd_s hf
    refine r_cV1 C (am_X3_readClause (gl g) n) cm_X3_readClause w_560 dX3_faultOf_15 ⟨Nat.le_of_ble_eq_true rfl, Nat.le_of_ble_eq_true rfl⟩ p3 rfl cv1 rfl (Nat.le_of_ble_eq_true rfl) hq3 (by decide) (fun c3 => ?_)
    have c3 : in32 _ := c3
    refine r_if_ne C dX3_faultOf_18 (tgt := 26) (by decide) c3 (fun n4 => ?_) (fun n4 => ?_)
    · have hf := ite_n n4 hf
      refine r_aload_n C dX3_faultOf_26 rfl ?_
      obtain ⟨q5, hf⟩ := gf_s hf
      refine r_gf C ct3 (j := 5) (ji := 5) dX3_faultOf_27 q5 rfl rfl (by decide) w_542 rfl (fun c5 => ?_)
      have c5 : in32 _ := c5
      refine r_aload_n C dX3_faultOf_30 rfl ?_
      obtain ⟨q6, hf⟩ := gf_s hf
      refine r_gf C ct3 (j := 1) (ji := 1) dX3_faultOf_31 q6 rfl rfl (by decide) w_534 rfl (fun c6 => ?_)
      obtain ⟨q7, hf⟩ := al_s hf
      refine r_alen C (tn := 102) dX3_faultOf_34 q7 rfl (by decide) (fun c7 _ => ?_)
      refine r_icmp_lt C dX3_faultOf_35 (tgt := 40) (by decide) c5 c7 (fun n8 => ?_) (fun n8 => ?_)
      · have hf := ite_p n8 hf
        refine r_aload_n C dX3_faultOf_40 rfl ?_
        obtain ⟨q9, hf⟩ := gf_s hf
        refine r_gf C ct3 (j := 1) (ji := 1) dX3_faultOf_41 q9 rfl rfl (by decide) w_534 rfl (fun c9 => ?_)
        refine r_aload_n C dX3_faultOf_44 rfl ?_
        obtain ⟨q10, hf⟩ := gf_s hf
        refine r_gf C ct3 (j := 5) (ji := 5) dX3_faultOf_45 q10 rfl rfl (by decide) w_542 rfl (fun c10 => ?_)
        have c10 : in32 _ := c10
        obtain ⟨q11, hf⟩ := rd_s hf
        refine r_bald C dX3_faultOf_48 q11 rfl (fun c11 => ?_)
        refine r_bipush C dX3_faultOf_49 rfl ?_
        refine r_icmp_ne C dX3_faultOf_51 (tgt := 60) (by decide) c11 (in32_of rfl) (fun n12 => ?_) (fun n12 => ?_)
        · have hf := ite_n n12 hf
          exact G.mask [true, false] rfl rfl (b_X3_faultOf_60 C hr   hf)
        · have hf := ite_p n12 hf
          refine r_iload_n C dX3_faultOf_54 rfl ?_
          refine r_bipush C dX3_faultOf_55 rfl ?_
          refine r_icmp_ne C dX3_faultOf_57 (tgt := 65) (by decide) cv1 (in32_of rfl) (fun n13 => ?_) (fun n13 => ?_)
          · have hf := ite_n n13 hf
            refine r_aload_n C dX3_faultOf_65 rfl ?_
            refine r_dup C dX3_faultOf_66 (by decide) ?_
            obtain ⟨q14, hf⟩ := gf_s hf
            refine r_gf C ct3 (j := 5) (ji := 5) dX3_faultOf_67 q14 rfl rfl (by decide) w_542 rfl (fun c14 => ?_)
            have c14 : in32 _ := c14
            refine r_iconst C dX3_faultOf_70 ?_
            refine r_iadd C dX3_faultOf_71 ?_
            obtain ⟨q15, hf⟩ := pf_s hf
            refine r_pf C ct3 (j := 5) (ji := 5) dX3_faultOf_72 q15 rfl rfl (by decide) w_542 rfl (Or.inl rfl) nar_int (in32_t _) ?_
            obtain ⟨x16, e16, hf⟩ := lb_s hf
            have c16 : in32 x16 := by rw [e16]; exact (in32_t _)
            refine r_iincL C dX3_faultOf_75 rfl e16 (Nat.le_of_ble_eq_true rfl) rfl ?_
            refine r_goto C dX3_faultOf_78 (tgt := 7) (by decide) ?_
            exact G.mask [true, true] rfl rfl (L7 _ _ c16 hf)
          · have hf := ite_p n13 hf
            exact G.mask [true, false] rfl rfl (b_X3_faultOf_60 C hr   hf)
      · have hf := ite_n n8 hf
        refine r_iconst C dX3_faultOf_38 ?_
        cases hf
        exact r_jret C hr dX3_faultOf_39 (in32_of rfl)
    · have hf := ite_p n4 hf
      refine r_aload_n C dX3_faultOf_21 rfl ?_
      obtain ⟨q17, hf⟩ := gf_s hf
      refine r_gf C ct3 (j := 5) (ji := 5) dX3_faultOf_22 q17 rfl rfl (by decide) w_542 rfl (fun c17 => ?_)
      have c17 : in32 _ := c17
      cases hf
      exact r_jret C hr dX3_faultOf_25 c17
set_option maxRecDepth 20000 in
theorem l_X3_faultOf_7 {g : GT} {Z : Int × MM} {n : Nat} (C : Cx g cX3_faultOf 2 yX3_faultOf 34 802) (hr : Rt g (some .int) 0 Z) {v0 : Int}    : ∀ (k : Nat) (v1 : Int) (h : MM), in32 v1 → f_X3_faultOf_7 n  v0 k v1 h = some Z → G g 7 [(2, v0), (0, v1)] [] h := by
  intro k
  induction k with
  | zero => intro v1 h cv1 hf; exact absurd hf (by intro z; cases z)
  | succ k ih => intro v1 h cv1 hf; exact b_X3_faultOf_7b C hr (rec7 := f_X3_faultOf_7 n  v0 k)  ih cv1 (show f_X3_faultOf_7b n  (f_X3_faultOf_7 n  v0 k) v0 v1 h = some Z from hf)
set_option maxRecDepth 20000 in
theorem e_X3_faultOf {g : GT} {Z : Int × MM} {n : Nat} (C : Cx g cX3_faultOf 2 yX3_faultOf 34 802) (hr : Rt g (some .int) 0 Z) {v0 : Int} (cv0 : cK 2 v0) {h : MM} (hf : f_X3_faultOf n v0 h = some Z) : G g 0 [(2, v0), (3, 0)] [] h := by
  unfold f_X3_faultOf at hf
  refine r_aload_n C dX3_faultOf_0 rfl ?_
  refine r_iconst C dX3_faultOf_1 ?_
  obtain ⟨q1, hf⟩ := pf_s hf
  refine r_pf C ct3 (j := 5) (ji := 5) dX3_faultOf_2 q1 rfl rfl (by decide) w_542 rfl (Or.inl rfl) nar_int (in32_of rfl) ?_
  refine r_iconst C dX3_faultOf_5 ?_
  refine r_istore_n C dX3_faultOf_6 (Nat.le_of_ble_eq_true rfl) rfl ?_
  exact G.mask [true, true] rfl rfl (l_X3_faultOf_7 C hr   _ _ _ (in32_of rfl) hf)
set_option maxRecDepth 20000 in
theorem am_X3_faultOf (l : Launch) (n : Nat) : AM l yX3_faultOf cX3_faultOf 2 (some .int) 34 802 [2] 0 (un1 (f_X3_faultOf n)) := by
  refine AM.intro (by decide) (fun xs hx => ?_) (fun g xs h Z hl C hr hx hf => ?_)
  · obtain ⟨a0, rfl, c0⟩ := canL_1 hx
    exact Nat.le_of_ble_eq_true rfl
  · obtain ⟨a0, rfl, c0⟩ := canL_1 hx
    have hf := (un1_e _ a0 _).symm.trans hf
    exact e_X3_faultOf (n := n) C hr c0 hf
/-! LinesPromised$World.enforce(LLinesPromised$Order;)I -/
theorem dX10_enforce_0 : decode cX10_enforce 0 = .ok (.aload_n 0, 1) := by decide +kernel
theorem dX10_enforce_1 : decode cX10_enforce 1 = .ok (.getfield 82, 3) := by decide +kernel
theorem dX10_enforce_4 : decode cX10_enforce 4 = .ok (.aload_n 0, 1) := by decide +kernel
theorem dX10_enforce_5 : decode cX10_enforce 5 = .ok (.getfield 51, 3) := by decide +kernel
theorem dX10_enforce_8 : decode cX10_enforce 8 = .ok (.arraylength, 1) := by decide +kernel
theorem dX10_enforce_9 : decode cX10_enforce 9 = .ok (.if_icmp .lt 6, 3) := by decide +kernel
theorem dX10_enforce_12 : decode cX10_enforce 12 = .ok (.bipush (-4), 2) := by decide +kernel
theorem dX10_enforce_14 : decode cX10_enforce 14 = .ok (.ireturn, 1) := by decide +kernel
theorem dX10_enforce_15 : decode cX10_enforce 15 = .ok (.aload_n 0, 1) := by decide +kernel
theorem dX10_enforce_16 : decode cX10_enforce 16 = .ok (.getfield 51, 3) := by decide +kernel
theorem dX10_enforce_19 : decode cX10_enforce 19 = .ok (.aload_n 0, 1) := by decide +kernel
theorem dX10_enforce_20 : decode cX10_enforce 20 = .ok (.getfield 82, 3) := by decide +kernel
theorem dX10_enforce_23 : decode cX10_enforce 23 = .ok (.aload_n 1, 1) := by decide +kernel
theorem dX10_enforce_24 : decode cX10_enforce 24 = .ok (.aastore, 1) := by decide +kernel
theorem dX10_enforce_25 : decode cX10_enforce 25 = .ok (.aload_n 0, 1) := by decide +kernel
theorem dX10_enforce_26 : decode cX10_enforce 26 = .ok (.dup, 1) := by decide +kernel
theorem dX10_enforce_27 : decode cX10_enforce 27 = .ok (.getfield 82, 3) := by decide +kernel
theorem dX10_enforce_30 : decode cX10_enforce 30 = .ok (.iconst 1, 1) := by decide +kernel
theorem dX10_enforce_31 : decode cX10_enforce 31 = .ok (.iadd, 1) := by decide +kernel
theorem dX10_enforce_32 : decode cX10_enforce 32 = .ok (.putfield 82, 3) := by decide +kernel
theorem dX10_enforce_35 : decode cX10_enforce 35 = .ok (.aload_n 0, 1) := by decide +kernel
theorem dX10_enforce_36 : decode cX10_enforce 36 = .ok (.getfield 82, 3) := by decide +kernel
theorem dX10_enforce_39 : decode cX10_enforce 39 = .ok (.iconst 1, 1) := by decide +kernel
theorem dX10_enforce_40 : decode cX10_enforce 40 = .ok (.isub, 1) := by decide +kernel
theorem dX10_enforce_41 : decode cX10_enforce 41 = .ok (.ireturn, 1) := by decide +kernel
theorem cm_X10_enforce : CM yX10_enforce cX10_enforce 2 (some .int) 1 10 := ⟨w_665, w_666, w_667, w_88, ⟨by decide +kernel, by decide +kernel, by decide +kernel⟩, ⟨_, _, rfl⟩, by decide⟩
noncomputable def f_X10_enforce (n : Nat) (v0 v1 : Int) (h : MM) : RR :=
  gf h v0 10 8 fun r1 =>
  gf h v0 10 6 fun r2 =>
  al h r2 104 fun r3 =>
  if r1 < r3 then
    gf h v0 10 6 fun r5 =>
    gf h v0 10 8 fun r6 =>
    gk h v1 3 <|
    wt h r5 104 r6 v1 fun h7 =>
    gf h7 v0 10 8 fun r8 =>
    pf h7 v0 10 8 (wr (r8 + 1)) fun h9 =>
    gf h9 v0 10 8 fun r10 =>
    some (wr (r10 - 1), h9)
  else
  some ((-4), h)
set_option maxRecDepth 20000 in
theorem e_X10_enforce {g : GT} {Z : Int × MM} {n : Nat} (C : Cx g cX10_enforce 2 yX10_enforce 0 0) (hr : Rt g (some .int) 0 Z) {v0 v1 : Int} (cv0 : cK 2 v0) (cv1 : cK 2 v1) {h : MM} (hf : f_X10_enforce n v0 v1 h = some Z) : G g 0 [(2, v0), (2, v1)] [] h := by
  unfold f_X10_enforce at hf
  refine r_aload_n C dX10_enforce_0 rfl ?_
  obtain ⟨q1, hf⟩ := gf_s hf
  refine r_gf C ct10 (j := 8) (ji := 8) dX10_enforce_1 q1 rfl rfl (by decide) w_314 rfl (fun c1 => ?_)
  have c1 : in32 _ := c1
  refine r_aload_n C dX10_enforce_4 rfl ?_
  obtain ⟨q2, hf⟩ := gf_s hf
  refine r_gf C ct10 (j := 6) (ji := 6) dX10_enforce_5 q2 rfl rfl (by decide) w_311 rfl (fun c2 => ?_)
  obtain ⟨q3, hf⟩ := al_s hf
  refine r_alen C (tn := 104) dX10_enforce_8 q3 rfl (by decide) (fun c3 _ => ?_)
  refine r_icmp_lt C dX10_enforce_9 (tgt := 15) (by decide) c1 c3 (fun n4 => ?_) (fun n4 => ?_)
  · have hf := ite_p n4 hf
    refine r_aload_n C dX10_enforce_15 rfl ?_
    obtain ⟨q5, hf⟩ := gf_s hf
    refine r_gf C ct10 (j := 6) (ji := 6) dX10_enforce_16 q5 rfl rfl (by decide) w_311 rfl (fun c5 => ?_)
    refine r_aload_n C dX10_enforce_19 rfl ?_
    obtain ⟨q6, hf⟩ := gf_s hf
    refine r_gf C ct10 (j := 8) (ji := 8) dX10_enforce_20 q6 rfl rfl (by decide) w_314 rfl (fun c6 => ?_)
    have c6 : in32 _ := c6
    refine r_aload_n C dX10_enforce_23 rfl ?_
    obtain ⟨p7, hf⟩ := gk_s hf
    obtain ⟨q7, hf⟩ := wt_s hf
    refine r_aast C (tn := 104) (tc := 3) dX10_enforce_24 q7 rfl (by decide) (by decide) p7 rfl ⟨_, _, rfl⟩ (by decide) ?_
    refine r_aload_n C dX10_enforce_25 rfl ?_
    refine r_dup C dX10_enforce_26 (by decide) ?_
    obtain ⟨q8, hf⟩ := gf_s hf
    refine r_gf C ct10 (j := 8) (ji := 8) dX10_enforce_27 q8 rfl rfl (by decide) w_314 rfl (fun c8 => ?_)
    have c8 : in32 _ := c8
    refine r_iconst C dX10_enforce_30 ?_
    refine r_iadd C dX10_enforce_31 ?_
    obtain ⟨q9, hf⟩ := pf_s hf
    refine r_pf C ct10 (j := 8) (ji := 8) dX10_enforce_32 q9 rfl rfl (by decide) w_314 rfl (Or.inl rfl) nar_int (in32_t _) ?_
    refine r_aload_n C dX10_enforce_35 rfl ?_
    obtain ⟨q10, hf⟩ := gf_s hf
    refine r_gf C ct10 (j := 8) (ji := 8) dX10_enforce_36 q10 rfl rfl (by decide) w_314 rfl (fun c10 => ?_)
    have c10 : in32 _ := c10
    refine r_iconst C dX10_enforce_39 ?_
    refine r_isub C dX10_enforce_40 ?_
    cases hf
    exact r_jret C hr dX10_enforce_41 (in32_t _)
  · have hf := ite_n n4 hf
    refine r_bipush C dX10_enforce_12 rfl ?_
    cases hf
    exact r_jret C hr dX10_enforce_14 (in32_of rfl)
set_option maxRecDepth 20000 in
theorem am_X10_enforce (l : Launch) (n : Nat) : AM l yX10_enforce cX10_enforce 2 (some .int) 0 0 [2, 2] 0 (un2 (f_X10_enforce n)) := by
  refine AM.intro (by decide) (fun xs hx => ?_) (fun g xs h Z hl C hr hx hf => ?_)
  · obtain ⟨a0, a1, rfl, c0, c1⟩ := canL_2 hx
    exact Nat.le_of_ble_eq_true rfl
  · obtain ⟨a0, a1, rfl, c0, c1⟩ := canL_2 hx
    have hf := (un2_e _ a0 a1 _).symm.trans hf
    exact e_X10_enforce (n := n) C hr c0 c1 hf
/-! LinesPromised.text(I)I -/
theorem dX11_text_0 : decode cX11_text 0 = .ok (.iload_n 1, 1) := by decide +kernel
theorem dX11_text_1 : decode cX11_text 1 = .ok (.invokestatic 97, 3) := by decide +kernel
theorem dX11_text_4 : decode cX11_text 4 = .ok (.ifCond .ne 6, 3) := by decide +kernel
theorem dX11_text_7 : decode cX11_text 7 = .ok (.bipush (-2), 2) := by decide +kernel
theorem dX11_text_9 : decode cX11_text 9 = .ok (.ireturn, 1) := by decide +kernel
theorem dX11_text_10 : decode cX11_text 10 = .ok (.aload_n 0, 1) := by decide +kernel
theorem dX11_text_11 : decode cX11_text 11 = .ok (.getfield 10, 3) := by decide +kernel
theorem dX11_text_14 : decode cX11_text 14 = .ok (.getfield 100, 3) := by decide +kernel
theorem dX11_text_17 : decode cX11_text 17 = .ok (.bipush 8, 2) := by decide +kernel
theorem dX11_text_19 : decode cX11_text 19 = .ok (.if_icmp .lt 6, 3) := by decide +kernel
theorem dX11_text_22 : decode cX11_text 22 = .ok (.bipush (-4), 2) := by decide +kernel
theorem dX11_text_24 : decode cX11_text 24 = .ok (.ireturn, 1) := by decide +kernel
theorem dX11_text_25 : decode cX11_text 25 = .ok (.aload_n 0, 1) := by decide +kernel
theorem dX11_text_26 : decode cX11_text 26 = .ok (.getfield 10, 3) := by decide +kernel
theorem dX11_text_29 : decode cX11_text 29 = .ok (.iload_n 1, 1) := by decide +kernel
theorem dX11_text_30 : decode cX11_text 30 = .ok (.invokevirtual 103, 3) := by decide +kernel
theorem dX11_text_33 : decode cX11_text 33 = .ok (.astore_n 2, 1) := by decide +kernel
theorem dX11_text_34 : decode cX11_text 34 = .ok (.aload_n 2, 1) := by decide +kernel
theorem dX11_text_35 : decode cX11_text 35 = .ok (.invokevirtual 107, 3) := by decide +kernel
theorem dX11_text_38 : decode cX11_text 38 = .ok (.istore_n 3, 1) := by decide +kernel
theorem dX11_text_39 : decode cX11_text 39 = .ok (.iload_n 3, 1) := by decide +kernel
theorem dX11_text_40 : decode cX11_text 40 = .ok (.iconst (-1), 1) := by decide +kernel
theorem dX11_text_41 : decode cX11_text 41 = .ok (.if_icmp .ne 14, 3) := by decide +kernel
theorem dX11_text_44 : decode cX11_text 44 = .ok (.aload_n 0, 1) := by decide +kernel
theorem dX11_text_45 : decode cX11_text 45 = .ok (.getfield 10, 3) := by decide +kernel
theorem dX11_text_48 : decode cX11_text 48 = .ok (.aload_n 2, 1) := by decide +kernel
theorem dX11_text_49 : decode cX11_text 49 = .ok (.invokevirtual 113, 3) := by decide +kernel
theorem dX11_text_52 : decode cX11_text 52 = .ok (.goto 7, 3) := by decide +kernel
theorem dX11_text_55 : decode cX11_text 55 = .ok (.bipush (-10), 2) := by decide +kernel
theorem dX11_text_57 : decode cX11_text 57 = .ok (.iload_n 3, 1) := by decide +kernel
theorem dX11_text_58 : decode cX11_text 58 = .ok (.isub, 1) := by decide +kernel
theorem dX11_text_59 : decode cX11_text 59 = .ok (.ireturn, 1) := by decide +kernel
theorem cm_X11_text : CM yX11_text cX11_text 4 (some .int) 1 11 := ⟨w_498, w_499, w_500, w_87, ⟨by decide +kernel, by decide +kernel, by decide +kernel⟩, ⟨_, _, rfl⟩, by decide⟩
noncomputable def f_X11_text_59 (n : Nat)  (s0 : Int) (h : MM) : RR :=
  some (s0, h)
noncomputable def f_X11_text (n : Nat) (v0 v1 : Int) (h : MM) : RR :=
  bd (f_X11_isDay n v1 h) fun r1 h1 =>
  if r1 = 0 then
    some ((-2), h1)
  else
  gf h1 v0 11 0 fun r3 =>
  gf h1 r3 10 8 fun r4 =>
  if r4 < 8 then
    gf h1 v0 11 0 fun r6 =>
    gk h1 r6 10 <|
    bd (f_X10_takeTape n r6 v1 h1) fun r7 h7 =>
    gk h7 r7 3 <|
    bd (f_X3_faultOf n r7 h7) fun r8 h8 =>
    if r8 = (-1) then
      gf h8 v0 11 0 fun r10 =>
      gk h8 r10 10 <|
      bd (f_X10_enforce n r10 r7 h8) fun r11 h11 =>
      f_X11_text_59 n r11 h11
    else
    f_X11_text_59 n (wr (((-10)) - r8)) h8
  else
  some ((-4), h1)
set_option maxRecDepth 20000 in
theorem b_X11_text_59 {g : GT} {Z : Int × MM} {n : Nat} (C : Cx g cX11_text 4 yX11_text 35 823) (hr : Rt g (some .int) 0 Z) {s0 : Int}    (cs0 : in32 s0) {h : MM} (hf : f_X11_text_59 n  s0 h = some Z) : G g 59 [(3, 0), (3, 0), (3, 0), (3, 0)] [(0, s0)] h := by
  unfold f_X11_text_59 at hf
  cases hf
  exact r_jret C hr dX11_text_59 cs0
set_option maxRecDepth 20000 in
theorem e_X11_text {g : GT} {Z : Int × MM} {n : Nat} (C : Cx g cX11_text 4 yX11_text 35 823) (hr : Rt g (some .int) 0 Z) {v0 v1 : Int} (cv0 : cK 2 v0) (cv1 : cK 0 v1) {h : MM} (hf : f_X11_text n v0 v1 h = some Z) : G g 0 [(2, v0), (0, v1), (3, 0), (3, 0)] [] h := by
  have cv1 : in32 v1 := cv1
  unfold f_X11_text at hf
  refine r_iload_n C dX11_text_0 rfl ?_
  obtain ⟨r1, h1, hq1, hf⟩ := bd_s hf
  refine r_cS1 C (am_X11_isDay (gl g) n) cm_X11_isDay w_501 dX11_text_1 ⟨Nat.le_of_ble_eq_true rfl, Nat.le_of_ble_eq_true rfl⟩ cv1 rfl (Nat.le_of_ble_eq_true rfl) hq1 (by decide) (fun c1 => ?_)
  have c1 : in32 _ := c1
  refine r_if_ne C dX11_text_4 (tgt := 10) (by decide) c1 (fun n2 => ?_) (fun n2 => ?_)
  · have hf := ite_n n2 hf
    refine r_aload_n C dX11_text_10 rfl ?_
    obtain ⟨q3, hf⟩ := gf_s hf
    refine r_gf C ct11 (j := 0) (ji := 0) dX11_text_11 q3 rfl rfl (by decide) w_440 rfl (fun c3 => ?_)
    obtain ⟨q4, hf⟩ := gf_s hf
    refine r_gf C ct10 (j := 8) (ji := 8) dX11_text_14 q4 rfl rfl (by decide) w_315 rfl (fun c4 => ?_)
    have c4 : in32 _ := c4
    refine r_bipush C dX11_text_17 rfl ?_
    refine r_icmp_lt C dX11_text_19 (tgt := 25) (by decide) c4 (in32_of rfl) (fun n5 => ?_) (fun n5 => ?_)
    · have hf := ite_p n5 hf
      refine r_aload_n C dX11_text_25 rfl ?_
      obtain ⟨q6, hf⟩ := gf_s hf
      refine r_gf C ct11 (j := 0) (ji := 0) dX11_text_26 q6 rfl rfl (by decide) w_440 rfl (fun c6 => ?_)
      refine r_iload_n C dX11_text_29 rfl ?_
      obtain ⟨p7, hf⟩ := gk_s hf
      obtain ⟨r7, h7, hq7, hf⟩ := bd_s hf
      refine r_cV1 C (am_X10_takeTape (gl g) n) cm_X10_takeTape w_504 dX11_text_30 ⟨Nat.le_of_ble_eq_true rfl, Nat.le_of_ble_eq_true rfl⟩ p7 rfl cv1 rfl (Nat.le_of_ble_eq_true rfl) hq7 (by decide) (fun c7 => ?_)
      refine r_astore_n C dX11_text_33 (Nat.le_of_ble_eq_true rfl) rfl ?_
      refine r_aload_n C dX11_text_34 rfl ?_
      obtain ⟨p8, hf⟩ := gk_s hf
      obtain ⟨r8, h8, hq8, hf⟩ := bd_s hf
      refine r_cV0 C (am_X3_faultOf (gl g) n) cm_X3_faultOf w_556 dX11_text_35 ⟨Nat.le_of_ble_eq_true rfl, Nat.le_of_ble_eq_true rfl⟩ p8 rfl  rfl (Nat.le_of_ble_eq_true rfl) hq8 (by decide) (fun c8 => ?_)
      have c8 : in32 _ := c8
      refine r_istore_n C dX11_text_38 (Nat.le_of_ble_eq_true rfl) rfl ?_
      refine r_iload_n C dX11_text_39 rfl ?_
      refine r_iconst C dX11_text_40 ?_
      refine r_icmp_ne C dX11_text_41 (tgt := 55) (by decide) c8 (in32_of rfl) (fun n9 => ?_) (fun n9 => ?_)
      · have hf := ite_n n9 hf
        refine r_bipush C dX11_text_55 rfl ?_
        refine r_iload_n C dX11_text_57 rfl ?_
        refine r_isub C dX11_text_58 ?_
        exact G.mask [false, false, false, false] rfl rfl (b_X11_text_59 C hr  (in32_t _) hf)
      · have hf := ite_p n9 hf
        refine r_aload_n C dX11_text_44 rfl ?_
        obtain ⟨q10, hf⟩ := gf_s hf
        refine r_gf C ct11 (j := 0) (ji := 0) dX11_text_45 q10 rfl rfl (by decide) w_440 rfl (fun c10 => ?_)
        refine r_aload_n C dX11_text_48 rfl ?_
        obtain ⟨p11, hf⟩ := gk_s hf
        obtain ⟨r11, h11, hq11, hf⟩ := bd_s hf
        refine r_cV1 C (am_X10_enforce (gl g) n) cm_X10_enforce w_664 dX11_text_49 ⟨Nat.le_of_ble_eq_true rfl, Nat.le_of_ble_eq_true rfl⟩ p11 rfl trivial rfl (Nat.le_of_ble_eq_true rfl) hq11 (by decide) (fun c11 => ?_)
        have c11 : in32 _ := c11
        refine r_goto C dX11_text_52 (tgt := 59) (by decide) ?_
        exact G.mask [false, false, false, false] rfl rfl (b_X11_text_59 C hr  c11 hf)
    · have hf := ite_n n5 hf
      refine r_bipush C dX11_text_22 rfl ?_
      cases hf
      exact r_jret C hr dX11_text_24 (in32_of rfl)
  · have hf := ite_p n2 hf
    refine r_bipush C dX11_text_7 rfl ?_
    cases hf
    exact r_jret C hr dX11_text_9 (in32_of rfl)
set_option maxRecDepth 20000 in
theorem am_X11_text (l : Launch) (n : Nat) : AM l yX11_text cX11_text 4 (some .int) 35 823 [2, 0] 0 (un2 (f_X11_text n)) := by
  refine AM.intro (by decide) (fun xs hx => ?_) (fun g xs h Z hl C hr hx hf => ?_)
  · obtain ⟨a0, a1, rfl, c0, c1⟩ := canL_2 hx
    exact Nat.le_of_ble_eq_true rfl
  · obtain ⟨a0, a1, rfl, c0, c1⟩ := canL_2 hx
    have hf := (un2_e _ a0 a1 _).symm.trans hf
    exact e_X11_text (n := n) C hr c0 c1 hf
/-! LinesPromised$World.ordering(II)I -/
theorem dX10_ordering_0 : decode cX10_ordering 0 = .ok (.iconst (-1), 1) := by decide +kernel
theorem dX10_ordering_1 : decode cX10_ordering 1 = .ok (.istore_n 3, 1) := by decide +kernel
theorem dX10_ordering_2 : decode cX10_ordering 2 = .ok (.iconst (-1), 1) := by decide +kernel
theorem dX10_ordering_3 : decode cX10_ordering 3 = .ok (.istore 4, 2) := by decide +kernel
theorem dX10_ordering_5 : decode cX10_ordering 5 = .ok (.iconst 0, 1) := by decide +kernel
theorem dX10_ordering_6 : decode cX10_ordering 6 = .ok (.istore 5, 2) := by decide +kernel
theorem dX10_ordering_8 : decode cX10_ordering 8 = .ok (.iload 5, 2) := by decide +kernel
theorem dX10_ordering_10 : decode cX10_ordering 10 = .ok (.aload_n 0, 1) := by decide +kernel
theorem dX10_ordering_11 : decode cX10_ordering 11 = .ok (.getfield 82, 3) := by decide +kernel
theorem dX10_ordering_14 : decode cX10_ordering 14 = .ok (.if_icmp .ge 63, 3) := by decide +kernel
theorem dX10_ordering_17 : decode cX10_ordering 17 = .ok (.aload_n 0, 1) := by decide +kernel
theorem dX10_ordering_18 : decode cX10_ordering 18 = .ok (.getfield 51, 3) := by decide +kernel
theorem dX10_ordering_21 : decode cX10_ordering 21 = .ok (.iload 5, 2) := by decide +kernel
theorem dX10_ordering_23 : decode cX10_ordering 23 = .ok (.aaload, 1) := by decide +kernel
theorem dX10_ordering_24 : decode cX10_ordering 24 = .ok (.astore 6, 2) := by decide +kernel
theorem dX10_ordering_26 : decode cX10_ordering 26 = .ok (.aload 6, 2) := by decide +kernel
theorem dX10_ordering_28 : decode cX10_ordering 28 = .ok (.ifnull 43, 3) := by decide +kernel
theorem dX10_ordering_31 : decode cX10_ordering 31 = .ok (.aload 6, 2) := by decide +kernel
theorem dX10_ordering_33 : decode cX10_ordering 33 = .ok (.getfield 94, 3) := by decide +kernel
theorem dX10_ordering_36 : decode cX10_ordering 36 = .ok (.iload_n 1, 1) := by decide +kernel
theorem dX10_ordering_37 : decode cX10_ordering 37 = .ok (.iaload, 1) := by decide +kernel
theorem dX10_ordering_38 : decode cX10_ordering 38 = .ok (.iconst (-1), 1) := by decide +kernel
theorem dX10_ordering_39 : decode cX10_ordering 39 = .ok (.if_icmp .eq 32, 3) := by decide +kernel
theorem dX10_ordering_42 : decode cX10_ordering 42 = .ok (.aload 6, 2) := by decide +kernel
theorem dX10_ordering_44 : decode cX10_ordering 44 = .ok (.getfield 98, 3) := by decide +kernel
theorem dX10_ordering_47 : decode cX10_ordering 47 = .ok (.iload_n 2, 1) := by decide +kernel
theorem dX10_ordering_48 : decode cX10_ordering 48 = .ok (.if_icmp .gt 23, 3) := by decide +kernel
theorem dX10_ordering_51 : decode cX10_ordering 51 = .ok (.aload 6, 2) := by decide +kernel
theorem dX10_ordering_53 : decode cX10_ordering 53 = .ok (.getfield 98, 3) := by decide +kernel
theorem dX10_ordering_56 : decode cX10_ordering 56 = .ok (.iload 4, 2) := by decide +kernel
theorem dX10_ordering_58 : decode cX10_ordering 58 = .ok (.if_icmp .lt 13, 3) := by decide +kernel
theorem dX10_ordering_61 : decode cX10_ordering 61 = .ok (.iload 5, 2) := by decide +kernel
theorem dX10_ordering_63 : decode cX10_ordering 63 = .ok (.istore_n 3, 1) := by decide +kernel
theorem dX10_ordering_64 : decode cX10_ordering 64 = .ok (.aload 6, 2) := by decide +kernel
theorem dX10_ordering_66 : decode cX10_ordering 66 = .ok (.getfield 98, 3) := by decide +kernel
theorem dX10_ordering_69 : decode cX10_ordering 69 = .ok (.istore 4, 2) := by decide +kernel
theorem dX10_ordering_71 : decode cX10_ordering 71 = .ok (.iinc 5 1, 3) := by decide +kernel
theorem dX10_ordering_74 : decode cX10_ordering 74 = .ok (.goto (-66), 3) := by decide +kernel
theorem dX10_ordering_77 : decode cX10_ordering 77 = .ok (.iload_n 3, 1) := by decide +kernel
theorem dX10_ordering_78 : decode cX10_ordering 78 = .ok (.ireturn, 1) := by decide +kernel
theorem cm_X10_ordering : CM yX10_ordering cX10_ordering 7 (some .int) 2 10 := ⟨w_677, w_678, w_679, w_88, ⟨by decide +kernel, by decide +kernel, by decide +kernel⟩, ⟨_, _, rfl⟩, by decide⟩
noncomputable def f_X10_ordering_71 (n : Nat) (rec8 : Int → Int → Int → MM → RR) (v0 v1 v2 v3 v4 v5 : Int) (h : MM) : RR :=
  lb (wr (v5 + 1)) fun x1 =>
  rec8 v3 v4 x1 h
noncomputable def f_X10_ordering_8b (n : Nat) (rec8 : Int → Int → Int → MM → RR) (v0 v1 v2 v3 v4 v5 : Int) (h : MM) : RR :=
  gf h v0 10 8 fun r1 =>
  if r1 ≤ v5 then
    some (v3, h)
  else
  gf h v0 10 6 fun r3 =>
  rd h r3 104 v5 fun r4 =>
  if r4 = 0 then
    f_X10_ordering_71 n rec8 v0 v1 v2 v3 v4 v5 h
  else
  gf h r4 3 3 fun r6 =>
  rd h r6 100 v1 fun r7 =>
  if r7 = (-1) then
    f_X10_ordering_71 n rec8 v0 v1 v2 v3 v4 v5 h
  else
  gf h r4 3 0 fun r9 =>
  if v2 < r9 then
    f_X10_ordering_71 n rec8 v0 v1 v2 v3 v4 v5 h
  else
  gf h r4 3 0 fun r11 =>
  if r11 < v4 then
    f_X10_ordering_71 n rec8 v0 v1 v2 v3 v4 v5 h
  else
  gf h r4 3 0 fun r13 =>
  f_X10_ordering_71 n rec8 v0 v1 v2 v5 r13 v5 h
noncomputable def f_X10_ordering_8 (n : Nat)  (v0 v1 v2 : Int) : Nat → Int → Int → Int → MM → RR
  | 0, _, _, _, _ => none
  | k + 1, v3, v4, v5, h => f_X10_ordering_8b n  (f_X10_ordering_8 n  v0 v1 v2 k) v0 v1 v2 v3 v4 v5 h
noncomputable def f_X10_ordering (n : Nat) (v0 v1 v2 : Int) (h : MM) : RR :=
  f_X10_ordering_8 n v0 v1 v2 n ((-1)) ((-1)) 0 h
set_option maxRecDepth 20000 in
theorem b_X10_ordering_71 {g : GT} {Z : Int × MM} {n : Nat} (C : Cx g cX10_ordering 7 yX10_ordering 0 0) (hr : Rt g (some .int) 0 Z) {v0 v1 v2 v3 v4 v5 : Int}  {rec8 : Int → Int → Int → MM → RR} (L8 : ∀ (u3 u4 u5 : Int) (h : MM), in32 u3 → in32 u4 → in32 u5 → rec8 u3 u4 u5 h = some Z → G g 8 [(2, v0), (0, v1), (0, v2), (0, u3), (0, u4), (0, u5), (3, 0)] [] h) (cv1 : in32 v1) (cv2 : in32 v2) (cv3 : in32 v3) (cv4 : in32 v4) (cv5 : in32 v5) {h : MM} (hf : f_X10_ordering_71 n rec8 v0 v1 v2 v3 v4 v5 h = some Z) : G g 71 [(2, v0), (0, v1), (0, v2), (0, v3), (0, v4), (0, v5), (3, 0)] [] h := by
  unfold f_X10_ordering_71 at hf
  obtain ⟨x1, e1, hf⟩ := lb_s hf
  have c1 : in32 x1 := by rw [e1]; exact (in32_t _)
  refine r_iincL C dX10_ordering_71 rfl e1 (Nat.le_of_ble_eq_true rfl) rfl ?_
  refine r_goto C dX10_ordering_74 (tgt := 8) (by decide) ?_
  exact G.mask [true, true, true, true, true, true, false] rfl rfl (L8 _ _ _ _ cv3 cv4 c1 hf)
set_option maxRecDepth 20000 in
theorem b_X10_ordering_8b {g : GT} {Z : Int × MM} {n : Nat} (C : Cx g cX10_ordering 7 yX10_ordering 0 0) (hr : Rt g (some .int) 0 Z) {v0 v1 v2 v3 v4 v5 : Int}  {rec8 : Int → Int → Int → MM → RR} (L8 : ∀ (u3 u4 u5 : Int) (h : MM), in32 u3 → in32 u4 → in32 u5 → rec8 u3 u4 u5 h = some Z → G g 8 [(2, v0), (0, v1), (0, v2), (0, u3), (0, u4), (0, u5), (3, 0)] [] h) (cv1 : in32 v1) (cv2 : in32 v2) (cv3 : in32 v3) (cv4 : in32 v4) (cv5 : in32 v5) {h : MM} (hf : f_X10_ordering_8b n rec8 v0 v1 v2 v3 v4 v5 h = some Z) : G g 8 [(2, v0), (0, v1), (0, v2), (0, v3), (0, v4), (0, v5), (3, 0)] [] h := by
  unfold f_X10_ordering_8b at hf
  refine r_iload C dX10_ordering_8 rfl ?_
  refine r_aload_n C dX10_ordering_10 rfl ?_
  obtain ⟨q1, hf⟩ := gf_s hf
  refine r_gf C ct10 (j := 8) (ji := 8) dX10_ordering_11 q1 rfl rfl (by decide) w_314 rfl (fun c1 => ?_)
  have c1 : in32 _ := c1
  refine r_icmp_ge C dX10_ordering_14 (tgt := 77) (by decide) cv5 c1 (fun n2 => ?_) (fun n2 => ?_)
  · have hf := ite_p n2 hf
    refine r_iload_n C dX10_ordering_77 rfl ?_
    cases hf
    exact r_jret C hr dX10_ordering_78 cv3
  · have hf := ite_n n2 hf
    refine r_aload_n C dX10_ordering_17 rfl ?_
    obtain ⟨q3, hf⟩ := gf_s hf
    refine r_gf C ct10 (j := 6) (ji := 6) dX10_ordering_18 q3 rfl rfl (by decide) w_311 rfl (fun c3 => ?_)
    refine r_iload C dX10_ordering_21 rfl ?_
    obtain ⟨q4, hf⟩ := rd_s hf
    refine r_aald C dX10_ordering_23 q4 (tn := 104) rfl (by decide) ?_
    refine r_astore C dX10_ordering_24 (Nat.le_of_ble_eq_true rfl) rfl ?_
    refine r_aload C dX10_ordering_26 rfl ?_
    refine r_ifnull C dX10_ordering_28 (tgt := 71) (by decide) (fun n5 => ?_) (fun n5 => ?_)
    · have hf := ite_p n5 hf
      exact G.mask [true, true, true, true, true, true, false] rfl rfl (b_X10_ordering_71 C hr L8 cv1 cv2 cv3 cv4 cv5 hf)
    · have hf := ite_n n5 hf
      refine r_aload C dX10_ordering_31 rfl ?_
      obtain ⟨q6, hf⟩ := gf_s hf
      refine r_gf C ct3 (j := 3) (ji := 3) dX10_ordering_33 q6 rfl rfl (by decide) w_538 rfl (fun c6 => ?_)
      refine r_iload_n C dX10_ordering_36 rfl ?_
      obtain ⟨q7, hf⟩ := rd_s hf
      refine r_iald C dX10_ordering_37 q7 rfl (fun c7 => ?_)
      refine r_iconst C dX10_ordering_38 ?_
      refine r_icmp_eq C dX10_ordering_39 (tgt := 71) (by decide) c7 (in32_of rfl) (fun n8 => ?_) (fun n8 => ?_)
      · have hf := ite_p n8 hf
        exact G.mask [true, true, true, true, true, true, false] rfl rfl (b_X10_ordering_71 C hr L8 cv1 cv2 cv3 cv4 cv5 hf)
      · have hf := ite_n n8 hf
        refine r_aload C dX10_ordering_42 rfl ?_
        obtain ⟨q9, hf⟩ := gf_s hf
        refine r_gf C ct3 (j := 0) (ji := 0) dX10_ordering_44 q9 rfl rfl (by decide) w_533 rfl (fun c9 => ?_)
        have c9 : in32 _ := c9
        refine r_iload_n C dX10_ordering_47 rfl ?_
        refine r_icmp_gt C dX10_ordering_48 (tgt := 71) (by decide) c9 cv2 (fun n10 => ?_) (fun n10 => ?_)
        · have hf := ite_p n10 hf
          exact G.mask [true, true, true, true, true, true, false] rfl rfl (b_X10_ordering_71 C hr L8 cv1 cv2 cv3 cv4 cv5 hf)
        · have hf := ite_n n10 hf
          refine r_aload C dX10_ordering_51 rfl ?_
          obtain ⟨q11, hf⟩ := gf_s hf
          refine r_gf C ct3 (j := 0) (ji := 0) dX10_ordering_53 q11 rfl rfl (by decide) w_533 rfl (fun c11 => ?_)
          have c11 : in32 _ := c11
          refine r_iload C dX10_ordering_56 rfl ?_
          refine r_icmp_lt C dX10_ordering_58 (tgt := 71) (by decide) c11 cv4 (fun n12 => ?_) (fun n12 => ?_)
          · have hf := ite_p n12 hf
            exact G.mask [true, true, true, true, true, true, false] rfl rfl (b_X10_ordering_71 C hr L8 cv1 cv2 cv3 cv4 cv5 hf)
          · have hf := ite_n n12 hf
            refine r_iload C dX10_ordering_61 rfl ?_
            refine r_istore_n C dX10_ordering_63 (Nat.le_of_ble_eq_true rfl) rfl ?_
            refine r_aload C dX10_ordering_64 rfl ?_
            obtain ⟨q13, hf⟩ := gf_s hf
            refine r_gf C ct3 (j := 0) (ji := 0) dX10_ordering_66 q13 rfl rfl (by decide) w_533 rfl (fun c13 => ?_)
            have c13 : in32 _ := c13
            refine r_istore C dX10_ordering_69 (Nat.le_of_ble_eq_true rfl) rfl ?_
            exact G.mask [true, true, true, true, true, true, false] rfl rfl (b_X10_ordering_71 C hr L8 cv1 cv2 cv5 c13 cv5 hf)
set_option maxRecDepth 20000 in
theorem l_X10_ordering_8 {g : GT} {Z : Int × MM} {n : Nat} (C : Cx g cX10_ordering 7 yX10_ordering 0 0) (hr : Rt g (some .int) 0 Z) {v0 v1 v2 : Int}   (cv1 : in32 v1) (cv2 : in32 v2) : ∀ (k : Nat) (v3 v4 v5 : Int) (h : MM), in32 v3 → in32 v4 → in32 v5 → f_X10_ordering_8 n  v0 v1 v2 k v3 v4 v5 h = some Z → G g 8 [(2, v0), (0, v1), (0, v2), (0, v3), (0, v4), (0, v5), (3, 0)] [] h := by
  intro k
  induction k with
  | zero => intro v3 v4 v5 h cv3 cv4 cv5 hf; exact absurd hf (by intro z; cases z)
  | succ k ih => intro v3 v4 v5 h cv3 cv4 cv5 hf; exact b_X10_ordering_8b C hr (rec8 := f_X10_ordering_8 n  v0 v1 v2 k)  ih cv1 cv2 cv3 cv4 cv5 (show f_X10_ordering_8b n  (f_X10_ordering_8 n  v0 v1 v2 k) v0 v1 v2 v3 v4 v5 h = some Z from hf)
set_option maxRecDepth 20000 in
theorem e_X10_ordering {g : GT} {Z : Int × MM} {n : Nat} (C : Cx g cX10_ordering 7 yX10_ordering 0 0) (hr : Rt g (some .int) 0 Z) {v0 v1 v2 : Int} (cv0 : cK 2 v0) (cv1 : cK 0 v1) (cv2 : cK 0 v2) {h : MM} (hf : f_X10_ordering n v0 v1 v2 h = some Z) : G g 0 [(2, v0), (0, v1), (0, v2), (3, 0), (3, 0), (3, 0), (3, 0)] [] h := by
  have cv1 : in32 v1 := cv1
  have cv2 : in32 v2 := cv2
  unfold f_X10_ordering at hf
  refine r_iconst C dX10_ordering_0 ?_
  refine r_istore_n C dX10_ordering_1 (Nat.le_of_ble_eq_true rfl) rfl ?_
  refine r_iconst C dX10_ordering_2 ?_
  refine r_istore C dX10_ordering_3 (Nat.le_of_ble_eq_true rfl) rfl ?_
  refine r_iconst C dX10_ordering_5 ?_
  refine r_istore C dX10_ordering_6 (Nat.le_of_ble_eq_true rfl) rfl ?_
  exact G.mask [true, true, true, true, true, true, false] rfl rfl (l_X10_ordering_8 C hr  cv1 cv2 _ _ _ _ _ (in32_of rfl) (in32_of rfl) (in32_of rfl) hf)
set_option maxRecDepth 20000 in
theorem am_X10_ordering (l : Launch) (n : Nat) : AM l yX10_ordering cX10_ordering 7 (some .int) 0 0 [2, 0, 0] 0 (un3 (f_X10_ordering n)) := by
  refine AM.intro (by decide) (fun xs hx => ?_) (fun g xs h Z hl C hr hx hf => ?_)
  · obtain ⟨a0, a1, a2, rfl, c0, c1, c2⟩ := canL_3 hx
    exact Nat.le_of_ble_eq_true rfl
  · obtain ⟨a0, a1, a2, rfl, c0, c1, c2⟩ := canL_3 hx
    have hf := (un3_e _ a0 a1 a2 _).symm.trans hf
    exact e_X10_ordering (n := n) C hr c0 c1 c2 hf
/-! LinesPromised$World.ruling(II)LLinesPromised$Order; -/
theorem dX10_ruling_0 : decode cX10_ruling 0 = .ok (.aload_n 0, 1) := by decide +kernel
theorem dX10_ruling_1 : decode cX10_ruling 1 = .ok (.iload_n 1, 1) := by decide +kernel
theorem dX10_ruling_2 : decode cX10_ruling 2 = .ok (.iload_n 2, 1) := by decide +kernel
theorem dX10_ruling_3 : decode cX10_ruling 3 = .ok (.invokevirtual 101, 3) := by decide +kernel
theorem dX10_ruling_6 : decode cX10_ruling 6 = .ok (.istore_n 3, 1) := by decide +kernel
theorem dX10_ruling_7 : decode cX10_ruling 7 = .ok (.iload_n 3, 1) := by decide +kernel
theorem dX10_ruling_8 : decode cX10_ruling 8 = .ok (.iconst (-1), 1) := by decide +kernel
theorem dX10_ruling_9 : decode cX10_ruling 9 = .ok (.if_icmp .ne 7, 3) := by decide +kernel
theorem dX10_ruling_12 : decode cX10_ruling 12 = .ok (.aconst_null, 1) := by decide +kernel
theorem dX10_ruling_13 : decode cX10_ruling 13 = .ok (.goto 9, 3) := by decide +kernel
theorem dX10_ruling_16 : decode cX10_ruling 16 = .ok (.aload_n 0, 1) := by decide +kernel
theorem dX10_ruling_17 : decode cX10_ruling 17 = .ok (.getfield 51, 3) := by decide +kernel
theorem dX10_ruling_20 : decode cX10_ruling 20 = .ok (.iload_n 3, 1) := by decide +kernel
theorem dX10_ruling_21 : decode cX10_ruling 21 = .ok (.aaload, 1) := by decide +kernel
theorem dX10_ruling_22 : decode cX10_ruling 22 = .ok (.areturn, 1) := by decide +kernel
theorem cm_X10_ruling : CM yX10_ruling cX10_ruling 4 (some (.object "LinesPromised$Order")) 2 10 := ⟨w_673, w_674, w_675, w_88, ⟨by decide +kernel, by decide +kernel, by decide +kernel⟩, ⟨_, _, rfl⟩, by decide⟩
noncomputable def f_X10_ruling_22 (n : Nat)  (s0 : Int) (h : MM) : RR :=
  some (s0, h)
noncomputable def f_X10_ruling (n : Nat) (v0 v1 v2 : Int) (h : MM) : RR :=
  gk h v0 10 <|
  bd (f_X10_ordering n v0 v1 v2 h) fun r1 h1 =>
  if r1 = (-1) then
    f_X10_ruling_22 n 0 h1
  else
  gf h1 v0 10 6 fun r3 =>
  rd h1 r3 104 r1 fun r4 =>
  f_X10_ruling_22 n r4 h1
set_option maxRecDepth 20000 in
theorem b_X10_ruling_22 {g : GT} {Z : Int × MM} {n : Nat} (C : Cx g cX10_ruling 4 yX10_ruling 1 26) (hr : Rt g (some (.object "LinesPromised$Order")) 2 Z) {s0 : Int}     {h : MM} (hf : f_X10_ruling_22 n  s0 h = some Z) : G g 22 [(3, 0), (3, 0), (3, 0), (3, 0)] [(2, s0)] h := by
  unfold f_X10_ruling_22 at hf
  cases hf
  exact r_aret C hr dX10_ruling_22 (Or.inl ⟨_, rfl⟩)
set_option maxRecDepth 20000 in
theorem e_X10_ruling {g : GT} {Z : Int × MM} {n : Nat} (C : Cx g cX10_ruling 4 yX10_ruling 1 26) (hr : Rt g (some (.object "LinesPromised$Order")) 2 Z) {v0 v1 v2 : Int} (cv0 : cK 2 v0) (cv1 : cK 0 v1) (cv2 : cK 0 v2) {h : MM} (hf : f_X10_ruling n v0 v1 v2 h = some Z) : G g 0 [(2, v0), (0, v1), (0, v2), (3, 0)] [] h := by
  have cv1 : in32 v1 := cv1
  have cv2 : in32 v2 := cv2
  unfold f_X10_ruling at hf
  refine r_aload_n C dX10_ruling_0 rfl ?_
  refine r_iload_n C dX10_ruling_1 rfl ?_
  refine r_iload_n C dX10_ruling_2 rfl ?_
  obtain ⟨p1, hf⟩ := gk_s hf
  obtain ⟨r1, h1, hq1, hf⟩ := bd_s hf
  refine r_cV2 C (am_X10_ordering (gl g) n) cm_X10_ordering w_676 dX10_ruling_3 ⟨Nat.le_of_ble_eq_true rfl, Nat.le_of_ble_eq_true rfl⟩ p1 rfl cv1 cv2 rfl (Nat.le_of_ble_eq_true rfl) hq1 (by decide) (fun c1 => ?_)
  have c1 : in32 _ := c1
  refine r_istore_n C dX10_ruling_6 (Nat.le_of_ble_eq_true rfl) rfl ?_
  refine r_iload_n C dX10_ruling_7 rfl ?_
  refine r_iconst C dX10_ruling_8 ?_
  refine r_icmp_ne C dX10_ruling_9 (tgt := 16) (by decide) c1 (in32_of rfl) (fun n2 => ?_) (fun n2 => ?_)
  · have hf := ite_n n2 hf
    refine r_aload_n C dX10_ruling_16 rfl ?_
    obtain ⟨q3, hf⟩ := gf_s hf
    refine r_gf C ct10 (j := 6) (ji := 6) dX10_ruling_17 q3 rfl rfl (by decide) w_311 rfl (fun c3 => ?_)
    refine r_iload_n C dX10_ruling_20 rfl ?_
    obtain ⟨q4, hf⟩ := rd_s hf
    refine r_aald C dX10_ruling_21 q4 (tn := 104) rfl (by decide) ?_
    exact G.mask [false, false, false, false] rfl rfl (b_X10_ruling_22 C hr   hf)
  · have hf := ite_p n2 hf
    refine r_null C dX10_ruling_12 ?_
    refine r_goto C dX10_ruling_13 (tgt := 22) (by decide) ?_
    exact G.mask [false, false, false, false] rfl rfl (b_X10_ruling_22 C hr   hf)
set_option maxRecDepth 20000 in
theorem am_X10_ruling (l : Launch) (n : Nat) : AM l yX10_ruling cX10_ruling 4 (some (.object "LinesPromised$Order")) 1 26 [2, 0, 0] 2 (un3 (f_X10_ruling n)) := by
  refine AM.intro (by decide) (fun xs hx => ?_) (fun g xs h Z hl C hr hx hf => ?_)
  · obtain ⟨a0, a1, a2, rfl, c0, c1, c2⟩ := canL_3 hx
    exact Nat.le_of_ble_eq_true rfl
  · obtain ⟨a0, a1, a2, rfl, c0, c1, c2⟩ := canL_3 hx
    have hf := (un3_e _ a0 a1 a2 _).symm.trans hf
    exact e_X10_ruling (n := n) C hr c0 c1 c2 hf
/-! LinesPromised$World.ruleOf(II)I -/
theorem dX10_ruleOf_0 : decode cX10_ruleOf 0 = .ok (.aload_n 0, 1) := by decide +kernel
theorem dX10_ruleOf_1 : decode cX10_ruleOf 1 = .ok (.iload_n 1, 1) := by decide +kernel
theorem dX10_ruleOf_2 : decode cX10_ruleOf 2 = .ok (.iload_n 2, 1) := by decide +kernel
theorem dX10_ruleOf_3 : decode cX10_ruleOf 3 = .ok (.invokevirtual 105, 3) := by decide +kernel
theorem dX10_ruleOf_6 : decode cX10_ruleOf 6 = .ok (.astore_n 3, 1) := by decide +kernel
theorem dX10_ruleOf_7 : decode cX10_ruleOf 7 = .ok (.aload_n 3, 1) := by decide +kernel
theorem dX10_ruleOf_8 : decode cX10_ruleOf 8 = .ok (.ifnonnull 11, 3) := by decide +kernel
theorem dX10_ruleOf_11 : decode cX10_ruleOf 11 = .ok (.getstatic 109, 3) := by decide +kernel
theorem dX10_ruleOf_14 : decode cX10_ruleOf 14 = .ok (.iload_n 1, 1) := by decide +kernel
theorem dX10_ruleOf_15 : decode cX10_ruleOf 15 = .ok (.iaload, 1) := by decide +kernel
theorem dX10_ruleOf_16 : decode cX10_ruleOf 16 = .ok (.goto 9, 3) := by decide +kernel
theorem dX10_ruleOf_19 : decode cX10_ruleOf 19 = .ok (.aload_n 3, 1) := by decide +kernel
theorem dX10_ruleOf_20 : decode cX10_ruleOf 20 = .ok (.getfield 112, 3) := by decide +kernel
theorem dX10_ruleOf_23 : decode cX10_ruleOf 23 = .ok (.iload_n 1, 1) := by decide +kernel
theorem dX10_ruleOf_24 : decode cX10_ruleOf 24 = .ok (.iaload, 1) := by decide +kernel
theorem dX10_ruleOf_25 : decode cX10_ruleOf 25 = .ok (.ireturn, 1) := by decide +kernel
theorem cm_X10_ruleOf : CM yX10_ruleOf cX10_ruleOf 4 (some .int) 2 10 := ⟨w_681, w_682, w_683, w_88, ⟨by decide +kernel, by decide +kernel, by decide +kernel⟩, ⟨_, _, rfl⟩, by decide⟩
noncomputable def f_X10_ruleOf_25 (n : Nat)  (s0 : Int) (h : MM) : RR :=
  some (s0, h)
noncomputable def f_X10_ruleOf (n : Nat) (v0 v1 v2 : Int) (h : MM) : RR :=
  gk h v0 10 <|
  bd (f_X10_ruling n v0 v1 v2 h) fun r1 h1 =>
  if r1 = 0 then
    rd h1 4 100 v1 fun r5 =>
    f_X10_ruleOf_25 n r5 h1
  else
  gf h1 r1 3 2 fun r3 =>
  rd h1 r3 100 v1 fun r4 =>
  f_X10_ruleOf_25 n r4 h1
set_option maxRecDepth 20000 in
theorem b_X10_ruleOf_25 {g : GT} {Z : Int × MM} {n : Nat} (C : Cx g cX10_ruleOf 4 yX10_ruleOf 2 49) (hr : Rt g (some .int) 0 Z) {s0 : Int}    (cs0 : in32 s0) {h : MM} (hf : f_X10_ruleOf_25 n  s0 h = some Z) : G g 25 [(3, 0), (3, 0), (3, 0), (3, 0)] [(0, s0)] h := by
  unfold f_X10_ruleOf_25 at hf
  cases hf
  exact r_jret C hr dX10_ruleOf_25 cs0
set_option maxRecDepth 20000 in
theorem e_X10_ruleOf {g : GT} {Z : Int × MM} {n : Nat} (C : Cx g cX10_ruleOf 4 yX10_ruleOf 2 49) (hr : Rt g (some .int) 0 Z) {v0 v1 v2 : Int} (cv0 : cK 2 v0) (cv1 : cK 0 v1) (cv2 : cK 0 v2) {h : MM} (hf : f_X10_ruleOf n v0 v1 v2 h = some Z) : G g 0 [(2, v0), (0, v1), (0, v2), (3, 0)] [] h := by
  have cv1 : in32 v1 := cv1
  have cv2 : in32 v2 := cv2
  unfold f_X10_ruleOf at hf
  refine r_aload_n C dX10_ruleOf_0 rfl ?_
  refine r_iload_n C dX10_ruleOf_1 rfl ?_
  refine r_iload_n C dX10_ruleOf_2 rfl ?_
  obtain ⟨p1, hf⟩ := gk_s hf
  obtain ⟨r1, h1, hq1, hf⟩ := bd_s hf
  refine r_cV2 C (am_X10_ruling (gl g) n) cm_X10_ruling w_684 dX10_ruleOf_3 ⟨Nat.le_of_ble_eq_true rfl, Nat.le_of_ble_eq_true rfl⟩ p1 rfl cv1 cv2 rfl (Nat.le_of_ble_eq_true rfl) hq1 (by decide) (fun c1 => ?_)
  refine r_astore_n C dX10_ruleOf_6 (Nat.le_of_ble_eq_true rfl) rfl ?_
  refine r_aload_n C dX10_ruleOf_7 rfl ?_
  refine r_ifnonnull C dX10_ruleOf_8 (tgt := 19) (by decide) (fun n2 => ?_) (fun n2 => ?_)
  · have hf := ite_n n2 hf
    refine r_aload_n C dX10_ruleOf_19 rfl ?_
    obtain ⟨q3, hf⟩ := gf_s hf
    refine r_gf C ct3 (j := 2) (ji := 2) dX10_ruleOf_20 q3 rfl rfl (by decide) w_536 rfl (fun c3 => ?_)
    refine r_iload_n C dX10_ruleOf_23 rfl ?_
    obtain ⟨q4, hf⟩ := rd_s hf
    refine r_iald C dX10_ruleOf_24 q4 rfl (fun c4 => ?_)
    exact G.mask [false, false, false, false] rfl rfl (b_X10_ruleOf_25 C hr  c4 hf)
  · have hf := ite_p n2 hf
    refine r_gsS C dX10_ruleOf_11 C.hK.2.2.2.2.1 ?_
    refine r_iload_n C dX10_ruleOf_14 rfl ?_
    obtain ⟨q5, hf⟩ := rd_s hf
    refine r_iald C dX10_ruleOf_15 q5 rfl (fun c5 => ?_)
    refine r_goto C dX10_ruleOf_16 (tgt := 25) (by decide) ?_
    exact G.mask [false, false, false, false] rfl rfl (b_X10_ruleOf_25 C hr  c5 hf)
set_option maxRecDepth 20000 in
theorem am_X10_ruleOf (l : Launch) (n : Nat) : AM l yX10_ruleOf cX10_ruleOf 4 (some .int) 2 49 [2, 0, 0] 0 (un3 (f_X10_ruleOf n)) := by
  refine AM.intro (by decide) (fun xs hx => ?_) (fun g xs h Z hl C hr hx hf => ?_)
  · obtain ⟨a0, a1, a2, rfl, c0, c1, c2⟩ := canL_3 hx
    exact Nat.le_of_ble_eq_true rfl
  · obtain ⟨a0, a1, a2, rfl, c0, c1, c2⟩ := canL_3 hx
    have hf := (un3_e _ a0 a1 a2 _).symm.trans hf
    exact e_X10_ruleOf (n := n) C hr c0 c1 c2 hf
/-! LinesPromised.force(II)I -/
theorem dX11_force_0 : decode cX11_force 0 = .ok (.iload_n 1, 1) := by decide +kernel
theorem dX11_force_1 : decode cX11_force 1 = .ok (.i2l, 1) := by decide +kernel
theorem dX11_force_2 : decode cX11_force 2 = .ok (.iconst 0, 1) := by decide +kernel
theorem dX11_force_3 : decode cX11_force 3 = .ok (.bipush 6, 2) := by decide +kernel
theorem dX11_force_5 : decode cX11_force 5 = .ok (.invokestatic 46, 3) := by decide +kernel
theorem dX11_force_8 : decode cX11_force 8 = .ok (.ifCond .ne 5, 3) := by decide +kernel
theorem dX11_force_11 : decode cX11_force 11 = .ok (.iconst (-1), 1) := by decide +kernel
theorem dX11_force_12 : decode cX11_force 12 = .ok (.ireturn, 1) := by decide +kernel
theorem dX11_force_13 : decode cX11_force 13 = .ok (.iload_n 2, 1) := by decide +kernel
theorem dX11_force_14 : decode cX11_force 14 = .ok (.invokestatic 97, 3) := by decide +kernel
theorem dX11_force_17 : decode cX11_force 17 = .ok (.ifCond .ne 6, 3) := by decide +kernel
theorem dX11_force_20 : decode cX11_force 20 = .ok (.bipush (-2), 2) := by decide +kernel
theorem dX11_force_22 : decode cX11_force 22 = .ok (.ireturn, 1) := by decide +kernel
theorem dX11_force_23 : decode cX11_force 23 = .ok (.iload_n 1, 1) := by decide +kernel
theorem dX11_force_24 : decode cX11_force 24 = .ok (.bipush 6, 2) := by decide +kernel
theorem dX11_force_26 : decode cX11_force 26 = .ok (.if_icmp .ne 22, 3) := by decide +kernel
theorem dX11_force_29 : decode cX11_force 29 = .ok (.aload_n 0, 1) := by decide +kernel
theorem dX11_force_30 : decode cX11_force 30 = .ok (.getfield 10, 3) := by decide +kernel
theorem dX11_force_33 : decode cX11_force 33 = .ok (.bipush 6, 2) := by decide +kernel
theorem dX11_force_35 : decode cX11_force 35 = .ok (.iload_n 2, 1) := by decide +kernel
theorem dX11_force_36 : decode cX11_force 36 = .ok (.invokevirtual 117, 3) := by decide +kernel
theorem dX11_force_39 : decode cX11_force 39 = .ok (.ifnonnull 7, 3) := by decide +kernel
theorem dX11_force_42 : decode cX11_force 42 = .ok (.iconst 0, 1) := by decide +kernel
theorem dX11_force_43 : decode cX11_force 43 = .ok (.goto 4, 3) := by decide +kernel
theorem dX11_force_46 : decode cX11_force 46 = .ok (.iconst 1, 1) := by decide +kernel
theorem dX11_force_47 : decode cX11_force 47 = .ok (.ireturn, 1) := by decide +kernel
theorem dX11_force_48 : decode cX11_force 48 = .ok (.aload_n 0, 1) := by decide +kernel
theorem dX11_force_49 : decode cX11_force 49 = .ok (.getfield 10, 3) := by decide +kernel
theorem dX11_force_52 : decode cX11_force 52 = .ok (.iload_n 1, 1) := by decide +kernel
theorem dX11_force_53 : decode cX11_force 53 = .ok (.iload_n 2, 1) := by decide +kernel
theorem dX11_force_54 : decode cX11_force 54 = .ok (.invokevirtual 121, 3) := by decide +kernel
theorem dX11_force_57 : decode cX11_force 57 = .ok (.ireturn, 1) := by decide +kernel
theorem cm_X11_force : CM yX11_force cX11_force 3 (some .int) 2 11 := ⟨w_669, w_670, w_671, w_87, ⟨by decide +kernel, by decide +kernel, by decide +kernel⟩, ⟨_, _, rfl⟩, by decide⟩
noncomputable def f_X11_force_47 (n : Nat)  (s0 : Int) (h : MM) : RR :=
  some (s0, h)
noncomputable def f_X11_force (n : Nat) (v0 v1 v2 : Int) (h : MM) : RR :=
  bd (f_X11_within n v1 0 6 h) fun r1 h1 =>
  if r1 = 0 then
    some ((-1), h1)
  else
  bd (f_X11_isDay n v2 h1) fun r3 h3 =>
  if r3 = 0 then
    some ((-2), h3)
  else
  if v1 = 6 then
    gf h3 v0 11 0 fun r8 =>
    gk h3 r8 10 <|
    bd (f_X10_ruling n r8 6 v2 h3) fun r9 h9 =>
    if r9 = 0 then
      f_X11_force_47 n 0 h9
    else
    f_X11_force_47 n 1 h9
  else
  gf h3 v0 11 0 fun r6 =>
  gk h3 r6 10 <|
  bd (f_X10_ruleOf n r6 v1 v2 h3) fun r7 h7 =>
  some (r7, h7)
set_option maxRecDepth 20000 in
theorem b_X11_force_47 {g : GT} {Z : Int × MM} {n : Nat} (C : Cx g cX11_force 3 yX11_force 3 72) (hr : Rt g (some .int) 0 Z) {s0 : Int}    (cs0 : in32 s0) {h : MM} (hf : f_X11_force_47 n  s0 h = some Z) : G g 47 [(3, 0), (3, 0), (3, 0)] [(0, s0)] h := by
  unfold f_X11_force_47 at hf
  cases hf
  exact r_jret C hr dX11_force_47 cs0
set_option maxRecDepth 20000 in
theorem e_X11_force {g : GT} {Z : Int × MM} {n : Nat} (C : Cx g cX11_force 3 yX11_force 3 72) (hr : Rt g (some .int) 0 Z) {v0 v1 v2 : Int} (cv0 : cK 2 v0) (cv1 : cK 0 v1) (cv2 : cK 0 v2) {h : MM} (hf : f_X11_force n v0 v1 v2 h = some Z) : G g 0 [(2, v0), (0, v1), (0, v2)] [] h := by
  have cv1 : in32 v1 := cv1
  have cv2 : in32 v2 := cv2
  unfold f_X11_force at hf
  refine r_iload_n C dX11_force_0 rfl ?_
  refine r_i2l C dX11_force_1 cv1 ?_
  refine r_iconst C dX11_force_2 ?_
  refine r_bipush C dX11_force_3 rfl ?_
  obtain ⟨r1, h1, hq1, hf⟩ := bd_s hf
  refine r_cS3 C (am_X11_within (gl g) n) cm_X11_within w_466 dX11_force_5 ⟨Nat.le_of_ble_eq_true rfl, Nat.le_of_ble_eq_true rfl⟩ (in64_i cv1) (in32_of rfl) (in32_of rfl) rfl (Nat.le_of_ble_eq_true rfl) hq1 (by decide) (fun c1 => ?_)
  have c1 : in32 _ := c1
  refine r_if_ne C dX11_force_8 (tgt := 13) (by decide) c1 (fun n2 => ?_) (fun n2 => ?_)
  · have hf := ite_n n2 hf
    refine r_iload_n C dX11_force_13 rfl ?_
    obtain ⟨r3, h3, hq3, hf⟩ := bd_s hf
    refine r_cS1 C (am_X11_isDay (gl g) n) cm_X11_isDay w_501 dX11_force_14 ⟨Nat.le_of_ble_eq_true rfl, Nat.le_of_ble_eq_true rfl⟩ cv2 rfl (Nat.le_of_ble_eq_true rfl) hq3 (by decide) (fun c3 => ?_)
    have c3 : in32 _ := c3
    refine r_if_ne C dX11_force_17 (tgt := 23) (by decide) c3 (fun n4 => ?_) (fun n4 => ?_)
    · have hf := ite_n n4 hf
      refine r_iload_n C dX11_force_23 rfl ?_
      refine r_bipush C dX11_force_24 rfl ?_
      refine r_icmp_ne C dX11_force_26 (tgt := 48) (by decide) cv1 (in32_of rfl) (fun n5 => ?_) (fun n5 => ?_)
      · have hf := ite_n n5 hf
        refine r_aload_n C dX11_force_48 rfl ?_
        obtain ⟨q6, hf⟩ := gf_s hf
        refine r_gf C ct11 (j := 0) (ji := 0) dX11_force_49 q6 rfl rfl (by decide) w_440 rfl (fun c6 => ?_)
        refine r_iload_n C dX11_force_52 rfl ?_
        refine r_iload_n C dX11_force_53 rfl ?_
        obtain ⟨p7, hf⟩ := gk_s hf
        obtain ⟨r7, h7, hq7, hf⟩ := bd_s hf
        refine r_cV2 C (am_X10_ruleOf (gl g) n) cm_X10_ruleOf w_680 dX11_force_54 ⟨Nat.le_of_ble_eq_true rfl, Nat.le_of_ble_eq_true rfl⟩ p7 rfl cv1 cv2 rfl (Nat.le_of_ble_eq_true rfl) hq7 (by decide) (fun c7 => ?_)
        have c7 : in32 _ := c7
        cases hf
        exact r_jret C hr dX11_force_57 c7
      · have hf := ite_p n5 hf
        refine r_aload_n C dX11_force_29 rfl ?_
        obtain ⟨q8, hf⟩ := gf_s hf
        refine r_gf C ct11 (j := 0) (ji := 0) dX11_force_30 q8 rfl rfl (by decide) w_440 rfl (fun c8 => ?_)
        refine r_bipush C dX11_force_33 rfl ?_
        refine r_iload_n C dX11_force_35 rfl ?_
        obtain ⟨p9, hf⟩ := gk_s hf
        obtain ⟨r9, h9, hq9, hf⟩ := bd_s hf
        refine r_cV2 C (am_X10_ruling (gl g) n) cm_X10_ruling w_672 dX11_force_36 ⟨Nat.le_of_ble_eq_true rfl, Nat.le_of_ble_eq_true rfl⟩ p9 rfl (in32_of rfl) cv2 rfl (Nat.le_of_ble_eq_true rfl) hq9 (by decide) (fun c9 => ?_)
        refine r_ifnonnull C dX11_force_39 (tgt := 46) (by decide) (fun n10 => ?_) (fun n10 => ?_)
        · have hf := ite_n n10 hf
          refine r_iconst C dX11_force_46 ?_
          exact G.mask [false, false, false] rfl rfl (b_X11_force_47 C hr  (in32_of rfl) hf)
        · have hf := ite_p n10 hf
          refine r_iconst C dX11_force_42 ?_
          refine r_goto C dX11_force_43 (tgt := 47) (by decide) ?_
          exact G.mask [false, false, false] rfl rfl (b_X11_force_47 C hr  (in32_of rfl) hf)
    · have hf := ite_p n4 hf
      refine r_bipush C dX11_force_20 rfl ?_
      cases hf
      exact r_jret C hr dX11_force_22 (in32_of rfl)
  · have hf := ite_p n2 hf
    refine r_iconst C dX11_force_11 ?_
    cases hf
    exact r_jret C hr dX11_force_12 (in32_of rfl)
set_option maxRecDepth 20000 in
theorem am_X11_force (l : Launch) (n : Nat) : AM l yX11_force cX11_force 3 (some .int) 3 72 [2, 0, 0] 0 (un3 (f_X11_force n)) := by
  refine AM.intro (by decide) (fun xs hx => ?_) (fun g xs h Z hl C hr hx hf => ?_)
  · obtain ⟨a0, a1, a2, rfl, c0, c1, c2⟩ := canL_3 hx
    exact Nat.le_of_ble_eq_true rfl
  · obtain ⟨a0, a1, a2, rfl, c0, c1, c2⟩ := canL_3 hx
    have hf := (un3_e _ a0 a1 a2 _).symm.trans hf
    exact e_X11_force (n := n) C hr c0 c1 c2 hf
/-! LinesPromised.why(II)I -/
theorem dX11_why_0 : decode cX11_why 0 = .ok (.iload_n 1, 1) := by decide +kernel
theorem dX11_why_1 : decode cX11_why 1 = .ok (.i2l, 1) := by decide +kernel
theorem dX11_why_2 : decode cX11_why 2 = .ok (.iconst 0, 1) := by decide +kernel
theorem dX11_why_3 : decode cX11_why 3 = .ok (.bipush 6, 2) := by decide +kernel
theorem dX11_why_5 : decode cX11_why 5 = .ok (.invokestatic 46, 3) := by decide +kernel
theorem dX11_why_8 : decode cX11_why 8 = .ok (.ifCond .ne 5, 3) := by decide +kernel
theorem dX11_why_11 : decode cX11_why 11 = .ok (.iconst (-1), 1) := by decide +kernel
theorem dX11_why_12 : decode cX11_why 12 = .ok (.ireturn, 1) := by decide +kernel
theorem dX11_why_13 : decode cX11_why 13 = .ok (.iload_n 2, 1) := by decide +kernel
theorem dX11_why_14 : decode cX11_why 14 = .ok (.invokestatic 97, 3) := by decide +kernel
theorem dX11_why_17 : decode cX11_why 17 = .ok (.ifCond .ne 6, 3) := by decide +kernel
theorem dX11_why_20 : decode cX11_why 20 = .ok (.bipush (-2), 2) := by decide +kernel
theorem dX11_why_22 : decode cX11_why 22 = .ok (.ireturn, 1) := by decide +kernel
theorem dX11_why_23 : decode cX11_why 23 = .ok (.aload_n 0, 1) := by decide +kernel
theorem dX11_why_24 : decode cX11_why 24 = .ok (.getfield 10, 3) := by decide +kernel
theorem dX11_why_27 : decode cX11_why 27 = .ok (.iload_n 1, 1) := by decide +kernel
theorem dX11_why_28 : decode cX11_why 28 = .ok (.iload_n 2, 1) := by decide +kernel
theorem dX11_why_29 : decode cX11_why 29 = .ok (.invokevirtual 124, 3) := by decide +kernel
theorem dX11_why_32 : decode cX11_why 32 = .ok (.istore_n 3, 1) := by decide +kernel
theorem dX11_why_33 : decode cX11_why 33 = .ok (.aload_n 0, 1) := by decide +kernel
theorem dX11_why_34 : decode cX11_why 34 = .ok (.getfield 10, 3) := by decide +kernel
theorem dX11_why_37 : decode cX11_why 37 = .ok (.iload_n 1, 1) := by decide +kernel
theorem dX11_why_38 : decode cX11_why 38 = .ok (.iload_n 2, 1) := by decide +kernel
theorem dX11_why_39 : decode cX11_why 39 = .ok (.invokevirtual 117, 3) := by decide +kernel
theorem dX11_why_42 : decode cX11_why 42 = .ok (.astore 4, 2) := by decide +kernel
theorem dX11_why_44 : decode cX11_why 44 = .ok (.aload 4, 2) := by decide +kernel
theorem dX11_why_46 : decode cX11_why 46 = .ok (.ifnonnull 8, 3) := by decide +kernel
theorem dX11_why_49 : decode cX11_why 49 = .ok (.bipush (-5), 2) := by decide +kernel
theorem dX11_why_51 : decode cX11_why 51 = .ok (.goto 15, 3) := by decide +kernel
theorem dX11_why_54 : decode cX11_why 54 = .ok (.bipush 100, 2) := by decide +kernel
theorem dX11_why_56 : decode cX11_why 56 = .ok (.iload_n 3, 1) := by decide +kernel
theorem dX11_why_57 : decode cX11_why 57 = .ok (.imul, 1) := by decide +kernel
theorem dX11_why_58 : decode cX11_why 58 = .ok (.aload 4, 2) := by decide +kernel
theorem dX11_why_60 : decode cX11_why 60 = .ok (.getfield 127, 3) := by decide +kernel
theorem dX11_why_63 : decode cX11_why 63 = .ok (.iload_n 1, 1) := by decide +kernel
theorem dX11_why_64 : decode cX11_why 64 = .ok (.iaload, 1) := by decide +kernel
theorem dX11_why_65 : decode cX11_why 65 = .ok (.iadd, 1) := by decide +kernel
theorem dX11_why_66 : decode cX11_why 66 = .ok (.ireturn, 1) := by decide +kernel
theorem cm_X11_why : CM yX11_why cX11_why 5 (some .int) 2 11 := ⟨w_688, w_689, w_690, w_87, ⟨by decide +kernel, by decide +kernel, by decide +kernel⟩, ⟨_, _, rfl⟩, by decide⟩
noncomputable def f_X11_why_66 (n : Nat)  (s0 : Int) (h : MM) : RR :=
  some (s0, h)
noncomputable def f_X11_why (n : Nat) (v0 v1 v2 : Int) (h : MM) : RR :=
  bd (f_X11_within n v1 0 6 h) fun r1 h1 =>
  if r1 = 0 then
    some ((-1), h1)
  else
  bd (f_X11_isDay n v2 h1) fun r3 h3 =>
  if r3 = 0 then
    some ((-2), h3)
  else
  gf h3 v0 11 0 fun r5 =>
  gk h3 r5 10 <|
  bd (f_X10_ordering n r5 v1 v2 h3) fun r6 h6 =>
  gf h6 v0 11 0 fun r7 =>
  gk h6 r7 10 <|
  bd (f_X10_ruling n r7 v1 v2 h6) fun r8 h8 =>
  if r8 = 0 then
    f_X11_why_66 n ((-5)) h8
  else
  gf h8 r8 3 3 fun r10 =>
  rd h8 r10 100 v1 fun r11 =>
  f_X11_why_66 n (wr ((wr (100 * r6)) + r11)) h8
set_option maxRecDepth 20000 in
theorem b_X11_why_66 {g : GT} {Z : Int × MM} {n : Nat} (C : Cx g cX11_why 5 yX11_why 2 49) (hr : Rt g (some .int) 0 Z) {s0 : Int}    (cs0 : in32 s0) {h : MM} (hf : f_X11_why_66 n  s0 h = some Z) : G g 66 [(3, 0), (3, 0), (3, 0), (3, 0), (3, 0)] [(0, s0)] h := by
  unfold f_X11_why_66 at hf
  cases hf
  exact r_jret C hr dX11_why_66 cs0
set_option maxRecDepth 20000 in
theorem e_X11_why {g : GT} {Z : Int × MM} {n : Nat} (C : Cx g cX11_why 5 yX11_why 2 49) (hr : Rt g (some .int) 0 Z) {v0 v1 v2 : Int} (cv0 : cK 2 v0) (cv1 : cK 0 v1) (cv2 : cK 0 v2) {h : MM} (hf : f_X11_why n v0 v1 v2 h = some Z) : G g 0 [(2, v0), (0, v1), (0, v2), (3, 0), (3, 0)] [] h := by
  have cv1 : in32 v1 := cv1
  have cv2 : in32 v2 := cv2
  unfold f_X11_why at hf
  refine r_iload_n C dX11_why_0 rfl ?_
  refine r_i2l C dX11_why_1 cv1 ?_
  refine r_iconst C dX11_why_2 ?_
  refine r_bipush C dX11_why_3 rfl ?_
  obtain ⟨r1, h1, hq1, hf⟩ := bd_s hf
  refine r_cS3 C (am_X11_within (gl g) n) cm_X11_within w_466 dX11_why_5 ⟨Nat.le_of_ble_eq_true rfl, Nat.le_of_ble_eq_true rfl⟩ (in64_i cv1) (in32_of rfl) (in32_of rfl) rfl (Nat.le_of_ble_eq_true rfl) hq1 (by decide) (fun c1 => ?_)
  have c1 : in32 _ := c1
  refine r_if_ne C dX11_why_8 (tgt := 13) (by decide) c1 (fun n2 => ?_) (fun n2 => ?_)
  · have hf := ite_n n2 hf
    refine r_iload_n C dX11_why_13 rfl ?_
    obtain ⟨r3, h3, hq3, hf⟩ := bd_s hf
    refine r_cS1 C (am_X11_isDay (gl g) n) cm_X11_isDay w_501 dX11_why_14 ⟨Nat.le_of_ble_eq_true rfl, Nat.le_of_ble_eq_true rfl⟩ cv2 rfl (Nat.le_of_ble_eq_true rfl) hq3 (by decide) (fun c3 => ?_)
    have c3 : in32 _ := c3
    refine r_if_ne C dX11_why_17 (tgt := 23) (by decide) c3 (fun n4 => ?_) (fun n4 => ?_)
    · have hf := ite_n n4 hf
      refine r_aload_n C dX11_why_23 rfl ?_
      obtain ⟨q5, hf⟩ := gf_s hf
      refine r_gf C ct11 (j := 0) (ji := 0) dX11_why_24 q5 rfl rfl (by decide) w_440 rfl (fun c5 => ?_)
      refine r_iload_n C dX11_why_27 rfl ?_
      refine r_iload_n C dX11_why_28 rfl ?_
      obtain ⟨p6, hf⟩ := gk_s hf
      obtain ⟨r6, h6, hq6, hf⟩ := bd_s hf
      refine r_cV2 C (am_X10_ordering (gl g) n) cm_X10_ordering w_691 dX11_why_29 ⟨Nat.le_of_ble_eq_true rfl, Nat.le_of_ble_eq_true rfl⟩ p6 rfl cv1 cv2 rfl (Nat.le_of_ble_eq_true rfl) hq6 (by decide) (fun c6 => ?_)
      have c6 : in32 _ := c6
      refine r_istore_n C dX11_why_32 (Nat.le_of_ble_eq_true rfl) rfl ?_
      refine r_aload_n C dX11_why_33 rfl ?_
      obtain ⟨q7, hf⟩ := gf_s hf
      refine r_gf C ct11 (j := 0) (ji := 0) dX11_why_34 q7 rfl rfl (by decide) w_440 rfl (fun c7 => ?_)
      refine r_iload_n C dX11_why_37 rfl ?_
      refine r_iload_n C dX11_why_38 rfl ?_
      obtain ⟨p8, hf⟩ := gk_s hf
      obtain ⟨r8, h8, hq8, hf⟩ := bd_s hf
      refine r_cV2 C (am_X10_ruling (gl g) n) cm_X10_ruling w_672 dX11_why_39 ⟨Nat.le_of_ble_eq_true rfl, Nat.le_of_ble_eq_true rfl⟩ p8 rfl cv1 cv2 rfl (Nat.le_of_ble_eq_true rfl) hq8 (by decide) (fun c8 => ?_)
      refine r_astore C dX11_why_42 (Nat.le_of_ble_eq_true rfl) rfl ?_
      refine r_aload C dX11_why_44 rfl ?_
      refine r_ifnonnull C dX11_why_46 (tgt := 54) (by decide) (fun n9 => ?_) (fun n9 => ?_)
      · have hf := ite_n n9 hf
        refine r_bipush C dX11_why_54 rfl ?_
        refine r_iload_n C dX11_why_56 rfl ?_
        refine r_imul C dX11_why_57 ?_
        refine r_aload C dX11_why_58 rfl ?_
        obtain ⟨q10, hf⟩ := gf_s hf
        refine r_gf C ct3 (j := 3) (ji := 3) dX11_why_60 q10 rfl rfl (by decide) w_539 rfl (fun c10 => ?_)
        refine r_iload_n C dX11_why_63 rfl ?_
        obtain ⟨q11, hf⟩ := rd_s hf
        refine r_iald C dX11_why_64 q11 rfl (fun c11 => ?_)
        refine r_iadd C dX11_why_65 ?_
        exact G.mask [false, false, false, false, false] rfl rfl (b_X11_why_66 C hr  (in32_t _) hf)
      · have hf := ite_p n9 hf
        refine r_bipush C dX11_why_49 rfl ?_
        refine r_goto C dX11_why_51 (tgt := 66) (by decide) ?_
        exact G.mask [false, false, false, false, false] rfl rfl (b_X11_why_66 C hr  (in32_of rfl) hf)
    · have hf := ite_p n4 hf
      refine r_bipush C dX11_why_20 rfl ?_
      cases hf
      exact r_jret C hr dX11_why_22 (in32_of rfl)
  · have hf := ite_p n2 hf
    refine r_iconst C dX11_why_11 ?_
    cases hf
    exact r_jret C hr dX11_why_12 (in32_of rfl)
set_option maxRecDepth 20000 in
theorem am_X11_why (l : Launch) (n : Nat) : AM l yX11_why cX11_why 5 (some .int) 2 49 [2, 0, 0] 0 (un3 (f_X11_why n)) := by
  refine AM.intro (by decide) (fun xs hx => ?_) (fun g xs h Z hl C hr hx hf => ?_)
  · obtain ⟨a0, a1, a2, rfl, c0, c1, c2⟩ := canL_3 hx
    exact Nat.le_of_ble_eq_true rfl
  · obtain ⟨a0, a1, a2, rfl, c0, c1, c2⟩ := canL_3 hx
    have hf := (un3_e _ a0 a1 a2 _).symm.trans hf
    exact e_X11_why (n := n) C hr c0 c1 c2 hf
/-! LinesPromised.isTown(I)Z -/
theorem dX11_isTown_0 : decode cX11_isTown 0 = .ok (.iload_n 1, 1) := by decide +kernel
theorem dX11_isTown_1 : decode cX11_isTown 1 = .ok (.i2l, 1) := by decide +kernel
theorem dX11_isTown_2 : decode cX11_isTown 2 = .ok (.iconst 0, 1) := by decide +kernel
theorem dX11_isTown_3 : decode cX11_isTown 3 = .ok (.aload_n 0, 1) := by decide +kernel
theorem dX11_isTown_4 : decode cX11_isTown 4 = .ok (.getfield 10, 3) := by decide +kernel
theorem dX11_isTown_7 : decode cX11_isTown 7 = .ok (.getfield 50, 3) := by decide +kernel
theorem dX11_isTown_10 : decode cX11_isTown 10 = .ok (.getfield 66, 3) := by decide +kernel
theorem dX11_isTown_13 : decode cX11_isTown 13 = .ok (.iconst 1, 1) := by decide +kernel
theorem dX11_isTown_14 : decode cX11_isTown 14 = .ok (.isub, 1) := by decide +kernel
theorem dX11_isTown_15 : decode cX11_isTown 15 = .ok (.invokestatic 46, 3) := by decide +kernel
theorem dX11_isTown_18 : decode cX11_isTown 18 = .ok (.ireturn, 1) := by decide +kernel
theorem cm_X11_isTown : CM yX11_isTown cX11_isTown 2 (some .boolean) 1 11 := ⟨w_698, w_10, w_699, w_87, ⟨by decide +kernel, by decide +kernel, by decide +kernel⟩, ⟨_, _, rfl⟩, by decide⟩
noncomputable def f_X11_isTown (n : Nat) (v0 v1 : Int) (h : MM) : RR :=
  gf h v0 11 0 fun r1 =>
  gf h r1 10 0 fun r2 =>
  gf h r2 1 5 fun r3 =>
  bd (f_X11_within n v1 0 (wr (r3 - 1)) h) fun r4 h4 =>
  ck (isb r4) <|
  some (r4, h4)
set_option maxRecDepth 20000 in
theorem e_X11_isTown {g : GT} {Z : Int × MM} {n : Nat} (C : Cx g cX11_isTown 2 yX11_isTown 1 23) (hr : Rt g (some .boolean) 0 Z) {v0 v1 : Int} (cv0 : cK 2 v0) (cv1 : cK 0 v1) {h : MM} (hf : f_X11_isTown n v0 v1 h = some Z) : G g 0 [(2, v0), (0, v1)] [] h := by
  have cv1 : in32 v1 := cv1
  unfold f_X11_isTown at hf
  refine r_iload_n C dX11_isTown_0 rfl ?_
  refine r_i2l C dX11_isTown_1 cv1 ?_
  refine r_iconst C dX11_isTown_2 ?_
  refine r_aload_n C dX11_isTown_3 rfl ?_
  obtain ⟨q1, hf⟩ := gf_s hf
  refine r_gf C ct11 (j := 0) (ji := 0) dX11_isTown_4 q1 rfl rfl (by decide) w_440 rfl (fun c1 => ?_)
  obtain ⟨q2, hf⟩ := gf_s hf
  refine r_gf C ct10 (j := 0) (ji := 0) dX11_isTown_7 q2 rfl rfl (by decide) w_300 rfl (fun c2 => ?_)
  obtain ⟨q3, hf⟩ := gf_s hf
  refine r_gf C ct1 (j := 5) (ji := 5) dX11_isTown_10 q3 rfl rfl (by decide) w_142 rfl (fun c3 => ?_)
  have c3 : in32 _ := c3
  refine r_iconst C dX11_isTown_13 ?_
  refine r_isub C dX11_isTown_14 ?_
  obtain ⟨r4, h4, hq4, hf⟩ := bd_s hf
  refine r_cS3 C (am_X11_within (gl g) n) cm_X11_within w_466 dX11_isTown_15 ⟨Nat.le_of_ble_eq_true rfl, Nat.le_of_ble_eq_true rfl⟩ (in64_i cv1) (in32_of rfl) (in32_t _) rfl (Nat.le_of_ble_eq_true rfl) hq4 (by decide) (fun c4 => ?_)
  have c4 : in32 _ := c4
  obtain ⟨b5, hf⟩ := ck_s hf
  cases hf
  exact r_zret C hr dX11_isTown_18 b5
set_option maxRecDepth 20000 in
theorem am_X11_isTown (l : Launch) (n : Nat) : AM l yX11_isTown cX11_isTown 2 (some .boolean) 1 23 [2, 0] 0 (un2 (f_X11_isTown n)) := by
  refine AM.intro (by decide) (fun xs hx => ?_) (fun g xs h Z hl C hr hx hf => ?_)
  · obtain ⟨a0, a1, rfl, c0, c1⟩ := canL_2 hx
    exact Nat.le_of_ble_eq_true rfl
  · obtain ⟨a0, a1, rfl, c0, c1⟩ := canL_2 hx
    have hf := (un2_e _ a0 a1 _).symm.trans hf
    exact e_X11_isTown (n := n) C hr c0 c1 hf
/-! LinesPromised$Papers.isFull()Z -/
theorem dX5_isFull_0 : decode cX5_isFull 0 = .ok (.aload_n 0, 1) := by decide +kernel
theorem dX5_isFull_1 : decode cX5_isFull 1 = .ok (.getfield 44, 3) := by decide +kernel
theorem dX5_isFull_4 : decode cX5_isFull 4 = .ok (.bipush 60, 2) := by decide +kernel
theorem dX5_isFull_6 : decode cX5_isFull 6 = .ok (.if_icmp .lt 7, 3) := by decide +kernel
theorem dX5_isFull_9 : decode cX5_isFull 9 = .ok (.iconst 1, 1) := by decide +kernel
theorem dX5_isFull_10 : decode cX5_isFull 10 = .ok (.goto 4, 3) := by decide +kernel
theorem dX5_isFull_13 : decode cX5_isFull 13 = .ok (.iconst 0, 1) := by decide +kernel
theorem dX5_isFull_14 : decode cX5_isFull 14 = .ok (.ireturn, 1) := by decide +kernel
theorem cm_X5_isFull : CM yX5_isFull cX5_isFull 1 (some .boolean) 0 5 := ⟨w_701, w_702, w_703, w_90, ⟨by decide +kernel, by decide +kernel, by decide +kernel⟩, ⟨_, _, rfl⟩, by decide⟩
noncomputable def f_X5_isFull_14 (n : Nat)  (s0 : Int) (h : MM) : RR :=
  ck (isb s0) <|
  some (s0, h)
noncomputable def f_X5_isFull (n : Nat) (v0 : Int) (h : MM) : RR :=
  gf h v0 5 7 fun r1 =>
  if r1 < 60 then
    f_X5_isFull_14 n 0 h
  else
  f_X5_isFull_14 n 1 h
set_option maxRecDepth 20000 in
theorem b_X5_isFull_14 {g : GT} {Z : Int × MM} {n : Nat} (C : Cx g cX5_isFull 1 yX5_isFull 0 0) (hr : Rt g (some .boolean) 0 Z) {s0 : Int}    (cs0 : in32 s0) {h : MM} (hf : f_X5_isFull_14 n  s0 h = some Z) : G g 14 [(3, 0)] [(0, s0)] h := by
  unfold f_X5_isFull_14 at hf
  obtain ⟨b1, hf⟩ := ck_s hf
  cases hf
  exact r_zret C hr dX5_isFull_14 b1
set_option maxRecDepth 20000 in
theorem e_X5_isFull {g : GT} {Z : Int × MM} {n : Nat} (C : Cx g cX5_isFull 1 yX5_isFull 0 0) (hr : Rt g (some .boolean) 0 Z) {v0 : Int} (cv0 : cK 2 v0) {h : MM} (hf : f_X5_isFull n v0 h = some Z) : G g 0 [(2, v0)] [] h := by
  unfold f_X5_isFull at hf
  refine r_aload_n C dX5_isFull_0 rfl ?_
  obtain ⟨q1, hf⟩ := gf_s hf
  refine r_gf C ct5 (j := 7) (ji := 7) dX5_isFull_1 q1 rfl rfl (by decide) w_177 rfl (fun c1 => ?_)
  have c1 : in32 _ := c1
  refine r_bipush C dX5_isFull_4 rfl ?_
  refine r_icmp_lt C dX5_isFull_6 (tgt := 13) (by decide) c1 (in32_of rfl) (fun n2 => ?_) (fun n2 => ?_)
  · have hf := ite_p n2 hf
    refine r_iconst C dX5_isFull_13 ?_
    exact G.mask [false] rfl rfl (b_X5_isFull_14 C hr  (in32_of rfl) hf)
  · have hf := ite_n n2 hf
    refine r_iconst C dX5_isFull_9 ?_
    refine r_goto C dX5_isFull_10 (tgt := 14) (by decide) ?_
    exact G.mask [false] rfl rfl (b_X5_isFull_14 C hr  (in32_of rfl) hf)
set_option maxRecDepth 20000 in
theorem am_X5_isFull (l : Launch) (n : Nat) : AM l yX5_isFull cX5_isFull 1 (some .boolean) 0 0 [2] 0 (un1 (f_X5_isFull n)) := by
  refine AM.intro (by decide) (fun xs hx => ?_) (fun g xs h Z hl C hr hx hf => ?_)
  · obtain ⟨a0, rfl, c0⟩ := canL_1 hx
    exact Nat.le_of_ble_eq_true rfl
  · obtain ⟨a0, rfl, c0⟩ := canL_1 hx
    have hf := (un1_e _ a0 _).symm.trans hf
    exact e_X5_isFull (n := n) C hr c0 hf
/-! LinesPromised$Paper.<init>(III[I[I)V -/
theorem dX4_init_0 : decode cX4_init 0 = .ok (.aload_n 0, 1) := by decide +kernel
theorem dX4_init_1 : decode cX4_init 1 = .ok (.invokespecial 3, 3) := by decide +kernel
theorem dX4_init_4 : decode cX4_init 4 = .ok (.aload_n 0, 1) := by decide +kernel
theorem dX4_init_5 : decode cX4_init 5 = .ok (.iconst (-1), 1) := by decide +kernel
theorem dX4_init_6 : decode cX4_init 6 = .ok (.putfield 9, 3) := by decide +kernel
theorem dX4_init_9 : decode cX4_init 9 = .ok (.aload_n 0, 1) := by decide +kernel
theorem dX4_init_10 : decode cX4_init 10 = .ok (.iconst (-1), 1) := by decide +kernel
theorem dX4_init_11 : decode cX4_init 11 = .ok (.putfield 15, 3) := by decide +kernel
theorem dX4_init_14 : decode cX4_init 14 = .ok (.aload_n 0, 1) := by decide +kernel
theorem dX4_init_15 : decode cX4_init 15 = .ok (.iconst (-1), 1) := by decide +kernel
theorem dX4_init_16 : decode cX4_init 16 = .ok (.putfield 18, 3) := by decide +kernel
theorem dX4_init_19 : decode cX4_init 19 = .ok (.aload_n 0, 1) := by decide +kernel
theorem dX4_init_20 : decode cX4_init 20 = .ok (.iconst (-1), 1) := by decide +kernel
theorem dX4_init_21 : decode cX4_init 21 = .ok (.putfield 21, 3) := by decide +kernel
theorem dX4_init_24 : decode cX4_init 24 = .ok (.aload_n 0, 1) := by decide +kernel
theorem dX4_init_25 : decode cX4_init 25 = .ok (.iconst (-1), 1) := by decide +kernel
theorem dX4_init_26 : decode cX4_init 26 = .ok (.putfield 24, 3) := by decide +kernel
theorem dX4_init_29 : decode cX4_init 29 = .ok (.aload_n 0, 1) := by decide +kernel
theorem dX4_init_30 : decode cX4_init 30 = .ok (.bipush (-5), 2) := by decide +kernel
theorem dX4_init_32 : decode cX4_init 32 = .ok (.putfield 27, 3) := by decide +kernel
theorem dX4_init_35 : decode cX4_init 35 = .ok (.aload_n 0, 1) := by decide +kernel
theorem dX4_init_36 : decode cX4_init 36 = .ok (.iload_n 1, 1) := by decide +kernel
theorem dX4_init_37 : decode cX4_init 37 = .ok (.putfield 30, 3) := by decide +kernel
theorem dX4_init_40 : decode cX4_init 40 = .ok (.aload_n 0, 1) := by decide +kernel
theorem dX4_init_41 : decode cX4_init 41 = .ok (.iload_n 2, 1) := by decide +kernel
theorem dX4_init_42 : decode cX4_init 42 = .ok (.putfield 33, 3) := by decide +kernel
theorem dX4_init_45 : decode cX4_init 45 = .ok (.aload_n 0, 1) := by decide +kernel
theorem dX4_init_46 : decode cX4_init 46 = .ok (.iload_n 3, 1) := by decide +kernel
theorem dX4_init_47 : decode cX4_init 47 = .ok (.putfield 36, 3) := by decide +kernel
theorem dX4_init_50 : decode cX4_init 50 = .ok (.aload_n 0, 1) := by decide +kernel
theorem dX4_init_51 : decode cX4_init 51 = .ok (.aload 4, 2) := by decide +kernel
theorem dX4_init_53 : decode cX4_init 53 = .ok (.putfield 39, 3) := by decide +kernel
theorem dX4_init_56 : decode cX4_init 56 = .ok (.aload_n 0, 1) := by decide +kernel
theorem dX4_init_57 : decode cX4_init 57 = .ok (.aload 5, 2) := by decide +kernel
theorem dX4_init_59 : decode cX4_init 59 = .ok (.putfield 43, 3) := by decide +kernel
theorem dX4_init_62 : decode cX4_init 62 = .ok (.return_, 1) := by decide +kernel
theorem cm_X4_init : CMi yX4_init cX4_init 6 5 := ⟨w_709, w_710, w_106, rfl, ⟨by decide +kernel, by decide +kernel, by decide +kernel⟩⟩
noncomputable def f_X4_init (n : Nat) (v0 v1 v2 v3 v4 v5 : Int) (h : MM) : RR :=
  nz v0 <|
  pf h v0 4 5 ((-1)) fun h2 =>
  pf h2 v0 4 6 ((-1)) fun h3 =>
  pf h3 v0 4 7 ((-1)) fun h4 =>
  pf h4 v0 4 8 ((-1)) fun h5 =>
  pf h5 v0 4 9 ((-1)) fun h6 =>
  pf h6 v0 4 10 ((-5)) fun h7 =>
  pf h7 v0 4 0 v1 fun h8 =>
  pf h8 v0 4 1 v2 fun h9 =>
  pf h9 v0 4 2 v3 fun h10 =>
  pf h10 v0 4 3 v4 fun h11 =>
  pf h11 v0 4 4 v5 fun h12 =>
  some (0, h12)
set_option maxRecDepth 20000 in
theorem e_X4_init {g : GT} {Z : Int × MM} {n : Nat} (C : Cx g cX4_init 6 yX4_init 1 21) (hr : Rt g none 3 Z) {v0 v1 v2 v3 v4 v5 : Int} (cv0 : cK 2 v0) (cv1 : cK 0 v1) (cv2 : cK 0 v2) (cv3 : cK 0 v3) (cv4 : cK 2 v4) (cv5 : cK 2 v5) {h : MM} (hf : f_X4_init n v0 v1 v2 v3 v4 v5 h = some Z) : G g 0 [(2, v0), (0, v1), (0, v2), (0, v3), (2, v4), (2, v5)] [] h := by
  have cv1 : in32 v1 := cv1
  have cv2 : in32 v2 := cv2
  have cv3 : in32 v3 := cv3
  unfold f_X4_init at hf
  refine r_aload_n C dX4_init_0 rfl ?_
  obtain ⟨q1, hf⟩ := nz_s hf
  refine r_obj C dX4_init_1 w_711 wo1 wo2 ⟨Nat.le_of_ble_eq_true rfl, Nat.le_of_ble_eq_true rfl⟩ q1 rfl ?_
  refine r_aload_n C dX4_init_4 rfl ?_
  refine r_iconst C dX4_init_5 ?_
  obtain ⟨q2, hf⟩ := pf_s hf
  refine r_pf C ct4 (j := 5) (ji := 5) dX4_init_6 q2 rfl rfl (by decide) w_730 rfl (Or.inl rfl) nar_int (in32_of rfl) ?_
  refine r_aload_n C dX4_init_9 rfl ?_
  refine r_iconst C dX4_init_10 ?_
  obtain ⟨q3, hf⟩ := pf_s hf
  refine r_pf C ct4 (j := 6) (ji := 6) dX4_init_11 q3 rfl rfl (by decide) w_736 rfl (Or.inl rfl) nar_int (in32_of rfl) ?_
  refine r_aload_n C dX4_init_14 rfl ?_
  refine r_iconst C dX4_init_15 ?_
  obtain ⟨q4, hf⟩ := pf_s hf
  refine r_pf C ct4 (j := 7) (ji := 7) dX4_init_16 q4 rfl rfl (by decide) w_741 rfl (Or.inl rfl) nar_int (in32_of rfl) ?_
  refine r_aload_n C dX4_init_19 rfl ?_
  refine r_iconst C dX4_init_20 ?_
  obtain ⟨q5, hf⟩ := pf_s hf
  refine r_pf C ct4 (j := 8) (ji := 8) dX4_init_21 q5 rfl rfl (by decide) w_746 rfl (Or.inl rfl) nar_int (in32_of rfl) ?_
  refine r_aload_n C dX4_init_24 rfl ?_
  refine r_iconst C dX4_init_25 ?_
  obtain ⟨q6, hf⟩ := pf_s hf
  refine r_pf C ct4 (j := 9) (ji := 9) dX4_init_26 q6 rfl rfl (by decide) w_750 rfl (Or.inl rfl) nar_int (in32_of rfl) ?_
  refine r_aload_n C dX4_init_29 rfl ?_
  refine r_bipush C dX4_init_30 rfl ?_
  obtain ⟨q7, hf⟩ := pf_s hf
  refine r_pf C ct4 (j := 10) (ji := 10) dX4_init_32 q7 rfl rfl (by decide) w_755 rfl (Or.inl rfl) nar_int (in32_of rfl) ?_
  refine r_aload_n C dX4_init_35 rfl ?_
  refine r_iload_n C dX4_init_36 rfl ?_
  obtain ⟨q8, hf⟩ := pf_s hf
  refine r_pf C ct4 (j := 0) (ji := 0) dX4_init_37 q8 rfl rfl (by decide) w_712 rfl (Or.inr ⟨rfl, rfl, rfl⟩) nar_int cv1 ?_
  refine r_aload_n C dX4_init_40 rfl ?_
  refine r_iload_n C dX4_init_41 rfl ?_
  obtain ⟨q9, hf⟩ := pf_s hf
  refine r_pf C ct4 (j := 1) (ji := 1) dX4_init_42 q9 rfl rfl (by decide) w_716 rfl (Or.inr ⟨rfl, rfl, rfl⟩) nar_int cv2 ?_
  refine r_aload_n C dX4_init_45 rfl ?_
  refine r_iload_n C dX4_init_46 rfl ?_
  obtain ⟨q10, hf⟩ := pf_s hf
  refine r_pf C ct4 (j := 2) (ji := 2) dX4_init_47 q10 rfl rfl (by decide) w_720 rfl (Or.inr ⟨rfl, rfl, rfl⟩) nar_int cv3 ?_
  refine r_aload_n C dX4_init_50 rfl ?_
  refine r_aload C dX4_init_51 rfl ?_
  obtain ⟨q11, hf⟩ := pf_s hf
  refine r_pf C ct4 (j := 3) (ji := 3) dX4_init_53 q11 rfl rfl (by decide) w_723 rfl (Or.inr ⟨rfl, rfl, rfl⟩) nar_arr trivial ?_
  refine r_aload_n C dX4_init_56 rfl ?_
  refine r_aload C dX4_init_57 rfl ?_
  obtain ⟨q12, hf⟩ := pf_s hf
  refine r_pf C ct4 (j := 4) (ji := 4) dX4_init_59 q12 rfl rfl (by decide) w_727 rfl (Or.inr ⟨rfl, rfl, rfl⟩) nar_arr trivial ?_
  cases hf
  exact r_vret C hr dX4_init_62
set_option maxRecDepth 20000 in
theorem am_X4_init (l : Launch) (n : Nat) : AM l yX4_init cX4_init 6 none 1 21 [2, 0, 0, 0, 2, 2] 3 (un6 (f_X4_init n)) := by
  refine AM.intro (by decide) (fun xs hx => ?_) (fun g xs h Z hl C hr hx hf => ?_)
  · obtain ⟨a0, a1, a2, a3, a4, a5, rfl, c0, c1, c2, c3, c4, c5⟩ := canL_6 hx
    exact Nat.le_of_ble_eq_true rfl
  · obtain ⟨a0, a1, a2, a3, a4, a5, rfl, c0, c1, c2, c3, c4, c5⟩ := canL_6 hx
    have hf := (un6_e _ a0 a1 a2 a3 a4 a5 _).symm.trans hf
    exact e_X4_init (n := n) C hr c0 c1 c2 c3 c4 c5 hf
/-! LinesPromised$Paper.tell(IIII)V -/
theorem dX4_tell_0 : decode cX4_tell 0 = .ok (.aload_n 0, 1) := by decide +kernel
theorem dX4_tell_1 : decode cX4_tell 1 = .ok (.iload_n 1, 1) := by decide +kernel
theorem dX4_tell_2 : decode cX4_tell 2 = .ok (.putfield 9, 3) := by decide +kernel
theorem dX4_tell_5 : decode cX4_tell 5 = .ok (.aload_n 0, 1) := by decide +kernel
theorem dX4_tell_6 : decode cX4_tell 6 = .ok (.iload_n 2, 1) := by decide +kernel
theorem dX4_tell_7 : decode cX4_tell 7 = .ok (.putfield 15, 3) := by decide +kernel
theorem dX4_tell_10 : decode cX4_tell 10 = .ok (.aload_n 0, 1) := by decide +kernel
theorem dX4_tell_11 : decode cX4_tell 11 = .ok (.iload_n 3, 1) := by decide +kernel
theorem dX4_tell_12 : decode cX4_tell 12 = .ok (.putfield 18, 3) := by decide +kernel
theorem dX4_tell_15 : decode cX4_tell 15 = .ok (.aload_n 0, 1) := by decide +kernel
theorem dX4_tell_16 : decode cX4_tell 16 = .ok (.iload 4, 2) := by decide +kernel
theorem dX4_tell_18 : decode cX4_tell 18 = .ok (.putfield 21, 3) := by decide +kernel
theorem dX4_tell_21 : decode cX4_tell 21 = .ok (.return_, 1) := by decide +kernel
theorem cm_X4_tell : CM yX4_tell cX4_tell 5 none 4 4 := ⟨w_782, w_783, w_784, w_106, ⟨by decide +kernel, by decide +kernel, by decide +kernel⟩, ⟨_, _, rfl⟩, by decide⟩
noncomputable def f_X4_tell (n : Nat) (v0 v1 v2 v3 v4 : Int) (h : MM) : RR :=
  pf h v0 4 5 v1 fun h1 =>
  pf h1 v0 4 6 v2 fun h2 =>
  pf h2 v0 4 7 v3 fun h3 =>
  pf h3 v0 4 8 v4 fun h4 =>
  some (0, h4)
set_option maxRecDepth 20000 in
theorem e_X4_tell {g : GT} {Z : Int × MM} {n : Nat} (C : Cx g cX4_tell 5 yX4_tell 0 0) (hr : Rt g none 3 Z) {v0 v1 v2 v3 v4 : Int} (cv0 : cK 2 v0) (cv1 : cK 0 v1) (cv2 : cK 0 v2) (cv3 : cK 0 v3) (cv4 : cK 0 v4) {h : MM} (hf : f_X4_tell n v0 v1 v2 v3 v4 h = some Z) : G g 0 [(2, v0), (0, v1), (0, v2), (0, v3), (0, v4)] [] h := by
  have cv1 : in32 v1 := cv1
  have cv2 : in32 v2 := cv2
  have cv3 : in32 v3 := cv3
  have cv4 : in32 v4 := cv4
  unfold f_X4_tell at hf
  refine r_aload_n C dX4_tell_0 rfl ?_
  refine r_iload_n C dX4_tell_1 rfl ?_
  obtain ⟨q1, hf⟩ := pf_s hf
  refine r_pf C ct4 (j := 5) (ji := 5) dX4_tell_2 q1 rfl rfl (by decide) w_730 rfl (Or.inl rfl) nar_int cv1 ?_
  refine r_aload_n C dX4_tell_5 rfl ?_
  refine r_iload_n C dX4_tell_6 rfl ?_
  obtain ⟨q2, hf⟩ := pf_s hf
  refine r_pf C ct4 (j := 6) (ji := 6) dX4_tell_7 q2 rfl rfl (by decide) w_736 rfl (Or.inl rfl) nar_int cv2 ?_
  refine r_aload_n C dX4_tell_10 rfl ?_
  refine r_iload_n C dX4_tell_11 rfl ?_
  obtain ⟨q3, hf⟩ := pf_s hf
  refine r_pf C ct4 (j := 7) (ji := 7) dX4_tell_12 q3 rfl rfl (by decide) w_741 rfl (Or.inl rfl) nar_int cv3 ?_
  refine r_aload_n C dX4_tell_15 rfl ?_
  refine r_iload C dX4_tell_16 rfl ?_
  obtain ⟨q4, hf⟩ := pf_s hf
  refine r_pf C ct4 (j := 8) (ji := 8) dX4_tell_18 q4 rfl rfl (by decide) w_746 rfl (Or.inl rfl) nar_int cv4 ?_
  cases hf
  exact r_vret C hr dX4_tell_21
set_option maxRecDepth 20000 in
theorem am_X4_tell (l : Launch) (n : Nat) : AM l yX4_tell cX4_tell 5 none 0 0 [2, 0, 0, 0, 0] 3 (un5 (f_X4_tell n)) := by
  refine AM.intro (by decide) (fun xs hx => ?_) (fun g xs h Z hl C hr hx hf => ?_)
  · obtain ⟨a0, a1, a2, a3, a4, rfl, c0, c1, c2, c3, c4⟩ := canL_5 hx
    exact Nat.le_of_ble_eq_true rfl
  · obtain ⟨a0, a1, a2, a3, a4, rfl, c0, c1, c2, c3, c4⟩ := canL_5 hx
    have hf := (un5_e _ a0 a1 a2 a3 a4 _).symm.trans hf
    exact e_X4_tell (n := n) C hr c0 c1 c2 c3 c4 hf
/-! LinesPromised$Scrip.begin(II)V -/
theorem dX8_begin_0 : decode cX8_begin 0 = .ok (.aload_n 0, 1) := by decide +kernel
theorem dX8_begin_1 : decode cX8_begin 1 = .ok (.getfield 9, 3) := by decide +kernel
theorem dX8_begin_4 : decode cX8_begin 4 = .ok (.bipush 8, 2) := by decide +kernel
theorem dX8_begin_6 : decode cX8_begin 6 = .ok (.iload_n 1, 1) := by decide +kernel
theorem dX8_begin_7 : decode cX8_begin 7 = .ok (.iadd, 1) := by decide +kernel
theorem dX8_begin_8 : decode cX8_begin 8 = .ok (.iconst 0, 1) := by decide +kernel
theorem dX8_begin_9 : decode cX8_begin 9 = .ok (.iastore, 1) := by decide +kernel
theorem dX8_begin_10 : decode cX8_begin 10 = .ok (.aload_n 0, 1) := by decide +kernel
theorem dX8_begin_11 : decode cX8_begin 11 = .ok (.getfield 18, 3) := by decide +kernel
theorem dX8_begin_14 : decode cX8_begin 14 = .ok (.iload_n 1, 1) := by decide +kernel
theorem dX8_begin_15 : decode cX8_begin 15 = .ok (.bipush (-5), 2) := by decide +kernel
theorem dX8_begin_17 : decode cX8_begin 17 = .ok (.iastore, 1) := by decide +kernel
theorem dX8_begin_18 : decode cX8_begin 18 = .ok (.iconst 0, 1) := by decide +kernel
theorem dX8_begin_19 : decode cX8_begin 19 = .ok (.istore_n 3, 1) := by decide +kernel
theorem dX8_begin_20 : decode cX8_begin 20 = .ok (.iload_n 3, 1) := by decide +kernel
theorem dX8_begin_21 : decode cX8_begin 21 = .ok (.bipush 8, 2) := by decide +kernel
theorem dX8_begin_23 : decode cX8_begin 23 = .ok (.if_icmp .ge 21, 3) := by decide +kernel
theorem dX8_begin_26 : decode cX8_begin 26 = .ok (.aload_n 0, 1) := by decide +kernel
theorem dX8_begin_27 : decode cX8_begin 27 = .ok (.getfield 15, 3) := by decide +kernel
theorem dX8_begin_30 : decode cX8_begin 30 = .ok (.iload_n 1, 1) := by decide +kernel
theorem dX8_begin_31 : decode cX8_begin 31 = .ok (.bipush 9, 2) := by decide +kernel
theorem dX8_begin_33 : decode cX8_begin 33 = .ok (.imul, 1) := by decide +kernel
theorem dX8_begin_34 : decode cX8_begin 34 = .ok (.iload_n 3, 1) := by decide +kernel
theorem dX8_begin_35 : decode cX8_begin 35 = .ok (.iadd, 1) := by decide +kernel
theorem dX8_begin_36 : decode cX8_begin 36 = .ok (.iconst 0, 1) := by decide +kernel
theorem dX8_begin_37 : decode cX8_begin 37 = .ok (.iastore, 1) := by decide +kernel
theorem dX8_begin_38 : decode cX8_begin 38 = .ok (.iinc 3 1, 3) := by decide +kernel
theorem dX8_begin_41 : decode cX8_begin 41 = .ok (.goto (-21), 3) := by decide +kernel
theorem dX8_begin_44 : decode cX8_begin 44 = .ok (.aload_n 0, 1) := by decide +kernel
theorem dX8_begin_45 : decode cX8_begin 45 = .ok (.getfield 15, 3) := by decide +kernel
theorem dX8_begin_48 : decode cX8_begin 48 = .ok (.iload_n 1, 1) := by decide +kernel
theorem dX8_begin_49 : decode cX8_begin 49 = .ok (.bipush 9, 2) := by decide +kernel
theorem dX8_begin_51 : decode cX8_begin 51 = .ok (.imul, 1) := by decide +kernel
theorem dX8_begin_52 : decode cX8_begin 52 = .ok (.bipush 8, 2) := by decide +kernel
theorem dX8_begin_54 : decode cX8_begin 54 = .ok (.iadd, 1) := by decide +kernel
theorem dX8_begin_55 : decode cX8_begin 55 = .ok (.iload_n 2, 1) := by decide +kernel
theorem dX8_begin_56 : decode cX8_begin 56 = .ok (.iastore, 1) := by decide +kernel
theorem dX8_begin_57 : decode cX8_begin 57 = .ok (.return_, 1) := by decide +kernel
theorem cm_X8_begin : CM yX8_begin cX8_begin 4 none 2 8 := ⟨w_786, w_787, w_788, w_91, ⟨by decide +kernel, by decide +kernel, by decide +kernel⟩, ⟨_, _, rfl⟩, by decide⟩
noncomputable def f_X8_begin_20b (n : Nat) (rec20 : Int → MM → RR) (v0 v1 v2 v3 : Int) (h : MM) : RR :=
  if 8 ≤ v3 then
    gf h v0 8 1 fun r2 =>
    wt h r2 100 (wr ((wr (v1 * 9)) + 8)) v2 fun h3 =>
    some (0, h3)
  else
  gf h v0 8 1 fun r4 =>
  wt h r4 100 (wr ((wr (v1 * 9)) + v3)) 0 fun h5 =>
  lb (wr (v3 + 1)) fun x6 =>
  rec20 x6 h5
noncomputable def f_X8_begin_20 (n : Nat)  (v0 v1 v2 : Int) : Nat → Int → MM → RR
  | 0, _, _ => none
  | k + 1, v3, h => f_X8_begin_20b n  (f_X8_begin_20 n  v0 v1 v2 k) v0 v1 v2 v3 h
noncomputable def f_X8_begin (n : Nat) (v0 v1 v2 : Int) (h : MM) : RR :=
  gf h v0 8 0 fun r1 =>
  wt h r1 100 (wr (8 + v1)) 0 fun h2 =>
  gf h2 v0 8 2 fun r3 =>
  wt h2 r3 100 v1 ((-5)) fun h4 =>
  f_X8_begin_20 n v0 v1 v2 n 0 h4
set_option maxRecDepth 20000 in
theorem b_X8_begin_20b {g : GT} {Z : Int × MM} {n : Nat} (C : Cx g cX8_begin 4 yX8_begin 0 0) (hr : Rt g none 3 Z) {v0 v1 v2 v3 : Int}  {rec20 : Int → MM → RR} (L20 : ∀ (u3 : Int) (h : MM), in32 u3 → rec20 u3 h = some Z → G g 20 [(2, v0), (0, v1), (0, v2), (0, u3)] [] h) (cv1 : in32 v1) (cv2 : in32 v2) (cv3 : in32 v3) {h : MM} (hf : f_X8_begin_20b n rec20 v0 v1 v2 v3 h = some Z) : G g 20 [(2, v0), (0, v1), (0, v2), (0, v3)] [] h := by
  unfold f_X8_begin_20b at hf
  refine r_iload_n C dX8_begin_20 rfl ?_
  refine r_bipush C dX8_begin_21 rfl ?_
  refine r_icmp_ge C dX8_begin_23 (tgt := 44) (by decide) cv3 (in32_of rfl) (fun n1 => ?_) (fun n1 => ?_)
  · have hf := ite_p n1 hf
    refine r_aload_n C dX8_begin_44 rfl ?_
    obtain ⟨q2, hf⟩ := gf_s hf
    refine r_gf C ct8 (j := 1) (ji := 1) dX8_begin_45 q2 rfl rfl (by decide) w_218 rfl (fun c2 => ?_)
    refine r_iload_n C dX8_begin_48 rfl ?_
    refine r_bipush C dX8_begin_49 rfl ?_
    refine r_imul C dX8_begin_51 ?_
    refine r_bipush C dX8_begin_52 rfl ?_
    refine r_iadd C dX8_begin_54 ?_
    refine r_iload_n C dX8_begin_55 rfl ?_
    obtain ⟨q3, hf⟩ := wt_s hf
    refine r_iast C dX8_begin_56 q3 rfl cv2 ?_
    cases hf
    exact r_vret C hr dX8_begin_57
  · have hf := ite_n n1 hf
    refine r_aload_n C dX8_begin_26 rfl ?_
    obtain ⟨q4, hf⟩ := gf_s hf
    refine r_gf C ct8 (j := 1) (ji := 1) dX8_begin_27 q4 rfl rfl (by decide) w_218 rfl (fun c4 => ?_)
    refine r_iload_n C dX8_begin_30 rfl ?_
    refine r_bipush C dX8_begin_31 rfl ?_
    refine r_imul C dX8_begin_33 ?_
    refine r_iload_n C dX8_begin_34 rfl ?_
    refine r_iadd C dX8_begin_35 ?_
    refine r_iconst C dX8_begin_36 ?_
    obtain ⟨q5, hf⟩ := wt_s hf
    refine r_iast C dX8_begin_37 q5 rfl (in32_of rfl) ?_
    obtain ⟨x6, e6, hf⟩ := lb_s hf
    have c6 : in32 x6 := by rw [e6]; exact (in32_t _)
    refine r_iincL C dX8_begin_38 rfl e6 (Nat.le_of_ble_eq_true rfl) rfl ?_
    refine r_goto C dX8_begin_41 (tgt := 20) (by decide) ?_
    exact G.mask [true, true, true, true] rfl rfl (L20 _ _ c6 hf)
set_option maxRecDepth 20000 in
theorem l_X8_begin_20 {g : GT} {Z : Int × MM} {n : Nat} (C : Cx g cX8_begin 4 yX8_begin 0 0) (hr : Rt g none 3 Z) {v0 v1 v2 : Int}   (cv1 : in32 v1) (cv2 : in32 v2) : ∀ (k : Nat) (v3 : Int) (h : MM), in32 v3 → f_X8_begin_20 n  v0 v1 v2 k v3 h = some Z → G g 20 [(2, v0), (0, v1), (0, v2), (0, v3)] [] h := by
  intro k
  induction k with
  | zero => intro v3 h cv3 hf; exact absurd hf (by intro z; cases z)
  | succ k ih => intro v3 h cv3 hf; exact b_X8_begin_20b C hr (rec20 := f_X8_begin_20 n  v0 v1 v2 k)  ih cv1 cv2 cv3 (show f_X8_begin_20b n  (f_X8_begin_20 n  v0 v1 v2 k) v0 v1 v2 v3 h = some Z from hf)
set_option maxRecDepth 20000 in
theorem e_X8_begin {g : GT} {Z : Int × MM} {n : Nat} (C : Cx g cX8_begin 4 yX8_begin 0 0) (hr : Rt g none 3 Z) {v0 v1 v2 : Int} (cv0 : cK 2 v0) (cv1 : cK 0 v1) (cv2 : cK 0 v2) {h : MM} (hf : f_X8_begin n v0 v1 v2 h = some Z) : G g 0 [(2, v0), (0, v1), (0, v2), (3, 0)] [] h := by
  have cv1 : in32 v1 := cv1
  have cv2 : in32 v2 := cv2
  unfold f_X8_begin at hf
  refine r_aload_n C dX8_begin_0 rfl ?_
  obtain ⟨q1, hf⟩ := gf_s hf
  refine r_gf C ct8 (j := 0) (ji := 0) dX8_begin_1 q1 rfl rfl (by decide) w_214 rfl (fun c1 => ?_)
  refine r_bipush C dX8_begin_4 rfl ?_
  refine r_iload_n C dX8_begin_6 rfl ?_
  refine r_iadd C dX8_begin_7 ?_
  refine r_iconst C dX8_begin_8 ?_
  obtain ⟨q2, hf⟩ := wt_s hf
  refine r_iast C dX8_begin_9 q2 rfl (in32_of rfl) ?_
  refine r_aload_n C dX8_begin_10 rfl ?_
  obtain ⟨q3, hf⟩ := gf_s hf
  refine r_gf C ct8 (j := 2) (ji := 2) dX8_begin_11 q3 rfl rfl (by decide) w_219 rfl (fun c3 => ?_)
  refine r_iload_n C dX8_begin_14 rfl ?_
  refine r_bipush C dX8_begin_15 rfl ?_
  obtain ⟨q4, hf⟩ := wt_s hf
  refine r_iast C dX8_begin_17 q4 rfl (in32_of rfl) ?_
  refine r_iconst C dX8_begin_18 ?_
  refine r_istore_n C dX8_begin_19 (Nat.le_of_ble_eq_true rfl) rfl ?_
  exact G.mask [true, true, true, true] rfl rfl (l_X8_begin_20 C hr  cv1 cv2 _ _ _ (in32_of rfl) hf)
set_option maxRecDepth 20000 in
theorem am_X8_begin (l : Launch) (n : Nat) : AM l yX8_begin cX8_begin 4 none 0 0 [2, 0, 0] 3 (un3 (f_X8_begin n)) := by
  refine AM.intro (by decide) (fun xs hx => ?_) (fun g xs h Z hl C hr hx hf => ?_)
  · obtain ⟨a0, a1, a2, rfl, c0, c1, c2⟩ := canL_3 hx
    exact Nat.le_of_ble_eq_true rfl
  · obtain ⟨a0, a1, a2, rfl, c0, c1, c2⟩ := canL_3 hx
    have hf := (un3_e _ a0 a1 a2 _).symm.trans hf
    exact e_X8_begin (n := n) C hr c0 c1 c2 hf
/-! LinesPromised$Papers.file(LLinesPromised$Paper;)I -/
theorem dX5_file_0 : decode cX5_file 0 = .ok (.aload_n 0, 1) := by decide +kernel
theorem dX5_file_1 : decode cX5_file 1 = .ok (.invokevirtual 54, 3) := by decide +kernel
theorem dX5_file_4 : decode cX5_file 4 = .ok (.ifCond .eq 6, 3) := by decide +kernel
theorem dX5_file_7 : decode cX5_file 7 = .ok (.bipush (-4), 2) := by decide +kernel
theorem dX5_file_9 : decode cX5_file 9 = .ok (.ireturn, 1) := by decide +kernel
theorem dX5_file_10 : decode cX5_file 10 = .ok (.aload_n 0, 1) := by decide +kernel
theorem dX5_file_11 : decode cX5_file 11 = .ok (.getfield 44, 3) := by decide +kernel
theorem dX5_file_14 : decode cX5_file 14 = .ok (.istore_n 2, 1) := by decide +kernel
theorem dX5_file_15 : decode cX5_file 15 = .ok (.aload_n 0, 1) := by decide +kernel
theorem dX5_file_16 : decode cX5_file 16 = .ok (.getfield 11, 3) := by decide +kernel
theorem dX5_file_19 : decode cX5_file 19 = .ok (.iload_n 2, 1) := by decide +kernel
theorem dX5_file_20 : decode cX5_file 20 = .ok (.aload_n 1, 1) := by decide +kernel
theorem dX5_file_21 : decode cX5_file 21 = .ok (.aastore, 1) := by decide +kernel
theorem dX5_file_22 : decode cX5_file 22 = .ok (.aload_n 0, 1) := by decide +kernel
theorem dX5_file_23 : decode cX5_file 23 = .ok (.getfield 17, 3) := by decide +kernel
theorem dX5_file_26 : decode cX5_file 26 = .ok (.iload_n 2, 1) := by decide +kernel
theorem dX5_file_27 : decode cX5_file 27 = .ok (.lconst 0, 1) := by decide +kernel
theorem dX5_file_28 : decode cX5_file 28 = .ok (.lastore, 1) := by decide +kernel
theorem dX5_file_29 : decode cX5_file 29 = .ok (.aload_n 0, 1) := by decide +kernel
theorem dX5_file_30 : decode cX5_file 30 = .ok (.getfield 21, 3) := by decide +kernel
theorem dX5_file_33 : decode cX5_file 33 = .ok (.iload_n 2, 1) := by decide +kernel
theorem dX5_file_34 : decode cX5_file 34 = .ok (.iconst 0, 1) := by decide +kernel
theorem dX5_file_35 : decode cX5_file 35 = .ok (.iastore, 1) := by decide +kernel
theorem dX5_file_36 : decode cX5_file 36 = .ok (.aload_n 0, 1) := by decide +kernel
theorem dX5_file_37 : decode cX5_file 37 = .ok (.getfield 25, 3) := by decide +kernel
theorem dX5_file_40 : decode cX5_file 40 = .ok (.iload_n 2, 1) := by decide +kernel
theorem dX5_file_41 : decode cX5_file 41 = .ok (.bipush (-5), 2) := by decide +kernel
theorem dX5_file_43 : decode cX5_file 43 = .ok (.iastore, 1) := by decide +kernel
theorem dX5_file_44 : decode cX5_file 44 = .ok (.aload_n 0, 1) := by decide +kernel
theorem dX5_file_45 : decode cX5_file 45 = .ok (.getfield 28, 3) := by decide +kernel
theorem dX5_file_48 : decode cX5_file 48 = .ok (.iload_n 2, 1) := by decide +kernel
theorem dX5_file_49 : decode cX5_file 49 = .ok (.iconst 0, 1) := by decide +kernel
theorem dX5_file_50 : decode cX5_file 50 = .ok (.iastore, 1) := by decide +kernel
theorem dX5_file_51 : decode cX5_file 51 = .ok (.aload_n 0, 1) := by decide +kernel
theorem dX5_file_52 : decode cX5_file 52 = .ok (.getfield 31, 3) := by decide +kernel
theorem dX5_file_55 : decode cX5_file 55 = .ok (.iload_n 2, 1) := by decide +kernel
theorem dX5_file_56 : decode cX5_file 56 = .ok (.iconst 0, 1) := by decide +kernel
theorem dX5_file_57 : decode cX5_file 57 = .ok (.iastore, 1) := by decide +kernel
theorem dX5_file_58 : decode cX5_file 58 = .ok (.aload_n 0, 1) := by decide +kernel
theorem dX5_file_59 : decode cX5_file 59 = .ok (.dup, 1) := by decide +kernel
theorem dX5_file_60 : decode cX5_file 60 = .ok (.getfield 44, 3) := by decide +kernel
theorem dX5_file_63 : decode cX5_file 63 = .ok (.iconst 1, 1) := by decide +kernel
theorem dX5_file_64 : decode cX5_file 64 = .ok (.iadd, 1) := by decide +kernel
theorem dX5_file_65 : decode cX5_file 65 = .ok (.putfield 44, 3) := by decide +kernel
theorem dX5_file_68 : decode cX5_file 68 = .ok (.aload_n 1, 1) := by decide +kernel
theorem dX5_file_69 : decode cX5_file 69 = .ok (.getfield 58, 3) := by decide +kernel
theorem dX5_file_72 : decode cX5_file 72 = .ok (.iconst 1, 1) := by decide +kernel
theorem dX5_file_73 : decode cX5_file 73 = .ok (.if_icmp .ne 13, 3) := by decide +kernel
theorem dX5_file_76 : decode cX5_file 76 = .ok (.aload_n 0, 1) := by decide +kernel
theorem dX5_file_77 : decode cX5_file 77 = .ok (.dup, 1) := by decide +kernel
theorem dX5_file_78 : decode cX5_file 78 = .ok (.getfield 48, 3) := by decide +kernel
theorem dX5_file_81 : decode cX5_file 81 = .ok (.iconst 1, 1) := by decide +kernel
theorem dX5_file_82 : decode cX5_file 82 = .ok (.iadd, 1) := by decide +kernel
theorem dX5_file_83 : decode cX5_file 83 = .ok (.putfield 48, 3) := by decide +kernel
theorem dX5_file_86 : decode cX5_file 86 = .ok (.iload_n 2, 1) := by decide +kernel
theorem dX5_file_87 : decode cX5_file 87 = .ok (.ireturn, 1) := by decide +kernel
theorem cm_X5_file : CM yX5_file cX5_file 3 (some .int) 1 5 := ⟨w_790, w_791, w_792, w_90, ⟨by decide +kernel, by decide +kernel, by decide +kernel⟩, ⟨_, _, rfl⟩, by decide⟩
noncomputable def f_X5_file_86 (n : Nat)  (v2 : Int) (h : MM) : RR :=
  some (v2, h)
noncomputable def f_X5_file (n : Nat) (v0 v1 : Int) (h : MM) : RR :=
  gk h v0 5 <|
  bd (f_X5_isFull n v0 h) fun r1 h1 =>
  if r1 = 0 then
    gf h1 v0 5 7 fun r3 =>
    gf h1 v0 5 0 fun r4 =>
    gk h1 v1 4 <|
    wt h1 r4 105 r3 v1 fun h5 =>
    gf h5 v0 5 1 fun r6 =>
    wt h5 r6 101 r3 0 fun h7 =>
    gf h7 v0 5 2 fun r8 =>
    wt h7 r8 100 r3 0 fun h9 =>
    gf h9 v0 5 3 fun r10 =>
    wt h9 r10 100 r3 ((-5)) fun h11 =>
    gf h11 v0 5 4 fun r12 =>
    wt h11 r12 100 r3 0 fun h13 =>
    gf h13 v0 5 5 fun r14 =>
    wt h13 r14 100 r3 0 fun h15 =>
    gf h15 v0 5 7 fun r16 =>
    pf h15 v0 5 7 (wr (r16 + 1)) fun h17 =>
    gf h17 v1 4 0 fun r18 =>
    if r18 = 1 then
      gf h17 v0 5 8 fun r20 =>
      pf h17 v0 5 8 (wr (r20 + 1)) fun h21 =>
      f_X5_file_86 n r3 h21
    else
    f_X5_file_86 n r3 h17
  else
  some ((-4), h1)
set_option maxRecDepth 20000 in
theorem b_X5_file_86 {g : GT} {Z : Int × MM} {n : Nat} (C : Cx g cX5_file 3 yX5_file 1 20) (hr : Rt g (some .int) 0 Z) {v2 : Int}    (cv2 : in32 v2) {h : MM} (hf : f_X5_file_86 n  v2 h = some Z) : G g 86 [(3, 0), (3, 0), (0, v2)] [] h := by
  unfold f_X5_file_86 at hf
  refine r_iload_n C dX5_file_86 rfl ?_
  cases hf
  exact r_jret C hr dX5_file_87 cv2
set_option maxRecDepth 20000 in
theorem e_X5_file {g : GT} {Z : Int × MM} {n : Nat} (C : Cx g cX5_file 3 yX5_file 1 20) (hr : Rt g (some .int) 0 Z) {v0 v1 : Int} (cv0 : cK 2 v0) (cv1 : cK 2 v1) {h : MM} (hf : f_X5_file n v0 v1 h = some Z) : G g 0 [(2, v0), (2, v1), (3, 0)] [] h := by
  unfold f_X5_file at hf
  refine r_aload_n C dX5_file_0 rfl ?_
  obtain ⟨p1, hf⟩ := gk_s hf
  obtain ⟨r1, h1, hq1, hf⟩ := bd_s hf
  refine r_cV0 C (am_X5_isFull (gl g) n) cm_X5_isFull w_793 dX5_file_1 ⟨Nat.le_of_ble_eq_true rfl, Nat.le_of_ble_eq_true rfl⟩ p1 rfl  rfl (Nat.le_of_ble_eq_true rfl) hq1 (by decide) (fun c1 => ?_)
  have c1 : in32 _ := c1
  refine r_if_eq C dX5_file_4 (tgt := 10) (by decide) c1 (fun n2 => ?_) (fun n2 => ?_)
  · have hf := ite_p n2 hf
    refine r_aload_n C dX5_file_10 rfl ?_
    obtain ⟨q3, hf⟩ := gf_s hf
    refine r_gf C ct5 (j := 7) (ji := 7) dX5_file_11 q3 rfl rfl (by decide) w_177 rfl (fun c3 => ?_)
    have c3 : in32 _ := c3
    refine r_istore_n C dX5_file_14 (Nat.le_of_ble_eq_true rfl) rfl ?_
    refine r_aload_n C dX5_file_15 rfl ?_
    obtain ⟨q4, hf⟩ := gf_s hf
    refine r_gf C ct5 (j := 0) (ji := 0) dX5_file_16 q4 rfl rfl (by decide) w_165 rfl (fun c4 => ?_)
    refine r_iload_n C dX5_file_19 rfl ?_
    refine r_aload_n C dX5_file_20 rfl ?_
    obtain ⟨p5, hf⟩ := gk_s hf
    obtain ⟨q5, hf⟩ := wt_s hf
    refine r_aast C (tn := 105) (tc := 4) dX5_file_21 q5 rfl (by decide) (by decide) p5 rfl ⟨_, _, rfl⟩ (by decide) ?_
    refine r_aload_n C dX5_file_22 rfl ?_
    obtain ⟨q6, hf⟩ := gf_s hf
    refine r_gf C ct5 (j := 1) (ji := 1) dX5_file_23 q6 rfl rfl (by decide) w_166 rfl (fun c6 => ?_)
    refine r_iload_n C dX5_file_26 rfl ?_
    refine r_lconst C (v := 0) dX5_file_27 rfl ?_
    obtain ⟨q7, hf⟩ := wt_s hf
    refine r_last C dX5_file_28 q7 rfl (in64_of rfl) ?_
    refine r_aload_n C dX5_file_29 rfl ?_
    obtain ⟨q8, hf⟩ := gf_s hf
    refine r_gf C ct5 (j := 2) (ji := 2) dX5_file_30 q8 rfl rfl (by decide) w_168 rfl (fun c8 => ?_)
    refine r_iload_n C dX5_file_33 rfl ?_
    refine r_iconst C dX5_file_34 ?_
    obtain ⟨q9, hf⟩ := wt_s hf
    refine r_iast C dX5_file_35 q9 rfl (in32_of rfl) ?_
    refine r_aload_n C dX5_file_36 rfl ?_
    obtain ⟨q10, hf⟩ := gf_s hf
    refine r_gf C ct5 (j := 3) (ji := 3) dX5_file_37 q10 rfl rfl (by decide) w_171 rfl (fun c10 => ?_)
    refine r_iload_n C dX5_file_40 rfl ?_
    refine r_bipush C dX5_file_41 rfl ?_
    obtain ⟨q11, hf⟩ := wt_s hf
    refine r_iast C dX5_file_43 q11 rfl (in32_of rfl) ?_
    refine r_aload_n C dX5_file_44 rfl ?_
    obtain ⟨q12, hf⟩ := gf_s hf
    refine r_gf C ct5 (j := 4) (ji := 4) dX5_file_45 q12 rfl rfl (by decide) w_174 rfl (fun c12 => ?_)
    refine r_iload_n C dX5_file_48 rfl ?_
    refine r_iconst C dX5_file_49 ?_
    obtain ⟨q13, hf⟩ := wt_s hf
    refine r_iast C dX5_file_50 q13 rfl (in32_of rfl) ?_
    refine r_aload_n C dX5_file_51 rfl ?_
    obtain ⟨q14, hf⟩ := gf_s hf
    refine r_gf C ct5 (j := 5) (ji := 5) dX5_file_52 q14 rfl rfl (by decide) w_175 rfl (fun c14 => ?_)
    refine r_iload_n C dX5_file_55 rfl ?_
    refine r_iconst C dX5_file_56 ?_
    obtain ⟨q15, hf⟩ := wt_s hf
    refine r_iast C dX5_file_57 q15 rfl (in32_of rfl) ?_
    refine r_aload_n C dX5_file_58 rfl ?_
    refine r_dup C dX5_file_59 (by decide) ?_
    obtain ⟨q16, hf⟩ := gf_s hf
    refine r_gf C ct5 (j := 7) (ji := 7) dX5_file_60 q16 rfl rfl (by decide) w_177 rfl (fun c16 => ?_)
    have c16 : in32 _ := c16
    refine r_iconst C dX5_file_63 ?_
    refine r_iadd C dX5_file_64 ?_
    obtain ⟨q17, hf⟩ := pf_s hf
    refine r_pf C ct5 (j := 7) (ji := 7) dX5_file_65 q17 rfl rfl (by decide) w_177 rfl (Or.inl rfl) nar_int (in32_t _) ?_
    refine r_aload_n C dX5_file_68 rfl ?_
    obtain ⟨q18, hf⟩ := gf_s hf
    refine r_gf C ct4 (j := 0) (ji := 0) dX5_file_69 q18 rfl rfl (by decide) w_714 rfl (fun c18 => ?_)
    have c18 : in32 _ := c18
    refine r_iconst C dX5_file_72 ?_
    refine r_icmp_ne C dX5_file_73 (tgt := 86) (by decide) c18 (in32_of rfl) (fun n19 => ?_) (fun n19 => ?_)
    · have hf := ite_n n19 hf
      exact G.mask [false, false, true] rfl rfl (b_X5_file_86 C hr  c3 hf)
    · have hf := ite_p n19 hf
      refine r_aload_n C dX5_file_76 rfl ?_
      refine r_dup C dX5_file_77 (by decide) ?_
      obtain ⟨q20, hf⟩ := gf_s hf
      refine r_gf C ct5 (j := 8) (ji := 8) dX5_file_78 q20 rfl rfl (by decide) w_182 rfl (fun c20 => ?_)
      have c20 : in32 _ := c20
      refine r_iconst C dX5_file_81 ?_
      refine r_iadd C dX5_file_82 ?_
      obtain ⟨q21, hf⟩ := pf_s hf
      refine r_pf C ct5 (j := 8) (ji := 8) dX5_file_83 q21 rfl rfl (by decide) w_182 rfl (Or.inl rfl) nar_int (in32_t _) ?_
      exact G.mask [false, false, true] rfl rfl (b_X5_file_86 C hr  c3 hf)
  · have hf := ite_n n2 hf
    refine r_bipush C dX5_file_7 rfl ?_
    cases hf
    exact r_jret C hr dX5_file_9 (in32_of rfl)
set_option maxRecDepth 20000 in
theorem am_X5_file (l : Launch) (n : Nat) : AM l yX5_file cX5_file 3 (some .int) 1 20 [2, 2] 0 (un2 (f_X5_file n)) := by
  refine AM.intro (by decide) (fun xs hx => ?_) (fun g xs h Z hl C hr hx hf => ?_)
  · obtain ⟨a0, a1, rfl, c0, c1⟩ := canL_2 hx
    exact Nat.le_of_ble_eq_true rfl
  · obtain ⟨a0, a1, rfl, c0, c1⟩ := canL_2 hx
    have hf := (un2_e _ a0 a1 _).symm.trans hf
    exact e_X5_file (n := n) C hr c0 c1 hf
/-! LinesPromised.scheme(IIII)I -/
theorem dX11_scheme_0 : decode cX11_scheme 0 = .ok (.aload_n 0, 1) := by decide +kernel
theorem dX11_scheme_1 : decode cX11_scheme 1 = .ok (.iload_n 1, 1) := by decide +kernel
theorem dX11_scheme_2 : decode cX11_scheme 2 = .ok (.invokevirtual 130, 3) := by decide +kernel
theorem dX11_scheme_5 : decode cX11_scheme 5 = .ok (.ifCond .eq 11, 3) := by decide +kernel
theorem dX11_scheme_8 : decode cX11_scheme 8 = .ok (.aload_n 0, 1) := by decide +kernel
theorem dX11_scheme_9 : decode cX11_scheme 9 = .ok (.iload_n 2, 1) := by decide +kernel
theorem dX11_scheme_10 : decode cX11_scheme 10 = .ok (.invokevirtual 130, 3) := by decide +kernel
theorem dX11_scheme_13 : decode cX11_scheme 13 = .ok (.ifCond .ne 5, 3) := by decide +kernel
theorem dX11_scheme_16 : decode cX11_scheme 16 = .ok (.iconst (-1), 1) := by decide +kernel
theorem dX11_scheme_17 : decode cX11_scheme 17 = .ok (.ireturn, 1) := by decide +kernel
theorem dX11_scheme_18 : decode cX11_scheme 18 = .ok (.iload_n 1, 1) := by decide +kernel
theorem dX11_scheme_19 : decode cX11_scheme 19 = .ok (.iload_n 2, 1) := by decide +kernel
theorem dX11_scheme_20 : decode cX11_scheme 20 = .ok (.if_icmp .eq 25, 3) := by decide +kernel
theorem dX11_scheme_23 : decode cX11_scheme 23 = .ok (.iload_n 3, 1) := by decide +kernel
theorem dX11_scheme_24 : decode cX11_scheme 24 = .ok (.i2l, 1) := by decide +kernel
theorem dX11_scheme_25 : decode cX11_scheme 25 = .ok (.iconst 0, 1) := by decide +kernel
theorem dX11_scheme_26 : decode cX11_scheme 26 = .ok (.iconst 1, 1) := by decide +kernel
theorem dX11_scheme_27 : decode cX11_scheme 27 = .ok (.invokestatic 46, 3) := by decide +kernel
theorem dX11_scheme_30 : decode cX11_scheme 30 = .ok (.ifCond .eq 15, 3) := by decide +kernel
theorem dX11_scheme_33 : decode cX11_scheme 33 = .ok (.iload 4, 2) := by decide +kernel
theorem dX11_scheme_35 : decode cX11_scheme 35 = .ok (.i2l, 1) := by decide +kernel
theorem dX11_scheme_36 : decode cX11_scheme 36 = .ok (.iconst 1, 1) := by decide +kernel
theorem dX11_scheme_37 : decode cX11_scheme 37 = .ok (.bipush 99, 2) := by decide +kernel
theorem dX11_scheme_39 : decode cX11_scheme 39 = .ok (.invokestatic 46, 3) := by decide +kernel
theorem dX11_scheme_42 : decode cX11_scheme 42 = .ok (.ifCond .ne 6, 3) := by decide +kernel
theorem dX11_scheme_45 : decode cX11_scheme 45 = .ok (.bipush (-2), 2) := by decide +kernel
theorem dX11_scheme_47 : decode cX11_scheme 47 = .ok (.ireturn, 1) := by decide +kernel
theorem dX11_scheme_48 : decode cX11_scheme 48 = .ok (.aload_n 0, 1) := by decide +kernel
theorem dX11_scheme_49 : decode cX11_scheme 49 = .ok (.getfield 10, 3) := by decide +kernel
theorem dX11_scheme_52 : decode cX11_scheme 52 = .ok (.getfield 133, 3) := by decide +kernel
theorem dX11_scheme_55 : decode cX11_scheme 55 = .ok (.invokevirtual 137, 3) := by decide +kernel
theorem dX11_scheme_58 : decode cX11_scheme 58 = .ok (.ifCond .ne 18, 3) := by decide +kernel
theorem dX11_scheme_61 : decode cX11_scheme 61 = .ok (.aload_n 0, 1) := by decide +kernel
theorem dX11_scheme_62 : decode cX11_scheme 62 = .ok (.getfield 10, 3) := by decide +kernel
theorem dX11_scheme_65 : decode cX11_scheme 65 = .ok (.getfield 133, 3) := by decide +kernel
theorem dX11_scheme_68 : decode cX11_scheme 68 = .ok (.getfield 143, 3) := by decide +kernel
theorem dX11_scheme_71 : decode cX11_scheme 71 = .ok (.bipush 12, 2) := by decide +kernel
theorem dX11_scheme_73 : decode cX11_scheme 73 = .ok (.if_icmp .lt 6, 3) := by decide +kernel
theorem dX11_scheme_76 : decode cX11_scheme 76 = .ok (.bipush (-4), 2) := by decide +kernel
theorem dX11_scheme_78 : decode cX11_scheme 78 = .ok (.ireturn, 1) := by decide +kernel
theorem dX11_scheme_79 : decode cX11_scheme 79 = .ok (.new 146, 3) := by decide +kernel
theorem dX11_scheme_82 : decode cX11_scheme 82 = .ok (.dup, 1) := by decide +kernel
theorem dX11_scheme_83 : decode cX11_scheme 83 = .ok (.iconst 1, 1) := by decide +kernel
theorem dX11_scheme_84 : decode cX11_scheme 84 = .ok (.iconst (-1), 1) := by decide +kernel
theorem dX11_scheme_85 : decode cX11_scheme 85 = .ok (.aload_n 0, 1) := by decide +kernel
theorem dX11_scheme_86 : decode cX11_scheme 86 = .ok (.getfield 10, 3) := by decide +kernel
theorem dX11_scheme_89 : decode cX11_scheme 89 = .ok (.getfield 148, 3) := by decide +kernel
theorem dX11_scheme_92 : decode cX11_scheme 92 = .ok (.getstatic 151, 3) := by decide +kernel
theorem dX11_scheme_95 : decode cX11_scheme 95 = .ok (.getstatic 151, 3) := by decide +kernel
theorem dX11_scheme_98 : decode cX11_scheme 98 = .ok (.invokespecial 154, 3) := by decide +kernel
theorem dX11_scheme_101 : decode cX11_scheme 101 = .ok (.astore 5, 2) := by decide +kernel
theorem dX11_scheme_103 : decode cX11_scheme 103 = .ok (.aload 5, 2) := by decide +kernel
theorem dX11_scheme_105 : decode cX11_scheme 105 = .ok (.iload_n 1, 1) := by decide +kernel
theorem dX11_scheme_106 : decode cX11_scheme 106 = .ok (.iload_n 2, 1) := by decide +kernel
theorem dX11_scheme_107 : decode cX11_scheme 107 = .ok (.iload_n 3, 1) := by decide +kernel
theorem dX11_scheme_108 : decode cX11_scheme 108 = .ok (.iload 4, 2) := by decide +kernel
theorem dX11_scheme_110 : decode cX11_scheme 110 = .ok (.invokevirtual 157, 3) := by decide +kernel
theorem dX11_scheme_113 : decode cX11_scheme 113 = .ok (.aload 5, 2) := by decide +kernel
theorem dX11_scheme_115 : decode cX11_scheme 115 = .ok (.aload_n 0, 1) := by decide +kernel
theorem dX11_scheme_116 : decode cX11_scheme 116 = .ok (.getfield 10, 3) := by decide +kernel
theorem dX11_scheme_119 : decode cX11_scheme 119 = .ok (.getfield 133, 3) := by decide +kernel
theorem dX11_scheme_122 : decode cX11_scheme 122 = .ok (.getfield 143, 3) := by decide +kernel
theorem dX11_scheme_125 : decode cX11_scheme 125 = .ok (.putfield 161, 3) := by decide +kernel
theorem dX11_scheme_128 : decode cX11_scheme 128 = .ok (.aload_n 0, 1) := by decide +kernel
theorem dX11_scheme_129 : decode cX11_scheme 129 = .ok (.getfield 10, 3) := by decide +kernel
theorem dX11_scheme_132 : decode cX11_scheme 132 = .ok (.getfield 78, 3) := by decide +kernel
theorem dX11_scheme_135 : decode cX11_scheme 135 = .ok (.aload 5, 2) := by decide +kernel
theorem dX11_scheme_137 : decode cX11_scheme 137 = .ok (.getfield 161, 3) := by decide +kernel
theorem dX11_scheme_140 : decode cX11_scheme 140 = .ok (.iload 4, 2) := by decide +kernel
theorem dX11_scheme_142 : decode cX11_scheme 142 = .ok (.invokevirtual 164, 3) := by decide +kernel
theorem dX11_scheme_145 : decode cX11_scheme 145 = .ok (.aload_n 0, 1) := by decide +kernel
theorem dX11_scheme_146 : decode cX11_scheme 146 = .ok (.getfield 10, 3) := by decide +kernel
theorem dX11_scheme_149 : decode cX11_scheme 149 = .ok (.getfield 133, 3) := by decide +kernel
theorem dX11_scheme_152 : decode cX11_scheme 152 = .ok (.aload 5, 2) := by decide +kernel
theorem dX11_scheme_154 : decode cX11_scheme 154 = .ok (.invokevirtual 168, 3) := by decide +kernel
theorem dX11_scheme_157 : decode cX11_scheme 157 = .ok (.ireturn, 1) := by decide +kernel
theorem cm_X11_scheme : CM yX11_scheme cX11_scheme 6 (some .int) 4 11 := ⟨w_693, w_694, w_695, w_87, ⟨by decide +kernel, by decide +kernel, by decide +kernel⟩, ⟨_, _, rfl⟩, by decide⟩
noncomputable def f_X11_scheme_16 (n : Nat)  (h : MM) : RR :=
  some ((-1), h)
noncomputable def f_X11_scheme_45 (n : Nat)  (h : MM) : RR :=
  some ((-2), h)
noncomputable def f_X11_scheme_76 (n : Nat)  (h : MM) : RR :=
  some ((-4), h)
noncomputable def f_X11_scheme (n : Nat) (v0 v1 v2 v3 v4 : Int) (h : MM) : RR :=
  gk h v0 11 <|
  bd (f_X11_isTown n v0 v1 h) fun r1 h1 =>
  if r1 = 0 then
    f_X11_scheme_16 n h1
  else
  gk h1 v0 11 <|
  bd (f_X11_isTown n v0 v2 h1) fun r3 h3 =>
  if r3 = 0 then
    f_X11_scheme_16 n h3
  else
  if v1 = v2 then
    f_X11_scheme_45 n h3
  else
  bd (f_X11_within n v3 0 1 h3) fun r6 h6 =>
  if r6 = 0 then
    f_X11_scheme_45 n h6
  else
  bd (f_X11_within n v4 1 99 h6) fun r8 h8 =>
  if r8 = 0 then
    f_X11_scheme_45 n h8
  else
  gf h8 v0 11 0 fun r10 =>
  gf h8 r10 10 1 fun r11 =>
  gk h8 r11 5 <|
  bd (f_X5_isFull n r11 h8) fun r12 h12 =>
  if r12 = 0 then
    gf h12 v0 11 0 fun r14 =>
    gf h12 r14 10 1 fun r15 =>
    gf h12 r15 5 8 fun r16 =>
    if r16 < 12 then
      nw h12 4 11 fun r18 h18 =>
      gf h18 v0 11 0 fun r19 =>
      gf h18 r19 10 9 fun r20 =>
      nz r18 <|
      bd (f_X4_init n r18 1 ((-1)) r20 3 3 h18) fun r21 h21 =>
      gk h21 r18 4 <|
      bd (f_X4_tell n r18 v1 v2 v3 v4 h21) fun r22 h22 =>
      gf h22 v0 11 0 fun r23 =>
      gf h22 r23 10 1 fun r24 =>
      gf h22 r24 5 8 fun r25 =>
      pf h22 r18 4 9 r25 fun h26 =>
      gf h26 v0 11 0 fun r27 =>
      gf h26 r27 10 2 fun r28 =>
      gf h26 r18 4 9 fun r29 =>
      gk h26 r28 8 <|
      bd (f_X8_begin n r28 r29 v4 h26) fun r30 h30 =>
      gf h30 v0 11 0 fun r31 =>
      gf h30 r31 10 1 fun r32 =>
      gk h30 r32 5 <|
      bd (f_X5_file n r32 r18 h30) fun r33 h33 =>
      some (r33, h33)
    else
    f_X11_scheme_76 n h12
  else
  f_X11_scheme_76 n h12
set_option maxRecDepth 20000 in
theorem b_X11_scheme_16 {g : GT} {Z : Int × MM} {n : Nat} (C : Cx g cX11_scheme 6 yX11_scheme 2 46) (hr : Rt g (some .int) 0 Z)     {h : MM} (hf : f_X11_scheme_16 n   h = some Z) : G g 16 [(3, 0), (3, 0), (3, 0), (3, 0), (3, 0), (3, 0)] [] h := by
  unfold f_X11_scheme_16 at hf
  refine r_iconst C dX11_scheme_16 ?_
  cases hf
  exact r_jret C hr dX11_scheme_17 (in32_of rfl)
set_option maxRecDepth 20000 in
theorem b_X11_scheme_45 {g : GT} {Z : Int × MM} {n : Nat} (C : Cx g cX11_scheme 6 yX11_scheme 2 46) (hr : Rt g (some .int) 0 Z)     {h : MM} (hf : f_X11_scheme_45 n   h = some Z) : G g 45 [(3, 0), (3, 0), (3, 0), (3, 0), (3, 0), (3, 0)] [] h := by
  unfold f_X11_scheme_45 at hf
  refine r_bipush C dX11_scheme_45 rfl ?_
  cases hf
  exact r_jret C hr dX11_scheme_47 (in32_of rfl)
set_option maxRecDepth 20000 in
theorem b_X11_scheme_76 {g : GT} {Z : Int × MM} {n : Nat} (C : Cx g cX11_scheme 6 yX11_scheme 2 46) (hr : Rt g (some .int) 0 Z)     {h : MM} (hf : f_X11_scheme_76 n   h = some Z) : G g 76 [(3, 0), (3, 0), (3, 0), (3, 0), (3, 0), (3, 0)] [] h := by
  unfold f_X11_scheme_76 at hf
  refine r_bipush C dX11_scheme_76 rfl ?_
  cases hf
  exact r_jret C hr dX11_scheme_78 (in32_of rfl)
set_option maxRecDepth 20000 in
theorem e_X11_scheme {g : GT} {Z : Int × MM} {n : Nat} (C : Cx g cX11_scheme 6 yX11_scheme 2 46) (hr : Rt g (some .int) 0 Z) {v0 v1 v2 v3 v4 : Int} (cv0 : cK 2 v0) (cv1 : cK 0 v1) (cv2 : cK 0 v2) (cv3 : cK 0 v3) (cv4 : cK 0 v4) {h : MM} (hf : f_X11_scheme n v0 v1 v2 v3 v4 h = some Z) : G g 0 [(2, v0), (0, v1), (0, v2), (0, v3), (0, v4), (3, 0)] [] h := by
  have cv1 : in32 v1 := cv1
  have cv2 : in32 v2 := cv2
  have cv3 : in32 v3 := cv3
  have cv4 : in32 v4 := cv4
  unfold f_X11_scheme at hf
  refine r_aload_n C dX11_scheme_0 rfl ?_
  refine r_iload_n C dX11_scheme_1 rfl ?_
  obtain ⟨p1, hf⟩ := gk_s hf
  obtain ⟨r1, h1, hq1, hf⟩ := bd_s hf
  refine r_cV1 C (am_X11_isTown (gl g) n) cm_X11_isTown w_696 dX11_scheme_2 ⟨Nat.le_of_ble_eq_true rfl, Nat.le_of_ble_eq_true rfl⟩ p1 rfl cv1 rfl (Nat.le_of_ble_eq_true rfl) hq1 (by decide) (fun c1 => ?_)
  have c1 : in32 _ := c1
  refine r_if_eq C dX11_scheme_5 (tgt := 16) (by decide) c1 (fun n2 => ?_) (fun n2 => ?_)
  · have hf := ite_p n2 hf
    exact G.mask [false, false, false, false, false, false] rfl rfl (b_X11_scheme_16 C hr   hf)
  · have hf := ite_n n2 hf
    refine r_aload_n C dX11_scheme_8 rfl ?_
    refine r_iload_n C dX11_scheme_9 rfl ?_
    obtain ⟨p3, hf⟩ := gk_s hf
    obtain ⟨r3, h3, hq3, hf⟩ := bd_s hf
    refine r_cV1 C (am_X11_isTown (gl g) n) cm_X11_isTown w_696 dX11_scheme_10 ⟨Nat.le_of_ble_eq_true rfl, Nat.le_of_ble_eq_true rfl⟩ p3 rfl cv2 rfl (Nat.le_of_ble_eq_true rfl) hq3 (by decide) (fun c3 => ?_)
    have c3 : in32 _ := c3
    refine r_if_ne C dX11_scheme_13 (tgt := 18) (by decide) c3 (fun n4 => ?_) (fun n4 => ?_)
    · have hf := ite_n n4 hf
      refine r_iload_n C dX11_scheme_18 rfl ?_
      refine r_iload_n C dX11_scheme_19 rfl ?_
      refine r_icmp_eq C dX11_scheme_20 (tgt := 45) (by decide) cv1 cv2 (fun n5 => ?_) (fun n5 => ?_)
      · have hf := ite_p n5 hf
        exact G.mask [false, false, false, false, false, false] rfl rfl (b_X11_scheme_45 C hr   hf)
      · have hf := ite_n n5 hf
        refine r_iload_n C dX11_scheme_23 rfl ?_
        refine r_i2l C dX11_scheme_24 cv3 ?_
        refine r_iconst C dX11_scheme_25 ?_
        refine r_iconst C dX11_scheme_26 ?_
        obtain ⟨r6, h6, hq6, hf⟩ := bd_s hf
        refine r_cS3 C (am_X11_within (gl g) n) cm_X11_within w_466 dX11_scheme_27 ⟨Nat.le_of_ble_eq_true rfl, Nat.le_of_ble_eq_true rfl⟩ (in64_i cv3) (in32_of rfl) (in32_of rfl) rfl (Nat.le_of_ble_eq_true rfl) hq6 (by decide) (fun c6 => ?_)
        have c6 : in32 _ := c6
        refine r_if_eq C dX11_scheme_30 (tgt := 45) (by decide) c6 (fun n7 => ?_) (fun n7 => ?_)
        · have hf := ite_p n7 hf
          exact G.mask [false, false, false, false, false, false] rfl rfl (b_X11_scheme_45 C hr   hf)
        · have hf := ite_n n7 hf
          refine r_iload C dX11_scheme_33 rfl ?_
          refine r_i2l C dX11_scheme_35 cv4 ?_
          refine r_iconst C dX11_scheme_36 ?_
          refine r_bipush C dX11_scheme_37 rfl ?_
          obtain ⟨r8, h8, hq8, hf⟩ := bd_s hf
          refine r_cS3 C (am_X11_within (gl g) n) cm_X11_within w_466 dX11_scheme_39 ⟨Nat.le_of_ble_eq_true rfl, Nat.le_of_ble_eq_true rfl⟩ (in64_i cv4) (in32_of rfl) (in32_of rfl) rfl (Nat.le_of_ble_eq_true rfl) hq8 (by decide) (fun c8 => ?_)
          have c8 : in32 _ := c8
          refine r_if_ne C dX11_scheme_42 (tgt := 48) (by decide) c8 (fun n9 => ?_) (fun n9 => ?_)
          · have hf := ite_n n9 hf
            refine r_aload_n C dX11_scheme_48 rfl ?_
            obtain ⟨q10, hf⟩ := gf_s hf
            refine r_gf C ct11 (j := 0) (ji := 0) dX11_scheme_49 q10 rfl rfl (by decide) w_440 rfl (fun c10 => ?_)
            obtain ⟨q11, hf⟩ := gf_s hf
            refine r_gf C ct10 (j := 1) (ji := 1) dX11_scheme_52 q11 rfl rfl (by decide) w_302 rfl (fun c11 => ?_)
            obtain ⟨p12, hf⟩ := gk_s hf
            obtain ⟨r12, h12, hq12, hf⟩ := bd_s hf
            refine r_cV0 C (am_X5_isFull (gl g) n) cm_X5_isFull w_700 dX11_scheme_55 ⟨Nat.le_of_ble_eq_true rfl, Nat.le_of_ble_eq_true rfl⟩ p12 rfl  rfl (Nat.le_of_ble_eq_true rfl) hq12 (by decide) (fun c12 => ?_)
            have c12 : in32 _ := c12
            refine r_if_ne C dX11_scheme_58 (tgt := 76) (by decide) c12 (fun n13 => ?_) (fun n13 => ?_)
            · have hf := ite_n n13 hf
              exact G.mask [false, false, false, false, false, false] rfl rfl (b_X11_scheme_76 C hr   hf)
            · have hf := ite_p n13 hf
              refine r_aload_n C dX11_scheme_61 rfl ?_
              obtain ⟨q14, hf⟩ := gf_s hf
              refine r_gf C ct11 (j := 0) (ji := 0) dX11_scheme_62 q14 rfl rfl (by decide) w_440 rfl (fun c14 => ?_)
              obtain ⟨q15, hf⟩ := gf_s hf
              refine r_gf C ct10 (j := 1) (ji := 1) dX11_scheme_65 q15 rfl rfl (by decide) w_302 rfl (fun c15 => ?_)
              obtain ⟨q16, hf⟩ := gf_s hf
              refine r_gf C ct5 (j := 8) (ji := 8) dX11_scheme_68 q16 rfl rfl (by decide) w_183 rfl (fun c16 => ?_)
              have c16 : in32 _ := c16
              refine r_bipush C dX11_scheme_71 rfl ?_
              refine r_icmp_lt C dX11_scheme_73 (tgt := 79) (by decide) c16 (in32_of rfl) (fun n17 => ?_) (fun n17 => ?_)
              · have hf := ite_p n17 hf
                obtain ⟨q18, hf⟩ := nw_s hf
                refine r_new C ct4 cf4 (ti := 4) (ni := 11) dX11_scheme_79 q18 rfl rfl w_704 w_705 w_106 ?_
                refine r_dup C dX11_scheme_82 (by decide) ?_
                refine r_iconst C dX11_scheme_83 ?_
                refine r_iconst C dX11_scheme_84 ?_
                refine r_aload_n C dX11_scheme_85 rfl ?_
                obtain ⟨q19, hf⟩ := gf_s hf
                refine r_gf C ct11 (j := 0) (ji := 0) dX11_scheme_86 q19 rfl rfl (by decide) w_440 rfl (fun c19 => ?_)
                obtain ⟨q20, hf⟩ := gf_s hf
                refine r_gf C ct10 (j := 9) (ji := 9) dX11_scheme_89 q20 rfl rfl (by decide) w_317 rfl (fun c20 => ?_)
                have c20 : in32 _ := c20
                refine r_gsN C dX11_scheme_92 w_706 ?_
                refine r_gsN C dX11_scheme_95 w_706 ?_
                obtain ⟨p21, hf⟩ := nz_s hf
                obtain ⟨r21, h21, hq21, hf⟩ := bd_s hf
                refine r_cI5 C (am_X4_init (gl g) n) cm_X4_init w_708 dX11_scheme_98 ⟨Nat.le_of_ble_eq_true rfl, Nat.le_of_ble_eq_true rfl⟩ p21 (in32_of rfl) (in32_of rfl) c20 trivial trivial rfl (Nat.le_of_ble_eq_true rfl) hq21 ?_
                refine r_astore C dX11_scheme_101 (Nat.le_of_ble_eq_true rfl) rfl ?_
                refine r_aload C dX11_scheme_103 rfl ?_
                refine r_iload_n C dX11_scheme_105 rfl ?_
                refine r_iload_n C dX11_scheme_106 rfl ?_
                refine r_iload_n C dX11_scheme_107 rfl ?_
                refine r_iload C dX11_scheme_108 rfl ?_
                obtain ⟨p22, hf⟩ := gk_s hf
                obtain ⟨r22, h22, hq22, hf⟩ := bd_s hf
                refine r_cV4v C (am_X4_tell (gl g) n) cm_X4_tell w_781 dX11_scheme_110 ⟨Nat.le_of_ble_eq_true rfl, Nat.le_of_ble_eq_true rfl⟩ p22 rfl cv1 cv2 cv3 cv4 rfl (Nat.le_of_ble_eq_true rfl) hq22 ?_
                refine r_aload C dX11_scheme_113 rfl ?_
                refine r_aload_n C dX11_scheme_115 rfl ?_
                obtain ⟨q23, hf⟩ := gf_s hf
                refine r_gf C ct11 (j := 0) (ji := 0) dX11_scheme_116 q23 rfl rfl (by decide) w_440 rfl (fun c23 => ?_)
                obtain ⟨q24, hf⟩ := gf_s hf
                refine r_gf C ct10 (j := 1) (ji := 1) dX11_scheme_119 q24 rfl rfl (by decide) w_302 rfl (fun c24 => ?_)
                obtain ⟨q25, hf⟩ := gf_s hf
                refine r_gf C ct5 (j := 8) (ji := 8) dX11_scheme_122 q25 rfl rfl (by decide) w_183 rfl (fun c25 => ?_)
                have c25 : in32 _ := c25
                obtain ⟨q26, hf⟩ := pf_s hf
                refine r_pf C ct4 (j := 9) (ji := 9) dX11_scheme_125 q26 rfl rfl (by decide) w_754 rfl (Or.inl rfl) nar_int c25 ?_
                refine r_aload_n C dX11_scheme_128 rfl ?_
                obtain ⟨q27, hf⟩ := gf_s hf
                refine r_gf C ct11 (j := 0) (ji := 0) dX11_scheme_129 q27 rfl rfl (by decide) w_440 rfl (fun c27 => ?_)
                obtain ⟨q28, hf⟩ := gf_s hf
                refine r_gf C ct10 (j := 2) (ji := 2) dX11_scheme_132 q28 rfl rfl (by decide) w_304 rfl (fun c28 => ?_)
                refine r_aload C dX11_scheme_135 rfl ?_
                obtain ⟨q29, hf⟩ := gf_s hf
                refine r_gf C ct4 (j := 9) (ji := 9) dX11_scheme_137 q29 rfl rfl (by decide) w_754 rfl (fun c29 => ?_)
                have c29 : in32 _ := c29
                refine r_iload C dX11_scheme_140 rfl ?_
                obtain ⟨p30, hf⟩ := gk_s hf
                obtain ⟨r30, h30, hq30, hf⟩ := bd_s hf
                refine r_cV2v C (am_X8_begin (gl g) n) cm_X8_begin w_785 dX11_scheme_142 ⟨Nat.le_of_ble_eq_true rfl, Nat.le_of_ble_eq_true rfl⟩ p30 rfl c29 cv4 rfl (Nat.le_of_ble_eq_true rfl) hq30 ?_
                refine r_aload_n C dX11_scheme_145 rfl ?_
                obtain ⟨q31, hf⟩ := gf_s hf
                refine r_gf C ct11 (j := 0) (ji := 0) dX11_scheme_146 q31 rfl rfl (by decide) w_440 rfl (fun c31 => ?_)
                obtain ⟨q32, hf⟩ := gf_s hf
                refine r_gf C ct10 (j := 1) (ji := 1) dX11_scheme_149 q32 rfl rfl (by decide) w_302 rfl (fun c32 => ?_)
                refine r_aload C dX11_scheme_152 rfl ?_
                obtain ⟨p33, hf⟩ := gk_s hf
                obtain ⟨r33, h33, hq33, hf⟩ := bd_s hf
                refine r_cV1 C (am_X5_file (gl g) n) cm_X5_file w_789 dX11_scheme_154 ⟨Nat.le_of_ble_eq_true rfl, Nat.le_of_ble_eq_true rfl⟩ p33 rfl trivial rfl (Nat.le_of_ble_eq_true rfl) hq33 (by decide) (fun c33 => ?_)
                have c33 : in32 _ := c33
                cases hf
                exact r_jret C hr dX11_scheme_157 c33
              · have hf := ite_n n17 hf
                exact G.mask [false, false, false, false, false, false] rfl rfl (b_X11_scheme_76 C hr   hf)
          · have hf := ite_p n9 hf
            exact G.mask [false, false, false, false, false, false] rfl rfl (b_X11_scheme_45 C hr   hf)
    · have hf := ite_p n4 hf
      exact G.mask [false, false, false, false, false, false] rfl rfl (b_X11_scheme_16 C hr   hf)
set_option maxRecDepth 20000 in
theorem am_X11_scheme (l : Launch) (n : Nat) : AM l yX11_scheme cX11_scheme 6 (some .int) 2 46 [2, 0, 0, 0, 0] 0 (un5 (f_X11_scheme n)) := by
  refine AM.intro (by decide) (fun xs hx => ?_) (fun g xs h Z hl C hr hx hf => ?_)
  · obtain ⟨a0, a1, a2, a3, a4, rfl, c0, c1, c2, c3, c4⟩ := canL_5 hx
    exact Nat.le_of_ble_eq_true rfl
  · obtain ⟨a0, a1, a2, a3, a4, rfl, c0, c1, c2, c3, c4⟩ := canL_5 hx
    have hf := (un5_e _ a0 a1 a2 a3 a4 _).symm.trans hf
    exact e_X11_scheme (n := n) C hr c0 c1 c2 c3 c4 hf
/-! LinesPromised$Papers.get(I)LLinesPromised$Paper; -/
theorem dX5_get_0 : decode cX5_get 0 = .ok (.iload_n 1, 1) := by decide +kernel
theorem dX5_get_1 : decode cX5_get 1 = .ok (.i2l, 1) := by decide +kernel
theorem dX5_get_2 : decode cX5_get 2 = .ok (.iconst 0, 1) := by decide +kernel
theorem dX5_get_3 : decode cX5_get 3 = .ok (.aload_n 0, 1) := by decide +kernel
theorem dX5_get_4 : decode cX5_get 4 = .ok (.getfield 44, 3) := by decide +kernel
theorem dX5_get_7 : decode cX5_get 7 = .ok (.iconst 1, 1) := by decide +kernel
theorem dX5_get_8 : decode cX5_get 8 = .ok (.isub, 1) := by decide +kernel
theorem dX5_get_9 : decode cX5_get 9 = .ok (.invokestatic 61, 3) := by decide +kernel
theorem dX5_get_12 : decode cX5_get 12 = .ok (.ifCond .eq 12, 3) := by decide +kernel
theorem dX5_get_15 : decode cX5_get 15 = .ok (.aload_n 0, 1) := by decide +kernel
theorem dX5_get_16 : decode cX5_get 16 = .ok (.getfield 11, 3) := by decide +kernel
theorem dX5_get_19 : decode cX5_get 19 = .ok (.iload_n 1, 1) := by decide +kernel
theorem dX5_get_20 : decode cX5_get 20 = .ok (.aaload, 1) := by decide +kernel
theorem dX5_get_21 : decode cX5_get 21 = .ok (.goto 4, 3) := by decide +kernel
theorem dX5_get_24 : decode cX5_get 24 = .ok (.aconst_null, 1) := by decide +kernel
theorem dX5_get_25 : decode cX5_get 25 = .ok (.areturn, 1) := by decide +kernel
theorem cm_X5_get : CM yX5_get cX5_get 2 (some (.object "LinesPromised$Paper")) 1 5 := ⟨w_803, w_804, w_805, w_90, ⟨by decide +kernel, by decide +kernel, by decide +kernel⟩, ⟨_, _, rfl⟩, by decide⟩
noncomputable def f_X5_get_25 (n : Nat)  (s0 : Int) (h : MM) : RR :=
  some (s0, h)
noncomputable def f_X5_get (n : Nat) (v0 v1 : Int) (h : MM) : RR :=
  gf h v0 5 7 fun r1 =>
  bd (f_X11_within n v1 0 (wr (r1 - 1)) h) fun r2 h2 =>
  if r2 = 0 then
    f_X5_get_25 n 0 h2
  else
  gf h2 v0 5 0 fun r4 =>
  rd h2 r4 105 v1 fun r5 =>
  f_X5_get_25 n r5 h2
set_option maxRecDepth 20000 in
theorem b_X5_get_25 {g : GT} {Z : Int × MM} {n : Nat} (C : Cx g cX5_get 2 yX5_get 1 23) (hr : Rt g (some (.object "LinesPromised$Paper")) 2 Z) {s0 : Int}     {h : MM} (hf : f_X5_get_25 n  s0 h = some Z) : G g 25 [(3, 0), (3, 0)] [(2, s0)] h := by
  unfold f_X5_get_25 at hf
  cases hf
  exact r_aret C hr dX5_get_25 (Or.inl ⟨_, rfl⟩)
set_option maxRecDepth 20000 in
theorem e_X5_get {g : GT} {Z : Int × MM} {n : Nat} (C : Cx g cX5_get 2 yX5_get 1 23) (hr : Rt g (some (.object "LinesPromised$Paper")) 2 Z) {v0 v1 : Int} (cv0 : cK 2 v0) (cv1 : cK 0 v1) {h : MM} (hf : f_X5_get n v0 v1 h = some Z) : G g 0 [(2, v0), (0, v1)] [] h := by
  have cv1 : in32 v1 := cv1
  unfold f_X5_get at hf
  refine r_iload_n C dX5_get_0 rfl ?_
  refine r_i2l C dX5_get_1 cv1 ?_
  refine r_iconst C dX5_get_2 ?_
  refine r_aload_n C dX5_get_3 rfl ?_
  obtain ⟨q1, hf⟩ := gf_s hf
  refine r_gf C ct5 (j := 7) (ji := 7) dX5_get_4 q1 rfl rfl (by decide) w_177 rfl (fun c1 => ?_)
  have c1 : in32 _ := c1
  refine r_iconst C dX5_get_7 ?_
  refine r_isub C dX5_get_8 ?_
  obtain ⟨r2, h2, hq2, hf⟩ := bd_s hf
  refine r_cN3 C (am_X11_within (gl g) n) cm_X11_within (C.hK.2.2.2.2.2.2.1) dX5_get_9 ⟨Nat.le_of_ble_eq_true rfl, Nat.le_of_ble_eq_true rfl⟩ (in64_i cv1) (in32_of rfl) (in32_t _) rfl (Nat.le_of_ble_eq_true rfl) hq2 (by decide) (fun c2 => ?_)
  have c2 : in32 _ := c2
  refine r_if_eq C dX5_get_12 (tgt := 24) (by decide) c2 (fun n3 => ?_) (fun n3 => ?_)
  · have hf := ite_p n3 hf
    refine r_null C dX5_get_24 ?_
    exact G.mask [false, false] rfl rfl (b_X5_get_25 C hr   hf)
  · have hf := ite_n n3 hf
    refine r_aload_n C dX5_get_15 rfl ?_
    obtain ⟨q4, hf⟩ := gf_s hf
    refine r_gf C ct5 (j := 0) (ji := 0) dX5_get_16 q4 rfl rfl (by decide) w_165 rfl (fun c4 => ?_)
    refine r_iload_n C dX5_get_19 rfl ?_
    obtain ⟨q5, hf⟩ := rd_s hf
    refine r_aald C dX5_get_20 q5 (tn := 105) rfl (by decide) ?_
    refine r_goto C dX5_get_21 (tgt := 25) (by decide) ?_
    exact G.mask [false, false] rfl rfl (b_X5_get_25 C hr   hf)
set_option maxRecDepth 20000 in
theorem am_X5_get (l : Launch) (n : Nat) : AM l yX5_get cX5_get 2 (some (.object "LinesPromised$Paper")) 1 23 [2, 0] 2 (un2 (f_X5_get n)) := by
  refine AM.intro (by decide) (fun xs hx => ?_) (fun g xs h Z hl C hr hx hf => ?_)
  · obtain ⟨a0, a1, rfl, c0, c1⟩ := canL_2 hx
    exact Nat.le_of_ble_eq_true rfl
  · obtain ⟨a0, a1, rfl, c0, c1⟩ := canL_2 hx
    have hf := (un2_e _ a0 a1 _).symm.trans hf
    exact e_X5_get (n := n) C hr c0 c1 hf
/-! LinesPromised$Papers.find(II)LLinesPromised$Paper; -/
theorem dX5_find_0 : decode cX5_find 0 = .ok (.aload_n 0, 1) := by decide +kernel
theorem dX5_find_1 : decode cX5_find 1 = .ok (.iload_n 1, 1) := by decide +kernel
theorem dX5_find_2 : decode cX5_find 2 = .ok (.invokevirtual 65, 3) := by decide +kernel
theorem dX5_find_5 : decode cX5_find 5 = .ok (.astore_n 3, 1) := by decide +kernel
theorem dX5_find_6 : decode cX5_find 6 = .ok (.aload_n 3, 1) := by decide +kernel
theorem dX5_find_7 : decode cX5_find 7 = .ok (.ifnull 15, 3) := by decide +kernel
theorem dX5_find_10 : decode cX5_find 10 = .ok (.aload_n 3, 1) := by decide +kernel
theorem dX5_find_11 : decode cX5_find 11 = .ok (.getfield 58, 3) := by decide +kernel
theorem dX5_find_14 : decode cX5_find 14 = .ok (.iload_n 2, 1) := by decide +kernel
theorem dX5_find_15 : decode cX5_find 15 = .ok (.if_icmp .ne 7, 3) := by decide +kernel
theorem dX5_find_18 : decode cX5_find 18 = .ok (.aload_n 3, 1) := by decide +kernel
theorem dX5_find_19 : decode cX5_find 19 = .ok (.goto 4, 3) := by decide +kernel
theorem dX5_find_22 : decode cX5_find 22 = .ok (.aconst_null, 1) := by decide +kernel
theorem dX5_find_23 : decode cX5_find 23 = .ok (.areturn, 1) := by decide +kernel
theorem cm_X5_find : CM yX5_find cX5_find 4 (some (.object "LinesPromised$Paper")) 2 5 := ⟨w_799, w_800, w_801, w_90, ⟨by decide +kernel, by decide +kernel, by decide +kernel⟩, ⟨_, _, rfl⟩, by decide⟩
noncomputable def f_X5_find_23 (n : Nat)  (s0 : Int) (h : MM) : RR :=
  some (s0, h)
noncomputable def f_X5_find_22 (n : Nat)  (h : MM) : RR :=
  f_X5_find_23 n 0 h
noncomputable def f_X5_find (n : Nat) (v0 v1 v2 : Int) (h : MM) : RR :=
  gk h v0 5 <|
  bd (f_X5_get n v0 v1 h) fun r1 h1 =>
  if r1 = 0 then
    f_X5_find_22 n h1
  else
  gf h1 r1 4 0 fun r3 =>
  if r3 = v2 then
    f_X5_find_23 n r1 h1
  else
  f_X5_find_22 n h1
set_option maxRecDepth 20000 in
theorem b_X5_find_23 {g : GT} {Z : Int × MM} {n : Nat} (C : Cx g cX5_find 4 yX5_find 2 44) (hr : Rt g (some (.object "LinesPromised$Paper")) 2 Z) {s0 : Int}     {h : MM} (hf : f_X5_find_23 n  s0 h = some Z) : G g 23 [(3, 0), (3, 0), (3, 0), (3, 0)] [(2, s0)] h := by
  unfold f_X5_find_23 at hf
  cases hf
  exact r_aret C hr dX5_find_23 (Or.inl ⟨_, rfl⟩)
set_option maxRecDepth 20000 in
theorem b_X5_find_22 {g : GT} {Z : Int × MM} {n : Nat} (C : Cx g cX5_find 4 yX5_find 2 44) (hr : Rt g (some (.object "LinesPromised$Paper")) 2 Z)     {h : MM} (hf : f_X5_find_22 n   h = some Z) : G g 22 [(3, 0), (3, 0), (3, 0), (3, 0)] [] h := by
  unfold f_X5_find_22 at hf
  refine r_null C dX5_find_22 ?_
  exact G.mask [false, false, false, false] rfl rfl (b_X5_find_23 C hr   hf)
set_option maxRecDepth 20000 in
theorem e_X5_find {g : GT} {Z : Int × MM} {n : Nat} (C : Cx g cX5_find 4 yX5_find 2 44) (hr : Rt g (some (.object "LinesPromised$Paper")) 2 Z) {v0 v1 v2 : Int} (cv0 : cK 2 v0) (cv1 : cK 0 v1) (cv2 : cK 0 v2) {h : MM} (hf : f_X5_find n v0 v1 v2 h = some Z) : G g 0 [(2, v0), (0, v1), (0, v2), (3, 0)] [] h := by
  have cv1 : in32 v1 := cv1
  have cv2 : in32 v2 := cv2
  unfold f_X5_find at hf
  refine r_aload_n C dX5_find_0 rfl ?_
  refine r_iload_n C dX5_find_1 rfl ?_
  obtain ⟨p1, hf⟩ := gk_s hf
  obtain ⟨r1, h1, hq1, hf⟩ := bd_s hf
  refine r_cV1 C (am_X5_get (gl g) n) cm_X5_get w_802 dX5_find_2 ⟨Nat.le_of_ble_eq_true rfl, Nat.le_of_ble_eq_true rfl⟩ p1 rfl cv1 rfl (Nat.le_of_ble_eq_true rfl) hq1 (by decide) (fun c1 => ?_)
  refine r_astore_n C dX5_find_5 (Nat.le_of_ble_eq_true rfl) rfl ?_
  refine r_aload_n C dX5_find_6 rfl ?_
  refine r_ifnull C dX5_find_7 (tgt := 22) (by decide) (fun n2 => ?_) (fun n2 => ?_)
  · have hf := ite_p n2 hf
    exact G.mask [false, false, false, false] rfl rfl (b_X5_find_22 C hr   hf)
  · have hf := ite_n n2 hf
    refine r_aload_n C dX5_find_10 rfl ?_
    obtain ⟨q3, hf⟩ := gf_s hf
    refine r_gf C ct4 (j := 0) (ji := 0) dX5_find_11 q3 rfl rfl (by decide) w_714 rfl (fun c3 => ?_)
    have c3 : in32 _ := c3
    refine r_iload_n C dX5_find_14 rfl ?_
    refine r_icmp_ne C dX5_find_15 (tgt := 22) (by decide) c3 cv2 (fun n4 => ?_) (fun n4 => ?_)
    · have hf := ite_n n4 hf
      exact G.mask [false, false, false, false] rfl rfl (b_X5_find_22 C hr   hf)
    · have hf := ite_p n4 hf
      refine r_aload_n C dX5_find_18 rfl ?_
      refine r_goto C dX5_find_19 (tgt := 23) (by decide) ?_
      exact G.mask [false, false, false, false] rfl rfl (b_X5_find_23 C hr   hf)
set_option maxRecDepth 20000 in
theorem am_X5_find (l : Launch) (n : Nat) : AM l yX5_find cX5_find 4 (some (.object "LinesPromised$Paper")) 2 44 [2, 0, 0] 2 (un3 (f_X5_find n)) := by
  refine AM.intro (by decide) (fun xs hx => ?_) (fun g xs h Z hl C hr hx hf => ?_)
  · obtain ⟨a0, a1, a2, rfl, c0, c1, c2⟩ := canL_3 hx
    exact Nat.le_of_ble_eq_true rfl
  · obtain ⟨a0, a1, a2, rfl, c0, c1, c2⟩ := canL_3 hx
    have hf := (un3_e _ a0 a1 a2 _).symm.trans hf
    exact e_X5_find (n := n) C hr c0 c1 c2 hf
/-! LinesPromised.isSheet(I)Z -/
theorem dX11_isSheet_0 : decode cX11_isSheet 0 = .ok (.iload_n 0, 1) := by decide +kernel
theorem dX11_isSheet_1 : decode cX11_isSheet 1 = .ok (.i2l, 1) := by decide +kernel
theorem dX11_isSheet_2 : decode cX11_isSheet 2 = .ok (.iconst 0, 1) := by decide +kernel
theorem dX11_isSheet_3 : decode cX11_isSheet 3 = .ok (.iconst 3, 1) := by decide +kernel
theorem dX11_isSheet_4 : decode cX11_isSheet 4 = .ok (.invokestatic 46, 3) := by decide +kernel
theorem dX11_isSheet_7 : decode cX11_isSheet 7 = .ok (.ireturn, 1) := by decide +kernel
theorem cm_X11_isSheet : CMs yX11_isSheet cX11_isSheet 1 (some .boolean) 1 := ⟨w_808, w_809, w_87, ⟨by decide +kernel, by decide +kernel, by decide +kernel⟩⟩
noncomputable def f_X11_isSheet (n : Nat) (v0 : Int) (h : MM) : RR :=
  bd (f_X11_within n v0 0 3 h) fun r1 h1 =>
  ck (isb r1) <|
  some (r1, h1)
set_option maxRecDepth 20000 in
theorem e_X11_isSheet {g : GT} {Z : Int × MM} {n : Nat} (C : Cx g cX11_isSheet 1 yX11_isSheet 1 23) (hr : Rt g (some .boolean) 0 Z) {v0 : Int} (cv0 : cK 0 v0) {h : MM} (hf : f_X11_isSheet n v0 h = some Z) : G g 0 [(0, v0)] [] h := by
  have cv0 : in32 v0 := cv0
  unfold f_X11_isSheet at hf
  refine r_iload_n C dX11_isSheet_0 rfl ?_
  refine r_i2l C dX11_isSheet_1 cv0 ?_
  refine r_iconst C dX11_isSheet_2 ?_
  refine r_iconst C dX11_isSheet_3 ?_
  obtain ⟨r1, h1, hq1, hf⟩ := bd_s hf
  refine r_cS3 C (am_X11_within (gl g) n) cm_X11_within w_466 dX11_isSheet_4 ⟨Nat.le_of_ble_eq_true rfl, Nat.le_of_ble_eq_true rfl⟩ (in64_i cv0) (in32_of rfl) (in32_of rfl) rfl (Nat.le_of_ble_eq_true rfl) hq1 (by decide) (fun c1 => ?_)
  have c1 : in32 _ := c1
  obtain ⟨b2, hf⟩ := ck_s hf
  cases hf
  exact r_zret C hr dX11_isSheet_7 b2
set_option maxRecDepth 20000 in
theorem am_X11_isSheet (l : Launch) (n : Nat) : AM l yX11_isSheet cX11_isSheet 1 (some .boolean) 1 23 [0] 0 (un1 (f_X11_isSheet n)) := by
  refine AM.intro (by decide) (fun xs hx => ?_) (fun g xs h Z hl C hr hx hf => ?_)
  · obtain ⟨a0, rfl, c0⟩ := canL_1 hx
    exact Nat.le_of_ble_eq_true rfl
  · obtain ⟨a0, rfl, c0⟩ := canL_1 hx
    have hf := (un1_e _ a0 _).symm.trans hf
    exact e_X11_isSheet (n := n) C hr c0 hf
/-! LinesPromised$Land.beside(II)I -/
theorem dX1_beside_0 : decode cX1_beside 0 = .ok (.iload_n 1, 1) := by decide +kernel
theorem dX1_beside_1 : decode cX1_beside 1 = .ok (.tableswitch 74 0 2 #[27, 42, 57], 27) := by decide +kernel
theorem dX1_beside_28 : decode cX1_beside 28 = .ok (.iload_n 0, 1) := by decide +kernel
theorem dX1_beside_29 : decode cX1_beside 29 = .ok (.bipush 10, 2) := by decide +kernel
theorem dX1_beside_31 : decode cX1_beside 31 = .ok (.if_icmp .lt 10, 3) := by decide +kernel
theorem dX1_beside_34 : decode cX1_beside 34 = .ok (.iload_n 0, 1) := by decide +kernel
theorem dX1_beside_35 : decode cX1_beside 35 = .ok (.bipush 10, 2) := by decide +kernel
theorem dX1_beside_37 : decode cX1_beside 37 = .ok (.isub, 1) := by decide +kernel
theorem dX1_beside_38 : decode cX1_beside 38 = .ok (.goto 4, 3) := by decide +kernel
theorem dX1_beside_41 : decode cX1_beside 41 = .ok (.iconst (-1), 1) := by decide +kernel
theorem dX1_beside_42 : decode cX1_beside 42 = .ok (.ireturn, 1) := by decide +kernel
theorem dX1_beside_43 : decode cX1_beside 43 = .ok (.iload_n 0, 1) := by decide +kernel
theorem dX1_beside_44 : decode cX1_beside 44 = .ok (.bipush 10, 2) := by decide +kernel
theorem dX1_beside_46 : decode cX1_beside 46 = .ok (.irem, 1) := by decide +kernel
theorem dX1_beside_47 : decode cX1_beside 47 = .ok (.ifCond .le 9, 3) := by decide +kernel
theorem dX1_beside_50 : decode cX1_beside 50 = .ok (.iload_n 0, 1) := by decide +kernel
theorem dX1_beside_51 : decode cX1_beside 51 = .ok (.iconst 1, 1) := by decide +kernel
theorem dX1_beside_52 : decode cX1_beside 52 = .ok (.isub, 1) := by decide +kernel
theorem dX1_beside_53 : decode cX1_beside 53 = .ok (.goto 4, 3) := by decide +kernel
theorem dX1_beside_56 : decode cX1_beside 56 = .ok (.iconst (-1), 1) := by decide +kernel
theorem dX1_beside_57 : decode cX1_beside 57 = .ok (.ireturn, 1) := by decide +kernel
theorem dX1_beside_58 : decode cX1_beside 58 = .ok (.iload_n 0, 1) := by decide +kernel
theorem dX1_beside_59 : decode cX1_beside 59 = .ok (.bipush 10, 2) := by decide +kernel
theorem dX1_beside_61 : decode cX1_beside 61 = .ok (.irem, 1) := by decide +kernel
theorem dX1_beside_62 : decode cX1_beside 62 = .ok (.bipush 9, 2) := by decide +kernel
theorem dX1_beside_64 : decode cX1_beside 64 = .ok (.if_icmp .ge 9, 3) := by decide +kernel
theorem dX1_beside_67 : decode cX1_beside 67 = .ok (.iload_n 0, 1) := by decide +kernel
theorem dX1_beside_68 : decode cX1_beside 68 = .ok (.iconst 1, 1) := by decide +kernel
theorem dX1_beside_69 : decode cX1_beside 69 = .ok (.iadd, 1) := by decide +kernel
theorem dX1_beside_70 : decode cX1_beside 70 = .ok (.goto 4, 3) := by decide +kernel
theorem dX1_beside_73 : decode cX1_beside 73 = .ok (.iconst (-1), 1) := by decide +kernel
theorem dX1_beside_74 : decode cX1_beside 74 = .ok (.ireturn, 1) := by decide +kernel
theorem dX1_beside_75 : decode cX1_beside 75 = .ok (.iload_n 0, 1) := by decide +kernel
theorem dX1_beside_76 : decode cX1_beside 76 = .ok (.bipush 10, 2) := by decide +kernel
theorem dX1_beside_78 : decode cX1_beside 78 = .ok (.iadd, 1) := by decide +kernel
theorem dX1_beside_79 : decode cX1_beside 79 = .ok (.bipush 80, 2) := by decide +kernel
theorem dX1_beside_81 : decode cX1_beside 81 = .ok (.if_icmp .ge 10, 3) := by decide +kernel
theorem dX1_beside_84 : decode cX1_beside 84 = .ok (.iload_n 0, 1) := by decide +kernel
theorem dX1_beside_85 : decode cX1_beside 85 = .ok (.bipush 10, 2) := by decide +kernel
theorem dX1_beside_87 : decode cX1_beside 87 = .ok (.iadd, 1) := by decide +kernel
theorem dX1_beside_88 : decode cX1_beside 88 = .ok (.goto 4, 3) := by decide +kernel
theorem dX1_beside_91 : decode cX1_beside 91 = .ok (.iconst (-1), 1) := by decide +kernel
theorem dX1_beside_92 : decode cX1_beside 92 = .ok (.ireturn, 1) := by decide +kernel
theorem cm_X1_beside : CMs yX1_beside cX1_beside 2 (some .int) 2 := ⟨w_826, w_827, w_89, ⟨by decide +kernel, by decide +kernel, by decide +kernel⟩⟩
noncomputable def f_X1_beside_74 (n : Nat)  (s0 : Int) (h : MM) : RR :=
  some (s0, h)
noncomputable def f_X1_beside_57 (n : Nat)  (s0 : Int) (h : MM) : RR :=
  some (s0, h)
noncomputable def f_X1_beside_42 (n : Nat)  (s0 : Int) (h : MM) : RR :=
  some (s0, h)
noncomputable def f_X1_beside_92 (n : Nat)  (s0 : Int) (h : MM) : RR :=
  some (s0, h)
noncomputable def f_X1_beside (n : Nat) (v0 v1 : Int) (h : MM) : RR :=
  if v1 = 0 then
    if v0 < 10 then
      f_X1_beside_42 n ((-1)) h
    else
    f_X1_beside_42 n (wr (v0 - 10)) h
  else
  if v1 = 1 then
    if irm v0 10 ≤ 0 then
      f_X1_beside_57 n ((-1)) h
    else
    f_X1_beside_57 n (wr (v0 - 1)) h
  else
  if v1 = 2 then
    if 9 ≤ irm v0 10 then
      f_X1_beside_74 n ((-1)) h
    else
    f_X1_beside_74 n (wr (v0 + 1)) h
  else
  if 80 ≤ wr (v0 + 10) then
    f_X1_beside_92 n ((-1)) h
  else
  f_X1_beside_92 n (wr (v0 + 10)) h
set_option maxRecDepth 20000 in
theorem b_X1_beside_74 {g : GT} {Z : Int × MM} {n : Nat} (C : Cx g cX1_beside 2 yX1_beside 0 0) (hr : Rt g (some .int) 0 Z) {s0 : Int}    (cs0 : in32 s0) {h : MM} (hf : f_X1_beside_74 n  s0 h = some Z) : G g 74 [(3, 0), (3, 0)] [(0, s0)] h := by
  unfold f_X1_beside_74 at hf
  cases hf
  exact r_jret C hr dX1_beside_74 cs0
set_option maxRecDepth 20000 in
theorem b_X1_beside_57 {g : GT} {Z : Int × MM} {n : Nat} (C : Cx g cX1_beside 2 yX1_beside 0 0) (hr : Rt g (some .int) 0 Z) {s0 : Int}    (cs0 : in32 s0) {h : MM} (hf : f_X1_beside_57 n  s0 h = some Z) : G g 57 [(3, 0), (3, 0)] [(0, s0)] h := by
  unfold f_X1_beside_57 at hf
  cases hf
  exact r_jret C hr dX1_beside_57 cs0
set_option maxRecDepth 20000 in
theorem b_X1_beside_42 {g : GT} {Z : Int × MM} {n : Nat} (C : Cx g cX1_beside 2 yX1_beside 0 0) (hr : Rt g (some .int) 0 Z) {s0 : Int}    (cs0 : in32 s0) {h : MM} (hf : f_X1_beside_42 n  s0 h = some Z) : G g 42 [(3, 0), (3, 0)] [(0, s0)] h := by
  unfold f_X1_beside_42 at hf
  cases hf
  exact r_jret C hr dX1_beside_42 cs0
set_option maxRecDepth 20000 in
theorem b_X1_beside_92 {g : GT} {Z : Int × MM} {n : Nat} (C : Cx g cX1_beside 2 yX1_beside 0 0) (hr : Rt g (some .int) 0 Z) {s0 : Int}    (cs0 : in32 s0) {h : MM} (hf : f_X1_beside_92 n  s0 h = some Z) : G g 92 [(3, 0), (3, 0)] [(0, s0)] h := by
  unfold f_X1_beside_92 at hf
  cases hf
  exact r_jret C hr dX1_beside_92 cs0
set_option maxRecDepth 20000 in
theorem e_X1_beside {g : GT} {Z : Int × MM} {n : Nat} (C : Cx g cX1_beside 2 yX1_beside 0 0) (hr : Rt g (some .int) 0 Z) {v0 v1 : Int} (cv0 : cK 0 v0) (cv1 : cK 0 v1) {h : MM} (hf : f_X1_beside n v0 v1 h = some Z) : G g 0 [(0, v0), (0, v1)] [] h := by
  have cv0 : in32 v0 := cv0
  have cv1 : in32 v1 := cv1
  unfold f_X1_beside at hf
  refine r_iload_n C dX1_beside_0 rfl ?_
  rcases ite_s hf with ⟨n1, hf⟩ | ⟨n1, hf⟩
  · refine r_tsw C dX1_beside_1 (tgt := 28) cv1 n1 rfl rfl (by decide) ?_
    refine r_iload_n C dX1_beside_28 rfl ?_
    refine r_bipush C dX1_beside_29 rfl ?_
    refine r_icmp_lt C dX1_beside_31 (tgt := 41) (by decide) cv0 (in32_of rfl) (fun n2 => ?_) (fun n2 => ?_)
    · have hf := ite_p n2 hf
      refine r_iconst C dX1_beside_41 ?_
      exact G.mask [false, false] rfl rfl (b_X1_beside_42 C hr  (in32_of rfl) hf)
    · have hf := ite_n n2 hf
      refine r_iload_n C dX1_beside_34 rfl ?_
      refine r_bipush C dX1_beside_35 rfl ?_
      refine r_isub C dX1_beside_37 ?_
      refine r_goto C dX1_beside_38 (tgt := 42) (by decide) ?_
      exact G.mask [false, false] rfl rfl (b_X1_beside_42 C hr  (in32_t _) hf)
  rcases ite_s hf with ⟨n3, hf⟩ | ⟨n3, hf⟩
  · refine r_tsw C dX1_beside_1 (tgt := 43) cv1 n3 rfl rfl (by decide) ?_
    refine r_iload_n C dX1_beside_43 rfl ?_
    refine r_bipush C dX1_beside_44 rfl ?_
    refine r_irem C dX1_beside_46 (in32_of rfl) (by decide) ?_
    refine r_if_le C dX1_beside_47 (tgt := 56) (by decide) (in32_t _) (fun n4 => ?_) (fun n4 => ?_)
    · have hf := ite_p n4 hf
      refine r_iconst C dX1_beside_56 ?_
      exact G.mask [false, false] rfl rfl (b_X1_beside_57 C hr  (in32_of rfl) hf)
    · have hf := ite_n n4 hf
      refine r_iload_n C dX1_beside_50 rfl ?_
      refine r_iconst C dX1_beside_51 ?_
      refine r_isub C dX1_beside_52 ?_
      refine r_goto C dX1_beside_53 (tgt := 57) (by decide) ?_
      exact G.mask [false, false] rfl rfl (b_X1_beside_57 C hr  (in32_t _) hf)
  rcases ite_s hf with ⟨n5, hf⟩ | ⟨n5, hf⟩
  · refine r_tsw C dX1_beside_1 (tgt := 58) cv1 n5 rfl rfl (by decide) ?_
    refine r_iload_n C dX1_beside_58 rfl ?_
    refine r_bipush C dX1_beside_59 rfl ?_
    refine r_irem C dX1_beside_61 (in32_of rfl) (by decide) ?_
    refine r_bipush C dX1_beside_62 rfl ?_
    refine r_icmp_ge C dX1_beside_64 (tgt := 73) (by decide) (in32_t _) (in32_of rfl) (fun n6 => ?_) (fun n6 => ?_)
    · have hf := ite_p n6 hf
      refine r_iconst C dX1_beside_73 ?_
      exact G.mask [false, false] rfl rfl (b_X1_beside_74 C hr  (in32_of rfl) hf)
    · have hf := ite_n n6 hf
      refine r_iload_n C dX1_beside_67 rfl ?_
      refine r_iconst C dX1_beside_68 ?_
      refine r_iadd C dX1_beside_69 ?_
      refine r_goto C dX1_beside_70 (tgt := 74) (by decide) ?_
      exact G.mask [false, false] rfl rfl (b_X1_beside_74 C hr  (in32_t _) hf)
  refine r_tswd C dX1_beside_1 (tgt := 75) cv1 (by omega) (by decide) ?_
  refine r_iload_n C dX1_beside_75 rfl ?_
  refine r_bipush C dX1_beside_76 rfl ?_
  refine r_iadd C dX1_beside_78 ?_
  refine r_bipush C dX1_beside_79 rfl ?_
  refine r_icmp_ge C dX1_beside_81 (tgt := 91) (by decide) (in32_t _) (in32_of rfl) (fun n7 => ?_) (fun n7 => ?_)
  · have hf := ite_p n7 hf
    refine r_iconst C dX1_beside_91 ?_
    exact G.mask [false, false] rfl rfl (b_X1_beside_92 C hr  (in32_of rfl) hf)
  · have hf := ite_n n7 hf
    refine r_iload_n C dX1_beside_84 rfl ?_
    refine r_bipush C dX1_beside_85 rfl ?_
    refine r_iadd C dX1_beside_87 ?_
    refine r_goto C dX1_beside_88 (tgt := 92) (by decide) ?_
    exact G.mask [false, false] rfl rfl (b_X1_beside_92 C hr  (in32_t _) hf)
set_option maxRecDepth 20000 in
theorem am_X1_beside (l : Launch) (n : Nat) : AM l yX1_beside cX1_beside 2 (some .int) 0 0 [0, 0] 0 (un2 (f_X1_beside n)) := by
  refine AM.intro (by decide) (fun xs hx => ?_) (fun g xs h Z hl C hr hx hf => ?_)
  · obtain ⟨a0, a1, rfl, c0, c1⟩ := canL_2 hx
    exact Nat.le_of_ble_eq_true rfl
  · obtain ⟨a0, a1, rfl, c0, c1⟩ := canL_2 hx
    have hf := (un2_e _ a0 a1 _).symm.trans hf
    exact e_X1_beside (n := n) C hr c0 c1 hf
/-! LinesPromised$Land.areBeside(II)Z -/
theorem dX1_areBeside_0 : decode cX1_areBeside 0 = .ok (.iconst 0, 1) := by decide +kernel
theorem dX1_areBeside_1 : decode cX1_areBeside 1 = .ok (.istore_n 2, 1) := by decide +kernel
theorem dX1_areBeside_2 : decode cX1_areBeside 2 = .ok (.iload_n 2, 1) := by decide +kernel
theorem dX1_areBeside_3 : decode cX1_areBeside 3 = .ok (.iconst 4, 1) := by decide +kernel
theorem dX1_areBeside_4 : decode cX1_areBeside 4 = .ok (.if_icmp .ge 20, 3) := by decide +kernel
theorem dX1_areBeside_7 : decode cX1_areBeside 7 = .ok (.iload_n 0, 1) := by decide +kernel
theorem dX1_areBeside_8 : decode cX1_areBeside 8 = .ok (.iload_n 2, 1) := by decide +kernel
theorem dX1_areBeside_9 : decode cX1_areBeside 9 = .ok (.invokestatic 37, 3) := by decide +kernel
theorem dX1_areBeside_12 : decode cX1_areBeside 12 = .ok (.iload_n 1, 1) := by decide +kernel
theorem dX1_areBeside_13 : decode cX1_areBeside 13 = .ok (.if_icmp .ne 5, 3) := by decide +kernel
theorem dX1_areBeside_16 : decode cX1_areBeside 16 = .ok (.iconst 1, 1) := by decide +kernel
theorem dX1_areBeside_17 : decode cX1_areBeside 17 = .ok (.ireturn, 1) := by decide +kernel
theorem dX1_areBeside_18 : decode cX1_areBeside 18 = .ok (.iinc 2 1, 3) := by decide +kernel
theorem dX1_areBeside_21 : decode cX1_areBeside 21 = .ok (.goto (-19), 3) := by decide +kernel
theorem dX1_areBeside_24 : decode cX1_areBeside 24 = .ok (.iconst 0, 1) := by decide +kernel
theorem dX1_areBeside_25 : decode cX1_areBeside 25 = .ok (.ireturn, 1) := by decide +kernel
theorem cm_X1_areBeside : CMs yX1_areBeside cX1_areBeside 3 (some .boolean) 2 := ⟨w_823, w_824, w_89, ⟨by decide +kernel, by decide +kernel, by decide +kernel⟩⟩
noncomputable def f_X1_areBeside_2b (n : Nat) (rec2 : Int → MM → RR) (v0 v1 v2 : Int) (h : MM) : RR :=
  if 4 ≤ v2 then
    ck (isb 0) <|
    some (0, h)
  else
  bd (f_X1_beside n v0 v2 h) fun r3 h3 =>
  if r3 = v1 then
    ck (isb 1) <|
    some (1, h3)
  else
  lb (wr (v2 + 1)) fun x5 =>
  rec2 x5 h3
noncomputable def f_X1_areBeside_2 (n : Nat)  (v0 v1 : Int) : Nat → Int → MM → RR
  | 0, _, _ => none
  | k + 1, v2, h => f_X1_areBeside_2b n  (f_X1_areBeside_2 n  v0 v1 k) v0 v1 v2 h
noncomputable def f_X1_areBeside (n : Nat) (v0 v1 : Int) (h : MM) : RR :=
  f_X1_areBeside_2 n v0 v1 n 0 h
set_option maxRecDepth 20000 in
theorem b_X1_areBeside_2b {g : GT} {Z : Int × MM} {n : Nat} (C : Cx g cX1_areBeside 3 yX1_areBeside 1 21) (hr : Rt g (some .boolean) 0 Z) {v0 v1 v2 : Int}  {rec2 : Int → MM → RR} (L2 : ∀ (u2 : Int) (h : MM), in32 u2 → rec2 u2 h = some Z → G g 2 [(0, v0), (0, v1), (0, u2)] [] h) (cv0 : in32 v0) (cv1 : in32 v1) (cv2 : in32 v2) {h : MM} (hf : f_X1_areBeside_2b n rec2 v0 v1 v2 h = some Z) : G g 2 [(0, v0), (0, v1), (0, v2)] [] h := by
  unfold f_X1_areBeside_2b at hf
  refine r_iload_n C dX1_areBeside_2 rfl ?_
  refine r_iconst C dX1_areBeside_3 ?_
  refine r_icmp_ge C dX1_areBeside_4 (tgt := 24) (by decide) cv2 (in32_of rfl) (fun n1 => ?_) (fun n1 => ?_)
  · have hf := ite_p n1 hf
    refine r_iconst C dX1_areBeside_24 ?_
    obtain ⟨b2, hf⟩ := ck_s hf
    cases hf
    exact r_zret C hr dX1_areBeside_25 b2
  · have hf := ite_n n1 hf
    refine r_iload_n C dX1_areBeside_7 rfl ?_
    refine r_iload_n C dX1_areBeside_8 rfl ?_
    obtain ⟨r3, h3, hq3, hf⟩ := bd_s hf
    refine r_cS2 C (am_X1_beside (gl g) n) cm_X1_beside w_825 dX1_areBeside_9 ⟨Nat.le_of_ble_eq_true rfl, Nat.le_of_ble_eq_true rfl⟩ cv0 cv2 rfl (Nat.le_of_ble_eq_true rfl) hq3 (by decide) (fun c3 => ?_)
    have c3 : in32 _ := c3
    refine r_iload_n C dX1_areBeside_12 rfl ?_
    refine r_icmp_ne C dX1_areBeside_13 (tgt := 18) (by decide) c3 cv1 (fun n4 => ?_) (fun n4 => ?_)
    · have hf := ite_n n4 hf
      obtain ⟨x5, e5, hf⟩ := lb_s hf
      have c5 : in32 x5 := by rw [e5]; exact (in32_t _)
      refine r_iincL C dX1_areBeside_18 rfl e5 (Nat.le_of_ble_eq_true rfl) rfl ?_
      refine r_goto C dX1_areBeside_21 (tgt := 2) (by decide) ?_
      exact G.mask [true, true, true] rfl rfl (L2 _ _ c5 hf)
    · have hf := ite_p n4 hf
      refine r_iconst C dX1_areBeside_16 ?_
      obtain ⟨b6, hf⟩ := ck_s hf
      cases hf
      exact r_zret C hr dX1_areBeside_17 b6
set_option maxRecDepth 20000 in
theorem l_X1_areBeside_2 {g : GT} {Z : Int × MM} {n : Nat} (C : Cx g cX1_areBeside 3 yX1_areBeside 1 21) (hr : Rt g (some .boolean) 0 Z) {v0 v1 : Int}   (cv0 : in32 v0) (cv1 : in32 v1) : ∀ (k : Nat) (v2 : Int) (h : MM), in32 v2 → f_X1_areBeside_2 n  v0 v1 k v2 h = some Z → G g 2 [(0, v0), (0, v1), (0, v2)] [] h := by
  intro k
  induction k with
  | zero => intro v2 h cv2 hf; exact absurd hf (by intro z; cases z)
  | succ k ih => intro v2 h cv2 hf; exact b_X1_areBeside_2b C hr (rec2 := f_X1_areBeside_2 n  v0 v1 k)  ih cv0 cv1 cv2 (show f_X1_areBeside_2b n  (f_X1_areBeside_2 n  v0 v1 k) v0 v1 v2 h = some Z from hf)
set_option maxRecDepth 20000 in
theorem e_X1_areBeside {g : GT} {Z : Int × MM} {n : Nat} (C : Cx g cX1_areBeside 3 yX1_areBeside 1 21) (hr : Rt g (some .boolean) 0 Z) {v0 v1 : Int} (cv0 : cK 0 v0) (cv1 : cK 0 v1) {h : MM} (hf : f_X1_areBeside n v0 v1 h = some Z) : G g 0 [(0, v0), (0, v1), (3, 0)] [] h := by
  have cv0 : in32 v0 := cv0
  have cv1 : in32 v1 := cv1
  unfold f_X1_areBeside at hf
  refine r_iconst C dX1_areBeside_0 ?_
  refine r_istore_n C dX1_areBeside_1 (Nat.le_of_ble_eq_true rfl) rfl ?_
  exact G.mask [true, true, true] rfl rfl (l_X1_areBeside_2 C hr  cv0 cv1 _ _ _ (in32_of rfl) hf)
set_option maxRecDepth 20000 in
theorem am_X1_areBeside (l : Launch) (n : Nat) : AM l yX1_areBeside cX1_areBeside 3 (some .boolean) 1 21 [0, 0] 0 (un2 (f_X1_areBeside n)) := by
  refine AM.intro (by decide) (fun xs hx => ?_) (fun g xs h Z hl C hr hx hf => ?_)
  · obtain ⟨a0, a1, rfl, c0, c1⟩ := canL_2 hx
    exact Nat.le_of_ble_eq_true rfl
  · obtain ⟨a0, a1, rfl, c0, c1⟩ := canL_2 hx
    have hf := (un2_e _ a0 a1 _).symm.trans hf
    exact e_X1_areBeside (n := n) C hr c0 c1 hf
