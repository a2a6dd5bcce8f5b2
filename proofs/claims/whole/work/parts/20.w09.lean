theorem w_1586 : (Cond.code ⟨"LinesPromisedModel", "ruling", "(II)I"⟩ prog_14_method_26_code 7 (some .int)) ∈ wG := wG_in 1586 (by decide +kernel) (by decide +kernel)
theorem w_1585 : (Cond.instanceMethod ⟨"LinesPromisedModel", "ruling", "(II)I"⟩) ∈ wG := wG_in 1585 (by decide +kernel) (by decide +kernel)
theorem w_53 : (Cond.selects "LinesPromisedModel" ⟨"LinesPromisedModel", "ruling", "(II)I"⟩ ⟨"LinesPromisedModel", "ruling", "(II)I"⟩) ∈ wG := wG_in 53 (by decide +kernel) (by decide +kernel)
theorem w_1583 : (Cond.methodLink "LinesPromisedModel" 148 ⟨"LinesPromisedModel", "ruling", "(II)I"⟩) ∈ wG := wG_in 1583 (by decide +kernel) (by decide +kernel)
theorem w_1582 : (Cond.code ⟨"LinesPromisedModel", "rule", "(II)I"⟩ prog_14_method_27_code 4 (some .int)) ∈ wG := wG_in 1582 (by decide +kernel) (by decide +kernel)
theorem w_1581 : (Cond.instanceMethod ⟨"LinesPromisedModel", "rule", "(II)I"⟩) ∈ wG := wG_in 1581 (by decide +kernel) (by decide +kernel)
theorem w_52 : (Cond.selects "LinesPromisedModel" ⟨"LinesPromisedModel", "rule", "(II)I"⟩ ⟨"LinesPromisedModel", "rule", "(II)I"⟩) ∈ wG := wG_in 52 (by decide +kernel) (by decide +kernel)
theorem w_1579 : (Cond.methodLink "LinesPromisedModel" 152 ⟨"LinesPromisedModel", "rule", "(II)I"⟩) ∈ wG := wG_in 1579 (by decide +kernel) (by decide +kernel)
theorem w_1578 : (Cond.code ⟨"LinesPromisedModel", "force", "(II)I"⟩ prog_14_method_28_code 3 (some .int)) ∈ wG := wG_in 1578 (by decide +kernel) (by decide +kernel)
theorem w_1576 : (Cond.instanceMethod ⟨"LinesPromisedModel", "force", "(II)I"⟩) ∈ wG := wG_in 1576 (by decide +kernel) (by decide +kernel)
theorem w_1577 : (Cond.selects "LinesPromisedModel" ⟨"LinesPromisedModel", "force", "(II)I"⟩ ⟨"LinesPromisedModel", "force", "(II)I"⟩) ∈ wG := wG_in 1577 (by decide +kernel) (by decide +kernel)
theorem w_1590 : (Cond.code ⟨"LinesPromisedModel", "why", "(II)I"⟩ prog_14_method_29_code 4 (some .int)) ∈ wG := wG_in 1590 (by decide +kernel) (by decide +kernel)
theorem w_1588 : (Cond.instanceMethod ⟨"LinesPromisedModel", "why", "(II)I"⟩) ∈ wG := wG_in 1588 (by decide +kernel) (by decide +kernel)
theorem w_1589 : (Cond.selects "LinesPromisedModel" ⟨"LinesPromisedModel", "why", "(II)I"⟩ ⟨"LinesPromisedModel", "why", "(II)I"⟩) ∈ wG := wG_in 1589 (by decide +kernel) (by decide +kernel)
theorem w_1598 : (Cond.code ⟨"LinesPromisedModel", "isTown", "(I)Z"⟩ prog_14_method_5_code 2 (some .boolean)) ∈ wG := wG_in 1598 (by decide +kernel) (by decide +kernel)
theorem w_1597 : (Cond.instanceMethod ⟨"LinesPromisedModel", "isTown", "(I)Z"⟩) ∈ wG := wG_in 1597 (by decide +kernel) (by decide +kernel)
theorem w_54 : (Cond.selects "LinesPromisedModel" ⟨"LinesPromisedModel", "isTown", "(I)Z"⟩ ⟨"LinesPromisedModel", "isTown", "(I)Z"⟩) ∈ wG := wG_in 54 (by decide +kernel) (by decide +kernel)
theorem w_1602 : (Cond.code ⟨"LinesPromisedModel", "paper", "(IIIIII)I"⟩ prog_14_method_30_code 8 (some .int)) ∈ wG := wG_in 1602 (by decide +kernel) (by decide +kernel)
theorem w_1601 : (Cond.instanceMethod ⟨"LinesPromisedModel", "paper", "(IIIIII)I"⟩) ∈ wG := wG_in 1601 (by decide +kernel) (by decide +kernel)
theorem w_55 : (Cond.selects "LinesPromisedModel" ⟨"LinesPromisedModel", "paper", "(IIIIII)I"⟩ ⟨"LinesPromisedModel", "paper", "(IIIIII)I"⟩) ∈ wG := wG_in 55 (by decide +kernel) (by decide +kernel)
theorem w_1595 : (Cond.methodLink "LinesPromisedModel" 155 ⟨"LinesPromisedModel", "isTown", "(I)Z"⟩) ∈ wG := wG_in 1595 (by decide +kernel) (by decide +kernel)
theorem w_1599 : (Cond.methodLink "LinesPromisedModel" 158 ⟨"LinesPromisedModel", "paper", "(IIIIII)I"⟩) ∈ wG := wG_in 1599 (by decide +kernel) (by decide +kernel)
theorem w_1594 : (Cond.code ⟨"LinesPromisedModel", "scheme", "(IIII)I"⟩ prog_14_method_31_code 8 (some .int)) ∈ wG := wG_in 1594 (by decide +kernel) (by decide +kernel)
theorem w_1592 : (Cond.instanceMethod ⟨"LinesPromisedModel", "scheme", "(IIII)I"⟩) ∈ wG := wG_in 1592 (by decide +kernel) (by decide +kernel)
theorem w_1593 : (Cond.selects "LinesPromisedModel" ⟨"LinesPromisedModel", "scheme", "(IIII)I"⟩ ⟨"LinesPromisedModel", "scheme", "(IIII)I"⟩) ∈ wG := wG_in 1593 (by decide +kernel) (by decide +kernel)
theorem w_1614 : (Cond.code ⟨"LinesPromisedModel", "isPaper", "(I)Z"⟩ prog_14_method_8_code 2 (some .boolean)) ∈ wG := wG_in 1614 (by decide +kernel) (by decide +kernel)
theorem w_1613 : (Cond.instanceMethod ⟨"LinesPromisedModel", "isPaper", "(I)Z"⟩) ∈ wG := wG_in 1613 (by decide +kernel) (by decide +kernel)
theorem w_57 : (Cond.selects "LinesPromisedModel" ⟨"LinesPromisedModel", "isPaper", "(I)Z"⟩ ⟨"LinesPromisedModel", "isPaper", "(I)Z"⟩) ∈ wG := wG_in 57 (by decide +kernel) (by decide +kernel)
theorem w_1611 : (Cond.methodLink "LinesPromisedModel" 62 ⟨"LinesPromisedModel", "isPaper", "(I)Z"⟩) ∈ wG := wG_in 1611 (by decide +kernel) (by decide +kernel)
theorem w_1610 : (Cond.code ⟨"LinesPromisedModel", "isOf", "(II)Z"⟩ prog_14_method_9_code 3 (some .boolean)) ∈ wG := wG_in 1610 (by decide +kernel) (by decide +kernel)
theorem w_1609 : (Cond.instanceMethod ⟨"LinesPromisedModel", "isOf", "(II)Z"⟩) ∈ wG := wG_in 1609 (by decide +kernel) (by decide +kernel)
theorem w_56 : (Cond.selects "LinesPromisedModel" ⟨"LinesPromisedModel", "isOf", "(II)Z"⟩ ⟨"LinesPromisedModel", "isOf", "(II)Z"⟩) ∈ wG := wG_in 56 (by decide +kernel) (by decide +kernel)
theorem w_1617 : (Cond.code ⟨"LinesPromisedModel", "isSheet", "(I)Z"⟩ prog_14_method_34_code 1 (some .boolean)) ∈ wG := wG_in 1617 (by decide +kernel) (by decide +kernel)
theorem w_1616 : (Cond.static ⟨"LinesPromisedModel", "isSheet", "(I)Z"⟩) ∈ wG := wG_in 1616 (by decide +kernel) (by decide +kernel)
theorem w_1620 : (Cond.code ⟨"LinesPromisedModel", "isBeside", "(II)Z"⟩ prog_14_method_33_code 4 (some .boolean)) ∈ wG := wG_in 1620 (by decide +kernel) (by decide +kernel)
theorem w_1619 : (Cond.static ⟨"LinesPromisedModel", "isBeside", "(II)Z"⟩) ∈ wG := wG_in 1619 (by decide +kernel) (by decide +kernel)
theorem w_1628 : (Cond.code ⟨"LinesPromisedModel", "placeIn", "(II)I"⟩ prog_14_method_36_code 4 (some .int)) ∈ wG := wG_in 1628 (by decide +kernel) (by decide +kernel)
theorem w_1627 : (Cond.instanceMethod ⟨"LinesPromisedModel", "placeIn", "(II)I"⟩) ∈ wG := wG_in 1627 (by decide +kernel) (by decide +kernel)
theorem w_59 : (Cond.selects "LinesPromisedModel" ⟨"LinesPromisedModel", "placeIn", "(II)I"⟩ ⟨"LinesPromisedModel", "placeIn", "(II)I"⟩) ∈ wG := wG_in 59 (by decide +kernel) (by decide +kernel)
theorem w_1625 : (Cond.methodLink "LinesPromisedModel" 162 ⟨"LinesPromisedModel", "placeIn", "(II)I"⟩) ∈ wG := wG_in 1625 (by decide +kernel) (by decide +kernel)
theorem w_1624 : (Cond.code ⟨"LinesPromisedModel", "isInWay", "(II)Z"⟩ prog_14_method_35_code 3 (some .boolean)) ∈ wG := wG_in 1624 (by decide +kernel) (by decide +kernel)
theorem w_1623 : (Cond.instanceMethod ⟨"LinesPromisedModel", "isInWay", "(II)Z"⟩) ∈ wG := wG_in 1623 (by decide +kernel) (by decide +kernel)
theorem w_58 : (Cond.selects "LinesPromisedModel" ⟨"LinesPromisedModel", "isInWay", "(II)Z"⟩ ⟨"LinesPromisedModel", "isInWay", "(II)Z"⟩) ∈ wG := wG_in 58 (by decide +kernel) (by decide +kernel)
theorem w_1633 : (Cond.constant "LinesPromisedModel" 181 (i32 (-1000000))) ∈ wG := wG_in 1633 (by decide +kernel) (by decide +kernel)
theorem w_1634 : (Cond.constant "LinesPromisedModel" 182 (i32 1000000)) ∈ wG := wG_in 1634 (by decide +kernel) (by decide +kernel)
theorem w_1632 : (Cond.code ⟨"LinesPromisedModel", "levelOf", "(III)I"⟩ prog_14_method_38_code 8 (some .int)) ∈ wG := wG_in 1632 (by decide +kernel) (by decide +kernel)
theorem w_1631 : (Cond.instanceMethod ⟨"LinesPromisedModel", "levelOf", "(III)I"⟩) ∈ wG := wG_in 1631 (by decide +kernel) (by decide +kernel)
theorem w_60 : (Cond.selects "LinesPromisedModel" ⟨"LinesPromisedModel", "levelOf", "(III)I"⟩ ⟨"LinesPromisedModel", "levelOf", "(III)I"⟩) ∈ wG := wG_in 60 (by decide +kernel) (by decide +kernel)
theorem w_1629 : (Cond.methodLink "LinesPromisedModel" 177 ⟨"LinesPromisedModel", "levelOf", "(III)I"⟩) ∈ wG := wG_in 1629 (by decide +kernel) (by decide +kernel)
theorem w_1618 : (Cond.methodLink "LinesPromisedModel" 171 ⟨"LinesPromisedModel", "isBeside", "(II)Z"⟩) ∈ wG := wG_in 1618 (by decide +kernel) (by decide +kernel)
theorem w_1621 : (Cond.methodLink "LinesPromisedModel" 174 ⟨"LinesPromisedModel", "isInWay", "(II)Z"⟩) ∈ wG := wG_in 1621 (by decide +kernel) (by decide +kernel)
theorem w_1607 : (Cond.methodLink "LinesPromisedModel" 165 ⟨"LinesPromisedModel", "isOf", "(II)Z"⟩) ∈ wG := wG_in 1607 (by decide +kernel) (by decide +kernel)
theorem w_1615 : (Cond.methodLink "LinesPromisedModel" 168 ⟨"LinesPromisedModel", "isSheet", "(I)Z"⟩) ∈ wG := wG_in 1615 (by decide +kernel) (by decide +kernel)
theorem w_1606 : (Cond.code ⟨"LinesPromisedModel", "chain", "(III)I"⟩ prog_14_method_37_code 11 (some .int)) ∈ wG := wG_in 1606 (by decide +kernel) (by decide +kernel)
theorem w_1604 : (Cond.instanceMethod ⟨"LinesPromisedModel", "chain", "(III)I"⟩) ∈ wG := wG_in 1604 (by decide +kernel) (by decide +kernel)
theorem w_1605 : (Cond.selects "LinesPromisedModel" ⟨"LinesPromisedModel", "chain", "(III)I"⟩ ⟨"LinesPromisedModel", "chain", "(III)I"⟩) ∈ wG := wG_in 1605 (by decide +kernel) (by decide +kernel)
theorem w_1649 : (Cond.code ⟨"LinesPromisedModel", "size", "(I)I"⟩ prog_14_method_39_code 1 (some .int)) ∈ wG := wG_in 1649 (by decide +kernel) (by decide +kernel)
theorem w_1648 : (Cond.static ⟨"LinesPromisedModel", "size", "(I)I"⟩) ∈ wG := wG_in 1648 (by decide +kernel) (by decide +kernel)
theorem w_1647 : (Cond.methodLink "LinesPromisedModel" 183 ⟨"LinesPromisedModel", "size", "(I)I"⟩) ∈ wG := wG_in 1647 (by decide +kernel) (by decide +kernel)
theorem w_1646 : (Cond.code ⟨"LinesPromisedModel", "step", "(II)I"⟩ prog_14_method_40_code 3 (some .int)) ∈ wG := wG_in 1646 (by decide +kernel) (by decide +kernel)
theorem w_1645 : (Cond.instanceMethod ⟨"LinesPromisedModel", "step", "(II)I"⟩) ∈ wG := wG_in 1645 (by decide +kernel) (by decide +kernel)
theorem w_62 : (Cond.selects "LinesPromisedModel" ⟨"LinesPromisedModel", "step", "(II)I"⟩ ⟨"LinesPromisedModel", "step", "(II)I"⟩) ∈ wG := wG_in 62 (by decide +kernel) (by decide +kernel)
theorem w_1643 : (Cond.methodLink "LinesPromisedModel" 187 ⟨"LinesPromisedModel", "step", "(II)I"⟩) ∈ wG := wG_in 1643 (by decide +kernel) (by decide +kernel)
theorem w_1642 : (Cond.code ⟨"LinesPromisedModel", "yardsOf", "(I)I"⟩ prog_14_method_41_code 4 (some .int)) ∈ wG := wG_in 1642 (by decide +kernel) (by decide +kernel)
theorem w_1641 : (Cond.instanceMethod ⟨"LinesPromisedModel", "yardsOf", "(I)I"⟩) ∈ wG := wG_in 1641 (by decide +kernel) (by decide +kernel)
theorem w_61 : (Cond.selects "LinesPromisedModel" ⟨"LinesPromisedModel", "yardsOf", "(I)I"⟩ ⟨"LinesPromisedModel", "yardsOf", "(I)I"⟩) ∈ wG := wG_in 61 (by decide +kernel) (by decide +kernel)
/-! LinesPromisedModel.ruling(II)I -/
theorem dX12_ruling_0 : decode cX12_ruling 0 = .ok (.iconst (-1), 1) := by decide +kernel
theorem dX12_ruling_1 : decode cX12_ruling 1 = .ok (.istore_n 3, 1) := by decide +kernel
theorem dX12_ruling_2 : decode cX12_ruling 2 = .ok (.iconst 0, 1) := by decide +kernel
theorem dX12_ruling_3 : decode cX12_ruling 3 = .ok (.istore 4, 2) := by decide +kernel
theorem dX12_ruling_5 : decode cX12_ruling 5 = .ok (.iload 4, 2) := by decide +kernel
theorem dX12_ruling_7 : decode cX12_ruling 7 = .ok (.aload_n 0, 1) := by decide +kernel
theorem dX12_ruling_8 : decode cX12_ruling 8 = .ok (.getfield 8, 3) := by decide +kernel
theorem dX12_ruling_11 : decode cX12_ruling 11 = .ok (.iconst 3, 1) := by decide +kernel
theorem dX12_ruling_12 : decode cX12_ruling 12 = .ok (.iaload, 1) := by decide +kernel
theorem dX12_ruling_13 : decode cX12_ruling 13 = .ok (.if_icmp .ge 127, 3) := by decide +kernel
theorem dX12_ruling_16 : decode cX12_ruling 16 = .ok (.iconst 0, 1) := by decide +kernel
theorem dX12_ruling_17 : decode cX12_ruling 17 = .ok (.istore 5, 2) := by decide +kernel
theorem dX12_ruling_19 : decode cX12_ruling 19 = .ok (.iload 5, 2) := by decide +kernel
theorem dX12_ruling_21 : decode cX12_ruling 21 = .ok (.aload_n 0, 1) := by decide +kernel
theorem dX12_ruling_22 : decode cX12_ruling 22 = .ok (.getfield 8, 3) := by decide +kernel
theorem dX12_ruling_25 : decode cX12_ruling 25 = .ok (.sipush 10900, 3) := by decide +kernel
theorem dX12_ruling_28 : decode cX12_ruling 28 = .ok (.iload 4, 2) := by decide +kernel
theorem dX12_ruling_30 : decode cX12_ruling 30 = .ok (.iadd, 1) := by decide +kernel
theorem dX12_ruling_31 : decode cX12_ruling 31 = .ok (.iaload, 1) := by decide +kernel
theorem dX12_ruling_32 : decode cX12_ruling 32 = .ok (.if_icmp .ge 102, 3) := by decide +kernel
theorem dX12_ruling_35 : decode cX12_ruling 35 = .ok (.aload_n 0, 1) := by decide +kernel
theorem dX12_ruling_36 : decode cX12_ruling 36 = .ok (.getfield 8, 3) := by decide +kernel
theorem dX12_ruling_39 : decode cX12_ruling 39 = .ok (.sipush 9620, 3) := by decide +kernel
theorem dX12_ruling_42 : decode cX12_ruling 42 = .ok (.iload 4, 2) := by decide +kernel
theorem dX12_ruling_44 : decode cX12_ruling 44 = .ok (.iadd, 1) := by decide +kernel
theorem dX12_ruling_45 : decode cX12_ruling 45 = .ok (.iaload, 1) := by decide +kernel
theorem dX12_ruling_46 : decode cX12_ruling 46 = .ok (.iload_n 2, 1) := by decide +kernel
theorem dX12_ruling_47 : decode cX12_ruling 47 = .ok (.if_icmp .gt 87, 3) := by decide +kernel
theorem dX12_ruling_50 : decode cX12_ruling 50 = .ok (.aload_n 0, 1) := by decide +kernel
theorem dX12_ruling_51 : decode cX12_ruling 51 = .ok (.getfield 8, 3) := by decide +kernel
theorem dX12_ruling_54 : decode cX12_ruling 54 = .ok (.sipush 10910, 3) := by decide +kernel
theorem dX12_ruling_57 : decode cX12_ruling 57 = .ok (.bipush 8, 2) := by decide +kernel
theorem dX12_ruling_59 : decode cX12_ruling 59 = .ok (.iload 4, 2) := by decide +kernel
theorem dX12_ruling_61 : decode cX12_ruling 61 = .ok (.imul, 1) := by decide +kernel
theorem dX12_ruling_62 : decode cX12_ruling 62 = .ok (.iadd, 1) := by decide +kernel
theorem dX12_ruling_63 : decode cX12_ruling 63 = .ok (.iload 5, 2) := by decide +kernel
theorem dX12_ruling_65 : decode cX12_ruling 65 = .ok (.iadd, 1) := by decide +kernel
theorem dX12_ruling_66 : decode cX12_ruling 66 = .ok (.iaload, 1) := by decide +kernel
theorem dX12_ruling_67 : decode cX12_ruling 67 = .ok (.iload_n 1, 1) := by decide +kernel
theorem dX12_ruling_68 : decode cX12_ruling 68 = .ok (.if_icmp .ne 39, 3) := by decide +kernel
theorem dX12_ruling_71 : decode cX12_ruling 71 = .ok (.iload_n 3, 1) := by decide +kernel
theorem dX12_ruling_72 : decode cX12_ruling 72 = .ok (.iconst (-1), 1) := by decide +kernel
theorem dX12_ruling_73 : decode cX12_ruling 73 = .ok (.if_icmp .eq 30, 3) := by decide +kernel
theorem dX12_ruling_76 : decode cX12_ruling 76 = .ok (.aload_n 0, 1) := by decide +kernel
theorem dX12_ruling_77 : decode cX12_ruling 77 = .ok (.getfield 8, 3) := by decide +kernel
theorem dX12_ruling_80 : decode cX12_ruling 80 = .ok (.sipush 9620, 3) := by decide +kernel
theorem dX12_ruling_83 : decode cX12_ruling 83 = .ok (.iload 4, 2) := by decide +kernel
theorem dX12_ruling_85 : decode cX12_ruling 85 = .ok (.iadd, 1) := by decide +kernel
theorem dX12_ruling_86 : decode cX12_ruling 86 = .ok (.iaload, 1) := by decide +kernel
theorem dX12_ruling_87 : decode cX12_ruling 87 = .ok (.aload_n 0, 1) := by decide +kernel
theorem dX12_ruling_88 : decode cX12_ruling 88 = .ok (.getfield 8, 3) := by decide +kernel
theorem dX12_ruling_91 : decode cX12_ruling 91 = .ok (.sipush 9620, 3) := by decide +kernel
theorem dX12_ruling_94 : decode cX12_ruling 94 = .ok (.iload_n 3, 1) := by decide +kernel
theorem dX12_ruling_95 : decode cX12_ruling 95 = .ok (.bipush 8, 2) := by decide +kernel
theorem dX12_ruling_97 : decode cX12_ruling 97 = .ok (.idiv, 1) := by decide +kernel
theorem dX12_ruling_98 : decode cX12_ruling 98 = .ok (.iadd, 1) := by decide +kernel
theorem dX12_ruling_99 : decode cX12_ruling 99 = .ok (.iaload, 1) := by decide +kernel
theorem dX12_ruling_100 : decode cX12_ruling 100 = .ok (.if_icmp .lt 7, 3) := by decide +kernel
theorem dX12_ruling_103 : decode cX12_ruling 103 = .ok (.iconst 1, 1) := by decide +kernel
theorem dX12_ruling_104 : decode cX12_ruling 104 = .ok (.goto 4, 3) := by decide +kernel
theorem dX12_ruling_107 : decode cX12_ruling 107 = .ok (.iconst 0, 1) := by decide +kernel
theorem dX12_ruling_108 : decode cX12_ruling 108 = .ok (.istore 6, 2) := by decide +kernel
theorem dX12_ruling_110 : decode cX12_ruling 110 = .ok (.iload 6, 2) := by decide +kernel
theorem dX12_ruling_112 : decode cX12_ruling 112 = .ok (.ifCond .eq 14, 3) := by decide +kernel
theorem dX12_ruling_115 : decode cX12_ruling 115 = .ok (.bipush 8, 2) := by decide +kernel
theorem dX12_ruling_117 : decode cX12_ruling 117 = .ok (.iload 4, 2) := by decide +kernel
theorem dX12_ruling_119 : decode cX12_ruling 119 = .ok (.imul, 1) := by decide +kernel
theorem dX12_ruling_120 : decode cX12_ruling 120 = .ok (.iload 5, 2) := by decide +kernel
theorem dX12_ruling_122 : decode cX12_ruling 122 = .ok (.iadd, 1) := by decide +kernel
theorem dX12_ruling_123 : decode cX12_ruling 123 = .ok (.goto 4, 3) := by decide +kernel
theorem dX12_ruling_126 : decode cX12_ruling 126 = .ok (.iload_n 3, 1) := by decide +kernel
theorem dX12_ruling_127 : decode cX12_ruling 127 = .ok (.istore_n 3, 1) := by decide +kernel
theorem dX12_ruling_128 : decode cX12_ruling 128 = .ok (.iinc 5 1, 3) := by decide +kernel
theorem dX12_ruling_131 : decode cX12_ruling 131 = .ok (.goto (-112), 3) := by decide +kernel
theorem dX12_ruling_134 : decode cX12_ruling 134 = .ok (.iinc 4 1, 3) := by decide +kernel
theorem dX12_ruling_137 : decode cX12_ruling 137 = .ok (.goto (-132), 3) := by decide +kernel
theorem dX12_ruling_140 : decode cX12_ruling 140 = .ok (.iload_n 3, 1) := by decide +kernel
theorem dX12_ruling_141 : decode cX12_ruling 141 = .ok (.ireturn, 1) := by decide +kernel
theorem cm_X12_ruling : CM yX12_ruling cX12_ruling 7 (some .int) 2 12 := ⟨w_1585, w_53, w_1586, w_97, ⟨by decide +kernel, by decide +kernel, by decide +kernel⟩, ⟨_, _, rfl⟩, by decide⟩
noncomputable def f_X12_ruling_134 (n : Nat) (rec5 : Int → Int → MM → RR) (v0 v1 v2 v3 v4 : Int) (h : MM) : RR :=
  lb (wr (v4 + 1)) fun x1 =>
  rec5 v3 x1 h
noncomputable def f_X12_ruling_127 (n : Nat) (rec5 : Int → Int → MM → RR) (rec19 : Int → Int → MM → RR) (v0 v1 v2 v4 v5 s0 : Int) (h : MM) : RR :=
  lb (wr (v5 + 1)) fun x1 =>
  rec19 s0 x1 h
noncomputable def f_X12_ruling_108 (n : Nat) (rec5 : Int → Int → MM → RR) (rec19 : Int → Int → MM → RR) (v0 v1 v2 v3 v4 v5 s0 : Int) (h : MM) : RR :=
  if s0 = 0 then
    f_X12_ruling_127 n rec5 rec19 v0 v1 v2 v4 v5 v3 h
  else
  f_X12_ruling_127 n rec5 rec19 v0 v1 v2 v4 v5 (wr ((wr (8 * v4)) + v5)) h
noncomputable def f_X12_ruling_107 (n : Nat) (rec5 : Int → Int → MM → RR) (rec19 : Int → Int → MM → RR) (v0 v1 v2 v3 v4 v5 : Int) (h : MM) : RR :=
  f_X12_ruling_108 n rec5 rec19 v0 v1 v2 v3 v4 v5 0 h
noncomputable def f_X12_ruling_103 (n : Nat) (rec5 : Int → Int → MM → RR) (rec19 : Int → Int → MM → RR) (v0 v1 v2 v3 v4 v5 : Int) (h : MM) : RR :=
  f_X12_ruling_108 n rec5 rec19 v0 v1 v2 v3 v4 v5 1 h
noncomputable def f_X12_ruling_19b (n : Nat) (rec5 : Int → Int → MM → RR) (rec19 : Int → Int → MM → RR) (v0 v1 v2 v3 v4 v5 : Int) (h : MM) : RR :=
  gf h v0 12 1 fun r1 =>
  rd h r1 100 (wr (10900 + v4)) fun r2 =>
  if r2 ≤ v5 then
    f_X12_ruling_134 n rec5 v0 v1 v2 v3 v4 h
  else
  gf h v0 12 1 fun r4 =>
  rd h r4 100 (wr (9620 + v4)) fun r5 =>
  if v2 < r5 then
    f_X12_ruling_134 n rec5 v0 v1 v2 v3 v4 h
  else
  gf h v0 12 1 fun r7 =>
  rd h r7 100 (wr ((wr (10910 + (wr (8 * v4)))) + v5)) fun r8 =>
  if r8 = v1 then
    if v3 = (-1) then
      f_X12_ruling_103 n rec5 rec19 v0 v1 v2 v3 v4 v5 h
    else
    gf h v0 12 1 fun r11 =>
    rd h r11 100 (wr (9620 + v4)) fun r12 =>
    gf h v0 12 1 fun r13 =>
    rd h r13 100 (wr (9620 + (idv v3 8))) fun r14 =>
    if r12 < r14 then
      f_X12_ruling_107 n rec5 rec19 v0 v1 v2 v3 v4 v5 h
    else
    f_X12_ruling_103 n rec5 rec19 v0 v1 v2 v3 v4 v5 h
  else
  f_X12_ruling_107 n rec5 rec19 v0 v1 v2 v3 v4 v5 h
noncomputable def f_X12_ruling_19 (n : Nat) (rec5 : Int → Int → MM → RR) (v0 v1 v2 v4 : Int) : Nat → Int → Int → MM → RR
  | 0, _, _, _ => none
  | k + 1, v3, v5, h => f_X12_ruling_19b n rec5 (f_X12_ruling_19 n rec5 v0 v1 v2 v4 k) v0 v1 v2 v3 v4 v5 h
noncomputable def f_X12_ruling_5b (n : Nat) (rec5 : Int → Int → MM → RR) (v0 v1 v2 v3 v4 : Int) (h : MM) : RR :=
  gf h v0 12 1 fun r1 =>
  rd h r1 100 3 fun r2 =>
  if r2 ≤ v4 then
    some (v3, h)
  else
  f_X12_ruling_19 n rec5 v0 v1 v2 v4 n v3 0 h
noncomputable def f_X12_ruling_5 (n : Nat)  (v0 v1 v2 : Int) : Nat → Int → Int → MM → RR
  | 0, _, _, _ => none
  | k + 1, v3, v4, h => f_X12_ruling_5b n  (f_X12_ruling_5 n  v0 v1 v2 k) v0 v1 v2 v3 v4 h
noncomputable def f_X12_ruling (n : Nat) (v0 v1 v2 : Int) (h : MM) : RR :=
  f_X12_ruling_5 n v0 v1 v2 n ((-1)) 0 h
set_option maxRecDepth 20000 in
theorem b_X12_ruling_134 {g : GT} {Z : Int × MM} {n : Nat} (C : Cx g cX12_ruling 7 yX12_ruling 0 0) (hr : Rt g (some .int) 0 Z) {v0 v1 v2 v3 v4 : Int}  {rec5 : Int → Int → MM → RR} (L5 : ∀ (u3 u4 : Int) (h : MM), in32 u3 → in32 u4 → rec5 u3 u4 h = some Z → G g 5 [(2, v0), (0, v1), (0, v2), (0, u3), (0, u4), (3, 0), (3, 0)] [] h) (cv1 : in32 v1) (cv2 : in32 v2) (cv3 : in32 v3) (cv4 : in32 v4) {h : MM} (hf : f_X12_ruling_134 n rec5 v0 v1 v2 v3 v4 h = some Z) : G g 134 [(2, v0), (0, v1), (0, v2), (0, v3), (0, v4), (3, 0), (3, 0)] [] h := by
  unfold f_X12_ruling_134 at hf
  obtain ⟨x1, e1, hf⟩ := lb_s hf
  have c1 : in32 x1 := by rw [e1]; exact (in32_t _)
  refine r_iincL C dX12_ruling_134 rfl e1 (Nat.le_of_ble_eq_true rfl) rfl ?_
  refine r_goto C dX12_ruling_137 (tgt := 5) (by decide) ?_
  exact G.mask [true, true, true, true, true, false, false] rfl rfl (L5 _ _ _ cv3 c1 hf)
set_option maxRecDepth 20000 in
theorem b_X12_ruling_127 {g : GT} {Z : Int × MM} {n : Nat} (C : Cx g cX12_ruling 7 yX12_ruling 0 0) (hr : Rt g (some .int) 0 Z) {v0 v1 v2 v4 v5 s0 : Int}  {rec5 : Int → Int → MM → RR} {rec19 : Int → Int → MM → RR} (L5 : ∀ (u3 u4 : Int) (h : MM), in32 u3 → in32 u4 → rec5 u3 u4 h = some Z → G g 5 [(2, v0), (0, v1), (0, v2), (0, u3), (0, u4), (3, 0), (3, 0)] [] h) (L19 : ∀ (u3 u5 : Int) (h : MM), in32 u3 → in32 u5 → rec19 u3 u5 h = some Z → G g 19 [(2, v0), (0, v1), (0, v2), (0, u3), (0, v4), (0, u5), (3, 0)] [] h) (cv1 : in32 v1) (cv2 : in32 v2) (cv4 : in32 v4) (cv5 : in32 v5) (cs0 : in32 s0) {h : MM} (hf : f_X12_ruling_127 n rec5 rec19 v0 v1 v2 v4 v5 s0 h = some Z) : G g 127 [(2, v0), (0, v1), (0, v2), (3, 0), (0, v4), (0, v5), (3, 0)] [(0, s0)] h := by
  unfold f_X12_ruling_127 at hf
  refine r_istore_n C dX12_ruling_127 (Nat.le_of_ble_eq_true rfl) rfl ?_
  obtain ⟨x1, e1, hf⟩ := lb_s hf
  have c1 : in32 x1 := by rw [e1]; exact (in32_t _)
  refine r_iincL C dX12_ruling_128 rfl e1 (Nat.le_of_ble_eq_true rfl) rfl ?_
  refine r_goto C dX12_ruling_131 (tgt := 19) (by decide) ?_
  exact G.mask [true, true, true, true, true, true, false] rfl rfl (L19 _ _ _ cs0 c1 hf)
set_option maxRecDepth 20000 in
theorem b_X12_ruling_108 {g : GT} {Z : Int × MM} {n : Nat} (C : Cx g cX12_ruling 7 yX12_ruling 0 0) (hr : Rt g (some .int) 0 Z) {v0 v1 v2 v3 v4 v5 s0 : Int}  {rec5 : Int → Int → MM → RR} {rec19 : Int → Int → MM → RR} (L5 : ∀ (u3 u4 : Int) (h : MM), in32 u3 → in32 u4 → rec5 u3 u4 h = some Z → G g 5 [(2, v0), (0, v1), (0, v2), (0, u3), (0, u4), (3, 0), (3, 0)] [] h) (L19 : ∀ (u3 u5 : Int) (h : MM), in32 u3 → in32 u5 → rec19 u3 u5 h = some Z → G g 19 [(2, v0), (0, v1), (0, v2), (0, u3), (0, v4), (0, u5), (3, 0)] [] h) (cv1 : in32 v1) (cv2 : in32 v2) (cv3 : in32 v3) (cv4 : in32 v4) (cv5 : in32 v5) (cs0 : in32 s0) {h : MM} (hf : f_X12_ruling_108 n rec5 rec19 v0 v1 v2 v3 v4 v5 s0 h = some Z) : G g 108 [(2, v0), (0, v1), (0, v2), (0, v3), (0, v4), (0, v5), (3, 0)] [(0, s0)] h := by
  unfold f_X12_ruling_108 at hf
  refine r_istore C dX12_ruling_108 (Nat.le_of_ble_eq_true rfl) rfl ?_
  refine r_iload C dX12_ruling_110 rfl ?_
  refine r_if_eq C dX12_ruling_112 (tgt := 126) (by decide) cs0 (fun n1 => ?_) (fun n1 => ?_)
  · have hf := ite_p n1 hf
    refine r_iload_n C dX12_ruling_126 rfl ?_
    exact G.mask [true, true, true, false, true, true, false] rfl rfl (b_X12_ruling_127 C hr L5 L19 cv1 cv2 cv4 cv5 cv3 hf)
  · have hf := ite_n n1 hf
    refine r_bipush C dX12_ruling_115 rfl ?_
    refine r_iload C dX12_ruling_117 rfl ?_
    refine r_imul C dX12_ruling_119 ?_
    refine r_iload C dX12_ruling_120 rfl ?_
    refine r_iadd C dX12_ruling_122 ?_
    refine r_goto C dX12_ruling_123 (tgt := 127) (by decide) ?_
    exact G.mask [true, true, true, false, true, true, false] rfl rfl (b_X12_ruling_127 C hr L5 L19 cv1 cv2 cv4 cv5 (in32_t _) hf)
set_option maxRecDepth 20000 in
theorem b_X12_ruling_107 {g : GT} {Z : Int × MM} {n : Nat} (C : Cx g cX12_ruling 7 yX12_ruling 0 0) (hr : Rt g (some .int) 0 Z) {v0 v1 v2 v3 v4 v5 : Int}  {rec5 : Int → Int → MM → RR} {rec19 : Int → Int → MM → RR} (L5 : ∀ (u3 u4 : Int) (h : MM), in32 u3 → in32 u4 → rec5 u3 u4 h = some Z → G g 5 [(2, v0), (0, v1), (0, v2), (0, u3), (0, u4), (3, 0), (3, 0)] [] h) (L19 : ∀ (u3 u5 : Int) (h : MM), in32 u3 → in32 u5 → rec19 u3 u5 h = some Z → G g 19 [(2, v0), (0, v1), (0, v2), (0, u3), (0, v4), (0, u5), (3, 0)] [] h) (cv1 : in32 v1) (cv2 : in32 v2) (cv3 : in32 v3) (cv4 : in32 v4) (cv5 : in32 v5) {h : MM} (hf : f_X12_ruling_107 n rec5 rec19 v0 v1 v2 v3 v4 v5 h = some Z) : G g 107 [(2, v0), (0, v1), (0, v2), (0, v3), (0, v4), (0, v5), (3, 0)] [] h := by
  unfold f_X12_ruling_107 at hf
  refine r_iconst C dX12_ruling_107 ?_
  exact G.mask [true, true, true, true, true, true, false] rfl rfl (b_X12_ruling_108 C hr L5 L19 cv1 cv2 cv3 cv4 cv5 (in32_of rfl) hf)
set_option maxRecDepth 20000 in
theorem b_X12_ruling_103 {g : GT} {Z : Int × MM} {n : Nat} (C : Cx g cX12_ruling 7 yX12_ruling 0 0) (hr : Rt g (some .int) 0 Z) {v0 v1 v2 v3 v4 v5 : Int}  {rec5 : Int → Int → MM → RR} {rec19 : Int → Int → MM → RR} (L5 : ∀ (u3 u4 : Int) (h : MM), in32 u3 → in32 u4 → rec5 u3 u4 h = some Z → G g 5 [(2, v0), (0, v1), (0, v2), (0, u3), (0, u4), (3, 0), (3, 0)] [] h) (L19 : ∀ (u3 u5 : Int) (h : MM), in32 u3 → in32 u5 → rec19 u3 u5 h = some Z → G g 19 [(2, v0), (0, v1), (0, v2), (0, u3), (0, v4), (0, u5), (3, 0)] [] h) (cv1 : in32 v1) (cv2 : in32 v2) (cv3 : in32 v3) (cv4 : in32 v4) (cv5 : in32 v5) {h : MM} (hf : f_X12_ruling_103 n rec5 rec19 v0 v1 v2 v3 v4 v5 h = some Z) : G g 103 [(2, v0), (0, v1), (0, v2), (0, v3), (0, v4), (0, v5), (3, 0)] [] h := by
  unfold f_X12_ruling_103 at hf
  refine r_iconst C dX12_ruling_103 ?_
  refine r_goto C dX12_ruling_104 (tgt := 108) (by decide) ?_
  exact G.mask [true, true, true, true, true, true, false] rfl rfl (b_X12_ruling_108 C hr L5 L19 cv1 cv2 cv3 cv4 cv5 (in32_of rfl) hf)
set_option maxRecDepth 20000 in
theorem b_X12_ruling_19b {g : GT} {Z : Int × MM} {n : Nat} (C : Cx g cX12_ruling 7 yX12_ruling 0 0) (hr : Rt g (some .int) 0 Z) {v0 v1 v2 v3 v4 v5 : Int}  {rec5 : Int → Int → MM → RR} {rec19 : Int → Int → MM → RR} (L5 : ∀ (u3 u4 : Int) (h : MM), in32 u3 → in32 u4 → rec5 u3 u4 h = some Z → G g 5 [(2, v0), (0, v1), (0, v2), (0, u3), (0, u4), (3, 0), (3, 0)] [] h) (L19 : ∀ (u3 u5 : Int) (h : MM), in32 u3 → in32 u5 → rec19 u3 u5 h = some Z → G g 19 [(2, v0), (0, v1), (0, v2), (0, u3), (0, v4), (0, u5), (3, 0)] [] h) (cv1 : in32 v1) (cv2 : in32 v2) (cv3 : in32 v3) (cv4 : in32 v4) (cv5 : in32 v5) {h : MM} (hf : f_X12_ruling_19b n rec5 rec19 v0 v1 v2 v3 v4 v5 h = some Z) : G g 19 [(2, v0), (0, v1), (0, v2), (0, v3), (0, v4), (0, v5), (3, 0)] [] h := by
  unfold f_X12_ruling_19b at hf
  refine r_iload C dX12_ruling_19 rfl ?_
  refine r_aload_n C dX12_ruling_21 rfl ?_
  obtain ⟨q1, hf⟩ := gf_s hf
  refine r_gf C ct12 (j := 1) (ji := 1) dX12_ruling_22 q1 rfl rfl (by decide) w_1426 rfl (fun c1 => ?_)
  refine r_sipush C dX12_ruling_25 rfl ?_
  refine r_iload C dX12_ruling_28 rfl ?_
  refine r_iadd C dX12_ruling_30 ?_
  obtain ⟨q2, hf⟩ := rd_s hf
  refine r_iald C dX12_ruling_31 q2 rfl (fun c2 => ?_)
  refine r_icmp_ge C dX12_ruling_32 (tgt := 134) (by decide) cv5 c2 (fun n3 => ?_) (fun n3 => ?_)
  · have hf := ite_p n3 hf
    exact G.mask [true, true, true, true, true, false, false] rfl rfl (b_X12_ruling_134 C hr L5 cv1 cv2 cv3 cv4 hf)
  · have hf := ite_n n3 hf
    refine r_aload_n C dX12_ruling_35 rfl ?_
    obtain ⟨q4, hf⟩ := gf_s hf
    refine r_gf C ct12 (j := 1) (ji := 1) dX12_ruling_36 q4 rfl rfl (by decide) w_1426 rfl (fun c4 => ?_)
    refine r_sipush C dX12_ruling_39 rfl ?_
    refine r_iload C dX12_ruling_42 rfl ?_
    refine r_iadd C dX12_ruling_44 ?_
    obtain ⟨q5, hf⟩ := rd_s hf
    refine r_iald C dX12_ruling_45 q5 rfl (fun c5 => ?_)
    refine r_iload_n C dX12_ruling_46 rfl ?_
    refine r_icmp_gt C dX12_ruling_47 (tgt := 134) (by decide) c5 cv2 (fun n6 => ?_) (fun n6 => ?_)
    · have hf := ite_p n6 hf
      exact G.mask [true, true, true, true, true, false, false] rfl rfl (b_X12_ruling_134 C hr L5 cv1 cv2 cv3 cv4 hf)
    · have hf := ite_n n6 hf
      refine r_aload_n C dX12_ruling_50 rfl ?_
      obtain ⟨q7, hf⟩ := gf_s hf
      refine r_gf C ct12 (j := 1) (ji := 1) dX12_ruling_51 q7 rfl rfl (by decide) w_1426 rfl (fun c7 => ?_)
      refine r_sipush C dX12_ruling_54 rfl ?_
      refine r_bipush C dX12_ruling_57 rfl ?_
      refine r_iload C dX12_ruling_59 rfl ?_
      refine r_imul C dX12_ruling_61 ?_
      refine r_iadd C dX12_ruling_62 ?_
      refine r_iload C dX12_ruling_63 rfl ?_
      refine r_iadd C dX12_ruling_65 ?_
      obtain ⟨q8, hf⟩ := rd_s hf
      refine r_iald C dX12_ruling_66 q8 rfl (fun c8 => ?_)
      refine r_iload_n C dX12_ruling_67 rfl ?_
      refine r_icmp_ne C dX12_ruling_68 (tgt := 107) (by decide) c8 cv1 (fun n9 => ?_) (fun n9 => ?_)
      · have hf := ite_n n9 hf
        exact G.mask [true, true, true, true, true, true, false] rfl rfl (b_X12_ruling_107 C hr L5 L19 cv1 cv2 cv3 cv4 cv5 hf)
      · have hf := ite_p n9 hf
        refine r_iload_n C dX12_ruling_71 rfl ?_
        refine r_iconst C dX12_ruling_72 ?_
        refine r_icmp_eq C dX12_ruling_73 (tgt := 103) (by decide) cv3 (in32_of rfl) (fun n10 => ?_) (fun n10 => ?_)
        · have hf := ite_p n10 hf
          exact G.mask [true, true, true, true, true, true, false] rfl rfl (b_X12_ruling_103 C hr L5 L19 cv1 cv2 cv3 cv4 cv5 hf)
        · have hf := ite_n n10 hf
          refine r_aload_n C dX12_ruling_76 rfl ?_
          obtain ⟨q11, hf⟩ := gf_s hf
          refine r_gf C ct12 (j := 1) (ji := 1) dX12_ruling_77 q11 rfl rfl (by decide) w_1426 rfl (fun c11 => ?_)
          refine r_sipush C dX12_ruling_80 rfl ?_
          refine r_iload C dX12_ruling_83 rfl ?_
          refine r_iadd C dX12_ruling_85 ?_
          obtain ⟨q12, hf⟩ := rd_s hf
          refine r_iald C dX12_ruling_86 q12 rfl (fun c12 => ?_)
          refine r_aload_n C dX12_ruling_87 rfl ?_
          obtain ⟨q13, hf⟩ := gf_s hf
          refine r_gf C ct12 (j := 1) (ji := 1) dX12_ruling_88 q13 rfl rfl (by decide) w_1426 rfl (fun c13 => ?_)
          refine r_sipush C dX12_ruling_91 rfl ?_
          refine r_iload_n C dX12_ruling_94 rfl ?_
          refine r_bipush C dX12_ruling_95 rfl ?_
          refine r_idiv C dX12_ruling_97 (in32_of rfl) (by decide) ?_
          refine r_iadd C dX12_ruling_98 ?_
          obtain ⟨q14, hf⟩ := rd_s hf
          refine r_iald C dX12_ruling_99 q14 rfl (fun c14 => ?_)
          refine r_icmp_lt C dX12_ruling_100 (tgt := 107) (by decide) c12 c14 (fun n15 => ?_) (fun n15 => ?_)
          · have hf := ite_p n15 hf
            exact G.mask [true, true, true, true, true, true, false] rfl rfl (b_X12_ruling_107 C hr L5 L19 cv1 cv2 cv3 cv4 cv5 hf)
          · have hf := ite_n n15 hf
            exact G.mask [true, true, true, true, true, true, false] rfl rfl (b_X12_ruling_103 C hr L5 L19 cv1 cv2 cv3 cv4 cv5 hf)
set_option maxRecDepth 20000 in
theorem l_X12_ruling_19 {g : GT} {Z : Int × MM} {n : Nat} (C : Cx g cX12_ruling 7 yX12_ruling 0 0) (hr : Rt g (some .int) 0 Z) {v0 v1 v2 v4 : Int} {rec5 : Int → Int → MM → RR} (L5 : ∀ (u3 u4 : Int) (h : MM), in32 u3 → in32 u4 → rec5 u3 u4 h = some Z → G g 5 [(2, v0), (0, v1), (0, v2), (0, u3), (0, u4), (3, 0), (3, 0)] [] h) (cv1 : in32 v1) (cv2 : in32 v2) (cv4 : in32 v4) : ∀ (k : Nat) (v3 v5 : Int) (h : MM), in32 v3 → in32 v5 → f_X12_ruling_19 n rec5 v0 v1 v2 v4 k v3 v5 h = some Z → G g 19 [(2, v0), (0, v1), (0, v2), (0, v3), (0, v4), (0, v5), (3, 0)] [] h := by
  intro k
  induction k with
  | zero => intro v3 v5 h cv3 cv5 hf; exact absurd hf (by intro z; cases z)
  | succ k ih => intro v3 v5 h cv3 cv5 hf; exact b_X12_ruling_19b C hr (rec19 := f_X12_ruling_19 n rec5 v0 v1 v2 v4 k) L5 ih cv1 cv2 cv3 cv4 cv5 (show f_X12_ruling_19b n rec5 (f_X12_ruling_19 n rec5 v0 v1 v2 v4 k) v0 v1 v2 v3 v4 v5 h = some Z from hf)
set_option maxRecDepth 20000 in
theorem b_X12_ruling_5b {g : GT} {Z : Int × MM} {n : Nat} (C : Cx g cX12_ruling 7 yX12_ruling 0 0) (hr : Rt g (some .int) 0 Z) {v0 v1 v2 v3 v4 : Int}  {rec5 : Int → Int → MM → RR} (L5 : ∀ (u3 u4 : Int) (h : MM), in32 u3 → in32 u4 → rec5 u3 u4 h = some Z → G g 5 [(2, v0), (0, v1), (0, v2), (0, u3), (0, u4), (3, 0), (3, 0)] [] h) (cv1 : in32 v1) (cv2 : in32 v2) (cv3 : in32 v3) (cv4 : in32 v4) {h : MM} (hf : f_X12_ruling_5b n rec5 v0 v1 v2 v3 v4 h = some Z) : G g 5 [(2, v0), (0, v1), (0, v2), (0, v3), (0, v4), (3, 0), (3, 0)] [] h := by
  unfold f_X12_ruling_5b at hf
  refine r_iload C dX12_ruling_5 rfl ?_
  refine r_aload_n C dX12_ruling_7 rfl ?_
  obtain ⟨q1, hf⟩ := gf_s hf
  refine r_gf C ct12 (j := 1) (ji := 1) dX12_ruling_8 q1 rfl rfl (by decide) w_1426 rfl (fun c1 => ?_)
  refine r_iconst C dX12_ruling_11 ?_
  obtain ⟨q2, hf⟩ := rd_s hf
  refine r_iald C dX12_ruling_12 q2 rfl (fun c2 => ?_)
  refine r_icmp_ge C dX12_ruling_13 (tgt := 140) (by decide) cv4 c2 (fun n3 => ?_) (fun n3 => ?_)
  · have hf := ite_p n3 hf
    refine r_iload_n C dX12_ruling_140 rfl ?_
    cases hf
    exact r_jret C hr dX12_ruling_141 cv3
  · have hf := ite_n n3 hf
    refine r_iconst C dX12_ruling_16 ?_
    refine r_istore C dX12_ruling_17 (Nat.le_of_ble_eq_true rfl) rfl ?_
    exact G.mask [true, true, true, true, true, true, false] rfl rfl (l_X12_ruling_19 C hr L5 cv1 cv2 cv4 _ _ _ _ cv3 (in32_of rfl) hf)
set_option maxRecDepth 20000 in
theorem l_X12_ruling_5 {g : GT} {Z : Int × MM} {n : Nat} (C : Cx g cX12_ruling 7 yX12_ruling 0 0) (hr : Rt g (some .int) 0 Z) {v0 v1 v2 : Int}   (cv1 : in32 v1) (cv2 : in32 v2) : ∀ (k : Nat) (v3 v4 : Int) (h : MM), in32 v3 → in32 v4 → f_X12_ruling_5 n  v0 v1 v2 k v3 v4 h = some Z → G g 5 [(2, v0), (0, v1), (0, v2), (0, v3), (0, v4), (3, 0), (3, 0)] [] h := by
  intro k
  induction k with
  | zero => intro v3 v4 h cv3 cv4 hf; exact absurd hf (by intro z; cases z)
  | succ k ih => intro v3 v4 h cv3 cv4 hf; exact b_X12_ruling_5b C hr (rec5 := f_X12_ruling_5 n  v0 v1 v2 k)  ih cv1 cv2 cv3 cv4 (show f_X12_ruling_5b n  (f_X12_ruling_5 n  v0 v1 v2 k) v0 v1 v2 v3 v4 h = some Z from hf)
set_option maxRecDepth 20000 in
theorem e_X12_ruling {g : GT} {Z : Int × MM} {n : Nat} (C : Cx g cX12_ruling 7 yX12_ruling 0 0) (hr : Rt g (some .int) 0 Z) {v0 v1 v2 : Int} (cv0 : cK 2 v0) (cv1 : cK 0 v1) (cv2 : cK 0 v2) {h : MM} (hf : f_X12_ruling n v0 v1 v2 h = some Z) : G g 0 [(2, v0), (0, v1), (0, v2), (3, 0), (3, 0), (3, 0), (3, 0)] [] h := by
  have cv1 : in32 v1 := cv1
  have cv2 : in32 v2 := cv2
  unfold f_X12_ruling at hf
  refine r_iconst C dX12_ruling_0 ?_
  refine r_istore_n C dX12_ruling_1 (Nat.le_of_ble_eq_true rfl) rfl ?_
  refine r_iconst C dX12_ruling_2 ?_
  refine r_istore C dX12_ruling_3 (Nat.le_of_ble_eq_true rfl) rfl ?_
  exact G.mask [true, true, true, true, true, false, false] rfl rfl (l_X12_ruling_5 C hr  cv1 cv2 _ _ _ _ (in32_of rfl) (in32_of rfl) hf)
set_option maxRecDepth 20000 in
theorem am_X12_ruling (l : Launch) (n : Nat) : AM l yX12_ruling cX12_ruling 7 (some .int) 0 0 [2, 0, 0] 0 (un3 (f_X12_ruling n)) := by
  refine AM.intro (by decide) (fun xs hx => ?_) (fun g xs h Z hl C hr hx hf => ?_)
  · obtain ⟨a0, a1, a2, rfl, c0, c1, c2⟩ := canL_3 hx
    exact Nat.le_of_ble_eq_true rfl
  · obtain ⟨a0, a1, a2, rfl, c0, c1, c2⟩ := canL_3 hx
    have hf := (un3_e _ a0 a1 a2 _).symm.trans hf
    exact e_X12_ruling (n := n) C hr c0 c1 c2 hf
/-! LinesPromisedModel.rule(II)I -/
theorem dX12_rule_0 : decode cX12_rule 0 = .ok (.aload_n 0, 1) := by decide +kernel
theorem dX12_rule_1 : decode cX12_rule 1 = .ok (.iload_n 1, 1) := by decide +kernel
theorem dX12_rule_2 : decode cX12_rule 2 = .ok (.iload_n 2, 1) := by decide +kernel
theorem dX12_rule_3 : decode cX12_rule 3 = .ok (.invokevirtual 148, 3) := by decide +kernel
theorem dX12_rule_6 : decode cX12_rule 6 = .ok (.istore_n 3, 1) := by decide +kernel
theorem dX12_rule_7 : decode cX12_rule 7 = .ok (.iload_n 3, 1) := by decide +kernel
theorem dX12_rule_8 : decode cX12_rule 8 = .ok (.iconst (-1), 1) := by decide +kernel
theorem dX12_rule_9 : decode cX12_rule 9 = .ok (.if_icmp .eq 14, 3) := by decide +kernel
theorem dX12_rule_12 : decode cX12_rule 12 = .ok (.aload_n 0, 1) := by decide +kernel
theorem dX12_rule_13 : decode cX12_rule 13 = .ok (.getfield 8, 3) := by decide +kernel
theorem dX12_rule_16 : decode cX12_rule 16 = .ok (.sipush 10990, 3) := by decide +kernel
theorem dX12_rule_19 : decode cX12_rule 19 = .ok (.iload_n 3, 1) := by decide +kernel
theorem dX12_rule_20 : decode cX12_rule 20 = .ok (.iadd, 1) := by decide +kernel
theorem dX12_rule_21 : decode cX12_rule 21 = .ok (.iaload, 1) := by decide +kernel
theorem dX12_rule_22 : decode cX12_rule 22 = .ok (.ireturn, 1) := by decide +kernel
theorem dX12_rule_23 : decode cX12_rule 23 = .ok (.iload_n 1, 1) := by decide +kernel
theorem dX12_rule_24 : decode cX12_rule 24 = .ok (.tableswitch 57 0 5 #[40, 43, 45, 49, 52, 55], 40) := by decide +kernel
theorem dX12_rule_64 : decode cX12_rule 64 = .ok (.bipush 99, 2) := by decide +kernel
theorem dX12_rule_66 : decode cX12_rule 66 = .ok (.ireturn, 1) := by decide +kernel
theorem dX12_rule_67 : decode cX12_rule 67 = .ok (.iconst 2, 1) := by decide +kernel
theorem dX12_rule_68 : decode cX12_rule 68 = .ok (.ireturn, 1) := by decide +kernel
theorem dX12_rule_69 : decode cX12_rule 69 = .ok (.sipush 999, 3) := by decide +kernel
theorem dX12_rule_72 : decode cX12_rule 72 = .ok (.ireturn, 1) := by decide +kernel
theorem dX12_rule_73 : decode cX12_rule 73 = .ok (.bipush 50, 2) := by decide +kernel
theorem dX12_rule_75 : decode cX12_rule 75 = .ok (.ireturn, 1) := by decide +kernel
theorem dX12_rule_76 : decode cX12_rule 76 = .ok (.bipush 10, 2) := by decide +kernel
theorem dX12_rule_78 : decode cX12_rule 78 = .ok (.ireturn, 1) := by decide +kernel
theorem dX12_rule_79 : decode cX12_rule 79 = .ok (.iconst 1, 1) := by decide +kernel
theorem dX12_rule_80 : decode cX12_rule 80 = .ok (.ireturn, 1) := by decide +kernel
theorem dX12_rule_81 : decode cX12_rule 81 = .ok (.iconst 0, 1) := by decide +kernel
theorem dX12_rule_82 : decode cX12_rule 82 = .ok (.ireturn, 1) := by decide +kernel
theorem cm_X12_rule : CM yX12_rule cX12_rule 4 (some .int) 2 12 := ⟨w_1581, w_52, w_1582, w_97, ⟨by decide +kernel, by decide +kernel, by decide +kernel⟩, ⟨_, _, rfl⟩, by decide⟩
noncomputable def f_X12_rule (n : Nat) (v0 v1 v2 : Int) (h : MM) : RR :=
  gk h v0 12 <|
  bd (f_X12_ruling n v0 v1 v2 h) fun r1 h1 =>
  if r1 = (-1) then
    if v1 = 0 then
      some (99, h1)
    else
    if v1 = 1 then
      some (2, h1)
    else
    if v1 = 2 then
      some (999, h1)
    else
    if v1 = 3 then
      some (50, h1)
    else
    if v1 = 4 then
      some (10, h1)
    else
    if v1 = 5 then
      some (1, h1)
    else
    some (0, h1)
  else
  gf h1 v0 12 1 fun r9 =>
  rd h1 r9 100 (wr (10990 + r1)) fun r10 =>
  some (r10, h1)
set_option maxRecDepth 20000 in
theorem e_X12_rule {g : GT} {Z : Int × MM} {n : Nat} (C : Cx g cX12_rule 4 yX12_rule 1 26) (hr : Rt g (some .int) 0 Z) {v0 v1 v2 : Int} (cv0 : cK 2 v0) (cv1 : cK 0 v1) (cv2 : cK 0 v2) {h : MM} (hf : f_X12_rule n v0 v1 v2 h = some Z) : G g 0 [(2, v0), (0, v1), (0, v2), (3, 0)] [] h := by
  have cv1 : in32 v1 := cv1
  have cv2 : in32 v2 := cv2
  unfold f_X12_rule at hf
  refine r_aload_n C dX12_rule_0 rfl ?_
  refine r_iload_n C dX12_rule_1 rfl ?_
  refine r_iload_n C dX12_rule_2 rfl ?_
  obtain ⟨p1, hf⟩ := gk_s hf
  obtain ⟨r1, h1, hq1, hf⟩ := bd_s hf
  refine r_cV2 C (am_X12_ruling (gl g) n) cm_X12_ruling w_1583 dX12_rule_3 ⟨Nat.le_of_ble_eq_true rfl, Nat.le_of_ble_eq_true rfl⟩ p1 rfl cv1 cv2 rfl (Nat.le_of_ble_eq_true rfl) hq1 (by decide) (fun c1 => ?_)
  have c1 : in32 _ := c1
  refine r_istore_n C dX12_rule_6 (Nat.le_of_ble_eq_true rfl) rfl ?_
  refine r_iload_n C dX12_rule_7 rfl ?_
  refine r_iconst C dX12_rule_8 ?_
  refine r_icmp_eq C dX12_rule_9 (tgt := 23) (by decide) c1 (in32_of rfl) (fun n2 => ?_) (fun n2 => ?_)
  · have hf := ite_p n2 hf
    refine r_iload_n C dX12_rule_23 rfl ?_
    rcases ite_s hf with ⟨n3, hf⟩ | ⟨n3, hf⟩
    · refine r_tsw C dX12_rule_24 (tgt := 64) cv1 n3 rfl rfl (by decide) ?_
      refine r_bipush C dX12_rule_64 rfl ?_
      cases hf
      exact r_jret C hr dX12_rule_66 (in32_of rfl)
    rcases ite_s hf with ⟨n4, hf⟩ | ⟨n4, hf⟩
    · refine r_tsw C dX12_rule_24 (tgt := 67) cv1 n4 rfl rfl (by decide) ?_
      refine r_iconst C dX12_rule_67 ?_
      cases hf
      exact r_jret C hr dX12_rule_68 (in32_of rfl)
    rcases ite_s hf with ⟨n5, hf⟩ | ⟨n5, hf⟩
    · refine r_tsw C dX12_rule_24 (tgt := 69) cv1 n5 rfl rfl (by decide) ?_
      refine r_sipush C dX12_rule_69 rfl ?_
      cases hf
      exact r_jret C hr dX12_rule_72 (in32_of rfl)
    rcases ite_s hf with ⟨n6, hf⟩ | ⟨n6, hf⟩
    · refine r_tsw C dX12_rule_24 (tgt := 73) cv1 n6 rfl rfl (by decide) ?_
      refine r_bipush C dX12_rule_73 rfl ?_
      cases hf
      exact r_jret C hr dX12_rule_75 (in32_of rfl)
    rcases ite_s hf with ⟨n7, hf⟩ | ⟨n7, hf⟩
    · refine r_tsw C dX12_rule_24 (tgt := 76) cv1 n7 rfl rfl (by decide) ?_
      refine r_bipush C dX12_rule_76 rfl ?_
      cases hf
      exact r_jret C hr dX12_rule_78 (in32_of rfl)
    rcases ite_s hf with ⟨n8, hf⟩ | ⟨n8, hf⟩
    · refine r_tsw C dX12_rule_24 (tgt := 79) cv1 n8 rfl rfl (by decide) ?_
      refine r_iconst C dX12_rule_79 ?_
      cases hf
      exact r_jret C hr dX12_rule_80 (in32_of rfl)
    refine r_tswd C dX12_rule_24 (tgt := 81) cv1 (by omega) (by decide) ?_
    refine r_iconst C dX12_rule_81 ?_
    cases hf
    exact r_jret C hr dX12_rule_82 (in32_of rfl)
  · have hf := ite_n n2 hf
    refine r_aload_n C dX12_rule_12 rfl ?_
    obtain ⟨q9, hf⟩ := gf_s hf
    refine r_gf C ct12 (j := 1) (ji := 1) dX12_rule_13 q9 rfl rfl (by decide) w_1426 rfl (fun c9 => ?_)
    refine r_sipush C dX12_rule_16 rfl ?_
    refine r_iload_n C dX12_rule_19 rfl ?_
    refine r_iadd C dX12_rule_20 ?_
    obtain ⟨q10, hf⟩ := rd_s hf
    refine r_iald C dX12_rule_21 q10 rfl (fun c10 => ?_)
    cases hf
    exact r_jret C hr dX12_rule_22 c10
set_option maxRecDepth 20000 in
theorem am_X12_rule (l : Launch) (n : Nat) : AM l yX12_rule cX12_rule 4 (some .int) 1 26 [2, 0, 0] 0 (un3 (f_X12_rule n)) := by
  refine AM.intro (by decide) (fun xs hx => ?_) (fun g xs h Z hl C hr hx hf => ?_)
  · obtain ⟨a0, a1, a2, rfl, c0, c1, c2⟩ := canL_3 hx
    exact Nat.le_of_ble_eq_true rfl
  · obtain ⟨a0, a1, a2, rfl, c0, c1, c2⟩ := canL_3 hx
    have hf := (un3_e _ a0 a1 a2 _).symm.trans hf
    exact e_X12_rule (n := n) C hr c0 c1 c2 hf
/-! LinesPromisedModel.force(II)I -/
theorem dX12_force_0 : decode cX12_force 0 = .ok (.iload_n 1, 1) := by decide +kernel
theorem dX12_force_1 : decode cX12_force 1 = .ok (.iconst 0, 1) := by decide +kernel
theorem dX12_force_2 : decode cX12_force 2 = .ok (.bipush 6, 2) := by decide +kernel
theorem dX12_force_4 : decode cX12_force 4 = .ok (.invokestatic 58, 3) := by decide +kernel
theorem dX12_force_7 : decode cX12_force 7 = .ok (.ifCond .ne 7, 3) := by decide +kernel
theorem dX12_force_10 : decode cX12_force 10 = .ok (.iconst (-1), 1) := by decide +kernel
theorem dX12_force_11 : decode cX12_force 11 = .ok (.goto 21, 3) := by decide +kernel
theorem dX12_force_14 : decode cX12_force 14 = .ok (.iload_n 2, 1) := by decide +kernel
theorem dX12_force_15 : decode cX12_force 15 = .ok (.invokestatic 141, 3) := by decide +kernel
theorem dX12_force_18 : decode cX12_force 18 = .ok (.ifCond .eq 12, 3) := by decide +kernel
theorem dX12_force_21 : decode cX12_force 21 = .ok (.aload_n 0, 1) := by decide +kernel
theorem dX12_force_22 : decode cX12_force 22 = .ok (.iload_n 1, 1) := by decide +kernel
theorem dX12_force_23 : decode cX12_force 23 = .ok (.iload_n 2, 1) := by decide +kernel
theorem dX12_force_24 : decode cX12_force 24 = .ok (.invokevirtual 152, 3) := by decide +kernel
theorem dX12_force_27 : decode cX12_force 27 = .ok (.goto 5, 3) := by decide +kernel
theorem dX12_force_30 : decode cX12_force 30 = .ok (.bipush (-2), 2) := by decide +kernel
theorem dX12_force_32 : decode cX12_force 32 = .ok (.ireturn, 1) := by decide +kernel
theorem cm_X12_force : CM yX12_force cX12_force 3 (some .int) 2 12 := ⟨w_1576, w_1577, w_1578, w_97, ⟨by decide +kernel, by decide +kernel, by decide +kernel⟩, ⟨_, _, rfl⟩, by decide⟩
noncomputable def f_X12_force_32 (n : Nat)  (s0 : Int) (h : MM) : RR :=
  some (s0, h)
noncomputable def f_X12_force (n : Nat) (v0 v1 v2 : Int) (h : MM) : RR :=
  bd (f_X12_in n v1 0 6 h) fun r1 h1 =>
  if r1 = 0 then
    f_X12_force_32 n ((-1)) h1
  else
  bd (f_X12_isDay n v2 h1) fun r3 h3 =>
  if r3 = 0 then
    f_X12_force_32 n ((-2)) h3
  else
  gk h3 v0 12 <|
  bd (f_X12_rule n v0 v1 v2 h3) fun r5 h5 =>
  f_X12_force_32 n r5 h5
set_option maxRecDepth 20000 in
theorem b_X12_force_32 {g : GT} {Z : Int × MM} {n : Nat} (C : Cx g cX12_force 3 yX12_force 2 49) (hr : Rt g (some .int) 0 Z) {s0 : Int}    (cs0 : in32 s0) {h : MM} (hf : f_X12_force_32 n  s0 h = some Z) : G g 32 [(3, 0), (3, 0), (3, 0)] [(0, s0)] h := by
  unfold f_X12_force_32 at hf
  cases hf
  exact r_jret C hr dX12_force_32 cs0
set_option maxRecDepth 20000 in
theorem e_X12_force {g : GT} {Z : Int × MM} {n : Nat} (C : Cx g cX12_force 3 yX12_force 2 49) (hr : Rt g (some .int) 0 Z) {v0 v1 v2 : Int} (cv0 : cK 2 v0) (cv1 : cK 0 v1) (cv2 : cK 0 v2) {h : MM} (hf : f_X12_force n v0 v1 v2 h = some Z) : G g 0 [(2, v0), (0, v1), (0, v2)] [] h := by
  have cv1 : in32 v1 := cv1
  have cv2 : in32 v2 := cv2
  unfold f_X12_force at hf
  refine r_iload_n C dX12_force_0 rfl ?_
  refine r_iconst C dX12_force_1 ?_
  refine r_bipush C dX12_force_2 rfl ?_
  obtain ⟨r1, h1, hq1, hf⟩ := bd_s hf
  refine r_cS3 C (am_X12_in (gl g) n) cm_X12_in w_1496 dX12_force_4 ⟨Nat.le_of_ble_eq_true rfl, Nat.le_of_ble_eq_true rfl⟩ cv1 (in32_of rfl) (in32_of rfl) rfl (Nat.le_of_ble_eq_true rfl) hq1 (by decide) (fun c1 => ?_)
  have c1 : in32 _ := c1
  refine r_if_ne C dX12_force_7 (tgt := 14) (by decide) c1 (fun n2 => ?_) (fun n2 => ?_)
  · have hf := ite_n n2 hf
    refine r_iload_n C dX12_force_14 rfl ?_
    obtain ⟨r3, h3, hq3, hf⟩ := bd_s hf
    refine r_cS1 C (am_X12_isDay (gl g) n) cm_X12_isDay w_1524 dX12_force_15 ⟨Nat.le_of_ble_eq_true rfl, Nat.le_of_ble_eq_true rfl⟩ cv2 rfl (Nat.le_of_ble_eq_true rfl) hq3 (by decide) (fun c3 => ?_)
    have c3 : in32 _ := c3
    refine r_if_eq C dX12_force_18 (tgt := 30) (by decide) c3 (fun n4 => ?_) (fun n4 => ?_)
    · have hf := ite_p n4 hf
      refine r_bipush C dX12_force_30 rfl ?_
      exact G.mask [false, false, false] rfl rfl (b_X12_force_32 C hr  (in32_of rfl) hf)
    · have hf := ite_n n4 hf
      refine r_aload_n C dX12_force_21 rfl ?_
      refine r_iload_n C dX12_force_22 rfl ?_
      refine r_iload_n C dX12_force_23 rfl ?_
      obtain ⟨p5, hf⟩ := gk_s hf
      obtain ⟨r5, h5, hq5, hf⟩ := bd_s hf
      refine r_cV2 C (am_X12_rule (gl g) n) cm_X12_rule w_1579 dX12_force_24 ⟨Nat.le_of_ble_eq_true rfl, Nat.le_of_ble_eq_true rfl⟩ p5 rfl cv1 cv2 rfl (Nat.le_of_ble_eq_true rfl) hq5 (by decide) (fun c5 => ?_)
      have c5 : in32 _ := c5
      refine r_goto C dX12_force_27 (tgt := 32) (by decide) ?_
      exact G.mask [false, false, false] rfl rfl (b_X12_force_32 C hr  c5 hf)
  · have hf := ite_p n2 hf
    refine r_iconst C dX12_force_10 ?_
    refine r_goto C dX12_force_11 (tgt := 32) (by decide) ?_
    exact G.mask [false, false, false] rfl rfl (b_X12_force_32 C hr  (in32_of rfl) hf)
set_option maxRecDepth 20000 in
theorem am_X12_force (l : Launch) (n : Nat) : AM l yX12_force cX12_force 3 (some .int) 2 49 [2, 0, 0] 0 (un3 (f_X12_force n)) := by
  refine AM.intro (by decide) (fun xs hx => ?_) (fun g xs h Z hl C hr hx hf => ?_)
  · obtain ⟨a0, a1, a2, rfl, c0, c1, c2⟩ := canL_3 hx
    exact Nat.le_of_ble_eq_true rfl
  · obtain ⟨a0, a1, a2, rfl, c0, c1, c2⟩ := canL_3 hx
    have hf := (un3_e _ a0 a1 a2 _).symm.trans hf
    exact e_X12_force (n := n) C hr c0 c1 c2 hf
/-! LinesPromisedModel.why(II)I -/
theorem dX12_why_0 : decode cX12_why 0 = .ok (.iload_n 1, 1) := by decide +kernel
theorem dX12_why_1 : decode cX12_why 1 = .ok (.iconst 0, 1) := by decide +kernel
theorem dX12_why_2 : decode cX12_why 2 = .ok (.bipush 6, 2) := by decide +kernel
theorem dX12_why_4 : decode cX12_why 4 = .ok (.invokestatic 58, 3) := by decide +kernel
theorem dX12_why_7 : decode cX12_why 7 = .ok (.ifCond .ne 5, 3) := by decide +kernel
theorem dX12_why_10 : decode cX12_why 10 = .ok (.iconst (-1), 1) := by decide +kernel
theorem dX12_why_11 : decode cX12_why 11 = .ok (.ireturn, 1) := by decide +kernel
theorem dX12_why_12 : decode cX12_why 12 = .ok (.iload_n 2, 1) := by decide +kernel
theorem dX12_why_13 : decode cX12_why 13 = .ok (.invokestatic 141, 3) := by decide +kernel
theorem dX12_why_16 : decode cX12_why 16 = .ok (.ifCond .ne 6, 3) := by decide +kernel
theorem dX12_why_19 : decode cX12_why 19 = .ok (.bipush (-2), 2) := by decide +kernel
theorem dX12_why_21 : decode cX12_why 21 = .ok (.ireturn, 1) := by decide +kernel
theorem dX12_why_22 : decode cX12_why 22 = .ok (.aload_n 0, 1) := by decide +kernel
theorem dX12_why_23 : decode cX12_why 23 = .ok (.iload_n 1, 1) := by decide +kernel
theorem dX12_why_24 : decode cX12_why 24 = .ok (.iload_n 2, 1) := by decide +kernel
theorem dX12_why_25 : decode cX12_why 25 = .ok (.invokevirtual 148, 3) := by decide +kernel
theorem dX12_why_28 : decode cX12_why 28 = .ok (.istore_n 3, 1) := by decide +kernel
theorem dX12_why_29 : decode cX12_why 29 = .ok (.iload_n 3, 1) := by decide +kernel
theorem dX12_why_30 : decode cX12_why 30 = .ok (.iconst (-1), 1) := by decide +kernel
theorem dX12_why_31 : decode cX12_why 31 = .ok (.if_icmp .ne 8, 3) := by decide +kernel
theorem dX12_why_34 : decode cX12_why 34 = .ok (.bipush (-5), 2) := by decide +kernel
theorem dX12_why_36 : decode cX12_why 36 = .ok (.goto 15, 3) := by decide +kernel
theorem dX12_why_39 : decode cX12_why 39 = .ok (.bipush 100, 2) := by decide +kernel
theorem dX12_why_41 : decode cX12_why 41 = .ok (.iload_n 3, 1) := by decide +kernel
theorem dX12_why_42 : decode cX12_why 42 = .ok (.bipush 8, 2) := by decide +kernel
theorem dX12_why_44 : decode cX12_why 44 = .ok (.idiv, 1) := by decide +kernel
theorem dX12_why_45 : decode cX12_why 45 = .ok (.imul, 1) := by decide +kernel
theorem dX12_why_46 : decode cX12_why 46 = .ok (.iload_n 3, 1) := by decide +kernel
theorem dX12_why_47 : decode cX12_why 47 = .ok (.bipush 8, 2) := by decide +kernel
theorem dX12_why_49 : decode cX12_why 49 = .ok (.irem, 1) := by decide +kernel
theorem dX12_why_50 : decode cX12_why 50 = .ok (.iadd, 1) := by decide +kernel
theorem dX12_why_51 : decode cX12_why 51 = .ok (.ireturn, 1) := by decide +kernel
theorem cm_X12_why : CM yX12_why cX12_why 4 (some .int) 2 12 := ⟨w_1588, w_1589, w_1590, w_97, ⟨by decide +kernel, by decide +kernel, by decide +kernel⟩, ⟨_, _, rfl⟩, by decide⟩
noncomputable def f_X12_why_51 (n : Nat)  (s0 : Int) (h : MM) : RR :=
  some (s0, h)
noncomputable def f_X12_why (n : Nat) (v0 v1 v2 : Int) (h : MM) : RR :=
  bd (f_X12_in n v1 0 6 h) fun r1 h1 =>
  if r1 = 0 then
    some ((-1), h1)
  else
  bd (f_X12_isDay n v2 h1) fun r3 h3 =>
  if r3 = 0 then
    some ((-2), h3)
  else
  gk h3 v0 12 <|
  bd (f_X12_ruling n v0 v1 v2 h3) fun r5 h5 =>
  if r5 = (-1) then
    f_X12_why_51 n ((-5)) h5
  else
  f_X12_why_51 n (wr ((wr (100 * (idv r5 8))) + (irm r5 8))) h5
set_option maxRecDepth 20000 in
theorem b_X12_why_51 {g : GT} {Z : Int × MM} {n : Nat} (C : Cx g cX12_why 4 yX12_why 2 42) (hr : Rt g (some .int) 0 Z) {s0 : Int}    (cs0 : in32 s0) {h : MM} (hf : f_X12_why_51 n  s0 h = some Z) : G g 51 [(3, 0), (3, 0), (3, 0), (3, 0)] [(0, s0)] h := by
  unfold f_X12_why_51 at hf
  cases hf
  exact r_jret C hr dX12_why_51 cs0
set_option maxRecDepth 20000 in
theorem e_X12_why {g : GT} {Z : Int × MM} {n : Nat} (C : Cx g cX12_why 4 yX12_why 2 42) (hr : Rt g (some .int) 0 Z) {v0 v1 v2 : Int} (cv0 : cK 2 v0) (cv1 : cK 0 v1) (cv2 : cK 0 v2) {h : MM} (hf : f_X12_why n v0 v1 v2 h = some Z) : G g 0 [(2, v0), (0, v1), (0, v2), (3, 0)] [] h := by
  have cv1 : in32 v1 := cv1
  have cv2 : in32 v2 := cv2
  unfold f_X12_why at hf
  refine r_iload_n C dX12_why_0 rfl ?_
  refine r_iconst C dX12_why_1 ?_
  refine r_bipush C dX12_why_2 rfl ?_
  obtain ⟨r1, h1, hq1, hf⟩ := bd_s hf
  refine r_cS3 C (am_X12_in (gl g) n) cm_X12_in w_1496 dX12_why_4 ⟨Nat.le_of_ble_eq_true rfl, Nat.le_of_ble_eq_true rfl⟩ cv1 (in32_of rfl) (in32_of rfl) rfl (Nat.le_of_ble_eq_true rfl) hq1 (by decide) (fun c1 => ?_)
  have c1 : in32 _ := c1
  refine r_if_ne C dX12_why_7 (tgt := 12) (by decide) c1 (fun n2 => ?_) (fun n2 => ?_)
  · have hf := ite_n n2 hf
    refine r_iload_n C dX12_why_12 rfl ?_
    obtain ⟨r3, h3, hq3, hf⟩ := bd_s hf
    refine r_cS1 C (am_X12_isDay (gl g) n) cm_X12_isDay w_1524 dX12_why_13 ⟨Nat.le_of_ble_eq_true rfl, Nat.le_of_ble_eq_true rfl⟩ cv2 rfl (Nat.le_of_ble_eq_true rfl) hq3 (by decide) (fun c3 => ?_)
    have c3 : in32 _ := c3
    refine r_if_ne C dX12_why_16 (tgt := 22) (by decide) c3 (fun n4 => ?_) (fun n4 => ?_)
    · have hf := ite_n n4 hf
      refine r_aload_n C dX12_why_22 rfl ?_
      refine r_iload_n C dX12_why_23 rfl ?_
      refine r_iload_n C dX12_why_24 rfl ?_
      obtain ⟨p5, hf⟩ := gk_s hf
      obtain ⟨r5, h5, hq5, hf⟩ := bd_s hf
      refine r_cV2 C (am_X12_ruling (gl g) n) cm_X12_ruling w_1583 dX12_why_25 ⟨Nat.le_of_ble_eq_true rfl, Nat.le_of_ble_eq_true rfl⟩ p5 rfl cv1 cv2 rfl (Nat.le_of_ble_eq_true rfl) hq5 (by decide) (fun c5 => ?_)
      have c5 : in32 _ := c5
      refine r_istore_n C dX12_why_28 (Nat.le_of_ble_eq_true rfl) rfl ?_
      refine r_iload_n C dX12_why_29 rfl ?_
      refine r_iconst C dX12_why_30 ?_
      refine r_icmp_ne C dX12_why_31 (tgt := 39) (by decide) c5 (in32_of rfl) (fun n6 => ?_) (fun n6 => ?_)
      · have hf := ite_n n6 hf
        refine r_bipush C dX12_why_39 rfl ?_
        refine r_iload_n C dX12_why_41 rfl ?_
        refine r_bipush C dX12_why_42 rfl ?_
        refine r_idiv C dX12_why_44 (in32_of rfl) (by decide) ?_
        refine r_imul C dX12_why_45 ?_
        refine r_iload_n C dX12_why_46 rfl ?_
        refine r_bipush C dX12_why_47 rfl ?_
        refine r_irem C dX12_why_49 (in32_of rfl) (by decide) ?_
        refine r_iadd C dX12_why_50 ?_
        exact G.mask [false, false, false, false] rfl rfl (b_X12_why_51 C hr  (in32_t _) hf)
      · have hf := ite_p n6 hf
        refine r_bipush C dX12_why_34 rfl ?_
        refine r_goto C dX12_why_36 (tgt := 51) (by decide) ?_
        exact G.mask [false, false, false, false] rfl rfl (b_X12_why_51 C hr  (in32_of rfl) hf)
    · have hf := ite_p n4 hf
      refine r_bipush C dX12_why_19 rfl ?_
      cases hf
      exact r_jret C hr dX12_why_21 (in32_of rfl)
  · have hf := ite_p n2 hf
    refine r_iconst C dX12_why_10 ?_
    cases hf
    exact r_jret C hr dX12_why_11 (in32_of rfl)
set_option maxRecDepth 20000 in
theorem am_X12_why (l : Launch) (n : Nat) : AM l yX12_why cX12_why 4 (some .int) 2 42 [2, 0, 0] 0 (un3 (f_X12_why n)) := by
  refine AM.intro (by decide) (fun xs hx => ?_) (fun g xs h Z hl C hr hx hf => ?_)
  · obtain ⟨a0, a1, a2, rfl, c0, c1, c2⟩ := canL_3 hx
    exact Nat.le_of_ble_eq_true rfl
  · obtain ⟨a0, a1, a2, rfl, c0, c1, c2⟩ := canL_3 hx
    have hf := (un3_e _ a0 a1 a2 _).symm.trans hf
    exact e_X12_why (n := n) C hr c0 c1 c2 hf
/-! LinesPromisedModel.isTown(I)Z -/
theorem dX12_isTown_0 : decode cX12_isTown 0 = .ok (.iload_n 1, 1) := by decide +kernel
theorem dX12_isTown_1 : decode cX12_isTown 1 = .ok (.iconst 0, 1) := by decide +kernel
theorem dX12_isTown_2 : decode cX12_isTown 2 = .ok (.aload_n 0, 1) := by decide +kernel
theorem dX12_isTown_3 : decode cX12_isTown 3 = .ok (.getfield 8, 3) := by decide +kernel
theorem dX12_isTown_6 : decode cX12_isTown 6 = .ok (.iconst 1, 1) := by decide +kernel
theorem dX12_isTown_7 : decode cX12_isTown 7 = .ok (.iaload, 1) := by decide +kernel
theorem dX12_isTown_8 : decode cX12_isTown 8 = .ok (.iconst 1, 1) := by decide +kernel
theorem dX12_isTown_9 : decode cX12_isTown 9 = .ok (.isub, 1) := by decide +kernel
theorem dX12_isTown_10 : decode cX12_isTown 10 = .ok (.invokestatic 58, 3) := by decide +kernel
theorem dX12_isTown_13 : decode cX12_isTown 13 = .ok (.ireturn, 1) := by decide +kernel
theorem cm_X12_isTown : CM yX12_isTown cX12_isTown 2 (some .boolean) 1 12 := ⟨w_1597, w_54, w_1598, w_97, ⟨by decide +kernel, by decide +kernel, by decide +kernel⟩, ⟨_, _, rfl⟩, by decide⟩
noncomputable def f_X12_isTown (n : Nat) (v0 v1 : Int) (h : MM) : RR :=
  gf h v0 12 1 fun r1 =>
  rd h r1 100 1 fun r2 =>
  bd (f_X12_in n v1 0 (wr (r2 - 1)) h) fun r3 h3 =>
  ck (isb r3) <|
  some (r3, h3)
set_option maxRecDepth 20000 in
theorem e_X12_isTown {g : GT} {Z : Int × MM} {n : Nat} (C : Cx g cX12_isTown 2 yX12_isTown 1 22) (hr : Rt g (some .boolean) 0 Z) {v0 v1 : Int} (cv0 : cK 2 v0) (cv1 : cK 0 v1) {h : MM} (hf : f_X12_isTown n v0 v1 h = some Z) : G g 0 [(2, v0), (0, v1)] [] h := by
  have cv1 : in32 v1 := cv1
  unfold f_X12_isTown at hf
  refine r_iload_n C dX12_isTown_0 rfl ?_
  refine r_iconst C dX12_isTown_1 ?_
  refine r_aload_n C dX12_isTown_2 rfl ?_
  obtain ⟨q1, hf⟩ := gf_s hf
  refine r_gf C ct12 (j := 1) (ji := 1) dX12_isTown_3 q1 rfl rfl (by decide) w_1426 rfl (fun c1 => ?_)
  refine r_iconst C dX12_isTown_6 ?_
  obtain ⟨q2, hf⟩ := rd_s hf
  refine r_iald C dX12_isTown_7 q2 rfl (fun c2 => ?_)
  refine r_iconst C dX12_isTown_8 ?_
  refine r_isub C dX12_isTown_9 ?_
  obtain ⟨r3, h3, hq3, hf⟩ := bd_s hf
  refine r_cS3 C (am_X12_in (gl g) n) cm_X12_in w_1496 dX12_isTown_10 ⟨Nat.le_of_ble_eq_true rfl, Nat.le_of_ble_eq_true rfl⟩ cv1 (in32_of rfl) (in32_t _) rfl (Nat.le_of_ble_eq_true rfl) hq3 (by decide) (fun c3 => ?_)
  have c3 : in32 _ := c3
  obtain ⟨b4, hf⟩ := ck_s hf
  cases hf
  exact r_zret C hr dX12_isTown_13 b4
set_option maxRecDepth 20000 in
theorem am_X12_isTown (l : Launch) (n : Nat) : AM l yX12_isTown cX12_isTown 2 (some .boolean) 1 22 [2, 0] 0 (un2 (f_X12_isTown n)) := by
  refine AM.intro (by decide) (fun xs hx => ?_) (fun g xs h Z hl C hr hx hf => ?_)
  · obtain ⟨a0, a1, rfl, c0, c1⟩ := canL_2 hx
    exact Nat.le_of_ble_eq_true rfl
  · obtain ⟨a0, a1, rfl, c0, c1⟩ := canL_2 hx
    have hf := (un2_e _ a0 a1 _).symm.trans hf
    exact e_X12_isTown (n := n) C hr c0 c1 hf
/-! LinesPromisedModel.paper(IIIIII)I -/
theorem dX12_paper_0 : decode cX12_paper 0 = .ok (.aload_n 0, 1) := by decide +kernel
theorem dX12_paper_1 : decode cX12_paper 1 = .ok (.getfield 8, 3) := by decide +kernel
theorem dX12_paper_4 : decode cX12_paper 4 = .ok (.iconst 2, 1) := by decide +kernel
theorem dX12_paper_5 : decode cX12_paper 5 = .ok (.iaload, 1) := by decide +kernel
theorem dX12_paper_6 : decode cX12_paper 6 = .ok (.istore 7, 2) := by decide +kernel
theorem dX12_paper_8 : decode cX12_paper 8 = .ok (.aload_n 0, 1) := by decide +kernel
theorem dX12_paper_9 : decode cX12_paper 9 = .ok (.getfield 8, 3) := by decide +kernel
theorem dX12_paper_12 : decode cX12_paper 12 = .ok (.sipush 370, 3) := by decide +kernel
theorem dX12_paper_15 : decode cX12_paper 15 = .ok (.iload 7, 2) := by decide +kernel
theorem dX12_paper_17 : decode cX12_paper 17 = .ok (.iadd, 1) := by decide +kernel
theorem dX12_paper_18 : decode cX12_paper 18 = .ok (.iload_n 1, 1) := by decide +kernel
theorem dX12_paper_19 : decode cX12_paper 19 = .ok (.iastore, 1) := by decide +kernel
theorem dX12_paper_20 : decode cX12_paper 20 = .ok (.aload_n 0, 1) := by decide +kernel
theorem dX12_paper_21 : decode cX12_paper 21 = .ok (.getfield 8, 3) := by decide +kernel
theorem dX12_paper_24 : decode cX12_paper 24 = .ok (.sipush 430, 3) := by decide +kernel
theorem dX12_paper_27 : decode cX12_paper 27 = .ok (.iload 7, 2) := by decide +kernel
theorem dX12_paper_29 : decode cX12_paper 29 = .ok (.iadd, 1) := by decide +kernel
theorem dX12_paper_30 : decode cX12_paper 30 = .ok (.iload_n 2, 1) := by decide +kernel
theorem dX12_paper_31 : decode cX12_paper 31 = .ok (.iastore, 1) := by decide +kernel
theorem dX12_paper_32 : decode cX12_paper 32 = .ok (.aload_n 0, 1) := by decide +kernel
theorem dX12_paper_33 : decode cX12_paper 33 = .ok (.getfield 8, 3) := by decide +kernel
theorem dX12_paper_36 : decode cX12_paper 36 = .ok (.sipush 490, 3) := by decide +kernel
theorem dX12_paper_39 : decode cX12_paper 39 = .ok (.iload 7, 2) := by decide +kernel
theorem dX12_paper_41 : decode cX12_paper 41 = .ok (.iadd, 1) := by decide +kernel
theorem dX12_paper_42 : decode cX12_paper 42 = .ok (.aload_n 0, 1) := by decide +kernel
theorem dX12_paper_43 : decode cX12_paper 43 = .ok (.getfield 8, 3) := by decide +kernel
theorem dX12_paper_46 : decode cX12_paper 46 = .ok (.iconst 0, 1) := by decide +kernel
theorem dX12_paper_47 : decode cX12_paper 47 = .ok (.iaload, 1) := by decide +kernel
theorem dX12_paper_48 : decode cX12_paper 48 = .ok (.iastore, 1) := by decide +kernel
theorem dX12_paper_49 : decode cX12_paper 49 = .ok (.aload_n 0, 1) := by decide +kernel
theorem dX12_paper_50 : decode cX12_paper 50 = .ok (.getfield 8, 3) := by decide +kernel
theorem dX12_paper_53 : decode cX12_paper 53 = .ok (.sipush 550, 3) := by decide +kernel
theorem dX12_paper_56 : decode cX12_paper 56 = .ok (.iload 7, 2) := by decide +kernel
theorem dX12_paper_58 : decode cX12_paper 58 = .ok (.iadd, 1) := by decide +kernel
theorem dX12_paper_59 : decode cX12_paper 59 = .ok (.iload_n 3, 1) := by decide +kernel
theorem dX12_paper_60 : decode cX12_paper 60 = .ok (.iastore, 1) := by decide +kernel
theorem dX12_paper_61 : decode cX12_paper 61 = .ok (.aload_n 0, 1) := by decide +kernel
theorem dX12_paper_62 : decode cX12_paper 62 = .ok (.getfield 8, 3) := by decide +kernel
theorem dX12_paper_65 : decode cX12_paper 65 = .ok (.sipush 610, 3) := by decide +kernel
theorem dX12_paper_68 : decode cX12_paper 68 = .ok (.iload 7, 2) := by decide +kernel
theorem dX12_paper_70 : decode cX12_paper 70 = .ok (.iadd, 1) := by decide +kernel
theorem dX12_paper_71 : decode cX12_paper 71 = .ok (.iload 4, 2) := by decide +kernel
theorem dX12_paper_73 : decode cX12_paper 73 = .ok (.iastore, 1) := by decide +kernel
theorem dX12_paper_74 : decode cX12_paper 74 = .ok (.aload_n 0, 1) := by decide +kernel
theorem dX12_paper_75 : decode cX12_paper 75 = .ok (.getfield 8, 3) := by decide +kernel
theorem dX12_paper_78 : decode cX12_paper 78 = .ok (.sipush 670, 3) := by decide +kernel
theorem dX12_paper_81 : decode cX12_paper 81 = .ok (.iload 7, 2) := by decide +kernel
theorem dX12_paper_83 : decode cX12_paper 83 = .ok (.iadd, 1) := by decide +kernel
theorem dX12_paper_84 : decode cX12_paper 84 = .ok (.iload 5, 2) := by decide +kernel
theorem dX12_paper_86 : decode cX12_paper 86 = .ok (.iastore, 1) := by decide +kernel
theorem dX12_paper_87 : decode cX12_paper 87 = .ok (.aload_n 0, 1) := by decide +kernel
theorem dX12_paper_88 : decode cX12_paper 88 = .ok (.getfield 8, 3) := by decide +kernel
theorem dX12_paper_91 : decode cX12_paper 91 = .ok (.sipush 730, 3) := by decide +kernel
theorem dX12_paper_94 : decode cX12_paper 94 = .ok (.iload 7, 2) := by decide +kernel
theorem dX12_paper_96 : decode cX12_paper 96 = .ok (.iadd, 1) := by decide +kernel
theorem dX12_paper_97 : decode cX12_paper 97 = .ok (.iload 6, 2) := by decide +kernel
theorem dX12_paper_99 : decode cX12_paper 99 = .ok (.iastore, 1) := by decide +kernel
theorem dX12_paper_100 : decode cX12_paper 100 = .ok (.aload_n 0, 1) := by decide +kernel
theorem dX12_paper_101 : decode cX12_paper 101 = .ok (.getfield 8, 3) := by decide +kernel
theorem dX12_paper_104 : decode cX12_paper 104 = .ok (.sipush 790, 3) := by decide +kernel
theorem dX12_paper_107 : decode cX12_paper 107 = .ok (.iload 7, 2) := by decide +kernel
theorem dX12_paper_109 : decode cX12_paper 109 = .ok (.iadd, 1) := by decide +kernel
theorem dX12_paper_110 : decode cX12_paper 110 = .ok (.iconst 0, 1) := by decide +kernel
theorem dX12_paper_111 : decode cX12_paper 111 = .ok (.iastore, 1) := by decide +kernel
theorem dX12_paper_112 : decode cX12_paper 112 = .ok (.aload_n 0, 1) := by decide +kernel
theorem dX12_paper_113 : decode cX12_paper 113 = .ok (.getfield 8, 3) := by decide +kernel
theorem dX12_paper_116 : decode cX12_paper 116 = .ok (.iconst 2, 1) := by decide +kernel
theorem dX12_paper_117 : decode cX12_paper 117 = .ok (.dup2, 1) := by decide +kernel
theorem dX12_paper_118 : decode cX12_paper 118 = .ok (.iaload, 1) := by decide +kernel
theorem dX12_paper_119 : decode cX12_paper 119 = .ok (.iconst 1, 1) := by decide +kernel
theorem dX12_paper_120 : decode cX12_paper 120 = .ok (.iadd, 1) := by decide +kernel
theorem dX12_paper_121 : decode cX12_paper 121 = .ok (.iastore, 1) := by decide +kernel
theorem dX12_paper_122 : decode cX12_paper 122 = .ok (.iload 7, 2) := by decide +kernel
theorem dX12_paper_124 : decode cX12_paper 124 = .ok (.ireturn, 1) := by decide +kernel
theorem cm_X12_paper : CM yX12_paper cX12_paper 8 (some .int) 6 12 := ⟨w_1601, w_55, w_1602, w_97, ⟨by decide +kernel, by decide +kernel, by decide +kernel⟩, ⟨_, _, rfl⟩, by decide⟩
noncomputable def f_X12_paper (n : Nat) (v0 v1 v2 v3 v4 v5 v6 : Int) (h : MM) : RR :=
  gf h v0 12 1 fun r1 =>
  rd h r1 100 2 fun r2 =>
  gf h v0 12 1 fun r3 =>
  wt h r3 100 (wr (370 + r2)) v1 fun h4 =>
  gf h4 v0 12 1 fun r5 =>
  wt h4 r5 100 (wr (430 + r2)) v2 fun h6 =>
  gf h6 v0 12 1 fun r7 =>
  gf h6 v0 12 1 fun r8 =>
  rd h6 r8 100 0 fun r9 =>
  wt h6 r7 100 (wr (490 + r2)) r9 fun h10 =>
  gf h10 v0 12 1 fun r11 =>
  wt h10 r11 100 (wr (550 + r2)) v3 fun h12 =>
  gf h12 v0 12 1 fun r13 =>
  wt h12 r13 100 (wr (610 + r2)) v4 fun h14 =>
  gf h14 v0 12 1 fun r15 =>
  wt h14 r15 100 (wr (670 + r2)) v5 fun h16 =>
  gf h16 v0 12 1 fun r17 =>
  wt h16 r17 100 (wr (730 + r2)) v6 fun h18 =>
  gf h18 v0 12 1 fun r19 =>
  wt h18 r19 100 (wr (790 + r2)) 0 fun h20 =>
  gf h20 v0 12 1 fun r21 =>
  rd h20 r21 100 2 fun r22 =>
  wt h20 r21 100 2 (wr (r22 + 1)) fun h23 =>
  some (r2, h23)
set_option maxRecDepth 20000 in
theorem e_X12_paper {g : GT} {Z : Int × MM} {n : Nat} (C : Cx g cX12_paper 8 yX12_paper 0 0) (hr : Rt g (some .int) 0 Z) {v0 v1 v2 v3 v4 v5 v6 : Int} (cv0 : cK 2 v0) (cv1 : cK 0 v1) (cv2 : cK 0 v2) (cv3 : cK 0 v3) (cv4 : cK 0 v4) (cv5 : cK 0 v5) (cv6 : cK 0 v6) {h : MM} (hf : f_X12_paper n v0 v1 v2 v3 v4 v5 v6 h = some Z) : G g 0 [(2, v0), (0, v1), (0, v2), (0, v3), (0, v4), (0, v5), (0, v6), (3, 0)] [] h := by
  have cv1 : in32 v1 := cv1
  have cv2 : in32 v2 := cv2
  have cv3 : in32 v3 := cv3
  have cv4 : in32 v4 := cv4
  have cv5 : in32 v5 := cv5
  have cv6 : in32 v6 := cv6
  unfold f_X12_paper at hf
  refine r_aload_n C dX12_paper_0 rfl ?_
  obtain ⟨q1, hf⟩ := gf_s hf
  refine r_gf C ct12 (j := 1) (ji := 1) dX12_paper_1 q1 rfl rfl (by decide) w_1426 rfl (fun c1 => ?_)
  refine r_iconst C dX12_paper_4 ?_
  obtain ⟨q2, hf⟩ := rd_s hf
  refine r_iald C dX12_paper_5 q2 rfl (fun c2 => ?_)
  refine r_istore C dX12_paper_6 (Nat.le_of_ble_eq_true rfl) rfl ?_
  refine r_aload_n C dX12_paper_8 rfl ?_
  obtain ⟨q3, hf⟩ := gf_s hf
  refine r_gf C ct12 (j := 1) (ji := 1) dX12_paper_9 q3 rfl rfl (by decide) w_1426 rfl (fun c3 => ?_)
  refine r_sipush C dX12_paper_12 rfl ?_
  refine r_iload C dX12_paper_15 rfl ?_
  refine r_iadd C dX12_paper_17 ?_
  refine r_iload_n C dX12_paper_18 rfl ?_
  obtain ⟨q4, hf⟩ := wt_s hf
  refine r_iast C dX12_paper_19 q4 rfl cv1 ?_
  refine r_aload_n C dX12_paper_20 rfl ?_
  obtain ⟨q5, hf⟩ := gf_s hf
  refine r_gf C ct12 (j := 1) (ji := 1) dX12_paper_21 q5 rfl rfl (by decide) w_1426 rfl (fun c5 => ?_)
  refine r_sipush C dX12_paper_24 rfl ?_
  refine r_iload C dX12_paper_27 rfl ?_
  refine r_iadd C dX12_paper_29 ?_
  refine r_iload_n C dX12_paper_30 rfl ?_
  obtain ⟨q6, hf⟩ := wt_s hf
  refine r_iast C dX12_paper_31 q6 rfl cv2 ?_
  refine r_aload_n C dX12_paper_32 rfl ?_
  obtain ⟨q7, hf⟩ := gf_s hf
  refine r_gf C ct12 (j := 1) (ji := 1) dX12_paper_33 q7 rfl rfl (by decide) w_1426 rfl (fun c7 => ?_)
  refine r_sipush C dX12_paper_36 rfl ?_
  refine r_iload C dX12_paper_39 rfl ?_
  refine r_iadd C dX12_paper_41 ?_
  refine r_aload_n C dX12_paper_42 rfl ?_
  obtain ⟨q8, hf⟩ := gf_s hf
  refine r_gf C ct12 (j := 1) (ji := 1) dX12_paper_43 q8 rfl rfl (by decide) w_1426 rfl (fun c8 => ?_)
  refine r_iconst C dX12_paper_46 ?_
  obtain ⟨q9, hf⟩ := rd_s hf
  refine r_iald C dX12_paper_47 q9 rfl (fun c9 => ?_)
  obtain ⟨q10, hf⟩ := wt_s hf
  refine r_iast C dX12_paper_48 q10 rfl c9 ?_
  refine r_aload_n C dX12_paper_49 rfl ?_
  obtain ⟨q11, hf⟩ := gf_s hf
  refine r_gf C ct12 (j := 1) (ji := 1) dX12_paper_50 q11 rfl rfl (by decide) w_1426 rfl (fun c11 => ?_)
  refine r_sipush C dX12_paper_53 rfl ?_
  refine r_iload C dX12_paper_56 rfl ?_
  refine r_iadd C dX12_paper_58 ?_
  refine r_iload_n C dX12_paper_59 rfl ?_
  obtain ⟨q12, hf⟩ := wt_s hf
  refine r_iast C dX12_paper_60 q12 rfl cv3 ?_
  refine r_aload_n C dX12_paper_61 rfl ?_
  obtain ⟨q13, hf⟩ := gf_s hf
  refine r_gf C ct12 (j := 1) (ji := 1) dX12_paper_62 q13 rfl rfl (by decide) w_1426 rfl (fun c13 => ?_)
  refine r_sipush C dX12_paper_65 rfl ?_
  refine r_iload C dX12_paper_68 rfl ?_
  refine r_iadd C dX12_paper_70 ?_
  refine r_iload C dX12_paper_71 rfl ?_
  obtain ⟨q14, hf⟩ := wt_s hf
  refine r_iast C dX12_paper_73 q14 rfl cv4 ?_
  refine r_aload_n C dX12_paper_74 rfl ?_
  obtain ⟨q15, hf⟩ := gf_s hf
  refine r_gf C ct12 (j := 1) (ji := 1) dX12_paper_75 q15 rfl rfl (by decide) w_1426 rfl (fun c15 => ?_)
  refine r_sipush C dX12_paper_78 rfl ?_
  refine r_iload C dX12_paper_81 rfl ?_
  refine r_iadd C dX12_paper_83 ?_
  refine r_iload C dX12_paper_84 rfl ?_
  obtain ⟨q16, hf⟩ := wt_s hf
  refine r_iast C dX12_paper_86 q16 rfl cv5 ?_
  refine r_aload_n C dX12_paper_87 rfl ?_
  obtain ⟨q17, hf⟩ := gf_s hf
  refine r_gf C ct12 (j := 1) (ji := 1) dX12_paper_88 q17 rfl rfl (by decide) w_1426 rfl (fun c17 => ?_)
  refine r_sipush C dX12_paper_91 rfl ?_
  refine r_iload C dX12_paper_94 rfl ?_
  refine r_iadd C dX12_paper_96 ?_
  refine r_iload C dX12_paper_97 rfl ?_
  obtain ⟨q18, hf⟩ := wt_s hf
  refine r_iast C dX12_paper_99 q18 rfl cv6 ?_
  refine r_aload_n C dX12_paper_100 rfl ?_
  obtain ⟨q19, hf⟩ := gf_s hf
  refine r_gf C ct12 (j := 1) (ji := 1) dX12_paper_101 q19 rfl rfl (by decide) w_1426 rfl (fun c19 => ?_)
  refine r_sipush C dX12_paper_104 rfl ?_
  refine r_iload C dX12_paper_107 rfl ?_
  refine r_iadd C dX12_paper_109 ?_
  refine r_iconst C dX12_paper_110 ?_
  obtain ⟨q20, hf⟩ := wt_s hf
  refine r_iast C dX12_paper_111 q20 rfl (in32_of rfl) ?_
  refine r_aload_n C dX12_paper_112 rfl ?_
  obtain ⟨q21, hf⟩ := gf_s hf
  refine r_gf C ct12 (j := 1) (ji := 1) dX12_paper_113 q21 rfl rfl (by decide) w_1426 rfl (fun c21 => ?_)
  refine r_iconst C dX12_paper_116 ?_
  refine r_dup2 C dX12_paper_117 (by decide) (by decide) ?_
  obtain ⟨q22, hf⟩ := rd_s hf
  refine r_iald C dX12_paper_118 q22 rfl (fun c22 => ?_)
  refine r_iconst C dX12_paper_119 ?_
  refine r_iadd C dX12_paper_120 ?_
  obtain ⟨q23, hf⟩ := wt_s hf
  refine r_iast C dX12_paper_121 q23 rfl (in32_t _) ?_
  refine r_iload C dX12_paper_122 rfl ?_
  cases hf
  exact r_jret C hr dX12_paper_124 c2
set_option maxRecDepth 20000 in
theorem am_X12_paper (l : Launch) (n : Nat) : AM l yX12_paper cX12_paper 8 (some .int) 0 0 [2, 0, 0, 0, 0, 0, 0] 0 (un7 (f_X12_paper n)) := by
  refine AM.intro (by decide) (fun xs hx => ?_) (fun g xs h Z hl C hr hx hf => ?_)
  · obtain ⟨a0, a1, a2, a3, a4, a5, a6, rfl, c0, c1, c2, c3, c4, c5, c6⟩ := canL_7 hx
    exact Nat.le_of_ble_eq_true rfl
  · obtain ⟨a0, a1, a2, a3, a4, a5, a6, rfl, c0, c1, c2, c3, c4, c5, c6⟩ := canL_7 hx
    have hf := (un7_e _ a0 a1 a2 a3 a4 a5 a6 _).symm.trans hf
    exact e_X12_paper (n := n) C hr c0 c1 c2 c3 c4 c5 c6 hf
/-! LinesPromisedModel.scheme(IIII)I -/
theorem dX12_scheme_0 : decode cX12_scheme 0 = .ok (.aload_n 0, 1) := by decide +kernel
theorem dX12_scheme_1 : decode cX12_scheme 1 = .ok (.iload_n 1, 1) := by decide +kernel
theorem dX12_scheme_2 : decode cX12_scheme 2 = .ok (.invokevirtual 155, 3) := by decide +kernel
theorem dX12_scheme_5 : decode cX12_scheme 5 = .ok (.ifCond .eq 11, 3) := by decide +kernel
theorem dX12_scheme_8 : decode cX12_scheme 8 = .ok (.aload_n 0, 1) := by decide +kernel
theorem dX12_scheme_9 : decode cX12_scheme 9 = .ok (.iload_n 2, 1) := by decide +kernel
theorem dX12_scheme_10 : decode cX12_scheme 10 = .ok (.invokevirtual 155, 3) := by decide +kernel
theorem dX12_scheme_13 : decode cX12_scheme 13 = .ok (.ifCond .ne 5, 3) := by decide +kernel
theorem dX12_scheme_16 : decode cX12_scheme 16 = .ok (.iconst (-1), 1) := by decide +kernel
theorem dX12_scheme_17 : decode cX12_scheme 17 = .ok (.ireturn, 1) := by decide +kernel
theorem dX12_scheme_18 : decode cX12_scheme 18 = .ok (.iload_n 1, 1) := by decide +kernel
theorem dX12_scheme_19 : decode cX12_scheme 19 = .ok (.iload_n 2, 1) := by decide +kernel
theorem dX12_scheme_20 : decode cX12_scheme 20 = .ok (.if_icmp .eq 23, 3) := by decide +kernel
theorem dX12_scheme_23 : decode cX12_scheme 23 = .ok (.iload_n 3, 1) := by decide +kernel
theorem dX12_scheme_24 : decode cX12_scheme 24 = .ok (.iconst 0, 1) := by decide +kernel
theorem dX12_scheme_25 : decode cX12_scheme 25 = .ok (.iconst 1, 1) := by decide +kernel
theorem dX12_scheme_26 : decode cX12_scheme 26 = .ok (.invokestatic 58, 3) := by decide +kernel
theorem dX12_scheme_29 : decode cX12_scheme 29 = .ok (.ifCond .eq 14, 3) := by decide +kernel
theorem dX12_scheme_32 : decode cX12_scheme 32 = .ok (.iload 4, 2) := by decide +kernel
theorem dX12_scheme_34 : decode cX12_scheme 34 = .ok (.iconst 1, 1) := by decide +kernel
theorem dX12_scheme_35 : decode cX12_scheme 35 = .ok (.bipush 99, 2) := by decide +kernel
theorem dX12_scheme_37 : decode cX12_scheme 37 = .ok (.invokestatic 58, 3) := by decide +kernel
theorem dX12_scheme_40 : decode cX12_scheme 40 = .ok (.ifCond .ne 6, 3) := by decide +kernel
theorem dX12_scheme_43 : decode cX12_scheme 43 = .ok (.bipush (-2), 2) := by decide +kernel
theorem dX12_scheme_45 : decode cX12_scheme 45 = .ok (.ireturn, 1) := by decide +kernel
theorem dX12_scheme_46 : decode cX12_scheme 46 = .ok (.aload_n 0, 1) := by decide +kernel
theorem dX12_scheme_47 : decode cX12_scheme 47 = .ok (.getfield 8, 3) := by decide +kernel
theorem dX12_scheme_50 : decode cX12_scheme 50 = .ok (.iconst 2, 1) := by decide +kernel
theorem dX12_scheme_51 : decode cX12_scheme 51 = .ok (.iaload, 1) := by decide +kernel
theorem dX12_scheme_52 : decode cX12_scheme 52 = .ok (.bipush 60, 2) := by decide +kernel
theorem dX12_scheme_54 : decode cX12_scheme 54 = .ok (.if_icmp .eq 15, 3) := by decide +kernel
theorem dX12_scheme_57 : decode cX12_scheme 57 = .ok (.aload_n 0, 1) := by decide +kernel
theorem dX12_scheme_58 : decode cX12_scheme 58 = .ok (.getfield 8, 3) := by decide +kernel
theorem dX12_scheme_61 : decode cX12_scheme 61 = .ok (.bipush 9, 2) := by decide +kernel
theorem dX12_scheme_63 : decode cX12_scheme 63 = .ok (.iaload, 1) := by decide +kernel
theorem dX12_scheme_64 : decode cX12_scheme 64 = .ok (.bipush 12, 2) := by decide +kernel
theorem dX12_scheme_66 : decode cX12_scheme 66 = .ok (.if_icmp .ne 6, 3) := by decide +kernel
theorem dX12_scheme_69 : decode cX12_scheme 69 = .ok (.bipush (-4), 2) := by decide +kernel
theorem dX12_scheme_71 : decode cX12_scheme 71 = .ok (.ireturn, 1) := by decide +kernel
theorem dX12_scheme_72 : decode cX12_scheme 72 = .ok (.aload_n 0, 1) := by decide +kernel
theorem dX12_scheme_73 : decode cX12_scheme 73 = .ok (.getfield 8, 3) := by decide +kernel
theorem dX12_scheme_76 : decode cX12_scheme 76 = .ok (.bipush 9, 2) := by decide +kernel
theorem dX12_scheme_78 : decode cX12_scheme 78 = .ok (.iaload, 1) := by decide +kernel
theorem dX12_scheme_79 : decode cX12_scheme 79 = .ok (.istore 5, 2) := by decide +kernel
theorem dX12_scheme_81 : decode cX12_scheme 81 = .ok (.aload_n 0, 1) := by decide +kernel
theorem dX12_scheme_82 : decode cX12_scheme 82 = .ok (.getfield 8, 3) := by decide +kernel
theorem dX12_scheme_85 : decode cX12_scheme 85 = .ok (.bipush 9, 2) := by decide +kernel
theorem dX12_scheme_87 : decode cX12_scheme 87 = .ok (.dup2, 1) := by decide +kernel
theorem dX12_scheme_88 : decode cX12_scheme 88 = .ok (.iaload, 1) := by decide +kernel
theorem dX12_scheme_89 : decode cX12_scheme 89 = .ok (.iconst 1, 1) := by decide +kernel
theorem dX12_scheme_90 : decode cX12_scheme 90 = .ok (.iadd, 1) := by decide +kernel
theorem dX12_scheme_91 : decode cX12_scheme 91 = .ok (.iastore, 1) := by decide +kernel
theorem dX12_scheme_92 : decode cX12_scheme 92 = .ok (.aload_n 0, 1) := by decide +kernel
theorem dX12_scheme_93 : decode cX12_scheme 93 = .ok (.iconst 1, 1) := by decide +kernel
theorem dX12_scheme_94 : decode cX12_scheme 94 = .ok (.iconst (-1), 1) := by decide +kernel
theorem dX12_scheme_95 : decode cX12_scheme 95 = .ok (.iload_n 1, 1) := by decide +kernel
theorem dX12_scheme_96 : decode cX12_scheme 96 = .ok (.iload_n 2, 1) := by decide +kernel
theorem dX12_scheme_97 : decode cX12_scheme 97 = .ok (.iload_n 3, 1) := by decide +kernel
theorem dX12_scheme_98 : decode cX12_scheme 98 = .ok (.iload 4, 2) := by decide +kernel
theorem dX12_scheme_100 : decode cX12_scheme 100 = .ok (.invokevirtual 158, 3) := by decide +kernel
theorem dX12_scheme_103 : decode cX12_scheme 103 = .ok (.istore 6, 2) := by decide +kernel
theorem dX12_scheme_105 : decode cX12_scheme 105 = .ok (.aload_n 0, 1) := by decide +kernel
theorem dX12_scheme_106 : decode cX12_scheme 106 = .ok (.getfield 8, 3) := by decide +kernel
theorem dX12_scheme_109 : decode cX12_scheme 109 = .ok (.sipush 11490, 3) := by decide +kernel
theorem dX12_scheme_112 : decode cX12_scheme 112 = .ok (.iload 5, 2) := by decide +kernel
theorem dX12_scheme_114 : decode cX12_scheme 114 = .ok (.iadd, 1) := by decide +kernel
theorem dX12_scheme_115 : decode cX12_scheme 115 = .ok (.iload 6, 2) := by decide +kernel
theorem dX12_scheme_117 : decode cX12_scheme 117 = .ok (.iastore, 1) := by decide +kernel
theorem dX12_scheme_118 : decode cX12_scheme 118 = .ok (.aload_n 0, 1) := by decide +kernel
theorem dX12_scheme_119 : decode cX12_scheme 119 = .ok (.getfield 8, 3) := by decide +kernel
theorem dX12_scheme_122 : decode cX12_scheme 122 = .ok (.sipush 11502, 3) := by decide +kernel
theorem dX12_scheme_125 : decode cX12_scheme 125 = .ok (.iload 5, 2) := by decide +kernel
theorem dX12_scheme_127 : decode cX12_scheme 127 = .ok (.iadd, 1) := by decide +kernel
theorem dX12_scheme_128 : decode cX12_scheme 128 = .ok (.iconst 0, 1) := by decide +kernel
theorem dX12_scheme_129 : decode cX12_scheme 129 = .ok (.iastore, 1) := by decide +kernel
theorem dX12_scheme_130 : decode cX12_scheme 130 = .ok (.aload_n 0, 1) := by decide +kernel
theorem dX12_scheme_131 : decode cX12_scheme 131 = .ok (.getfield 8, 3) := by decide +kernel
theorem dX12_scheme_134 : decode cX12_scheme 134 = .ok (.sipush 11514, 3) := by decide +kernel
theorem dX12_scheme_137 : decode cX12_scheme 137 = .ok (.iload 5, 2) := by decide +kernel
theorem dX12_scheme_139 : decode cX12_scheme 139 = .ok (.iadd, 1) := by decide +kernel
theorem dX12_scheme_140 : decode cX12_scheme 140 = .ok (.bipush (-5), 2) := by decide +kernel
theorem dX12_scheme_142 : decode cX12_scheme 142 = .ok (.iastore, 1) := by decide +kernel
theorem dX12_scheme_143 : decode cX12_scheme 143 = .ok (.iconst 0, 1) := by decide +kernel
theorem dX12_scheme_144 : decode cX12_scheme 144 = .ok (.istore 7, 2) := by decide +kernel
theorem dX12_scheme_146 : decode cX12_scheme 146 = .ok (.iload 7, 2) := by decide +kernel
theorem dX12_scheme_148 : decode cX12_scheme 148 = .ok (.bipush 9, 2) := by decide +kernel
theorem dX12_scheme_150 : decode cX12_scheme 150 = .ok (.if_icmp .ge 39, 3) := by decide +kernel
theorem dX12_scheme_153 : decode cX12_scheme 153 = .ok (.aload_n 0, 1) := by decide +kernel
theorem dX12_scheme_154 : decode cX12_scheme 154 = .ok (.getfield 8, 3) := by decide +kernel
theorem dX12_scheme_157 : decode cX12_scheme 157 = .ok (.sipush 11530, 3) := by decide +kernel
theorem dX12_scheme_160 : decode cX12_scheme 160 = .ok (.bipush 9, 2) := by decide +kernel
theorem dX12_scheme_162 : decode cX12_scheme 162 = .ok (.iload 5, 2) := by decide +kernel
theorem dX12_scheme_164 : decode cX12_scheme 164 = .ok (.imul, 1) := by decide +kernel
theorem dX12_scheme_165 : decode cX12_scheme 165 = .ok (.iadd, 1) := by decide +kernel
theorem dX12_scheme_166 : decode cX12_scheme 166 = .ok (.iload 7, 2) := by decide +kernel
theorem dX12_scheme_168 : decode cX12_scheme 168 = .ok (.iadd, 1) := by decide +kernel
theorem dX12_scheme_169 : decode cX12_scheme 169 = .ok (.iload 7, 2) := by decide +kernel
theorem dX12_scheme_171 : decode cX12_scheme 171 = .ok (.bipush 8, 2) := by decide +kernel
theorem dX12_scheme_173 : decode cX12_scheme 173 = .ok (.if_icmp .ne 8, 3) := by decide +kernel
theorem dX12_scheme_176 : decode cX12_scheme 176 = .ok (.iload 4, 2) := by decide +kernel
theorem dX12_scheme_178 : decode cX12_scheme 178 = .ok (.goto 4, 3) := by decide +kernel
theorem dX12_scheme_181 : decode cX12_scheme 181 = .ok (.iconst 0, 1) := by decide +kernel
theorem dX12_scheme_182 : decode cX12_scheme 182 = .ok (.iastore, 1) := by decide +kernel
theorem dX12_scheme_183 : decode cX12_scheme 183 = .ok (.iinc 7 1, 3) := by decide +kernel
theorem dX12_scheme_186 : decode cX12_scheme 186 = .ok (.goto (-40), 3) := by decide +kernel
theorem dX12_scheme_189 : decode cX12_scheme 189 = .ok (.iload 6, 2) := by decide +kernel
theorem dX12_scheme_191 : decode cX12_scheme 191 = .ok (.ireturn, 1) := by decide +kernel
theorem cm_X12_scheme : CM yX12_scheme cX12_scheme 8 (some .int) 4 12 := ⟨w_1592, w_1593, w_1594, w_97, ⟨by decide +kernel, by decide +kernel, by decide +kernel⟩, ⟨_, _, rfl⟩, by decide⟩
noncomputable def f_X12_scheme_16 (n : Nat)  (h : MM) : RR :=
  some ((-1), h)
noncomputable def f_X12_scheme_43 (n : Nat)  (h : MM) : RR :=
  some ((-2), h)
noncomputable def f_X12_scheme_69 (n : Nat)  (h : MM) : RR :=
  some ((-4), h)
noncomputable def f_X12_scheme_182 (n : Nat) (rec146 : Int → MM → RR) (v0 v4 v5 v6 v7 s0 s1 s2 : Int) (h : MM) : RR :=
  wt h s0 100 s1 s2 fun h1 =>
  lb (wr (v7 + 1)) fun x2 =>
  rec146 x2 h1
noncomputable def f_X12_scheme_146b (n : Nat) (rec146 : Int → MM → RR) (v0 v4 v5 v6 v7 : Int) (h : MM) : RR :=
  if 9 ≤ v7 then
    some (v6, h)
  else
  gf h v0 12 1 fun r2 =>
  if v7 = 8 then
    f_X12_scheme_182 n rec146 v0 v4 v5 v6 v7 r2 (wr ((wr (11530 + (wr (9 * v5)))) + v7)) v4 h
  else
  f_X12_scheme_182 n rec146 v0 v4 v5 v6 v7 r2 (wr ((wr (11530 + (wr (9 * v5)))) + v7)) 0 h
noncomputable def f_X12_scheme_146 (n : Nat)  (v0 v4 v5 v6 : Int) : Nat → Int → MM → RR
  | 0, _, _ => none
  | k + 1, v7, h => f_X12_scheme_146b n  (f_X12_scheme_146 n  v0 v4 v5 v6 k) v0 v4 v5 v6 v7 h
noncomputable def f_X12_scheme (n : Nat) (v0 v1 v2 v3 v4 : Int) (h : MM) : RR :=
  gk h v0 12 <|
  bd (f_X12_isTown n v0 v1 h) fun r1 h1 =>
  if r1 = 0 then
    f_X12_scheme_16 n h1
  else
  gk h1 v0 12 <|
  bd (f_X12_isTown n v0 v2 h1) fun r3 h3 =>
  if r3 = 0 then
    f_X12_scheme_16 n h3
  else
  if v1 = v2 then
    f_X12_scheme_43 n h3
  else
  bd (f_X12_in n v3 0 1 h3) fun r6 h6 =>
  if r6 = 0 then
    f_X12_scheme_43 n h6
  else
  bd (f_X12_in n v4 1 99 h6) fun r8 h8 =>
  if r8 = 0 then
    f_X12_scheme_43 n h8
  else
  gf h8 v0 12 1 fun r10 =>
  rd h8 r10 100 2 fun r11 =>
  if r11 = 60 then
    f_X12_scheme_69 n h8
  else
  gf h8 v0 12 1 fun r13 =>
  rd h8 r13 100 9 fun r14 =>
  if r14 = 12 then
    f_X12_scheme_69 n h8
  else
  gf h8 v0 12 1 fun r16 =>
  rd h8 r16 100 9 fun r17 =>
  gf h8 v0 12 1 fun r18 =>
  rd h8 r18 100 9 fun r19 =>
  wt h8 r18 100 9 (wr (r19 + 1)) fun h20 =>
  gk h20 v0 12 <|
  bd (f_X12_paper n v0 1 ((-1)) v1 v2 v3 v4 h20) fun r21 h21 =>
  gf h21 v0 12 1 fun r22 =>
  wt h21 r22 100 (wr (11490 + r17)) r21 fun h23 =>
  gf h23 v0 12 1 fun r24 =>
  wt h23 r24 100 (wr (11502 + r17)) 0 fun h25 =>
  gf h25 v0 12 1 fun r26 =>
  wt h25 r26 100 (wr (11514 + r17)) ((-5)) fun h27 =>
  f_X12_scheme_146 n v0 v4 r17 r21 n 0 h27
set_option maxRecDepth 20000 in
theorem b_X12_scheme_16 {g : GT} {Z : Int × MM} {n : Nat} (C : Cx g cX12_scheme 8 yX12_scheme 2 43) (hr : Rt g (some .int) 0 Z)     {h : MM} (hf : f_X12_scheme_16 n   h = some Z) : G g 16 [(3, 0), (3, 0), (3, 0), (3, 0), (3, 0), (3, 0), (3, 0), (3, 0)] [] h := by
  unfold f_X12_scheme_16 at hf
  refine r_iconst C dX12_scheme_16 ?_
  cases hf
  exact r_jret C hr dX12_scheme_17 (in32_of rfl)
set_option maxRecDepth 20000 in
theorem b_X12_scheme_43 {g : GT} {Z : Int × MM} {n : Nat} (C : Cx g cX12_scheme 8 yX12_scheme 2 43) (hr : Rt g (some .int) 0 Z)     {h : MM} (hf : f_X12_scheme_43 n   h = some Z) : G g 43 [(3, 0), (3, 0), (3, 0), (3, 0), (3, 0), (3, 0), (3, 0), (3, 0)] [] h := by
  unfold f_X12_scheme_43 at hf
  refine r_bipush C dX12_scheme_43 rfl ?_
  cases hf
  exact r_jret C hr dX12_scheme_45 (in32_of rfl)
set_option maxRecDepth 20000 in
theorem b_X12_scheme_69 {g : GT} {Z : Int × MM} {n : Nat} (C : Cx g cX12_scheme 8 yX12_scheme 2 43) (hr : Rt g (some .int) 0 Z)     {h : MM} (hf : f_X12_scheme_69 n   h = some Z) : G g 69 [(3, 0), (3, 0), (3, 0), (3, 0), (3, 0), (3, 0), (3, 0), (3, 0)] [] h := by
  unfold f_X12_scheme_69 at hf
  refine r_bipush C dX12_scheme_69 rfl ?_
  cases hf
  exact r_jret C hr dX12_scheme_71 (in32_of rfl)
set_option maxRecDepth 20000 in
theorem b_X12_scheme_182 {g : GT} {Z : Int × MM} {n : Nat} (C : Cx g cX12_scheme 8 yX12_scheme 2 43) (hr : Rt g (some .int) 0 Z) {v0 v4 v5 v6 v7 s0 s1 s2 : Int}  {rec146 : Int → MM → RR} (L146 : ∀ (u7 : Int) (h : MM), in32 u7 → rec146 u7 h = some Z → G g 146 [(2, v0), (3, 0), (3, 0), (3, 0), (0, v4), (0, v5), (0, v6), (0, u7)] [] h) (cv4 : in32 v4) (cv5 : in32 v5) (cv6 : in32 v6) (cv7 : in32 v7) (cs1 : in32 s1) (cs2 : in32 s2) {h : MM} (hf : f_X12_scheme_182 n rec146 v0 v4 v5 v6 v7 s0 s1 s2 h = some Z) : G g 182 [(2, v0), (3, 0), (3, 0), (3, 0), (0, v4), (0, v5), (0, v6), (0, v7)] [(0, s2), (0, s1), (2, s0)] h := by
  unfold f_X12_scheme_182 at hf
  obtain ⟨q1, hf⟩ := wt_s hf
  refine r_iast C dX12_scheme_182 q1 rfl cs2 ?_
  obtain ⟨x2, e2, hf⟩ := lb_s hf
  have c2 : in32 x2 := by rw [e2]; exact (in32_t _)
  refine r_iincL C dX12_scheme_183 rfl e2 (Nat.le_of_ble_eq_true rfl) rfl ?_
  refine r_goto C dX12_scheme_186 (tgt := 146) (by decide) ?_
  exact G.mask [true, false, false, false, true, true, true, true] rfl rfl (L146 _ _ c2 hf)
set_option maxRecDepth 20000 in
theorem b_X12_scheme_146b {g : GT} {Z : Int × MM} {n : Nat} (C : Cx g cX12_scheme 8 yX12_scheme 2 43) (hr : Rt g (some .int) 0 Z) {v0 v4 v5 v6 v7 : Int}  {rec146 : Int → MM → RR} (L146 : ∀ (u7 : Int) (h : MM), in32 u7 → rec146 u7 h = some Z → G g 146 [(2, v0), (3, 0), (3, 0), (3, 0), (0, v4), (0, v5), (0, v6), (0, u7)] [] h) (cv4 : in32 v4) (cv5 : in32 v5) (cv6 : in32 v6) (cv7 : in32 v7) {h : MM} (hf : f_X12_scheme_146b n rec146 v0 v4 v5 v6 v7 h = some Z) : G g 146 [(2, v0), (3, 0), (3, 0), (3, 0), (0, v4), (0, v5), (0, v6), (0, v7)] [] h := by
  unfold f_X12_scheme_146b at hf
  refine r_iload C dX12_scheme_146 rfl ?_
  refine r_bipush C dX12_scheme_148 rfl ?_
  refine r_icmp_ge C dX12_scheme_150 (tgt := 189) (by decide) cv7 (in32_of rfl) (fun n1 => ?_) (fun n1 => ?_)
  · have hf := ite_p n1 hf
    refine r_iload C dX12_scheme_189 rfl ?_
    cases hf
    exact r_jret C hr dX12_scheme_191 cv6
  · have hf := ite_n n1 hf
    refine r_aload_n C dX12_scheme_153 rfl ?_
    obtain ⟨q2, hf⟩ := gf_s hf
    refine r_gf C ct12 (j := 1) (ji := 1) dX12_scheme_154 q2 rfl rfl (by decide) w_1426 rfl (fun c2 => ?_)
    refine r_sipush C dX12_scheme_157 rfl ?_
    refine r_bipush C dX12_scheme_160 rfl ?_
    refine r_iload C dX12_scheme_162 rfl ?_
    refine r_imul C dX12_scheme_164 ?_
    refine r_iadd C dX12_scheme_165 ?_
    refine r_iload C dX12_scheme_166 rfl ?_
    refine r_iadd C dX12_scheme_168 ?_
    refine r_iload C dX12_scheme_169 rfl ?_
    refine r_bipush C dX12_scheme_171 rfl ?_
    refine r_icmp_ne C dX12_scheme_173 (tgt := 181) (by decide) cv7 (in32_of rfl) (fun n3 => ?_) (fun n3 => ?_)
    · have hf := ite_n n3 hf
      refine r_iconst C dX12_scheme_181 ?_
      exact G.mask [true, false, false, false, true, true, true, true] rfl rfl (b_X12_scheme_182 C hr L146 cv4 cv5 cv6 cv7 (in32_t _) (in32_of rfl) hf)
    · have hf := ite_p n3 hf
      refine r_iload C dX12_scheme_176 rfl ?_
      refine r_goto C dX12_scheme_178 (tgt := 182) (by decide) ?_
      exact G.mask [true, false, false, false, true, true, true, true] rfl rfl (b_X12_scheme_182 C hr L146 cv4 cv5 cv6 cv7 (in32_t _) cv4 hf)
set_option maxRecDepth 20000 in
theorem l_X12_scheme_146 {g : GT} {Z : Int × MM} {n : Nat} (C : Cx g cX12_scheme 8 yX12_scheme 2 43) (hr : Rt g (some .int) 0 Z) {v0 v4 v5 v6 : Int}   (cv4 : in32 v4) (cv5 : in32 v5) (cv6 : in32 v6) : ∀ (k : Nat) (v7 : Int) (h : MM), in32 v7 → f_X12_scheme_146 n  v0 v4 v5 v6 k v7 h = some Z → G g 146 [(2, v0), (3, 0), (3, 0), (3, 0), (0, v4), (0, v5), (0, v6), (0, v7)] [] h := by
  intro k
  induction k with
  | zero => intro v7 h cv7 hf; exact absurd hf (by intro z; cases z)
  | succ k ih => intro v7 h cv7 hf; exact b_X12_scheme_146b C hr (rec146 := f_X12_scheme_146 n  v0 v4 v5 v6 k)  ih cv4 cv5 cv6 cv7 (show f_X12_scheme_146b n  (f_X12_scheme_146 n  v0 v4 v5 v6 k) v0 v4 v5 v6 v7 h = some Z from hf)
set_option maxRecDepth 20000 in
theorem e_X12_scheme {g : GT} {Z : Int × MM} {n : Nat} (C : Cx g cX12_scheme 8 yX12_scheme 2 43) (hr : Rt g (some .int) 0 Z) {v0 v1 v2 v3 v4 : Int} (cv0 : cK 2 v0) (cv1 : cK 0 v1) (cv2 : cK 0 v2) (cv3 : cK 0 v3) (cv4 : cK 0 v4) {h : MM} (hf : f_X12_scheme n v0 v1 v2 v3 v4 h = some Z) : G g 0 [(2, v0), (0, v1), (0, v2), (0, v3), (0, v4), (3, 0), (3, 0), (3, 0)] [] h := by
  have cv1 : in32 v1 := cv1
  have cv2 : in32 v2 := cv2
  have cv3 : in32 v3 := cv3
  have cv4 : in32 v4 := cv4
  unfold f_X12_scheme at hf
  refine r_aload_n C dX12_scheme_0 rfl ?_
  refine r_iload_n C dX12_scheme_1 rfl ?_
  obtain ⟨p1, hf⟩ := gk_s hf
  obtain ⟨r1, h1, hq1, hf⟩ := bd_s hf
  refine r_cV1 C (am_X12_isTown (gl g) n) cm_X12_isTown w_1595 dX12_scheme_2 ⟨Nat.le_of_ble_eq_true rfl, Nat.le_of_ble_eq_true rfl⟩ p1 rfl cv1 rfl (Nat.le_of_ble_eq_true rfl) hq1 (by decide) (fun c1 => ?_)
  have c1 : in32 _ := c1
  refine r_if_eq C dX12_scheme_5 (tgt := 16) (by decide) c1 (fun n2 => ?_) (fun n2 => ?_)
  · have hf := ite_p n2 hf
    exact G.mask [false, false, false, false, false, false, false, false] rfl rfl (b_X12_scheme_16 C hr   hf)
  · have hf := ite_n n2 hf
    refine r_aload_n C dX12_scheme_8 rfl ?_
    refine r_iload_n C dX12_scheme_9 rfl ?_
    obtain ⟨p3, hf⟩ := gk_s hf
    obtain ⟨r3, h3, hq3, hf⟩ := bd_s hf
    refine r_cV1 C (am_X12_isTown (gl g) n) cm_X12_isTown w_1595 dX12_scheme_10 ⟨Nat.le_of_ble_eq_true rfl, Nat.le_of_ble_eq_true rfl⟩ p3 rfl cv2 rfl (Nat.le_of_ble_eq_true rfl) hq3 (by decide) (fun c3 => ?_)
    have c3 : in32 _ := c3
    refine r_if_ne C dX12_scheme_13 (tgt := 18) (by decide) c3 (fun n4 => ?_) (fun n4 => ?_)
    · have hf := ite_n n4 hf
      refine r_iload_n C dX12_scheme_18 rfl ?_
      refine r_iload_n C dX12_scheme_19 rfl ?_
      refine r_icmp_eq C dX12_scheme_20 (tgt := 43) (by decide) cv1 cv2 (fun n5 => ?_) (fun n5 => ?_)
      · have hf := ite_p n5 hf
        exact G.mask [false, false, false, false, false, false, false, false] rfl rfl (b_X12_scheme_43 C hr   hf)
      · have hf := ite_n n5 hf
        refine r_iload_n C dX12_scheme_23 rfl ?_
        refine r_iconst C dX12_scheme_24 ?_
        refine r_iconst C dX12_scheme_25 ?_
        obtain ⟨r6, h6, hq6, hf⟩ := bd_s hf
        refine r_cS3 C (am_X12_in (gl g) n) cm_X12_in w_1496 dX12_scheme_26 ⟨Nat.le_of_ble_eq_true rfl, Nat.le_of_ble_eq_true rfl⟩ cv3 (in32_of rfl) (in32_of rfl) rfl (Nat.le_of_ble_eq_true rfl) hq6 (by decide) (fun c6 => ?_)
        have c6 : in32 _ := c6
        refine r_if_eq C dX12_scheme_29 (tgt := 43) (by decide) c6 (fun n7 => ?_) (fun n7 => ?_)
        · have hf := ite_p n7 hf
          exact G.mask [false, false, false, false, false, false, false, false] rfl rfl (b_X12_scheme_43 C hr   hf)
        · have hf := ite_n n7 hf
          refine r_iload C dX12_scheme_32 rfl ?_
          refine r_iconst C dX12_scheme_34 ?_
          refine r_bipush C dX12_scheme_35 rfl ?_
          obtain ⟨r8, h8, hq8, hf⟩ := bd_s hf
          refine r_cS3 C (am_X12_in (gl g) n) cm_X12_in w_1496 dX12_scheme_37 ⟨Nat.le_of_ble_eq_true rfl, Nat.le_of_ble_eq_true rfl⟩ cv4 (in32_of rfl) (in32_of rfl) rfl (Nat.le_of_ble_eq_true rfl) hq8 (by decide) (fun c8 => ?_)
          have c8 : in32 _ := c8
          refine r_if_ne C dX12_scheme_40 (tgt := 46) (by decide) c8 (fun n9 => ?_) (fun n9 => ?_)
          · have hf := ite_n n9 hf
            refine r_aload_n C dX12_scheme_46 rfl ?_
            obtain ⟨q10, hf⟩ := gf_s hf
            refine r_gf C ct12 (j := 1) (ji := 1) dX12_scheme_47 q10 rfl rfl (by decide) w_1426 rfl (fun c10 => ?_)
            refine r_iconst C dX12_scheme_50 ?_
            obtain ⟨q11, hf⟩ := rd_s hf
            refine r_iald C dX12_scheme_51 q11 rfl (fun c11 => ?_)
            refine r_bipush C dX12_scheme_52 rfl ?_
            refine r_icmp_eq C dX12_scheme_54 (tgt := 69) (by decide) c11 (in32_of rfl) (fun n12 => ?_) (fun n12 => ?_)
            · have hf := ite_p n12 hf
              exact G.mask [false, false, false, false, false, false, false, false] rfl rfl (b_X12_scheme_69 C hr   hf)
            · have hf := ite_n n12 hf
              refine r_aload_n C dX12_scheme_57 rfl ?_
              obtain ⟨q13, hf⟩ := gf_s hf
              refine r_gf C ct12 (j := 1) (ji := 1) dX12_scheme_58 q13 rfl rfl (by decide) w_1426 rfl (fun c13 => ?_)
              refine r_bipush C dX12_scheme_61 rfl ?_
              obtain ⟨q14, hf⟩ := rd_s hf
              refine r_iald C dX12_scheme_63 q14 rfl (fun c14 => ?_)
              refine r_bipush C dX12_scheme_64 rfl ?_
              refine r_icmp_ne C dX12_scheme_66 (tgt := 72) (by decide) c14 (in32_of rfl) (fun n15 => ?_) (fun n15 => ?_)
              · have hf := ite_n n15 hf
                refine r_aload_n C dX12_scheme_72 rfl ?_
                obtain ⟨q16, hf⟩ := gf_s hf
                refine r_gf C ct12 (j := 1) (ji := 1) dX12_scheme_73 q16 rfl rfl (by decide) w_1426 rfl (fun c16 => ?_)
                refine r_bipush C dX12_scheme_76 rfl ?_
                obtain ⟨q17, hf⟩ := rd_s hf
                refine r_iald C dX12_scheme_78 q17 rfl (fun c17 => ?_)
                refine r_istore C dX12_scheme_79 (Nat.le_of_ble_eq_true rfl) rfl ?_
                refine r_aload_n C dX12_scheme_81 rfl ?_
                obtain ⟨q18, hf⟩ := gf_s hf
                refine r_gf C ct12 (j := 1) (ji := 1) dX12_scheme_82 q18 rfl rfl (by decide) w_1426 rfl (fun c18 => ?_)
                refine r_bipush C dX12_scheme_85 rfl ?_
                refine r_dup2 C dX12_scheme_87 (by decide) (by decide) ?_
                obtain ⟨q19, hf⟩ := rd_s hf
                refine r_iald C dX12_scheme_88 q19 rfl (fun c19 => ?_)
                refine r_iconst C dX12_scheme_89 ?_
                refine r_iadd C dX12_scheme_90 ?_
                obtain ⟨q20, hf⟩ := wt_s hf
                refine r_iast C dX12_scheme_91 q20 rfl (in32_t _) ?_
                refine r_aload_n C dX12_scheme_92 rfl ?_
                refine r_iconst C dX12_scheme_93 ?_
                refine r_iconst C dX12_scheme_94 ?_
                refine r_iload_n C dX12_scheme_95 rfl ?_
                refine r_iload_n C dX12_scheme_96 rfl ?_
                refine r_iload_n C dX12_scheme_97 rfl ?_
                refine r_iload C dX12_scheme_98 rfl ?_
                obtain ⟨p21, hf⟩ := gk_s hf
                obtain ⟨r21, h21, hq21, hf⟩ := bd_s hf
                refine r_cV6 C (am_X12_paper (gl g) n) cm_X12_paper w_1599 dX12_scheme_100 ⟨Nat.le_of_ble_eq_true rfl, Nat.le_of_ble_eq_true rfl⟩ p21 rfl (in32_of rfl) (in32_of rfl) cv1 cv2 cv3 cv4 rfl (Nat.le_of_ble_eq_true rfl) hq21 (by decide) (fun c21 => ?_)
                have c21 : in32 _ := c21
                refine r_istore C dX12_scheme_103 (Nat.le_of_ble_eq_true rfl) rfl ?_
                refine r_aload_n C dX12_scheme_105 rfl ?_
                obtain ⟨q22, hf⟩ := gf_s hf
                refine r_gf C ct12 (j := 1) (ji := 1) dX12_scheme_106 q22 rfl rfl (by decide) w_1426 rfl (fun c22 => ?_)
                refine r_sipush C dX12_scheme_109 rfl ?_
                refine r_iload C dX12_scheme_112 rfl ?_
                refine r_iadd C dX12_scheme_114 ?_
                refine r_iload C dX12_scheme_115 rfl ?_
                obtain ⟨q23, hf⟩ := wt_s hf
                refine r_iast C dX12_scheme_117 q23 rfl c21 ?_
                refine r_aload_n C dX12_scheme_118 rfl ?_
                obtain ⟨q24, hf⟩ := gf_s hf
                refine r_gf C ct12 (j := 1) (ji := 1) dX12_scheme_119 q24 rfl rfl (by decide) w_1426 rfl (fun c24 => ?_)
                refine r_sipush C dX12_scheme_122 rfl ?_
                refine r_iload C dX12_scheme_125 rfl ?_
                refine r_iadd C dX12_scheme_127 ?_
                refine r_iconst C dX12_scheme_128 ?_
                obtain ⟨q25, hf⟩ := wt_s hf
                refine r_iast C dX12_scheme_129 q25 rfl (in32_of rfl) ?_
                refine r_aload_n C dX12_scheme_130 rfl ?_
                obtain ⟨q26, hf⟩ := gf_s hf
                refine r_gf C ct12 (j := 1) (ji := 1) dX12_scheme_131 q26 rfl rfl (by decide) w_1426 rfl (fun c26 => ?_)
                refine r_sipush C dX12_scheme_134 rfl ?_
                refine r_iload C dX12_scheme_137 rfl ?_
                refine r_iadd C dX12_scheme_139 ?_
                refine r_bipush C dX12_scheme_140 rfl ?_
                obtain ⟨q27, hf⟩ := wt_s hf
                refine r_iast C dX12_scheme_142 q27 rfl (in32_of rfl) ?_
                refine r_iconst C dX12_scheme_143 ?_
                refine r_istore C dX12_scheme_144 (Nat.le_of_ble_eq_true rfl) rfl ?_
                exact G.mask [true, false, false, false, true, true, true, true] rfl rfl (l_X12_scheme_146 C hr  cv4 c17 c21 _ _ _ (in32_of rfl) hf)
              · have hf := ite_p n15 hf
                exact G.mask [false, false, false, false, false, false, false, false] rfl rfl (b_X12_scheme_69 C hr   hf)
          · have hf := ite_p n9 hf
            exact G.mask [false, false, false, false, false, false, false, false] rfl rfl (b_X12_scheme_43 C hr   hf)
    · have hf := ite_p n4 hf
      exact G.mask [false, false, false, false, false, false, false, false] rfl rfl (b_X12_scheme_16 C hr   hf)
set_option maxRecDepth 20000 in
theorem am_X12_scheme (l : Launch) (n : Nat) : AM l yX12_scheme cX12_scheme 8 (some .int) 2 43 [2, 0, 0, 0, 0] 0 (un5 (f_X12_scheme n)) := by
  refine AM.intro (by decide) (fun xs hx => ?_) (fun g xs h Z hl C hr hx hf => ?_)
  · obtain ⟨a0, a1, a2, a3, a4, rfl, c0, c1, c2, c3, c4⟩ := canL_5 hx
    exact Nat.le_of_ble_eq_true rfl
  · obtain ⟨a0, a1, a2, a3, a4, rfl, c0, c1, c2, c3, c4⟩ := canL_5 hx
    have hf := (un5_e _ a0 a1 a2 a3 a4 _).symm.trans hf
    exact e_X12_scheme (n := n) C hr c0 c1 c2 c3 c4 hf
/-! LinesPromisedModel.isPaper(I)Z -/
theorem dX12_isPaper_0 : decode cX12_isPaper 0 = .ok (.iload_n 1, 1) := by decide +kernel
theorem dX12_isPaper_1 : decode cX12_isPaper 1 = .ok (.iconst 0, 1) := by decide +kernel
theorem dX12_isPaper_2 : decode cX12_isPaper 2 = .ok (.aload_n 0, 1) := by decide +kernel
theorem dX12_isPaper_3 : decode cX12_isPaper 3 = .ok (.getfield 8, 3) := by decide +kernel
theorem dX12_isPaper_6 : decode cX12_isPaper 6 = .ok (.iconst 2, 1) := by decide +kernel
theorem dX12_isPaper_7 : decode cX12_isPaper 7 = .ok (.iaload, 1) := by decide +kernel
theorem dX12_isPaper_8 : decode cX12_isPaper 8 = .ok (.iconst 1, 1) := by decide +kernel
theorem dX12_isPaper_9 : decode cX12_isPaper 9 = .ok (.isub, 1) := by decide +kernel
theorem dX12_isPaper_10 : decode cX12_isPaper 10 = .ok (.invokestatic 58, 3) := by decide +kernel
theorem dX12_isPaper_13 : decode cX12_isPaper 13 = .ok (.ireturn, 1) := by decide +kernel
theorem cm_X12_isPaper : CM yX12_isPaper cX12_isPaper 2 (some .boolean) 1 12 := ⟨w_1613, w_57, w_1614, w_97, ⟨by decide +kernel, by decide +kernel, by decide +kernel⟩, ⟨_, _, rfl⟩, by decide⟩
noncomputable def f_X12_isPaper (n : Nat) (v0 v1 : Int) (h : MM) : RR :=
  gf h v0 12 1 fun r1 =>
  rd h r1 100 2 fun r2 =>
  bd (f_X12_in n v1 0 (wr (r2 - 1)) h) fun r3 h3 =>
  ck (isb r3) <|
  some (r3, h3)
set_option maxRecDepth 20000 in
theorem e_X12_isPaper {g : GT} {Z : Int × MM} {n : Nat} (C : Cx g cX12_isPaper 2 yX12_isPaper 1 22) (hr : Rt g (some .boolean) 0 Z) {v0 v1 : Int} (cv0 : cK 2 v0) (cv1 : cK 0 v1) {h : MM} (hf : f_X12_isPaper n v0 v1 h = some Z) : G g 0 [(2, v0), (0, v1)] [] h := by
  have cv1 : in32 v1 := cv1
  unfold f_X12_isPaper at hf
  refine r_iload_n C dX12_isPaper_0 rfl ?_
  refine r_iconst C dX12_isPaper_1 ?_
  refine r_aload_n C dX12_isPaper_2 rfl ?_
  obtain ⟨q1, hf⟩ := gf_s hf
  refine r_gf C ct12 (j := 1) (ji := 1) dX12_isPaper_3 q1 rfl rfl (by decide) w_1426 rfl (fun c1 => ?_)
  refine r_iconst C dX12_isPaper_6 ?_
  obtain ⟨q2, hf⟩ := rd_s hf
  refine r_iald C dX12_isPaper_7 q2 rfl (fun c2 => ?_)
  refine r_iconst C dX12_isPaper_8 ?_
  refine r_isub C dX12_isPaper_9 ?_
  obtain ⟨r3, h3, hq3, hf⟩ := bd_s hf
  refine r_cS3 C (am_X12_in (gl g) n) cm_X12_in w_1496 dX12_isPaper_10 ⟨Nat.le_of_ble_eq_true rfl, Nat.le_of_ble_eq_true rfl⟩ cv1 (in32_of rfl) (in32_t _) rfl (Nat.le_of_ble_eq_true rfl) hq3 (by decide) (fun c3 => ?_)
  have c3 : in32 _ := c3
  obtain ⟨b4, hf⟩ := ck_s hf
  cases hf
  exact r_zret C hr dX12_isPaper_13 b4
set_option maxRecDepth 20000 in
theorem am_X12_isPaper (l : Launch) (n : Nat) : AM l yX12_isPaper cX12_isPaper 2 (some .boolean) 1 22 [2, 0] 0 (un2 (f_X12_isPaper n)) := by
  refine AM.intro (by decide) (fun xs hx => ?_) (fun g xs h Z hl C hr hx hf => ?_)
  · obtain ⟨a0, a1, rfl, c0, c1⟩ := canL_2 hx
    exact Nat.le_of_ble_eq_true rfl
  · obtain ⟨a0, a1, rfl, c0, c1⟩ := canL_2 hx
    have hf := (un2_e _ a0 a1 _).symm.trans hf
    exact e_X12_isPaper (n := n) C hr c0 c1 hf
/-! LinesPromisedModel.isOf(II)Z -/
theorem dX12_isOf_0 : decode cX12_isOf 0 = .ok (.aload_n 0, 1) := by decide +kernel
theorem dX12_isOf_1 : decode cX12_isOf 1 = .ok (.iload_n 1, 1) := by decide +kernel
theorem dX12_isOf_2 : decode cX12_isOf 2 = .ok (.invokevirtual 62, 3) := by decide +kernel
theorem dX12_isOf_5 : decode cX12_isOf 5 = .ok (.ifCond .eq 21, 3) := by decide +kernel
theorem dX12_isOf_8 : decode cX12_isOf 8 = .ok (.aload_n 0, 1) := by decide +kernel
theorem dX12_isOf_9 : decode cX12_isOf 9 = .ok (.getfield 8, 3) := by decide +kernel
theorem dX12_isOf_12 : decode cX12_isOf 12 = .ok (.sipush 370, 3) := by decide +kernel
theorem dX12_isOf_15 : decode cX12_isOf 15 = .ok (.iload_n 1, 1) := by decide +kernel
theorem dX12_isOf_16 : decode cX12_isOf 16 = .ok (.iadd, 1) := by decide +kernel
theorem dX12_isOf_17 : decode cX12_isOf 17 = .ok (.iaload, 1) := by decide +kernel
theorem dX12_isOf_18 : decode cX12_isOf 18 = .ok (.iload_n 2, 1) := by decide +kernel
theorem dX12_isOf_19 : decode cX12_isOf 19 = .ok (.if_icmp .ne 7, 3) := by decide +kernel
theorem dX12_isOf_22 : decode cX12_isOf 22 = .ok (.iconst 1, 1) := by decide +kernel
theorem dX12_isOf_23 : decode cX12_isOf 23 = .ok (.goto 4, 3) := by decide +kernel
theorem dX12_isOf_26 : decode cX12_isOf 26 = .ok (.iconst 0, 1) := by decide +kernel
theorem dX12_isOf_27 : decode cX12_isOf 27 = .ok (.ireturn, 1) := by decide +kernel
theorem cm_X12_isOf : CM yX12_isOf cX12_isOf 3 (some .boolean) 2 12 := ⟨w_1609, w_56, w_1610, w_97, ⟨by decide +kernel, by decide +kernel, by decide +kernel⟩, ⟨_, _, rfl⟩, by decide⟩
noncomputable def f_X12_isOf_27 (n : Nat)  (s0 : Int) (h : MM) : RR :=
  ck (isb s0) <|
  some (s0, h)
noncomputable def f_X12_isOf_26 (n : Nat)  (h : MM) : RR :=
  f_X12_isOf_27 n 0 h
noncomputable def f_X12_isOf (n : Nat) (v0 v1 v2 : Int) (h : MM) : RR :=
  gk h v0 12 <|
  bd (f_X12_isPaper n v0 v1 h) fun r1 h1 =>
  if r1 = 0 then
    f_X12_isOf_26 n h1
  else
  gf h1 v0 12 1 fun r3 =>
  rd h1 r3 100 (wr (370 + v1)) fun r4 =>
  if r4 = v2 then
    f_X12_isOf_27 n 1 h1
  else
  f_X12_isOf_26 n h1
set_option maxRecDepth 20000 in
theorem b_X12_isOf_27 {g : GT} {Z : Int × MM} {n : Nat} (C : Cx g cX12_isOf 3 yX12_isOf 2 43) (hr : Rt g (some .boolean) 0 Z) {s0 : Int}    (cs0 : in32 s0) {h : MM} (hf : f_X12_isOf_27 n  s0 h = some Z) : G g 27 [(3, 0), (3, 0), (3, 0)] [(0, s0)] h := by
  unfold f_X12_isOf_27 at hf
  obtain ⟨b1, hf⟩ := ck_s hf
  cases hf
  exact r_zret C hr dX12_isOf_27 b1
set_option maxRecDepth 20000 in
theorem b_X12_isOf_26 {g : GT} {Z : Int × MM} {n : Nat} (C : Cx g cX12_isOf 3 yX12_isOf 2 43) (hr : Rt g (some .boolean) 0 Z)     {h : MM} (hf : f_X12_isOf_26 n   h = some Z) : G g 26 [(3, 0), (3, 0), (3, 0)] [] h := by
  unfold f_X12_isOf_26 at hf
  refine r_iconst C dX12_isOf_26 ?_
  exact G.mask [false, false, false] rfl rfl (b_X12_isOf_27 C hr  (in32_of rfl) hf)
set_option maxRecDepth 20000 in
theorem e_X12_isOf {g : GT} {Z : Int × MM} {n : Nat} (C : Cx g cX12_isOf 3 yX12_isOf 2 43) (hr : Rt g (some .boolean) 0 Z) {v0 v1 v2 : Int} (cv0 : cK 2 v0) (cv1 : cK 0 v1) (cv2 : cK 0 v2) {h : MM} (hf : f_X12_isOf n v0 v1 v2 h = some Z) : G g 0 [(2, v0), (0, v1), (0, v2)] [] h := by
  have cv1 : in32 v1 := cv1
  have cv2 : in32 v2 := cv2
  unfold f_X12_isOf at hf
  refine r_aload_n C dX12_isOf_0 rfl ?_
  refine r_iload_n C dX12_isOf_1 rfl ?_
  obtain ⟨p1, hf⟩ := gk_s hf
  obtain ⟨r1, h1, hq1, hf⟩ := bd_s hf
  refine r_cV1 C (am_X12_isPaper (gl g) n) cm_X12_isPaper w_1611 dX12_isOf_2 ⟨Nat.le_of_ble_eq_true rfl, Nat.le_of_ble_eq_true rfl⟩ p1 rfl cv1 rfl (Nat.le_of_ble_eq_true rfl) hq1 (by decide) (fun c1 => ?_)
  have c1 : in32 _ := c1
  refine r_if_eq C dX12_isOf_5 (tgt := 26) (by decide) c1 (fun n2 => ?_) (fun n2 => ?_)
  · have hf := ite_p n2 hf
    exact G.mask [false, false, false] rfl rfl (b_X12_isOf_26 C hr   hf)
  · have hf := ite_n n2 hf
    refine r_aload_n C dX12_isOf_8 rfl ?_
    obtain ⟨q3, hf⟩ := gf_s hf
    refine r_gf C ct12 (j := 1) (ji := 1) dX12_isOf_9 q3 rfl rfl (by decide) w_1426 rfl (fun c3 => ?_)
    refine r_sipush C dX12_isOf_12 rfl ?_
    refine r_iload_n C dX12_isOf_15 rfl ?_
    refine r_iadd C dX12_isOf_16 ?_
    obtain ⟨q4, hf⟩ := rd_s hf
    refine r_iald C dX12_isOf_17 q4 rfl (fun c4 => ?_)
    refine r_iload_n C dX12_isOf_18 rfl ?_
    refine r_icmp_ne C dX12_isOf_19 (tgt := 26) (by decide) c4 cv2 (fun n5 => ?_) (fun n5 => ?_)
    · have hf := ite_n n5 hf
      exact G.mask [false, false, false] rfl rfl (b_X12_isOf_26 C hr   hf)
    · have hf := ite_p n5 hf
      refine r_iconst C dX12_isOf_22 ?_
      refine r_goto C dX12_isOf_23 (tgt := 27) (by decide) ?_
      exact G.mask [false, false, false] rfl rfl (b_X12_isOf_27 C hr  (in32_of rfl) hf)
set_option maxRecDepth 20000 in
theorem am_X12_isOf (l : Launch) (n : Nat) : AM l yX12_isOf cX12_isOf 3 (some .boolean) 2 43 [2, 0, 0] 0 (un3 (f_X12_isOf n)) := by
  refine AM.intro (by decide) (fun xs hx => ?_) (fun g xs h Z hl C hr hx hf => ?_)
  · obtain ⟨a0, a1, a2, rfl, c0, c1, c2⟩ := canL_3 hx
    exact Nat.le_of_ble_eq_true rfl
  · obtain ⟨a0, a1, a2, rfl, c0, c1, c2⟩ := canL_3 hx
    have hf := (un3_e _ a0 a1 a2 _).symm.trans hf
    exact e_X12_isOf (n := n) C hr c0 c1 c2 hf
/-! LinesPromisedModel.isSheet(I)Z -/
theorem dX12_isSheet_0 : decode cX12_isSheet 0 = .ok (.iload_n 0, 1) := by decide +kernel
theorem dX12_isSheet_1 : decode cX12_isSheet 1 = .ok (.iconst 0, 1) := by decide +kernel
theorem dX12_isSheet_2 : decode cX12_isSheet 2 = .ok (.iconst 3, 1) := by decide +kernel
theorem dX12_isSheet_3 : decode cX12_isSheet 3 = .ok (.invokestatic 58, 3) := by decide +kernel
theorem dX12_isSheet_6 : decode cX12_isSheet 6 = .ok (.ireturn, 1) := by decide +kernel
theorem cm_X12_isSheet : CMs yX12_isSheet cX12_isSheet 1 (some .boolean) 1 := ⟨w_1616, w_1617, w_97, ⟨by decide +kernel, by decide +kernel, by decide +kernel⟩⟩
noncomputable def f_X12_isSheet (n : Nat) (v0 : Int) (h : MM) : RR :=
  bd (f_X12_in n v0 0 3 h) fun r1 h1 =>
  ck (isb r1) <|
  some (r1, h1)
set_option maxRecDepth 20000 in
theorem e_X12_isSheet {g : GT} {Z : Int × MM} {n : Nat} (C : Cx g cX12_isSheet 1 yX12_isSheet 1 22) (hr : Rt g (some .boolean) 0 Z) {v0 : Int} (cv0 : cK 0 v0) {h : MM} (hf : f_X12_isSheet n v0 h = some Z) : G g 0 [(0, v0)] [] h := by
  have cv0 : in32 v0 := cv0
  unfold f_X12_isSheet at hf
  refine r_iload_n C dX12_isSheet_0 rfl ?_
  refine r_iconst C dX12_isSheet_1 ?_
  refine r_iconst C dX12_isSheet_2 ?_
  obtain ⟨r1, h1, hq1, hf⟩ := bd_s hf
  refine r_cS3 C (am_X12_in (gl g) n) cm_X12_in w_1496 dX12_isSheet_3 ⟨Nat.le_of_ble_eq_true rfl, Nat.le_of_ble_eq_true rfl⟩ cv0 (in32_of rfl) (in32_of rfl) rfl (Nat.le_of_ble_eq_true rfl) hq1 (by decide) (fun c1 => ?_)
  have c1 : in32 _ := c1
  obtain ⟨b2, hf⟩ := ck_s hf
  cases hf
  exact r_zret C hr dX12_isSheet_6 b2
set_option maxRecDepth 20000 in
theorem am_X12_isSheet (l : Launch) (n : Nat) : AM l yX12_isSheet cX12_isSheet 1 (some .boolean) 1 22 [0] 0 (un1 (f_X12_isSheet n)) := by
  refine AM.intro (by decide) (fun xs hx => ?_) (fun g xs h Z hl C hr hx hf => ?_)
  · obtain ⟨a0, rfl, c0⟩ := canL_1 hx
    exact Nat.le_of_ble_eq_true rfl
  · obtain ⟨a0, rfl, c0⟩ := canL_1 hx
    have hf := (un1_e _ a0 _).symm.trans hf
    exact e_X12_isSheet (n := n) C hr c0 hf
/-! LinesPromisedModel.isBeside(II)Z -/
theorem dX12_isBeside_0 : decode cX12_isBeside 0 = .ok (.iload_n 0, 1) := by decide +kernel
theorem dX12_isBeside_1 : decode cX12_isBeside 1 = .ok (.bipush 10, 2) := by decide +kernel
theorem dX12_isBeside_3 : decode cX12_isBeside 3 = .ok (.irem, 1) := by decide +kernel
theorem dX12_isBeside_4 : decode cX12_isBeside 4 = .ok (.iload_n 1, 1) := by decide +kernel
theorem dX12_isBeside_5 : decode cX12_isBeside 5 = .ok (.bipush 10, 2) := by decide +kernel
theorem dX12_isBeside_7 : decode cX12_isBeside 7 = .ok (.irem, 1) := by decide +kernel
theorem dX12_isBeside_8 : decode cX12_isBeside 8 = .ok (.isub, 1) := by decide +kernel
theorem dX12_isBeside_9 : decode cX12_isBeside 9 = .ok (.istore_n 2, 1) := by decide +kernel
theorem dX12_isBeside_10 : decode cX12_isBeside 10 = .ok (.iload_n 0, 1) := by decide +kernel
theorem dX12_isBeside_11 : decode cX12_isBeside 11 = .ok (.bipush 10, 2) := by decide +kernel
theorem dX12_isBeside_13 : decode cX12_isBeside 13 = .ok (.idiv, 1) := by decide +kernel
theorem dX12_isBeside_14 : decode cX12_isBeside 14 = .ok (.iload_n 1, 1) := by decide +kernel
theorem dX12_isBeside_15 : decode cX12_isBeside 15 = .ok (.bipush 10, 2) := by decide +kernel
theorem dX12_isBeside_17 : decode cX12_isBeside 17 = .ok (.idiv, 1) := by decide +kernel
theorem dX12_isBeside_18 : decode cX12_isBeside 18 = .ok (.isub, 1) := by decide +kernel
theorem dX12_isBeside_19 : decode cX12_isBeside 19 = .ok (.istore_n 3, 1) := by decide +kernel
theorem dX12_isBeside_20 : decode cX12_isBeside 20 = .ok (.iload_n 2, 1) := by decide +kernel
theorem dX12_isBeside_21 : decode cX12_isBeside 21 = .ok (.iload_n 2, 1) := by decide +kernel
theorem dX12_isBeside_22 : decode cX12_isBeside 22 = .ok (.imul, 1) := by decide +kernel
theorem dX12_isBeside_23 : decode cX12_isBeside 23 = .ok (.iload_n 3, 1) := by decide +kernel
theorem dX12_isBeside_24 : decode cX12_isBeside 24 = .ok (.iload_n 3, 1) := by decide +kernel
theorem dX12_isBeside_25 : decode cX12_isBeside 25 = .ok (.imul, 1) := by decide +kernel
theorem dX12_isBeside_26 : decode cX12_isBeside 26 = .ok (.iadd, 1) := by decide +kernel
theorem dX12_isBeside_27 : decode cX12_isBeside 27 = .ok (.iconst 1, 1) := by decide +kernel
theorem dX12_isBeside_28 : decode cX12_isBeside 28 = .ok (.if_icmp .ne 7, 3) := by decide +kernel
theorem dX12_isBeside_31 : decode cX12_isBeside 31 = .ok (.iconst 1, 1) := by decide +kernel
theorem dX12_isBeside_32 : decode cX12_isBeside 32 = .ok (.goto 4, 3) := by decide +kernel
theorem dX12_isBeside_35 : decode cX12_isBeside 35 = .ok (.iconst 0, 1) := by decide +kernel
theorem dX12_isBeside_36 : decode cX12_isBeside 36 = .ok (.ireturn, 1) := by decide +kernel
theorem cm_X12_isBeside : CMs yX12_isBeside cX12_isBeside 4 (some .boolean) 2 := ⟨w_1619, w_1620, w_97, ⟨by decide +kernel, by decide +kernel, by decide +kernel⟩⟩
noncomputable def f_X12_isBeside_36 (n : Nat)  (s0 : Int) (h : MM) : RR :=
  ck (isb s0) <|
  some (s0, h)
noncomputable def f_X12_isBeside (n : Nat) (v0 v1 : Int) (h : MM) : RR :=
  lb (wr ((irm v0 10) - (irm v1 10))) fun x1 =>
  lb (wr ((idv v0 10) - (idv v1 10))) fun x2 =>
  if wr ((wr (x1 * x1)) + (wr (x2 * x2))) = 1 then
    f_X12_isBeside_36 n 1 h
  else
  f_X12_isBeside_36 n 0 h
set_option maxRecDepth 20000 in
theorem b_X12_isBeside_36 {g : GT} {Z : Int × MM} {n : Nat} (C : Cx g cX12_isBeside 4 yX12_isBeside 0 0) (hr : Rt g (some .boolean) 0 Z) {s0 : Int}    (cs0 : in32 s0) {h : MM} (hf : f_X12_isBeside_36 n  s0 h = some Z) : G g 36 [(3, 0), (3, 0), (3, 0), (3, 0)] [(0, s0)] h := by
  unfold f_X12_isBeside_36 at hf
  obtain ⟨b1, hf⟩ := ck_s hf
  cases hf
  exact r_zret C hr dX12_isBeside_36 b1
set_option maxRecDepth 20000 in
theorem e_X12_isBeside {g : GT} {Z : Int × MM} {n : Nat} (C : Cx g cX12_isBeside 4 yX12_isBeside 0 0) (hr : Rt g (some .boolean) 0 Z) {v0 v1 : Int} (cv0 : cK 0 v0) (cv1 : cK 0 v1) {h : MM} (hf : f_X12_isBeside n v0 v1 h = some Z) : G g 0 [(0, v0), (0, v1), (3, 0), (3, 0)] [] h := by
  have cv0 : in32 v0 := cv0
  have cv1 : in32 v1 := cv1
  unfold f_X12_isBeside at hf
  refine r_iload_n C dX12_isBeside_0 rfl ?_
  refine r_bipush C dX12_isBeside_1 rfl ?_
  refine r_irem C dX12_isBeside_3 (in32_of rfl) (by decide) ?_
  refine r_iload_n C dX12_isBeside_4 rfl ?_
  refine r_bipush C dX12_isBeside_5 rfl ?_
  refine r_irem C dX12_isBeside_7 (in32_of rfl) (by decide) ?_
  refine r_isub C dX12_isBeside_8 ?_
  obtain ⟨x1, e1, hf⟩ := lb_s hf
  have c1 : in32 x1 := by rw [e1]; exact (in32_t _)
  refine r_istore_nL C dX12_isBeside_9 e1 (Nat.le_of_ble_eq_true rfl) rfl ?_
  refine r_iload_n C dX12_isBeside_10 rfl ?_
  refine r_bipush C dX12_isBeside_11 rfl ?_
  refine r_idiv C dX12_isBeside_13 (in32_of rfl) (by decide) ?_
  refine r_iload_n C dX12_isBeside_14 rfl ?_
  refine r_bipush C dX12_isBeside_15 rfl ?_
  refine r_idiv C dX12_isBeside_17 (in32_of rfl) (by decide) ?_
  refine r_isub C dX12_isBeside_18 ?_
  obtain ⟨x2, e2, hf⟩ := lb_s hf
  have c2 : in32 x2 := by rw [e2]; exact (in32_t _)
  refine r_istore_nL C dX12_isBeside_19 e2 (Nat.le_of_ble_eq_true rfl) rfl ?_
  refine r_iload_n C dX12_isBeside_20 rfl ?_
  refine r_iload_n C dX12_isBeside_21 rfl ?_
  refine r_imul C dX12_isBeside_22 ?_
  refine r_iload_n C dX12_isBeside_23 rfl ?_
  refine r_iload_n C dX12_isBeside_24 rfl ?_
  refine r_imul C dX12_isBeside_25 ?_
  refine r_iadd C dX12_isBeside_26 ?_
  refine r_iconst C dX12_isBeside_27 ?_
  refine r_icmp_ne C dX12_isBeside_28 (tgt := 35) (by decide) (in32_t _) (in32_of rfl) (fun n3 => ?_) (fun n3 => ?_)
  · have hf := ite_n n3 hf
    refine r_iconst C dX12_isBeside_35 ?_
    exact G.mask [false, false, false, false] rfl rfl (b_X12_isBeside_36 C hr  (in32_of rfl) hf)
  · have hf := ite_p n3 hf
    refine r_iconst C dX12_isBeside_31 ?_
    refine r_goto C dX12_isBeside_32 (tgt := 36) (by decide) ?_
    exact G.mask [false, false, false, false] rfl rfl (b_X12_isBeside_36 C hr  (in32_of rfl) hf)
set_option maxRecDepth 20000 in
theorem am_X12_isBeside (l : Launch) (n : Nat) : AM l yX12_isBeside cX12_isBeside 4 (some .boolean) 0 0 [0, 0] 0 (un2 (f_X12_isBeside n)) := by
  refine AM.intro (by decide) (fun xs hx => ?_) (fun g xs h Z hl C hr hx hf => ?_)
  · obtain ⟨a0, a1, rfl, c0, c1⟩ := canL_2 hx
    exact Nat.le_of_ble_eq_true rfl
  · obtain ⟨a0, a1, rfl, c0, c1⟩ := canL_2 hx
    have hf := (un2_e _ a0 a1 _).symm.trans hf
    exact e_X12_isBeside (n := n) C hr c0 c1 hf
/-! LinesPromisedModel.placeIn(II)I -/
theorem dX12_placeIn_0 : decode cX12_placeIn 0 = .ok (.iconst 0, 1) := by decide +kernel
theorem dX12_placeIn_1 : decode cX12_placeIn 1 = .ok (.istore_n 3, 1) := by decide +kernel
theorem dX12_placeIn_2 : decode cX12_placeIn 2 = .ok (.iload_n 3, 1) := by decide +kernel
theorem dX12_placeIn_3 : decode cX12_placeIn 3 = .ok (.aload_n 0, 1) := by decide +kernel
theorem dX12_placeIn_4 : decode cX12_placeIn 4 = .ok (.getfield 8, 3) := by decide +kernel
theorem dX12_placeIn_7 : decode cX12_placeIn 7 = .ok (.sipush 850, 3) := by decide +kernel
theorem dX12_placeIn_10 : decode cX12_placeIn 10 = .ok (.iload_n 1, 1) := by decide +kernel
theorem dX12_placeIn_11 : decode cX12_placeIn 11 = .ok (.iadd, 1) := by decide +kernel
theorem dX12_placeIn_12 : decode cX12_placeIn 12 = .ok (.iaload, 1) := by decide +kernel
theorem dX12_placeIn_13 : decode cX12_placeIn 13 = .ok (.if_icmp .ge 30, 3) := by decide +kernel
theorem dX12_placeIn_16 : decode cX12_placeIn 16 = .ok (.aload_n 0, 1) := by decide +kernel
theorem dX12_placeIn_17 : decode cX12_placeIn 17 = .ok (.getfield 8, 3) := by decide +kernel
theorem dX12_placeIn_20 : decode cX12_placeIn 20 = .ok (.sipush 4700, 3) := by decide +kernel
theorem dX12_placeIn_23 : decode cX12_placeIn 23 = .ok (.bipush 41, 2) := by decide +kernel
theorem dX12_placeIn_25 : decode cX12_placeIn 25 = .ok (.iload_n 1, 1) := by decide +kernel
theorem dX12_placeIn_26 : decode cX12_placeIn 26 = .ok (.imul, 1) := by decide +kernel
theorem dX12_placeIn_27 : decode cX12_placeIn 27 = .ok (.iadd, 1) := by decide +kernel
theorem dX12_placeIn_28 : decode cX12_placeIn 28 = .ok (.iload_n 3, 1) := by decide +kernel
theorem dX12_placeIn_29 : decode cX12_placeIn 29 = .ok (.iadd, 1) := by decide +kernel
theorem dX12_placeIn_30 : decode cX12_placeIn 30 = .ok (.iaload, 1) := by decide +kernel
theorem dX12_placeIn_31 : decode cX12_placeIn 31 = .ok (.iload_n 2, 1) := by decide +kernel
theorem dX12_placeIn_32 : decode cX12_placeIn 32 = .ok (.if_icmp .ne 5, 3) := by decide +kernel
theorem dX12_placeIn_35 : decode cX12_placeIn 35 = .ok (.iload_n 3, 1) := by decide +kernel
theorem dX12_placeIn_36 : decode cX12_placeIn 36 = .ok (.ireturn, 1) := by decide +kernel
theorem dX12_placeIn_37 : decode cX12_placeIn 37 = .ok (.iinc 3 1, 3) := by decide +kernel
theorem dX12_placeIn_40 : decode cX12_placeIn 40 = .ok (.goto (-38), 3) := by decide +kernel
theorem dX12_placeIn_43 : decode cX12_placeIn 43 = .ok (.iconst (-1), 1) := by decide +kernel
theorem dX12_placeIn_44 : decode cX12_placeIn 44 = .ok (.ireturn, 1) := by decide +kernel
theorem cm_X12_placeIn : CM yX12_placeIn cX12_placeIn 4 (some .int) 2 12 := ⟨w_1627, w_59, w_1628, w_97, ⟨by decide +kernel, by decide +kernel, by decide +kernel⟩, ⟨_, _, rfl⟩, by decide⟩
noncomputable def f_X12_placeIn_2b (n : Nat) (rec2 : Int → MM → RR) (v0 v1 v2 v3 : Int) (h : MM) : RR :=
  gf h v0 12 1 fun r1 =>
  rd h r1 100 (wr (850 + v1)) fun r2 =>
  if r2 ≤ v3 then
    some ((-1), h)
  else
  gf h v0 12 1 fun r4 =>
  rd h r4 100 (wr ((wr (4700 + (wr (41 * v1)))) + v3)) fun r5 =>
  if r5 = v2 then
    some (v3, h)
  else
  lb (wr (v3 + 1)) fun x7 =>
  rec2 x7 h
noncomputable def f_X12_placeIn_2 (n : Nat)  (v0 v1 v2 : Int) : Nat → Int → MM → RR
  | 0, _, _ => none
  | k + 1, v3, h => f_X12_placeIn_2b n  (f_X12_placeIn_2 n  v0 v1 v2 k) v0 v1 v2 v3 h
noncomputable def f_X12_placeIn (n : Nat) (v0 v1 v2 : Int) (h : MM) : RR :=
  f_X12_placeIn_2 n v0 v1 v2 n 0 h
set_option maxRecDepth 20000 in
theorem b_X12_placeIn_2b {g : GT} {Z : Int × MM} {n : Nat} (C : Cx g cX12_placeIn 4 yX12_placeIn 0 0) (hr : Rt g (some .int) 0 Z) {v0 v1 v2 v3 : Int}  {rec2 : Int → MM → RR} (L2 : ∀ (u3 : Int) (h : MM), in32 u3 → rec2 u3 h = some Z → G g 2 [(2, v0), (0, v1), (0, v2), (0, u3)] [] h) (cv1 : in32 v1) (cv2 : in32 v2) (cv3 : in32 v3) {h : MM} (hf : f_X12_placeIn_2b n rec2 v0 v1 v2 v3 h = some Z) : G g 2 [(2, v0), (0, v1), (0, v2), (0, v3)] [] h := by
  unfold f_X12_placeIn_2b at hf
  refine r_iload_n C dX12_placeIn_2 rfl ?_
  refine r_aload_n C dX12_placeIn_3 rfl ?_
  obtain ⟨q1, hf⟩ := gf_s hf
  refine r_gf C ct12 (j := 1) (ji := 1) dX12_placeIn_4 q1 rfl rfl (by decide) w_1426 rfl (fun c1 => ?_)
  refine r_sipush C dX12_placeIn_7 rfl ?_
  refine r_iload_n C dX12_placeIn_10 rfl ?_
  refine r_iadd C dX12_placeIn_11 ?_
  obtain ⟨q2, hf⟩ := rd_s hf
  refine r_iald C dX12_placeIn_12 q2 rfl (fun c2 => ?_)
  refine r_icmp_ge C dX12_placeIn_13 (tgt := 43) (by decide) cv3 c2 (fun n3 => ?_) (fun n3 => ?_)
  · have hf := ite_p n3 hf
    refine r_iconst C dX12_placeIn_43 ?_
    cases hf
    exact r_jret C hr dX12_placeIn_44 (in32_of rfl)
  · have hf := ite_n n3 hf
    refine r_aload_n C dX12_placeIn_16 rfl ?_
    obtain ⟨q4, hf⟩ := gf_s hf
    refine r_gf C ct12 (j := 1) (ji := 1) dX12_placeIn_17 q4 rfl rfl (by decide) w_1426 rfl (fun c4 => ?_)
    refine r_sipush C dX12_placeIn_20 rfl ?_
    refine r_bipush C dX12_placeIn_23 rfl ?_
    refine r_iload_n C dX12_placeIn_25 rfl ?_
    refine r_imul C dX12_placeIn_26 ?_
    refine r_iadd C dX12_placeIn_27 ?_
    refine r_iload_n C dX12_placeIn_28 rfl ?_
    refine r_iadd C dX12_placeIn_29 ?_
    obtain ⟨q5, hf⟩ := rd_s hf
    refine r_iald C dX12_placeIn_30 q5 rfl (fun c5 => ?_)
    refine r_iload_n C dX12_placeIn_31 rfl ?_
    refine r_icmp_ne C dX12_placeIn_32 (tgt := 37) (by decide) c5 cv2 (fun n6 => ?_) (fun n6 => ?_)
    · have hf := ite_n n6 hf
      obtain ⟨x7, e7, hf⟩ := lb_s hf
      have c7 : in32 x7 := by rw [e7]; exact (in32_t _)
      refine r_iincL C dX12_placeIn_37 rfl e7 (Nat.le_of_ble_eq_true rfl) rfl ?_
      refine r_goto C dX12_placeIn_40 (tgt := 2) (by decide) ?_
      exact G.mask [true, true, true, true] rfl rfl (L2 _ _ c7 hf)
    · have hf := ite_p n6 hf
      refine r_iload_n C dX12_placeIn_35 rfl ?_
      cases hf
      exact r_jret C hr dX12_placeIn_36 cv3
set_option maxRecDepth 20000 in
theorem l_X12_placeIn_2 {g : GT} {Z : Int × MM} {n : Nat} (C : Cx g cX12_placeIn 4 yX12_placeIn 0 0) (hr : Rt g (some .int) 0 Z) {v0 v1 v2 : Int}   (cv1 : in32 v1) (cv2 : in32 v2) : ∀ (k : Nat) (v3 : Int) (h : MM), in32 v3 → f_X12_placeIn_2 n  v0 v1 v2 k v3 h = some Z → G g 2 [(2, v0), (0, v1), (0, v2), (0, v3)] [] h := by
  intro k
  induction k with
  | zero => intro v3 h cv3 hf; exact absurd hf (by intro z; cases z)
  | succ k ih => intro v3 h cv3 hf; exact b_X12_placeIn_2b C hr (rec2 := f_X12_placeIn_2 n  v0 v1 v2 k)  ih cv1 cv2 cv3 (show f_X12_placeIn_2b n  (f_X12_placeIn_2 n  v0 v1 v2 k) v0 v1 v2 v3 h = some Z from hf)
set_option maxRecDepth 20000 in
theorem e_X12_placeIn {g : GT} {Z : Int × MM} {n : Nat} (C : Cx g cX12_placeIn 4 yX12_placeIn 0 0) (hr : Rt g (some .int) 0 Z) {v0 v1 v2 : Int} (cv0 : cK 2 v0) (cv1 : cK 0 v1) (cv2 : cK 0 v2) {h : MM} (hf : f_X12_placeIn n v0 v1 v2 h = some Z) : G g 0 [(2, v0), (0, v1), (0, v2), (3, 0)] [] h := by
  have cv1 : in32 v1 := cv1
  have cv2 : in32 v2 := cv2
  unfold f_X12_placeIn at hf
  refine r_iconst C dX12_placeIn_0 ?_
  refine r_istore_n C dX12_placeIn_1 (Nat.le_of_ble_eq_true rfl) rfl ?_
  exact G.mask [true, true, true, true] rfl rfl (l_X12_placeIn_2 C hr  cv1 cv2 _ _ _ (in32_of rfl) hf)
set_option maxRecDepth 20000 in
theorem am_X12_placeIn (l : Launch) (n : Nat) : AM l yX12_placeIn cX12_placeIn 4 (some .int) 0 0 [2, 0, 0] 0 (un3 (f_X12_placeIn n)) := by
  refine AM.intro (by decide) (fun xs hx => ?_) (fun g xs h Z hl C hr hx hf => ?_)
  · obtain ⟨a0, a1, a2, rfl, c0, c1, c2⟩ := canL_3 hx
    exact Nat.le_of_ble_eq_true rfl
  · obtain ⟨a0, a1, a2, rfl, c0, c1, c2⟩ := canL_3 hx
    have hf := (un3_e _ a0 a1 a2 _).symm.trans hf
    exact e_X12_placeIn (n := n) C hr c0 c1 c2 hf
/-! LinesPromisedModel.isInWay(II)Z -/
theorem dX12_isInWay_0 : decode cX12_isInWay 0 = .ok (.aload_n 0, 1) := by decide +kernel
theorem dX12_isInWay_1 : decode cX12_isInWay 1 = .ok (.iload_n 1, 1) := by decide +kernel
theorem dX12_isInWay_2 : decode cX12_isInWay 2 = .ok (.iload_n 2, 1) := by decide +kernel
theorem dX12_isInWay_3 : decode cX12_isInWay 3 = .ok (.invokevirtual 162, 3) := by decide +kernel
theorem dX12_isInWay_6 : decode cX12_isInWay 6 = .ok (.iconst (-1), 1) := by decide +kernel
theorem dX12_isInWay_7 : decode cX12_isInWay 7 = .ok (.if_icmp .eq 7, 3) := by decide +kernel
theorem dX12_isInWay_10 : decode cX12_isInWay 10 = .ok (.iconst 1, 1) := by decide +kernel
theorem dX12_isInWay_11 : decode cX12_isInWay 11 = .ok (.goto 4, 3) := by decide +kernel
theorem dX12_isInWay_14 : decode cX12_isInWay 14 = .ok (.iconst 0, 1) := by decide +kernel
theorem dX12_isInWay_15 : decode cX12_isInWay 15 = .ok (.ireturn, 1) := by decide +kernel
theorem cm_X12_isInWay : CM yX12_isInWay cX12_isInWay 3 (some .boolean) 2 12 := ⟨w_1623, w_58, w_1624, w_97, ⟨by decide +kernel, by decide +kernel, by decide +kernel⟩, ⟨_, _, rfl⟩, by decide⟩
noncomputable def f_X12_isInWay_15 (n : Nat)  (s0 : Int) (h : MM) : RR :=
  ck (isb s0) <|
  some (s0, h)
noncomputable def f_X12_isInWay (n : Nat) (v0 v1 v2 : Int) (h : MM) : RR :=
  gk h v0 12 <|
  bd (f_X12_placeIn n v0 v1 v2 h) fun r1 h1 =>
  if r1 = (-1) then
    f_X12_isInWay_15 n 0 h1
  else
  f_X12_isInWay_15 n 1 h1
set_option maxRecDepth 20000 in
theorem b_X12_isInWay_15 {g : GT} {Z : Int × MM} {n : Nat} (C : Cx g cX12_isInWay 3 yX12_isInWay 1 23) (hr : Rt g (some .boolean) 0 Z) {s0 : Int}    (cs0 : in32 s0) {h : MM} (hf : f_X12_isInWay_15 n  s0 h = some Z) : G g 15 [(3, 0), (3, 0), (3, 0)] [(0, s0)] h := by
  unfold f_X12_isInWay_15 at hf
  obtain ⟨b1, hf⟩ := ck_s hf
  cases hf
  exact r_zret C hr dX12_isInWay_15 b1
set_option maxRecDepth 20000 in
theorem e_X12_isInWay {g : GT} {Z : Int × MM} {n : Nat} (C : Cx g cX12_isInWay 3 yX12_isInWay 1 23) (hr : Rt g (some .boolean) 0 Z) {v0 v1 v2 : Int} (cv0 : cK 2 v0) (cv1 : cK 0 v1) (cv2 : cK 0 v2) {h : MM} (hf : f_X12_isInWay n v0 v1 v2 h = some Z) : G g 0 [(2, v0), (0, v1), (0, v2)] [] h := by
  have cv1 : in32 v1 := cv1
  have cv2 : in32 v2 := cv2
  unfold f_X12_isInWay at hf
  refine r_aload_n C dX12_isInWay_0 rfl ?_
  refine r_iload_n C dX12_isInWay_1 rfl ?_
  refine r_iload_n C dX12_isInWay_2 rfl ?_
  obtain ⟨p1, hf⟩ := gk_s hf
  obtain ⟨r1, h1, hq1, hf⟩ := bd_s hf
  refine r_cV2 C (am_X12_placeIn (gl g) n) cm_X12_placeIn w_1625 dX12_isInWay_3 ⟨Nat.le_of_ble_eq_true rfl, Nat.le_of_ble_eq_true rfl⟩ p1 rfl cv1 cv2 rfl (Nat.le_of_ble_eq_true rfl) hq1 (by decide) (fun c1 => ?_)
  have c1 : in32 _ := c1
  refine r_iconst C dX12_isInWay_6 ?_
  refine r_icmp_eq C dX12_isInWay_7 (tgt := 14) (by decide) c1 (in32_of rfl) (fun n2 => ?_) (fun n2 => ?_)
  · have hf := ite_p n2 hf
    refine r_iconst C dX12_isInWay_14 ?_
    exact G.mask [false, false, false] rfl rfl (b_X12_isInWay_15 C hr  (in32_of rfl) hf)
  · have hf := ite_n n2 hf
    refine r_iconst C dX12_isInWay_10 ?_
    refine r_goto C dX12_isInWay_11 (tgt := 15) (by decide) ?_
    exact G.mask [false, false, false] rfl rfl (b_X12_isInWay_15 C hr  (in32_of rfl) hf)
set_option maxRecDepth 20000 in
theorem am_X12_isInWay (l : Launch) (n : Nat) : AM l yX12_isInWay cX12_isInWay 3 (some .boolean) 1 23 [2, 0, 0] 0 (un3 (f_X12_isInWay n)) := by
  refine AM.intro (by decide) (fun xs hx => ?_) (fun g xs h Z hl C hr hx hf => ?_)
  · obtain ⟨a0, a1, a2, rfl, c0, c1, c2⟩ := canL_3 hx
    exact Nat.le_of_ble_eq_true rfl
  · obtain ⟨a0, a1, a2, rfl, c0, c1, c2⟩ := canL_3 hx
    have hf := (un3_e _ a0 a1 a2 _).symm.trans hf
    exact e_X12_isInWay (n := n) C hr c0 c1 c2 hf
/-! LinesPromisedModel.levelOf(III)I -/
theorem dX12_levelOf_0 : decode cX12_levelOf 0 = .ok (.sipush 4700, 3) := by decide +kernel
theorem dX12_levelOf_3 : decode cX12_levelOf 3 = .ok (.bipush 41, 2) := by decide +kernel
theorem dX12_levelOf_5 : decode cX12_levelOf 5 = .ok (.iload_n 1, 1) := by decide +kernel
theorem dX12_levelOf_6 : decode cX12_levelOf 6 = .ok (.imul, 1) := by decide +kernel
theorem dX12_levelOf_7 : decode cX12_levelOf 7 = .ok (.iadd, 1) := by decide +kernel
theorem dX12_levelOf_8 : decode cX12_levelOf 8 = .ok (.iload_n 2, 1) := by decide +kernel
theorem dX12_levelOf_9 : decode cX12_levelOf 9 = .ok (.iadd, 1) := by decide +kernel
theorem dX12_levelOf_10 : decode cX12_levelOf 10 = .ok (.istore 4, 2) := by decide +kernel
theorem dX12_levelOf_12 : decode cX12_levelOf 12 = .ok (.iload_n 2, 1) := by decide +kernel
theorem dX12_levelOf_13 : decode cX12_levelOf 13 = .ok (.ifCond .ne 19, 3) := by decide +kernel
theorem dX12_levelOf_16 : decode cX12_levelOf 16 = .ok (.aload_n 0, 1) := by decide +kernel
theorem dX12_levelOf_17 : decode cX12_levelOf 17 = .ok (.getfield 8, 3) := by decide +kernel
theorem dX12_levelOf_20 : decode cX12_levelOf 20 = .ok (.bipush 20, 2) := by decide +kernel
theorem dX12_levelOf_22 : decode cX12_levelOf 22 = .ok (.aload_n 0, 1) := by decide +kernel
theorem dX12_levelOf_23 : decode cX12_levelOf 23 = .ok (.getfield 8, 3) := by decide +kernel
theorem dX12_levelOf_26 : decode cX12_levelOf 26 = .ok (.iload 4, 2) := by decide +kernel
theorem dX12_levelOf_28 : decode cX12_levelOf 28 = .ok (.iaload, 1) := by decide +kernel
theorem dX12_levelOf_29 : decode cX12_levelOf 29 = .ok (.iadd, 1) := by decide +kernel
theorem dX12_levelOf_30 : decode cX12_levelOf 30 = .ok (.iaload, 1) := by decide +kernel
theorem dX12_levelOf_31 : decode cX12_levelOf 31 = .ok (.ireturn, 1) := by decide +kernel
theorem dX12_levelOf_32 : decode cX12_levelOf 32 = .ok (.aload_n 0, 1) := by decide +kernel
theorem dX12_levelOf_33 : decode cX12_levelOf 33 = .ok (.getfield 8, 3) := by decide +kernel
theorem dX12_levelOf_36 : decode cX12_levelOf 36 = .ok (.sipush 7160, 3) := by decide +kernel
theorem dX12_levelOf_39 : decode cX12_levelOf 39 = .ok (.bipush 41, 2) := by decide +kernel
theorem dX12_levelOf_41 : decode cX12_levelOf 41 = .ok (.iload_n 1, 1) := by decide +kernel
theorem dX12_levelOf_42 : decode cX12_levelOf 42 = .ok (.imul, 1) := by decide +kernel
theorem dX12_levelOf_43 : decode cX12_levelOf 43 = .ok (.iadd, 1) := by decide +kernel
theorem dX12_levelOf_44 : decode cX12_levelOf 44 = .ok (.iload_n 2, 1) := by decide +kernel
theorem dX12_levelOf_45 : decode cX12_levelOf 45 = .ok (.iadd, 1) := by decide +kernel
theorem dX12_levelOf_46 : decode cX12_levelOf 46 = .ok (.iconst 1, 1) := by decide +kernel
theorem dX12_levelOf_47 : decode cX12_levelOf 47 = .ok (.isub, 1) := by decide +kernel
theorem dX12_levelOf_48 : decode cX12_levelOf 48 = .ok (.iaload, 1) := by decide +kernel
theorem dX12_levelOf_49 : decode cX12_levelOf 49 = .ok (.istore 5, 2) := by decide +kernel
theorem dX12_levelOf_51 : decode cX12_levelOf 51 = .ok (.iload 5, 2) := by decide +kernel
theorem dX12_levelOf_53 : decode cX12_levelOf 53 = .ok (.ldc 181, 2) := by decide +kernel
theorem dX12_levelOf_55 : decode cX12_levelOf 55 = .ok (.if_icmp .eq 33, 3) := by decide +kernel
theorem dX12_levelOf_58 : decode cX12_levelOf 58 = .ok (.aload_n 0, 1) := by decide +kernel
theorem dX12_levelOf_59 : decode cX12_levelOf 59 = .ok (.getfield 8, 3) := by decide +kernel
theorem dX12_levelOf_62 : decode cX12_levelOf 62 = .ok (.sipush 200, 3) := by decide +kernel
theorem dX12_levelOf_65 : decode cX12_levelOf 65 = .ok (.iload_n 3, 1) := by decide +kernel
theorem dX12_levelOf_66 : decode cX12_levelOf 66 = .ok (.iadd, 1) := by decide +kernel
theorem dX12_levelOf_67 : decode cX12_levelOf 67 = .ok (.iaload, 1) := by decide +kernel
theorem dX12_levelOf_68 : decode cX12_levelOf 68 = .ok (.iconst 2, 1) := by decide +kernel
theorem dX12_levelOf_69 : decode cX12_levelOf 69 = .ok (.if_icmp .ne 19, 3) := by decide +kernel
theorem dX12_levelOf_72 : decode cX12_levelOf 72 = .ok (.iload_n 2, 1) := by decide +kernel
theorem dX12_levelOf_73 : decode cX12_levelOf 73 = .ok (.iconst 1, 1) := by decide +kernel
theorem dX12_levelOf_74 : decode cX12_levelOf 74 = .ok (.isub, 1) := by decide +kernel
theorem dX12_levelOf_75 : decode cX12_levelOf 75 = .ok (.aload_n 0, 1) := by decide +kernel
theorem dX12_levelOf_76 : decode cX12_levelOf 76 = .ok (.getfield 8, 3) := by decide +kernel
theorem dX12_levelOf_79 : decode cX12_levelOf 79 = .ok (.sipush 204, 3) := by decide +kernel
theorem dX12_levelOf_82 : decode cX12_levelOf 82 = .ok (.iload_n 3, 1) := by decide +kernel
theorem dX12_levelOf_83 : decode cX12_levelOf 83 = .ok (.iadd, 1) := by decide +kernel
theorem dX12_levelOf_84 : decode cX12_levelOf 84 = .ok (.iaload, 1) := by decide +kernel
theorem dX12_levelOf_85 : decode cX12_levelOf 85 = .ok (.if_icmp .lt 6, 3) := by decide +kernel
theorem dX12_levelOf_88 : decode cX12_levelOf 88 = .ok (.ldc 181, 2) := by decide +kernel
theorem dX12_levelOf_90 : decode cX12_levelOf 90 = .ok (.ireturn, 1) := by decide +kernel
theorem dX12_levelOf_91 : decode cX12_levelOf 91 = .ok (.aload_n 0, 1) := by decide +kernel
theorem dX12_levelOf_92 : decode cX12_levelOf 92 = .ok (.getfield 8, 3) := by decide +kernel
theorem dX12_levelOf_95 : decode cX12_levelOf 95 = .ok (.sipush 208, 3) := by decide +kernel
theorem dX12_levelOf_98 : decode cX12_levelOf 98 = .ok (.bipush 40, 2) := by decide +kernel
theorem dX12_levelOf_100 : decode cX12_levelOf 100 = .ok (.iload_n 3, 1) := by decide +kernel
theorem dX12_levelOf_101 : decode cX12_levelOf 101 = .ok (.imul, 1) := by decide +kernel
theorem dX12_levelOf_102 : decode cX12_levelOf 102 = .ok (.iadd, 1) := by decide +kernel
theorem dX12_levelOf_103 : decode cX12_levelOf 103 = .ok (.iload_n 2, 1) := by decide +kernel
theorem dX12_levelOf_104 : decode cX12_levelOf 104 = .ok (.iadd, 1) := by decide +kernel
theorem dX12_levelOf_105 : decode cX12_levelOf 105 = .ok (.iconst 1, 1) := by decide +kernel
theorem dX12_levelOf_106 : decode cX12_levelOf 106 = .ok (.isub, 1) := by decide +kernel
theorem dX12_levelOf_107 : decode cX12_levelOf 107 = .ok (.iaload, 1) := by decide +kernel
theorem dX12_levelOf_108 : decode cX12_levelOf 108 = .ok (.istore 6, 2) := by decide +kernel
theorem dX12_levelOf_110 : decode cX12_levelOf 110 = .ok (.iload 6, 2) := by decide +kernel
theorem dX12_levelOf_112 : decode cX12_levelOf 112 = .ok (.ldc 182, 2) := by decide +kernel
theorem dX12_levelOf_114 : decode cX12_levelOf 114 = .ok (.if_icmp .ne 39, 3) := by decide +kernel
theorem dX12_levelOf_117 : decode cX12_levelOf 117 = .ok (.aload_n 0, 1) := by decide +kernel
theorem dX12_levelOf_118 : decode cX12_levelOf 118 = .ok (.getfield 8, 3) := by decide +kernel
theorem dX12_levelOf_121 : decode cX12_levelOf 121 = .ok (.bipush 20, 2) := by decide +kernel
theorem dX12_levelOf_123 : decode cX12_levelOf 123 = .ok (.aload_n 0, 1) := by decide +kernel
theorem dX12_levelOf_124 : decode cX12_levelOf 124 = .ok (.getfield 8, 3) := by decide +kernel
theorem dX12_levelOf_127 : decode cX12_levelOf 127 = .ok (.iload 4, 2) := by decide +kernel
theorem dX12_levelOf_129 : decode cX12_levelOf 129 = .ok (.iaload, 1) := by decide +kernel
theorem dX12_levelOf_130 : decode cX12_levelOf 130 = .ok (.iadd, 1) := by decide +kernel
theorem dX12_levelOf_131 : decode cX12_levelOf 131 = .ok (.iaload, 1) := by decide +kernel
theorem dX12_levelOf_132 : decode cX12_levelOf 132 = .ok (.aload_n 0, 1) := by decide +kernel
theorem dX12_levelOf_133 : decode cX12_levelOf 133 = .ok (.getfield 8, 3) := by decide +kernel
theorem dX12_levelOf_136 : decode cX12_levelOf 136 = .ok (.bipush 20, 2) := by decide +kernel
theorem dX12_levelOf_138 : decode cX12_levelOf 138 = .ok (.aload_n 0, 1) := by decide +kernel
theorem dX12_levelOf_139 : decode cX12_levelOf 139 = .ok (.getfield 8, 3) := by decide +kernel
theorem dX12_levelOf_142 : decode cX12_levelOf 142 = .ok (.iload 4, 2) := by decide +kernel
theorem dX12_levelOf_144 : decode cX12_levelOf 144 = .ok (.iconst 1, 1) := by decide +kernel
theorem dX12_levelOf_145 : decode cX12_levelOf 145 = .ok (.isub, 1) := by decide +kernel
theorem dX12_levelOf_146 : decode cX12_levelOf 146 = .ok (.iaload, 1) := by decide +kernel
theorem dX12_levelOf_147 : decode cX12_levelOf 147 = .ok (.iadd, 1) := by decide +kernel
theorem dX12_levelOf_148 : decode cX12_levelOf 148 = .ok (.iaload, 1) := by decide +kernel
theorem dX12_levelOf_149 : decode cX12_levelOf 149 = .ok (.isub, 1) := by decide +kernel
theorem dX12_levelOf_150 : decode cX12_levelOf 150 = .ok (.goto 33, 3) := by decide +kernel
theorem dX12_levelOf_153 : decode cX12_levelOf 153 = .ok (.iload 6, 2) := by decide +kernel
theorem dX12_levelOf_155 : decode cX12_levelOf 155 = .ok (.sipush 10000, 3) := by decide +kernel
theorem dX12_levelOf_158 : decode cX12_levelOf 158 = .ok (.if_icmp .le 9, 3) := by decide +kernel
theorem dX12_levelOf_161 : decode cX12_levelOf 161 = .ok (.sipush 10000, 3) := by decide +kernel
theorem dX12_levelOf_164 : decode cX12_levelOf 164 = .ok (.goto 19, 3) := by decide +kernel
theorem dX12_levelOf_167 : decode cX12_levelOf 167 = .ok (.iload 6, 2) := by decide +kernel
theorem dX12_levelOf_169 : decode cX12_levelOf 169 = .ok (.sipush (-10000), 3) := by decide +kernel
theorem dX12_levelOf_172 : decode cX12_levelOf 172 = .ok (.if_icmp .ge 9, 3) := by decide +kernel
theorem dX12_levelOf_175 : decode cX12_levelOf 175 = .ok (.sipush (-10000), 3) := by decide +kernel
theorem dX12_levelOf_178 : decode cX12_levelOf 178 = .ok (.goto 5, 3) := by decide +kernel
theorem dX12_levelOf_181 : decode cX12_levelOf 181 = .ok (.iload 6, 2) := by decide +kernel
theorem dX12_levelOf_183 : decode cX12_levelOf 183 = .ok (.istore 7, 2) := by decide +kernel
theorem dX12_levelOf_185 : decode cX12_levelOf 185 = .ok (.iload 5, 2) := by decide +kernel
theorem dX12_levelOf_187 : decode cX12_levelOf 187 = .ok (.iload 7, 2) := by decide +kernel
theorem dX12_levelOf_189 : decode cX12_levelOf 189 = .ok (.iadd, 1) := by decide +kernel
theorem dX12_levelOf_190 : decode cX12_levelOf 190 = .ok (.ireturn, 1) := by decide +kernel
theorem cm_X12_levelOf : CM yX12_levelOf cX12_levelOf 8 (some .int) 3 12 := ⟨w_1631, w_60, w_1632, w_97, ⟨by decide +kernel, by decide +kernel, by decide +kernel⟩, ⟨_, _, rfl⟩, by decide⟩
noncomputable def f_X12_levelOf_88 (n : Nat)  (h : MM) : RR :=
  some ((-1000000), h)
noncomputable def f_X12_levelOf_183 (n : Nat)  (v5 s0 : Int) (h : MM) : RR :=
  some (wr (v5 + s0), h)
noncomputable def f_X12_levelOf (n : Nat) (v0 v1 v2 v3 : Int) (h : MM) : RR :=
  lb (wr ((wr (4700 + (wr (41 * v1)))) + v2)) fun x1 =>
  if v2 = 0 then
    gf h v0 12 1 fun r25 =>
    gf h v0 12 1 fun r26 =>
    rd h r26 100 x1 fun r27 =>
    rd h r25 100 (wr (20 + r27)) fun r28 =>
    some (r28, h)
  else
  gf h v0 12 1 fun r3 =>
  rd h r3 100 (wr ((wr ((wr (7160 + (wr (41 * v1)))) + v2)) - 1)) fun r4 =>
  if r4 = (-1000000) then
    f_X12_levelOf_88 n h
  else
  gf h v0 12 1 fun r6 =>
  rd h r6 100 (wr (200 + v3)) fun r7 =>
  if r7 = 2 then
    gf h v0 12 1 fun r9 =>
    rd h r9 100 (wr (204 + v3)) fun r10 =>
    if wr (v2 - 1) < r10 then
      gf h v0 12 1 fun r12 =>
      rd h r12 100 (wr ((wr ((wr (208 + (wr (40 * v3)))) + v2)) - 1)) fun r13 =>
      if r13 = 1000000 then
        gf h v0 12 1 fun r17 =>
        gf h v0 12 1 fun r18 =>
        rd h r18 100 x1 fun r19 =>
        rd h r17 100 (wr (20 + r19)) fun r20 =>
        gf h v0 12 1 fun r21 =>
        gf h v0 12 1 fun r22 =>
        rd h r22 100 (wr (x1 - 1)) fun r23 =>
        rd h r21 100 (wr (20 + r23)) fun r24 =>
        f_X12_levelOf_183 n r4 (wr (r20 - r24)) h
      else
      if r13 ≤ 10000 then
        if (-10000) ≤ r13 then
          f_X12_levelOf_183 n r4 r13 h
        else
        f_X12_levelOf_183 n r4 ((-10000)) h
      else
      f_X12_levelOf_183 n r4 10000 h
    else
    f_X12_levelOf_88 n h
  else
  f_X12_levelOf_88 n h
set_option maxRecDepth 20000 in
theorem b_X12_levelOf_88 {g : GT} {Z : Int × MM} {n : Nat} (C : Cx g cX12_levelOf 8 yX12_levelOf 0 0) (hr : Rt g (some .int) 0 Z)     {h : MM} (hf : f_X12_levelOf_88 n   h = some Z) : G g 88 [(3, 0), (3, 0), (3, 0), (3, 0), (3, 0), (3, 0), (3, 0), (3, 0)] [] h := by
  unfold f_X12_levelOf_88 at hf
  refine r_ldc C (v := (-1000000)) dX12_levelOf_88 w_1633 ?_
  cases hf
  exact r_jret C hr dX12_levelOf_90 (in32_of rfl)
set_option maxRecDepth 20000 in
theorem b_X12_levelOf_183 {g : GT} {Z : Int × MM} {n : Nat} (C : Cx g cX12_levelOf 8 yX12_levelOf 0 0) (hr : Rt g (some .int) 0 Z) {v5 s0 : Int}    (cv5 : in32 v5) (cs0 : in32 s0) {h : MM} (hf : f_X12_levelOf_183 n  v5 s0 h = some Z) : G g 183 [(3, 0), (3, 0), (3, 0), (3, 0), (3, 0), (0, v5), (3, 0), (3, 0)] [(0, s0)] h := by
  unfold f_X12_levelOf_183 at hf
  refine r_istore C dX12_levelOf_183 (Nat.le_of_ble_eq_true rfl) rfl ?_
  refine r_iload C dX12_levelOf_185 rfl ?_
  refine r_iload C dX12_levelOf_187 rfl ?_
  refine r_iadd C dX12_levelOf_189 ?_
  cases hf
  exact r_jret C hr dX12_levelOf_190 (in32_t _)
set_option maxRecDepth 20000 in
theorem e_X12_levelOf {g : GT} {Z : Int × MM} {n : Nat} (C : Cx g cX12_levelOf 8 yX12_levelOf 0 0) (hr : Rt g (some .int) 0 Z) {v0 v1 v2 v3 : Int} (cv0 : cK 2 v0) (cv1 : cK 0 v1) (cv2 : cK 0 v2) (cv3 : cK 0 v3) {h : MM} (hf : f_X12_levelOf n v0 v1 v2 v3 h = some Z) : G g 0 [(2, v0), (0, v1), (0, v2), (0, v3), (3, 0), (3, 0), (3, 0), (3, 0)] [] h := by
  have cv1 : in32 v1 := cv1
  have cv2 : in32 v2 := cv2
  have cv3 : in32 v3 := cv3
  unfold f_X12_levelOf at hf
  refine r_sipush C dX12_levelOf_0 rfl ?_
  refine r_bipush C dX12_levelOf_3 rfl ?_
  refine r_iload_n C dX12_levelOf_5 rfl ?_
  refine r_imul C dX12_levelOf_6 ?_
  refine r_iadd C dX12_levelOf_7 ?_
  refine r_iload_n C dX12_levelOf_8 rfl ?_
  refine r_iadd C dX12_levelOf_9 ?_
  obtain ⟨x1, e1, hf⟩ := lb_s hf
  have c1 : in32 x1 := by rw [e1]; exact (in32_t _)
  refine r_istoreL C dX12_levelOf_10 e1 (Nat.le_of_ble_eq_true rfl) rfl ?_
  refine r_iload_n C dX12_levelOf_12 rfl ?_
  refine r_if_ne C dX12_levelOf_13 (tgt := 32) (by decide) cv2 (fun n2 => ?_) (fun n2 => ?_)
  · have hf := ite_n n2 hf
    refine r_aload_n C dX12_levelOf_32 rfl ?_
    obtain ⟨q3, hf⟩ := gf_s hf
    refine r_gf C ct12 (j := 1) (ji := 1) dX12_levelOf_33 q3 rfl rfl (by decide) w_1426 rfl (fun c3 => ?_)
    refine r_sipush C dX12_levelOf_36 rfl ?_
    refine r_bipush C dX12_levelOf_39 rfl ?_
    refine r_iload_n C dX12_levelOf_41 rfl ?_
    refine r_imul C dX12_levelOf_42 ?_
    refine r_iadd C dX12_levelOf_43 ?_
    refine r_iload_n C dX12_levelOf_44 rfl ?_
    refine r_iadd C dX12_levelOf_45 ?_
    refine r_iconst C dX12_levelOf_46 ?_
    refine r_isub C dX12_levelOf_47 ?_
    obtain ⟨q4, hf⟩ := rd_s hf
    refine r_iald C dX12_levelOf_48 q4 rfl (fun c4 => ?_)
    refine r_istore C dX12_levelOf_49 (Nat.le_of_ble_eq_true rfl) rfl ?_
    refine r_iload C dX12_levelOf_51 rfl ?_
    refine r_ldc C (v := (-1000000)) dX12_levelOf_53 w_1633 ?_
    refine r_icmp_eq C dX12_levelOf_55 (tgt := 88) (by decide) c4 (in32_of rfl) (fun n5 => ?_) (fun n5 => ?_)
    · have hf := ite_p n5 hf
      exact G.mask [false, false, false, false, false, false, false, false] rfl rfl (b_X12_levelOf_88 C hr   hf)
    · have hf := ite_n n5 hf
      refine r_aload_n C dX12_levelOf_58 rfl ?_
      obtain ⟨q6, hf⟩ := gf_s hf
      refine r_gf C ct12 (j := 1) (ji := 1) dX12_levelOf_59 q6 rfl rfl (by decide) w_1426 rfl (fun c6 => ?_)
      refine r_sipush C dX12_levelOf_62 rfl ?_
      refine r_iload_n C dX12_levelOf_65 rfl ?_
      refine r_iadd C dX12_levelOf_66 ?_
      obtain ⟨q7, hf⟩ := rd_s hf
      refine r_iald C dX12_levelOf_67 q7 rfl (fun c7 => ?_)
      refine r_iconst C dX12_levelOf_68 ?_
      refine r_icmp_ne C dX12_levelOf_69 (tgt := 88) (by decide) c7 (in32_of rfl) (fun n8 => ?_) (fun n8 => ?_)
      · have hf := ite_n n8 hf
        exact G.mask [false, false, false, false, false, false, false, false] rfl rfl (b_X12_levelOf_88 C hr   hf)
      · have hf := ite_p n8 hf
        refine r_iload_n C dX12_levelOf_72 rfl ?_
        refine r_iconst C dX12_levelOf_73 ?_
        refine r_isub C dX12_levelOf_74 ?_
        refine r_aload_n C dX12_levelOf_75 rfl ?_
        obtain ⟨q9, hf⟩ := gf_s hf
        refine r_gf C ct12 (j := 1) (ji := 1) dX12_levelOf_76 q9 rfl rfl (by decide) w_1426 rfl (fun c9 => ?_)
        refine r_sipush C dX12_levelOf_79 rfl ?_
        refine r_iload_n C dX12_levelOf_82 rfl ?_
        refine r_iadd C dX12_levelOf_83 ?_
        obtain ⟨q10, hf⟩ := rd_s hf
        refine r_iald C dX12_levelOf_84 q10 rfl (fun c10 => ?_)
        refine r_icmp_lt C dX12_levelOf_85 (tgt := 91) (by decide) (in32_t _) c10 (fun n11 => ?_) (fun n11 => ?_)
        · have hf := ite_p n11 hf
          refine r_aload_n C dX12_levelOf_91 rfl ?_
          obtain ⟨q12, hf⟩ := gf_s hf
          refine r_gf C ct12 (j := 1) (ji := 1) dX12_levelOf_92 q12 rfl rfl (by decide) w_1426 rfl (fun c12 => ?_)
          refine r_sipush C dX12_levelOf_95 rfl ?_
          refine r_bipush C dX12_levelOf_98 rfl ?_
          refine r_iload_n C dX12_levelOf_100 rfl ?_
          refine r_imul C dX12_levelOf_101 ?_
          refine r_iadd C dX12_levelOf_102 ?_
          refine r_iload_n C dX12_levelOf_103 rfl ?_
          refine r_iadd C dX12_levelOf_104 ?_
          refine r_iconst C dX12_levelOf_105 ?_
          refine r_isub C dX12_levelOf_106 ?_
          obtain ⟨q13, hf⟩ := rd_s hf
          refine r_iald C dX12_levelOf_107 q13 rfl (fun c13 => ?_)
          refine r_istore C dX12_levelOf_108 (Nat.le_of_ble_eq_true rfl) rfl ?_
          refine r_iload C dX12_levelOf_110 rfl ?_
          refine r_ldc C (v := 1000000) dX12_levelOf_112 w_1634 ?_
          refine r_icmp_ne C dX12_levelOf_114 (tgt := 153) (by decide) c13 (in32_of rfl) (fun n14 => ?_) (fun n14 => ?_)
          · have hf := ite_n n14 hf
            refine r_iload C dX12_levelOf_153 rfl ?_
            refine r_sipush C dX12_levelOf_155 rfl ?_
            refine r_icmp_le C dX12_levelOf_158 (tgt := 167) (by decide) c13 (in32_of rfl) (fun n15 => ?_) (fun n15 => ?_)
            · have hf := ite_p n15 hf
              refine r_iload C dX12_levelOf_167 rfl ?_
              refine r_sipush C dX12_levelOf_169 rfl ?_
              refine r_icmp_ge C dX12_levelOf_172 (tgt := 181) (by decide) c13 (in32_of rfl) (fun n16 => ?_) (fun n16 => ?_)
              · have hf := ite_p n16 hf
                refine r_iload C dX12_levelOf_181 rfl ?_
                exact G.mask [false, false, false, false, false, true, false, false] rfl rfl (b_X12_levelOf_183 C hr  c4 c13 hf)
              · have hf := ite_n n16 hf
                refine r_sipush C dX12_levelOf_175 rfl ?_
                refine r_goto C dX12_levelOf_178 (tgt := 183) (by decide) ?_
                exact G.mask [false, false, false, false, false, true, false, false] rfl rfl (b_X12_levelOf_183 C hr  c4 (in32_of rfl) hf)
            · have hf := ite_n n15 hf
              refine r_sipush C dX12_levelOf_161 rfl ?_
              refine r_goto C dX12_levelOf_164 (tgt := 183) (by decide) ?_
              exact G.mask [false, false, false, false, false, true, false, false] rfl rfl (b_X12_levelOf_183 C hr  c4 (in32_of rfl) hf)
          · have hf := ite_p n14 hf
            refine r_aload_n C dX12_levelOf_117 rfl ?_
            obtain ⟨q17, hf⟩ := gf_s hf
            refine r_gf C ct12 (j := 1) (ji := 1) dX12_levelOf_118 q17 rfl rfl (by decide) w_1426 rfl (fun c17 => ?_)
            refine r_bipush C dX12_levelOf_121 rfl ?_
            refine r_aload_n C dX12_levelOf_123 rfl ?_
            obtain ⟨q18, hf⟩ := gf_s hf
            refine r_gf C ct12 (j := 1) (ji := 1) dX12_levelOf_124 q18 rfl rfl (by decide) w_1426 rfl (fun c18 => ?_)
            refine r_iload C dX12_levelOf_127 rfl ?_
            obtain ⟨q19, hf⟩ := rd_s hf
            refine r_iald C dX12_levelOf_129 q19 rfl (fun c19 => ?_)
            refine r_iadd C dX12_levelOf_130 ?_
            obtain ⟨q20, hf⟩ := rd_s hf
            refine r_iald C dX12_levelOf_131 q20 rfl (fun c20 => ?_)
            refine r_aload_n C dX12_levelOf_132 rfl ?_
            obtain ⟨q21, hf⟩ := gf_s hf
            refine r_gf C ct12 (j := 1) (ji := 1) dX12_levelOf_133 q21 rfl rfl (by decide) w_1426 rfl (fun c21 => ?_)
            refine r_bipush C dX12_levelOf_136 rfl ?_
            refine r_aload_n C dX12_levelOf_138 rfl ?_
            obtain ⟨q22, hf⟩ := gf_s hf
            refine r_gf C ct12 (j := 1) (ji := 1) dX12_levelOf_139 q22 rfl rfl (by decide) w_1426 rfl (fun c22 => ?_)
            refine r_iload C dX12_levelOf_142 rfl ?_
            refine r_iconst C dX12_levelOf_144 ?_
            refine r_isub C dX12_levelOf_145 ?_
            obtain ⟨q23, hf⟩ := rd_s hf
            refine r_iald C dX12_levelOf_146 q23 rfl (fun c23 => ?_)
            refine r_iadd C dX12_levelOf_147 ?_
            obtain ⟨q24, hf⟩ := rd_s hf
            refine r_iald C dX12_levelOf_148 q24 rfl (fun c24 => ?_)
            refine r_isub C dX12_levelOf_149 ?_
            refine r_goto C dX12_levelOf_150 (tgt := 183) (by decide) ?_
            exact G.mask [false, false, false, false, false, true, false, false] rfl rfl (b_X12_levelOf_183 C hr  c4 (in32_t _) hf)
        · have hf := ite_n n11 hf
          exact G.mask [false, false, false, false, false, false, false, false] rfl rfl (b_X12_levelOf_88 C hr   hf)
  · have hf := ite_p n2 hf
    refine r_aload_n C dX12_levelOf_16 rfl ?_
    obtain ⟨q25, hf⟩ := gf_s hf
    refine r_gf C ct12 (j := 1) (ji := 1) dX12_levelOf_17 q25 rfl rfl (by decide) w_1426 rfl (fun c25 => ?_)
    refine r_bipush C dX12_levelOf_20 rfl ?_
    refine r_aload_n C dX12_levelOf_22 rfl ?_
    obtain ⟨q26, hf⟩ := gf_s hf
    refine r_gf C ct12 (j := 1) (ji := 1) dX12_levelOf_23 q26 rfl rfl (by decide) w_1426 rfl (fun c26 => ?_)
    refine r_iload C dX12_levelOf_26 rfl ?_
    obtain ⟨q27, hf⟩ := rd_s hf
    refine r_iald C dX12_levelOf_28 q27 rfl (fun c27 => ?_)
    refine r_iadd C dX12_levelOf_29 ?_
    obtain ⟨q28, hf⟩ := rd_s hf
    refine r_iald C dX12_levelOf_30 q28 rfl (fun c28 => ?_)
    cases hf
    exact r_jret C hr dX12_levelOf_31 c28
set_option maxRecDepth 20000 in
theorem am_X12_levelOf (l : Launch) (n : Nat) : AM l yX12_levelOf cX12_levelOf 8 (some .int) 0 0 [2, 0, 0, 0] 0 (un4 (f_X12_levelOf n)) := by
  refine AM.intro (by decide) (fun xs hx => ?_) (fun g xs h Z hl C hr hx hf => ?_)
  · obtain ⟨a0, a1, a2, a3, rfl, c0, c1, c2, c3⟩ := canL_4 hx
    exact Nat.le_of_ble_eq_true rfl
  · obtain ⟨a0, a1, a2, a3, rfl, c0, c1, c2, c3⟩ := canL_4 hx
    have hf := (un4_e _ a0 a1 a2 a3 _).symm.trans hf
    exact e_X12_levelOf (n := n) C hr c0 c1 c2 c3 hf
/-! LinesPromisedModel.chain(III)I -/
theorem dX12_chain_0 : decode cX12_chain 0 = .ok (.aload_n 0, 1) := by decide +kernel
theorem dX12_chain_1 : decode cX12_chain 1 = .ok (.iload_n 1, 1) := by decide +kernel
theorem dX12_chain_2 : decode cX12_chain 2 = .ok (.iconst 1, 1) := by decide +kernel
theorem dX12_chain_3 : decode cX12_chain 3 = .ok (.invokevirtual 165, 3) := by decide +kernel
theorem dX12_chain_6 : decode cX12_chain 6 = .ok (.ifCond .eq 17, 3) := by decide +kernel
theorem dX12_chain_9 : decode cX12_chain 9 = .ok (.iload_n 2, 1) := by decide +kernel
theorem dX12_chain_10 : decode cX12_chain 10 = .ok (.invokestatic 168, 3) := by decide +kernel
theorem dX12_chain_13 : decode cX12_chain 13 = .ok (.ifCond .eq 10, 3) := by decide +kernel
theorem dX12_chain_16 : decode cX12_chain 16 = .ok (.iload_n 3, 1) := by decide +kernel
theorem dX12_chain_17 : decode cX12_chain 17 = .ok (.invokestatic 168, 3) := by decide +kernel
theorem dX12_chain_20 : decode cX12_chain 20 = .ok (.ifCond .ne 5, 3) := by decide +kernel
theorem dX12_chain_23 : decode cX12_chain 23 = .ok (.iconst (-1), 1) := by decide +kernel
theorem dX12_chain_24 : decode cX12_chain 24 = .ok (.ireturn, 1) := by decide +kernel
theorem dX12_chain_25 : decode cX12_chain 25 = .ok (.aload_n 0, 1) := by decide +kernel
theorem dX12_chain_26 : decode cX12_chain 26 = .ok (.getfield 8, 3) := by decide +kernel
theorem dX12_chain_29 : decode cX12_chain 29 = .ok (.sipush 200, 3) := by decide +kernel
theorem dX12_chain_32 : decode cX12_chain 32 = .ok (.iload_n 2, 1) := by decide +kernel
theorem dX12_chain_33 : decode cX12_chain 33 = .ok (.iadd, 1) := by decide +kernel
theorem dX12_chain_34 : decode cX12_chain 34 = .ok (.iaload, 1) := by decide +kernel
theorem dX12_chain_35 : decode cX12_chain 35 = .ok (.iconst (-1), 1) := by decide +kernel
theorem dX12_chain_36 : decode cX12_chain 36 = .ok (.if_icmp .ne 6, 3) := by decide +kernel
theorem dX12_chain_39 : decode cX12_chain 39 = .ok (.bipush (-11), 2) := by decide +kernel
theorem dX12_chain_41 : decode cX12_chain 41 = .ok (.ireturn, 1) := by decide +kernel
theorem dX12_chain_42 : decode cX12_chain 42 = .ok (.aload_n 0, 1) := by decide +kernel
theorem dX12_chain_43 : decode cX12_chain 43 = .ok (.getfield 8, 3) := by decide +kernel
theorem dX12_chain_46 : decode cX12_chain 46 = .ok (.sipush 200, 3) := by decide +kernel
theorem dX12_chain_49 : decode cX12_chain 49 = .ok (.iload_n 2, 1) := by decide +kernel
theorem dX12_chain_50 : decode cX12_chain 50 = .ok (.iadd, 1) := by decide +kernel
theorem dX12_chain_51 : decode cX12_chain 51 = .ok (.iaload, 1) := by decide +kernel
theorem dX12_chain_52 : decode cX12_chain 52 = .ok (.ifCond .eq 6, 3) := by decide +kernel
theorem dX12_chain_55 : decode cX12_chain 55 = .ok (.bipush (-13), 2) := by decide +kernel
theorem dX12_chain_57 : decode cX12_chain 57 = .ok (.ireturn, 1) := by decide +kernel
theorem dX12_chain_58 : decode cX12_chain 58 = .ok (.aload_n 0, 1) := by decide +kernel
theorem dX12_chain_59 : decode cX12_chain 59 = .ok (.getfield 8, 3) := by decide +kernel
theorem dX12_chain_62 : decode cX12_chain 62 = .ok (.iconst 2, 1) := by decide +kernel
theorem dX12_chain_63 : decode cX12_chain 63 = .ok (.iaload, 1) := by decide +kernel
theorem dX12_chain_64 : decode cX12_chain 64 = .ok (.bipush 60, 2) := by decide +kernel
theorem dX12_chain_66 : decode cX12_chain 66 = .ok (.if_icmp .ne 6, 3) := by decide +kernel
theorem dX12_chain_69 : decode cX12_chain 69 = .ok (.bipush (-4), 2) := by decide +kernel
theorem dX12_chain_71 : decode cX12_chain 71 = .ok (.ireturn, 1) := by decide +kernel
theorem dX12_chain_72 : decode cX12_chain 72 = .ok (.aload_n 0, 1) := by decide +kernel
theorem dX12_chain_73 : decode cX12_chain 73 = .ok (.getfield 8, 3) := by decide +kernel
theorem dX12_chain_76 : decode cX12_chain 76 = .ok (.sipush 180, 3) := by decide +kernel
theorem dX12_chain_79 : decode cX12_chain 79 = .ok (.aload_n 0, 1) := by decide +kernel
theorem dX12_chain_80 : decode cX12_chain 80 = .ok (.getfield 8, 3) := by decide +kernel
theorem dX12_chain_83 : decode cX12_chain 83 = .ok (.sipush 550, 3) := by decide +kernel
theorem dX12_chain_86 : decode cX12_chain 86 = .ok (.iload_n 1, 1) := by decide +kernel
theorem dX12_chain_87 : decode cX12_chain 87 = .ok (.iadd, 1) := by decide +kernel
theorem dX12_chain_88 : decode cX12_chain 88 = .ok (.iaload, 1) := by decide +kernel
theorem dX12_chain_89 : decode cX12_chain 89 = .ok (.iadd, 1) := by decide +kernel
theorem dX12_chain_90 : decode cX12_chain 90 = .ok (.iaload, 1) := by decide +kernel
theorem dX12_chain_91 : decode cX12_chain 91 = .ok (.istore 4, 2) := by decide +kernel
theorem dX12_chain_93 : decode cX12_chain 93 = .ok (.aload_n 0, 1) := by decide +kernel
theorem dX12_chain_94 : decode cX12_chain 94 = .ok (.getfield 8, 3) := by decide +kernel
theorem dX12_chain_97 : decode cX12_chain 97 = .ok (.sipush 180, 3) := by decide +kernel
theorem dX12_chain_100 : decode cX12_chain 100 = .ok (.aload_n 0, 1) := by decide +kernel
theorem dX12_chain_101 : decode cX12_chain 101 = .ok (.getfield 8, 3) := by decide +kernel
theorem dX12_chain_104 : decode cX12_chain 104 = .ok (.sipush 610, 3) := by decide +kernel
theorem dX12_chain_107 : decode cX12_chain 107 = .ok (.iload_n 1, 1) := by decide +kernel
theorem dX12_chain_108 : decode cX12_chain 108 = .ok (.iadd, 1) := by decide +kernel
theorem dX12_chain_109 : decode cX12_chain 109 = .ok (.iaload, 1) := by decide +kernel
theorem dX12_chain_110 : decode cX12_chain 110 = .ok (.iadd, 1) := by decide +kernel
theorem dX12_chain_111 : decode cX12_chain 111 = .ok (.iaload, 1) := by decide +kernel
theorem dX12_chain_112 : decode cX12_chain 112 = .ok (.istore 5, 2) := by decide +kernel
theorem dX12_chain_114 : decode cX12_chain 114 = .ok (.aload_n 0, 1) := by decide +kernel
theorem dX12_chain_115 : decode cX12_chain 115 = .ok (.iconst 2, 1) := by decide +kernel
theorem dX12_chain_116 : decode cX12_chain 116 = .ok (.iload_n 1, 1) := by decide +kernel
theorem dX12_chain_117 : decode cX12_chain 117 = .ok (.aload_n 0, 1) := by decide +kernel
theorem dX12_chain_118 : decode cX12_chain 118 = .ok (.getfield 8, 3) := by decide +kernel
theorem dX12_chain_121 : decode cX12_chain 121 = .ok (.sipush 550, 3) := by decide +kernel
theorem dX12_chain_124 : decode cX12_chain 124 = .ok (.iload_n 1, 1) := by decide +kernel
theorem dX12_chain_125 : decode cX12_chain 125 = .ok (.iadd, 1) := by decide +kernel
theorem dX12_chain_126 : decode cX12_chain 126 = .ok (.iaload, 1) := by decide +kernel
theorem dX12_chain_127 : decode cX12_chain 127 = .ok (.aload_n 0, 1) := by decide +kernel
theorem dX12_chain_128 : decode cX12_chain 128 = .ok (.getfield 8, 3) := by decide +kernel
theorem dX12_chain_131 : decode cX12_chain 131 = .ok (.sipush 610, 3) := by decide +kernel
theorem dX12_chain_134 : decode cX12_chain 134 = .ok (.iload_n 1, 1) := by decide +kernel
theorem dX12_chain_135 : decode cX12_chain 135 = .ok (.iadd, 1) := by decide +kernel
theorem dX12_chain_136 : decode cX12_chain 136 = .ok (.iaload, 1) := by decide +kernel
theorem dX12_chain_137 : decode cX12_chain 137 = .ok (.aload_n 0, 1) := by decide +kernel
theorem dX12_chain_138 : decode cX12_chain 138 = .ok (.getfield 8, 3) := by decide +kernel
theorem dX12_chain_141 : decode cX12_chain 141 = .ok (.sipush 670, 3) := by decide +kernel
theorem dX12_chain_144 : decode cX12_chain 144 = .ok (.iload_n 1, 1) := by decide +kernel
theorem dX12_chain_145 : decode cX12_chain 145 = .ok (.iadd, 1) := by decide +kernel
theorem dX12_chain_146 : decode cX12_chain 146 = .ok (.iaload, 1) := by decide +kernel
theorem dX12_chain_147 : decode cX12_chain 147 = .ok (.iconst (-1), 1) := by decide +kernel
theorem dX12_chain_148 : decode cX12_chain 148 = .ok (.invokevirtual 158, 3) := by decide +kernel
theorem dX12_chain_151 : decode cX12_chain 151 = .ok (.istore 6, 2) := by decide +kernel
theorem dX12_chain_153 : decode cX12_chain 153 = .ok (.aload_n 0, 1) := by decide +kernel
theorem dX12_chain_154 : decode cX12_chain 154 = .ok (.getfield 8, 3) := by decide +kernel
theorem dX12_chain_157 : decode cX12_chain 157 = .ok (.sipush 850, 3) := by decide +kernel
theorem dX12_chain_160 : decode cX12_chain 160 = .ok (.iload 6, 2) := by decide +kernel
theorem dX12_chain_162 : decode cX12_chain 162 = .ok (.iadd, 1) := by decide +kernel
theorem dX12_chain_163 : decode cX12_chain 163 = .ok (.iconst 0, 1) := by decide +kernel
theorem dX12_chain_164 : decode cX12_chain 164 = .ok (.iastore, 1) := by decide +kernel
theorem dX12_chain_165 : decode cX12_chain 165 = .ok (.iconst 0, 1) := by decide +kernel
theorem dX12_chain_166 : decode cX12_chain 166 = .ok (.istore 7, 2) := by decide +kernel
theorem dX12_chain_168 : decode cX12_chain 168 = .ok (.iconst 1, 1) := by decide +kernel
theorem dX12_chain_169 : decode cX12_chain 169 = .ok (.istore 8, 2) := by decide +kernel
theorem dX12_chain_171 : decode cX12_chain 171 = .ok (.iload 8, 2) := by decide +kernel
theorem dX12_chain_173 : decode cX12_chain 173 = .ok (.ifCond .eq 219, 3) := by decide +kernel
theorem dX12_chain_176 : decode cX12_chain 176 = .ok (.iload 7, 2) := by decide +kernel
theorem dX12_chain_178 : decode cX12_chain 178 = .ok (.aload_n 0, 1) := by decide +kernel
theorem dX12_chain_179 : decode cX12_chain 179 = .ok (.getfield 8, 3) := by decide +kernel
theorem dX12_chain_182 : decode cX12_chain 182 = .ok (.sipush 204, 3) := by decide +kernel
theorem dX12_chain_185 : decode cX12_chain 185 = .ok (.iload_n 2, 1) := by decide +kernel
theorem dX12_chain_186 : decode cX12_chain 186 = .ok (.iadd, 1) := by decide +kernel
theorem dX12_chain_187 : decode cX12_chain 187 = .ok (.iaload, 1) := by decide +kernel
theorem dX12_chain_188 : decode cX12_chain 188 = .ok (.if_icmp .ge 22, 3) := by decide +kernel
theorem dX12_chain_191 : decode cX12_chain 191 = .ok (.aload_n 0, 1) := by decide +kernel
theorem dX12_chain_192 : decode cX12_chain 192 = .ok (.getfield 8, 3) := by decide +kernel
theorem dX12_chain_195 : decode cX12_chain 195 = .ok (.sipush 208, 3) := by decide +kernel
theorem dX12_chain_198 : decode cX12_chain 198 = .ok (.bipush 40, 2) := by decide +kernel
theorem dX12_chain_200 : decode cX12_chain 200 = .ok (.iload_n 2, 1) := by decide +kernel
theorem dX12_chain_201 : decode cX12_chain 201 = .ok (.imul, 1) := by decide +kernel
theorem dX12_chain_202 : decode cX12_chain 202 = .ok (.iadd, 1) := by decide +kernel
theorem dX12_chain_203 : decode cX12_chain 203 = .ok (.iload 7, 2) := by decide +kernel
theorem dX12_chain_205 : decode cX12_chain 205 = .ok (.iadd, 1) := by decide +kernel
theorem dX12_chain_206 : decode cX12_chain 206 = .ok (.iaload, 1) := by decide +kernel
theorem dX12_chain_207 : decode cX12_chain 207 = .ok (.goto 4, 3) := by decide +kernel
theorem dX12_chain_210 : decode cX12_chain 210 = .ok (.iconst (-1), 1) := by decide +kernel
theorem dX12_chain_211 : decode cX12_chain 211 = .ok (.istore 9, 2) := by decide +kernel
theorem dX12_chain_213 : decode cX12_chain 213 = .ok (.iload 9, 2) := by decide +kernel
theorem dX12_chain_215 : decode cX12_chain 215 = .ok (.invokestatic 66, 3) := by decide +kernel
theorem dX12_chain_218 : decode cX12_chain 218 = .ok (.ifCond .eq 60, 3) := by decide +kernel
theorem dX12_chain_221 : decode cX12_chain 221 = .ok (.iload 7, 2) := by decide +kernel
theorem dX12_chain_223 : decode cX12_chain 223 = .ok (.ifCond .ne 13, 3) := by decide +kernel
theorem dX12_chain_226 : decode cX12_chain 226 = .ok (.iload 9, 2) := by decide +kernel
theorem dX12_chain_228 : decode cX12_chain 228 = .ok (.iload 4, 2) := by decide +kernel
theorem dX12_chain_230 : decode cX12_chain 230 = .ok (.if_icmp .ne 48, 3) := by decide +kernel
theorem dX12_chain_233 : decode cX12_chain 233 = .ok (.goto 41, 3) := by decide +kernel
theorem dX12_chain_236 : decode cX12_chain 236 = .ok (.iload 9, 2) := by decide +kernel
theorem dX12_chain_238 : decode cX12_chain 238 = .ok (.aload_n 0, 1) := by decide +kernel
theorem dX12_chain_239 : decode cX12_chain 239 = .ok (.getfield 8, 3) := by decide +kernel
theorem dX12_chain_242 : decode cX12_chain 242 = .ok (.sipush 4700, 3) := by decide +kernel
theorem dX12_chain_245 : decode cX12_chain 245 = .ok (.bipush 41, 2) := by decide +kernel
theorem dX12_chain_247 : decode cX12_chain 247 = .ok (.iload 6, 2) := by decide +kernel
theorem dX12_chain_249 : decode cX12_chain 249 = .ok (.imul, 1) := by decide +kernel
theorem dX12_chain_250 : decode cX12_chain 250 = .ok (.iadd, 1) := by decide +kernel
theorem dX12_chain_251 : decode cX12_chain 251 = .ok (.iload 7, 2) := by decide +kernel
theorem dX12_chain_253 : decode cX12_chain 253 = .ok (.iadd, 1) := by decide +kernel
theorem dX12_chain_254 : decode cX12_chain 254 = .ok (.iconst 1, 1) := by decide +kernel
theorem dX12_chain_255 : decode cX12_chain 255 = .ok (.isub, 1) := by decide +kernel
theorem dX12_chain_256 : decode cX12_chain 256 = .ok (.iaload, 1) := by decide +kernel
theorem dX12_chain_257 : decode cX12_chain 257 = .ok (.invokestatic 171, 3) := by decide +kernel
theorem dX12_chain_260 : decode cX12_chain 260 = .ok (.ifCond .eq 18, 3) := by decide +kernel
theorem dX12_chain_263 : decode cX12_chain 263 = .ok (.aload_n 0, 1) := by decide +kernel
theorem dX12_chain_264 : decode cX12_chain 264 = .ok (.iload 6, 2) := by decide +kernel
theorem dX12_chain_266 : decode cX12_chain 266 = .ok (.iload 9, 2) := by decide +kernel
theorem dX12_chain_268 : decode cX12_chain 268 = .ok (.invokevirtual 174, 3) := by decide +kernel
theorem dX12_chain_271 : decode cX12_chain 271 = .ok (.ifCond .ne 7, 3) := by decide +kernel
theorem dX12_chain_274 : decode cX12_chain 274 = .ok (.iconst 1, 1) := by decide +kernel
theorem dX12_chain_275 : decode cX12_chain 275 = .ok (.goto 4, 3) := by decide +kernel
theorem dX12_chain_278 : decode cX12_chain 278 = .ok (.iconst 0, 1) := by decide +kernel
theorem dX12_chain_279 : decode cX12_chain 279 = .ok (.istore 10, 2) := by decide +kernel
theorem dX12_chain_281 : decode cX12_chain 281 = .ok (.iload 10, 2) := by decide +kernel
theorem dX12_chain_283 : decode cX12_chain 283 = .ok (.ifCond .eq 64, 3) := by decide +kernel
theorem dX12_chain_286 : decode cX12_chain 286 = .ok (.aload_n 0, 1) := by decide +kernel
theorem dX12_chain_287 : decode cX12_chain 287 = .ok (.getfield 8, 3) := by decide +kernel
theorem dX12_chain_290 : decode cX12_chain 290 = .ok (.sipush 4700, 3) := by decide +kernel
theorem dX12_chain_293 : decode cX12_chain 293 = .ok (.bipush 41, 2) := by decide +kernel
theorem dX12_chain_295 : decode cX12_chain 295 = .ok (.iload 6, 2) := by decide +kernel
theorem dX12_chain_297 : decode cX12_chain 297 = .ok (.imul, 1) := by decide +kernel
theorem dX12_chain_298 : decode cX12_chain 298 = .ok (.iadd, 1) := by decide +kernel
theorem dX12_chain_299 : decode cX12_chain 299 = .ok (.iload 7, 2) := by decide +kernel
theorem dX12_chain_301 : decode cX12_chain 301 = .ok (.iadd, 1) := by decide +kernel
theorem dX12_chain_302 : decode cX12_chain 302 = .ok (.iload 9, 2) := by decide +kernel
theorem dX12_chain_304 : decode cX12_chain 304 = .ok (.iastore, 1) := by decide +kernel
theorem dX12_chain_305 : decode cX12_chain 305 = .ok (.aload_n 0, 1) := by decide +kernel
theorem dX12_chain_306 : decode cX12_chain 306 = .ok (.getfield 8, 3) := by decide +kernel
theorem dX12_chain_309 : decode cX12_chain 309 = .ok (.sipush 7160, 3) := by decide +kernel
theorem dX12_chain_312 : decode cX12_chain 312 = .ok (.bipush 41, 2) := by decide +kernel
theorem dX12_chain_314 : decode cX12_chain 314 = .ok (.iload 6, 2) := by decide +kernel
theorem dX12_chain_316 : decode cX12_chain 316 = .ok (.imul, 1) := by decide +kernel
theorem dX12_chain_317 : decode cX12_chain 317 = .ok (.iadd, 1) := by decide +kernel
theorem dX12_chain_318 : decode cX12_chain 318 = .ok (.iload 7, 2) := by decide +kernel
theorem dX12_chain_320 : decode cX12_chain 320 = .ok (.iadd, 1) := by decide +kernel
theorem dX12_chain_321 : decode cX12_chain 321 = .ok (.aload_n 0, 1) := by decide +kernel
theorem dX12_chain_322 : decode cX12_chain 322 = .ok (.iload 6, 2) := by decide +kernel
theorem dX12_chain_324 : decode cX12_chain 324 = .ok (.iload 7, 2) := by decide +kernel
theorem dX12_chain_326 : decode cX12_chain 326 = .ok (.iload_n 3, 1) := by decide +kernel
theorem dX12_chain_327 : decode cX12_chain 327 = .ok (.invokevirtual 177, 3) := by decide +kernel
theorem dX12_chain_330 : decode cX12_chain 330 = .ok (.iastore, 1) := by decide +kernel
theorem dX12_chain_331 : decode cX12_chain 331 = .ok (.iinc 7 1, 3) := by decide +kernel
theorem dX12_chain_334 : decode cX12_chain 334 = .ok (.aload_n 0, 1) := by decide +kernel
theorem dX12_chain_335 : decode cX12_chain 335 = .ok (.getfield 8, 3) := by decide +kernel
theorem dX12_chain_338 : decode cX12_chain 338 = .ok (.sipush 850, 3) := by decide +kernel
theorem dX12_chain_341 : decode cX12_chain 341 = .ok (.iload 6, 2) := by decide +kernel
theorem dX12_chain_343 : decode cX12_chain 343 = .ok (.iadd, 1) := by decide +kernel
theorem dX12_chain_344 : decode cX12_chain 344 = .ok (.iload 7, 2) := by decide +kernel
theorem dX12_chain_346 : decode cX12_chain 346 = .ok (.iastore, 1) := by decide +kernel
theorem dX12_chain_347 : decode cX12_chain 347 = .ok (.iload 10, 2) := by decide +kernel
theorem dX12_chain_349 : decode cX12_chain 349 = .ok (.ifCond .eq 14, 3) := by decide +kernel
theorem dX12_chain_352 : decode cX12_chain 352 = .ok (.iload 9, 2) := by decide +kernel
theorem dX12_chain_354 : decode cX12_chain 354 = .ok (.iload 5, 2) := by decide +kernel
theorem dX12_chain_356 : decode cX12_chain 356 = .ok (.if_icmp .eq 7, 3) := by decide +kernel
theorem dX12_chain_359 : decode cX12_chain 359 = .ok (.iconst 1, 1) := by decide +kernel
theorem dX12_chain_360 : decode cX12_chain 360 = .ok (.goto 4, 3) := by decide +kernel
theorem dX12_chain_363 : decode cX12_chain 363 = .ok (.iconst 0, 1) := by decide +kernel
theorem dX12_chain_364 : decode cX12_chain 364 = .ok (.istore 8, 2) := by decide +kernel
theorem dX12_chain_366 : decode cX12_chain 366 = .ok (.aload_n 0, 1) := by decide +kernel
theorem dX12_chain_367 : decode cX12_chain 367 = .ok (.getfield 8, 3) := by decide +kernel
theorem dX12_chain_370 : decode cX12_chain 370 = .ok (.sipush 910, 3) := by decide +kernel
theorem dX12_chain_373 : decode cX12_chain 373 = .ok (.iload 6, 2) := by decide +kernel
theorem dX12_chain_375 : decode cX12_chain 375 = .ok (.iadd, 1) := by decide +kernel
theorem dX12_chain_376 : decode cX12_chain 376 = .ok (.iload 10, 2) := by decide +kernel
theorem dX12_chain_378 : decode cX12_chain 378 = .ok (.ifCond .eq 8, 3) := by decide +kernel
theorem dX12_chain_381 : decode cX12_chain 381 = .ok (.bipush (-5), 2) := by decide +kernel
theorem dX12_chain_383 : decode cX12_chain 383 = .ok (.goto 5, 3) := by decide +kernel
theorem dX12_chain_386 : decode cX12_chain 386 = .ok (.iload 7, 2) := by decide +kernel
theorem dX12_chain_388 : decode cX12_chain 388 = .ok (.iastore, 1) := by decide +kernel
theorem dX12_chain_389 : decode cX12_chain 389 = .ok (.goto (-218), 3) := by decide +kernel
theorem dX12_chain_392 : decode cX12_chain 392 = .ok (.iload 6, 2) := by decide +kernel
theorem dX12_chain_394 : decode cX12_chain 394 = .ok (.ireturn, 1) := by decide +kernel
theorem cm_X12_chain : CM yX12_chain cX12_chain 11 (some .int) 3 12 := ⟨w_1604, w_1605, w_1606, w_97, ⟨by decide +kernel, by decide +kernel, by decide +kernel⟩, ⟨_, _, rfl⟩, by decide⟩
noncomputable def f_X12_chain_23 (n : Nat)  (h : MM) : RR :=
  some ((-1), h)
noncomputable def f_X12_chain_388 (n : Nat) (rec171 : Int → Int → MM → RR) (v0 v2 v3 v4 v5 v6 v7 v8 s0 s1 s2 : Int) (h : MM) : RR :=
  wt h s0 100 s1 s2 fun h1 =>
  rec171 v7 v8 h1
noncomputable def f_X12_chain_364 (n : Nat) (rec171 : Int → Int → MM → RR) (v0 v2 v3 v4 v5 v6 v7 v10 s0 : Int) (h : MM) : RR :=
  gf h v0 12 1 fun r1 =>
  if v10 = 0 then
    f_X12_chain_388 n rec171 v0 v2 v3 v4 v5 v6 v7 s0 r1 (wr (910 + v6)) v7 h
  else
  f_X12_chain_388 n rec171 v0 v2 v3 v4 v5 v6 v7 s0 r1 (wr (910 + v6)) ((-5)) h
noncomputable def f_X12_chain_363 (n : Nat) (rec171 : Int → Int → MM → RR) (v0 v2 v3 v4 v5 v6 v7 v10 : Int) (h : MM) : RR :=
  f_X12_chain_364 n rec171 v0 v2 v3 v4 v5 v6 v7 v10 0 h
noncomputable def f_X12_chain_347 (n : Nat) (rec171 : Int → Int → MM → RR) (v0 v2 v3 v4 v5 v6 v7 v9 v10 : Int) (h : MM) : RR :=
  if v10 = 0 then
    f_X12_chain_363 n rec171 v0 v2 v3 v4 v5 v6 v7 v10 h
  else
  if v9 = v5 then
    f_X12_chain_363 n rec171 v0 v2 v3 v4 v5 v6 v7 v10 h
  else
  f_X12_chain_364 n rec171 v0 v2 v3 v4 v5 v6 v7 v10 1 h
noncomputable def f_X12_chain_279 (n : Nat) (rec171 : Int → Int → MM → RR) (v0 v2 v3 v4 v5 v6 v7 v9 s0 : Int) (h : MM) : RR :=
  if s0 = 0 then
    f_X12_chain_347 n rec171 v0 v2 v3 v4 v5 v6 v7 v9 s0 h
  else
  gf h v0 12 1 fun r2 =>
  wt h r2 100 (wr ((wr (4700 + (wr (41 * v6)))) + v7)) v9 fun h3 =>
  gf h3 v0 12 1 fun r4 =>
  gk h3 v0 12 <|
  bd (f_X12_levelOf n v0 v6 v7 v3 h3) fun r5 h5 =>
  wt h5 r4 100 (wr ((wr (7160 + (wr (41 * v6)))) + v7)) r5 fun h6 =>
  lb (wr (v7 + 1)) fun x7 =>
  gf h6 v0 12 1 fun r8 =>
  wt h6 r8 100 (wr (850 + v6)) x7 fun h9 =>
  f_X12_chain_347 n rec171 v0 v2 v3 v4 v5 v6 x7 v9 s0 h9
noncomputable def f_X12_chain_278 (n : Nat) (rec171 : Int → Int → MM → RR) (v0 v2 v3 v4 v5 v6 v7 v9 : Int) (h : MM) : RR :=
  f_X12_chain_279 n rec171 v0 v2 v3 v4 v5 v6 v7 v9 0 h
noncomputable def f_X12_chain_274 (n : Nat) (rec171 : Int → Int → MM → RR) (v0 v2 v3 v4 v5 v6 v7 v9 : Int) (h : MM) : RR :=
  f_X12_chain_279 n rec171 v0 v2 v3 v4 v5 v6 v7 v9 1 h
noncomputable def f_X12_chain_211 (n : Nat) (rec171 : Int → Int → MM → RR) (v0 v2 v3 v4 v5 v6 v7 s0 : Int) (h : MM) : RR :=
  bd (f_X12_isCell n s0 h) fun r1 h1 =>
  if r1 = 0 then
    f_X12_chain_278 n rec171 v0 v2 v3 v4 v5 v6 v7 s0 h1
  else
  if v7 = 0 then
    if s0 = v4 then
      f_X12_chain_274 n rec171 v0 v2 v3 v4 v5 v6 v7 s0 h1
    else
    f_X12_chain_278 n rec171 v0 v2 v3 v4 v5 v6 v7 s0 h1
  else
  gf h1 v0 12 1 fun r4 =>
  rd h1 r4 100 (wr ((wr ((wr (4700 + (wr (41 * v6)))) + v7)) - 1)) fun r5 =>
  bd (f_X12_isBeside n s0 r5 h1) fun r6 h6 =>
  if r6 = 0 then
    f_X12_chain_278 n rec171 v0 v2 v3 v4 v5 v6 v7 s0 h6
  else
  gk h6 v0 12 <|
  bd (f_X12_isInWay n v0 v6 s0 h6) fun r8 h8 =>
  if r8 = 0 then
    f_X12_chain_274 n rec171 v0 v2 v3 v4 v5 v6 v7 s0 h8
  else
  f_X12_chain_278 n rec171 v0 v2 v3 v4 v5 v6 v7 s0 h8
noncomputable def f_X12_chain_171b (n : Nat) (rec171 : Int → Int → MM → RR) (v0 v2 v3 v4 v5 v6 v7 v8 : Int) (h : MM) : RR :=
  if v8 = 0 then
    some (v6, h)
  else
  gf h v0 12 1 fun r2 =>
  rd h r2 100 (wr (204 + v2)) fun r3 =>
  if r3 ≤ v7 then
    f_X12_chain_211 n rec171 v0 v2 v3 v4 v5 v6 v7 ((-1)) h
  else
  gf h v0 12 1 fun r5 =>
  rd h r5 100 (wr ((wr (208 + (wr (40 * v2)))) + v7)) fun r6 =>
  f_X12_chain_211 n rec171 v0 v2 v3 v4 v5 v6 v7 r6 h
noncomputable def f_X12_chain_171 (n : Nat)  (v0 v2 v3 v4 v5 v6 : Int) : Nat → Int → Int → MM → RR
  | 0, _, _, _ => none
  | k + 1, v7, v8, h => f_X12_chain_171b n  (f_X12_chain_171 n  v0 v2 v3 v4 v5 v6 k) v0 v2 v3 v4 v5 v6 v7 v8 h
noncomputable def f_X12_chain (n : Nat) (v0 v1 v2 v3 : Int) (h : MM) : RR :=
  gk h v0 12 <|
  bd (f_X12_isOf n v0 v1 1 h) fun r1 h1 =>
  if r1 = 0 then
    f_X12_chain_23 n h1
  else
  bd (f_X12_isSheet n v2 h1) fun r3 h3 =>
  if r3 = 0 then
    f_X12_chain_23 n h3
  else
  bd (f_X12_isSheet n v3 h3) fun r5 h5 =>
  if r5 = 0 then
    f_X12_chain_23 n h5
  else
  gf h5 v0 12 1 fun r7 =>
  rd h5 r7 100 (wr (200 + v2)) fun r8 =>
  if r8 = (-1) then
    some ((-11), h5)
  else
  gf h5 v0 12 1 fun r10 =>
  rd h5 r10 100 (wr (200 + v2)) fun r11 =>
  if r11 = 0 then
    gf h5 v0 12 1 fun r13 =>
    rd h5 r13 100 2 fun r14 =>
    if r14 = 60 then
      some ((-4), h5)
    else
    gf h5 v0 12 1 fun r16 =>
    gf h5 v0 12 1 fun r17 =>
    rd h5 r17 100 (wr (550 + v1)) fun r18 =>
    rd h5 r16 100 (wr (180 + r18)) fun r19 =>
    gf h5 v0 12 1 fun r20 =>
    gf h5 v0 12 1 fun r21 =>
    rd h5 r21 100 (wr (610 + v1)) fun r22 =>
    rd h5 r20 100 (wr (180 + r22)) fun r23 =>
    gf h5 v0 12 1 fun r24 =>
    rd h5 r24 100 (wr (550 + v1)) fun r25 =>
    gf h5 v0 12 1 fun r26 =>
    rd h5 r26 100 (wr (610 + v1)) fun r27 =>
    gf h5 v0 12 1 fun r28 =>
    rd h5 r28 100 (wr (670 + v1)) fun r29 =>
    gk h5 v0 12 <|
    bd (f_X12_paper n v0 2 v1 r25 r27 r29 ((-1)) h5) fun r30 h30 =>
    gf h30 v0 12 1 fun r31 =>
    wt h30 r31 100 (wr (850 + r30)) 0 fun h32 =>
    f_X12_chain_171 n v0 v2 v3 r19 r23 r30 n 0 1 h32
  else
  some ((-13), h5)
set_option maxRecDepth 20000 in
theorem b_X12_chain_23 {g : GT} {Z : Int × MM} {n : Nat} (C : Cx g cX12_chain 11 yX12_chain 3 65) (hr : Rt g (some .int) 0 Z)     {h : MM} (hf : f_X12_chain_23 n   h = some Z) : G g 23 [(3, 0), (3, 0), (3, 0), (3, 0), (3, 0), (3, 0), (3, 0), (3, 0), (3, 0), (3, 0), (3, 0)] [] h := by
  unfold f_X12_chain_23 at hf
  refine r_iconst C dX12_chain_23 ?_
  cases hf
  exact r_jret C hr dX12_chain_24 (in32_of rfl)
set_option maxRecDepth 20000 in
theorem b_X12_chain_388 {g : GT} {Z : Int × MM} {n : Nat} (C : Cx g cX12_chain 11 yX12_chain 3 65) (hr : Rt g (some .int) 0 Z) {v0 v2 v3 v4 v5 v6 v7 v8 s0 s1 s2 : Int}  {rec171 : Int → Int → MM → RR} (L171 : ∀ (u7 u8 : Int) (h : MM), in32 u7 → in32 u8 → rec171 u7 u8 h = some Z → G g 171 [(2, v0), (3, 0), (0, v2), (0, v3), (0, v4), (0, v5), (0, v6), (0, u7), (0, u8), (3, 0), (3, 0)] [] h) (cv2 : in32 v2) (cv3 : in32 v3) (cv4 : in32 v4) (cv5 : in32 v5) (cv6 : in32 v6) (cv7 : in32 v7) (cv8 : in32 v8) (cs1 : in32 s1) (cs2 : in32 s2) {h : MM} (hf : f_X12_chain_388 n rec171 v0 v2 v3 v4 v5 v6 v7 v8 s0 s1 s2 h = some Z) : G g 388 [(2, v0), (3, 0), (0, v2), (0, v3), (0, v4), (0, v5), (0, v6), (0, v7), (0, v8), (3, 0), (3, 0)] [(0, s2), (0, s1), (2, s0)] h := by
  unfold f_X12_chain_388 at hf
  obtain ⟨q1, hf⟩ := wt_s hf
  refine r_iast C dX12_chain_388 q1 rfl cs2 ?_
  refine r_goto C dX12_chain_389 (tgt := 171) (by decide) ?_
  exact G.mask [true, false, true, true, true, true, true, true, true, false, false] rfl rfl (L171 _ _ _ cv7 cv8 hf)
set_option maxRecDepth 20000 in
theorem b_X12_chain_364 {g : GT} {Z : Int × MM} {n : Nat} (C : Cx g cX12_chain 11 yX12_chain 3 65) (hr : Rt g (some .int) 0 Z) {v0 v2 v3 v4 v5 v6 v7 v10 s0 : Int}  {rec171 : Int → Int → MM → RR} (L171 : ∀ (u7 u8 : Int) (h : MM), in32 u7 → in32 u8 → rec171 u7 u8 h = some Z → G g 171 [(2, v0), (3, 0), (0, v2), (0, v3), (0, v4), (0, v5), (0, v6), (0, u7), (0, u8), (3, 0), (3, 0)] [] h) (cv2 : in32 v2) (cv3 : in32 v3) (cv4 : in32 v4) (cv5 : in32 v5) (cv6 : in32 v6) (cv7 : in32 v7) (cv10 : in32 v10) (cs0 : in32 s0) {h : MM} (hf : f_X12_chain_364 n rec171 v0 v2 v3 v4 v5 v6 v7 v10 s0 h = some Z) : G g 364 [(2, v0), (3, 0), (0, v2), (0, v3), (0, v4), (0, v5), (0, v6), (0, v7), (3, 0), (3, 0), (0, v10)] [(0, s0)] h := by
  unfold f_X12_chain_364 at hf
  refine r_istore C dX12_chain_364 (Nat.le_of_ble_eq_true rfl) rfl ?_
  refine r_aload_n C dX12_chain_366 rfl ?_
  obtain ⟨q1, hf⟩ := gf_s hf
  refine r_gf C ct12 (j := 1) (ji := 1) dX12_chain_367 q1 rfl rfl (by decide) w_1426 rfl (fun c1 => ?_)
  refine r_sipush C dX12_chain_370 rfl ?_
  refine r_iload C dX12_chain_373 rfl ?_
  refine r_iadd C dX12_chain_375 ?_
  refine r_iload C dX12_chain_376 rfl ?_
  refine r_if_eq C dX12_chain_378 (tgt := 386) (by decide) cv10 (fun n2 => ?_) (fun n2 => ?_)
  · have hf := ite_p n2 hf
    refine r_iload C dX12_chain_386 rfl ?_
    exact G.mask [true, false, true, true, true, true, true, true, true, false, false] rfl rfl (b_X12_chain_388 C hr L171 cv2 cv3 cv4 cv5 cv6 cv7 cs0 (in32_t _) cv7 hf)
  · have hf := ite_n n2 hf
    refine r_bipush C dX12_chain_381 rfl ?_
    refine r_goto C dX12_chain_383 (tgt := 388) (by decide) ?_
    exact G.mask [true, false, true, true, true, true, true, true, true, false, false] rfl rfl (b_X12_chain_388 C hr L171 cv2 cv3 cv4 cv5 cv6 cv7 cs0 (in32_t _) (in32_of rfl) hf)
set_option maxRecDepth 20000 in
theorem b_X12_chain_363 {g : GT} {Z : Int × MM} {n : Nat} (C : Cx g cX12_chain 11 yX12_chain 3 65) (hr : Rt g (some .int) 0 Z) {v0 v2 v3 v4 v5 v6 v7 v10 : Int}  {rec171 : Int → Int → MM → RR} (L171 : ∀ (u7 u8 : Int) (h : MM), in32 u7 → in32 u8 → rec171 u7 u8 h = some Z → G g 171 [(2, v0), (3, 0), (0, v2), (0, v3), (0, v4), (0, v5), (0, v6), (0, u7), (0, u8), (3, 0), (3, 0)] [] h) (cv2 : in32 v2) (cv3 : in32 v3) (cv4 : in32 v4) (cv5 : in32 v5) (cv6 : in32 v6) (cv7 : in32 v7) (cv10 : in32 v10) {h : MM} (hf : f_X12_chain_363 n rec171 v0 v2 v3 v4 v5 v6 v7 v10 h = some Z) : G g 363 [(2, v0), (3, 0), (0, v2), (0, v3), (0, v4), (0, v5), (0, v6), (0, v7), (3, 0), (3, 0), (0, v10)] [] h := by
  unfold f_X12_chain_363 at hf
  refine r_iconst C dX12_chain_363 ?_
  exact G.mask [true, false, true, true, true, true, true, true, false, false, true] rfl rfl (b_X12_chain_364 C hr L171 cv2 cv3 cv4 cv5 cv6 cv7 cv10 (in32_of rfl) hf)
set_option maxRecDepth 20000 in
theorem b_X12_chain_347 {g : GT} {Z : Int × MM} {n : Nat} (C : Cx g cX12_chain 11 yX12_chain 3 65) (hr : Rt g (some .int) 0 Z) {v0 v2 v3 v4 v5 v6 v7 v9 v10 : Int}  {rec171 : Int → Int → MM → RR} (L171 : ∀ (u7 u8 : Int) (h : MM), in32 u7 → in32 u8 → rec171 u7 u8 h = some Z → G g 171 [(2, v0), (3, 0), (0, v2), (0, v3), (0, v4), (0, v5), (0, v6), (0, u7), (0, u8), (3, 0), (3, 0)] [] h) (cv2 : in32 v2) (cv3 : in32 v3) (cv4 : in32 v4) (cv5 : in32 v5) (cv6 : in32 v6) (cv7 : in32 v7) (cv9 : in32 v9) (cv10 : in32 v10) {h : MM} (hf : f_X12_chain_347 n rec171 v0 v2 v3 v4 v5 v6 v7 v9 v10 h = some Z) : G g 347 [(2, v0), (3, 0), (0, v2), (0, v3), (0, v4), (0, v5), (0, v6), (0, v7), (3, 0), (0, v9), (0, v10)] [] h := by
  unfold f_X12_chain_347 at hf
  refine r_iload C dX12_chain_347 rfl ?_
  refine r_if_eq C dX12_chain_349 (tgt := 363) (by decide) cv10 (fun n1 => ?_) (fun n1 => ?_)
  · have hf := ite_p n1 hf
    exact G.mask [true, false, true, true, true, true, true, true, false, false, true] rfl rfl (b_X12_chain_363 C hr L171 cv2 cv3 cv4 cv5 cv6 cv7 cv10 hf)
  · have hf := ite_n n1 hf
    refine r_iload C dX12_chain_352 rfl ?_
    refine r_iload C dX12_chain_354 rfl ?_
    refine r_icmp_eq C dX12_chain_356 (tgt := 363) (by decide) cv9 cv5 (fun n2 => ?_) (fun n2 => ?_)
    · have hf := ite_p n2 hf
      exact G.mask [true, false, true, true, true, true, true, true, false, false, true] rfl rfl (b_X12_chain_363 C hr L171 cv2 cv3 cv4 cv5 cv6 cv7 cv10 hf)
    · have hf := ite_n n2 hf
      refine r_iconst C dX12_chain_359 ?_
      refine r_goto C dX12_chain_360 (tgt := 364) (by decide) ?_
      exact G.mask [true, false, true, true, true, true, true, true, false, false, true] rfl rfl (b_X12_chain_364 C hr L171 cv2 cv3 cv4 cv5 cv6 cv7 cv10 (in32_of rfl) hf)
set_option maxRecDepth 20000 in
theorem b_X12_chain_279 {g : GT} {Z : Int × MM} {n : Nat} (C : Cx g cX12_chain 11 yX12_chain 3 65) (hr : Rt g (some .int) 0 Z) {v0 v2 v3 v4 v5 v6 v7 v9 s0 : Int}  {rec171 : Int → Int → MM → RR} (L171 : ∀ (u7 u8 : Int) (h : MM), in32 u7 → in32 u8 → rec171 u7 u8 h = some Z → G g 171 [(2, v0), (3, 0), (0, v2), (0, v3), (0, v4), (0, v5), (0, v6), (0, u7), (0, u8), (3, 0), (3, 0)] [] h) (cv2 : in32 v2) (cv3 : in32 v3) (cv4 : in32 v4) (cv5 : in32 v5) (cv6 : in32 v6) (cv7 : in32 v7) (cv9 : in32 v9) (cs0 : in32 s0) {h : MM} (hf : f_X12_chain_279 n rec171 v0 v2 v3 v4 v5 v6 v7 v9 s0 h = some Z) : G g 279 [(2, v0), (3, 0), (0, v2), (0, v3), (0, v4), (0, v5), (0, v6), (0, v7), (3, 0), (0, v9), (3, 0)] [(0, s0)] h := by
  unfold f_X12_chain_279 at hf
  refine r_istore C dX12_chain_279 (Nat.le_of_ble_eq_true rfl) rfl ?_
  refine r_iload C dX12_chain_281 rfl ?_
  refine r_if_eq C dX12_chain_283 (tgt := 347) (by decide) cs0 (fun n1 => ?_) (fun n1 => ?_)
  · have hf := ite_p n1 hf
    exact G.mask [true, false, true, true, true, true, true, true, false, true, true] rfl rfl (b_X12_chain_347 C hr L171 cv2 cv3 cv4 cv5 cv6 cv7 cv9 cs0 hf)
  · have hf := ite_n n1 hf
    refine r_aload_n C dX12_chain_286 rfl ?_
    obtain ⟨q2, hf⟩ := gf_s hf
    refine r_gf C ct12 (j := 1) (ji := 1) dX12_chain_287 q2 rfl rfl (by decide) w_1426 rfl (fun c2 => ?_)
    refine r_sipush C dX12_chain_290 rfl ?_
    refine r_bipush C dX12_chain_293 rfl ?_
    refine r_iload C dX12_chain_295 rfl ?_
    refine r_imul C dX12_chain_297 ?_
    refine r_iadd C dX12_chain_298 ?_
    refine r_iload C dX12_chain_299 rfl ?_
    refine r_iadd C dX12_chain_301 ?_
    refine r_iload C dX12_chain_302 rfl ?_
    obtain ⟨q3, hf⟩ := wt_s hf
    refine r_iast C dX12_chain_304 q3 rfl cv9 ?_
    refine r_aload_n C dX12_chain_305 rfl ?_
    obtain ⟨q4, hf⟩ := gf_s hf
    refine r_gf C ct12 (j := 1) (ji := 1) dX12_chain_306 q4 rfl rfl (by decide) w_1426 rfl (fun c4 => ?_)
    refine r_sipush C dX12_chain_309 rfl ?_
    refine r_bipush C dX12_chain_312 rfl ?_
    refine r_iload C dX12_chain_314 rfl ?_
    refine r_imul C dX12_chain_316 ?_
    refine r_iadd C dX12_chain_317 ?_
    refine r_iload C dX12_chain_318 rfl ?_
    refine r_iadd C dX12_chain_320 ?_
    refine r_aload_n C dX12_chain_321 rfl ?_
    refine r_iload C dX12_chain_322 rfl ?_
    refine r_iload C dX12_chain_324 rfl ?_
    refine r_iload_n C dX12_chain_326 rfl ?_
    obtain ⟨p5, hf⟩ := gk_s hf
    obtain ⟨r5, h5, hq5, hf⟩ := bd_s hf
    refine r_cV3 C (am_X12_levelOf (gl g) n) cm_X12_levelOf w_1629 dX12_chain_327 ⟨Nat.le_of_ble_eq_true rfl, Nat.le_of_ble_eq_true rfl⟩ p5 rfl cv6 cv7 cv3 rfl (Nat.le_of_ble_eq_true rfl) hq5 (by decide) (fun c5 => ?_)
    have c5 : in32 _ := c5
    obtain ⟨q6, hf⟩ := wt_s hf
    refine r_iast C dX12_chain_330 q6 rfl c5 ?_
    obtain ⟨x7, e7, hf⟩ := lb_s hf
    have c7 : in32 x7 := by rw [e7]; exact (in32_t _)
    refine r_iincL C dX12_chain_331 rfl e7 (Nat.le_of_ble_eq_true rfl) rfl ?_
    refine r_aload_n C dX12_chain_334 rfl ?_
    obtain ⟨q8, hf⟩ := gf_s hf
    refine r_gf C ct12 (j := 1) (ji := 1) dX12_chain_335 q8 rfl rfl (by decide) w_1426 rfl (fun c8 => ?_)
    refine r_sipush C dX12_chain_338 rfl ?_
    refine r_iload C dX12_chain_341 rfl ?_
    refine r_iadd C dX12_chain_343 ?_
    refine r_iload C dX12_chain_344 rfl ?_
    obtain ⟨q9, hf⟩ := wt_s hf
    refine r_iast C dX12_chain_346 q9 rfl c7 ?_
    exact G.mask [true, false, true, true, true, true, true, true, false, true, true] rfl rfl (b_X12_chain_347 C hr L171 cv2 cv3 cv4 cv5 cv6 c7 cv9 cs0 hf)
set_option maxRecDepth 20000 in
theorem b_X12_chain_278 {g : GT} {Z : Int × MM} {n : Nat} (C : Cx g cX12_chain 11 yX12_chain 3 65) (hr : Rt g (some .int) 0 Z) {v0 v2 v3 v4 v5 v6 v7 v9 : Int}  {rec171 : Int → Int → MM → RR} (L171 : ∀ (u7 u8 : Int) (h : MM), in32 u7 → in32 u8 → rec171 u7 u8 h = some Z → G g 171 [(2, v0), (3, 0), (0, v2), (0, v3), (0, v4), (0, v5), (0, v6), (0, u7), (0, u8), (3, 0), (3, 0)] [] h) (cv2 : in32 v2) (cv3 : in32 v3) (cv4 : in32 v4) (cv5 : in32 v5) (cv6 : in32 v6) (cv7 : in32 v7) (cv9 : in32 v9) {h : MM} (hf : f_X12_chain_278 n rec171 v0 v2 v3 v4 v5 v6 v7 v9 h = some Z) : G g 278 [(2, v0), (3, 0), (0, v2), (0, v3), (0, v4), (0, v5), (0, v6), (0, v7), (3, 0), (0, v9), (3, 0)] [] h := by
  unfold f_X12_chain_278 at hf
  refine r_iconst C dX12_chain_278 ?_
  exact G.mask [true, false, true, true, true, true, true, true, false, true, false] rfl rfl (b_X12_chain_279 C hr L171 cv2 cv3 cv4 cv5 cv6 cv7 cv9 (in32_of rfl) hf)
set_option maxRecDepth 20000 in
theorem b_X12_chain_274 {g : GT} {Z : Int × MM} {n : Nat} (C : Cx g cX12_chain 11 yX12_chain 3 65) (hr : Rt g (some .int) 0 Z) {v0 v2 v3 v4 v5 v6 v7 v9 : Int}  {rec171 : Int → Int → MM → RR} (L171 : ∀ (u7 u8 : Int) (h : MM), in32 u7 → in32 u8 → rec171 u7 u8 h = some Z → G g 171 [(2, v0), (3, 0), (0, v2), (0, v3), (0, v4), (0, v5), (0, v6), (0, u7), (0, u8), (3, 0), (3, 0)] [] h) (cv2 : in32 v2) (cv3 : in32 v3) (cv4 : in32 v4) (cv5 : in32 v5) (cv6 : in32 v6) (cv7 : in32 v7) (cv9 : in32 v9) {h : MM} (hf : f_X12_chain_274 n rec171 v0 v2 v3 v4 v5 v6 v7 v9 h = some Z) : G g 274 [(2, v0), (3, 0), (0, v2), (0, v3), (0, v4), (0, v5), (0, v6), (0, v7), (3, 0), (0, v9), (3, 0)] [] h := by
  unfold f_X12_chain_274 at hf
  refine r_iconst C dX12_chain_274 ?_
  refine r_goto C dX12_chain_275 (tgt := 279) (by decide) ?_
  exact G.mask [true, false, true, true, true, true, true, true, false, true, false] rfl rfl (b_X12_chain_279 C hr L171 cv2 cv3 cv4 cv5 cv6 cv7 cv9 (in32_of rfl) hf)
set_option maxRecDepth 20000 in
theorem b_X12_chain_211 {g : GT} {Z : Int × MM} {n : Nat} (C : Cx g cX12_chain 11 yX12_chain 3 65) (hr : Rt g (some .int) 0 Z) {v0 v2 v3 v4 v5 v6 v7 s0 : Int}  {rec171 : Int → Int → MM → RR} (L171 : ∀ (u7 u8 : Int) (h : MM), in32 u7 → in32 u8 → rec171 u7 u8 h = some Z → G g 171 [(2, v0), (3, 0), (0, v2), (0, v3), (0, v4), (0, v5), (0, v6), (0, u7), (0, u8), (3, 0), (3, 0)] [] h) (cv2 : in32 v2) (cv3 : in32 v3) (cv4 : in32 v4) (cv5 : in32 v5) (cv6 : in32 v6) (cv7 : in32 v7) (cs0 : in32 s0) {h : MM} (hf : f_X12_chain_211 n rec171 v0 v2 v3 v4 v5 v6 v7 s0 h = some Z) : G g 211 [(2, v0), (3, 0), (0, v2), (0, v3), (0, v4), (0, v5), (0, v6), (0, v7), (3, 0), (3, 0), (3, 0)] [(0, s0)] h := by
  unfold f_X12_chain_211 at hf
  refine r_istore C dX12_chain_211 (Nat.le_of_ble_eq_true rfl) rfl ?_
  refine r_iload C dX12_chain_213 rfl ?_
  obtain ⟨r1, h1, hq1, hf⟩ := bd_s hf
  refine r_cS1 C (am_X12_isCell (gl g) n) cm_X12_isCell w_1493 dX12_chain_215 ⟨Nat.le_of_ble_eq_true rfl, Nat.le_of_ble_eq_true rfl⟩ cs0 rfl (Nat.le_of_ble_eq_true rfl) hq1 (by decide) (fun c1 => ?_)
  have c1 : in32 _ := c1
  refine r_if_eq C dX12_chain_218 (tgt := 278) (by decide) c1 (fun n2 => ?_) (fun n2 => ?_)
  · have hf := ite_p n2 hf
    exact G.mask [true, false, true, true, true, true, true, true, false, true, false] rfl rfl (b_X12_chain_278 C hr L171 cv2 cv3 cv4 cv5 cv6 cv7 cs0 hf)
  · have hf := ite_n n2 hf
    refine r_iload C dX12_chain_221 rfl ?_
    refine r_if_ne C dX12_chain_223 (tgt := 236) (by decide) cv7 (fun n3 => ?_) (fun n3 => ?_)
    · have hf := ite_n n3 hf
      refine r_iload C dX12_chain_236 rfl ?_
      refine r_aload_n C dX12_chain_238 rfl ?_
      obtain ⟨q4, hf⟩ := gf_s hf
      refine r_gf C ct12 (j := 1) (ji := 1) dX12_chain_239 q4 rfl rfl (by decide) w_1426 rfl (fun c4 => ?_)
      refine r_sipush C dX12_chain_242 rfl ?_
      refine r_bipush C dX12_chain_245 rfl ?_
      refine r_iload C dX12_chain_247 rfl ?_
      refine r_imul C dX12_chain_249 ?_
      refine r_iadd C dX12_chain_250 ?_
      refine r_iload C dX12_chain_251 rfl ?_
      refine r_iadd C dX12_chain_253 ?_
      refine r_iconst C dX12_chain_254 ?_
      refine r_isub C dX12_chain_255 ?_
      obtain ⟨q5, hf⟩ := rd_s hf
      refine r_iald C dX12_chain_256 q5 rfl (fun c5 => ?_)
      obtain ⟨r6, h6, hq6, hf⟩ := bd_s hf
      refine r_cS2 C (am_X12_isBeside (gl g) n) cm_X12_isBeside w_1618 dX12_chain_257 ⟨Nat.le_of_ble_eq_true rfl, Nat.le_of_ble_eq_true rfl⟩ cs0 c5 rfl (Nat.le_of_ble_eq_true rfl) hq6 (by decide) (fun c6 => ?_)
      have c6 : in32 _ := c6
      refine r_if_eq C dX12_chain_260 (tgt := 278) (by decide) c6 (fun n7 => ?_) (fun n7 => ?_)
      · have hf := ite_p n7 hf
        exact G.mask [true, false, true, true, true, true, true, true, false, true, false] rfl rfl (b_X12_chain_278 C hr L171 cv2 cv3 cv4 cv5 cv6 cv7 cs0 hf)
      · have hf := ite_n n7 hf
        refine r_aload_n C dX12_chain_263 rfl ?_
        refine r_iload C dX12_chain_264 rfl ?_
        refine r_iload C dX12_chain_266 rfl ?_
        obtain ⟨p8, hf⟩ := gk_s hf
        obtain ⟨r8, h8, hq8, hf⟩ := bd_s hf
        refine r_cV2 C (am_X12_isInWay (gl g) n) cm_X12_isInWay w_1621 dX12_chain_268 ⟨Nat.le_of_ble_eq_true rfl, Nat.le_of_ble_eq_true rfl⟩ p8 rfl cv6 cs0 rfl (Nat.le_of_ble_eq_true rfl) hq8 (by decide) (fun c8 => ?_)
        have c8 : in32 _ := c8
        refine r_if_ne C dX12_chain_271 (tgt := 278) (by decide) c8 (fun n9 => ?_) (fun n9 => ?_)
        · have hf := ite_n n9 hf
          exact G.mask [true, false, true, true, true, true, true, true, false, true, false] rfl rfl (b_X12_chain_278 C hr L171 cv2 cv3 cv4 cv5 cv6 cv7 cs0 hf)
        · have hf := ite_p n9 hf
          exact G.mask [true, false, true, true, true, true, true, true, false, true, false] rfl rfl (b_X12_chain_274 C hr L171 cv2 cv3 cv4 cv5 cv6 cv7 cs0 hf)
    · have hf := ite_p n3 hf
      refine r_iload C dX12_chain_226 rfl ?_
      refine r_iload C dX12_chain_228 rfl ?_
      refine r_icmp_ne C dX12_chain_230 (tgt := 278) (by decide) cs0 cv4 (fun n10 => ?_) (fun n10 => ?_)
      · have hf := ite_n n10 hf
        exact G.mask [true, false, true, true, true, true, true, true, false, true, false] rfl rfl (b_X12_chain_278 C hr L171 cv2 cv3 cv4 cv5 cv6 cv7 cs0 hf)
      · have hf := ite_p n10 hf
        refine r_goto C dX12_chain_233 (tgt := 274) (by decide) ?_
        exact G.mask [true, false, true, true, true, true, true, true, false, true, false] rfl rfl (b_X12_chain_274 C hr L171 cv2 cv3 cv4 cv5 cv6 cv7 cs0 hf)
set_option maxRecDepth 20000 in
theorem b_X12_chain_171b {g : GT} {Z : Int × MM} {n : Nat} (C : Cx g cX12_chain 11 yX12_chain 3 65) (hr : Rt g (some .int) 0 Z) {v0 v2 v3 v4 v5 v6 v7 v8 : Int}  {rec171 : Int → Int → MM → RR} (L171 : ∀ (u7 u8 : Int) (h : MM), in32 u7 → in32 u8 → rec171 u7 u8 h = some Z → G g 171 [(2, v0), (3, 0), (0, v2), (0, v3), (0, v4), (0, v5), (0, v6), (0, u7), (0, u8), (3, 0), (3, 0)] [] h) (cv2 : in32 v2) (cv3 : in32 v3) (cv4 : in32 v4) (cv5 : in32 v5) (cv6 : in32 v6) (cv7 : in32 v7) (cv8 : in32 v8) {h : MM} (hf : f_X12_chain_171b n rec171 v0 v2 v3 v4 v5 v6 v7 v8 h = some Z) : G g 171 [(2, v0), (3, 0), (0, v2), (0, v3), (0, v4), (0, v5), (0, v6), (0, v7), (0, v8), (3, 0), (3, 0)] [] h := by
  unfold f_X12_chain_171b at hf
  refine r_iload C dX12_chain_171 rfl ?_
  refine r_if_eq C dX12_chain_173 (tgt := 392) (by decide) cv8 (fun n1 => ?_) (fun n1 => ?_)
  · have hf := ite_p n1 hf
    refine r_iload C dX12_chain_392 rfl ?_
    cases hf
    exact r_jret C hr dX12_chain_394 cv6
  · have hf := ite_n n1 hf
    refine r_iload C dX12_chain_176 rfl ?_
    refine r_aload_n C dX12_chain_178 rfl ?_
    obtain ⟨q2, hf⟩ := gf_s hf
    refine r_gf C ct12 (j := 1) (ji := 1) dX12_chain_179 q2 rfl rfl (by decide) w_1426 rfl (fun c2 => ?_)
    refine r_sipush C dX12_chain_182 rfl ?_
    refine r_iload_n C dX12_chain_185 rfl ?_
    refine r_iadd C dX12_chain_186 ?_
    obtain ⟨q3, hf⟩ := rd_s hf
    refine r_iald C dX12_chain_187 q3 rfl (fun c3 => ?_)
    refine r_icmp_ge C dX12_chain_188 (tgt := 210) (by decide) cv7 c3 (fun n4 => ?_) (fun n4 => ?_)
    · have hf := ite_p n4 hf
      refine r_iconst C dX12_chain_210 ?_
      exact G.mask [true, false, true, true, true, true, true, true, false, false, false] rfl rfl (b_X12_chain_211 C hr L171 cv2 cv3 cv4 cv5 cv6 cv7 (in32_of rfl) hf)
    · have hf := ite_n n4 hf
      refine r_aload_n C dX12_chain_191 rfl ?_
      obtain ⟨q5, hf⟩ := gf_s hf
      refine r_gf C ct12 (j := 1) (ji := 1) dX12_chain_192 q5 rfl rfl (by decide) w_1426 rfl (fun c5 => ?_)
      refine r_sipush C dX12_chain_195 rfl ?_
      refine r_bipush C dX12_chain_198 rfl ?_
      refine r_iload_n C dX12_chain_200 rfl ?_
      refine r_imul C dX12_chain_201 ?_
      refine r_iadd C dX12_chain_202 ?_
      refine r_iload C dX12_chain_203 rfl ?_
      refine r_iadd C dX12_chain_205 ?_
      obtain ⟨q6, hf⟩ := rd_s hf
      refine r_iald C dX12_chain_206 q6 rfl (fun c6 => ?_)
      refine r_goto C dX12_chain_207 (tgt := 211) (by decide) ?_
      exact G.mask [true, false, true, true, true, true, true, true, false, false, false] rfl rfl (b_X12_chain_211 C hr L171 cv2 cv3 cv4 cv5 cv6 cv7 c6 hf)
set_option maxRecDepth 20000 in
theorem l_X12_chain_171 {g : GT} {Z : Int × MM} {n : Nat} (C : Cx g cX12_chain 11 yX12_chain 3 65) (hr : Rt g (some .int) 0 Z) {v0 v2 v3 v4 v5 v6 : Int}   (cv2 : in32 v2) (cv3 : in32 v3) (cv4 : in32 v4) (cv5 : in32 v5) (cv6 : in32 v6) : ∀ (k : Nat) (v7 v8 : Int) (h : MM), in32 v7 → in32 v8 → f_X12_chain_171 n  v0 v2 v3 v4 v5 v6 k v7 v8 h = some Z → G g 171 [(2, v0), (3, 0), (0, v2), (0, v3), (0, v4), (0, v5), (0, v6), (0, v7), (0, v8), (3, 0), (3, 0)] [] h := by
  intro k
  induction k with
  | zero => intro v7 v8 h cv7 cv8 hf; exact absurd hf (by intro z; cases z)
  | succ k ih => intro v7 v8 h cv7 cv8 hf; exact b_X12_chain_171b C hr (rec171 := f_X12_chain_171 n  v0 v2 v3 v4 v5 v6 k)  ih cv2 cv3 cv4 cv5 cv6 cv7 cv8 (show f_X12_chain_171b n  (f_X12_chain_171 n  v0 v2 v3 v4 v5 v6 k) v0 v2 v3 v4 v5 v6 v7 v8 h = some Z from hf)
set_option maxRecDepth 20000 in
theorem e_X12_chain {g : GT} {Z : Int × MM} {n : Nat} (C : Cx g cX12_chain 11 yX12_chain 3 65) (hr : Rt g (some .int) 0 Z) {v0 v1 v2 v3 : Int} (cv0 : cK 2 v0) (cv1 : cK 0 v1) (cv2 : cK 0 v2) (cv3 : cK 0 v3) {h : MM} (hf : f_X12_chain n v0 v1 v2 v3 h = some Z) : G g 0 [(2, v0), (0, v1), (0, v2), (0, v3), (3, 0), (3, 0), (3, 0), (3, 0), (3, 0), (3, 0), (3, 0)] [] h := by
  have cv1 : in32 v1 := cv1
  have cv2 : in32 v2 := cv2
  have cv3 : in32 v3 := cv3
  unfold f_X12_chain at hf
  refine r_aload_n C dX12_chain_0 rfl ?_
  refine r_iload_n C dX12_chain_1 rfl ?_
  refine r_iconst C dX12_chain_2 ?_
  obtain ⟨p1, hf⟩ := gk_s hf
  obtain ⟨r1, h1, hq1, hf⟩ := bd_s hf
  refine r_cV2 C (am_X12_isOf (gl g) n) cm_X12_isOf w_1607 dX12_chain_3 ⟨Nat.le_of_ble_eq_true rfl, Nat.le_of_ble_eq_true rfl⟩ p1 rfl cv1 (in32_of rfl) rfl (Nat.le_of_ble_eq_true rfl) hq1 (by decide) (fun c1 => ?_)
  have c1 : in32 _ := c1
  refine r_if_eq C dX12_chain_6 (tgt := 23) (by decide) c1 (fun n2 => ?_) (fun n2 => ?_)
  · have hf := ite_p n2 hf
    exact G.mask [false, false, false, false, false, false, false, false, false, false, false] rfl rfl (b_X12_chain_23 C hr   hf)
  · have hf := ite_n n2 hf
    refine r_iload_n C dX12_chain_9 rfl ?_
    obtain ⟨r3, h3, hq3, hf⟩ := bd_s hf
    refine r_cS1 C (am_X12_isSheet (gl g) n) cm_X12_isSheet w_1615 dX12_chain_10 ⟨Nat.le_of_ble_eq_true rfl, Nat.le_of_ble_eq_true rfl⟩ cv2 rfl (Nat.le_of_ble_eq_true rfl) hq3 (by decide) (fun c3 => ?_)
    have c3 : in32 _ := c3
    refine r_if_eq C dX12_chain_13 (tgt := 23) (by decide) c3 (fun n4 => ?_) (fun n4 => ?_)
    · have hf := ite_p n4 hf
      exact G.mask [false, false, false, false, false, false, false, false, false, false, false] rfl rfl (b_X12_chain_23 C hr   hf)
    · have hf := ite_n n4 hf
      refine r_iload_n C dX12_chain_16 rfl ?_
      obtain ⟨r5, h5, hq5, hf⟩ := bd_s hf
      refine r_cS1 C (am_X12_isSheet (gl g) n) cm_X12_isSheet w_1615 dX12_chain_17 ⟨Nat.le_of_ble_eq_true rfl, Nat.le_of_ble_eq_true rfl⟩ cv3 rfl (Nat.le_of_ble_eq_true rfl) hq5 (by decide) (fun c5 => ?_)
      have c5 : in32 _ := c5
      refine r_if_ne C dX12_chain_20 (tgt := 25) (by decide) c5 (fun n6 => ?_) (fun n6 => ?_)
      · have hf := ite_n n6 hf
        refine r_aload_n C dX12_chain_25 rfl ?_
        obtain ⟨q7, hf⟩ := gf_s hf
        refine r_gf C ct12 (j := 1) (ji := 1) dX12_chain_26 q7 rfl rfl (by decide) w_1426 rfl (fun c7 => ?_)
        refine r_sipush C dX12_chain_29 rfl ?_
        refine r_iload_n C dX12_chain_32 rfl ?_
        refine r_iadd C dX12_chain_33 ?_
        obtain ⟨q8, hf⟩ := rd_s hf
        refine r_iald C dX12_chain_34 q8 rfl (fun c8 => ?_)
        refine r_iconst C dX12_chain_35 ?_
        refine r_icmp_ne C dX12_chain_36 (tgt := 42) (by decide) c8 (in32_of rfl) (fun n9 => ?_) (fun n9 => ?_)
        · have hf := ite_n n9 hf
          refine r_aload_n C dX12_chain_42 rfl ?_
          obtain ⟨q10, hf⟩ := gf_s hf
          refine r_gf C ct12 (j := 1) (ji := 1) dX12_chain_43 q10 rfl rfl (by decide) w_1426 rfl (fun c10 => ?_)
          refine r_sipush C dX12_chain_46 rfl ?_
          refine r_iload_n C dX12_chain_49 rfl ?_
          refine r_iadd C dX12_chain_50 ?_
          obtain ⟨q11, hf⟩ := rd_s hf
          refine r_iald C dX12_chain_51 q11 rfl (fun c11 => ?_)
          refine r_if_eq C dX12_chain_52 (tgt := 58) (by decide) c11 (fun n12 => ?_) (fun n12 => ?_)
          · have hf := ite_p n12 hf
            refine r_aload_n C dX12_chain_58 rfl ?_
            obtain ⟨q13, hf⟩ := gf_s hf
            refine r_gf C ct12 (j := 1) (ji := 1) dX12_chain_59 q13 rfl rfl (by decide) w_1426 rfl (fun c13 => ?_)
            refine r_iconst C dX12_chain_62 ?_
            obtain ⟨q14, hf⟩ := rd_s hf
            refine r_iald C dX12_chain_63 q14 rfl (fun c14 => ?_)
            refine r_bipush C dX12_chain_64 rfl ?_
            refine r_icmp_ne C dX12_chain_66 (tgt := 72) (by decide) c14 (in32_of rfl) (fun n15 => ?_) (fun n15 => ?_)
            · have hf := ite_n n15 hf
              refine r_aload_n C dX12_chain_72 rfl ?_
              obtain ⟨q16, hf⟩ := gf_s hf
              refine r_gf C ct12 (j := 1) (ji := 1) dX12_chain_73 q16 rfl rfl (by decide) w_1426 rfl (fun c16 => ?_)
              refine r_sipush C dX12_chain_76 rfl ?_
              refine r_aload_n C dX12_chain_79 rfl ?_
              obtain ⟨q17, hf⟩ := gf_s hf
              refine r_gf C ct12 (j := 1) (ji := 1) dX12_chain_80 q17 rfl rfl (by decide) w_1426 rfl (fun c17 => ?_)
              refine r_sipush C dX12_chain_83 rfl ?_
              refine r_iload_n C dX12_chain_86 rfl ?_
              refine r_iadd C dX12_chain_87 ?_
              obtain ⟨q18, hf⟩ := rd_s hf
              refine r_iald C dX12_chain_88 q18 rfl (fun c18 => ?_)
              refine r_iadd C dX12_chain_89 ?_
              obtain ⟨q19, hf⟩ := rd_s hf
              refine r_iald C dX12_chain_90 q19 rfl (fun c19 => ?_)
              refine r_istore C dX12_chain_91 (Nat.le_of_ble_eq_true rfl) rfl ?_
              refine r_aload_n C dX12_chain_93 rfl ?_
              obtain ⟨q20, hf⟩ := gf_s hf
              refine r_gf C ct12 (j := 1) (ji := 1) dX12_chain_94 q20 rfl rfl (by decide) w_1426 rfl (fun c20 => ?_)
              refine r_sipush C dX12_chain_97 rfl ?_
              refine r_aload_n C dX12_chain_100 rfl ?_
              obtain ⟨q21, hf⟩ := gf_s hf
              refine r_gf C ct12 (j := 1) (ji := 1) dX12_chain_101 q21 rfl rfl (by decide) w_1426 rfl (fun c21 => ?_)
              refine r_sipush C dX12_chain_104 rfl ?_
              refine r_iload_n C dX12_chain_107 rfl ?_
              refine r_iadd C dX12_chain_108 ?_
              obtain ⟨q22, hf⟩ := rd_s hf
              refine r_iald C dX12_chain_109 q22 rfl (fun c22 => ?_)
              refine r_iadd C dX12_chain_110 ?_
              obtain ⟨q23, hf⟩ := rd_s hf
              refine r_iald C dX12_chain_111 q23 rfl (fun c23 => ?_)
              refine r_istore C dX12_chain_112 (Nat.le_of_ble_eq_true rfl) rfl ?_
              refine r_aload_n C dX12_chain_114 rfl ?_
              refine r_iconst C dX12_chain_115 ?_
              refine r_iload_n C dX12_chain_116 rfl ?_
              refine r_aload_n C dX12_chain_117 rfl ?_
              obtain ⟨q24, hf⟩ := gf_s hf
              refine r_gf C ct12 (j := 1) (ji := 1) dX12_chain_118 q24 rfl rfl (by decide) w_1426 rfl (fun c24 => ?_)
              refine r_sipush C dX12_chain_121 rfl ?_
              refine r_iload_n C dX12_chain_124 rfl ?_
              refine r_iadd C dX12_chain_125 ?_
              obtain ⟨q25, hf⟩ := rd_s hf
              refine r_iald C dX12_chain_126 q25 rfl (fun c25 => ?_)
              refine r_aload_n C dX12_chain_127 rfl ?_
              obtain ⟨q26, hf⟩ := gf_s hf
              refine r_gf C ct12 (j := 1) (ji := 1) dX12_chain_128 q26 rfl rfl (by decide) w_1426 rfl (fun c26 => ?_)
              refine r_sipush C dX12_chain_131 rfl ?_
              refine r_iload_n C dX12_chain_134 rfl ?_
              refine r_iadd C dX12_chain_135 ?_
              obtain ⟨q27, hf⟩ := rd_s hf
              refine r_iald C dX12_chain_136 q27 rfl (fun c27 => ?_)
              refine r_aload_n C dX12_chain_137 rfl ?_
              obtain ⟨q28, hf⟩ := gf_s hf
              refine r_gf C ct12 (j := 1) (ji := 1) dX12_chain_138 q28 rfl rfl (by decide) w_1426 rfl (fun c28 => ?_)
              refine r_sipush C dX12_chain_141 rfl ?_
              refine r_iload_n C dX12_chain_144 rfl ?_
              refine r_iadd C dX12_chain_145 ?_
              obtain ⟨q29, hf⟩ := rd_s hf
              refine r_iald C dX12_chain_146 q29 rfl (fun c29 => ?_)
              refine r_iconst C dX12_chain_147 ?_
              obtain ⟨p30, hf⟩ := gk_s hf
              obtain ⟨r30, h30, hq30, hf⟩ := bd_s hf
              refine r_cV6 C (am_X12_paper (gl g) n) cm_X12_paper w_1599 dX12_chain_148 ⟨Nat.le_of_ble_eq_true rfl, Nat.le_of_ble_eq_true rfl⟩ p30 rfl (in32_of rfl) cv1 c25 c27 c29 (in32_of rfl) rfl (Nat.le_of_ble_eq_true rfl) hq30 (by decide) (fun c30 => ?_)
              have c30 : in32 _ := c30
              refine r_istore C dX12_chain_151 (Nat.le_of_ble_eq_true rfl) rfl ?_
              refine r_aload_n C dX12_chain_153 rfl ?_
              obtain ⟨q31, hf⟩ := gf_s hf
              refine r_gf C ct12 (j := 1) (ji := 1) dX12_chain_154 q31 rfl rfl (by decide) w_1426 rfl (fun c31 => ?_)
              refine r_sipush C dX12_chain_157 rfl ?_
              refine r_iload C dX12_chain_160 rfl ?_
              refine r_iadd C dX12_chain_162 ?_
              refine r_iconst C dX12_chain_163 ?_
              obtain ⟨q32, hf⟩ := wt_s hf
              refine r_iast C dX12_chain_164 q32 rfl (in32_of rfl) ?_
              refine r_iconst C dX12_chain_165 ?_
              refine r_istore C dX12_chain_166 (Nat.le_of_ble_eq_true rfl) rfl ?_
              refine r_iconst C dX12_chain_168 ?_
              refine r_istore C dX12_chain_169 (Nat.le_of_ble_eq_true rfl) rfl ?_
              exact G.mask [true, false, true, true, true, true, true, true, true, false, false] rfl rfl (l_X12_chain_171 C hr  cv2 cv3 c19 c23 c30 _ _ _ _ (in32_of rfl) (in32_of rfl) hf)
            · have hf := ite_p n15 hf
              refine r_bipush C dX12_chain_69 rfl ?_
              cases hf
              exact r_jret C hr dX12_chain_71 (in32_of rfl)
          · have hf := ite_n n12 hf
            refine r_bipush C dX12_chain_55 rfl ?_
            cases hf
            exact r_jret C hr dX12_chain_57 (in32_of rfl)
        · have hf := ite_p n9 hf
          refine r_bipush C dX12_chain_39 rfl ?_
          cases hf
          exact r_jret C hr dX12_chain_41 (in32_of rfl)
      · have hf := ite_p n6 hf
        exact G.mask [false, false, false, false, false, false, false, false, false, false, false] rfl rfl (b_X12_chain_23 C hr   hf)
set_option maxRecDepth 20000 in
theorem am_X12_chain (l : Launch) (n : Nat) : AM l yX12_chain cX12_chain 11 (some .int) 3 65 [2, 0, 0, 0] 0 (un4 (f_X12_chain n)) := by
  refine AM.intro (by decide) (fun xs hx => ?_) (fun g xs h Z hl C hr hx hf => ?_)
  · obtain ⟨a0, a1, a2, a3, rfl, c0, c1, c2, c3⟩ := canL_4 hx
    exact Nat.le_of_ble_eq_true rfl
  · obtain ⟨a0, a1, a2, a3, rfl, c0, c1, c2, c3⟩ := canL_4 hx
    have hf := (un4_e _ a0 a1 a2 a3 _).symm.trans hf
    exact e_X12_chain (n := n) C hr c0 c1 c2 c3 hf
/-! LinesPromisedModel.size(I)I -/
theorem dX12_size_0 : decode cX12_size 0 = .ok (.iload_n 0, 1) := by decide +kernel
theorem dX12_size_1 : decode cX12_size 1 = .ok (.ifCond .ge 8, 3) := by decide +kernel
theorem dX12_size_4 : decode cX12_size 4 = .ok (.iload_n 0, 1) := by decide +kernel
theorem dX12_size_5 : decode cX12_size 5 = .ok (.ineg, 1) := by decide +kernel
theorem dX12_size_6 : decode cX12_size 6 = .ok (.goto 4, 3) := by decide +kernel
theorem dX12_size_9 : decode cX12_size 9 = .ok (.iload_n 0, 1) := by decide +kernel
theorem dX12_size_10 : decode cX12_size 10 = .ok (.ireturn, 1) := by decide +kernel
theorem cm_X12_size : CMs yX12_size cX12_size 1 (some .int) 1 := ⟨w_1648, w_1649, w_97, ⟨by decide +kernel, by decide +kernel, by decide +kernel⟩⟩
noncomputable def f_X12_size_10 (n : Nat)  (s0 : Int) (h : MM) : RR :=
  some (s0, h)
noncomputable def f_X12_size (n : Nat) (v0 : Int) (h : MM) : RR :=
  if 0 ≤ v0 then
    f_X12_size_10 n v0 h
  else
  f_X12_size_10 n (wr (-v0)) h
set_option maxRecDepth 20000 in
theorem b_X12_size_10 {g : GT} {Z : Int × MM} {n : Nat} (C : Cx g cX12_size 1 yX12_size 0 0) (hr : Rt g (some .int) 0 Z) {s0 : Int}    (cs0 : in32 s0) {h : MM} (hf : f_X12_size_10 n  s0 h = some Z) : G g 10 [(3, 0)] [(0, s0)] h := by
  unfold f_X12_size_10 at hf
  cases hf
  exact r_jret C hr dX12_size_10 cs0
set_option maxRecDepth 20000 in
theorem e_X12_size {g : GT} {Z : Int × MM} {n : Nat} (C : Cx g cX12_size 1 yX12_size 0 0) (hr : Rt g (some .int) 0 Z) {v0 : Int} (cv0 : cK 0 v0) {h : MM} (hf : f_X12_size n v0 h = some Z) : G g 0 [(0, v0)] [] h := by
  have cv0 : in32 v0 := cv0
  unfold f_X12_size at hf
  refine r_iload_n C dX12_size_0 rfl ?_
  refine r_if_ge C dX12_size_1 (tgt := 9) (by decide) cv0 (fun n1 => ?_) (fun n1 => ?_)
  · have hf := ite_p n1 hf
    refine r_iload_n C dX12_size_9 rfl ?_
    exact G.mask [false] rfl rfl (b_X12_size_10 C hr  cv0 hf)
  · have hf := ite_n n1 hf
    refine r_iload_n C dX12_size_4 rfl ?_
    refine r_ineg C dX12_size_5 ?_
    refine r_goto C dX12_size_6 (tgt := 10) (by decide) ?_
    exact G.mask [false] rfl rfl (b_X12_size_10 C hr  (in32_t _) hf)
set_option maxRecDepth 20000 in
theorem am_X12_size (l : Launch) (n : Nat) : AM l yX12_size cX12_size 1 (some .int) 0 0 [0] 0 (un1 (f_X12_size n)) := by
  refine AM.intro (by decide) (fun xs hx => ?_) (fun g xs h Z hl C hr hx hf => ?_)
  · obtain ⟨a0, rfl, c0⟩ := canL_1 hx
    exact Nat.le_of_ble_eq_true rfl
  · obtain ⟨a0, rfl, c0⟩ := canL_1 hx
    have hf := (un1_e _ a0 _).symm.trans hf
    exact e_X12_size (n := n) C hr c0 hf
/-! LinesPromisedModel.step(II)I -/
theorem dX12_step_0 : decode cX12_step 0 = .ok (.bipush 10, 2) := by decide +kernel
theorem dX12_step_2 : decode cX12_step 2 = .ok (.iconst 3, 1) := by decide +kernel
theorem dX12_step_3 : decode cX12_step 3 = .ok (.aload_n 0, 1) := by decide +kernel
theorem dX12_step_4 : decode cX12_step 4 = .ok (.getfield 8, 3) := by decide +kernel
theorem dX12_step_7 : decode cX12_step 7 = .ok (.bipush 20, 2) := by decide +kernel
theorem dX12_step_9 : decode cX12_step 9 = .ok (.iload_n 1, 1) := by decide +kernel
theorem dX12_step_10 : decode cX12_step 10 = .ok (.iadd, 1) := by decide +kernel
theorem dX12_step_11 : decode cX12_step 11 = .ok (.iaload, 1) := by decide +kernel
theorem dX12_step_12 : decode cX12_step 12 = .ok (.aload_n 0, 1) := by decide +kernel
theorem dX12_step_13 : decode cX12_step 13 = .ok (.getfield 8, 3) := by decide +kernel
theorem dX12_step_16 : decode cX12_step 16 = .ok (.bipush 20, 2) := by decide +kernel
theorem dX12_step_18 : decode cX12_step 18 = .ok (.iload_n 2, 1) := by decide +kernel
theorem dX12_step_19 : decode cX12_step 19 = .ok (.iadd, 1) := by decide +kernel
theorem dX12_step_20 : decode cX12_step 20 = .ok (.iaload, 1) := by decide +kernel
theorem dX12_step_21 : decode cX12_step 21 = .ok (.isub, 1) := by decide +kernel
theorem dX12_step_22 : decode cX12_step 22 = .ok (.invokestatic 183, 3) := by decide +kernel
theorem dX12_step_25 : decode cX12_step 25 = .ok (.imul, 1) := by decide +kernel
theorem dX12_step_26 : decode cX12_step 26 = .ok (.iadd, 1) := by decide +kernel
theorem dX12_step_27 : decode cX12_step 27 = .ok (.aload_n 0, 1) := by decide +kernel
theorem dX12_step_28 : decode cX12_step 28 = .ok (.getfield 8, 3) := by decide +kernel
theorem dX12_step_31 : decode cX12_step 31 = .ok (.bipush 100, 2) := by decide +kernel
theorem dX12_step_33 : decode cX12_step 33 = .ok (.iload_n 2, 1) := by decide +kernel
theorem dX12_step_34 : decode cX12_step 34 = .ok (.iadd, 1) := by decide +kernel
theorem dX12_step_35 : decode cX12_step 35 = .ok (.iaload, 1) := by decide +kernel
theorem dX12_step_36 : decode cX12_step 36 = .ok (.iconst 1, 1) := by decide +kernel
theorem dX12_step_37 : decode cX12_step 37 = .ok (.if_icmp .ne 8, 3) := by decide +kernel
theorem dX12_step_40 : decode cX12_step 40 = .ok (.bipush 20, 2) := by decide +kernel
theorem dX12_step_42 : decode cX12_step 42 = .ok (.goto 21, 3) := by decide +kernel
theorem dX12_step_45 : decode cX12_step 45 = .ok (.aload_n 0, 1) := by decide +kernel
theorem dX12_step_46 : decode cX12_step 46 = .ok (.getfield 8, 3) := by decide +kernel
theorem dX12_step_49 : decode cX12_step 49 = .ok (.bipush 100, 2) := by decide +kernel
theorem dX12_step_51 : decode cX12_step 51 = .ok (.iload_n 2, 1) := by decide +kernel
theorem dX12_step_52 : decode cX12_step 52 = .ok (.iadd, 1) := by decide +kernel
theorem dX12_step_53 : decode cX12_step 53 = .ok (.iaload, 1) := by decide +kernel
theorem dX12_step_54 : decode cX12_step 54 = .ok (.iconst 2, 1) := by decide +kernel
theorem dX12_step_55 : decode cX12_step 55 = .ok (.if_icmp .ne 7, 3) := by decide +kernel
theorem dX12_step_58 : decode cX12_step 58 = .ok (.iconst 5, 1) := by decide +kernel
theorem dX12_step_59 : decode cX12_step 59 = .ok (.goto 4, 3) := by decide +kernel
theorem dX12_step_62 : decode cX12_step 62 = .ok (.iconst 0, 1) := by decide +kernel
theorem dX12_step_63 : decode cX12_step 63 = .ok (.iadd, 1) := by decide +kernel
theorem dX12_step_64 : decode cX12_step 64 = .ok (.ireturn, 1) := by decide +kernel
theorem cm_X12_step : CM yX12_step cX12_step 3 (some .int) 2 12 := ⟨w_1645, w_62, w_1646, w_97, ⟨by decide +kernel, by decide +kernel, by decide +kernel⟩, ⟨_, _, rfl⟩, by decide⟩
noncomputable def f_X12_step_63 (n : Nat)  (s0 s1 : Int) (h : MM) : RR :=
  some (wr (s0 + s1), h)
noncomputable def f_X12_step (n : Nat) (v0 v1 v2 : Int) (h : MM) : RR :=
  gf h v0 12 1 fun r1 =>
  rd h r1 100 (wr (20 + v1)) fun r2 =>
  gf h v0 12 1 fun r3 =>
  rd h r3 100 (wr (20 + v2)) fun r4 =>
  bd (f_X12_size n (wr (r2 - r4)) h) fun r5 h5 =>
  gf h5 v0 12 1 fun r6 =>
  rd h5 r6 100 (wr (100 + v2)) fun r7 =>
  if r7 = 1 then
    f_X12_step_63 n (wr (10 + (wr (3 * r5)))) 20 h5
  else
  gf h5 v0 12 1 fun r9 =>
  rd h5 r9 100 (wr (100 + v2)) fun r10 =>
  if r10 = 2 then
    f_X12_step_63 n (wr (10 + (wr (3 * r5)))) 5 h5
  else
  f_X12_step_63 n (wr (10 + (wr (3 * r5)))) 0 h5
set_option maxRecDepth 20000 in
theorem b_X12_step_63 {g : GT} {Z : Int × MM} {n : Nat} (C : Cx g cX12_step 3 yX12_step 1 20) (hr : Rt g (some .int) 0 Z) {s0 s1 : Int}    (cs0 : in32 s0) (cs1 : in32 s1) {h : MM} (hf : f_X12_step_63 n  s0 s1 h = some Z) : G g 63 [(3, 0), (3, 0), (3, 0)] [(0, s1), (0, s0)] h := by
  unfold f_X12_step_63 at hf
  refine r_iadd C dX12_step_63 ?_
  cases hf
  exact r_jret C hr dX12_step_64 (in32_t _)
set_option maxRecDepth 20000 in
theorem e_X12_step {g : GT} {Z : Int × MM} {n : Nat} (C : Cx g cX12_step 3 yX12_step 1 20) (hr : Rt g (some .int) 0 Z) {v0 v1 v2 : Int} (cv0 : cK 2 v0) (cv1 : cK 0 v1) (cv2 : cK 0 v2) {h : MM} (hf : f_X12_step n v0 v1 v2 h = some Z) : G g 0 [(2, v0), (0, v1), (0, v2)] [] h := by
  have cv1 : in32 v1 := cv1
  have cv2 : in32 v2 := cv2
  unfold f_X12_step at hf
  refine r_bipush C dX12_step_0 rfl ?_
  refine r_iconst C dX12_step_2 ?_
  refine r_aload_n C dX12_step_3 rfl ?_
  obtain ⟨q1, hf⟩ := gf_s hf
  refine r_gf C ct12 (j := 1) (ji := 1) dX12_step_4 q1 rfl rfl (by decide) w_1426 rfl (fun c1 => ?_)
  refine r_bipush C dX12_step_7 rfl ?_
  refine r_iload_n C dX12_step_9 rfl ?_
  refine r_iadd C dX12_step_10 ?_
  obtain ⟨q2, hf⟩ := rd_s hf
  refine r_iald C dX12_step_11 q2 rfl (fun c2 => ?_)
  refine r_aload_n C dX12_step_12 rfl ?_
  obtain ⟨q3, hf⟩ := gf_s hf
  refine r_gf C ct12 (j := 1) (ji := 1) dX12_step_13 q3 rfl rfl (by decide) w_1426 rfl (fun c3 => ?_)
  refine r_bipush C dX12_step_16 rfl ?_
  refine r_iload_n C dX12_step_18 rfl ?_
  refine r_iadd C dX12_step_19 ?_
  obtain ⟨q4, hf⟩ := rd_s hf
  refine r_iald C dX12_step_20 q4 rfl (fun c4 => ?_)
  refine r_isub C dX12_step_21 ?_
  obtain ⟨r5, h5, hq5, hf⟩ := bd_s hf
  refine r_cS1 C (am_X12_size (gl g) n) cm_X12_size w_1647 dX12_step_22 ⟨Nat.le_of_ble_eq_true rfl, Nat.le_of_ble_eq_true rfl⟩ (in32_t _) rfl (Nat.le_of_ble_eq_true rfl) hq5 (by decide) (fun c5 => ?_)
  have c5 : in32 _ := c5
  refine r_imul C dX12_step_25 ?_
  refine r_iadd C dX12_step_26 ?_
  refine r_aload_n C dX12_step_27 rfl ?_
  obtain ⟨q6, hf⟩ := gf_s hf
  refine r_gf C ct12 (j := 1) (ji := 1) dX12_step_28 q6 rfl rfl (by decide) w_1426 rfl (fun c6 => ?_)
  refine r_bipush C dX12_step_31 rfl ?_
  refine r_iload_n C dX12_step_33 rfl ?_
  refine r_iadd C dX12_step_34 ?_
  obtain ⟨q7, hf⟩ := rd_s hf
  refine r_iald C dX12_step_35 q7 rfl (fun c7 => ?_)
  refine r_iconst C dX12_step_36 ?_
  refine r_icmp_ne C dX12_step_37 (tgt := 45) (by decide) c7 (in32_of rfl) (fun n8 => ?_) (fun n8 => ?_)
  · have hf := ite_n n8 hf
    refine r_aload_n C dX12_step_45 rfl ?_
    obtain ⟨q9, hf⟩ := gf_s hf
    refine r_gf C ct12 (j := 1) (ji := 1) dX12_step_46 q9 rfl rfl (by decide) w_1426 rfl (fun c9 => ?_)
    refine r_bipush C dX12_step_49 rfl ?_
    refine r_iload_n C dX12_step_51 rfl ?_
    refine r_iadd C dX12_step_52 ?_
    obtain ⟨q10, hf⟩ := rd_s hf
    refine r_iald C dX12_step_53 q10 rfl (fun c10 => ?_)
    refine r_iconst C dX12_step_54 ?_
    refine r_icmp_ne C dX12_step_55 (tgt := 62) (by decide) c10 (in32_of rfl) (fun n11 => ?_) (fun n11 => ?_)
    · have hf := ite_n n11 hf
      refine r_iconst C dX12_step_62 ?_
      exact G.mask [false, false, false] rfl rfl (b_X12_step_63 C hr  (in32_t _) (in32_of rfl) hf)
    · have hf := ite_p n11 hf
      refine r_iconst C dX12_step_58 ?_
      refine r_goto C dX12_step_59 (tgt := 63) (by decide) ?_
      exact G.mask [false, false, false] rfl rfl (b_X12_step_63 C hr  (in32_t _) (in32_of rfl) hf)
  · have hf := ite_p n8 hf
    refine r_bipush C dX12_step_40 rfl ?_
    refine r_goto C dX12_step_42 (tgt := 63) (by decide) ?_
    exact G.mask [false, false, false] rfl rfl (b_X12_step_63 C hr  (in32_t _) (in32_of rfl) hf)
set_option maxRecDepth 20000 in
theorem am_X12_step (l : Launch) (n : Nat) : AM l yX12_step cX12_step 3 (some .int) 1 20 [2, 0, 0] 0 (un3 (f_X12_step n)) := by
  refine AM.intro (by decide) (fun xs hx => ?_) (fun g xs h Z hl C hr hx hf => ?_)
  · obtain ⟨a0, a1, a2, rfl, c0, c1, c2⟩ := canL_3 hx
    exact Nat.le_of_ble_eq_true rfl
  · obtain ⟨a0, a1, a2, rfl, c0, c1, c2⟩ := canL_3 hx
    have hf := (un3_e _ a0 a1 a2 _).symm.trans hf
    exact e_X12_step (n := n) C hr c0 c1 c2 hf
/-! LinesPromisedModel.yardsOf(I)I -/
theorem dX12_yardsOf_0 : decode cX12_yardsOf 0 = .ok (.iconst 0, 1) := by decide +kernel
theorem dX12_yardsOf_1 : decode cX12_yardsOf 1 = .ok (.istore_n 2, 1) := by decide +kernel
theorem dX12_yardsOf_2 : decode cX12_yardsOf 2 = .ok (.iconst 1, 1) := by decide +kernel
theorem dX12_yardsOf_3 : decode cX12_yardsOf 3 = .ok (.istore_n 3, 1) := by decide +kernel
theorem dX12_yardsOf_4 : decode cX12_yardsOf 4 = .ok (.iload_n 3, 1) := by decide +kernel
theorem dX12_yardsOf_5 : decode cX12_yardsOf 5 = .ok (.aload_n 0, 1) := by decide +kernel
theorem dX12_yardsOf_6 : decode cX12_yardsOf 6 = .ok (.getfield 8, 3) := by decide +kernel
theorem dX12_yardsOf_9 : decode cX12_yardsOf 9 = .ok (.sipush 850, 3) := by decide +kernel
theorem dX12_yardsOf_12 : decode cX12_yardsOf 12 = .ok (.iload_n 1, 1) := by decide +kernel
theorem dX12_yardsOf_13 : decode cX12_yardsOf 13 = .ok (.iadd, 1) := by decide +kernel
theorem dX12_yardsOf_14 : decode cX12_yardsOf 14 = .ok (.iaload, 1) := by decide +kernel
theorem dX12_yardsOf_15 : decode cX12_yardsOf 15 = .ok (.if_icmp .ge 48, 3) := by decide +kernel
theorem dX12_yardsOf_18 : decode cX12_yardsOf 18 = .ok (.iload_n 2, 1) := by decide +kernel
theorem dX12_yardsOf_19 : decode cX12_yardsOf 19 = .ok (.aload_n 0, 1) := by decide +kernel
theorem dX12_yardsOf_20 : decode cX12_yardsOf 20 = .ok (.aload_n 0, 1) := by decide +kernel
theorem dX12_yardsOf_21 : decode cX12_yardsOf 21 = .ok (.getfield 8, 3) := by decide +kernel
theorem dX12_yardsOf_24 : decode cX12_yardsOf 24 = .ok (.sipush 4700, 3) := by decide +kernel
theorem dX12_yardsOf_27 : decode cX12_yardsOf 27 = .ok (.bipush 41, 2) := by decide +kernel
theorem dX12_yardsOf_29 : decode cX12_yardsOf 29 = .ok (.iload_n 1, 1) := by decide +kernel
theorem dX12_yardsOf_30 : decode cX12_yardsOf 30 = .ok (.imul, 1) := by decide +kernel
theorem dX12_yardsOf_31 : decode cX12_yardsOf 31 = .ok (.iadd, 1) := by decide +kernel
theorem dX12_yardsOf_32 : decode cX12_yardsOf 32 = .ok (.iload_n 3, 1) := by decide +kernel
theorem dX12_yardsOf_33 : decode cX12_yardsOf 33 = .ok (.iadd, 1) := by decide +kernel
theorem dX12_yardsOf_34 : decode cX12_yardsOf 34 = .ok (.iconst 1, 1) := by decide +kernel
theorem dX12_yardsOf_35 : decode cX12_yardsOf 35 = .ok (.isub, 1) := by decide +kernel
theorem dX12_yardsOf_36 : decode cX12_yardsOf 36 = .ok (.iaload, 1) := by decide +kernel
theorem dX12_yardsOf_37 : decode cX12_yardsOf 37 = .ok (.aload_n 0, 1) := by decide +kernel
theorem dX12_yardsOf_38 : decode cX12_yardsOf 38 = .ok (.getfield 8, 3) := by decide +kernel
theorem dX12_yardsOf_41 : decode cX12_yardsOf 41 = .ok (.sipush 4700, 3) := by decide +kernel
theorem dX12_yardsOf_44 : decode cX12_yardsOf 44 = .ok (.bipush 41, 2) := by decide +kernel
theorem dX12_yardsOf_46 : decode cX12_yardsOf 46 = .ok (.iload_n 1, 1) := by decide +kernel
theorem dX12_yardsOf_47 : decode cX12_yardsOf 47 = .ok (.imul, 1) := by decide +kernel
theorem dX12_yardsOf_48 : decode cX12_yardsOf 48 = .ok (.iadd, 1) := by decide +kernel
theorem dX12_yardsOf_49 : decode cX12_yardsOf 49 = .ok (.iload_n 3, 1) := by decide +kernel
theorem dX12_yardsOf_50 : decode cX12_yardsOf 50 = .ok (.iadd, 1) := by decide +kernel
theorem dX12_yardsOf_51 : decode cX12_yardsOf 51 = .ok (.iaload, 1) := by decide +kernel
theorem dX12_yardsOf_52 : decode cX12_yardsOf 52 = .ok (.invokevirtual 187, 3) := by decide +kernel
theorem dX12_yardsOf_55 : decode cX12_yardsOf 55 = .ok (.iadd, 1) := by decide +kernel
theorem dX12_yardsOf_56 : decode cX12_yardsOf 56 = .ok (.istore_n 2, 1) := by decide +kernel
theorem dX12_yardsOf_57 : decode cX12_yardsOf 57 = .ok (.iinc 3 1, 3) := by decide +kernel
theorem dX12_yardsOf_60 : decode cX12_yardsOf 60 = .ok (.goto (-56), 3) := by decide +kernel
theorem dX12_yardsOf_63 : decode cX12_yardsOf 63 = .ok (.iload_n 2, 1) := by decide +kernel
theorem dX12_yardsOf_64 : decode cX12_yardsOf 64 = .ok (.ireturn, 1) := by decide +kernel
theorem cm_X12_yardsOf : CM yX12_yardsOf cX12_yardsOf 4 (some .int) 1 12 := ⟨w_1641, w_61, w_1642, w_97, ⟨by decide +kernel, by decide +kernel, by decide +kernel⟩, ⟨_, _, rfl⟩, by decide⟩
noncomputable def f_X12_yardsOf_4b (n : Nat) (rec4 : Int → Int → MM → RR) (v0 v1 v2 v3 : Int) (h : MM) : RR :=
  gf h v0 12 1 fun r1 =>
  rd h r1 100 (wr (850 + v1)) fun r2 =>
  if r2 ≤ v3 then
    some (v2, h)
  else
  gf h v0 12 1 fun r4 =>
  rd h r4 100 (wr ((wr ((wr (4700 + (wr (41 * v1)))) + v3)) - 1)) fun r5 =>
  gf h v0 12 1 fun r6 =>
  rd h r6 100 (wr ((wr (4700 + (wr (41 * v1)))) + v3)) fun r7 =>
  gk h v0 12 <|
  bd (f_X12_step n v0 r5 r7 h) fun r8 h8 =>
  lb (wr (v2 + r8)) fun x9 =>
  lb (wr (v3 + 1)) fun x10 =>
  rec4 x9 x10 h8
noncomputable def f_X12_yardsOf_4 (n : Nat)  (v0 v1 : Int) : Nat → Int → Int → MM → RR
  | 0, _, _, _ => none
  | k + 1, v2, v3, h => f_X12_yardsOf_4b n  (f_X12_yardsOf_4 n  v0 v1 k) v0 v1 v2 v3 h
noncomputable def f_X12_yardsOf (n : Nat) (v0 v1 : Int) (h : MM) : RR :=
  f_X12_yardsOf_4 n v0 v1 n 0 1 h
set_option maxRecDepth 20000 in
theorem b_X12_yardsOf_4b {g : GT} {Z : Int × MM} {n : Nat} (C : Cx g cX12_yardsOf 4 yX12_yardsOf 2 42) (hr : Rt g (some .int) 0 Z) {v0 v1 v2 v3 : Int}  {rec4 : Int → Int → MM → RR} (L4 : ∀ (u2 u3 : Int) (h : MM), in32 u2 → in32 u3 → rec4 u2 u3 h = some Z → G g 4 [(2, v0), (0, v1), (0, u2), (0, u3)] [] h) (cv1 : in32 v1) (cv2 : in32 v2) (cv3 : in32 v3) {h : MM} (hf : f_X12_yardsOf_4b n rec4 v0 v1 v2 v3 h = some Z) : G g 4 [(2, v0), (0, v1), (0, v2), (0, v3)] [] h := by
  unfold f_X12_yardsOf_4b at hf
  refine r_iload_n C dX12_yardsOf_4 rfl ?_
  refine r_aload_n C dX12_yardsOf_5 rfl ?_
  obtain ⟨q1, hf⟩ := gf_s hf
  refine r_gf C ct12 (j := 1) (ji := 1) dX12_yardsOf_6 q1 rfl rfl (by decide) w_1426 rfl (fun c1 => ?_)
  refine r_sipush C dX12_yardsOf_9 rfl ?_
  refine r_iload_n C dX12_yardsOf_12 rfl ?_
  refine r_iadd C dX12_yardsOf_13 ?_
  obtain ⟨q2, hf⟩ := rd_s hf
  refine r_iald C dX12_yardsOf_14 q2 rfl (fun c2 => ?_)
  refine r_icmp_ge C dX12_yardsOf_15 (tgt := 63) (by decide) cv3 c2 (fun n3 => ?_) (fun n3 => ?_)
  · have hf := ite_p n3 hf
    refine r_iload_n C dX12_yardsOf_63 rfl ?_
    cases hf
    exact r_jret C hr dX12_yardsOf_64 cv2
  · have hf := ite_n n3 hf
    refine r_iload_n C dX12_yardsOf_18 rfl ?_
    refine r_aload_n C dX12_yardsOf_19 rfl ?_
    refine r_aload_n C dX12_yardsOf_20 rfl ?_
    obtain ⟨q4, hf⟩ := gf_s hf
    refine r_gf C ct12 (j := 1) (ji := 1) dX12_yardsOf_21 q4 rfl rfl (by decide) w_1426 rfl (fun c4 => ?_)
    refine r_sipush C dX12_yardsOf_24 rfl ?_
    refine r_bipush C dX12_yardsOf_27 rfl ?_
    refine r_iload_n C dX12_yardsOf_29 rfl ?_
    refine r_imul C dX12_yardsOf_30 ?_
    refine r_iadd C dX12_yardsOf_31 ?_
    refine r_iload_n C dX12_yardsOf_32 rfl ?_
    refine r_iadd C dX12_yardsOf_33 ?_
    refine r_iconst C dX12_yardsOf_34 ?_
    refine r_isub C dX12_yardsOf_35 ?_
    obtain ⟨q5, hf⟩ := rd_s hf
    refine r_iald C dX12_yardsOf_36 q5 rfl (fun c5 => ?_)
    refine r_aload_n C dX12_yardsOf_37 rfl ?_
    obtain ⟨q6, hf⟩ := gf_s hf
    refine r_gf C ct12 (j := 1) (ji := 1) dX12_yardsOf_38 q6 rfl rfl (by decide) w_1426 rfl (fun c6 => ?_)
    refine r_sipush C dX12_yardsOf_41 rfl ?_
    refine r_bipush C dX12_yardsOf_44 rfl ?_
    refine r_iload_n C dX12_yardsOf_46 rfl ?_
    refine r_imul C dX12_yardsOf_47 ?_
    refine r_iadd C dX12_yardsOf_48 ?_
    refine r_iload_n C dX12_yardsOf_49 rfl ?_
    refine r_iadd C dX12_yardsOf_50 ?_
    obtain ⟨q7, hf⟩ := rd_s hf
    refine r_iald C dX12_yardsOf_51 q7 rfl (fun c7 => ?_)
    obtain ⟨p8, hf⟩ := gk_s hf
    obtain ⟨r8, h8, hq8, hf⟩ := bd_s hf
    refine r_cV2 C (am_X12_step (gl g) n) cm_X12_step w_1643 dX12_yardsOf_52 ⟨Nat.le_of_ble_eq_true rfl, Nat.le_of_ble_eq_true rfl⟩ p8 rfl c5 c7 rfl (Nat.le_of_ble_eq_true rfl) hq8 (by decide) (fun c8 => ?_)
    have c8 : in32 _ := c8
    refine r_iadd C dX12_yardsOf_55 ?_
    obtain ⟨x9, e9, hf⟩ := lb_s hf
    have c9 : in32 x9 := by rw [e9]; exact (in32_t _)
    refine r_istore_nL C dX12_yardsOf_56 e9 (Nat.le_of_ble_eq_true rfl) rfl ?_
    obtain ⟨x10, e10, hf⟩ := lb_s hf
    have c10 : in32 x10 := by rw [e10]; exact (in32_t _)
    refine r_iincL C dX12_yardsOf_57 rfl e10 (Nat.le_of_ble_eq_true rfl) rfl ?_
    refine r_goto C dX12_yardsOf_60 (tgt := 4) (by decide) ?_
    exact G.mask [true, true, true, true] rfl rfl (L4 _ _ _ c9 c10 hf)
set_option maxRecDepth 20000 in
theorem l_X12_yardsOf_4 {g : GT} {Z : Int × MM} {n : Nat} (C : Cx g cX12_yardsOf 4 yX12_yardsOf 2 42) (hr : Rt g (some .int) 0 Z) {v0 v1 : Int}   (cv1 : in32 v1) : ∀ (k : Nat) (v2 v3 : Int) (h : MM), in32 v2 → in32 v3 → f_X12_yardsOf_4 n  v0 v1 k v2 v3 h = some Z → G g 4 [(2, v0), (0, v1), (0, v2), (0, v3)] [] h := by
  intro k
  induction k with
  | zero => intro v2 v3 h cv2 cv3 hf; exact absurd hf (by intro z; cases z)
  | succ k ih => intro v2 v3 h cv2 cv3 hf; exact b_X12_yardsOf_4b C hr (rec4 := f_X12_yardsOf_4 n  v0 v1 k)  ih cv1 cv2 cv3 (show f_X12_yardsOf_4b n  (f_X12_yardsOf_4 n  v0 v1 k) v0 v1 v2 v3 h = some Z from hf)
set_option maxRecDepth 20000 in
theorem e_X12_yardsOf {g : GT} {Z : Int × MM} {n : Nat} (C : Cx g cX12_yardsOf 4 yX12_yardsOf 2 42) (hr : Rt g (some .int) 0 Z) {v0 v1 : Int} (cv0 : cK 2 v0) (cv1 : cK 0 v1) {h : MM} (hf : f_X12_yardsOf n v0 v1 h = some Z) : G g 0 [(2, v0), (0, v1), (3, 0), (3, 0)] [] h := by
  have cv1 : in32 v1 := cv1
  unfold f_X12_yardsOf at hf
  refine r_iconst C dX12_yardsOf_0 ?_
  refine r_istore_n C dX12_yardsOf_1 (Nat.le_of_ble_eq_true rfl) rfl ?_
  refine r_iconst C dX12_yardsOf_2 ?_
  refine r_istore_n C dX12_yardsOf_3 (Nat.le_of_ble_eq_true rfl) rfl ?_
  exact G.mask [true, true, true, true] rfl rfl (l_X12_yardsOf_4 C hr  cv1 _ _ _ _ (in32_of rfl) (in32_of rfl) hf)
set_option maxRecDepth 20000 in
theorem am_X12_yardsOf (l : Launch) (n : Nat) : AM l yX12_yardsOf cX12_yardsOf 4 (some .int) 2 42 [2, 0] 0 (un2 (f_X12_yardsOf n)) := by
  refine AM.intro (by decide) (fun xs hx => ?_) (fun g xs h Z hl C hr hx hf => ?_)
  · obtain ⟨a0, a1, rfl, c0, c1⟩ := canL_2 hx
    exact Nat.le_of_ble_eq_true rfl
  · obtain ⟨a0, a1, rfl, c0, c1⟩ := canL_2 hx
    have hf := (un2_e _ a0 a1 _).symm.trans hf
    exact e_X12_yardsOf (n := n) C hr c0 c1 hf
