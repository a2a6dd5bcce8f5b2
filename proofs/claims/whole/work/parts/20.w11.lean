theorem w_1698 : (Cond.methodLink "LinesPromisedModel" 207 ⟨"LinesPromisedModel", "inWay", "(II)I"⟩) ∈ wG := wG_in 1698 (by decide +kernel) (by decide +kernel)
theorem w_1702 : (Cond.methodLink "LinesPromisedModel" 210 ⟨"LinesPromisedModel", "claims", "(I)I"⟩) ∈ wG := wG_in 1702 (by decide +kernel) (by decide +kernel)
theorem w_1697 : (Cond.code ⟨"LinesPromisedModel", "canBeLet", "(II)Z"⟩ prog_14_method_55_code 4 (some .boolean)) ∈ wG := wG_in 1697 (by decide +kernel) (by decide +kernel)
theorem w_1696 : (Cond.instanceMethod ⟨"LinesPromisedModel", "canBeLet", "(II)Z"⟩) ∈ wG := wG_in 1696 (by decide +kernel) (by decide +kernel)
theorem w_67 : (Cond.selects "LinesPromisedModel" ⟨"LinesPromisedModel", "canBeLet", "(II)Z"⟩ ⟨"LinesPromisedModel", "canBeLet", "(II)Z"⟩) ∈ wG := wG_in 67 (by decide +kernel) (by decide +kernel)
theorem w_1694 : (Cond.methodLink "LinesPromisedModel" 213 ⟨"LinesPromisedModel", "canBeLet", "(II)Z"⟩) ∈ wG := wG_in 1694 (by decide +kernel) (by decide +kernel)
theorem w_1693 : (Cond.code ⟨"LinesPromisedModel", "hear", "(II)I"⟩ prog_14_method_56_code 3 (some .int)) ∈ wG := wG_in 1693 (by decide +kernel) (by decide +kernel)
theorem w_1691 : (Cond.instanceMethod ⟨"LinesPromisedModel", "hear", "(II)I"⟩) ∈ wG := wG_in 1691 (by decide +kernel) (by decide +kernel)
theorem w_1692 : (Cond.selects "LinesPromisedModel" ⟨"LinesPromisedModel", "hear", "(II)I"⟩ ⟨"LinesPromisedModel", "hear", "(II)I"⟩) ∈ wG := wG_in 1692 (by decide +kernel) (by decide +kernel)
theorem w_1713 : (Cond.code ⟨"LinesPromisedModel", "isBarred", "(II)Z"⟩ prog_14_method_57_code 3 (some .boolean)) ∈ wG := wG_in 1713 (by decide +kernel) (by decide +kernel)
theorem w_1712 : (Cond.instanceMethod ⟨"LinesPromisedModel", "isBarred", "(II)Z"⟩) ∈ wG := wG_in 1712 (by decide +kernel) (by decide +kernel)
theorem w_70 : (Cond.selects "LinesPromisedModel" ⟨"LinesPromisedModel", "isBarred", "(II)Z"⟩ ⟨"LinesPromisedModel", "isBarred", "(II)Z"⟩) ∈ wG := wG_in 70 (by decide +kernel) (by decide +kernel)
theorem w_1710 : (Cond.methodLink "LinesPromisedModel" 216 ⟨"LinesPromisedModel", "isBarred", "(II)Z"⟩) ∈ wG := wG_in 1710 (by decide +kernel) (by decide +kernel)
theorem w_1709 : (Cond.code ⟨"LinesPromisedModel", "bar", "(II)I"⟩ prog_14_method_58_code 4 (some .int)) ∈ wG := wG_in 1709 (by decide +kernel) (by decide +kernel)
theorem w_1707 : (Cond.instanceMethod ⟨"LinesPromisedModel", "bar", "(II)I"⟩) ∈ wG := wG_in 1707 (by decide +kernel) (by decide +kernel)
theorem w_1708 : (Cond.selects "LinesPromisedModel" ⟨"LinesPromisedModel", "bar", "(II)I"⟩ ⟨"LinesPromisedModel", "bar", "(II)I"⟩) ∈ wG := wG_in 1708 (by decide +kernel) (by decide +kernel)
theorem w_1721 : (Cond.code ⟨"LinesPromisedModel", "isGranted", "(I)Z"⟩ prog_14_method_59_code 2 (some .boolean)) ∈ wG := wG_in 1721 (by decide +kernel) (by decide +kernel)
theorem w_1720 : (Cond.instanceMethod ⟨"LinesPromisedModel", "isGranted", "(I)Z"⟩) ∈ wG := wG_in 1720 (by decide +kernel) (by decide +kernel)
theorem w_71 : (Cond.selects "LinesPromisedModel" ⟨"LinesPromisedModel", "isGranted", "(I)Z"⟩ ⟨"LinesPromisedModel", "isGranted", "(I)Z"⟩) ∈ wG := wG_in 71 (by decide +kernel) (by decide +kernel)
theorem w_1718 : (Cond.methodLink "LinesPromisedModel" 219 ⟨"LinesPromisedModel", "isGranted", "(I)Z"⟩) ∈ wG := wG_in 1718 (by decide +kernel) (by decide +kernel)
theorem w_1725 : (Cond.code ⟨"LinesPromisedModel", "granted", "()I"⟩ prog_14_method_60_code 3 (some .int)) ∈ wG := wG_in 1725 (by decide +kernel) (by decide +kernel)
theorem w_1724 : (Cond.instanceMethod ⟨"LinesPromisedModel", "granted", "()I"⟩) ∈ wG := wG_in 1724 (by decide +kernel) (by decide +kernel)
theorem w_72 : (Cond.selects "LinesPromisedModel" ⟨"LinesPromisedModel", "granted", "()I"⟩ ⟨"LinesPromisedModel", "granted", "()I"⟩) ∈ wG := wG_in 72 (by decide +kernel) (by decide +kernel)
theorem w_1722 : (Cond.methodLink "LinesPromisedModel" 222 ⟨"LinesPromisedModel", "granted", "()I"⟩) ∈ wG := wG_in 1722 (by decide +kernel) (by decide +kernel)
theorem w_1717 : (Cond.code ⟨"LinesPromisedModel", "grant", "(I)I"⟩ prog_14_method_61_code 4 (some .int)) ∈ wG := wG_in 1717 (by decide +kernel) (by decide +kernel)
theorem w_1715 : (Cond.instanceMethod ⟨"LinesPromisedModel", "grant", "(I)I"⟩) ∈ wG := wG_in 1715 (by decide +kernel) (by decide +kernel)
theorem w_1716 : (Cond.selects "LinesPromisedModel" ⟨"LinesPromisedModel", "grant", "(I)I"⟩ ⟨"LinesPromisedModel", "grant", "(I)I"⟩) ∈ wG := wG_in 1716 (by decide +kernel) (by decide +kernel)
theorem w_1732 : (Cond.code ⟨"LinesPromisedModel", "isUnder", "(II)Z"⟩ prog_14_method_63_code 2 (some .boolean)) ∈ wG := wG_in 1732 (by decide +kernel) (by decide +kernel)
theorem w_1731 : (Cond.static ⟨"LinesPromisedModel", "isUnder", "(II)Z"⟩) ∈ wG := wG_in 1731 (by decide +kernel) (by decide +kernel)
theorem w_1733 : (Cond.methodLink "LinesPromisedModel" 225 ⟨"LinesPromisedModel", "worth", "(I)I"⟩) ∈ wG := wG_in 1733 (by decide +kernel) (by decide +kernel)
theorem w_1736 : (Cond.code ⟨"LinesPromisedModel", "worth", "(I)I"⟩ prog_14_method_62_code 2 (some .int)) ∈ wG := wG_in 1736 (by decide +kernel) (by decide +kernel)
theorem w_1735 : (Cond.instanceMethod ⟨"LinesPromisedModel", "worth", "(I)I"⟩) ∈ wG := wG_in 1735 (by decide +kernel) (by decide +kernel)
theorem w_73 : (Cond.selects "LinesPromisedModel" ⟨"LinesPromisedModel", "worth", "(I)I"⟩ ⟨"LinesPromisedModel", "worth", "(I)I"⟩) ∈ wG := wG_in 73 (by decide +kernel) (by decide +kernel)
theorem w_1730 : (Cond.methodLink "LinesPromisedModel" 228 ⟨"LinesPromisedModel", "isUnder", "(II)Z"⟩) ∈ wG := wG_in 1730 (by decide +kernel) (by decide +kernel)
theorem w_1729 : (Cond.code ⟨"LinesPromisedModel", "cast", "(II)I"⟩ prog_14_method_64_code 3 (some .int)) ∈ wG := wG_in 1729 (by decide +kernel) (by decide +kernel)
theorem w_1727 : (Cond.instanceMethod ⟨"LinesPromisedModel", "cast", "(II)I"⟩) ∈ wG := wG_in 1727 (by decide +kernel) (by decide +kernel)
theorem w_1728 : (Cond.selects "LinesPromisedModel" ⟨"LinesPromisedModel", "cast", "(II)I"⟩ ⟨"LinesPromisedModel", "cast", "(II)I"⟩) ∈ wG := wG_in 1728 (by decide +kernel) (by decide +kernel)
theorem w_1740 : (Cond.code ⟨"LinesPromisedModel", "about", "(II)I"⟩ prog_14_method_65_code 4 (some .int)) ∈ wG := wG_in 1740 (by decide +kernel) (by decide +kernel)
theorem w_1738 : (Cond.instanceMethod ⟨"LinesPromisedModel", "about", "(II)I"⟩) ∈ wG := wG_in 1738 (by decide +kernel) (by decide +kernel)
theorem w_1739 : (Cond.selects "LinesPromisedModel" ⟨"LinesPromisedModel", "about", "(II)I"⟩ ⟨"LinesPromisedModel", "about", "(II)I"⟩) ∈ wG := wG_in 1739 (by decide +kernel) (by decide +kernel)
theorem w_1744 : (Cond.code ⟨"LinesPromisedModel", "board", "(IIZ)I"⟩ prog_14_method_66_code 4 (some .int)) ∈ wG := wG_in 1744 (by decide +kernel) (by decide +kernel)
theorem w_1742 : (Cond.instanceMethod ⟨"LinesPromisedModel", "board", "(IIZ)I"⟩) ∈ wG := wG_in 1742 (by decide +kernel) (by decide +kernel)
theorem w_1743 : (Cond.selects "LinesPromisedModel" ⟨"LinesPromisedModel", "board", "(IIZ)I"⟩ ⟨"LinesPromisedModel", "board", "(IIZ)I"⟩) ∈ wG := wG_in 1743 (by decide +kernel) (by decide +kernel)
theorem w_1748 : (Cond.code ⟨"LinesPromisedModel", "doubled", "()I"⟩ prog_14_method_67_code 5 (some .int)) ∈ wG := wG_in 1748 (by decide +kernel) (by decide +kernel)
theorem w_1746 : (Cond.instanceMethod ⟨"LinesPromisedModel", "doubled", "()I"⟩) ∈ wG := wG_in 1746 (by decide +kernel) (by decide +kernel)
theorem w_1747 : (Cond.selects "LinesPromisedModel" ⟨"LinesPromisedModel", "doubled", "()I"⟩ ⟨"LinesPromisedModel", "doubled", "()I"⟩) ∈ wG := wG_in 1747 (by decide +kernel) (by decide +kernel)
theorem w_1752 : (Cond.code ⟨"LinesPromisedModel", "hand", "(II)I"⟩ prog_14_method_68_code 3 (some .int)) ∈ wG := wG_in 1752 (by decide +kernel) (by decide +kernel)
theorem w_1750 : (Cond.instanceMethod ⟨"LinesPromisedModel", "hand", "(II)I"⟩) ∈ wG := wG_in 1750 (by decide +kernel) (by decide +kernel)
theorem w_1751 : (Cond.selects "LinesPromisedModel" ⟨"LinesPromisedModel", "hand", "(II)I"⟩ ⟨"LinesPromisedModel", "hand", "(II)I"⟩) ∈ wG := wG_in 1751 (by decide +kernel) (by decide +kernel)
theorem w_1757 : (Cond.methodLink "LinesPromisedModel" 234 ⟨"LinesPromisedModel", "does", "(IIIII)V"⟩) ∈ wG := wG_in 1757 (by decide +kernel) (by decide +kernel)
theorem w_1438 : (Cond.fieldLink "LinesPromisedModel" 231 "LinesPromisedModel" "bestMany" "I") ∈ wG := wG_in 1438 (by decide +kernel) (by decide +kernel)
theorem w_1760 : (Cond.code ⟨"LinesPromisedModel", "does", "(IIIII)V"⟩ prog_14_method_69_code 9 none) ∈ wG := wG_in 1760 (by decide +kernel) (by decide +kernel)
theorem w_1759 : (Cond.instanceMethod ⟨"LinesPromisedModel", "does", "(IIIII)V"⟩) ∈ wG := wG_in 1759 (by decide +kernel) (by decide +kernel)
theorem w_74 : (Cond.selects "LinesPromisedModel" ⟨"LinesPromisedModel", "does", "(IIIII)V"⟩ ⟨"LinesPromisedModel", "does", "(IIIII)V"⟩) ∈ wG := wG_in 74 (by decide +kernel) (by decide +kernel)
theorem w_1756 : (Cond.code ⟨"LinesPromisedModel", "midnight", "(II)I"⟩ prog_14_method_70_code 3 (some .int)) ∈ wG := wG_in 1756 (by decide +kernel) (by decide +kernel)
theorem w_1754 : (Cond.instanceMethod ⟨"LinesPromisedModel", "midnight", "(II)I"⟩) ∈ wG := wG_in 1754 (by decide +kernel) (by decide +kernel)
theorem w_1755 : (Cond.selects "LinesPromisedModel" ⟨"LinesPromisedModel", "midnight", "(II)I"⟩ ⟨"LinesPromisedModel", "midnight", "(II)I"⟩) ∈ wG := wG_in 1755 (by decide +kernel) (by decide +kernel)
theorem w_1768 : (Cond.code ⟨"LinesPromisedModel", "isScheme", "(I)Z"⟩ prog_14_method_71_code 2 (some .boolean)) ∈ wG := wG_in 1768 (by decide +kernel) (by decide +kernel)
theorem w_1767 : (Cond.instanceMethod ⟨"LinesPromisedModel", "isScheme", "(I)Z"⟩) ∈ wG := wG_in 1767 (by decide +kernel) (by decide +kernel)
theorem w_75 : (Cond.selects "LinesPromisedModel" ⟨"LinesPromisedModel", "isScheme", "(I)Z"⟩ ⟨"LinesPromisedModel", "isScheme", "(I)Z"⟩) ∈ wG := wG_in 75 (by decide +kernel) (by decide +kernel)
theorem w_1772 : (Cond.code ⟨"LinesPromisedModel", "isFallen", "(I)Z"⟩ prog_14_method_72_code 2 (some .boolean)) ∈ wG := wG_in 1772 (by decide +kernel) (by decide +kernel)
theorem w_1771 : (Cond.instanceMethod ⟨"LinesPromisedModel", "isFallen", "(I)Z"⟩) ∈ wG := wG_in 1771 (by decide +kernel) (by decide +kernel)
theorem w_76 : (Cond.selects "LinesPromisedModel" ⟨"LinesPromisedModel", "isFallen", "(I)Z"⟩ ⟨"LinesPromisedModel", "isFallen", "(I)Z"⟩) ∈ wG := wG_in 76 (by decide +kernel) (by decide +kernel)
theorem w_1780 : (Cond.code ⟨"LinesPromisedModel", "indexOf", "(I)I"⟩ prog_14_method_32_code 3 (some .int)) ∈ wG := wG_in 1780 (by decide +kernel) (by decide +kernel)
theorem w_1779 : (Cond.instanceMethod ⟨"LinesPromisedModel", "indexOf", "(I)I"⟩) ∈ wG := wG_in 1779 (by decide +kernel) (by decide +kernel)
theorem w_78 : (Cond.selects "LinesPromisedModel" ⟨"LinesPromisedModel", "indexOf", "(I)I"⟩ ⟨"LinesPromisedModel", "indexOf", "(I)I"⟩) ∈ wG := wG_in 78 (by decide +kernel) (by decide +kernel)
theorem w_1777 : (Cond.methodLink "LinesPromisedModel" 238 ⟨"LinesPromisedModel", "indexOf", "(I)I"⟩) ∈ wG := wG_in 1777 (by decide +kernel) (by decide +kernel)
theorem w_1776 : (Cond.code ⟨"LinesPromisedModel", "sharesAt", "(II)I"⟩ prog_14_method_73_code 3 (some .int)) ∈ wG := wG_in 1776 (by decide +kernel) (by decide +kernel)
theorem w_1775 : (Cond.instanceMethod ⟨"LinesPromisedModel", "sharesAt", "(II)I"⟩) ∈ wG := wG_in 1775 (by decide +kernel) (by decide +kernel)
theorem w_77 : (Cond.selects "LinesPromisedModel" ⟨"LinesPromisedModel", "sharesAt", "(II)I"⟩ ⟨"LinesPromisedModel", "sharesAt", "(II)I"⟩) ∈ wG := wG_in 77 (by decide +kernel) (by decide +kernel)
/-! LinesPromisedModel.canBeLet(II)Z -/
theorem dX12_canBeLet_0 : decode cX12_canBeLet 0 = .ok (.aload_n 0, 1) := by decide +kernel
theorem dX12_canBeLet_1 : decode cX12_canBeLet 1 = .ok (.bipush 6, 2) := by decide +kernel
theorem dX12_canBeLet_3 : decode cX12_canBeLet 3 = .ok (.iload_n 2, 1) := by decide +kernel
theorem dX12_canBeLet_4 : decode cX12_canBeLet 4 = .ok (.invokevirtual 148, 3) := by decide +kernel
theorem dX12_canBeLet_7 : decode cX12_canBeLet 7 = .ok (.istore_n 3, 1) := by decide +kernel
theorem dX12_canBeLet_8 : decode cX12_canBeLet 8 = .ok (.iload_n 3, 1) := by decide +kernel
theorem dX12_canBeLet_9 : decode cX12_canBeLet 9 = .ok (.iconst (-1), 1) := by decide +kernel
theorem dX12_canBeLet_10 : decode cX12_canBeLet 10 = .ok (.if_icmp .ne 5, 3) := by decide +kernel
theorem dX12_canBeLet_13 : decode cX12_canBeLet 13 = .ok (.iconst 1, 1) := by decide +kernel
theorem dX12_canBeLet_14 : decode cX12_canBeLet 14 = .ok (.ireturn, 1) := by decide +kernel
theorem dX12_canBeLet_15 : decode cX12_canBeLet 15 = .ok (.aload_n 0, 1) := by decide +kernel
theorem dX12_canBeLet_16 : decode cX12_canBeLet 16 = .ok (.getfield 17, 3) := by decide +kernel
theorem dX12_canBeLet_19 : decode cX12_canBeLet 19 = .ok (.iconst 0, 1) := by decide +kernel
theorem dX12_canBeLet_20 : decode cX12_canBeLet 20 = .ok (.aload_n 0, 1) := by decide +kernel
theorem dX12_canBeLet_21 : decode cX12_canBeLet 21 = .ok (.aload_n 0, 1) := by decide +kernel
theorem dX12_canBeLet_22 : decode cX12_canBeLet 22 = .ok (.getfield 8, 3) := by decide +kernel
theorem dX12_canBeLet_25 : decode cX12_canBeLet 25 = .ok (.sipush 430, 3) := by decide +kernel
theorem dX12_canBeLet_28 : decode cX12_canBeLet 28 = .ok (.iload_n 1, 1) := by decide +kernel
theorem dX12_canBeLet_29 : decode cX12_canBeLet 29 = .ok (.iadd, 1) := by decide +kernel
theorem dX12_canBeLet_30 : decode cX12_canBeLet 30 = .ok (.iaload, 1) := by decide +kernel
theorem dX12_canBeLet_31 : decode cX12_canBeLet 31 = .ok (.invokevirtual 190, 3) := by decide +kernel
theorem dX12_canBeLet_34 : decode cX12_canBeLet 34 = .ok (.bipush 10, 2) := by decide +kernel
theorem dX12_canBeLet_36 : decode cX12_canBeLet 36 = .ok (.idiv, 1) := by decide +kernel
theorem dX12_canBeLet_37 : decode cX12_canBeLet 37 = .ok (.iastore, 1) := by decide +kernel
theorem dX12_canBeLet_38 : decode cX12_canBeLet 38 = .ok (.aload_n 0, 1) := by decide +kernel
theorem dX12_canBeLet_39 : decode cX12_canBeLet 39 = .ok (.getfield 17, 3) := by decide +kernel
theorem dX12_canBeLet_42 : decode cX12_canBeLet 42 = .ok (.iconst 1, 1) := by decide +kernel
theorem dX12_canBeLet_43 : decode cX12_canBeLet 43 = .ok (.aload_n 0, 1) := by decide +kernel
theorem dX12_canBeLet_44 : decode cX12_canBeLet 44 = .ok (.getfield 8, 3) := by decide +kernel
theorem dX12_canBeLet_47 : decode cX12_canBeLet 47 = .ok (.sipush 186, 3) := by decide +kernel
theorem dX12_canBeLet_50 : decode cX12_canBeLet 50 = .ok (.aload_n 0, 1) := by decide +kernel
theorem dX12_canBeLet_51 : decode cX12_canBeLet 51 = .ok (.getfield 8, 3) := by decide +kernel
theorem dX12_canBeLet_54 : decode cX12_canBeLet 54 = .ok (.sipush 550, 3) := by decide +kernel
theorem dX12_canBeLet_57 : decode cX12_canBeLet 57 = .ok (.iload_n 1, 1) := by decide +kernel
theorem dX12_canBeLet_58 : decode cX12_canBeLet 58 = .ok (.iadd, 1) := by decide +kernel
theorem dX12_canBeLet_59 : decode cX12_canBeLet 59 = .ok (.iaload, 1) := by decide +kernel
theorem dX12_canBeLet_60 : decode cX12_canBeLet 60 = .ok (.iadd, 1) := by decide +kernel
theorem dX12_canBeLet_61 : decode cX12_canBeLet 61 = .ok (.iaload, 1) := by decide +kernel
theorem dX12_canBeLet_62 : decode cX12_canBeLet 62 = .ok (.aload_n 0, 1) := by decide +kernel
theorem dX12_canBeLet_63 : decode cX12_canBeLet 63 = .ok (.getfield 8, 3) := by decide +kernel
theorem dX12_canBeLet_66 : decode cX12_canBeLet 66 = .ok (.sipush 186, 3) := by decide +kernel
theorem dX12_canBeLet_69 : decode cX12_canBeLet 69 = .ok (.aload_n 0, 1) := by decide +kernel
theorem dX12_canBeLet_70 : decode cX12_canBeLet 70 = .ok (.getfield 8, 3) := by decide +kernel
theorem dX12_canBeLet_73 : decode cX12_canBeLet 73 = .ok (.sipush 610, 3) := by decide +kernel
theorem dX12_canBeLet_76 : decode cX12_canBeLet 76 = .ok (.iload_n 1, 1) := by decide +kernel
theorem dX12_canBeLet_77 : decode cX12_canBeLet 77 = .ok (.iadd, 1) := by decide +kernel
theorem dX12_canBeLet_78 : decode cX12_canBeLet 78 = .ok (.iaload, 1) := by decide +kernel
theorem dX12_canBeLet_79 : decode cX12_canBeLet 79 = .ok (.iadd, 1) := by decide +kernel
theorem dX12_canBeLet_80 : decode cX12_canBeLet 80 = .ok (.iaload, 1) := by decide +kernel
theorem dX12_canBeLet_81 : decode cX12_canBeLet 81 = .ok (.iadd, 1) := by decide +kernel
theorem dX12_canBeLet_82 : decode cX12_canBeLet 82 = .ok (.iastore, 1) := by decide +kernel
theorem dX12_canBeLet_83 : decode cX12_canBeLet 83 = .ok (.aload_n 0, 1) := by decide +kernel
theorem dX12_canBeLet_84 : decode cX12_canBeLet 84 = .ok (.getfield 17, 3) := by decide +kernel
theorem dX12_canBeLet_87 : decode cX12_canBeLet 87 = .ok (.iconst 2, 1) := by decide +kernel
theorem dX12_canBeLet_88 : decode cX12_canBeLet 88 = .ok (.aload_n 0, 1) := by decide +kernel
theorem dX12_canBeLet_89 : decode cX12_canBeLet 89 = .ok (.iload_n 1, 1) := by decide +kernel
theorem dX12_canBeLet_90 : decode cX12_canBeLet 90 = .ok (.iconst 2, 1) := by decide +kernel
theorem dX12_canBeLet_91 : decode cX12_canBeLet 91 = .ok (.invokevirtual 207, 3) := by decide +kernel
theorem dX12_canBeLet_94 : decode cX12_canBeLet 94 = .ok (.iastore, 1) := by decide +kernel
theorem dX12_canBeLet_95 : decode cX12_canBeLet 95 = .ok (.aload_n 0, 1) := by decide +kernel
theorem dX12_canBeLet_96 : decode cX12_canBeLet 96 = .ok (.getfield 17, 3) := by decide +kernel
theorem dX12_canBeLet_99 : decode cX12_canBeLet 99 = .ok (.iconst 3, 1) := by decide +kernel
theorem dX12_canBeLet_100 : decode cX12_canBeLet 100 = .ok (.aload_n 0, 1) := by decide +kernel
theorem dX12_canBeLet_101 : decode cX12_canBeLet 101 = .ok (.iload_n 1, 1) := by decide +kernel
theorem dX12_canBeLet_102 : decode cX12_canBeLet 102 = .ok (.iconst 1, 1) := by decide +kernel
theorem dX12_canBeLet_103 : decode cX12_canBeLet 103 = .ok (.invokevirtual 207, 3) := by decide +kernel
theorem dX12_canBeLet_106 : decode cX12_canBeLet 106 = .ok (.iastore, 1) := by decide +kernel
theorem dX12_canBeLet_107 : decode cX12_canBeLet 107 = .ok (.aload_n 0, 1) := by decide +kernel
theorem dX12_canBeLet_108 : decode cX12_canBeLet 108 = .ok (.getfield 17, 3) := by decide +kernel
theorem dX12_canBeLet_111 : decode cX12_canBeLet 111 = .ok (.iconst 4, 1) := by decide +kernel
theorem dX12_canBeLet_112 : decode cX12_canBeLet 112 = .ok (.aload_n 0, 1) := by decide +kernel
theorem dX12_canBeLet_113 : decode cX12_canBeLet 113 = .ok (.iload_n 1, 1) := by decide +kernel
theorem dX12_canBeLet_114 : decode cX12_canBeLet 114 = .ok (.invokevirtual 210, 3) := by decide +kernel
theorem dX12_canBeLet_117 : decode cX12_canBeLet 117 = .ok (.iastore, 1) := by decide +kernel
theorem dX12_canBeLet_118 : decode cX12_canBeLet 118 = .ok (.aload_n 0, 1) := by decide +kernel
theorem dX12_canBeLet_119 : decode cX12_canBeLet 119 = .ok (.getfield 17, 3) := by decide +kernel
theorem dX12_canBeLet_122 : decode cX12_canBeLet 122 = .ok (.iconst 5, 1) := by decide +kernel
theorem dX12_canBeLet_123 : decode cX12_canBeLet 123 = .ok (.aload_n 0, 1) := by decide +kernel
theorem dX12_canBeLet_124 : decode cX12_canBeLet 124 = .ok (.getfield 8, 3) := by decide +kernel
theorem dX12_canBeLet_127 : decode cX12_canBeLet 127 = .ok (.sipush 670, 3) := by decide +kernel
theorem dX12_canBeLet_130 : decode cX12_canBeLet 130 = .ok (.iload_n 1, 1) := by decide +kernel
theorem dX12_canBeLet_131 : decode cX12_canBeLet 131 = .ok (.iadd, 1) := by decide +kernel
theorem dX12_canBeLet_132 : decode cX12_canBeLet 132 = .ok (.iaload, 1) := by decide +kernel
theorem dX12_canBeLet_133 : decode cX12_canBeLet 133 = .ok (.iastore, 1) := by decide +kernel
theorem dX12_canBeLet_134 : decode cX12_canBeLet 134 = .ok (.aload_n 0, 1) := by decide +kernel
theorem dX12_canBeLet_135 : decode cX12_canBeLet 135 = .ok (.iload_n 3, 1) := by decide +kernel
theorem dX12_canBeLet_136 : decode cX12_canBeLet 136 = .ok (.bipush 8, 2) := by decide +kernel
theorem dX12_canBeLet_138 : decode cX12_canBeLet 138 = .ok (.idiv, 1) := by decide +kernel
theorem dX12_canBeLet_139 : decode cX12_canBeLet 139 = .ok (.putfield 78, 3) := by decide +kernel
theorem dX12_canBeLet_142 : decode cX12_canBeLet 142 = .ok (.aload_n 0, 1) := by decide +kernel
theorem dX12_canBeLet_143 : decode cX12_canBeLet 143 = .ok (.aload_n 0, 1) := by decide +kernel
theorem dX12_canBeLet_144 : decode cX12_canBeLet 144 = .ok (.getfield 8, 3) := by decide +kernel
theorem dX12_canBeLet_147 : decode cX12_canBeLet 147 = .ok (.sipush 11070, 3) := by decide +kernel
theorem dX12_canBeLet_150 : decode cX12_canBeLet 150 = .ok (.iload_n 3, 1) := by decide +kernel
theorem dX12_canBeLet_151 : decode cX12_canBeLet 151 = .ok (.iadd, 1) := by decide +kernel
theorem dX12_canBeLet_152 : decode cX12_canBeLet 152 = .ok (.iaload, 1) := by decide +kernel
theorem dX12_canBeLet_153 : decode cX12_canBeLet 153 = .ok (.putfield 75, 3) := by decide +kernel
theorem dX12_canBeLet_156 : decode cX12_canBeLet 156 = .ok (.aload_n 0, 1) := by decide +kernel
theorem dX12_canBeLet_157 : decode cX12_canBeLet 157 = .ok (.iconst 0, 1) := by decide +kernel
theorem dX12_canBeLet_158 : decode cX12_canBeLet 158 = .ok (.putfield 116, 3) := by decide +kernel
theorem dX12_canBeLet_161 : decode cX12_canBeLet 161 = .ok (.aload_n 0, 1) := by decide +kernel
theorem dX12_canBeLet_162 : decode cX12_canBeLet 162 = .ok (.iconst 0, 1) := by decide +kernel
theorem dX12_canBeLet_163 : decode cX12_canBeLet 163 = .ok (.putfield 81, 3) := by decide +kernel
theorem dX12_canBeLet_166 : decode cX12_canBeLet 166 = .ok (.aload_n 0, 1) := by decide +kernel
theorem dX12_canBeLet_167 : decode cX12_canBeLet 167 = .ok (.invokevirtual 123, 3) := by decide +kernel
theorem dX12_canBeLet_170 : decode cX12_canBeLet 170 = .ok (.ireturn, 1) := by decide +kernel
theorem cm_X12_canBeLet : CM yX12_canBeLet cX12_canBeLet 4 (some .boolean) 2 12 := ⟨w_1696, w_67, w_1697, w_97, ⟨by decide +kernel, by decide +kernel, by decide +kernel⟩, ⟨_, _, rfl⟩, by decide⟩
noncomputable def f_X12_canBeLet (n : Nat) (v0 v1 v2 : Int) (h : MM) : RR :=
  gk h v0 12 <|
  bd (f_X12_ruling n v0 6 v2 h) fun r1 h1 =>
  if r1 = (-1) then
    ck (isb 1) <|
    some (1, h1)
  else
  gf h1 v0 12 8 fun r3 =>
  gf h1 v0 12 1 fun r4 =>
  rd h1 r4 100 (wr (430 + v1)) fun r5 =>
  gk h1 v0 12 <|
  bd (f_X12_yardsOf n v0 r5 h1) fun r6 h6 =>
  wt h6 r3 100 0 (idv r6 10) fun h7 =>
  gf h7 v0 12 8 fun r8 =>
  gf h7 v0 12 1 fun r9 =>
  gf h7 v0 12 1 fun r10 =>
  rd h7 r10 100 (wr (550 + v1)) fun r11 =>
  rd h7 r9 100 (wr (186 + r11)) fun r12 =>
  gf h7 v0 12 1 fun r13 =>
  gf h7 v0 12 1 fun r14 =>
  rd h7 r14 100 (wr (610 + v1)) fun r15 =>
  rd h7 r13 100 (wr (186 + r15)) fun r16 =>
  wt h7 r8 100 1 (wr (r12 + r16)) fun h17 =>
  gf h17 v0 12 8 fun r18 =>
  gk h17 v0 12 <|
  bd (f_X12_inWay n v0 v1 2 h17) fun r19 h19 =>
  wt h19 r18 100 2 r19 fun h20 =>
  gf h20 v0 12 8 fun r21 =>
  gk h20 v0 12 <|
  bd (f_X12_inWay n v0 v1 1 h20) fun r22 h22 =>
  wt h22 r21 100 3 r22 fun h23 =>
  gf h23 v0 12 8 fun r24 =>
  gk h23 v0 12 <|
  bd (f_X12_claims n v0 v1 h23) fun r25 h25 =>
  wt h25 r24 100 4 r25 fun h26 =>
  gf h26 v0 12 8 fun r27 =>
  gf h26 v0 12 1 fun r28 =>
  rd h26 r28 100 (wr (670 + v1)) fun r29 =>
  wt h26 r27 100 5 r29 fun h30 =>
  pf h30 v0 12 4 (idv r1 8) fun h31 =>
  gf h31 v0 12 1 fun r32 =>
  rd h31 r32 100 (wr (11070 + r1)) fun r33 =>
  pf h31 v0 12 5 r33 fun h34 =>
  pf h34 v0 12 7 0 fun h35 =>
  ck (isb 0) <|
  pf h35 v0 12 6 0 fun h36 =>
  gk h36 v0 12 <|
  bd (f_X12_some n v0 h36) fun r38 h38 =>
  ck (isb r38) <|
  some (r38, h38)
set_option maxRecDepth 20000 in
theorem e_X12_canBeLet {g : GT} {Z : Int × MM} {n : Nat} (C : Cx g cX12_canBeLet 4 yX12_canBeLet 53 1166) (hr : Rt g (some .boolean) 0 Z) {v0 v1 v2 : Int} (cv0 : cK 2 v0) (cv1 : cK 0 v1) (cv2 : cK 0 v2) {h : MM} (hf : f_X12_canBeLet n v0 v1 v2 h = some Z) : G g 0 [(2, v0), (0, v1), (0, v2), (3, 0)] [] h := by
  have cv1 : in32 v1 := cv1
  have cv2 : in32 v2 := cv2
  unfold f_X12_canBeLet at hf
  refine r_aload_n C dX12_canBeLet_0 rfl ?_
  refine r_bipush C dX12_canBeLet_1 rfl ?_
  refine r_iload_n C dX12_canBeLet_3 rfl ?_
  obtain ⟨p1, hf⟩ := gk_s hf
  obtain ⟨r1, h1, hq1, hf⟩ := bd_s hf
  refine r_cV2 C (am_X12_ruling (gl g) n) cm_X12_ruling w_1583 dX12_canBeLet_4 ⟨Nat.le_of_ble_eq_true rfl, Nat.le_of_ble_eq_true rfl⟩ p1 rfl (in32_of rfl) cv2 rfl (Nat.le_of_ble_eq_true rfl) hq1 (by decide) (fun c1 => ?_)
  have c1 : in32 _ := c1
  refine r_istore_n C dX12_canBeLet_7 (Nat.le_of_ble_eq_true rfl) rfl ?_
  refine r_iload_n C dX12_canBeLet_8 rfl ?_
  refine r_iconst C dX12_canBeLet_9 ?_
  refine r_icmp_ne C dX12_canBeLet_10 (tgt := 15) (by decide) c1 (in32_of rfl) (fun n2 => ?_) (fun n2 => ?_)
  · have hf := ite_n n2 hf
    refine r_aload_n C dX12_canBeLet_15 rfl ?_
    obtain ⟨q3, hf⟩ := gf_s hf
    refine r_gf C ct12 (j := 8) (ji := 8) dX12_canBeLet_16 q3 rfl rfl (by decide) w_1433 rfl (fun c3 => ?_)
    refine r_iconst C dX12_canBeLet_19 ?_
    refine r_aload_n C dX12_canBeLet_20 rfl ?_
    refine r_aload_n C dX12_canBeLet_21 rfl ?_
    obtain ⟨q4, hf⟩ := gf_s hf
    refine r_gf C ct12 (j := 1) (ji := 1) dX12_canBeLet_22 q4 rfl rfl (by decide) w_1426 rfl (fun c4 => ?_)
    refine r_sipush C dX12_canBeLet_25 rfl ?_
    refine r_iload_n C dX12_canBeLet_28 rfl ?_
    refine r_iadd C dX12_canBeLet_29 ?_
    obtain ⟨q5, hf⟩ := rd_s hf
    refine r_iald C dX12_canBeLet_30 q5 rfl (fun c5 => ?_)
    obtain ⟨p6, hf⟩ := gk_s hf
    obtain ⟨r6, h6, hq6, hf⟩ := bd_s hf
    refine r_cV1 C (am_X12_yardsOf (gl g) n) cm_X12_yardsOf w_1639 dX12_canBeLet_31 ⟨Nat.le_of_ble_eq_true rfl, Nat.le_of_ble_eq_true rfl⟩ p6 rfl c5 rfl (Nat.le_of_ble_eq_true rfl) hq6 (by decide) (fun c6 => ?_)
    have c6 : in32 _ := c6
    refine r_bipush C dX12_canBeLet_34 rfl ?_
    refine r_idiv C dX12_canBeLet_36 (in32_of rfl) (by decide) ?_
    obtain ⟨q7, hf⟩ := wt_s hf
    refine r_iast C dX12_canBeLet_37 q7 rfl (in32_t _) ?_
    refine r_aload_n C dX12_canBeLet_38 rfl ?_
    obtain ⟨q8, hf⟩ := gf_s hf
    refine r_gf C ct12 (j := 8) (ji := 8) dX12_canBeLet_39 q8 rfl rfl (by decide) w_1433 rfl (fun c8 => ?_)
    refine r_iconst C dX12_canBeLet_42 ?_
    refine r_aload_n C dX12_canBeLet_43 rfl ?_
    obtain ⟨q9, hf⟩ := gf_s hf
    refine r_gf C ct12 (j := 1) (ji := 1) dX12_canBeLet_44 q9 rfl rfl (by decide) w_1426 rfl (fun c9 => ?_)
    refine r_sipush C dX12_canBeLet_47 rfl ?_
    refine r_aload_n C dX12_canBeLet_50 rfl ?_
    obtain ⟨q10, hf⟩ := gf_s hf
    refine r_gf C ct12 (j := 1) (ji := 1) dX12_canBeLet_51 q10 rfl rfl (by decide) w_1426 rfl (fun c10 => ?_)
    refine r_sipush C dX12_canBeLet_54 rfl ?_
    refine r_iload_n C dX12_canBeLet_57 rfl ?_
    refine r_iadd C dX12_canBeLet_58 ?_
    obtain ⟨q11, hf⟩ := rd_s hf
    refine r_iald C dX12_canBeLet_59 q11 rfl (fun c11 => ?_)
    refine r_iadd C dX12_canBeLet_60 ?_
    obtain ⟨q12, hf⟩ := rd_s hf
    refine r_iald C dX12_canBeLet_61 q12 rfl (fun c12 => ?_)
    refine r_aload_n C dX12_canBeLet_62 rfl ?_
    obtain ⟨q13, hf⟩ := gf_s hf
    refine r_gf C ct12 (j := 1) (ji := 1) dX12_canBeLet_63 q13 rfl rfl (by decide) w_1426 rfl (fun c13 => ?_)
    refine r_sipush C dX12_canBeLet_66 rfl ?_
    refine r_aload_n C dX12_canBeLet_69 rfl ?_
    obtain ⟨q14, hf⟩ := gf_s hf
    refine r_gf C ct12 (j := 1) (ji := 1) dX12_canBeLet_70 q14 rfl rfl (by decide) w_1426 rfl (fun c14 => ?_)
    refine r_sipush C dX12_canBeLet_73 rfl ?_
    refine r_iload_n C dX12_canBeLet_76 rfl ?_
    refine r_iadd C dX12_canBeLet_77 ?_
    obtain ⟨q15, hf⟩ := rd_s hf
    refine r_iald C dX12_canBeLet_78 q15 rfl (fun c15 => ?_)
    refine r_iadd C dX12_canBeLet_79 ?_
    obtain ⟨q16, hf⟩ := rd_s hf
    refine r_iald C dX12_canBeLet_80 q16 rfl (fun c16 => ?_)
    refine r_iadd C dX12_canBeLet_81 ?_
    obtain ⟨q17, hf⟩ := wt_s hf
    refine r_iast C dX12_canBeLet_82 q17 rfl (in32_t _) ?_
    refine r_aload_n C dX12_canBeLet_83 rfl ?_
    obtain ⟨q18, hf⟩ := gf_s hf
    refine r_gf C ct12 (j := 8) (ji := 8) dX12_canBeLet_84 q18 rfl rfl (by decide) w_1433 rfl (fun c18 => ?_)
    refine r_iconst C dX12_canBeLet_87 ?_
    refine r_aload_n C dX12_canBeLet_88 rfl ?_
    refine r_iload_n C dX12_canBeLet_89 rfl ?_
    refine r_iconst C dX12_canBeLet_90 ?_
    obtain ⟨p19, hf⟩ := gk_s hf
    obtain ⟨r19, h19, hq19, hf⟩ := bd_s hf
    refine r_cV2 C (am_X12_inWay (gl g) n) cm_X12_inWay w_1698 dX12_canBeLet_91 ⟨Nat.le_of_ble_eq_true rfl, Nat.le_of_ble_eq_true rfl⟩ p19 rfl cv1 (in32_of rfl) rfl (Nat.le_of_ble_eq_true rfl) hq19 (by decide) (fun c19 => ?_)
    have c19 : in32 _ := c19
    obtain ⟨q20, hf⟩ := wt_s hf
    refine r_iast C dX12_canBeLet_94 q20 rfl c19 ?_
    refine r_aload_n C dX12_canBeLet_95 rfl ?_
    obtain ⟨q21, hf⟩ := gf_s hf
    refine r_gf C ct12 (j := 8) (ji := 8) dX12_canBeLet_96 q21 rfl rfl (by decide) w_1433 rfl (fun c21 => ?_)
    refine r_iconst C dX12_canBeLet_99 ?_
    refine r_aload_n C dX12_canBeLet_100 rfl ?_
    refine r_iload_n C dX12_canBeLet_101 rfl ?_
    refine r_iconst C dX12_canBeLet_102 ?_
    obtain ⟨p22, hf⟩ := gk_s hf
    obtain ⟨r22, h22, hq22, hf⟩ := bd_s hf
    refine r_cV2 C (am_X12_inWay (gl g) n) cm_X12_inWay w_1698 dX12_canBeLet_103 ⟨Nat.le_of_ble_eq_true rfl, Nat.le_of_ble_eq_true rfl⟩ p22 rfl cv1 (in32_of rfl) rfl (Nat.le_of_ble_eq_true rfl) hq22 (by decide) (fun c22 => ?_)
    have c22 : in32 _ := c22
    obtain ⟨q23, hf⟩ := wt_s hf
    refine r_iast C dX12_canBeLet_106 q23 rfl c22 ?_
    refine r_aload_n C dX12_canBeLet_107 rfl ?_
    obtain ⟨q24, hf⟩ := gf_s hf
    refine r_gf C ct12 (j := 8) (ji := 8) dX12_canBeLet_108 q24 rfl rfl (by decide) w_1433 rfl (fun c24 => ?_)
    refine r_iconst C dX12_canBeLet_111 ?_
    refine r_aload_n C dX12_canBeLet_112 rfl ?_
    refine r_iload_n C dX12_canBeLet_113 rfl ?_
    obtain ⟨p25, hf⟩ := gk_s hf
    obtain ⟨r25, h25, hq25, hf⟩ := bd_s hf
    refine r_cV1 C (am_X12_claims (gl g) n) cm_X12_claims w_1702 dX12_canBeLet_114 ⟨Nat.le_of_ble_eq_true rfl, Nat.le_of_ble_eq_true rfl⟩ p25 rfl cv1 rfl (Nat.le_of_ble_eq_true rfl) hq25 (by decide) (fun c25 => ?_)
    have c25 : in32 _ := c25
    obtain ⟨q26, hf⟩ := wt_s hf
    refine r_iast C dX12_canBeLet_117 q26 rfl c25 ?_
    refine r_aload_n C dX12_canBeLet_118 rfl ?_
    obtain ⟨q27, hf⟩ := gf_s hf
    refine r_gf C ct12 (j := 8) (ji := 8) dX12_canBeLet_119 q27 rfl rfl (by decide) w_1433 rfl (fun c27 => ?_)
    refine r_iconst C dX12_canBeLet_122 ?_
    refine r_aload_n C dX12_canBeLet_123 rfl ?_
    obtain ⟨q28, hf⟩ := gf_s hf
    refine r_gf C ct12 (j := 1) (ji := 1) dX12_canBeLet_124 q28 rfl rfl (by decide) w_1426 rfl (fun c28 => ?_)
    refine r_sipush C dX12_canBeLet_127 rfl ?_
    refine r_iload_n C dX12_canBeLet_130 rfl ?_
    refine r_iadd C dX12_canBeLet_131 ?_
    obtain ⟨q29, hf⟩ := rd_s hf
    refine r_iald C dX12_canBeLet_132 q29 rfl (fun c29 => ?_)
    obtain ⟨q30, hf⟩ := wt_s hf
    refine r_iast C dX12_canBeLet_133 q30 rfl c29 ?_
    refine r_aload_n C dX12_canBeLet_134 rfl ?_
    refine r_iload_n C dX12_canBeLet_135 rfl ?_
    refine r_bipush C dX12_canBeLet_136 rfl ?_
    refine r_idiv C dX12_canBeLet_138 (in32_of rfl) (by decide) ?_
    obtain ⟨q31, hf⟩ := pf_s hf
    refine r_pf C ct12 (j := 4) (ji := 4) dX12_canBeLet_139 q31 rfl rfl (by decide) w_1429 rfl (Or.inl rfl) nar_int (in32_t _) ?_
    refine r_aload_n C dX12_canBeLet_142 rfl ?_
    refine r_aload_n C dX12_canBeLet_143 rfl ?_
    obtain ⟨q32, hf⟩ := gf_s hf
    refine r_gf C ct12 (j := 1) (ji := 1) dX12_canBeLet_144 q32 rfl rfl (by decide) w_1426 rfl (fun c32 => ?_)
    refine r_sipush C dX12_canBeLet_147 rfl ?_
    refine r_iload_n C dX12_canBeLet_150 rfl ?_
    refine r_iadd C dX12_canBeLet_151 ?_
    obtain ⟨q33, hf⟩ := rd_s hf
    refine r_iald C dX12_canBeLet_152 q33 rfl (fun c33 => ?_)
    obtain ⟨q34, hf⟩ := pf_s hf
    refine r_pf C ct12 (j := 5) (ji := 5) dX12_canBeLet_153 q34 rfl rfl (by decide) w_1430 rfl (Or.inl rfl) nar_int c33 ?_
    refine r_aload_n C dX12_canBeLet_156 rfl ?_
    refine r_iconst C dX12_canBeLet_157 ?_
    obtain ⟨q35, hf⟩ := pf_s hf
    refine r_pf C ct12 (j := 7) (ji := 7) dX12_canBeLet_158 q35 rfl rfl (by decide) w_1432 rfl (Or.inl rfl) nar_int (in32_of rfl) ?_
    refine r_aload_n C dX12_canBeLet_161 rfl ?_
    refine r_iconst C dX12_canBeLet_162 ?_
    obtain ⟨b37, hf⟩ := ck_s hf
    obtain ⟨q36, hf⟩ := pf_s hf
    refine r_pf C ct12 (j := 6) (ji := 6) dX12_canBeLet_163 q36 rfl rfl (by decide) w_1431 rfl (Or.inl rfl) (nar_bool (isb_s b37)) (in32_of rfl) ?_
    refine r_aload_n C dX12_canBeLet_166 rfl ?_
    obtain ⟨p38, hf⟩ := gk_s hf
    obtain ⟨r38, h38, hq38, hf⟩ := bd_s hf
    refine r_cV0 C (am_X12_some (gl g) n) cm_X12_some w_1555 dX12_canBeLet_167 ⟨Nat.le_of_ble_eq_true rfl, Nat.le_of_ble_eq_true rfl⟩ p38 rfl  rfl (Nat.le_of_ble_eq_true rfl) hq38 (by decide) (fun c38 => ?_)
    have c38 : in32 _ := c38
    obtain ⟨b39, hf⟩ := ck_s hf
    cases hf
    exact r_zret C hr dX12_canBeLet_170 b39
  · have hf := ite_p n2 hf
    refine r_iconst C dX12_canBeLet_13 ?_
    obtain ⟨b40, hf⟩ := ck_s hf
    cases hf
    exact r_zret C hr dX12_canBeLet_14 b40
set_option maxRecDepth 20000 in
theorem am_X12_canBeLet (l : Launch) (n : Nat) : AM l yX12_canBeLet cX12_canBeLet 4 (some .boolean) 53 1166 [2, 0, 0] 0 (un3 (f_X12_canBeLet n)) := by
  refine AM.intro (by decide) (fun xs hx => ?_) (fun g xs h Z hl C hr hx hf => ?_)
  · obtain ⟨a0, a1, a2, rfl, c0, c1, c2⟩ := canL_3 hx
    exact Nat.le_of_ble_eq_true rfl
  · obtain ⟨a0, a1, a2, rfl, c0, c1, c2⟩ := canL_3 hx
    have hf := (un3_e _ a0 a1 a2 _).symm.trans hf
    exact e_X12_canBeLet (n := n) C hr c0 c1 c2 hf
/-! LinesPromisedModel.hear(II)I -/
theorem dX12_hear_0 : decode cX12_hear 0 = .ok (.aload_n 0, 1) := by decide +kernel
theorem dX12_hear_1 : decode cX12_hear 1 = .ok (.iload_n 1, 1) := by decide +kernel
theorem dX12_hear_2 : decode cX12_hear 2 = .ok (.iconst 3, 1) := by decide +kernel
theorem dX12_hear_3 : decode cX12_hear 3 = .ok (.invokevirtual 165, 3) := by decide +kernel
theorem dX12_hear_6 : decode cX12_hear 6 = .ok (.ifCond .ne 7, 3) := by decide +kernel
theorem dX12_hear_9 : decode cX12_hear 9 = .ok (.iconst (-1), 1) := by decide +kernel
theorem dX12_hear_10 : decode cX12_hear 10 = .ok (.goto 29, 3) := by decide +kernel
theorem dX12_hear_13 : decode cX12_hear 13 = .ok (.iload_n 2, 1) := by decide +kernel
theorem dX12_hear_14 : decode cX12_hear 14 = .ok (.invokestatic 141, 3) := by decide +kernel
theorem dX12_hear_17 : decode cX12_hear 17 = .ok (.ifCond .ne 8, 3) := by decide +kernel
theorem dX12_hear_20 : decode cX12_hear 20 = .ok (.bipush (-2), 2) := by decide +kernel
theorem dX12_hear_22 : decode cX12_hear 22 = .ok (.goto 17, 3) := by decide +kernel
theorem dX12_hear_25 : decode cX12_hear 25 = .ok (.aload_n 0, 1) := by decide +kernel
theorem dX12_hear_26 : decode cX12_hear 26 = .ok (.iload_n 1, 1) := by decide +kernel
theorem dX12_hear_27 : decode cX12_hear 27 = .ok (.iload_n 2, 1) := by decide +kernel
theorem dX12_hear_28 : decode cX12_hear 28 = .ok (.invokevirtual 213, 3) := by decide +kernel
theorem dX12_hear_31 : decode cX12_hear 31 = .ok (.ifCond .eq 7, 3) := by decide +kernel
theorem dX12_hear_34 : decode cX12_hear 34 = .ok (.iconst 1, 1) := by decide +kernel
theorem dX12_hear_35 : decode cX12_hear 35 = .ok (.goto 4, 3) := by decide +kernel
theorem dX12_hear_38 : decode cX12_hear 38 = .ok (.iconst 0, 1) := by decide +kernel
theorem dX12_hear_39 : decode cX12_hear 39 = .ok (.ireturn, 1) := by decide +kernel
theorem cm_X12_hear : CM yX12_hear cX12_hear 3 (some .int) 2 12 := ⟨w_1691, w_1692, w_1693, w_97, ⟨by decide +kernel, by decide +kernel, by decide +kernel⟩, ⟨_, _, rfl⟩, by decide⟩
noncomputable def f_X12_hear_39 (n : Nat)  (s0 : Int) (h : MM) : RR :=
  some (s0, h)
noncomputable def f_X12_hear (n : Nat) (v0 v1 v2 : Int) (h : MM) : RR :=
  gk h v0 12 <|
  bd (f_X12_isOf n v0 v1 3 h) fun r1 h1 =>
  if r1 = 0 then
    f_X12_hear_39 n ((-1)) h1
  else
  bd (f_X12_isDay n v2 h1) fun r3 h3 =>
  if r3 = 0 then
    f_X12_hear_39 n ((-2)) h3
  else
  gk h3 v0 12 <|
  bd (f_X12_canBeLet n v0 v1 v2 h3) fun r5 h5 =>
  if r5 = 0 then
    f_X12_hear_39 n 0 h5
  else
  f_X12_hear_39 n 1 h5
set_option maxRecDepth 20000 in
theorem b_X12_hear_39 {g : GT} {Z : Int × MM} {n : Nat} (C : Cx g cX12_hear 3 yX12_hear 54 1189) (hr : Rt g (some .int) 0 Z) {s0 : Int}    (cs0 : in32 s0) {h : MM} (hf : f_X12_hear_39 n  s0 h = some Z) : G g 39 [(3, 0), (3, 0), (3, 0)] [(0, s0)] h := by
  unfold f_X12_hear_39 at hf
  cases hf
  exact r_jret C hr dX12_hear_39 cs0
set_option maxRecDepth 20000 in
theorem e_X12_hear {g : GT} {Z : Int × MM} {n : Nat} (C : Cx g cX12_hear 3 yX12_hear 54 1189) (hr : Rt g (some .int) 0 Z) {v0 v1 v2 : Int} (cv0 : cK 2 v0) (cv1 : cK 0 v1) (cv2 : cK 0 v2) {h : MM} (hf : f_X12_hear n v0 v1 v2 h = some Z) : G g 0 [(2, v0), (0, v1), (0, v2)] [] h := by
  have cv1 : in32 v1 := cv1
  have cv2 : in32 v2 := cv2
  unfold f_X12_hear at hf
  refine r_aload_n C dX12_hear_0 rfl ?_
  refine r_iload_n C dX12_hear_1 rfl ?_
  refine r_iconst C dX12_hear_2 ?_
  obtain ⟨p1, hf⟩ := gk_s hf
  obtain ⟨r1, h1, hq1, hf⟩ := bd_s hf
  refine r_cV2 C (am_X12_isOf (gl g) n) cm_X12_isOf w_1607 dX12_hear_3 ⟨Nat.le_of_ble_eq_true rfl, Nat.le_of_ble_eq_true rfl⟩ p1 rfl cv1 (in32_of rfl) rfl (Nat.le_of_ble_eq_true rfl) hq1 (by decide) (fun c1 => ?_)
  have c1 : in32 _ := c1
  refine r_if_ne C dX12_hear_6 (tgt := 13) (by decide) c1 (fun n2 => ?_) (fun n2 => ?_)
  · have hf := ite_n n2 hf
    refine r_iload_n C dX12_hear_13 rfl ?_
    obtain ⟨r3, h3, hq3, hf⟩ := bd_s hf
    refine r_cS1 C (am_X12_isDay (gl g) n) cm_X12_isDay w_1524 dX12_hear_14 ⟨Nat.le_of_ble_eq_true rfl, Nat.le_of_ble_eq_true rfl⟩ cv2 rfl (Nat.le_of_ble_eq_true rfl) hq3 (by decide) (fun c3 => ?_)
    have c3 : in32 _ := c3
    refine r_if_ne C dX12_hear_17 (tgt := 25) (by decide) c3 (fun n4 => ?_) (fun n4 => ?_)
    · have hf := ite_n n4 hf
      refine r_aload_n C dX12_hear_25 rfl ?_
      refine r_iload_n C dX12_hear_26 rfl ?_
      refine r_iload_n C dX12_hear_27 rfl ?_
      obtain ⟨p5, hf⟩ := gk_s hf
      obtain ⟨r5, h5, hq5, hf⟩ := bd_s hf
      refine r_cV2 C (am_X12_canBeLet (gl g) n) cm_X12_canBeLet w_1694 dX12_hear_28 ⟨Nat.le_of_ble_eq_true rfl, Nat.le_of_ble_eq_true rfl⟩ p5 rfl cv1 cv2 rfl (Nat.le_of_ble_eq_true rfl) hq5 (by decide) (fun c5 => ?_)
      have c5 : in32 _ := c5
      refine r_if_eq C dX12_hear_31 (tgt := 38) (by decide) c5 (fun n6 => ?_) (fun n6 => ?_)
      · have hf := ite_p n6 hf
        refine r_iconst C dX12_hear_38 ?_
        exact G.mask [false, false, false] rfl rfl (b_X12_hear_39 C hr  (in32_of rfl) hf)
      · have hf := ite_n n6 hf
        refine r_iconst C dX12_hear_34 ?_
        refine r_goto C dX12_hear_35 (tgt := 39) (by decide) ?_
        exact G.mask [false, false, false] rfl rfl (b_X12_hear_39 C hr  (in32_of rfl) hf)
    · have hf := ite_p n4 hf
      refine r_bipush C dX12_hear_20 rfl ?_
      refine r_goto C dX12_hear_22 (tgt := 39) (by decide) ?_
      exact G.mask [false, false, false] rfl rfl (b_X12_hear_39 C hr  (in32_of rfl) hf)
  · have hf := ite_p n2 hf
    refine r_iconst C dX12_hear_9 ?_
    refine r_goto C dX12_hear_10 (tgt := 39) (by decide) ?_
    exact G.mask [false, false, false] rfl rfl (b_X12_hear_39 C hr  (in32_of rfl) hf)
set_option maxRecDepth 20000 in
theorem am_X12_hear (l : Launch) (n : Nat) : AM l yX12_hear cX12_hear 3 (some .int) 54 1189 [2, 0, 0] 0 (un3 (f_X12_hear n)) := by
  refine AM.intro (by decide) (fun xs hx => ?_) (fun g xs h Z hl C hr hx hf => ?_)
  · obtain ⟨a0, a1, a2, rfl, c0, c1, c2⟩ := canL_3 hx
    exact Nat.le_of_ble_eq_true rfl
  · obtain ⟨a0, a1, a2, rfl, c0, c1, c2⟩ := canL_3 hx
    have hf := (un3_e _ a0 a1 a2 _).symm.trans hf
    exact e_X12_hear (n := n) C hr c0 c1 c2 hf
/-! LinesPromisedModel.isBarred(II)Z -/
theorem dX12_isBarred_0 : decode cX12_isBarred 0 = .ok (.aload_n 0, 1) := by decide +kernel
theorem dX12_isBarred_1 : decode cX12_isBarred 1 = .ok (.getfield 8, 3) := by decide +kernel
theorem dX12_isBarred_4 : decode cX12_isBarred 4 = .ok (.sipush 1100, 3) := by decide +kernel
theorem dX12_isBarred_7 : decode cX12_isBarred 7 = .ok (.bipush 60, 2) := by decide +kernel
theorem dX12_isBarred_9 : decode cX12_isBarred 9 = .ok (.iload_n 1, 1) := by decide +kernel
theorem dX12_isBarred_10 : decode cX12_isBarred 10 = .ok (.imul, 1) := by decide +kernel
theorem dX12_isBarred_11 : decode cX12_isBarred 11 = .ok (.iadd, 1) := by decide +kernel
theorem dX12_isBarred_12 : decode cX12_isBarred 12 = .ok (.iload_n 2, 1) := by decide +kernel
theorem dX12_isBarred_13 : decode cX12_isBarred 13 = .ok (.iadd, 1) := by decide +kernel
theorem dX12_isBarred_14 : decode cX12_isBarred 14 = .ok (.iaload, 1) := by decide +kernel
theorem dX12_isBarred_15 : decode cX12_isBarred 15 = .ok (.iconst 1, 1) := by decide +kernel
theorem dX12_isBarred_16 : decode cX12_isBarred 16 = .ok (.if_icmp .ne 7, 3) := by decide +kernel
theorem dX12_isBarred_19 : decode cX12_isBarred 19 = .ok (.iconst 1, 1) := by decide +kernel
theorem dX12_isBarred_20 : decode cX12_isBarred 20 = .ok (.goto 4, 3) := by decide +kernel
theorem dX12_isBarred_23 : decode cX12_isBarred 23 = .ok (.iconst 0, 1) := by decide +kernel
theorem dX12_isBarred_24 : decode cX12_isBarred 24 = .ok (.ireturn, 1) := by decide +kernel
theorem cm_X12_isBarred : CM yX12_isBarred cX12_isBarred 3 (some .boolean) 2 12 := ⟨w_1712, w_70, w_1713, w_97, ⟨by decide +kernel, by decide +kernel, by decide +kernel⟩, ⟨_, _, rfl⟩, by decide⟩
noncomputable def f_X12_isBarred_24 (n : Nat)  (s0 : Int) (h : MM) : RR :=
  ck (isb s0) <|
  some (s0, h)
noncomputable def f_X12_isBarred (n : Nat) (v0 v1 v2 : Int) (h : MM) : RR :=
  gf h v0 12 1 fun r1 =>
  rd h r1 100 (wr ((wr (1100 + (wr (60 * v1)))) + v2)) fun r2 =>
  if r2 = 1 then
    f_X12_isBarred_24 n 1 h
  else
  f_X12_isBarred_24 n 0 h
set_option maxRecDepth 20000 in
theorem b_X12_isBarred_24 {g : GT} {Z : Int × MM} {n : Nat} (C : Cx g cX12_isBarred 3 yX12_isBarred 0 0) (hr : Rt g (some .boolean) 0 Z) {s0 : Int}    (cs0 : in32 s0) {h : MM} (hf : f_X12_isBarred_24 n  s0 h = some Z) : G g 24 [(3, 0), (3, 0), (3, 0)] [(0, s0)] h := by
  unfold f_X12_isBarred_24 at hf
  obtain ⟨b1, hf⟩ := ck_s hf
  cases hf
  exact r_zret C hr dX12_isBarred_24 b1
set_option maxRecDepth 20000 in
theorem e_X12_isBarred {g : GT} {Z : Int × MM} {n : Nat} (C : Cx g cX12_isBarred 3 yX12_isBarred 0 0) (hr : Rt g (some .boolean) 0 Z) {v0 v1 v2 : Int} (cv0 : cK 2 v0) (cv1 : cK 0 v1) (cv2 : cK 0 v2) {h : MM} (hf : f_X12_isBarred n v0 v1 v2 h = some Z) : G g 0 [(2, v0), (0, v1), (0, v2)] [] h := by
  have cv1 : in32 v1 := cv1
  have cv2 : in32 v2 := cv2
  unfold f_X12_isBarred at hf
  refine r_aload_n C dX12_isBarred_0 rfl ?_
  obtain ⟨q1, hf⟩ := gf_s hf
  refine r_gf C ct12 (j := 1) (ji := 1) dX12_isBarred_1 q1 rfl rfl (by decide) w_1426 rfl (fun c1 => ?_)
  refine r_sipush C dX12_isBarred_4 rfl ?_
  refine r_bipush C dX12_isBarred_7 rfl ?_
  refine r_iload_n C dX12_isBarred_9 rfl ?_
  refine r_imul C dX12_isBarred_10 ?_
  refine r_iadd C dX12_isBarred_11 ?_
  refine r_iload_n C dX12_isBarred_12 rfl ?_
  refine r_iadd C dX12_isBarred_13 ?_
  obtain ⟨q2, hf⟩ := rd_s hf
  refine r_iald C dX12_isBarred_14 q2 rfl (fun c2 => ?_)
  refine r_iconst C dX12_isBarred_15 ?_
  refine r_icmp_ne C dX12_isBarred_16 (tgt := 23) (by decide) c2 (in32_of rfl) (fun n3 => ?_) (fun n3 => ?_)
  · have hf := ite_n n3 hf
    refine r_iconst C dX12_isBarred_23 ?_
    exact G.mask [false, false, false] rfl rfl (b_X12_isBarred_24 C hr  (in32_of rfl) hf)
  · have hf := ite_p n3 hf
    refine r_iconst C dX12_isBarred_19 ?_
    refine r_goto C dX12_isBarred_20 (tgt := 24) (by decide) ?_
    exact G.mask [false, false, false] rfl rfl (b_X12_isBarred_24 C hr  (in32_of rfl) hf)
set_option maxRecDepth 20000 in
theorem am_X12_isBarred (l : Launch) (n : Nat) : AM l yX12_isBarred cX12_isBarred 3 (some .boolean) 0 0 [2, 0, 0] 0 (un3 (f_X12_isBarred n)) := by
  refine AM.intro (by decide) (fun xs hx => ?_) (fun g xs h Z hl C hr hx hf => ?_)
  · obtain ⟨a0, a1, a2, rfl, c0, c1, c2⟩ := canL_3 hx
    exact Nat.le_of_ble_eq_true rfl
  · obtain ⟨a0, a1, a2, rfl, c0, c1, c2⟩ := canL_3 hx
    have hf := (un3_e _ a0 a1 a2 _).symm.trans hf
    exact e_X12_isBarred (n := n) C hr c0 c1 c2 hf
/-! LinesPromisedModel.bar(II)I -/
theorem dX12_bar_0 : decode cX12_bar 0 = .ok (.aload_n 0, 1) := by decide +kernel
theorem dX12_bar_1 : decode cX12_bar 1 = .ok (.iload_n 1, 1) := by decide +kernel
theorem dX12_bar_2 : decode cX12_bar 2 = .ok (.iconst 3, 1) := by decide +kernel
theorem dX12_bar_3 : decode cX12_bar 3 = .ok (.invokevirtual 165, 3) := by decide +kernel
theorem dX12_bar_6 : decode cX12_bar 6 = .ok (.ifCond .eq 12, 3) := by decide +kernel
theorem dX12_bar_9 : decode cX12_bar 9 = .ok (.aload_n 0, 1) := by decide +kernel
theorem dX12_bar_10 : decode cX12_bar 10 = .ok (.iload_n 2, 1) := by decide +kernel
theorem dX12_bar_11 : decode cX12_bar 11 = .ok (.iconst 3, 1) := by decide +kernel
theorem dX12_bar_12 : decode cX12_bar 12 = .ok (.invokevirtual 165, 3) := by decide +kernel
theorem dX12_bar_15 : decode cX12_bar 15 = .ok (.ifCond .ne 5, 3) := by decide +kernel
theorem dX12_bar_18 : decode cX12_bar 18 = .ok (.iconst (-1), 1) := by decide +kernel
theorem dX12_bar_19 : decode cX12_bar 19 = .ok (.ireturn, 1) := by decide +kernel
theorem dX12_bar_20 : decode cX12_bar 20 = .ok (.iload_n 1, 1) := by decide +kernel
theorem dX12_bar_21 : decode cX12_bar 21 = .ok (.iload_n 2, 1) := by decide +kernel
theorem dX12_bar_22 : decode cX12_bar 22 = .ok (.if_icmp .ne 6, 3) := by decide +kernel
theorem dX12_bar_25 : decode cX12_bar 25 = .ok (.bipush (-2), 2) := by decide +kernel
theorem dX12_bar_27 : decode cX12_bar 27 = .ok (.ireturn, 1) := by decide +kernel
theorem dX12_bar_28 : decode cX12_bar 28 = .ok (.aload_n 0, 1) := by decide +kernel
theorem dX12_bar_29 : decode cX12_bar 29 = .ok (.iload_n 1, 1) := by decide +kernel
theorem dX12_bar_30 : decode cX12_bar 30 = .ok (.iload_n 2, 1) := by decide +kernel
theorem dX12_bar_31 : decode cX12_bar 31 = .ok (.invokevirtual 216, 3) := by decide +kernel
theorem dX12_bar_34 : decode cX12_bar 34 = .ok (.ifCond .eq 7, 3) := by decide +kernel
theorem dX12_bar_37 : decode cX12_bar 37 = .ok (.iconst 0, 1) := by decide +kernel
theorem dX12_bar_38 : decode cX12_bar 38 = .ok (.goto 4, 3) := by decide +kernel
theorem dX12_bar_41 : decode cX12_bar 41 = .ok (.iconst 1, 1) := by decide +kernel
theorem dX12_bar_42 : decode cX12_bar 42 = .ok (.istore_n 3, 1) := by decide +kernel
theorem dX12_bar_43 : decode cX12_bar 43 = .ok (.aload_n 0, 1) := by decide +kernel
theorem dX12_bar_44 : decode cX12_bar 44 = .ok (.getfield 8, 3) := by decide +kernel
theorem dX12_bar_47 : decode cX12_bar 47 = .ok (.sipush 1100, 3) := by decide +kernel
theorem dX12_bar_50 : decode cX12_bar 50 = .ok (.bipush 60, 2) := by decide +kernel
theorem dX12_bar_52 : decode cX12_bar 52 = .ok (.iload_n 1, 1) := by decide +kernel
theorem dX12_bar_53 : decode cX12_bar 53 = .ok (.imul, 1) := by decide +kernel
theorem dX12_bar_54 : decode cX12_bar 54 = .ok (.iadd, 1) := by decide +kernel
theorem dX12_bar_55 : decode cX12_bar 55 = .ok (.iload_n 2, 1) := by decide +kernel
theorem dX12_bar_56 : decode cX12_bar 56 = .ok (.iadd, 1) := by decide +kernel
theorem dX12_bar_57 : decode cX12_bar 57 = .ok (.iconst 1, 1) := by decide +kernel
theorem dX12_bar_58 : decode cX12_bar 58 = .ok (.iastore, 1) := by decide +kernel
theorem dX12_bar_59 : decode cX12_bar 59 = .ok (.aload_n 0, 1) := by decide +kernel
theorem dX12_bar_60 : decode cX12_bar 60 = .ok (.getfield 8, 3) := by decide +kernel
theorem dX12_bar_63 : decode cX12_bar 63 = .ok (.sipush 1100, 3) := by decide +kernel
theorem dX12_bar_66 : decode cX12_bar 66 = .ok (.bipush 60, 2) := by decide +kernel
theorem dX12_bar_68 : decode cX12_bar 68 = .ok (.iload_n 2, 1) := by decide +kernel
theorem dX12_bar_69 : decode cX12_bar 69 = .ok (.imul, 1) := by decide +kernel
theorem dX12_bar_70 : decode cX12_bar 70 = .ok (.iadd, 1) := by decide +kernel
theorem dX12_bar_71 : decode cX12_bar 71 = .ok (.iload_n 1, 1) := by decide +kernel
theorem dX12_bar_72 : decode cX12_bar 72 = .ok (.iadd, 1) := by decide +kernel
theorem dX12_bar_73 : decode cX12_bar 73 = .ok (.iconst 1, 1) := by decide +kernel
theorem dX12_bar_74 : decode cX12_bar 74 = .ok (.iastore, 1) := by decide +kernel
theorem dX12_bar_75 : decode cX12_bar 75 = .ok (.iload_n 3, 1) := by decide +kernel
theorem dX12_bar_76 : decode cX12_bar 76 = .ok (.ireturn, 1) := by decide +kernel
theorem cm_X12_bar : CM yX12_bar cX12_bar 4 (some .int) 2 12 := ⟨w_1707, w_1708, w_1709, w_97, ⟨by decide +kernel, by decide +kernel, by decide +kernel⟩, ⟨_, _, rfl⟩, by decide⟩
noncomputable def f_X12_bar_18 (n : Nat)  (h : MM) : RR :=
  some ((-1), h)
noncomputable def f_X12_bar_42 (n : Nat)  (v0 v1 v2 s0 : Int) (h : MM) : RR :=
  gf h v0 12 1 fun r1 =>
  wt h r1 100 (wr ((wr (1100 + (wr (60 * v1)))) + v2)) 1 fun h2 =>
  gf h2 v0 12 1 fun r3 =>
  wt h2 r3 100 (wr ((wr (1100 + (wr (60 * v2)))) + v1)) 1 fun h4 =>
  some (s0, h4)
noncomputable def f_X12_bar (n : Nat) (v0 v1 v2 : Int) (h : MM) : RR :=
  gk h v0 12 <|
  bd (f_X12_isOf n v0 v1 3 h) fun r1 h1 =>
  if r1 = 0 then
    f_X12_bar_18 n h1
  else
  gk h1 v0 12 <|
  bd (f_X12_isOf n v0 v2 3 h1) fun r3 h3 =>
  if r3 = 0 then
    f_X12_bar_18 n h3
  else
  if v1 = v2 then
    some ((-2), h3)
  else
  gk h3 v0 12 <|
  bd (f_X12_isBarred n v0 v1 v2 h3) fun r6 h6 =>
  if r6 = 0 then
    f_X12_bar_42 n v0 v1 v2 1 h6
  else
  f_X12_bar_42 n v0 v1 v2 0 h6
set_option maxRecDepth 20000 in
theorem b_X12_bar_18 {g : GT} {Z : Int × MM} {n : Nat} (C : Cx g cX12_bar 4 yX12_bar 3 65) (hr : Rt g (some .int) 0 Z)     {h : MM} (hf : f_X12_bar_18 n   h = some Z) : G g 18 [(3, 0), (3, 0), (3, 0), (3, 0)] [] h := by
  unfold f_X12_bar_18 at hf
  refine r_iconst C dX12_bar_18 ?_
  cases hf
  exact r_jret C hr dX12_bar_19 (in32_of rfl)
set_option maxRecDepth 20000 in
theorem b_X12_bar_42 {g : GT} {Z : Int × MM} {n : Nat} (C : Cx g cX12_bar 4 yX12_bar 3 65) (hr : Rt g (some .int) 0 Z) {v0 v1 v2 s0 : Int}    (cv1 : in32 v1) (cv2 : in32 v2) (cs0 : in32 s0) {h : MM} (hf : f_X12_bar_42 n  v0 v1 v2 s0 h = some Z) : G g 42 [(2, v0), (0, v1), (0, v2), (3, 0)] [(0, s0)] h := by
  unfold f_X12_bar_42 at hf
  refine r_istore_n C dX12_bar_42 (Nat.le_of_ble_eq_true rfl) rfl ?_
  refine r_aload_n C dX12_bar_43 rfl ?_
  obtain ⟨q1, hf⟩ := gf_s hf
  refine r_gf C ct12 (j := 1) (ji := 1) dX12_bar_44 q1 rfl rfl (by decide) w_1426 rfl (fun c1 => ?_)
  refine r_sipush C dX12_bar_47 rfl ?_
  refine r_bipush C dX12_bar_50 rfl ?_
  refine r_iload_n C dX12_bar_52 rfl ?_
  refine r_imul C dX12_bar_53 ?_
  refine r_iadd C dX12_bar_54 ?_
  refine r_iload_n C dX12_bar_55 rfl ?_
  refine r_iadd C dX12_bar_56 ?_
  refine r_iconst C dX12_bar_57 ?_
  obtain ⟨q2, hf⟩ := wt_s hf
  refine r_iast C dX12_bar_58 q2 rfl (in32_of rfl) ?_
  refine r_aload_n C dX12_bar_59 rfl ?_
  obtain ⟨q3, hf⟩ := gf_s hf
  refine r_gf C ct12 (j := 1) (ji := 1) dX12_bar_60 q3 rfl rfl (by decide) w_1426 rfl (fun c3 => ?_)
  refine r_sipush C dX12_bar_63 rfl ?_
  refine r_bipush C dX12_bar_66 rfl ?_
  refine r_iload_n C dX12_bar_68 rfl ?_
  refine r_imul C dX12_bar_69 ?_
  refine r_iadd C dX12_bar_70 ?_
  refine r_iload_n C dX12_bar_71 rfl ?_
  refine r_iadd C dX12_bar_72 ?_
  refine r_iconst C dX12_bar_73 ?_
  obtain ⟨q4, hf⟩ := wt_s hf
  refine r_iast C dX12_bar_74 q4 rfl (in32_of rfl) ?_
  refine r_iload_n C dX12_bar_75 rfl ?_
  cases hf
  exact r_jret C hr dX12_bar_76 cs0
set_option maxRecDepth 20000 in
theorem e_X12_bar {g : GT} {Z : Int × MM} {n : Nat} (C : Cx g cX12_bar 4 yX12_bar 3 65) (hr : Rt g (some .int) 0 Z) {v0 v1 v2 : Int} (cv0 : cK 2 v0) (cv1 : cK 0 v1) (cv2 : cK 0 v2) {h : MM} (hf : f_X12_bar n v0 v1 v2 h = some Z) : G g 0 [(2, v0), (0, v1), (0, v2), (3, 0)] [] h := by
  have cv1 : in32 v1 := cv1
  have cv2 : in32 v2 := cv2
  unfold f_X12_bar at hf
  refine r_aload_n C dX12_bar_0 rfl ?_
  refine r_iload_n C dX12_bar_1 rfl ?_
  refine r_iconst C dX12_bar_2 ?_
  obtain ⟨p1, hf⟩ := gk_s hf
  obtain ⟨r1, h1, hq1, hf⟩ := bd_s hf
  refine r_cV2 C (am_X12_isOf (gl g) n) cm_X12_isOf w_1607 dX12_bar_3 ⟨Nat.le_of_ble_eq_true rfl, Nat.le_of_ble_eq_true rfl⟩ p1 rfl cv1 (in32_of rfl) rfl (Nat.le_of_ble_eq_true rfl) hq1 (by decide) (fun c1 => ?_)
  have c1 : in32 _ := c1
  refine r_if_eq C dX12_bar_6 (tgt := 18) (by decide) c1 (fun n2 => ?_) (fun n2 => ?_)
  · have hf := ite_p n2 hf
    exact G.mask [false, false, false, false] rfl rfl (b_X12_bar_18 C hr   hf)
  · have hf := ite_n n2 hf
    refine r_aload_n C dX12_bar_9 rfl ?_
    refine r_iload_n C dX12_bar_10 rfl ?_
    refine r_iconst C dX12_bar_11 ?_
    obtain ⟨p3, hf⟩ := gk_s hf
    obtain ⟨r3, h3, hq3, hf⟩ := bd_s hf
    refine r_cV2 C (am_X12_isOf (gl g) n) cm_X12_isOf w_1607 dX12_bar_12 ⟨Nat.le_of_ble_eq_true rfl, Nat.le_of_ble_eq_true rfl⟩ p3 rfl cv2 (in32_of rfl) rfl (Nat.le_of_ble_eq_true rfl) hq3 (by decide) (fun c3 => ?_)
    have c3 : in32 _ := c3
    refine r_if_ne C dX12_bar_15 (tgt := 20) (by decide) c3 (fun n4 => ?_) (fun n4 => ?_)
    · have hf := ite_n n4 hf
      refine r_iload_n C dX12_bar_20 rfl ?_
      refine r_iload_n C dX12_bar_21 rfl ?_
      refine r_icmp_ne C dX12_bar_22 (tgt := 28) (by decide) cv1 cv2 (fun n5 => ?_) (fun n5 => ?_)
      · have hf := ite_n n5 hf
        refine r_aload_n C dX12_bar_28 rfl ?_
        refine r_iload_n C dX12_bar_29 rfl ?_
        refine r_iload_n C dX12_bar_30 rfl ?_
        obtain ⟨p6, hf⟩ := gk_s hf
        obtain ⟨r6, h6, hq6, hf⟩ := bd_s hf
        refine r_cV2 C (am_X12_isBarred (gl g) n) cm_X12_isBarred w_1710 dX12_bar_31 ⟨Nat.le_of_ble_eq_true rfl, Nat.le_of_ble_eq_true rfl⟩ p6 rfl cv1 cv2 rfl (Nat.le_of_ble_eq_true rfl) hq6 (by decide) (fun c6 => ?_)
        have c6 : in32 _ := c6
        refine r_if_eq C dX12_bar_34 (tgt := 41) (by decide) c6 (fun n7 => ?_) (fun n7 => ?_)
        · have hf := ite_p n7 hf
          refine r_iconst C dX12_bar_41 ?_
          exact G.mask [true, true, true, false] rfl rfl (b_X12_bar_42 C hr  cv1 cv2 (in32_of rfl) hf)
        · have hf := ite_n n7 hf
          refine r_iconst C dX12_bar_37 ?_
          refine r_goto C dX12_bar_38 (tgt := 42) (by decide) ?_
          exact G.mask [true, true, true, false] rfl rfl (b_X12_bar_42 C hr  cv1 cv2 (in32_of rfl) hf)
      · have hf := ite_p n5 hf
        refine r_bipush C dX12_bar_25 rfl ?_
        cases hf
        exact r_jret C hr dX12_bar_27 (in32_of rfl)
    · have hf := ite_p n4 hf
      exact G.mask [false, false, false, false] rfl rfl (b_X12_bar_18 C hr   hf)
set_option maxRecDepth 20000 in
theorem am_X12_bar (l : Launch) (n : Nat) : AM l yX12_bar cX12_bar 4 (some .int) 3 65 [2, 0, 0] 0 (un3 (f_X12_bar n)) := by
  refine AM.intro (by decide) (fun xs hx => ?_) (fun g xs h Z hl C hr hx hf => ?_)
  · obtain ⟨a0, a1, a2, rfl, c0, c1, c2⟩ := canL_3 hx
    exact Nat.le_of_ble_eq_true rfl
  · obtain ⟨a0, a1, a2, rfl, c0, c1, c2⟩ := canL_3 hx
    have hf := (un3_e _ a0 a1 a2 _).symm.trans hf
    exact e_X12_bar (n := n) C hr c0 c1 c2 hf
/-! LinesPromisedModel.isGranted(I)Z -/
theorem dX12_isGranted_0 : decode cX12_isGranted 0 = .ok (.aload_n 0, 1) := by decide +kernel
theorem dX12_isGranted_1 : decode cX12_isGranted 1 = .ok (.getfield 8, 3) := by decide +kernel
theorem dX12_isGranted_4 : decode cX12_isGranted 4 = .ok (.sipush 370, 3) := by decide +kernel
theorem dX12_isGranted_7 : decode cX12_isGranted 7 = .ok (.iload_n 1, 1) := by decide +kernel
theorem dX12_isGranted_8 : decode cX12_isGranted 8 = .ok (.iadd, 1) := by decide +kernel
theorem dX12_isGranted_9 : decode cX12_isGranted 9 = .ok (.iaload, 1) := by decide +kernel
theorem dX12_isGranted_10 : decode cX12_isGranted 10 = .ok (.iconst 3, 1) := by decide +kernel
theorem dX12_isGranted_11 : decode cX12_isGranted 11 = .ok (.if_icmp .ne 21, 3) := by decide +kernel
theorem dX12_isGranted_14 : decode cX12_isGranted 14 = .ok (.aload_n 0, 1) := by decide +kernel
theorem dX12_isGranted_15 : decode cX12_isGranted 15 = .ok (.getfield 8, 3) := by decide +kernel
theorem dX12_isGranted_18 : decode cX12_isGranted 18 = .ok (.sipush 790, 3) := by decide +kernel
theorem dX12_isGranted_21 : decode cX12_isGranted 21 = .ok (.iload_n 1, 1) := by decide +kernel
theorem dX12_isGranted_22 : decode cX12_isGranted 22 = .ok (.iadd, 1) := by decide +kernel
theorem dX12_isGranted_23 : decode cX12_isGranted 23 = .ok (.iaload, 1) := by decide +kernel
theorem dX12_isGranted_24 : decode cX12_isGranted 24 = .ok (.iconst 1, 1) := by decide +kernel
theorem dX12_isGranted_25 : decode cX12_isGranted 25 = .ok (.if_icmp .ne 7, 3) := by decide +kernel
theorem dX12_isGranted_28 : decode cX12_isGranted 28 = .ok (.iconst 1, 1) := by decide +kernel
theorem dX12_isGranted_29 : decode cX12_isGranted 29 = .ok (.goto 4, 3) := by decide +kernel
theorem dX12_isGranted_32 : decode cX12_isGranted 32 = .ok (.iconst 0, 1) := by decide +kernel
theorem dX12_isGranted_33 : decode cX12_isGranted 33 = .ok (.ireturn, 1) := by decide +kernel
theorem cm_X12_isGranted : CM yX12_isGranted cX12_isGranted 2 (some .boolean) 1 12 := ⟨w_1720, w_71, w_1721, w_97, ⟨by decide +kernel, by decide +kernel, by decide +kernel⟩, ⟨_, _, rfl⟩, by decide⟩
noncomputable def f_X12_isGranted_33 (n : Nat)  (s0 : Int) (h : MM) : RR :=
  ck (isb s0) <|
  some (s0, h)
noncomputable def f_X12_isGranted_32 (n : Nat)  (h : MM) : RR :=
  f_X12_isGranted_33 n 0 h
noncomputable def f_X12_isGranted (n : Nat) (v0 v1 : Int) (h : MM) : RR :=
  gf h v0 12 1 fun r1 =>
  rd h r1 100 (wr (370 + v1)) fun r2 =>
  if r2 = 3 then
    gf h v0 12 1 fun r4 =>
    rd h r4 100 (wr (790 + v1)) fun r5 =>
    if r5 = 1 then
      f_X12_isGranted_33 n 1 h
    else
    f_X12_isGranted_32 n h
  else
  f_X12_isGranted_32 n h
set_option maxRecDepth 20000 in
theorem b_X12_isGranted_33 {g : GT} {Z : Int × MM} {n : Nat} (C : Cx g cX12_isGranted 2 yX12_isGranted 0 0) (hr : Rt g (some .boolean) 0 Z) {s0 : Int}    (cs0 : in32 s0) {h : MM} (hf : f_X12_isGranted_33 n  s0 h = some Z) : G g 33 [(3, 0), (3, 0)] [(0, s0)] h := by
  unfold f_X12_isGranted_33 at hf
  obtain ⟨b1, hf⟩ := ck_s hf
  cases hf
  exact r_zret C hr dX12_isGranted_33 b1
set_option maxRecDepth 20000 in
theorem b_X12_isGranted_32 {g : GT} {Z : Int × MM} {n : Nat} (C : Cx g cX12_isGranted 2 yX12_isGranted 0 0) (hr : Rt g (some .boolean) 0 Z)     {h : MM} (hf : f_X12_isGranted_32 n   h = some Z) : G g 32 [(3, 0), (3, 0)] [] h := by
  unfold f_X12_isGranted_32 at hf
  refine r_iconst C dX12_isGranted_32 ?_
  exact G.mask [false, false] rfl rfl (b_X12_isGranted_33 C hr  (in32_of rfl) hf)
set_option maxRecDepth 20000 in
theorem e_X12_isGranted {g : GT} {Z : Int × MM} {n : Nat} (C : Cx g cX12_isGranted 2 yX12_isGranted 0 0) (hr : Rt g (some .boolean) 0 Z) {v0 v1 : Int} (cv0 : cK 2 v0) (cv1 : cK 0 v1) {h : MM} (hf : f_X12_isGranted n v0 v1 h = some Z) : G g 0 [(2, v0), (0, v1)] [] h := by
  have cv1 : in32 v1 := cv1
  unfold f_X12_isGranted at hf
  refine r_aload_n C dX12_isGranted_0 rfl ?_
  obtain ⟨q1, hf⟩ := gf_s hf
  refine r_gf C ct12 (j := 1) (ji := 1) dX12_isGranted_1 q1 rfl rfl (by decide) w_1426 rfl (fun c1 => ?_)
  refine r_sipush C dX12_isGranted_4 rfl ?_
  refine r_iload_n C dX12_isGranted_7 rfl ?_
  refine r_iadd C dX12_isGranted_8 ?_
  obtain ⟨q2, hf⟩ := rd_s hf
  refine r_iald C dX12_isGranted_9 q2 rfl (fun c2 => ?_)
  refine r_iconst C dX12_isGranted_10 ?_
  refine r_icmp_ne C dX12_isGranted_11 (tgt := 32) (by decide) c2 (in32_of rfl) (fun n3 => ?_) (fun n3 => ?_)
  · have hf := ite_n n3 hf
    exact G.mask [false, false] rfl rfl (b_X12_isGranted_32 C hr   hf)
  · have hf := ite_p n3 hf
    refine r_aload_n C dX12_isGranted_14 rfl ?_
    obtain ⟨q4, hf⟩ := gf_s hf
    refine r_gf C ct12 (j := 1) (ji := 1) dX12_isGranted_15 q4 rfl rfl (by decide) w_1426 rfl (fun c4 => ?_)
    refine r_sipush C dX12_isGranted_18 rfl ?_
    refine r_iload_n C dX12_isGranted_21 rfl ?_
    refine r_iadd C dX12_isGranted_22 ?_
    obtain ⟨q5, hf⟩ := rd_s hf
    refine r_iald C dX12_isGranted_23 q5 rfl (fun c5 => ?_)
    refine r_iconst C dX12_isGranted_24 ?_
    refine r_icmp_ne C dX12_isGranted_25 (tgt := 32) (by decide) c5 (in32_of rfl) (fun n6 => ?_) (fun n6 => ?_)
    · have hf := ite_n n6 hf
      exact G.mask [false, false] rfl rfl (b_X12_isGranted_32 C hr   hf)
    · have hf := ite_p n6 hf
      refine r_iconst C dX12_isGranted_28 ?_
      refine r_goto C dX12_isGranted_29 (tgt := 33) (by decide) ?_
      exact G.mask [false, false] rfl rfl (b_X12_isGranted_33 C hr  (in32_of rfl) hf)
set_option maxRecDepth 20000 in
theorem am_X12_isGranted (l : Launch) (n : Nat) : AM l yX12_isGranted cX12_isGranted 2 (some .boolean) 0 0 [2, 0] 0 (un2 (f_X12_isGranted n)) := by
  refine AM.intro (by decide) (fun xs hx => ?_) (fun g xs h Z hl C hr hx hf => ?_)
  · obtain ⟨a0, a1, rfl, c0, c1⟩ := canL_2 hx
    exact Nat.le_of_ble_eq_true rfl
  · obtain ⟨a0, a1, rfl, c0, c1⟩ := canL_2 hx
    have hf := (un2_e _ a0 a1 _).symm.trans hf
    exact e_X12_isGranted (n := n) C hr c0 c1 hf
/-! LinesPromisedModel.granted()I -/
theorem dX12_granted_0 : decode cX12_granted 0 = .ok (.iconst 0, 1) := by decide +kernel
theorem dX12_granted_1 : decode cX12_granted 1 = .ok (.istore_n 1, 1) := by decide +kernel
theorem dX12_granted_2 : decode cX12_granted 2 = .ok (.iconst 0, 1) := by decide +kernel
theorem dX12_granted_3 : decode cX12_granted 3 = .ok (.istore_n 2, 1) := by decide +kernel
theorem dX12_granted_4 : decode cX12_granted 4 = .ok (.iload_n 2, 1) := by decide +kernel
theorem dX12_granted_5 : decode cX12_granted 5 = .ok (.aload_n 0, 1) := by decide +kernel
theorem dX12_granted_6 : decode cX12_granted 6 = .ok (.getfield 8, 3) := by decide +kernel
theorem dX12_granted_9 : decode cX12_granted 9 = .ok (.iconst 2, 1) := by decide +kernel
theorem dX12_granted_10 : decode cX12_granted 10 = .ok (.iaload, 1) := by decide +kernel
theorem dX12_granted_11 : decode cX12_granted 11 = .ok (.if_icmp .ge 25, 3) := by decide +kernel
theorem dX12_granted_14 : decode cX12_granted 14 = .ok (.iload_n 1, 1) := by decide +kernel
theorem dX12_granted_15 : decode cX12_granted 15 = .ok (.aload_n 0, 1) := by decide +kernel
theorem dX12_granted_16 : decode cX12_granted 16 = .ok (.iload_n 2, 1) := by decide +kernel
theorem dX12_granted_17 : decode cX12_granted 17 = .ok (.invokevirtual 219, 3) := by decide +kernel
theorem dX12_granted_20 : decode cX12_granted 20 = .ok (.ifCond .eq 7, 3) := by decide +kernel
theorem dX12_granted_23 : decode cX12_granted 23 = .ok (.iconst 1, 1) := by decide +kernel
theorem dX12_granted_24 : decode cX12_granted 24 = .ok (.goto 4, 3) := by decide +kernel
theorem dX12_granted_27 : decode cX12_granted 27 = .ok (.iconst 0, 1) := by decide +kernel
theorem dX12_granted_28 : decode cX12_granted 28 = .ok (.iadd, 1) := by decide +kernel
theorem dX12_granted_29 : decode cX12_granted 29 = .ok (.istore_n 1, 1) := by decide +kernel
theorem dX12_granted_30 : decode cX12_granted 30 = .ok (.iinc 2 1, 3) := by decide +kernel
theorem dX12_granted_33 : decode cX12_granted 33 = .ok (.goto (-29), 3) := by decide +kernel
theorem dX12_granted_36 : decode cX12_granted 36 = .ok (.iload_n 1, 1) := by decide +kernel
theorem dX12_granted_37 : decode cX12_granted 37 = .ok (.ireturn, 1) := by decide +kernel
theorem cm_X12_granted : CM yX12_granted cX12_granted 3 (some .int) 0 12 := ⟨w_1724, w_72, w_1725, w_97, ⟨by decide +kernel, by decide +kernel, by decide +kernel⟩, ⟨_, _, rfl⟩, by decide⟩
noncomputable def f_X12_granted_28 (n : Nat) (rec4 : Int → Int → MM → RR) (v0 v2 s0 s1 : Int) (h : MM) : RR :=
  lb (wr (s0 + s1)) fun x1 =>
  lb (wr (v2 + 1)) fun x2 =>
  rec4 x1 x2 h
noncomputable def f_X12_granted_4b (n : Nat) (rec4 : Int → Int → MM → RR) (v0 v1 v2 : Int) (h : MM) : RR :=
  gf h v0 12 1 fun r1 =>
  rd h r1 100 2 fun r2 =>
  if r2 ≤ v2 then
    some (v1, h)
  else
  gk h v0 12 <|
  bd (f_X12_isGranted n v0 v2 h) fun r4 h4 =>
  if r4 = 0 then
    f_X12_granted_28 n rec4 v0 v2 v1 0 h4
  else
  f_X12_granted_28 n rec4 v0 v2 v1 1 h4
noncomputable def f_X12_granted_4 (n : Nat)  (v0 : Int) : Nat → Int → Int → MM → RR
  | 0, _, _, _ => none
  | k + 1, v1, v2, h => f_X12_granted_4b n  (f_X12_granted_4 n  v0 k) v0 v1 v2 h
noncomputable def f_X12_granted (n : Nat) (v0 : Int) (h : MM) : RR :=
  f_X12_granted_4 n v0 n 0 0 h
set_option maxRecDepth 20000 in
theorem b_X12_granted_28 {g : GT} {Z : Int × MM} {n : Nat} (C : Cx g cX12_granted 3 yX12_granted 1 21) (hr : Rt g (some .int) 0 Z) {v0 v2 s0 s1 : Int}  {rec4 : Int → Int → MM → RR} (L4 : ∀ (u1 u2 : Int) (h : MM), in32 u1 → in32 u2 → rec4 u1 u2 h = some Z → G g 4 [(2, v0), (0, u1), (0, u2)] [] h) (cv2 : in32 v2) (cs0 : in32 s0) (cs1 : in32 s1) {h : MM} (hf : f_X12_granted_28 n rec4 v0 v2 s0 s1 h = some Z) : G g 28 [(2, v0), (3, 0), (0, v2)] [(0, s1), (0, s0)] h := by
  unfold f_X12_granted_28 at hf
  refine r_iadd C dX12_granted_28 ?_
  obtain ⟨x1, e1, hf⟩ := lb_s hf
  have c1 : in32 x1 := by rw [e1]; exact (in32_t _)
  refine r_istore_nL C dX12_granted_29 e1 (Nat.le_of_ble_eq_true rfl) rfl ?_
  obtain ⟨x2, e2, hf⟩ := lb_s hf
  have c2 : in32 x2 := by rw [e2]; exact (in32_t _)
  refine r_iincL C dX12_granted_30 rfl e2 (Nat.le_of_ble_eq_true rfl) rfl ?_
  refine r_goto C dX12_granted_33 (tgt := 4) (by decide) ?_
  exact G.mask [true, true, true] rfl rfl (L4 _ _ _ c1 c2 hf)
set_option maxRecDepth 20000 in
theorem b_X12_granted_4b {g : GT} {Z : Int × MM} {n : Nat} (C : Cx g cX12_granted 3 yX12_granted 1 21) (hr : Rt g (some .int) 0 Z) {v0 v1 v2 : Int}  {rec4 : Int → Int → MM → RR} (L4 : ∀ (u1 u2 : Int) (h : MM), in32 u1 → in32 u2 → rec4 u1 u2 h = some Z → G g 4 [(2, v0), (0, u1), (0, u2)] [] h) (cv1 : in32 v1) (cv2 : in32 v2) {h : MM} (hf : f_X12_granted_4b n rec4 v0 v1 v2 h = some Z) : G g 4 [(2, v0), (0, v1), (0, v2)] [] h := by
  unfold f_X12_granted_4b at hf
  refine r_iload_n C dX12_granted_4 rfl ?_
  refine r_aload_n C dX12_granted_5 rfl ?_
  obtain ⟨q1, hf⟩ := gf_s hf
  refine r_gf C ct12 (j := 1) (ji := 1) dX12_granted_6 q1 rfl rfl (by decide) w_1426 rfl (fun c1 => ?_)
  refine r_iconst C dX12_granted_9 ?_
  obtain ⟨q2, hf⟩ := rd_s hf
  refine r_iald C dX12_granted_10 q2 rfl (fun c2 => ?_)
  refine r_icmp_ge C dX12_granted_11 (tgt := 36) (by decide) cv2 c2 (fun n3 => ?_) (fun n3 => ?_)
  · have hf := ite_p n3 hf
    refine r_iload_n C dX12_granted_36 rfl ?_
    cases hf
    exact r_jret C hr dX12_granted_37 cv1
  · have hf := ite_n n3 hf
    refine r_iload_n C dX12_granted_14 rfl ?_
    refine r_aload_n C dX12_granted_15 rfl ?_
    refine r_iload_n C dX12_granted_16 rfl ?_
    obtain ⟨p4, hf⟩ := gk_s hf
    obtain ⟨r4, h4, hq4, hf⟩ := bd_s hf
    refine r_cV1 C (am_X12_isGranted (gl g) n) cm_X12_isGranted w_1718 dX12_granted_17 ⟨Nat.le_of_ble_eq_true rfl, Nat.le_of_ble_eq_true rfl⟩ p4 rfl cv2 rfl (Nat.le_of_ble_eq_true rfl) hq4 (by decide) (fun c4 => ?_)
    have c4 : in32 _ := c4
    refine r_if_eq C dX12_granted_20 (tgt := 27) (by decide) c4 (fun n5 => ?_) (fun n5 => ?_)
    · have hf := ite_p n5 hf
      refine r_iconst C dX12_granted_27 ?_
      exact G.mask [true, false, true] rfl rfl (b_X12_granted_28 C hr L4 cv2 cv1 (in32_of rfl) hf)
    · have hf := ite_n n5 hf
      refine r_iconst C dX12_granted_23 ?_
      refine r_goto C dX12_granted_24 (tgt := 28) (by decide) ?_
      exact G.mask [true, false, true] rfl rfl (b_X12_granted_28 C hr L4 cv2 cv1 (in32_of rfl) hf)
set_option maxRecDepth 20000 in
theorem l_X12_granted_4 {g : GT} {Z : Int × MM} {n : Nat} (C : Cx g cX12_granted 3 yX12_granted 1 21) (hr : Rt g (some .int) 0 Z) {v0 : Int}    : ∀ (k : Nat) (v1 v2 : Int) (h : MM), in32 v1 → in32 v2 → f_X12_granted_4 n  v0 k v1 v2 h = some Z → G g 4 [(2, v0), (0, v1), (0, v2)] [] h := by
  intro k
  induction k with
  | zero => intro v1 v2 h cv1 cv2 hf; exact absurd hf (by intro z; cases z)
  | succ k ih => intro v1 v2 h cv1 cv2 hf; exact b_X12_granted_4b C hr (rec4 := f_X12_granted_4 n  v0 k)  ih cv1 cv2 (show f_X12_granted_4b n  (f_X12_granted_4 n  v0 k) v0 v1 v2 h = some Z from hf)
set_option maxRecDepth 20000 in
theorem e_X12_granted {g : GT} {Z : Int × MM} {n : Nat} (C : Cx g cX12_granted 3 yX12_granted 1 21) (hr : Rt g (some .int) 0 Z) {v0 : Int} (cv0 : cK 2 v0) {h : MM} (hf : f_X12_granted n v0 h = some Z) : G g 0 [(2, v0), (3, 0), (3, 0)] [] h := by
  unfold f_X12_granted at hf
  refine r_iconst C dX12_granted_0 ?_
  refine r_istore_n C dX12_granted_1 (Nat.le_of_ble_eq_true rfl) rfl ?_
  refine r_iconst C dX12_granted_2 ?_
  refine r_istore_n C dX12_granted_3 (Nat.le_of_ble_eq_true rfl) rfl ?_
  exact G.mask [true, true, true] rfl rfl (l_X12_granted_4 C hr   _ _ _ _ (in32_of rfl) (in32_of rfl) hf)
set_option maxRecDepth 20000 in
theorem am_X12_granted (l : Launch) (n : Nat) : AM l yX12_granted cX12_granted 3 (some .int) 1 21 [2] 0 (un1 (f_X12_granted n)) := by
  refine AM.intro (by decide) (fun xs hx => ?_) (fun g xs h Z hl C hr hx hf => ?_)
  · obtain ⟨a0, rfl, c0⟩ := canL_1 hx
    exact Nat.le_of_ble_eq_true rfl
  · obtain ⟨a0, rfl, c0⟩ := canL_1 hx
    have hf := (un1_e _ a0 _).symm.trans hf
    exact e_X12_granted (n := n) C hr c0 hf
/-! LinesPromisedModel.grant(I)I -/
theorem dX12_grant_0 : decode cX12_grant 0 = .ok (.aload_n 0, 1) := by decide +kernel
theorem dX12_grant_1 : decode cX12_grant 1 = .ok (.iload_n 1, 1) := by decide +kernel
theorem dX12_grant_2 : decode cX12_grant 2 = .ok (.iconst 3, 1) := by decide +kernel
theorem dX12_grant_3 : decode cX12_grant 3 = .ok (.invokevirtual 165, 3) := by decide +kernel
theorem dX12_grant_6 : decode cX12_grant 6 = .ok (.ifCond .ne 5, 3) := by decide +kernel
theorem dX12_grant_9 : decode cX12_grant 9 = .ok (.iconst (-1), 1) := by decide +kernel
theorem dX12_grant_10 : decode cX12_grant 10 = .ok (.ireturn, 1) := by decide +kernel
theorem dX12_grant_11 : decode cX12_grant 11 = .ok (.aload_n 0, 1) := by decide +kernel
theorem dX12_grant_12 : decode cX12_grant 12 = .ok (.getfield 8, 3) := by decide +kernel
theorem dX12_grant_15 : decode cX12_grant 15 = .ok (.sipush 790, 3) := by decide +kernel
theorem dX12_grant_18 : decode cX12_grant 18 = .ok (.iload_n 1, 1) := by decide +kernel
theorem dX12_grant_19 : decode cX12_grant 19 = .ok (.iadd, 1) := by decide +kernel
theorem dX12_grant_20 : decode cX12_grant 20 = .ok (.iaload, 1) := by decide +kernel
theorem dX12_grant_21 : decode cX12_grant 21 = .ok (.ifCond .ne 21, 3) := by decide +kernel
theorem dX12_grant_24 : decode cX12_grant 24 = .ok (.aload_n 0, 1) := by decide +kernel
theorem dX12_grant_25 : decode cX12_grant 25 = .ok (.iload_n 1, 1) := by decide +kernel
theorem dX12_grant_26 : decode cX12_grant 26 = .ok (.aload_n 0, 1) := by decide +kernel
theorem dX12_grant_27 : decode cX12_grant 27 = .ok (.getfield 8, 3) := by decide +kernel
theorem dX12_grant_30 : decode cX12_grant 30 = .ok (.iconst 0, 1) := by decide +kernel
theorem dX12_grant_31 : decode cX12_grant 31 = .ok (.iaload, 1) := by decide +kernel
theorem dX12_grant_32 : decode cX12_grant 32 = .ok (.invokevirtual 213, 3) := by decide +kernel
theorem dX12_grant_35 : decode cX12_grant 35 = .ok (.ifCond .eq 7, 3) := by decide +kernel
theorem dX12_grant_38 : decode cX12_grant 38 = .ok (.iconst 1, 1) := by decide +kernel
theorem dX12_grant_39 : decode cX12_grant 39 = .ok (.goto 4, 3) := by decide +kernel
theorem dX12_grant_42 : decode cX12_grant 42 = .ok (.iconst 0, 1) := by decide +kernel
theorem dX12_grant_43 : decode cX12_grant 43 = .ok (.istore_n 2, 1) := by decide +kernel
theorem dX12_grant_44 : decode cX12_grant 44 = .ok (.iconst 0, 1) := by decide +kernel
theorem dX12_grant_45 : decode cX12_grant 45 = .ok (.istore_n 3, 1) := by decide +kernel
theorem dX12_grant_46 : decode cX12_grant 46 = .ok (.iload_n 3, 1) := by decide +kernel
theorem dX12_grant_47 : decode cX12_grant 47 = .ok (.aload_n 0, 1) := by decide +kernel
theorem dX12_grant_48 : decode cX12_grant 48 = .ok (.getfield 8, 3) := by decide +kernel
theorem dX12_grant_51 : decode cX12_grant 51 = .ok (.iconst 2, 1) := by decide +kernel
theorem dX12_grant_52 : decode cX12_grant 52 = .ok (.iaload, 1) := by decide +kernel
theorem dX12_grant_53 : decode cX12_grant 53 = .ok (.if_icmp .ge 36, 3) := by decide +kernel
theorem dX12_grant_56 : decode cX12_grant 56 = .ok (.iload_n 2, 1) := by decide +kernel
theorem dX12_grant_57 : decode cX12_grant 57 = .ok (.ifCond .eq 24, 3) := by decide +kernel
theorem dX12_grant_60 : decode cX12_grant 60 = .ok (.aload_n 0, 1) := by decide +kernel
theorem dX12_grant_61 : decode cX12_grant 61 = .ok (.iload_n 3, 1) := by decide +kernel
theorem dX12_grant_62 : decode cX12_grant 62 = .ok (.invokevirtual 219, 3) := by decide +kernel
theorem dX12_grant_65 : decode cX12_grant 65 = .ok (.ifCond .eq 12, 3) := by decide +kernel
theorem dX12_grant_68 : decode cX12_grant 68 = .ok (.aload_n 0, 1) := by decide +kernel
theorem dX12_grant_69 : decode cX12_grant 69 = .ok (.iload_n 3, 1) := by decide +kernel
theorem dX12_grant_70 : decode cX12_grant 70 = .ok (.iload_n 1, 1) := by decide +kernel
theorem dX12_grant_71 : decode cX12_grant 71 = .ok (.invokevirtual 216, 3) := by decide +kernel
theorem dX12_grant_74 : decode cX12_grant 74 = .ok (.ifCond .ne 7, 3) := by decide +kernel
theorem dX12_grant_77 : decode cX12_grant 77 = .ok (.iconst 1, 1) := by decide +kernel
theorem dX12_grant_78 : decode cX12_grant 78 = .ok (.goto 4, 3) := by decide +kernel
theorem dX12_grant_81 : decode cX12_grant 81 = .ok (.iconst 0, 1) := by decide +kernel
theorem dX12_grant_82 : decode cX12_grant 82 = .ok (.istore_n 2, 1) := by decide +kernel
theorem dX12_grant_83 : decode cX12_grant 83 = .ok (.iinc 3 1, 3) := by decide +kernel
theorem dX12_grant_86 : decode cX12_grant 86 = .ok (.goto (-40), 3) := by decide +kernel
theorem dX12_grant_89 : decode cX12_grant 89 = .ok (.iload_n 2, 1) := by decide +kernel
theorem dX12_grant_90 : decode cX12_grant 90 = .ok (.ifCond .ne 6, 3) := by decide +kernel
theorem dX12_grant_93 : decode cX12_grant 93 = .ok (.bipush (-3), 2) := by decide +kernel
theorem dX12_grant_95 : decode cX12_grant 95 = .ok (.ireturn, 1) := by decide +kernel
theorem dX12_grant_96 : decode cX12_grant 96 = .ok (.aload_n 0, 1) := by decide +kernel
theorem dX12_grant_97 : decode cX12_grant 97 = .ok (.getfield 8, 3) := by decide +kernel
theorem dX12_grant_100 : decode cX12_grant 100 = .ok (.sipush 790, 3) := by decide +kernel
theorem dX12_grant_103 : decode cX12_grant 103 = .ok (.iload_n 1, 1) := by decide +kernel
theorem dX12_grant_104 : decode cX12_grant 104 = .ok (.iadd, 1) := by decide +kernel
theorem dX12_grant_105 : decode cX12_grant 105 = .ok (.iconst 1, 1) := by decide +kernel
theorem dX12_grant_106 : decode cX12_grant 106 = .ok (.iastore, 1) := by decide +kernel
theorem dX12_grant_107 : decode cX12_grant 107 = .ok (.aload_n 0, 1) := by decide +kernel
theorem dX12_grant_108 : decode cX12_grant 108 = .ok (.getfield 8, 3) := by decide +kernel
theorem dX12_grant_111 : decode cX12_grant 111 = .ok (.sipush 970, 3) := by decide +kernel
theorem dX12_grant_114 : decode cX12_grant 114 = .ok (.iload_n 1, 1) := by decide +kernel
theorem dX12_grant_115 : decode cX12_grant 115 = .ok (.iadd, 1) := by decide +kernel
theorem dX12_grant_116 : decode cX12_grant 116 = .ok (.aload_n 0, 1) := by decide +kernel
theorem dX12_grant_117 : decode cX12_grant 117 = .ok (.aload_n 0, 1) := by decide +kernel
theorem dX12_grant_118 : decode cX12_grant 118 = .ok (.getfield 8, 3) := by decide +kernel
theorem dX12_grant_121 : decode cX12_grant 121 = .ok (.sipush 430, 3) := by decide +kernel
theorem dX12_grant_124 : decode cX12_grant 124 = .ok (.iload_n 1, 1) := by decide +kernel
theorem dX12_grant_125 : decode cX12_grant 125 = .ok (.iadd, 1) := by decide +kernel
theorem dX12_grant_126 : decode cX12_grant 126 = .ok (.iaload, 1) := by decide +kernel
theorem dX12_grant_127 : decode cX12_grant 127 = .ok (.invokevirtual 190, 3) := by decide +kernel
theorem dX12_grant_130 : decode cX12_grant 130 = .ok (.iastore, 1) := by decide +kernel
theorem dX12_grant_131 : decode cX12_grant 131 = .ok (.aload_n 0, 1) := by decide +kernel
theorem dX12_grant_132 : decode cX12_grant 132 = .ok (.getfield 8, 3) := by decide +kernel
theorem dX12_grant_135 : decode cX12_grant 135 = .ok (.sipush 1030, 3) := by decide +kernel
theorem dX12_grant_138 : decode cX12_grant 138 = .ok (.iload_n 1, 1) := by decide +kernel
theorem dX12_grant_139 : decode cX12_grant 139 = .ok (.iadd, 1) := by decide +kernel
theorem dX12_grant_140 : decode cX12_grant 140 = .ok (.bipush (-5), 2) := by decide +kernel
theorem dX12_grant_142 : decode cX12_grant 142 = .ok (.iastore, 1) := by decide +kernel
theorem dX12_grant_143 : decode cX12_grant 143 = .ok (.aload_n 0, 1) := by decide +kernel
theorem dX12_grant_144 : decode cX12_grant 144 = .ok (.invokevirtual 222, 3) := by decide +kernel
theorem dX12_grant_147 : decode cX12_grant 147 = .ok (.ireturn, 1) := by decide +kernel
theorem cm_X12_grant : CM yX12_grant cX12_grant 4 (some .int) 1 12 := ⟨w_1715, w_1716, w_1717, w_97, ⟨by decide +kernel, by decide +kernel, by decide +kernel⟩, ⟨_, _, rfl⟩, by decide⟩
noncomputable def f_X12_grant_82 (n : Nat) (rec46 : Int → Int → MM → RR) (v0 v1 v3 s0 : Int) (h : MM) : RR :=
  lb (wr (v3 + 1)) fun x1 =>
  rec46 s0 x1 h
noncomputable def f_X12_grant_81 (n : Nat) (rec46 : Int → Int → MM → RR) (v0 v1 v3 : Int) (h : MM) : RR :=
  f_X12_grant_82 n rec46 v0 v1 v3 0 h
noncomputable def f_X12_grant_77 (n : Nat) (rec46 : Int → Int → MM → RR) (v0 v1 v3 : Int) (h : MM) : RR :=
  f_X12_grant_82 n rec46 v0 v1 v3 1 h
noncomputable def f_X12_grant_46b (n : Nat) (rec46 : Int → Int → MM → RR) (v0 v1 v2 v3 : Int) (h : MM) : RR :=
  gf h v0 12 1 fun r1 =>
  rd h r1 100 2 fun r2 =>
  if r2 ≤ v3 then
    if v2 = 0 then
      some ((-3), h)
    else
    gf h v0 12 1 fun r5 =>
    wt h r5 100 (wr (790 + v1)) 1 fun h6 =>
    gf h6 v0 12 1 fun r7 =>
    gf h6 v0 12 1 fun r8 =>
    rd h6 r8 100 (wr (430 + v1)) fun r9 =>
    gk h6 v0 12 <|
    bd (f_X12_yardsOf n v0 r9 h6) fun r10 h10 =>
    wt h10 r7 100 (wr (970 + v1)) r10 fun h11 =>
    gf h11 v0 12 1 fun r12 =>
    wt h11 r12 100 (wr (1030 + v1)) ((-5)) fun h13 =>
    gk h13 v0 12 <|
    bd (f_X12_granted n v0 h13) fun r14 h14 =>
    some (r14, h14)
  else
  if v2 = 0 then
    f_X12_grant_81 n rec46 v0 v1 v3 h
  else
  gk h v0 12 <|
  bd (f_X12_isGranted n v0 v3 h) fun r16 h16 =>
  if r16 = 0 then
    f_X12_grant_77 n rec46 v0 v1 v3 h16
  else
  gk h16 v0 12 <|
  bd (f_X12_isBarred n v0 v3 v1 h16) fun r18 h18 =>
  if r18 = 0 then
    f_X12_grant_77 n rec46 v0 v1 v3 h18
  else
  f_X12_grant_81 n rec46 v0 v1 v3 h18
noncomputable def f_X12_grant_46 (n : Nat)  (v0 v1 : Int) : Nat → Int → Int → MM → RR
  | 0, _, _, _ => none
  | k + 1, v2, v3, h => f_X12_grant_46b n  (f_X12_grant_46 n  v0 v1 k) v0 v1 v2 v3 h
noncomputable def f_X12_grant_43 (n : Nat)  (v0 v1 s0 : Int) (h : MM) : RR :=
  f_X12_grant_46 n v0 v1 n s0 0 h
noncomputable def f_X12_grant_42 (n : Nat)  (v0 v1 : Int) (h : MM) : RR :=
  f_X12_grant_43 n v0 v1 0 h
noncomputable def f_X12_grant (n : Nat) (v0 v1 : Int) (h : MM) : RR :=
  gk h v0 12 <|
  bd (f_X12_isOf n v0 v1 3 h) fun r1 h1 =>
  if r1 = 0 then
    some ((-1), h1)
  else
  gf h1 v0 12 1 fun r3 =>
  rd h1 r3 100 (wr (790 + v1)) fun r4 =>
  if r4 = 0 then
    gf h1 v0 12 1 fun r6 =>
    rd h1 r6 100 0 fun r7 =>
    gk h1 v0 12 <|
    bd (f_X12_canBeLet n v0 v1 r7 h1) fun r8 h8 =>
    if r8 = 0 then
      f_X12_grant_42 n v0 v1 h8
    else
    f_X12_grant_43 n v0 v1 1 h8
  else
  f_X12_grant_42 n v0 v1 h1
set_option maxRecDepth 20000 in
theorem b_X12_grant_82 {g : GT} {Z : Int × MM} {n : Nat} (C : Cx g cX12_grant 4 yX12_grant 54 1189) (hr : Rt g (some .int) 0 Z) {v0 v1 v3 s0 : Int}  {rec46 : Int → Int → MM → RR} (L46 : ∀ (u2 u3 : Int) (h : MM), in32 u2 → in32 u3 → rec46 u2 u3 h = some Z → G g 46 [(2, v0), (0, v1), (0, u2), (0, u3)] [] h) (cv1 : in32 v1) (cv3 : in32 v3) (cs0 : in32 s0) {h : MM} (hf : f_X12_grant_82 n rec46 v0 v1 v3 s0 h = some Z) : G g 82 [(2, v0), (0, v1), (3, 0), (0, v3)] [(0, s0)] h := by
  unfold f_X12_grant_82 at hf
  refine r_istore_n C dX12_grant_82 (Nat.le_of_ble_eq_true rfl) rfl ?_
  obtain ⟨x1, e1, hf⟩ := lb_s hf
  have c1 : in32 x1 := by rw [e1]; exact (in32_t _)
  refine r_iincL C dX12_grant_83 rfl e1 (Nat.le_of_ble_eq_true rfl) rfl ?_
  refine r_goto C dX12_grant_86 (tgt := 46) (by decide) ?_
  exact G.mask [true, true, true, true] rfl rfl (L46 _ _ _ cs0 c1 hf)
set_option maxRecDepth 20000 in
theorem b_X12_grant_81 {g : GT} {Z : Int × MM} {n : Nat} (C : Cx g cX12_grant 4 yX12_grant 54 1189) (hr : Rt g (some .int) 0 Z) {v0 v1 v3 : Int}  {rec46 : Int → Int → MM → RR} (L46 : ∀ (u2 u3 : Int) (h : MM), in32 u2 → in32 u3 → rec46 u2 u3 h = some Z → G g 46 [(2, v0), (0, v1), (0, u2), (0, u3)] [] h) (cv1 : in32 v1) (cv3 : in32 v3) {h : MM} (hf : f_X12_grant_81 n rec46 v0 v1 v3 h = some Z) : G g 81 [(2, v0), (0, v1), (3, 0), (0, v3)] [] h := by
  unfold f_X12_grant_81 at hf
  refine r_iconst C dX12_grant_81 ?_
  exact G.mask [true, true, false, true] rfl rfl (b_X12_grant_82 C hr L46 cv1 cv3 (in32_of rfl) hf)
set_option maxRecDepth 20000 in
theorem b_X12_grant_77 {g : GT} {Z : Int × MM} {n : Nat} (C : Cx g cX12_grant 4 yX12_grant 54 1189) (hr : Rt g (some .int) 0 Z) {v0 v1 v3 : Int}  {rec46 : Int → Int → MM → RR} (L46 : ∀ (u2 u3 : Int) (h : MM), in32 u2 → in32 u3 → rec46 u2 u3 h = some Z → G g 46 [(2, v0), (0, v1), (0, u2), (0, u3)] [] h) (cv1 : in32 v1) (cv3 : in32 v3) {h : MM} (hf : f_X12_grant_77 n rec46 v0 v1 v3 h = some Z) : G g 77 [(2, v0), (0, v1), (3, 0), (0, v3)] [] h := by
  unfold f_X12_grant_77 at hf
  refine r_iconst C dX12_grant_77 ?_
  refine r_goto C dX12_grant_78 (tgt := 82) (by decide) ?_
  exact G.mask [true, true, false, true] rfl rfl (b_X12_grant_82 C hr L46 cv1 cv3 (in32_of rfl) hf)
set_option maxRecDepth 20000 in
theorem b_X12_grant_46b {g : GT} {Z : Int × MM} {n : Nat} (C : Cx g cX12_grant 4 yX12_grant 54 1189) (hr : Rt g (some .int) 0 Z) {v0 v1 v2 v3 : Int}  {rec46 : Int → Int → MM → RR} (L46 : ∀ (u2 u3 : Int) (h : MM), in32 u2 → in32 u3 → rec46 u2 u3 h = some Z → G g 46 [(2, v0), (0, v1), (0, u2), (0, u3)] [] h) (cv1 : in32 v1) (cv2 : in32 v2) (cv3 : in32 v3) {h : MM} (hf : f_X12_grant_46b n rec46 v0 v1 v2 v3 h = some Z) : G g 46 [(2, v0), (0, v1), (0, v2), (0, v3)] [] h := by
  unfold f_X12_grant_46b at hf
  refine r_iload_n C dX12_grant_46 rfl ?_
  refine r_aload_n C dX12_grant_47 rfl ?_
  obtain ⟨q1, hf⟩ := gf_s hf
  refine r_gf C ct12 (j := 1) (ji := 1) dX12_grant_48 q1 rfl rfl (by decide) w_1426 rfl (fun c1 => ?_)
  refine r_iconst C dX12_grant_51 ?_
  obtain ⟨q2, hf⟩ := rd_s hf
  refine r_iald C dX12_grant_52 q2 rfl (fun c2 => ?_)
  refine r_icmp_ge C dX12_grant_53 (tgt := 89) (by decide) cv3 c2 (fun n3 => ?_) (fun n3 => ?_)
  · have hf := ite_p n3 hf
    refine r_iload_n C dX12_grant_89 rfl ?_
    refine r_if_ne C dX12_grant_90 (tgt := 96) (by decide) cv2 (fun n4 => ?_) (fun n4 => ?_)
    · have hf := ite_n n4 hf
      refine r_aload_n C dX12_grant_96 rfl ?_
      obtain ⟨q5, hf⟩ := gf_s hf
      refine r_gf C ct12 (j := 1) (ji := 1) dX12_grant_97 q5 rfl rfl (by decide) w_1426 rfl (fun c5 => ?_)
      refine r_sipush C dX12_grant_100 rfl ?_
      refine r_iload_n C dX12_grant_103 rfl ?_
      refine r_iadd C dX12_grant_104 ?_
      refine r_iconst C dX12_grant_105 ?_
      obtain ⟨q6, hf⟩ := wt_s hf
      refine r_iast C dX12_grant_106 q6 rfl (in32_of rfl) ?_
      refine r_aload_n C dX12_grant_107 rfl ?_
      obtain ⟨q7, hf⟩ := gf_s hf
      refine r_gf C ct12 (j := 1) (ji := 1) dX12_grant_108 q7 rfl rfl (by decide) w_1426 rfl (fun c7 => ?_)
      refine r_sipush C dX12_grant_111 rfl ?_
      refine r_iload_n C dX12_grant_114 rfl ?_
      refine r_iadd C dX12_grant_115 ?_
      refine r_aload_n C dX12_grant_116 rfl ?_
      refine r_aload_n C dX12_grant_117 rfl ?_
      obtain ⟨q8, hf⟩ := gf_s hf
      refine r_gf C ct12 (j := 1) (ji := 1) dX12_grant_118 q8 rfl rfl (by decide) w_1426 rfl (fun c8 => ?_)
      refine r_sipush C dX12_grant_121 rfl ?_
      refine r_iload_n C dX12_grant_124 rfl ?_
      refine r_iadd C dX12_grant_125 ?_
      obtain ⟨q9, hf⟩ := rd_s hf
      refine r_iald C dX12_grant_126 q9 rfl (fun c9 => ?_)
      obtain ⟨p10, hf⟩ := gk_s hf
      obtain ⟨r10, h10, hq10, hf⟩ := bd_s hf
      refine r_cV1 C (am_X12_yardsOf (gl g) n) cm_X12_yardsOf w_1639 dX12_grant_127 ⟨Nat.le_of_ble_eq_true rfl, Nat.le_of_ble_eq_true rfl⟩ p10 rfl c9 rfl (Nat.le_of_ble_eq_true rfl) hq10 (by decide) (fun c10 => ?_)
      have c10 : in32 _ := c10
      obtain ⟨q11, hf⟩ := wt_s hf
      refine r_iast C dX12_grant_130 q11 rfl c10 ?_
      refine r_aload_n C dX12_grant_131 rfl ?_
      obtain ⟨q12, hf⟩ := gf_s hf
      refine r_gf C ct12 (j := 1) (ji := 1) dX12_grant_132 q12 rfl rfl (by decide) w_1426 rfl (fun c12 => ?_)
      refine r_sipush C dX12_grant_135 rfl ?_
      refine r_iload_n C dX12_grant_138 rfl ?_
      refine r_iadd C dX12_grant_139 ?_
      refine r_bipush C dX12_grant_140 rfl ?_
      obtain ⟨q13, hf⟩ := wt_s hf
      refine r_iast C dX12_grant_142 q13 rfl (in32_of rfl) ?_
      refine r_aload_n C dX12_grant_143 rfl ?_
      obtain ⟨p14, hf⟩ := gk_s hf
      obtain ⟨r14, h14, hq14, hf⟩ := bd_s hf
      refine r_cV0 C (am_X12_granted (gl g) n) cm_X12_granted w_1722 dX12_grant_144 ⟨Nat.le_of_ble_eq_true rfl, Nat.le_of_ble_eq_true rfl⟩ p14 rfl  rfl (Nat.le_of_ble_eq_true rfl) hq14 (by decide) (fun c14 => ?_)
      have c14 : in32 _ := c14
      cases hf
      exact r_jret C hr dX12_grant_147 c14
    · have hf := ite_p n4 hf
      refine r_bipush C dX12_grant_93 rfl ?_
      cases hf
      exact r_jret C hr dX12_grant_95 (in32_of rfl)
  · have hf := ite_n n3 hf
    refine r_iload_n C dX12_grant_56 rfl ?_
    refine r_if_eq C dX12_grant_57 (tgt := 81) (by decide) cv2 (fun n15 => ?_) (fun n15 => ?_)
    · have hf := ite_p n15 hf
      exact G.mask [true, true, false, true] rfl rfl (b_X12_grant_81 C hr L46 cv1 cv3 hf)
    · have hf := ite_n n15 hf
      refine r_aload_n C dX12_grant_60 rfl ?_
      refine r_iload_n C dX12_grant_61 rfl ?_
      obtain ⟨p16, hf⟩ := gk_s hf
      obtain ⟨r16, h16, hq16, hf⟩ := bd_s hf
      refine r_cV1 C (am_X12_isGranted (gl g) n) cm_X12_isGranted w_1718 dX12_grant_62 ⟨Nat.le_of_ble_eq_true rfl, Nat.le_of_ble_eq_true rfl⟩ p16 rfl cv3 rfl (Nat.le_of_ble_eq_true rfl) hq16 (by decide) (fun c16 => ?_)
      have c16 : in32 _ := c16
      refine r_if_eq C dX12_grant_65 (tgt := 77) (by decide) c16 (fun n17 => ?_) (fun n17 => ?_)
      · have hf := ite_p n17 hf
        exact G.mask [true, true, false, true] rfl rfl (b_X12_grant_77 C hr L46 cv1 cv3 hf)
      · have hf := ite_n n17 hf
        refine r_aload_n C dX12_grant_68 rfl ?_
        refine r_iload_n C dX12_grant_69 rfl ?_
        refine r_iload_n C dX12_grant_70 rfl ?_
        obtain ⟨p18, hf⟩ := gk_s hf
        obtain ⟨r18, h18, hq18, hf⟩ := bd_s hf
        refine r_cV2 C (am_X12_isBarred (gl g) n) cm_X12_isBarred w_1710 dX12_grant_71 ⟨Nat.le_of_ble_eq_true rfl, Nat.le_of_ble_eq_true rfl⟩ p18 rfl cv3 cv1 rfl (Nat.le_of_ble_eq_true rfl) hq18 (by decide) (fun c18 => ?_)
        have c18 : in32 _ := c18
        refine r_if_ne C dX12_grant_74 (tgt := 81) (by decide) c18 (fun n19 => ?_) (fun n19 => ?_)
        · have hf := ite_n n19 hf
          exact G.mask [true, true, false, true] rfl rfl (b_X12_grant_81 C hr L46 cv1 cv3 hf)
        · have hf := ite_p n19 hf
          exact G.mask [true, true, false, true] rfl rfl (b_X12_grant_77 C hr L46 cv1 cv3 hf)
set_option maxRecDepth 20000 in
theorem l_X12_grant_46 {g : GT} {Z : Int × MM} {n : Nat} (C : Cx g cX12_grant 4 yX12_grant 54 1189) (hr : Rt g (some .int) 0 Z) {v0 v1 : Int}   (cv1 : in32 v1) : ∀ (k : Nat) (v2 v3 : Int) (h : MM), in32 v2 → in32 v3 → f_X12_grant_46 n  v0 v1 k v2 v3 h = some Z → G g 46 [(2, v0), (0, v1), (0, v2), (0, v3)] [] h := by
  intro k
  induction k with
  | zero => intro v2 v3 h cv2 cv3 hf; exact absurd hf (by intro z; cases z)
  | succ k ih => intro v2 v3 h cv2 cv3 hf; exact b_X12_grant_46b C hr (rec46 := f_X12_grant_46 n  v0 v1 k)  ih cv1 cv2 cv3 (show f_X12_grant_46b n  (f_X12_grant_46 n  v0 v1 k) v0 v1 v2 v3 h = some Z from hf)
set_option maxRecDepth 20000 in
theorem b_X12_grant_43 {g : GT} {Z : Int × MM} {n : Nat} (C : Cx g cX12_grant 4 yX12_grant 54 1189) (hr : Rt g (some .int) 0 Z) {v0 v1 s0 : Int}    (cv1 : in32 v1) (cs0 : in32 s0) {h : MM} (hf : f_X12_grant_43 n  v0 v1 s0 h = some Z) : G g 43 [(2, v0), (0, v1), (3, 0), (3, 0)] [(0, s0)] h := by
  unfold f_X12_grant_43 at hf
  refine r_istore_n C dX12_grant_43 (Nat.le_of_ble_eq_true rfl) rfl ?_
  refine r_iconst C dX12_grant_44 ?_
  refine r_istore_n C dX12_grant_45 (Nat.le_of_ble_eq_true rfl) rfl ?_
  exact G.mask [true, true, true, true] rfl rfl (l_X12_grant_46 C hr  cv1 _ _ _ _ cs0 (in32_of rfl) hf)
set_option maxRecDepth 20000 in
theorem b_X12_grant_42 {g : GT} {Z : Int × MM} {n : Nat} (C : Cx g cX12_grant 4 yX12_grant 54 1189) (hr : Rt g (some .int) 0 Z) {v0 v1 : Int}    (cv1 : in32 v1) {h : MM} (hf : f_X12_grant_42 n  v0 v1 h = some Z) : G g 42 [(2, v0), (0, v1), (3, 0), (3, 0)] [] h := by
  unfold f_X12_grant_42 at hf
  refine r_iconst C dX12_grant_42 ?_
  exact G.mask [true, true, false, false] rfl rfl (b_X12_grant_43 C hr  cv1 (in32_of rfl) hf)
set_option maxRecDepth 20000 in
theorem e_X12_grant {g : GT} {Z : Int × MM} {n : Nat} (C : Cx g cX12_grant 4 yX12_grant 54 1189) (hr : Rt g (some .int) 0 Z) {v0 v1 : Int} (cv0 : cK 2 v0) (cv1 : cK 0 v1) {h : MM} (hf : f_X12_grant n v0 v1 h = some Z) : G g 0 [(2, v0), (0, v1), (3, 0), (3, 0)] [] h := by
  have cv1 : in32 v1 := cv1
  unfold f_X12_grant at hf
  refine r_aload_n C dX12_grant_0 rfl ?_
  refine r_iload_n C dX12_grant_1 rfl ?_
  refine r_iconst C dX12_grant_2 ?_
  obtain ⟨p1, hf⟩ := gk_s hf
  obtain ⟨r1, h1, hq1, hf⟩ := bd_s hf
  refine r_cV2 C (am_X12_isOf (gl g) n) cm_X12_isOf w_1607 dX12_grant_3 ⟨Nat.le_of_ble_eq_true rfl, Nat.le_of_ble_eq_true rfl⟩ p1 rfl cv1 (in32_of rfl) rfl (Nat.le_of_ble_eq_true rfl) hq1 (by decide) (fun c1 => ?_)
  have c1 : in32 _ := c1
  refine r_if_ne C dX12_grant_6 (tgt := 11) (by decide) c1 (fun n2 => ?_) (fun n2 => ?_)
  · have hf := ite_n n2 hf
    refine r_aload_n C dX12_grant_11 rfl ?_
    obtain ⟨q3, hf⟩ := gf_s hf
    refine r_gf C ct12 (j := 1) (ji := 1) dX12_grant_12 q3 rfl rfl (by decide) w_1426 rfl (fun c3 => ?_)
    refine r_sipush C dX12_grant_15 rfl ?_
    refine r_iload_n C dX12_grant_18 rfl ?_
    refine r_iadd C dX12_grant_19 ?_
    obtain ⟨q4, hf⟩ := rd_s hf
    refine r_iald C dX12_grant_20 q4 rfl (fun c4 => ?_)
    refine r_if_ne C dX12_grant_21 (tgt := 42) (by decide) c4 (fun n5 => ?_) (fun n5 => ?_)
    · have hf := ite_n n5 hf
      exact G.mask [true, true, false, false] rfl rfl (b_X12_grant_42 C hr  cv1 hf)
    · have hf := ite_p n5 hf
      refine r_aload_n C dX12_grant_24 rfl ?_
      refine r_iload_n C dX12_grant_25 rfl ?_
      refine r_aload_n C dX12_grant_26 rfl ?_
      obtain ⟨q6, hf⟩ := gf_s hf
      refine r_gf C ct12 (j := 1) (ji := 1) dX12_grant_27 q6 rfl rfl (by decide) w_1426 rfl (fun c6 => ?_)
      refine r_iconst C dX12_grant_30 ?_
      obtain ⟨q7, hf⟩ := rd_s hf
      refine r_iald C dX12_grant_31 q7 rfl (fun c7 => ?_)
      obtain ⟨p8, hf⟩ := gk_s hf
      obtain ⟨r8, h8, hq8, hf⟩ := bd_s hf
      refine r_cV2 C (am_X12_canBeLet (gl g) n) cm_X12_canBeLet w_1694 dX12_grant_32 ⟨Nat.le_of_ble_eq_true rfl, Nat.le_of_ble_eq_true rfl⟩ p8 rfl cv1 c7 rfl (Nat.le_of_ble_eq_true rfl) hq8 (by decide) (fun c8 => ?_)
      have c8 : in32 _ := c8
      refine r_if_eq C dX12_grant_35 (tgt := 42) (by decide) c8 (fun n9 => ?_) (fun n9 => ?_)
      · have hf := ite_p n9 hf
        exact G.mask [true, true, false, false] rfl rfl (b_X12_grant_42 C hr  cv1 hf)
      · have hf := ite_n n9 hf
        refine r_iconst C dX12_grant_38 ?_
        refine r_goto C dX12_grant_39 (tgt := 43) (by decide) ?_
        exact G.mask [true, true, false, false] rfl rfl (b_X12_grant_43 C hr  cv1 (in32_of rfl) hf)
  · have hf := ite_p n2 hf
    refine r_iconst C dX12_grant_9 ?_
    cases hf
    exact r_jret C hr dX12_grant_10 (in32_of rfl)
set_option maxRecDepth 20000 in
theorem am_X12_grant (l : Launch) (n : Nat) : AM l yX12_grant cX12_grant 4 (some .int) 54 1189 [2, 0] 0 (un2 (f_X12_grant n)) := by
  refine AM.intro (by decide) (fun xs hx => ?_) (fun g xs h Z hl C hr hx hf => ?_)
  · obtain ⟨a0, a1, rfl, c0, c1⟩ := canL_2 hx
    exact Nat.le_of_ble_eq_true rfl
  · obtain ⟨a0, a1, rfl, c0, c1⟩ := canL_2 hx
    have hf := (un2_e _ a0 a1 _).symm.trans hf
    exact e_X12_grant (n := n) C hr c0 c1 hf
/-! LinesPromisedModel.isUnder(II)Z -/
theorem dX12_isUnder_0 : decode cX12_isUnder 0 = .ok (.iload_n 1, 1) := by decide +kernel
theorem dX12_isUnder_1 : decode cX12_isUnder 1 = .ok (.ifCond .eq 28, 3) := by decide +kernel
theorem dX12_isUnder_4 : decode cX12_isUnder 4 = .ok (.iload_n 0, 1) := by decide +kernel
theorem dX12_isUnder_5 : decode cX12_isUnder 5 = .ok (.iload_n 1, 1) := by decide +kernel
theorem dX12_isUnder_6 : decode cX12_isUnder 6 = .ok (.if_icmp .eq 23, 3) := by decide +kernel
theorem dX12_isUnder_9 : decode cX12_isUnder 9 = .ok (.iload_n 1, 1) := by decide +kernel
theorem dX12_isUnder_10 : decode cX12_isUnder 10 = .ok (.iconst 1, 1) := by decide +kernel
theorem dX12_isUnder_11 : decode cX12_isUnder 11 = .ok (.if_icmp .ne 8, 3) := by decide +kernel
theorem dX12_isUnder_14 : decode cX12_isUnder 14 = .ok (.iload_n 0, 1) := by decide +kernel
theorem dX12_isUnder_15 : decode cX12_isUnder 15 = .ok (.iconst 4, 1) := by decide +kernel
theorem dX12_isUnder_16 : decode cX12_isUnder 16 = .ok (.if_icmp .lt 13, 3) := by decide +kernel
theorem dX12_isUnder_19 : decode cX12_isUnder 19 = .ok (.iload_n 1, 1) := by decide +kernel
theorem dX12_isUnder_20 : decode cX12_isUnder 20 = .ok (.iconst 4, 1) := by decide +kernel
theorem dX12_isUnder_21 : decode cX12_isUnder 21 = .ok (.if_icmp .ne 12, 3) := by decide +kernel
theorem dX12_isUnder_24 : decode cX12_isUnder 24 = .ok (.iload_n 0, 1) := by decide +kernel
theorem dX12_isUnder_25 : decode cX12_isUnder 25 = .ok (.iconst 5, 1) := by decide +kernel
theorem dX12_isUnder_26 : decode cX12_isUnder 26 = .ok (.if_icmp .ne 7, 3) := by decide +kernel
theorem dX12_isUnder_29 : decode cX12_isUnder 29 = .ok (.iconst 1, 1) := by decide +kernel
theorem dX12_isUnder_30 : decode cX12_isUnder 30 = .ok (.goto 4, 3) := by decide +kernel
theorem dX12_isUnder_33 : decode cX12_isUnder 33 = .ok (.iconst 0, 1) := by decide +kernel
theorem dX12_isUnder_34 : decode cX12_isUnder 34 = .ok (.ireturn, 1) := by decide +kernel
theorem cm_X12_isUnder : CMs yX12_isUnder cX12_isUnder 2 (some .boolean) 2 := ⟨w_1731, w_1732, w_97, ⟨by decide +kernel, by decide +kernel, by decide +kernel⟩⟩
noncomputable def f_X12_isUnder_34 (n : Nat)  (s0 : Int) (h : MM) : RR :=
  ck (isb s0) <|
  some (s0, h)
noncomputable def f_X12_isUnder_29 (n : Nat)  (h : MM) : RR :=
  f_X12_isUnder_34 n 1 h
noncomputable def f_X12_isUnder_33 (n : Nat)  (h : MM) : RR :=
  f_X12_isUnder_34 n 0 h
noncomputable def f_X12_isUnder_19 (n : Nat)  (v0 v1 : Int) (h : MM) : RR :=
  if v1 = 4 then
    if v0 = 5 then
      f_X12_isUnder_29 n h
    else
    f_X12_isUnder_33 n h
  else
  f_X12_isUnder_33 n h
noncomputable def f_X12_isUnder (n : Nat) (v0 v1 : Int) (h : MM) : RR :=
  if v1 = 0 then
    f_X12_isUnder_29 n h
  else
  if v0 = v1 then
    f_X12_isUnder_29 n h
  else
  if v1 = 1 then
    if v0 < 4 then
      f_X12_isUnder_29 n h
    else
    f_X12_isUnder_19 n v0 v1 h
  else
  f_X12_isUnder_19 n v0 v1 h
set_option maxRecDepth 20000 in
theorem b_X12_isUnder_34 {g : GT} {Z : Int × MM} {n : Nat} (C : Cx g cX12_isUnder 2 yX12_isUnder 0 0) (hr : Rt g (some .boolean) 0 Z) {s0 : Int}    (cs0 : in32 s0) {h : MM} (hf : f_X12_isUnder_34 n  s0 h = some Z) : G g 34 [(3, 0), (3, 0)] [(0, s0)] h := by
  unfold f_X12_isUnder_34 at hf
  obtain ⟨b1, hf⟩ := ck_s hf
  cases hf
  exact r_zret C hr dX12_isUnder_34 b1
set_option maxRecDepth 20000 in
theorem b_X12_isUnder_29 {g : GT} {Z : Int × MM} {n : Nat} (C : Cx g cX12_isUnder 2 yX12_isUnder 0 0) (hr : Rt g (some .boolean) 0 Z)     {h : MM} (hf : f_X12_isUnder_29 n   h = some Z) : G g 29 [(3, 0), (3, 0)] [] h := by
  unfold f_X12_isUnder_29 at hf
  refine r_iconst C dX12_isUnder_29 ?_
  refine r_goto C dX12_isUnder_30 (tgt := 34) (by decide) ?_
  exact G.mask [false, false] rfl rfl (b_X12_isUnder_34 C hr  (in32_of rfl) hf)
set_option maxRecDepth 20000 in
theorem b_X12_isUnder_33 {g : GT} {Z : Int × MM} {n : Nat} (C : Cx g cX12_isUnder 2 yX12_isUnder 0 0) (hr : Rt g (some .boolean) 0 Z)     {h : MM} (hf : f_X12_isUnder_33 n   h = some Z) : G g 33 [(3, 0), (3, 0)] [] h := by
  unfold f_X12_isUnder_33 at hf
  refine r_iconst C dX12_isUnder_33 ?_
  exact G.mask [false, false] rfl rfl (b_X12_isUnder_34 C hr  (in32_of rfl) hf)
set_option maxRecDepth 20000 in
theorem b_X12_isUnder_19 {g : GT} {Z : Int × MM} {n : Nat} (C : Cx g cX12_isUnder 2 yX12_isUnder 0 0) (hr : Rt g (some .boolean) 0 Z) {v0 v1 : Int}    (cv0 : in32 v0) (cv1 : in32 v1) {h : MM} (hf : f_X12_isUnder_19 n  v0 v1 h = some Z) : G g 19 [(0, v0), (0, v1)] [] h := by
  unfold f_X12_isUnder_19 at hf
  refine r_iload_n C dX12_isUnder_19 rfl ?_
  refine r_iconst C dX12_isUnder_20 ?_
  refine r_icmp_ne C dX12_isUnder_21 (tgt := 33) (by decide) cv1 (in32_of rfl) (fun n1 => ?_) (fun n1 => ?_)
  · have hf := ite_n n1 hf
    exact G.mask [false, false] rfl rfl (b_X12_isUnder_33 C hr   hf)
  · have hf := ite_p n1 hf
    refine r_iload_n C dX12_isUnder_24 rfl ?_
    refine r_iconst C dX12_isUnder_25 ?_
    refine r_icmp_ne C dX12_isUnder_26 (tgt := 33) (by decide) cv0 (in32_of rfl) (fun n2 => ?_) (fun n2 => ?_)
    · have hf := ite_n n2 hf
      exact G.mask [false, false] rfl rfl (b_X12_isUnder_33 C hr   hf)
    · have hf := ite_p n2 hf
      exact G.mask [false, false] rfl rfl (b_X12_isUnder_29 C hr   hf)
set_option maxRecDepth 20000 in
theorem e_X12_isUnder {g : GT} {Z : Int × MM} {n : Nat} (C : Cx g cX12_isUnder 2 yX12_isUnder 0 0) (hr : Rt g (some .boolean) 0 Z) {v0 v1 : Int} (cv0 : cK 0 v0) (cv1 : cK 0 v1) {h : MM} (hf : f_X12_isUnder n v0 v1 h = some Z) : G g 0 [(0, v0), (0, v1)] [] h := by
  have cv0 : in32 v0 := cv0
  have cv1 : in32 v1 := cv1
  unfold f_X12_isUnder at hf
  refine r_iload_n C dX12_isUnder_0 rfl ?_
  refine r_if_eq C dX12_isUnder_1 (tgt := 29) (by decide) cv1 (fun n1 => ?_) (fun n1 => ?_)
  · have hf := ite_p n1 hf
    exact G.mask [false, false] rfl rfl (b_X12_isUnder_29 C hr   hf)
  · have hf := ite_n n1 hf
    refine r_iload_n C dX12_isUnder_4 rfl ?_
    refine r_iload_n C dX12_isUnder_5 rfl ?_
    refine r_icmp_eq C dX12_isUnder_6 (tgt := 29) (by decide) cv0 cv1 (fun n2 => ?_) (fun n2 => ?_)
    · have hf := ite_p n2 hf
      exact G.mask [false, false] rfl rfl (b_X12_isUnder_29 C hr   hf)
    · have hf := ite_n n2 hf
      refine r_iload_n C dX12_isUnder_9 rfl ?_
      refine r_iconst C dX12_isUnder_10 ?_
      refine r_icmp_ne C dX12_isUnder_11 (tgt := 19) (by decide) cv1 (in32_of rfl) (fun n3 => ?_) (fun n3 => ?_)
      · have hf := ite_n n3 hf
        exact G.mask [true, true] rfl rfl (b_X12_isUnder_19 C hr  cv0 cv1 hf)
      · have hf := ite_p n3 hf
        refine r_iload_n C dX12_isUnder_14 rfl ?_
        refine r_iconst C dX12_isUnder_15 ?_
        refine r_icmp_lt C dX12_isUnder_16 (tgt := 29) (by decide) cv0 (in32_of rfl) (fun n4 => ?_) (fun n4 => ?_)
        · have hf := ite_p n4 hf
          exact G.mask [false, false] rfl rfl (b_X12_isUnder_29 C hr   hf)
        · have hf := ite_n n4 hf
          exact G.mask [true, true] rfl rfl (b_X12_isUnder_19 C hr  cv0 cv1 hf)
set_option maxRecDepth 20000 in
theorem am_X12_isUnder (l : Launch) (n : Nat) : AM l yX12_isUnder cX12_isUnder 2 (some .boolean) 0 0 [0, 0] 0 (un2 (f_X12_isUnder n)) := by
  refine AM.intro (by decide) (fun xs hx => ?_) (fun g xs h Z hl C hr hx hf => ?_)
  · obtain ⟨a0, a1, rfl, c0, c1⟩ := canL_2 hx
    exact Nat.le_of_ble_eq_true rfl
  · obtain ⟨a0, a1, rfl, c0, c1⟩ := canL_2 hx
    have hf := (un2_e _ a0 a1 _).symm.trans hf
    exact e_X12_isUnder (n := n) C hr c0 c1 hf
/-! LinesPromisedModel.worth(I)I -/
theorem dX12_worth_0 : decode cX12_worth 0 = .ok (.aload_n 0, 1) := by decide +kernel
theorem dX12_worth_1 : decode cX12_worth 1 = .ok (.getfield 8, 3) := by decide +kernel
theorem dX12_worth_4 : decode cX12_worth 4 = .ok (.sipush 370, 3) := by decide +kernel
theorem dX12_worth_7 : decode cX12_worth 7 = .ok (.iload_n 1, 1) := by decide +kernel
theorem dX12_worth_8 : decode cX12_worth 8 = .ok (.iadd, 1) := by decide +kernel
theorem dX12_worth_9 : decode cX12_worth 9 = .ok (.iaload, 1) := by decide +kernel
theorem dX12_worth_10 : decode cX12_worth 10 = .ok (.tableswitch 129 1 5 #[34, 48, 82, 99, 112], 34) := by decide +kernel
theorem dX12_worth_44 : decode cX12_worth 44 = .ok (.bipush 10, 2) := by decide +kernel
theorem dX12_worth_46 : decode cX12_worth 46 = .ok (.aload_n 0, 1) := by decide +kernel
theorem dX12_worth_47 : decode cX12_worth 47 = .ok (.getfield 8, 3) := by decide +kernel
theorem dX12_worth_50 : decode cX12_worth 50 = .ok (.sipush 730, 3) := by decide +kernel
theorem dX12_worth_53 : decode cX12_worth 53 = .ok (.iload_n 1, 1) := by decide +kernel
theorem dX12_worth_54 : decode cX12_worth 54 = .ok (.iadd, 1) := by decide +kernel
theorem dX12_worth_55 : decode cX12_worth 55 = .ok (.iaload, 1) := by decide +kernel
theorem dX12_worth_56 : decode cX12_worth 56 = .ok (.iadd, 1) := by decide +kernel
theorem dX12_worth_57 : decode cX12_worth 57 = .ok (.ireturn, 1) := by decide +kernel
theorem dX12_worth_58 : decode cX12_worth 58 = .ok (.bipush 10, 2) := by decide +kernel
theorem dX12_worth_60 : decode cX12_worth 60 = .ok (.aload_n 0, 1) := by decide +kernel
theorem dX12_worth_61 : decode cX12_worth 61 = .ok (.getfield 8, 3) := by decide +kernel
theorem dX12_worth_64 : decode cX12_worth 64 = .ok (.sipush 730, 3) := by decide +kernel
theorem dX12_worth_67 : decode cX12_worth 67 = .ok (.aload_n 0, 1) := by decide +kernel
theorem dX12_worth_68 : decode cX12_worth 68 = .ok (.getfield 8, 3) := by decide +kernel
theorem dX12_worth_71 : decode cX12_worth 71 = .ok (.sipush 430, 3) := by decide +kernel
theorem dX12_worth_74 : decode cX12_worth 74 = .ok (.iload_n 1, 1) := by decide +kernel
theorem dX12_worth_75 : decode cX12_worth 75 = .ok (.iadd, 1) := by decide +kernel
theorem dX12_worth_76 : decode cX12_worth 76 = .ok (.iaload, 1) := by decide +kernel
theorem dX12_worth_77 : decode cX12_worth 77 = .ok (.iadd, 1) := by decide +kernel
theorem dX12_worth_78 : decode cX12_worth 78 = .ok (.iaload, 1) := by decide +kernel
theorem dX12_worth_79 : decode cX12_worth 79 = .ok (.iadd, 1) := by decide +kernel
theorem dX12_worth_80 : decode cX12_worth 80 = .ok (.aload_n 0, 1) := by decide +kernel
theorem dX12_worth_81 : decode cX12_worth 81 = .ok (.getfield 8, 3) := by decide +kernel
theorem dX12_worth_84 : decode cX12_worth 84 = .ok (.sipush 850, 3) := by decide +kernel
theorem dX12_worth_87 : decode cX12_worth 87 = .ok (.iload_n 1, 1) := by decide +kernel
theorem dX12_worth_88 : decode cX12_worth 88 = .ok (.iadd, 1) := by decide +kernel
theorem dX12_worth_89 : decode cX12_worth 89 = .ok (.iaload, 1) := by decide +kernel
theorem dX12_worth_90 : decode cX12_worth 90 = .ok (.iadd, 1) := by decide +kernel
theorem dX12_worth_91 : decode cX12_worth 91 = .ok (.ireturn, 1) := by decide +kernel
theorem dX12_worth_92 : decode cX12_worth 92 = .ok (.iconst 2, 1) := by decide +kernel
theorem dX12_worth_93 : decode cX12_worth 93 = .ok (.aload_n 0, 1) := by decide +kernel
theorem dX12_worth_94 : decode cX12_worth 94 = .ok (.aload_n 0, 1) := by decide +kernel
theorem dX12_worth_95 : decode cX12_worth 95 = .ok (.getfield 8, 3) := by decide +kernel
theorem dX12_worth_98 : decode cX12_worth 98 = .ok (.sipush 430, 3) := by decide +kernel
theorem dX12_worth_101 : decode cX12_worth 101 = .ok (.iload_n 1, 1) := by decide +kernel
theorem dX12_worth_102 : decode cX12_worth 102 = .ok (.iadd, 1) := by decide +kernel
theorem dX12_worth_103 : decode cX12_worth 103 = .ok (.iaload, 1) := by decide +kernel
theorem dX12_worth_104 : decode cX12_worth 104 = .ok (.invokevirtual 225, 3) := by decide +kernel
theorem dX12_worth_107 : decode cX12_worth 107 = .ok (.imul, 1) := by decide +kernel
theorem dX12_worth_108 : decode cX12_worth 108 = .ok (.ireturn, 1) := by decide +kernel
theorem dX12_worth_109 : decode cX12_worth 109 = .ok (.iconst 4, 1) := by decide +kernel
theorem dX12_worth_110 : decode cX12_worth 110 = .ok (.aload_n 0, 1) := by decide +kernel
theorem dX12_worth_111 : decode cX12_worth 111 = .ok (.getfield 8, 3) := by decide +kernel
theorem dX12_worth_114 : decode cX12_worth 114 = .ok (.sipush 730, 3) := by decide +kernel
theorem dX12_worth_117 : decode cX12_worth 117 = .ok (.iload_n 1, 1) := by decide +kernel
theorem dX12_worth_118 : decode cX12_worth 118 = .ok (.iadd, 1) := by decide +kernel
theorem dX12_worth_119 : decode cX12_worth 119 = .ok (.iaload, 1) := by decide +kernel
theorem dX12_worth_120 : decode cX12_worth 120 = .ok (.iadd, 1) := by decide +kernel
theorem dX12_worth_121 : decode cX12_worth 121 = .ok (.ireturn, 1) := by decide +kernel
theorem dX12_worth_122 : decode cX12_worth 122 = .ok (.iconst 2, 1) := by decide +kernel
theorem dX12_worth_123 : decode cX12_worth 123 = .ok (.iconst 4, 1) := by decide +kernel
theorem dX12_worth_124 : decode cX12_worth 124 = .ok (.aload_n 0, 1) := by decide +kernel
theorem dX12_worth_125 : decode cX12_worth 125 = .ok (.getfield 8, 3) := by decide +kernel
theorem dX12_worth_128 : decode cX12_worth 128 = .ok (.sipush 730, 3) := by decide +kernel
theorem dX12_worth_131 : decode cX12_worth 131 = .ok (.iload_n 1, 1) := by decide +kernel
theorem dX12_worth_132 : decode cX12_worth 132 = .ok (.iadd, 1) := by decide +kernel
theorem dX12_worth_133 : decode cX12_worth 133 = .ok (.iaload, 1) := by decide +kernel
theorem dX12_worth_134 : decode cX12_worth 134 = .ok (.iadd, 1) := by decide +kernel
theorem dX12_worth_135 : decode cX12_worth 135 = .ok (.imul, 1) := by decide +kernel
theorem dX12_worth_136 : decode cX12_worth 136 = .ok (.iconst 1, 1) := by decide +kernel
theorem dX12_worth_137 : decode cX12_worth 137 = .ok (.isub, 1) := by decide +kernel
theorem dX12_worth_138 : decode cX12_worth 138 = .ok (.ireturn, 1) := by decide +kernel
theorem dX12_worth_139 : decode cX12_worth 139 = .ok (.iconst 1, 1) := by decide +kernel
theorem dX12_worth_140 : decode cX12_worth 140 = .ok (.aload_n 0, 1) := by decide +kernel
theorem dX12_worth_141 : decode cX12_worth 141 = .ok (.getfield 8, 3) := by decide +kernel
theorem dX12_worth_144 : decode cX12_worth 144 = .ok (.sipush 730, 3) := by decide +kernel
theorem dX12_worth_147 : decode cX12_worth 147 = .ok (.iload_n 1, 1) := by decide +kernel
theorem dX12_worth_148 : decode cX12_worth 148 = .ok (.iadd, 1) := by decide +kernel
theorem dX12_worth_149 : decode cX12_worth 149 = .ok (.iaload, 1) := by decide +kernel
theorem dX12_worth_150 : decode cX12_worth 150 = .ok (.iadd, 1) := by decide +kernel
theorem dX12_worth_151 : decode cX12_worth 151 = .ok (.ireturn, 1) := by decide +kernel
theorem cm_X12_worth : CM yX12_worth cX12_worth 2 (some .int) 1 12 := ⟨w_1735, w_73, w_1736, w_97, ⟨by decide +kernel, by decide +kernel, by decide +kernel⟩, ⟨_, _, rfl⟩, by decide⟩
noncomputable def f_X12_worth_op (F_X12_worth : Int → Int → MM → RR) (n : Nat) (v0 v1 : Int) (h : MM) : RR :=
  gf h v0 12 1 fun r1 =>
  rd h r1 100 (wr (370 + v1)) fun r2 =>
  if r2 = 1 then
    gf h v0 12 1 fun r4 =>
    rd h r4 100 (wr (730 + v1)) fun r5 =>
    some (wr (10 + r5), h)
  else
  if r2 = 2 then
    gf h v0 12 1 fun r7 =>
    gf h v0 12 1 fun r8 =>
    rd h r8 100 (wr (430 + v1)) fun r9 =>
    rd h r7 100 (wr (730 + r9)) fun r10 =>
    gf h v0 12 1 fun r11 =>
    rd h r11 100 (wr (850 + v1)) fun r12 =>
    some (wr ((wr (10 + r10)) + r12), h)
  else
  if r2 = 3 then
    gf h v0 12 1 fun r14 =>
    rd h r14 100 (wr (430 + v1)) fun r15 =>
    gk h v0 12 <|
    bd (F_X12_worth v0 r15 h) fun r16 h16 =>
    some (wr (2 * r16), h16)
  else
  if r2 = 4 then
    gf h v0 12 1 fun r18 =>
    rd h r18 100 (wr (730 + v1)) fun r19 =>
    some (wr (4 + r19), h)
  else
  if r2 = 5 then
    gf h v0 12 1 fun r21 =>
    rd h r21 100 (wr (730 + v1)) fun r22 =>
    some (wr ((wr (2 * (wr (4 + r22)))) - 1), h)
  else
  gf h v0 12 1 fun r23 =>
  rd h r23 100 (wr (730 + v1)) fun r24 =>
  some (wr (1 + r24), h)
noncomputable def t_X12_worth (n : Nat) : Nat → (Int → Int → MM → RR)
  | 0 => ((fun _ _ _ => none))
  | k + 1 => (f_X12_worth_op ((t_X12_worth n k)) n)
noncomputable def f_X12_worth (n : Nat) : (Int → Int → MM → RR) := (t_X12_worth n 4)
set_option maxRecDepth 20000 in
theorem e_X12_worth {g : GT} {Z : Int × MM} {n : Nat} {fA lA : Nat} {F_X12_worth : Int → Int → MM → RR} (A_X12_worth : AM (gl g) yX12_worth cX12_worth 2 (some .int) (fA) (lA) [2, 0] 0 (un2 F_X12_worth)) (C : Cx g cX12_worth 2 yX12_worth (fA + 1) (lA + 21)) (hr : Rt g (some .int) 0 Z) {v0 v1 : Int} (cv0 : cK 2 v0) (cv1 : cK 0 v1) {h : MM} (hf : f_X12_worth_op F_X12_worth n v0 v1 h = some Z) : G g 0 [(2, v0), (0, v1)] [] h := by
  have cv1 : in32 v1 := cv1
  unfold f_X12_worth_op at hf
  refine r_aload_n C dX12_worth_0 rfl ?_
  obtain ⟨q1, hf⟩ := gf_s hf
  refine r_gf C ct12 (j := 1) (ji := 1) dX12_worth_1 q1 rfl rfl (by decide) w_1426 rfl (fun c1 => ?_)
  refine r_sipush C dX12_worth_4 rfl ?_
  refine r_iload_n C dX12_worth_7 rfl ?_
  refine r_iadd C dX12_worth_8 ?_
  obtain ⟨q2, hf⟩ := rd_s hf
  refine r_iald C dX12_worth_9 q2 rfl (fun c2 => ?_)
  rcases ite_s hf with ⟨n3, hf⟩ | ⟨n3, hf⟩
  · refine r_tsw C dX12_worth_10 (tgt := 44) c2 n3 rfl rfl (by decide) ?_
    refine r_bipush C dX12_worth_44 rfl ?_
    refine r_aload_n C dX12_worth_46 rfl ?_
    obtain ⟨q4, hf⟩ := gf_s hf
    refine r_gf C ct12 (j := 1) (ji := 1) dX12_worth_47 q4 rfl rfl (by decide) w_1426 rfl (fun c4 => ?_)
    refine r_sipush C dX12_worth_50 rfl ?_
    refine r_iload_n C dX12_worth_53 rfl ?_
    refine r_iadd C dX12_worth_54 ?_
    obtain ⟨q5, hf⟩ := rd_s hf
    refine r_iald C dX12_worth_55 q5 rfl (fun c5 => ?_)
    refine r_iadd C dX12_worth_56 ?_
    cases hf
    exact r_jret C hr dX12_worth_57 (in32_t _)
  rcases ite_s hf with ⟨n6, hf⟩ | ⟨n6, hf⟩
  · refine r_tsw C dX12_worth_10 (tgt := 58) c2 n6 rfl rfl (by decide) ?_
    refine r_bipush C dX12_worth_58 rfl ?_
    refine r_aload_n C dX12_worth_60 rfl ?_
    obtain ⟨q7, hf⟩ := gf_s hf
    refine r_gf C ct12 (j := 1) (ji := 1) dX12_worth_61 q7 rfl rfl (by decide) w_1426 rfl (fun c7 => ?_)
    refine r_sipush C dX12_worth_64 rfl ?_
    refine r_aload_n C dX12_worth_67 rfl ?_
    obtain ⟨q8, hf⟩ := gf_s hf
    refine r_gf C ct12 (j := 1) (ji := 1) dX12_worth_68 q8 rfl rfl (by decide) w_1426 rfl (fun c8 => ?_)
    refine r_sipush C dX12_worth_71 rfl ?_
    refine r_iload_n C dX12_worth_74 rfl ?_
    refine r_iadd C dX12_worth_75 ?_
    obtain ⟨q9, hf⟩ := rd_s hf
    refine r_iald C dX12_worth_76 q9 rfl (fun c9 => ?_)
    refine r_iadd C dX12_worth_77 ?_
    obtain ⟨q10, hf⟩ := rd_s hf
    refine r_iald C dX12_worth_78 q10 rfl (fun c10 => ?_)
    refine r_iadd C dX12_worth_79 ?_
    refine r_aload_n C dX12_worth_80 rfl ?_
    obtain ⟨q11, hf⟩ := gf_s hf
    refine r_gf C ct12 (j := 1) (ji := 1) dX12_worth_81 q11 rfl rfl (by decide) w_1426 rfl (fun c11 => ?_)
    refine r_sipush C dX12_worth_84 rfl ?_
    refine r_iload_n C dX12_worth_87 rfl ?_
    refine r_iadd C dX12_worth_88 ?_
    obtain ⟨q12, hf⟩ := rd_s hf
    refine r_iald C dX12_worth_89 q12 rfl (fun c12 => ?_)
    refine r_iadd C dX12_worth_90 ?_
    cases hf
    exact r_jret C hr dX12_worth_91 (in32_t _)
  rcases ite_s hf with ⟨n13, hf⟩ | ⟨n13, hf⟩
  · refine r_tsw C dX12_worth_10 (tgt := 92) c2 n13 rfl rfl (by decide) ?_
    refine r_iconst C dX12_worth_92 ?_
    refine r_aload_n C dX12_worth_93 rfl ?_
    refine r_aload_n C dX12_worth_94 rfl ?_
    obtain ⟨q14, hf⟩ := gf_s hf
    refine r_gf C ct12 (j := 1) (ji := 1) dX12_worth_95 q14 rfl rfl (by decide) w_1426 rfl (fun c14 => ?_)
    refine r_sipush C dX12_worth_98 rfl ?_
    refine r_iload_n C dX12_worth_101 rfl ?_
    refine r_iadd C dX12_worth_102 ?_
    obtain ⟨q15, hf⟩ := rd_s hf
    refine r_iald C dX12_worth_103 q15 rfl (fun c15 => ?_)
    obtain ⟨p16, hf⟩ := gk_s hf
    obtain ⟨r16, h16, hq16, hf⟩ := bd_s hf
    refine r_cV1 C A_X12_worth cm_X12_worth w_1733 dX12_worth_104 ⟨by omega, by omega⟩ p16 rfl c15 rfl (Nat.le_of_ble_eq_true rfl) hq16 (by decide) (fun c16 => ?_)
    have c16 : in32 _ := c16
    refine r_imul C dX12_worth_107 ?_
    cases hf
    exact r_jret C hr dX12_worth_108 (in32_t _)
  rcases ite_s hf with ⟨n17, hf⟩ | ⟨n17, hf⟩
  · refine r_tsw C dX12_worth_10 (tgt := 109) c2 n17 rfl rfl (by decide) ?_
    refine r_iconst C dX12_worth_109 ?_
    refine r_aload_n C dX12_worth_110 rfl ?_
    obtain ⟨q18, hf⟩ := gf_s hf
    refine r_gf C ct12 (j := 1) (ji := 1) dX12_worth_111 q18 rfl rfl (by decide) w_1426 rfl (fun c18 => ?_)
    refine r_sipush C dX12_worth_114 rfl ?_
    refine r_iload_n C dX12_worth_117 rfl ?_
    refine r_iadd C dX12_worth_118 ?_
    obtain ⟨q19, hf⟩ := rd_s hf
    refine r_iald C dX12_worth_119 q19 rfl (fun c19 => ?_)
    refine r_iadd C dX12_worth_120 ?_
    cases hf
    exact r_jret C hr dX12_worth_121 (in32_t _)
  rcases ite_s hf with ⟨n20, hf⟩ | ⟨n20, hf⟩
  · refine r_tsw C dX12_worth_10 (tgt := 122) c2 n20 rfl rfl (by decide) ?_
    refine r_iconst C dX12_worth_122 ?_
    refine r_iconst C dX12_worth_123 ?_
    refine r_aload_n C dX12_worth_124 rfl ?_
    obtain ⟨q21, hf⟩ := gf_s hf
    refine r_gf C ct12 (j := 1) (ji := 1) dX12_worth_125 q21 rfl rfl (by decide) w_1426 rfl (fun c21 => ?_)
    refine r_sipush C dX12_worth_128 rfl ?_
    refine r_iload_n C dX12_worth_131 rfl ?_
    refine r_iadd C dX12_worth_132 ?_
    obtain ⟨q22, hf⟩ := rd_s hf
    refine r_iald C dX12_worth_133 q22 rfl (fun c22 => ?_)
    refine r_iadd C dX12_worth_134 ?_
    refine r_imul C dX12_worth_135 ?_
    refine r_iconst C dX12_worth_136 ?_
    refine r_isub C dX12_worth_137 ?_
    cases hf
    exact r_jret C hr dX12_worth_138 (in32_t _)
  refine r_tswd C dX12_worth_10 (tgt := 139) c2 (by omega) (by decide) ?_
  refine r_iconst C dX12_worth_139 ?_
  refine r_aload_n C dX12_worth_140 rfl ?_
  obtain ⟨q23, hf⟩ := gf_s hf
  refine r_gf C ct12 (j := 1) (ji := 1) dX12_worth_141 q23 rfl rfl (by decide) w_1426 rfl (fun c23 => ?_)
  refine r_sipush C dX12_worth_144 rfl ?_
  refine r_iload_n C dX12_worth_147 rfl ?_
  refine r_iadd C dX12_worth_148 ?_
  obtain ⟨q24, hf⟩ := rd_s hf
  refine r_iald C dX12_worth_149 q24 rfl (fun c24 => ?_)
  refine r_iadd C dX12_worth_150 ?_
  cases hf
  exact r_jret C hr dX12_worth_151 (in32_t _)
set_option maxRecDepth 20000 in
theorem at_t_X12_worth (l : Launch) (n : Nat) : ∀ k : Nat, AM l yX12_worth cX12_worth 2 (some .int) (1 * k) (21 * k) [2, 0] 0 (un2 ((t_X12_worth n k))) := by
  intro k
  induction k with
  | zero =>
    exact AM.none (fun xs h Z hx q => by
      obtain ⟨a0, a1, rfl, c0, c1⟩ := canL_2 hx
      cases q)
  | succ k ih =>
    have i_X12_worth := ih
    exact AM.intro (by decide) (fun xs hx => by
      obtain ⟨a0, a1, rfl, c0, c1⟩ := canL_2 hx
      exact Nat.le_of_ble_eq_true rfl) (fun g xs h Z hl C hr hx hf => by
      subst hl
      obtain ⟨a0, a1, rfl, c0, c1⟩ := canL_2 hx
      exact e_X12_worth (n := n) i_X12_worth C hr c0 c1 hf)
set_option maxRecDepth 20000 in
theorem am_X12_worth (l : Launch) (n : Nat) : AM l yX12_worth cX12_worth 2 (some .int) 4 84 [2, 0] 0 (un2 (f_X12_worth n)) := (at_t_X12_worth l n 4)
/-! LinesPromisedModel.cast(II)I -/
theorem dX12_cast_0 : decode cX12_cast 0 = .ok (.aload_n 0, 1) := by decide +kernel
theorem dX12_cast_1 : decode cX12_cast 1 = .ok (.iload_n 1, 1) := by decide +kernel
theorem dX12_cast_2 : decode cX12_cast 2 = .ok (.invokevirtual 62, 3) := by decide +kernel
theorem dX12_cast_5 : decode cX12_cast 5 = .ok (.ifCond .eq 13, 3) := by decide +kernel
theorem dX12_cast_8 : decode cX12_cast 8 = .ok (.iload_n 2, 1) := by decide +kernel
theorem dX12_cast_9 : decode cX12_cast 9 = .ok (.iconst 0, 1) := by decide +kernel
theorem dX12_cast_10 : decode cX12_cast 10 = .ok (.bipush 6, 2) := by decide +kernel
theorem dX12_cast_12 : decode cX12_cast 12 = .ok (.invokestatic 58, 3) := by decide +kernel
theorem dX12_cast_15 : decode cX12_cast 15 = .ok (.ifCond .ne 5, 3) := by decide +kernel
theorem dX12_cast_18 : decode cX12_cast 18 = .ok (.iconst (-1), 1) := by decide +kernel
theorem dX12_cast_19 : decode cX12_cast 19 = .ok (.ireturn, 1) := by decide +kernel
theorem dX12_cast_20 : decode cX12_cast 20 = .ok (.aload_n 0, 1) := by decide +kernel
theorem dX12_cast_21 : decode cX12_cast 21 = .ok (.getfield 8, 3) := by decide +kernel
theorem dX12_cast_24 : decode cX12_cast 24 = .ok (.sipush 370, 3) := by decide +kernel
theorem dX12_cast_27 : decode cX12_cast 27 = .ok (.iload_n 1, 1) := by decide +kernel
theorem dX12_cast_28 : decode cX12_cast 28 = .ok (.iadd, 1) := by decide +kernel
theorem dX12_cast_29 : decode cX12_cast 29 = .ok (.iaload, 1) := by decide +kernel
theorem dX12_cast_30 : decode cX12_cast 30 = .ok (.iload_n 2, 1) := by decide +kernel
theorem dX12_cast_31 : decode cX12_cast 31 = .ok (.invokestatic 228, 3) := by decide +kernel
theorem dX12_cast_34 : decode cX12_cast 34 = .ok (.ifCond .eq 11, 3) := by decide +kernel
theorem dX12_cast_37 : decode cX12_cast 37 = .ok (.aload_n 0, 1) := by decide +kernel
theorem dX12_cast_38 : decode cX12_cast 38 = .ok (.iload_n 1, 1) := by decide +kernel
theorem dX12_cast_39 : decode cX12_cast 39 = .ok (.invokevirtual 225, 3) := by decide +kernel
theorem dX12_cast_42 : decode cX12_cast 42 = .ok (.goto 5, 3) := by decide +kernel
theorem dX12_cast_45 : decode cX12_cast 45 = .ok (.bipush (-13), 2) := by decide +kernel
theorem dX12_cast_47 : decode cX12_cast 47 = .ok (.ireturn, 1) := by decide +kernel
theorem cm_X12_cast : CM yX12_cast cX12_cast 3 (some .int) 2 12 := ⟨w_1727, w_1728, w_1729, w_97, ⟨by decide +kernel, by decide +kernel, by decide +kernel⟩, ⟨_, _, rfl⟩, by decide⟩
noncomputable def f_X12_cast_18 (n : Nat)  (h : MM) : RR :=
  some ((-1), h)
noncomputable def f_X12_cast_47 (n : Nat)  (s0 : Int) (h : MM) : RR :=
  some (s0, h)
noncomputable def f_X12_cast (n : Nat) (v0 v1 v2 : Int) (h : MM) : RR :=
  gk h v0 12 <|
  bd (f_X12_isPaper n v0 v1 h) fun r1 h1 =>
  if r1 = 0 then
    f_X12_cast_18 n h1
  else
  bd (f_X12_in n v2 0 6 h1) fun r3 h3 =>
  if r3 = 0 then
    f_X12_cast_18 n h3
  else
  gf h3 v0 12 1 fun r5 =>
  rd h3 r5 100 (wr (370 + v1)) fun r6 =>
  bd (f_X12_isUnder n r6 v2 h3) fun r7 h7 =>
  if r7 = 0 then
    f_X12_cast_47 n ((-13)) h7
  else
  gk h7 v0 12 <|
  bd (f_X12_worth n v0 v1 h7) fun r9 h9 =>
  f_X12_cast_47 n r9 h9
set_option maxRecDepth 20000 in
theorem b_X12_cast_18 {g : GT} {Z : Int × MM} {n : Nat} (C : Cx g cX12_cast 3 yX12_cast 5 105) (hr : Rt g (some .int) 0 Z)     {h : MM} (hf : f_X12_cast_18 n   h = some Z) : G g 18 [(3, 0), (3, 0), (3, 0)] [] h := by
  unfold f_X12_cast_18 at hf
  refine r_iconst C dX12_cast_18 ?_
  cases hf
  exact r_jret C hr dX12_cast_19 (in32_of rfl)
set_option maxRecDepth 20000 in
theorem b_X12_cast_47 {g : GT} {Z : Int × MM} {n : Nat} (C : Cx g cX12_cast 3 yX12_cast 5 105) (hr : Rt g (some .int) 0 Z) {s0 : Int}    (cs0 : in32 s0) {h : MM} (hf : f_X12_cast_47 n  s0 h = some Z) : G g 47 [(3, 0), (3, 0), (3, 0)] [(0, s0)] h := by
  unfold f_X12_cast_47 at hf
  cases hf
  exact r_jret C hr dX12_cast_47 cs0
set_option maxRecDepth 20000 in
theorem e_X12_cast {g : GT} {Z : Int × MM} {n : Nat} (C : Cx g cX12_cast 3 yX12_cast 5 105) (hr : Rt g (some .int) 0 Z) {v0 v1 v2 : Int} (cv0 : cK 2 v0) (cv1 : cK 0 v1) (cv2 : cK 0 v2) {h : MM} (hf : f_X12_cast n v0 v1 v2 h = some Z) : G g 0 [(2, v0), (0, v1), (0, v2)] [] h := by
  have cv1 : in32 v1 := cv1
  have cv2 : in32 v2 := cv2
  unfold f_X12_cast at hf
  refine r_aload_n C dX12_cast_0 rfl ?_
  refine r_iload_n C dX12_cast_1 rfl ?_
  obtain ⟨p1, hf⟩ := gk_s hf
  obtain ⟨r1, h1, hq1, hf⟩ := bd_s hf
  refine r_cV1 C (am_X12_isPaper (gl g) n) cm_X12_isPaper w_1611 dX12_cast_2 ⟨Nat.le_of_ble_eq_true rfl, Nat.le_of_ble_eq_true rfl⟩ p1 rfl cv1 rfl (Nat.le_of_ble_eq_true rfl) hq1 (by decide) (fun c1 => ?_)
  have c1 : in32 _ := c1
  refine r_if_eq C dX12_cast_5 (tgt := 18) (by decide) c1 (fun n2 => ?_) (fun n2 => ?_)
  · have hf := ite_p n2 hf
    exact G.mask [false, false, false] rfl rfl (b_X12_cast_18 C hr   hf)
  · have hf := ite_n n2 hf
    refine r_iload_n C dX12_cast_8 rfl ?_
    refine r_iconst C dX12_cast_9 ?_
    refine r_bipush C dX12_cast_10 rfl ?_
    obtain ⟨r3, h3, hq3, hf⟩ := bd_s hf
    refine r_cS3 C (am_X12_in (gl g) n) cm_X12_in w_1496 dX12_cast_12 ⟨Nat.le_of_ble_eq_true rfl, Nat.le_of_ble_eq_true rfl⟩ cv2 (in32_of rfl) (in32_of rfl) rfl (Nat.le_of_ble_eq_true rfl) hq3 (by decide) (fun c3 => ?_)
    have c3 : in32 _ := c3
    refine r_if_ne C dX12_cast_15 (tgt := 20) (by decide) c3 (fun n4 => ?_) (fun n4 => ?_)
    · have hf := ite_n n4 hf
      refine r_aload_n C dX12_cast_20 rfl ?_
      obtain ⟨q5, hf⟩ := gf_s hf
      refine r_gf C ct12 (j := 1) (ji := 1) dX12_cast_21 q5 rfl rfl (by decide) w_1426 rfl (fun c5 => ?_)
      refine r_sipush C dX12_cast_24 rfl ?_
      refine r_iload_n C dX12_cast_27 rfl ?_
      refine r_iadd C dX12_cast_28 ?_
      obtain ⟨q6, hf⟩ := rd_s hf
      refine r_iald C dX12_cast_29 q6 rfl (fun c6 => ?_)
      refine r_iload_n C dX12_cast_30 rfl ?_
      obtain ⟨r7, h7, hq7, hf⟩ := bd_s hf
      refine r_cS2 C (am_X12_isUnder (gl g) n) cm_X12_isUnder w_1730 dX12_cast_31 ⟨Nat.le_of_ble_eq_true rfl, Nat.le_of_ble_eq_true rfl⟩ c6 cv2 rfl (Nat.le_of_ble_eq_true rfl) hq7 (by decide) (fun c7 => ?_)
      have c7 : in32 _ := c7
      refine r_if_eq C dX12_cast_34 (tgt := 45) (by decide) c7 (fun n8 => ?_) (fun n8 => ?_)
      · have hf := ite_p n8 hf
        refine r_bipush C dX12_cast_45 rfl ?_
        exact G.mask [false, false, false] rfl rfl (b_X12_cast_47 C hr  (in32_of rfl) hf)
      · have hf := ite_n n8 hf
        refine r_aload_n C dX12_cast_37 rfl ?_
        refine r_iload_n C dX12_cast_38 rfl ?_
        obtain ⟨p9, hf⟩ := gk_s hf
        obtain ⟨r9, h9, hq9, hf⟩ := bd_s hf
        refine r_cV1 C (am_X12_worth (gl g) n) cm_X12_worth w_1733 dX12_cast_39 ⟨Nat.le_of_ble_eq_true rfl, Nat.le_of_ble_eq_true rfl⟩ p9 rfl cv1 rfl (Nat.le_of_ble_eq_true rfl) hq9 (by decide) (fun c9 => ?_)
        have c9 : in32 _ := c9
        refine r_goto C dX12_cast_42 (tgt := 47) (by decide) ?_
        exact G.mask [false, false, false] rfl rfl (b_X12_cast_47 C hr  c9 hf)
    · have hf := ite_p n4 hf
      exact G.mask [false, false, false] rfl rfl (b_X12_cast_18 C hr   hf)
set_option maxRecDepth 20000 in
theorem am_X12_cast (l : Launch) (n : Nat) : AM l yX12_cast cX12_cast 3 (some .int) 5 105 [2, 0, 0] 0 (un3 (f_X12_cast n)) := by
  refine AM.intro (by decide) (fun xs hx => ?_) (fun g xs h Z hl C hr hx hf => ?_)
  · obtain ⟨a0, a1, a2, rfl, c0, c1, c2⟩ := canL_3 hx
    exact Nat.le_of_ble_eq_true rfl
  · obtain ⟨a0, a1, a2, rfl, c0, c1, c2⟩ := canL_3 hx
    have hf := (un3_e _ a0 a1 a2 _).symm.trans hf
    exact e_X12_cast (n := n) C hr c0 c1 c2 hf
/-! LinesPromisedModel.about(II)I -/
theorem dX12_about_0 : decode cX12_about 0 = .ok (.aload_n 0, 1) := by decide +kernel
theorem dX12_about_1 : decode cX12_about 1 = .ok (.iload_n 1, 1) := by decide +kernel
theorem dX12_about_2 : decode cX12_about 2 = .ok (.invokevirtual 62, 3) := by decide +kernel
theorem dX12_about_5 : decode cX12_about 5 = .ok (.ifCond .eq 13, 3) := by decide +kernel
theorem dX12_about_8 : decode cX12_about 8 = .ok (.iload_n 2, 1) := by decide +kernel
theorem dX12_about_9 : decode cX12_about 9 = .ok (.iconst 0, 1) := by decide +kernel
theorem dX12_about_10 : decode cX12_about 10 = .ok (.bipush 7, 2) := by decide +kernel
theorem dX12_about_12 : decode cX12_about 12 = .ok (.invokestatic 58, 3) := by decide +kernel
theorem dX12_about_15 : decode cX12_about 15 = .ok (.ifCond .ne 5, 3) := by decide +kernel
theorem dX12_about_18 : decode cX12_about 18 = .ok (.iconst (-1), 1) := by decide +kernel
theorem dX12_about_19 : decode cX12_about 19 = .ok (.ireturn, 1) := by decide +kernel
theorem dX12_about_20 : decode cX12_about 20 = .ok (.aload_n 0, 1) := by decide +kernel
theorem dX12_about_21 : decode cX12_about 21 = .ok (.getfield 8, 3) := by decide +kernel
theorem dX12_about_24 : decode cX12_about 24 = .ok (.sipush 370, 3) := by decide +kernel
theorem dX12_about_27 : decode cX12_about 27 = .ok (.iload_n 1, 1) := by decide +kernel
theorem dX12_about_28 : decode cX12_about 28 = .ok (.iadd, 1) := by decide +kernel
theorem dX12_about_29 : decode cX12_about 29 = .ok (.iaload, 1) := by decide +kernel
theorem dX12_about_30 : decode cX12_about 30 = .ok (.istore_n 3, 1) := by decide +kernel
theorem dX12_about_31 : decode cX12_about 31 = .ok (.iload_n 2, 1) := by decide +kernel
theorem dX12_about_32 : decode cX12_about 32 = .ok (.tableswitch 112 0 6 #[44, 46, 57, 68, 79, 90, 101], 44) := by decide +kernel
theorem dX12_about_76 : decode cX12_about 76 = .ok (.iload_n 3, 1) := by decide +kernel
theorem dX12_about_77 : decode cX12_about 77 = .ok (.ireturn, 1) := by decide +kernel
theorem dX12_about_78 : decode cX12_about 78 = .ok (.aload_n 0, 1) := by decide +kernel
theorem dX12_about_79 : decode cX12_about 79 = .ok (.getfield 8, 3) := by decide +kernel
theorem dX12_about_82 : decode cX12_about 82 = .ok (.sipush 430, 3) := by decide +kernel
theorem dX12_about_85 : decode cX12_about 85 = .ok (.iload_n 1, 1) := by decide +kernel
theorem dX12_about_86 : decode cX12_about 86 = .ok (.iadd, 1) := by decide +kernel
theorem dX12_about_87 : decode cX12_about 87 = .ok (.iaload, 1) := by decide +kernel
theorem dX12_about_88 : decode cX12_about 88 = .ok (.ireturn, 1) := by decide +kernel
theorem dX12_about_89 : decode cX12_about 89 = .ok (.aload_n 0, 1) := by decide +kernel
theorem dX12_about_90 : decode cX12_about 90 = .ok (.getfield 8, 3) := by decide +kernel
theorem dX12_about_93 : decode cX12_about 93 = .ok (.sipush 490, 3) := by decide +kernel
theorem dX12_about_96 : decode cX12_about 96 = .ok (.iload_n 1, 1) := by decide +kernel
theorem dX12_about_97 : decode cX12_about 97 = .ok (.iadd, 1) := by decide +kernel
theorem dX12_about_98 : decode cX12_about 98 = .ok (.iaload, 1) := by decide +kernel
theorem dX12_about_99 : decode cX12_about 99 = .ok (.ireturn, 1) := by decide +kernel
theorem dX12_about_100 : decode cX12_about 100 = .ok (.aload_n 0, 1) := by decide +kernel
theorem dX12_about_101 : decode cX12_about 101 = .ok (.getfield 8, 3) := by decide +kernel
theorem dX12_about_104 : decode cX12_about 104 = .ok (.sipush 550, 3) := by decide +kernel
theorem dX12_about_107 : decode cX12_about 107 = .ok (.iload_n 1, 1) := by decide +kernel
theorem dX12_about_108 : decode cX12_about 108 = .ok (.iadd, 1) := by decide +kernel
theorem dX12_about_109 : decode cX12_about 109 = .ok (.iaload, 1) := by decide +kernel
theorem dX12_about_110 : decode cX12_about 110 = .ok (.ireturn, 1) := by decide +kernel
theorem dX12_about_111 : decode cX12_about 111 = .ok (.aload_n 0, 1) := by decide +kernel
theorem dX12_about_112 : decode cX12_about 112 = .ok (.getfield 8, 3) := by decide +kernel
theorem dX12_about_115 : decode cX12_about 115 = .ok (.sipush 610, 3) := by decide +kernel
theorem dX12_about_118 : decode cX12_about 118 = .ok (.iload_n 1, 1) := by decide +kernel
theorem dX12_about_119 : decode cX12_about 119 = .ok (.iadd, 1) := by decide +kernel
theorem dX12_about_120 : decode cX12_about 120 = .ok (.iaload, 1) := by decide +kernel
theorem dX12_about_121 : decode cX12_about 121 = .ok (.ireturn, 1) := by decide +kernel
theorem dX12_about_122 : decode cX12_about 122 = .ok (.aload_n 0, 1) := by decide +kernel
theorem dX12_about_123 : decode cX12_about 123 = .ok (.getfield 8, 3) := by decide +kernel
theorem dX12_about_126 : decode cX12_about 126 = .ok (.sipush 670, 3) := by decide +kernel
theorem dX12_about_129 : decode cX12_about 129 = .ok (.iload_n 1, 1) := by decide +kernel
theorem dX12_about_130 : decode cX12_about 130 = .ok (.iadd, 1) := by decide +kernel
theorem dX12_about_131 : decode cX12_about 131 = .ok (.iaload, 1) := by decide +kernel
theorem dX12_about_132 : decode cX12_about 132 = .ok (.ireturn, 1) := by decide +kernel
theorem dX12_about_133 : decode cX12_about 133 = .ok (.aload_n 0, 1) := by decide +kernel
theorem dX12_about_134 : decode cX12_about 134 = .ok (.getfield 8, 3) := by decide +kernel
theorem dX12_about_137 : decode cX12_about 137 = .ok (.sipush 730, 3) := by decide +kernel
theorem dX12_about_140 : decode cX12_about 140 = .ok (.iload_n 1, 1) := by decide +kernel
theorem dX12_about_141 : decode cX12_about 141 = .ok (.iadd, 1) := by decide +kernel
theorem dX12_about_142 : decode cX12_about 142 = .ok (.iaload, 1) := by decide +kernel
theorem dX12_about_143 : decode cX12_about 143 = .ok (.ireturn, 1) := by decide +kernel
theorem dX12_about_144 : decode cX12_about 144 = .ok (.aload_n 0, 1) := by decide +kernel
theorem dX12_about_145 : decode cX12_about 145 = .ok (.getfield 8, 3) := by decide +kernel
theorem dX12_about_148 : decode cX12_about 148 = .ok (.sipush 790, 3) := by decide +kernel
theorem dX12_about_151 : decode cX12_about 151 = .ok (.iload_n 1, 1) := by decide +kernel
theorem dX12_about_152 : decode cX12_about 152 = .ok (.iadd, 1) := by decide +kernel
theorem dX12_about_153 : decode cX12_about 153 = .ok (.iaload, 1) := by decide +kernel
theorem dX12_about_154 : decode cX12_about 154 = .ok (.ireturn, 1) := by decide +kernel
theorem cm_X12_about : CM yX12_about cX12_about 4 (some .int) 2 12 := ⟨w_1738, w_1739, w_1740, w_97, ⟨by decide +kernel, by decide +kernel, by decide +kernel⟩, ⟨_, _, rfl⟩, by decide⟩
noncomputable def f_X12_about_18 (n : Nat)  (h : MM) : RR :=
  some ((-1), h)
noncomputable def f_X12_about (n : Nat) (v0 v1 v2 : Int) (h : MM) : RR :=
  gk h v0 12 <|
  bd (f_X12_isPaper n v0 v1 h) fun r1 h1 =>
  if r1 = 0 then
    f_X12_about_18 n h1
  else
  bd (f_X12_in n v2 0 7 h1) fun r3 h3 =>
  if r3 = 0 then
    f_X12_about_18 n h3
  else
  gf h3 v0 12 1 fun r5 =>
  rd h3 r5 100 (wr (370 + v1)) fun r6 =>
  if v2 = 0 then
    some (r6, h3)
  else
  if v2 = 1 then
    gf h3 v0 12 1 fun r9 =>
    rd h3 r9 100 (wr (430 + v1)) fun r10 =>
    some (r10, h3)
  else
  if v2 = 2 then
    gf h3 v0 12 1 fun r12 =>
    rd h3 r12 100 (wr (490 + v1)) fun r13 =>
    some (r13, h3)
  else
  if v2 = 3 then
    gf h3 v0 12 1 fun r15 =>
    rd h3 r15 100 (wr (550 + v1)) fun r16 =>
    some (r16, h3)
  else
  if v2 = 4 then
    gf h3 v0 12 1 fun r18 =>
    rd h3 r18 100 (wr (610 + v1)) fun r19 =>
    some (r19, h3)
  else
  if v2 = 5 then
    gf h3 v0 12 1 fun r21 =>
    rd h3 r21 100 (wr (670 + v1)) fun r22 =>
    some (r22, h3)
  else
  if v2 = 6 then
    gf h3 v0 12 1 fun r24 =>
    rd h3 r24 100 (wr (730 + v1)) fun r25 =>
    some (r25, h3)
  else
  gf h3 v0 12 1 fun r26 =>
  rd h3 r26 100 (wr (790 + v1)) fun r27 =>
  some (r27, h3)
set_option maxRecDepth 20000 in
theorem b_X12_about_18 {g : GT} {Z : Int × MM} {n : Nat} (C : Cx g cX12_about 4 yX12_about 2 43) (hr : Rt g (some .int) 0 Z)     {h : MM} (hf : f_X12_about_18 n   h = some Z) : G g 18 [(3, 0), (3, 0), (3, 0), (3, 0)] [] h := by
  unfold f_X12_about_18 at hf
  refine r_iconst C dX12_about_18 ?_
  cases hf
  exact r_jret C hr dX12_about_19 (in32_of rfl)
set_option maxRecDepth 20000 in
theorem e_X12_about {g : GT} {Z : Int × MM} {n : Nat} (C : Cx g cX12_about 4 yX12_about 2 43) (hr : Rt g (some .int) 0 Z) {v0 v1 v2 : Int} (cv0 : cK 2 v0) (cv1 : cK 0 v1) (cv2 : cK 0 v2) {h : MM} (hf : f_X12_about n v0 v1 v2 h = some Z) : G g 0 [(2, v0), (0, v1), (0, v2), (3, 0)] [] h := by
  have cv1 : in32 v1 := cv1
  have cv2 : in32 v2 := cv2
  unfold f_X12_about at hf
  refine r_aload_n C dX12_about_0 rfl ?_
  refine r_iload_n C dX12_about_1 rfl ?_
  obtain ⟨p1, hf⟩ := gk_s hf
  obtain ⟨r1, h1, hq1, hf⟩ := bd_s hf
  refine r_cV1 C (am_X12_isPaper (gl g) n) cm_X12_isPaper w_1611 dX12_about_2 ⟨Nat.le_of_ble_eq_true rfl, Nat.le_of_ble_eq_true rfl⟩ p1 rfl cv1 rfl (Nat.le_of_ble_eq_true rfl) hq1 (by decide) (fun c1 => ?_)
  have c1 : in32 _ := c1
  refine r_if_eq C dX12_about_5 (tgt := 18) (by decide) c1 (fun n2 => ?_) (fun n2 => ?_)
  · have hf := ite_p n2 hf
    exact G.mask [false, false, false, false] rfl rfl (b_X12_about_18 C hr   hf)
  · have hf := ite_n n2 hf
    refine r_iload_n C dX12_about_8 rfl ?_
    refine r_iconst C dX12_about_9 ?_
    refine r_bipush C dX12_about_10 rfl ?_
    obtain ⟨r3, h3, hq3, hf⟩ := bd_s hf
    refine r_cS3 C (am_X12_in (gl g) n) cm_X12_in w_1496 dX12_about_12 ⟨Nat.le_of_ble_eq_true rfl, Nat.le_of_ble_eq_true rfl⟩ cv2 (in32_of rfl) (in32_of rfl) rfl (Nat.le_of_ble_eq_true rfl) hq3 (by decide) (fun c3 => ?_)
    have c3 : in32 _ := c3
    refine r_if_ne C dX12_about_15 (tgt := 20) (by decide) c3 (fun n4 => ?_) (fun n4 => ?_)
    · have hf := ite_n n4 hf
      refine r_aload_n C dX12_about_20 rfl ?_
      obtain ⟨q5, hf⟩ := gf_s hf
      refine r_gf C ct12 (j := 1) (ji := 1) dX12_about_21 q5 rfl rfl (by decide) w_1426 rfl (fun c5 => ?_)
      refine r_sipush C dX12_about_24 rfl ?_
      refine r_iload_n C dX12_about_27 rfl ?_
      refine r_iadd C dX12_about_28 ?_
      obtain ⟨q6, hf⟩ := rd_s hf
      refine r_iald C dX12_about_29 q6 rfl (fun c6 => ?_)
      refine r_istore_n C dX12_about_30 (Nat.le_of_ble_eq_true rfl) rfl ?_
      refine r_iload_n C dX12_about_31 rfl ?_
      rcases ite_s hf with ⟨n7, hf⟩ | ⟨n7, hf⟩
      · refine r_tsw C dX12_about_32 (tgt := 76) cv2 n7 rfl rfl (by decide) ?_
        refine r_iload_n C dX12_about_76 rfl ?_
        cases hf
        exact r_jret C hr dX12_about_77 c6
      rcases ite_s hf with ⟨n8, hf⟩ | ⟨n8, hf⟩
      · refine r_tsw C dX12_about_32 (tgt := 78) cv2 n8 rfl rfl (by decide) ?_
        refine r_aload_n C dX12_about_78 rfl ?_
        obtain ⟨q9, hf⟩ := gf_s hf
        refine r_gf C ct12 (j := 1) (ji := 1) dX12_about_79 q9 rfl rfl (by decide) w_1426 rfl (fun c9 => ?_)
        refine r_sipush C dX12_about_82 rfl ?_
        refine r_iload_n C dX12_about_85 rfl ?_
        refine r_iadd C dX12_about_86 ?_
        obtain ⟨q10, hf⟩ := rd_s hf
        refine r_iald C dX12_about_87 q10 rfl (fun c10 => ?_)
        cases hf
        exact r_jret C hr dX12_about_88 c10
      rcases ite_s hf with ⟨n11, hf⟩ | ⟨n11, hf⟩
      · refine r_tsw C dX12_about_32 (tgt := 89) cv2 n11 rfl rfl (by decide) ?_
        refine r_aload_n C dX12_about_89 rfl ?_
        obtain ⟨q12, hf⟩ := gf_s hf
        refine r_gf C ct12 (j := 1) (ji := 1) dX12_about_90 q12 rfl rfl (by decide) w_1426 rfl (fun c12 => ?_)
        refine r_sipush C dX12_about_93 rfl ?_
        refine r_iload_n C dX12_about_96 rfl ?_
        refine r_iadd C dX12_about_97 ?_
        obtain ⟨q13, hf⟩ := rd_s hf
        refine r_iald C dX12_about_98 q13 rfl (fun c13 => ?_)
        cases hf
        exact r_jret C hr dX12_about_99 c13
      rcases ite_s hf with ⟨n14, hf⟩ | ⟨n14, hf⟩
      · refine r_tsw C dX12_about_32 (tgt := 100) cv2 n14 rfl rfl (by decide) ?_
        refine r_aload_n C dX12_about_100 rfl ?_
        obtain ⟨q15, hf⟩ := gf_s hf
        refine r_gf C ct12 (j := 1) (ji := 1) dX12_about_101 q15 rfl rfl (by decide) w_1426 rfl (fun c15 => ?_)
        refine r_sipush C dX12_about_104 rfl ?_
        refine r_iload_n C dX12_about_107 rfl ?_
        refine r_iadd C dX12_about_108 ?_
        obtain ⟨q16, hf⟩ := rd_s hf
        refine r_iald C dX12_about_109 q16 rfl (fun c16 => ?_)
        cases hf
        exact r_jret C hr dX12_about_110 c16
      rcases ite_s hf with ⟨n17, hf⟩ | ⟨n17, hf⟩
      · refine r_tsw C dX12_about_32 (tgt := 111) cv2 n17 rfl rfl (by decide) ?_
        refine r_aload_n C dX12_about_111 rfl ?_
        obtain ⟨q18, hf⟩ := gf_s hf
        refine r_gf C ct12 (j := 1) (ji := 1) dX12_about_112 q18 rfl rfl (by decide) w_1426 rfl (fun c18 => ?_)
        refine r_sipush C dX12_about_115 rfl ?_
        refine r_iload_n C dX12_about_118 rfl ?_
        refine r_iadd C dX12_about_119 ?_
        obtain ⟨q19, hf⟩ := rd_s hf
        refine r_iald C dX12_about_120 q19 rfl (fun c19 => ?_)
        cases hf
        exact r_jret C hr dX12_about_121 c19
      rcases ite_s hf with ⟨n20, hf⟩ | ⟨n20, hf⟩
      · refine r_tsw C dX12_about_32 (tgt := 122) cv2 n20 rfl rfl (by decide) ?_
        refine r_aload_n C dX12_about_122 rfl ?_
        obtain ⟨q21, hf⟩ := gf_s hf
        refine r_gf C ct12 (j := 1) (ji := 1) dX12_about_123 q21 rfl rfl (by decide) w_1426 rfl (fun c21 => ?_)
        refine r_sipush C dX12_about_126 rfl ?_
        refine r_iload_n C dX12_about_129 rfl ?_
        refine r_iadd C dX12_about_130 ?_
        obtain ⟨q22, hf⟩ := rd_s hf
        refine r_iald C dX12_about_131 q22 rfl (fun c22 => ?_)
        cases hf
        exact r_jret C hr dX12_about_132 c22
      rcases ite_s hf with ⟨n23, hf⟩ | ⟨n23, hf⟩
      · refine r_tsw C dX12_about_32 (tgt := 133) cv2 n23 rfl rfl (by decide) ?_
        refine r_aload_n C dX12_about_133 rfl ?_
        obtain ⟨q24, hf⟩ := gf_s hf
        refine r_gf C ct12 (j := 1) (ji := 1) dX12_about_134 q24 rfl rfl (by decide) w_1426 rfl (fun c24 => ?_)
        refine r_sipush C dX12_about_137 rfl ?_
        refine r_iload_n C dX12_about_140 rfl ?_
        refine r_iadd C dX12_about_141 ?_
        obtain ⟨q25, hf⟩ := rd_s hf
        refine r_iald C dX12_about_142 q25 rfl (fun c25 => ?_)
        cases hf
        exact r_jret C hr dX12_about_143 c25
      refine r_tswd C dX12_about_32 (tgt := 144) cv2 (by omega) (by decide) ?_
      refine r_aload_n C dX12_about_144 rfl ?_
      obtain ⟨q26, hf⟩ := gf_s hf
      refine r_gf C ct12 (j := 1) (ji := 1) dX12_about_145 q26 rfl rfl (by decide) w_1426 rfl (fun c26 => ?_)
      refine r_sipush C dX12_about_148 rfl ?_
      refine r_iload_n C dX12_about_151 rfl ?_
      refine r_iadd C dX12_about_152 ?_
      obtain ⟨q27, hf⟩ := rd_s hf
      refine r_iald C dX12_about_153 q27 rfl (fun c27 => ?_)
      cases hf
      exact r_jret C hr dX12_about_154 c27
    · have hf := ite_p n4 hf
      exact G.mask [false, false, false, false] rfl rfl (b_X12_about_18 C hr   hf)
set_option maxRecDepth 20000 in
theorem am_X12_about (l : Launch) (n : Nat) : AM l yX12_about cX12_about 4 (some .int) 2 43 [2, 0, 0] 0 (un3 (f_X12_about n)) := by
  refine AM.intro (by decide) (fun xs hx => ?_) (fun g xs h Z hl C hr hx hf => ?_)
  · obtain ⟨a0, a1, a2, rfl, c0, c1, c2⟩ := canL_3 hx
    exact Nat.le_of_ble_eq_true rfl
  · obtain ⟨a0, a1, a2, rfl, c0, c1, c2⟩ := canL_3 hx
    have hf := (un3_e _ a0 a1 a2 _).symm.trans hf
    exact e_X12_about (n := n) C hr c0 c1 c2 hf
/-! LinesPromisedModel.board(IIZ)I -/
theorem dX12_board_0 : decode cX12_board 0 = .ok (.iload_n 1, 1) := by decide +kernel
theorem dX12_board_1 : decode cX12_board 1 = .ok (.invokestatic 69, 3) := by decide +kernel
theorem dX12_board_4 : decode cX12_board 4 = .ok (.ifCond .eq 12, 3) := by decide +kernel
theorem dX12_board_7 : decode cX12_board 7 = .ok (.aload_n 0, 1) := by decide +kernel
theorem dX12_board_8 : decode cX12_board 8 = .ok (.iload_n 2, 1) := by decide +kernel
theorem dX12_board_9 : decode cX12_board 9 = .ok (.iconst 3, 1) := by decide +kernel
theorem dX12_board_10 : decode cX12_board 10 = .ok (.invokevirtual 165, 3) := by decide +kernel
theorem dX12_board_13 : decode cX12_board 13 = .ok (.ifCond .ne 5, 3) := by decide +kernel
theorem dX12_board_16 : decode cX12_board 16 = .ok (.iconst (-1), 1) := by decide +kernel
theorem dX12_board_17 : decode cX12_board 17 = .ok (.ireturn, 1) := by decide +kernel
theorem dX12_board_18 : decode cX12_board 18 = .ok (.aload_n 0, 1) := by decide +kernel
theorem dX12_board_19 : decode cX12_board 19 = .ok (.getfield 8, 3) := by decide +kernel
theorem dX12_board_22 : decode cX12_board 22 = .ok (.bipush 6, 2) := by decide +kernel
theorem dX12_board_24 : decode cX12_board 24 = .ok (.iaload, 1) := by decide +kernel
theorem dX12_board_25 : decode cX12_board 25 = .ok (.bipush 60, 2) := by decide +kernel
theorem dX12_board_27 : decode cX12_board 27 = .ok (.if_icmp .ne 6, 3) := by decide +kernel
theorem dX12_board_30 : decode cX12_board 30 = .ok (.bipush (-4), 2) := by decide +kernel
theorem dX12_board_32 : decode cX12_board 32 = .ok (.ireturn, 1) := by decide +kernel
theorem dX12_board_33 : decode cX12_board 33 = .ok (.aload_n 0, 1) := by decide +kernel
theorem dX12_board_34 : decode cX12_board 34 = .ok (.getfield 8, 3) := by decide +kernel
theorem dX12_board_37 : decode cX12_board 37 = .ok (.sipush 11290, 3) := by decide +kernel
theorem dX12_board_40 : decode cX12_board 40 = .ok (.aload_n 0, 1) := by decide +kernel
theorem dX12_board_41 : decode cX12_board 41 = .ok (.getfield 8, 3) := by decide +kernel
theorem dX12_board_44 : decode cX12_board 44 = .ok (.bipush 6, 2) := by decide +kernel
theorem dX12_board_46 : decode cX12_board 46 = .ok (.iaload, 1) := by decide +kernel
theorem dX12_board_47 : decode cX12_board 47 = .ok (.iadd, 1) := by decide +kernel
theorem dX12_board_48 : decode cX12_board 48 = .ok (.iload_n 1, 1) := by decide +kernel
theorem dX12_board_49 : decode cX12_board 49 = .ok (.iastore, 1) := by decide +kernel
theorem dX12_board_50 : decode cX12_board 50 = .ok (.aload_n 0, 1) := by decide +kernel
theorem dX12_board_51 : decode cX12_board 51 = .ok (.getfield 8, 3) := by decide +kernel
theorem dX12_board_54 : decode cX12_board 54 = .ok (.sipush 11350, 3) := by decide +kernel
theorem dX12_board_57 : decode cX12_board 57 = .ok (.aload_n 0, 1) := by decide +kernel
theorem dX12_board_58 : decode cX12_board 58 = .ok (.getfield 8, 3) := by decide +kernel
theorem dX12_board_61 : decode cX12_board 61 = .ok (.bipush 6, 2) := by decide +kernel
theorem dX12_board_63 : decode cX12_board 63 = .ok (.iaload, 1) := by decide +kernel
theorem dX12_board_64 : decode cX12_board 64 = .ok (.iadd, 1) := by decide +kernel
theorem dX12_board_65 : decode cX12_board 65 = .ok (.iload_n 2, 1) := by decide +kernel
theorem dX12_board_66 : decode cX12_board 66 = .ok (.iastore, 1) := by decide +kernel
theorem dX12_board_67 : decode cX12_board 67 = .ok (.aload_n 0, 1) := by decide +kernel
theorem dX12_board_68 : decode cX12_board 68 = .ok (.getfield 8, 3) := by decide +kernel
theorem dX12_board_71 : decode cX12_board 71 = .ok (.sipush 11410, 3) := by decide +kernel
theorem dX12_board_74 : decode cX12_board 74 = .ok (.aload_n 0, 1) := by decide +kernel
theorem dX12_board_75 : decode cX12_board 75 = .ok (.getfield 8, 3) := by decide +kernel
theorem dX12_board_78 : decode cX12_board 78 = .ok (.bipush 6, 2) := by decide +kernel
theorem dX12_board_80 : decode cX12_board 80 = .ok (.iaload, 1) := by decide +kernel
theorem dX12_board_81 : decode cX12_board 81 = .ok (.iadd, 1) := by decide +kernel
theorem dX12_board_82 : decode cX12_board 82 = .ok (.iload_n 3, 1) := by decide +kernel
theorem dX12_board_83 : decode cX12_board 83 = .ok (.ifCond .eq 7, 3) := by decide +kernel
theorem dX12_board_86 : decode cX12_board 86 = .ok (.iconst 1, 1) := by decide +kernel
theorem dX12_board_87 : decode cX12_board 87 = .ok (.goto 4, 3) := by decide +kernel
theorem dX12_board_90 : decode cX12_board 90 = .ok (.iconst 0, 1) := by decide +kernel
theorem dX12_board_91 : decode cX12_board 91 = .ok (.iastore, 1) := by decide +kernel
theorem dX12_board_92 : decode cX12_board 92 = .ok (.aload_n 0, 1) := by decide +kernel
theorem dX12_board_93 : decode cX12_board 93 = .ok (.getfield 8, 3) := by decide +kernel
theorem dX12_board_96 : decode cX12_board 96 = .ok (.bipush 6, 2) := by decide +kernel
theorem dX12_board_98 : decode cX12_board 98 = .ok (.dup2, 1) := by decide +kernel
theorem dX12_board_99 : decode cX12_board 99 = .ok (.iaload, 1) := by decide +kernel
theorem dX12_board_100 : decode cX12_board 100 = .ok (.iconst 1, 1) := by decide +kernel
theorem dX12_board_101 : decode cX12_board 101 = .ok (.iadd, 1) := by decide +kernel
theorem dX12_board_102 : decode cX12_board 102 = .ok (.iastore, 1) := by decide +kernel
theorem dX12_board_103 : decode cX12_board 103 = .ok (.aload_n 0, 1) := by decide +kernel
theorem dX12_board_104 : decode cX12_board 104 = .ok (.getfield 8, 3) := by decide +kernel
theorem dX12_board_107 : decode cX12_board 107 = .ok (.bipush 6, 2) := by decide +kernel
theorem dX12_board_109 : decode cX12_board 109 = .ok (.iaload, 1) := by decide +kernel
theorem dX12_board_110 : decode cX12_board 110 = .ok (.ireturn, 1) := by decide +kernel
theorem cm_X12_board : CM yX12_board cX12_board 4 (some .int) 3 12 := ⟨w_1742, w_1743, w_1744, w_97, ⟨by decide +kernel, by decide +kernel, by decide +kernel⟩, ⟨_, _, rfl⟩, by decide⟩
noncomputable def f_X12_board_16 (n : Nat)  (h : MM) : RR :=
  some ((-1), h)
noncomputable def f_X12_board_91 (n : Nat)  (v0 s0 s1 s2 : Int) (h : MM) : RR :=
  wt h s0 100 s1 s2 fun h1 =>
  gf h1 v0 12 1 fun r2 =>
  rd h1 r2 100 6 fun r3 =>
  wt h1 r2 100 6 (wr (r3 + 1)) fun h4 =>
  gf h4 v0 12 1 fun r5 =>
  rd h4 r5 100 6 fun r6 =>
  some (r6, h4)
noncomputable def f_X12_board (n : Nat) (v0 v1 v2 v3 : Int) (h : MM) : RR :=
  bd (f_X12_isHolder n v1 h) fun r1 h1 =>
  if r1 = 0 then
    f_X12_board_16 n h1
  else
  gk h1 v0 12 <|
  bd (f_X12_isOf n v0 v2 3 h1) fun r3 h3 =>
  if r3 = 0 then
    f_X12_board_16 n h3
  else
  gf h3 v0 12 1 fun r5 =>
  rd h3 r5 100 6 fun r6 =>
  if r6 = 60 then
    some ((-4), h3)
  else
  gf h3 v0 12 1 fun r8 =>
  gf h3 v0 12 1 fun r9 =>
  rd h3 r9 100 6 fun r10 =>
  wt h3 r8 100 (wr (11290 + r10)) v1 fun h11 =>
  gf h11 v0 12 1 fun r12 =>
  gf h11 v0 12 1 fun r13 =>
  rd h11 r13 100 6 fun r14 =>
  wt h11 r12 100 (wr (11350 + r14)) v2 fun h15 =>
  gf h15 v0 12 1 fun r16 =>
  gf h15 v0 12 1 fun r17 =>
  rd h15 r17 100 6 fun r18 =>
  if v3 = 0 then
    f_X12_board_91 n v0 r16 (wr (11410 + r18)) 0 h15
  else
  f_X12_board_91 n v0 r16 (wr (11410 + r18)) 1 h15
set_option maxRecDepth 20000 in
theorem b_X12_board_16 {g : GT} {Z : Int × MM} {n : Nat} (C : Cx g cX12_board 4 yX12_board 3 65) (hr : Rt g (some .int) 0 Z)     {h : MM} (hf : f_X12_board_16 n   h = some Z) : G g 16 [(3, 0), (3, 0), (3, 0), (3, 0)] [] h := by
  unfold f_X12_board_16 at hf
  refine r_iconst C dX12_board_16 ?_
  cases hf
  exact r_jret C hr dX12_board_17 (in32_of rfl)
set_option maxRecDepth 20000 in
theorem b_X12_board_91 {g : GT} {Z : Int × MM} {n : Nat} (C : Cx g cX12_board 4 yX12_board 3 65) (hr : Rt g (some .int) 0 Z) {v0 s0 s1 s2 : Int}    (cs1 : in32 s1) (cs2 : in32 s2) {h : MM} (hf : f_X12_board_91 n  v0 s0 s1 s2 h = some Z) : G g 91 [(2, v0), (3, 0), (3, 0), (3, 0)] [(0, s2), (0, s1), (2, s0)] h := by
  unfold f_X12_board_91 at hf
  obtain ⟨q1, hf⟩ := wt_s hf
  refine r_iast C dX12_board_91 q1 rfl cs2 ?_
  refine r_aload_n C dX12_board_92 rfl ?_
  obtain ⟨q2, hf⟩ := gf_s hf
  refine r_gf C ct12 (j := 1) (ji := 1) dX12_board_93 q2 rfl rfl (by decide) w_1426 rfl (fun c2 => ?_)
  refine r_bipush C dX12_board_96 rfl ?_
  refine r_dup2 C dX12_board_98 (by decide) (by decide) ?_
  obtain ⟨q3, hf⟩ := rd_s hf
  refine r_iald C dX12_board_99 q3 rfl (fun c3 => ?_)
  refine r_iconst C dX12_board_100 ?_
  refine r_iadd C dX12_board_101 ?_
  obtain ⟨q4, hf⟩ := wt_s hf
  refine r_iast C dX12_board_102 q4 rfl (in32_t _) ?_
  refine r_aload_n C dX12_board_103 rfl ?_
  obtain ⟨q5, hf⟩ := gf_s hf
  refine r_gf C ct12 (j := 1) (ji := 1) dX12_board_104 q5 rfl rfl (by decide) w_1426 rfl (fun c5 => ?_)
  refine r_bipush C dX12_board_107 rfl ?_
  obtain ⟨q6, hf⟩ := rd_s hf
  refine r_iald C dX12_board_109 q6 rfl (fun c6 => ?_)
  cases hf
  exact r_jret C hr dX12_board_110 c6
set_option maxRecDepth 20000 in
theorem e_X12_board {g : GT} {Z : Int × MM} {n : Nat} (C : Cx g cX12_board 4 yX12_board 3 65) (hr : Rt g (some .int) 0 Z) {v0 v1 v2 v3 : Int} (cv0 : cK 2 v0) (cv1 : cK 0 v1) (cv2 : cK 0 v2) (cv3 : cK 0 v3) {h : MM} (hf : f_X12_board n v0 v1 v2 v3 h = some Z) : G g 0 [(2, v0), (0, v1), (0, v2), (0, v3)] [] h := by
  have cv1 : in32 v1 := cv1
  have cv2 : in32 v2 := cv2
  have cv3 : in32 v3 := cv3
  unfold f_X12_board at hf
  refine r_iload_n C dX12_board_0 rfl ?_
  obtain ⟨r1, h1, hq1, hf⟩ := bd_s hf
  refine r_cS1 C (am_X12_isHolder (gl g) n) cm_X12_isHolder w_1507 dX12_board_1 ⟨Nat.le_of_ble_eq_true rfl, Nat.le_of_ble_eq_true rfl⟩ cv1 rfl (Nat.le_of_ble_eq_true rfl) hq1 (by decide) (fun c1 => ?_)
  have c1 : in32 _ := c1
  refine r_if_eq C dX12_board_4 (tgt := 16) (by decide) c1 (fun n2 => ?_) (fun n2 => ?_)
  · have hf := ite_p n2 hf
    exact G.mask [false, false, false, false] rfl rfl (b_X12_board_16 C hr   hf)
  · have hf := ite_n n2 hf
    refine r_aload_n C dX12_board_7 rfl ?_
    refine r_iload_n C dX12_board_8 rfl ?_
    refine r_iconst C dX12_board_9 ?_
    obtain ⟨p3, hf⟩ := gk_s hf
    obtain ⟨r3, h3, hq3, hf⟩ := bd_s hf
    refine r_cV2 C (am_X12_isOf (gl g) n) cm_X12_isOf w_1607 dX12_board_10 ⟨Nat.le_of_ble_eq_true rfl, Nat.le_of_ble_eq_true rfl⟩ p3 rfl cv2 (in32_of rfl) rfl (Nat.le_of_ble_eq_true rfl) hq3 (by decide) (fun c3 => ?_)
    have c3 : in32 _ := c3
    refine r_if_ne C dX12_board_13 (tgt := 18) (by decide) c3 (fun n4 => ?_) (fun n4 => ?_)
    · have hf := ite_n n4 hf
      refine r_aload_n C dX12_board_18 rfl ?_
      obtain ⟨q5, hf⟩ := gf_s hf
      refine r_gf C ct12 (j := 1) (ji := 1) dX12_board_19 q5 rfl rfl (by decide) w_1426 rfl (fun c5 => ?_)
      refine r_bipush C dX12_board_22 rfl ?_
      obtain ⟨q6, hf⟩ := rd_s hf
      refine r_iald C dX12_board_24 q6 rfl (fun c6 => ?_)
      refine r_bipush C dX12_board_25 rfl ?_
      refine r_icmp_ne C dX12_board_27 (tgt := 33) (by decide) c6 (in32_of rfl) (fun n7 => ?_) (fun n7 => ?_)
      · have hf := ite_n n7 hf
        refine r_aload_n C dX12_board_33 rfl ?_
        obtain ⟨q8, hf⟩ := gf_s hf
        refine r_gf C ct12 (j := 1) (ji := 1) dX12_board_34 q8 rfl rfl (by decide) w_1426 rfl (fun c8 => ?_)
        refine r_sipush C dX12_board_37 rfl ?_
        refine r_aload_n C dX12_board_40 rfl ?_
        obtain ⟨q9, hf⟩ := gf_s hf
        refine r_gf C ct12 (j := 1) (ji := 1) dX12_board_41 q9 rfl rfl (by decide) w_1426 rfl (fun c9 => ?_)
        refine r_bipush C dX12_board_44 rfl ?_
        obtain ⟨q10, hf⟩ := rd_s hf
        refine r_iald C dX12_board_46 q10 rfl (fun c10 => ?_)
        refine r_iadd C dX12_board_47 ?_
        refine r_iload_n C dX12_board_48 rfl ?_
        obtain ⟨q11, hf⟩ := wt_s hf
        refine r_iast C dX12_board_49 q11 rfl cv1 ?_
        refine r_aload_n C dX12_board_50 rfl ?_
        obtain ⟨q12, hf⟩ := gf_s hf
        refine r_gf C ct12 (j := 1) (ji := 1) dX12_board_51 q12 rfl rfl (by decide) w_1426 rfl (fun c12 => ?_)
        refine r_sipush C dX12_board_54 rfl ?_
        refine r_aload_n C dX12_board_57 rfl ?_
        obtain ⟨q13, hf⟩ := gf_s hf
        refine r_gf C ct12 (j := 1) (ji := 1) dX12_board_58 q13 rfl rfl (by decide) w_1426 rfl (fun c13 => ?_)
        refine r_bipush C dX12_board_61 rfl ?_
        obtain ⟨q14, hf⟩ := rd_s hf
        refine r_iald C dX12_board_63 q14 rfl (fun c14 => ?_)
        refine r_iadd C dX12_board_64 ?_
        refine r_iload_n C dX12_board_65 rfl ?_
        obtain ⟨q15, hf⟩ := wt_s hf
        refine r_iast C dX12_board_66 q15 rfl cv2 ?_
        refine r_aload_n C dX12_board_67 rfl ?_
        obtain ⟨q16, hf⟩ := gf_s hf
        refine r_gf C ct12 (j := 1) (ji := 1) dX12_board_68 q16 rfl rfl (by decide) w_1426 rfl (fun c16 => ?_)
        refine r_sipush C dX12_board_71 rfl ?_
        refine r_aload_n C dX12_board_74 rfl ?_
        obtain ⟨q17, hf⟩ := gf_s hf
        refine r_gf C ct12 (j := 1) (ji := 1) dX12_board_75 q17 rfl rfl (by decide) w_1426 rfl (fun c17 => ?_)
        refine r_bipush C dX12_board_78 rfl ?_
        obtain ⟨q18, hf⟩ := rd_s hf
        refine r_iald C dX12_board_80 q18 rfl (fun c18 => ?_)
        refine r_iadd C dX12_board_81 ?_
        refine r_iload_n C dX12_board_82 rfl ?_
        refine r_if_eq C dX12_board_83 (tgt := 90) (by decide) cv3 (fun n19 => ?_) (fun n19 => ?_)
        · have hf := ite_p n19 hf
          refine r_iconst C dX12_board_90 ?_
          exact G.mask [true, false, false, false] rfl rfl (b_X12_board_91 C hr  (in32_t _) (in32_of rfl) hf)
        · have hf := ite_n n19 hf
          refine r_iconst C dX12_board_86 ?_
          refine r_goto C dX12_board_87 (tgt := 91) (by decide) ?_
          exact G.mask [true, false, false, false] rfl rfl (b_X12_board_91 C hr  (in32_t _) (in32_of rfl) hf)
      · have hf := ite_p n7 hf
        refine r_bipush C dX12_board_30 rfl ?_
        cases hf
        exact r_jret C hr dX12_board_32 (in32_of rfl)
    · have hf := ite_p n4 hf
      exact G.mask [false, false, false, false] rfl rfl (b_X12_board_16 C hr   hf)
set_option maxRecDepth 20000 in
theorem am_X12_board (l : Launch) (n : Nat) : AM l yX12_board cX12_board 4 (some .int) 3 65 [2, 0, 0, 0] 0 (un4 (f_X12_board n)) := by
  refine AM.intro (by decide) (fun xs hx => ?_) (fun g xs h Z hl C hr hx hf => ?_)
  · obtain ⟨a0, a1, a2, a3, rfl, c0, c1, c2, c3⟩ := canL_4 hx
    exact Nat.le_of_ble_eq_true rfl
  · obtain ⟨a0, a1, a2, a3, rfl, c0, c1, c2, c3⟩ := canL_4 hx
    have hf := (un4_e _ a0 a1 a2 a3 _).symm.trans hf
    exact e_X12_board (n := n) C hr c0 c1 c2 c3 hf
/-! LinesPromisedModel.doubled()I -/
theorem dX12_doubled_0 : decode cX12_doubled 0 = .ok (.iconst 0, 1) := by decide +kernel
theorem dX12_doubled_1 : decode cX12_doubled 1 = .ok (.istore_n 1, 1) := by decide +kernel
theorem dX12_doubled_2 : decode cX12_doubled 2 = .ok (.iconst 0, 1) := by decide +kernel
theorem dX12_doubled_3 : decode cX12_doubled 3 = .ok (.istore_n 2, 1) := by decide +kernel
theorem dX12_doubled_4 : decode cX12_doubled 4 = .ok (.iload_n 2, 1) := by decide +kernel
theorem dX12_doubled_5 : decode cX12_doubled 5 = .ok (.aload_n 0, 1) := by decide +kernel
theorem dX12_doubled_6 : decode cX12_doubled 6 = .ok (.getfield 8, 3) := by decide +kernel
theorem dX12_doubled_9 : decode cX12_doubled 9 = .ok (.bipush 6, 2) := by decide +kernel
theorem dX12_doubled_11 : decode cX12_doubled 11 = .ok (.iaload, 1) := by decide +kernel
theorem dX12_doubled_12 : decode cX12_doubled 12 = .ok (.if_icmp .ge 122, 3) := by decide +kernel
theorem dX12_doubled_15 : decode cX12_doubled 15 = .ok (.iconst 0, 1) := by decide +kernel
theorem dX12_doubled_16 : decode cX12_doubled 16 = .ok (.istore_n 3, 1) := by decide +kernel
theorem dX12_doubled_17 : decode cX12_doubled 17 = .ok (.iload_n 3, 1) := by decide +kernel
theorem dX12_doubled_18 : decode cX12_doubled 18 = .ok (.iload_n 2, 1) := by decide +kernel
theorem dX12_doubled_19 : decode cX12_doubled 19 = .ok (.if_icmp .ge 109, 3) := by decide +kernel
theorem dX12_doubled_22 : decode cX12_doubled 22 = .ok (.aload_n 0, 1) := by decide +kernel
theorem dX12_doubled_23 : decode cX12_doubled 23 = .ok (.getfield 8, 3) := by decide +kernel
theorem dX12_doubled_26 : decode cX12_doubled 26 = .ok (.sipush 11290, 3) := by decide +kernel
theorem dX12_doubled_29 : decode cX12_doubled 29 = .ok (.iload_n 2, 1) := by decide +kernel
theorem dX12_doubled_30 : decode cX12_doubled 30 = .ok (.iadd, 1) := by decide +kernel
theorem dX12_doubled_31 : decode cX12_doubled 31 = .ok (.iaload, 1) := by decide +kernel
theorem dX12_doubled_32 : decode cX12_doubled 32 = .ok (.aload_n 0, 1) := by decide +kernel
theorem dX12_doubled_33 : decode cX12_doubled 33 = .ok (.getfield 8, 3) := by decide +kernel
theorem dX12_doubled_36 : decode cX12_doubled 36 = .ok (.sipush 11290, 3) := by decide +kernel
theorem dX12_doubled_39 : decode cX12_doubled 39 = .ok (.iload_n 3, 1) := by decide +kernel
theorem dX12_doubled_40 : decode cX12_doubled 40 = .ok (.iadd, 1) := by decide +kernel
theorem dX12_doubled_41 : decode cX12_doubled 41 = .ok (.iaload, 1) := by decide +kernel
theorem dX12_doubled_42 : decode cX12_doubled 42 = .ok (.if_icmp .ne 53, 3) := by decide +kernel
theorem dX12_doubled_45 : decode cX12_doubled 45 = .ok (.aload_n 0, 1) := by decide +kernel
theorem dX12_doubled_46 : decode cX12_doubled 46 = .ok (.getfield 8, 3) := by decide +kernel
theorem dX12_doubled_49 : decode cX12_doubled 49 = .ok (.sipush 11350, 3) := by decide +kernel
theorem dX12_doubled_52 : decode cX12_doubled 52 = .ok (.iload_n 2, 1) := by decide +kernel
theorem dX12_doubled_53 : decode cX12_doubled 53 = .ok (.iadd, 1) := by decide +kernel
theorem dX12_doubled_54 : decode cX12_doubled 54 = .ok (.iaload, 1) := by decide +kernel
theorem dX12_doubled_55 : decode cX12_doubled 55 = .ok (.aload_n 0, 1) := by decide +kernel
theorem dX12_doubled_56 : decode cX12_doubled 56 = .ok (.getfield 8, 3) := by decide +kernel
theorem dX12_doubled_59 : decode cX12_doubled 59 = .ok (.sipush 11350, 3) := by decide +kernel
theorem dX12_doubled_62 : decode cX12_doubled 62 = .ok (.iload_n 3, 1) := by decide +kernel
theorem dX12_doubled_63 : decode cX12_doubled 63 = .ok (.iadd, 1) := by decide +kernel
theorem dX12_doubled_64 : decode cX12_doubled 64 = .ok (.iaload, 1) := by decide +kernel
theorem dX12_doubled_65 : decode cX12_doubled 65 = .ok (.if_icmp .ne 30, 3) := by decide +kernel
theorem dX12_doubled_68 : decode cX12_doubled 68 = .ok (.aload_n 0, 1) := by decide +kernel
theorem dX12_doubled_69 : decode cX12_doubled 69 = .ok (.getfield 8, 3) := by decide +kernel
theorem dX12_doubled_72 : decode cX12_doubled 72 = .ok (.sipush 11410, 3) := by decide +kernel
theorem dX12_doubled_75 : decode cX12_doubled 75 = .ok (.iload_n 2, 1) := by decide +kernel
theorem dX12_doubled_76 : decode cX12_doubled 76 = .ok (.iadd, 1) := by decide +kernel
theorem dX12_doubled_77 : decode cX12_doubled 77 = .ok (.iaload, 1) := by decide +kernel
theorem dX12_doubled_78 : decode cX12_doubled 78 = .ok (.aload_n 0, 1) := by decide +kernel
theorem dX12_doubled_79 : decode cX12_doubled 79 = .ok (.getfield 8, 3) := by decide +kernel
theorem dX12_doubled_82 : decode cX12_doubled 82 = .ok (.sipush 11410, 3) := by decide +kernel
theorem dX12_doubled_85 : decode cX12_doubled 85 = .ok (.iload_n 3, 1) := by decide +kernel
theorem dX12_doubled_86 : decode cX12_doubled 86 = .ok (.iadd, 1) := by decide +kernel
theorem dX12_doubled_87 : decode cX12_doubled 87 = .ok (.iaload, 1) := by decide +kernel
theorem dX12_doubled_88 : decode cX12_doubled 88 = .ok (.if_icmp .eq 7, 3) := by decide +kernel
theorem dX12_doubled_91 : decode cX12_doubled 91 = .ok (.iconst 1, 1) := by decide +kernel
theorem dX12_doubled_92 : decode cX12_doubled 92 = .ok (.goto 4, 3) := by decide +kernel
theorem dX12_doubled_95 : decode cX12_doubled 95 = .ok (.iconst 0, 1) := by decide +kernel
theorem dX12_doubled_96 : decode cX12_doubled 96 = .ok (.istore 4, 2) := by decide +kernel
theorem dX12_doubled_98 : decode cX12_doubled 98 = .ok (.iload_n 1, 1) := by decide +kernel
theorem dX12_doubled_99 : decode cX12_doubled 99 = .ok (.iload 4, 2) := by decide +kernel
theorem dX12_doubled_101 : decode cX12_doubled 101 = .ok (.ifCond .eq 18, 3) := by decide +kernel
theorem dX12_doubled_104 : decode cX12_doubled 104 = .ok (.iconst 1, 1) := by decide +kernel
theorem dX12_doubled_105 : decode cX12_doubled 105 = .ok (.aload_n 0, 1) := by decide +kernel
theorem dX12_doubled_106 : decode cX12_doubled 106 = .ok (.getfield 8, 3) := by decide +kernel
theorem dX12_doubled_109 : decode cX12_doubled 109 = .ok (.sipush 11290, 3) := by decide +kernel
theorem dX12_doubled_112 : decode cX12_doubled 112 = .ok (.iload_n 2, 1) := by decide +kernel
theorem dX12_doubled_113 : decode cX12_doubled 113 = .ok (.iadd, 1) := by decide +kernel
theorem dX12_doubled_114 : decode cX12_doubled 114 = .ok (.iaload, 1) := by decide +kernel
theorem dX12_doubled_115 : decode cX12_doubled 115 = .ok (.ishl, 1) := by decide +kernel
theorem dX12_doubled_116 : decode cX12_doubled 116 = .ok (.goto 4, 3) := by decide +kernel
theorem dX12_doubled_119 : decode cX12_doubled 119 = .ok (.iconst 0, 1) := by decide +kernel
theorem dX12_doubled_120 : decode cX12_doubled 120 = .ok (.ior, 1) := by decide +kernel
theorem dX12_doubled_121 : decode cX12_doubled 121 = .ok (.istore_n 1, 1) := by decide +kernel
theorem dX12_doubled_122 : decode cX12_doubled 122 = .ok (.iinc 3 1, 3) := by decide +kernel
theorem dX12_doubled_125 : decode cX12_doubled 125 = .ok (.goto (-108), 3) := by decide +kernel
theorem dX12_doubled_128 : decode cX12_doubled 128 = .ok (.iinc 2 1, 3) := by decide +kernel
theorem dX12_doubled_131 : decode cX12_doubled 131 = .ok (.goto (-127), 3) := by decide +kernel
theorem dX12_doubled_134 : decode cX12_doubled 134 = .ok (.iload_n 1, 1) := by decide +kernel
theorem dX12_doubled_135 : decode cX12_doubled 135 = .ok (.ireturn, 1) := by decide +kernel
theorem cm_X12_doubled : CM yX12_doubled cX12_doubled 5 (some .int) 0 12 := ⟨w_1746, w_1747, w_1748, w_97, ⟨by decide +kernel, by decide +kernel, by decide +kernel⟩, ⟨_, _, rfl⟩, by decide⟩
noncomputable def f_X12_doubled_120 (n : Nat) (rec4 : Int → Int → MM → RR) (rec17 : Int → Int → MM → RR) (v0 v2 v3 s0 s1 : Int) (h : MM) : RR :=
  lb (bor s0 s1) fun x1 =>
  lb (wr (v3 + 1)) fun x2 =>
  rec17 x1 x2 h
noncomputable def f_X12_doubled_96 (n : Nat) (rec4 : Int → Int → MM → RR) (rec17 : Int → Int → MM → RR) (v0 v1 v2 v3 s0 : Int) (h : MM) : RR :=
  if s0 = 0 then
    f_X12_doubled_120 n rec4 rec17 v0 v2 v3 v1 0 h
  else
  gf h v0 12 1 fun r2 =>
  rd h r2 100 (wr (11290 + v2)) fun r3 =>
  f_X12_doubled_120 n rec4 rec17 v0 v2 v3 v1 (shl 1 r3) h
noncomputable def f_X12_doubled_95 (n : Nat) (rec4 : Int → Int → MM → RR) (rec17 : Int → Int → MM → RR) (v0 v1 v2 v3 : Int) (h : MM) : RR :=
  f_X12_doubled_96 n rec4 rec17 v0 v1 v2 v3 0 h
noncomputable def f_X12_doubled_17b (n : Nat) (rec4 : Int → Int → MM → RR) (rec17 : Int → Int → MM → RR) (v0 v1 v2 v3 : Int) (h : MM) : RR :=
  if v2 ≤ v3 then
    lb (wr (v2 + 1)) fun x2 =>
    rec4 v1 x2 h
  else
  gf h v0 12 1 fun r3 =>
  rd h r3 100 (wr (11290 + v2)) fun r4 =>
  gf h v0 12 1 fun r5 =>
  rd h r5 100 (wr (11290 + v3)) fun r6 =>
  if r4 = r6 then
    gf h v0 12 1 fun r8 =>
    rd h r8 100 (wr (11350 + v2)) fun r9 =>
    gf h v0 12 1 fun r10 =>
    rd h r10 100 (wr (11350 + v3)) fun r11 =>
    if r9 = r11 then
      gf h v0 12 1 fun r13 =>
      rd h r13 100 (wr (11410 + v2)) fun r14 =>
      gf h v0 12 1 fun r15 =>
      rd h r15 100 (wr (11410 + v3)) fun r16 =>
      if r14 = r16 then
        f_X12_doubled_95 n rec4 rec17 v0 v1 v2 v3 h
      else
      f_X12_doubled_96 n rec4 rec17 v0 v1 v2 v3 1 h
    else
    f_X12_doubled_95 n rec4 rec17 v0 v1 v2 v3 h
  else
  f_X12_doubled_95 n rec4 rec17 v0 v1 v2 v3 h
noncomputable def f_X12_doubled_17 (n : Nat) (rec4 : Int → Int → MM → RR) (v0 v2 : Int) : Nat → Int → Int → MM → RR
  | 0, _, _, _ => none
  | k + 1, v1, v3, h => f_X12_doubled_17b n rec4 (f_X12_doubled_17 n rec4 v0 v2 k) v0 v1 v2 v3 h
noncomputable def f_X12_doubled_4b (n : Nat) (rec4 : Int → Int → MM → RR) (v0 v1 v2 : Int) (h : MM) : RR :=
  gf h v0 12 1 fun r1 =>
  rd h r1 100 6 fun r2 =>
  if r2 ≤ v2 then
    some (v1, h)
  else
  f_X12_doubled_17 n rec4 v0 v2 n v1 0 h
noncomputable def f_X12_doubled_4 (n : Nat)  (v0 : Int) : Nat → Int → Int → MM → RR
  | 0, _, _, _ => none
  | k + 1, v1, v2, h => f_X12_doubled_4b n  (f_X12_doubled_4 n  v0 k) v0 v1 v2 h
noncomputable def f_X12_doubled (n : Nat) (v0 : Int) (h : MM) : RR :=
  f_X12_doubled_4 n v0 n 0 0 h
set_option maxRecDepth 20000 in
theorem b_X12_doubled_120 {g : GT} {Z : Int × MM} {n : Nat} (C : Cx g cX12_doubled 5 yX12_doubled 0 0) (hr : Rt g (some .int) 0 Z) {v0 v2 v3 s0 s1 : Int}  {rec4 : Int → Int → MM → RR} {rec17 : Int → Int → MM → RR} (L4 : ∀ (u1 u2 : Int) (h : MM), in32 u1 → in32 u2 → rec4 u1 u2 h = some Z → G g 4 [(2, v0), (0, u1), (0, u2), (3, 0), (3, 0)] [] h) (L17 : ∀ (u1 u3 : Int) (h : MM), in32 u1 → in32 u3 → rec17 u1 u3 h = some Z → G g 17 [(2, v0), (0, u1), (0, v2), (0, u3), (3, 0)] [] h) (cv2 : in32 v2) (cv3 : in32 v3) (cs0 : in32 s0) (cs1 : in32 s1) {h : MM} (hf : f_X12_doubled_120 n rec4 rec17 v0 v2 v3 s0 s1 h = some Z) : G g 120 [(2, v0), (3, 0), (0, v2), (0, v3), (3, 0)] [(0, s1), (0, s0)] h := by
  unfold f_X12_doubled_120 at hf
  refine r_ior C dX12_doubled_120 ?_
  obtain ⟨x1, e1, hf⟩ := lb_s hf
  have c1 : in32 x1 := by rw [e1]; exact (in32_t _)
  refine r_istore_nL C dX12_doubled_121 e1 (Nat.le_of_ble_eq_true rfl) rfl ?_
  obtain ⟨x2, e2, hf⟩ := lb_s hf
  have c2 : in32 x2 := by rw [e2]; exact (in32_t _)
  refine r_iincL C dX12_doubled_122 rfl e2 (Nat.le_of_ble_eq_true rfl) rfl ?_
  refine r_goto C dX12_doubled_125 (tgt := 17) (by decide) ?_
  exact G.mask [true, true, true, true, false] rfl rfl (L17 _ _ _ c1 c2 hf)
set_option maxRecDepth 20000 in
theorem b_X12_doubled_96 {g : GT} {Z : Int × MM} {n : Nat} (C : Cx g cX12_doubled 5 yX12_doubled 0 0) (hr : Rt g (some .int) 0 Z) {v0 v1 v2 v3 s0 : Int}  {rec4 : Int → Int → MM → RR} {rec17 : Int → Int → MM → RR} (L4 : ∀ (u1 u2 : Int) (h : MM), in32 u1 → in32 u2 → rec4 u1 u2 h = some Z → G g 4 [(2, v0), (0, u1), (0, u2), (3, 0), (3, 0)] [] h) (L17 : ∀ (u1 u3 : Int) (h : MM), in32 u1 → in32 u3 → rec17 u1 u3 h = some Z → G g 17 [(2, v0), (0, u1), (0, v2), (0, u3), (3, 0)] [] h) (cv1 : in32 v1) (cv2 : in32 v2) (cv3 : in32 v3) (cs0 : in32 s0) {h : MM} (hf : f_X12_doubled_96 n rec4 rec17 v0 v1 v2 v3 s0 h = some Z) : G g 96 [(2, v0), (0, v1), (0, v2), (0, v3), (3, 0)] [(0, s0)] h := by
  unfold f_X12_doubled_96 at hf
  refine r_istore C dX12_doubled_96 (Nat.le_of_ble_eq_true rfl) rfl ?_
  refine r_iload_n C dX12_doubled_98 rfl ?_
  refine r_iload C dX12_doubled_99 rfl ?_
  refine r_if_eq C dX12_doubled_101 (tgt := 119) (by decide) cs0 (fun n1 => ?_) (fun n1 => ?_)
  · have hf := ite_p n1 hf
    refine r_iconst C dX12_doubled_119 ?_
    exact G.mask [true, false, true, true, false] rfl rfl (b_X12_doubled_120 C hr L4 L17 cv2 cv3 cv1 (in32_of rfl) hf)
  · have hf := ite_n n1 hf
    refine r_iconst C dX12_doubled_104 ?_
    refine r_aload_n C dX12_doubled_105 rfl ?_
    obtain ⟨q2, hf⟩ := gf_s hf
    refine r_gf C ct12 (j := 1) (ji := 1) dX12_doubled_106 q2 rfl rfl (by decide) w_1426 rfl (fun c2 => ?_)
    refine r_sipush C dX12_doubled_109 rfl ?_
    refine r_iload_n C dX12_doubled_112 rfl ?_
    refine r_iadd C dX12_doubled_113 ?_
    obtain ⟨q3, hf⟩ := rd_s hf
    refine r_iald C dX12_doubled_114 q3 rfl (fun c3 => ?_)
    refine r_ishl C dX12_doubled_115 ?_
    refine r_goto C dX12_doubled_116 (tgt := 120) (by decide) ?_
    exact G.mask [true, false, true, true, false] rfl rfl (b_X12_doubled_120 C hr L4 L17 cv2 cv3 cv1 (in32_t _) hf)
set_option maxRecDepth 20000 in
theorem b_X12_doubled_95 {g : GT} {Z : Int × MM} {n : Nat} (C : Cx g cX12_doubled 5 yX12_doubled 0 0) (hr : Rt g (some .int) 0 Z) {v0 v1 v2 v3 : Int}  {rec4 : Int → Int → MM → RR} {rec17 : Int → Int → MM → RR} (L4 : ∀ (u1 u2 : Int) (h : MM), in32 u1 → in32 u2 → rec4 u1 u2 h = some Z → G g 4 [(2, v0), (0, u1), (0, u2), (3, 0), (3, 0)] [] h) (L17 : ∀ (u1 u3 : Int) (h : MM), in32 u1 → in32 u3 → rec17 u1 u3 h = some Z → G g 17 [(2, v0), (0, u1), (0, v2), (0, u3), (3, 0)] [] h) (cv1 : in32 v1) (cv2 : in32 v2) (cv3 : in32 v3) {h : MM} (hf : f_X12_doubled_95 n rec4 rec17 v0 v1 v2 v3 h = some Z) : G g 95 [(2, v0), (0, v1), (0, v2), (0, v3), (3, 0)] [] h := by
  unfold f_X12_doubled_95 at hf
  refine r_iconst C dX12_doubled_95 ?_
  exact G.mask [true, true, true, true, false] rfl rfl (b_X12_doubled_96 C hr L4 L17 cv1 cv2 cv3 (in32_of rfl) hf)
set_option maxRecDepth 20000 in
theorem b_X12_doubled_17b {g : GT} {Z : Int × MM} {n : Nat} (C : Cx g cX12_doubled 5 yX12_doubled 0 0) (hr : Rt g (some .int) 0 Z) {v0 v1 v2 v3 : Int}  {rec4 : Int → Int → MM → RR} {rec17 : Int → Int → MM → RR} (L4 : ∀ (u1 u2 : Int) (h : MM), in32 u1 → in32 u2 → rec4 u1 u2 h = some Z → G g 4 [(2, v0), (0, u1), (0, u2), (3, 0), (3, 0)] [] h) (L17 : ∀ (u1 u3 : Int) (h : MM), in32 u1 → in32 u3 → rec17 u1 u3 h = some Z → G g 17 [(2, v0), (0, u1), (0, v2), (0, u3), (3, 0)] [] h) (cv1 : in32 v1) (cv2 : in32 v2) (cv3 : in32 v3) {h : MM} (hf : f_X12_doubled_17b n rec4 rec17 v0 v1 v2 v3 h = some Z) : G g 17 [(2, v0), (0, v1), (0, v2), (0, v3), (3, 0)] [] h := by
  unfold f_X12_doubled_17b at hf
  refine r_iload_n C dX12_doubled_17 rfl ?_
  refine r_iload_n C dX12_doubled_18 rfl ?_
  refine r_icmp_ge C dX12_doubled_19 (tgt := 128) (by decide) cv3 cv2 (fun n1 => ?_) (fun n1 => ?_)
  · have hf := ite_p n1 hf
    obtain ⟨x2, e2, hf⟩ := lb_s hf
    have c2 : in32 x2 := by rw [e2]; exact (in32_t _)
    refine r_iincL C dX12_doubled_128 rfl e2 (Nat.le_of_ble_eq_true rfl) rfl ?_
    refine r_goto C dX12_doubled_131 (tgt := 4) (by decide) ?_
    exact G.mask [true, true, true, false, false] rfl rfl (L4 _ _ _ cv1 c2 hf)
  · have hf := ite_n n1 hf
    refine r_aload_n C dX12_doubled_22 rfl ?_
    obtain ⟨q3, hf⟩ := gf_s hf
    refine r_gf C ct12 (j := 1) (ji := 1) dX12_doubled_23 q3 rfl rfl (by decide) w_1426 rfl (fun c3 => ?_)
    refine r_sipush C dX12_doubled_26 rfl ?_
    refine r_iload_n C dX12_doubled_29 rfl ?_
    refine r_iadd C dX12_doubled_30 ?_
    obtain ⟨q4, hf⟩ := rd_s hf
    refine r_iald C dX12_doubled_31 q4 rfl (fun c4 => ?_)
    refine r_aload_n C dX12_doubled_32 rfl ?_
    obtain ⟨q5, hf⟩ := gf_s hf
    refine r_gf C ct12 (j := 1) (ji := 1) dX12_doubled_33 q5 rfl rfl (by decide) w_1426 rfl (fun c5 => ?_)
    refine r_sipush C dX12_doubled_36 rfl ?_
    refine r_iload_n C dX12_doubled_39 rfl ?_
    refine r_iadd C dX12_doubled_40 ?_
    obtain ⟨q6, hf⟩ := rd_s hf
    refine r_iald C dX12_doubled_41 q6 rfl (fun c6 => ?_)
    refine r_icmp_ne C dX12_doubled_42 (tgt := 95) (by decide) c4 c6 (fun n7 => ?_) (fun n7 => ?_)
    · have hf := ite_n n7 hf
      exact G.mask [true, true, true, true, false] rfl rfl (b_X12_doubled_95 C hr L4 L17 cv1 cv2 cv3 hf)
    · have hf := ite_p n7 hf
      refine r_aload_n C dX12_doubled_45 rfl ?_
      obtain ⟨q8, hf⟩ := gf_s hf
      refine r_gf C ct12 (j := 1) (ji := 1) dX12_doubled_46 q8 rfl rfl (by decide) w_1426 rfl (fun c8 => ?_)
      refine r_sipush C dX12_doubled_49 rfl ?_
      refine r_iload_n C dX12_doubled_52 rfl ?_
      refine r_iadd C dX12_doubled_53 ?_
      obtain ⟨q9, hf⟩ := rd_s hf
      refine r_iald C dX12_doubled_54 q9 rfl (fun c9 => ?_)
      refine r_aload_n C dX12_doubled_55 rfl ?_
      obtain ⟨q10, hf⟩ := gf_s hf
      refine r_gf C ct12 (j := 1) (ji := 1) dX12_doubled_56 q10 rfl rfl (by decide) w_1426 rfl (fun c10 => ?_)
      refine r_sipush C dX12_doubled_59 rfl ?_
      refine r_iload_n C dX12_doubled_62 rfl ?_
      refine r_iadd C dX12_doubled_63 ?_
      obtain ⟨q11, hf⟩ := rd_s hf
      refine r_iald C dX12_doubled_64 q11 rfl (fun c11 => ?_)
      refine r_icmp_ne C dX12_doubled_65 (tgt := 95) (by decide) c9 c11 (fun n12 => ?_) (fun n12 => ?_)
      · have hf := ite_n n12 hf
        exact G.mask [true, true, true, true, false] rfl rfl (b_X12_doubled_95 C hr L4 L17 cv1 cv2 cv3 hf)
      · have hf := ite_p n12 hf
        refine r_aload_n C dX12_doubled_68 rfl ?_
        obtain ⟨q13, hf⟩ := gf_s hf
        refine r_gf C ct12 (j := 1) (ji := 1) dX12_doubled_69 q13 rfl rfl (by decide) w_1426 rfl (fun c13 => ?_)
        refine r_sipush C dX12_doubled_72 rfl ?_
        refine r_iload_n C dX12_doubled_75 rfl ?_
        refine r_iadd C dX12_doubled_76 ?_
        obtain ⟨q14, hf⟩ := rd_s hf
        refine r_iald C dX12_doubled_77 q14 rfl (fun c14 => ?_)
        refine r_aload_n C dX12_doubled_78 rfl ?_
        obtain ⟨q15, hf⟩ := gf_s hf
        refine r_gf C ct12 (j := 1) (ji := 1) dX12_doubled_79 q15 rfl rfl (by decide) w_1426 rfl (fun c15 => ?_)
        refine r_sipush C dX12_doubled_82 rfl ?_
        refine r_iload_n C dX12_doubled_85 rfl ?_
        refine r_iadd C dX12_doubled_86 ?_
        obtain ⟨q16, hf⟩ := rd_s hf
        refine r_iald C dX12_doubled_87 q16 rfl (fun c16 => ?_)
        refine r_icmp_eq C dX12_doubled_88 (tgt := 95) (by decide) c14 c16 (fun n17 => ?_) (fun n17 => ?_)
        · have hf := ite_p n17 hf
          exact G.mask [true, true, true, true, false] rfl rfl (b_X12_doubled_95 C hr L4 L17 cv1 cv2 cv3 hf)
        · have hf := ite_n n17 hf
          refine r_iconst C dX12_doubled_91 ?_
          refine r_goto C dX12_doubled_92 (tgt := 96) (by decide) ?_
          exact G.mask [true, true, true, true, false] rfl rfl (b_X12_doubled_96 C hr L4 L17 cv1 cv2 cv3 (in32_of rfl) hf)
set_option maxRecDepth 20000 in
theorem l_X12_doubled_17 {g : GT} {Z : Int × MM} {n : Nat} (C : Cx g cX12_doubled 5 yX12_doubled 0 0) (hr : Rt g (some .int) 0 Z) {v0 v2 : Int} {rec4 : Int → Int → MM → RR} (L4 : ∀ (u1 u2 : Int) (h : MM), in32 u1 → in32 u2 → rec4 u1 u2 h = some Z → G g 4 [(2, v0), (0, u1), (0, u2), (3, 0), (3, 0)] [] h) (cv2 : in32 v2) : ∀ (k : Nat) (v1 v3 : Int) (h : MM), in32 v1 → in32 v3 → f_X12_doubled_17 n rec4 v0 v2 k v1 v3 h = some Z → G g 17 [(2, v0), (0, v1), (0, v2), (0, v3), (3, 0)] [] h := by
  intro k
  induction k with
  | zero => intro v1 v3 h cv1 cv3 hf; exact absurd hf (by intro z; cases z)
  | succ k ih => intro v1 v3 h cv1 cv3 hf; exact b_X12_doubled_17b C hr (rec17 := f_X12_doubled_17 n rec4 v0 v2 k) L4 ih cv1 cv2 cv3 (show f_X12_doubled_17b n rec4 (f_X12_doubled_17 n rec4 v0 v2 k) v0 v1 v2 v3 h = some Z from hf)
set_option maxRecDepth 20000 in
theorem b_X12_doubled_4b {g : GT} {Z : Int × MM} {n : Nat} (C : Cx g cX12_doubled 5 yX12_doubled 0 0) (hr : Rt g (some .int) 0 Z) {v0 v1 v2 : Int}  {rec4 : Int → Int → MM → RR} (L4 : ∀ (u1 u2 : Int) (h : MM), in32 u1 → in32 u2 → rec4 u1 u2 h = some Z → G g 4 [(2, v0), (0, u1), (0, u2), (3, 0), (3, 0)] [] h) (cv1 : in32 v1) (cv2 : in32 v2) {h : MM} (hf : f_X12_doubled_4b n rec4 v0 v1 v2 h = some Z) : G g 4 [(2, v0), (0, v1), (0, v2), (3, 0), (3, 0)] [] h := by
  unfold f_X12_doubled_4b at hf
  refine r_iload_n C dX12_doubled_4 rfl ?_
  refine r_aload_n C dX12_doubled_5 rfl ?_
  obtain ⟨q1, hf⟩ := gf_s hf
  refine r_gf C ct12 (j := 1) (ji := 1) dX12_doubled_6 q1 rfl rfl (by decide) w_1426 rfl (fun c1 => ?_)
  refine r_bipush C dX12_doubled_9 rfl ?_
  obtain ⟨q2, hf⟩ := rd_s hf
  refine r_iald C dX12_doubled_11 q2 rfl (fun c2 => ?_)
  refine r_icmp_ge C dX12_doubled_12 (tgt := 134) (by decide) cv2 c2 (fun n3 => ?_) (fun n3 => ?_)
  · have hf := ite_p n3 hf
    refine r_iload_n C dX12_doubled_134 rfl ?_
    cases hf
    exact r_jret C hr dX12_doubled_135 cv1
  · have hf := ite_n n3 hf
    refine r_iconst C dX12_doubled_15 ?_
    refine r_istore_n C dX12_doubled_16 (Nat.le_of_ble_eq_true rfl) rfl ?_
    exact G.mask [true, true, true, true, false] rfl rfl (l_X12_doubled_17 C hr L4 cv2 _ _ _ _ cv1 (in32_of rfl) hf)
set_option maxRecDepth 20000 in
theorem l_X12_doubled_4 {g : GT} {Z : Int × MM} {n : Nat} (C : Cx g cX12_doubled 5 yX12_doubled 0 0) (hr : Rt g (some .int) 0 Z) {v0 : Int}    : ∀ (k : Nat) (v1 v2 : Int) (h : MM), in32 v1 → in32 v2 → f_X12_doubled_4 n  v0 k v1 v2 h = some Z → G g 4 [(2, v0), (0, v1), (0, v2), (3, 0), (3, 0)] [] h := by
  intro k
  induction k with
  | zero => intro v1 v2 h cv1 cv2 hf; exact absurd hf (by intro z; cases z)
  | succ k ih => intro v1 v2 h cv1 cv2 hf; exact b_X12_doubled_4b C hr (rec4 := f_X12_doubled_4 n  v0 k)  ih cv1 cv2 (show f_X12_doubled_4b n  (f_X12_doubled_4 n  v0 k) v0 v1 v2 h = some Z from hf)
set_option maxRecDepth 20000 in
theorem e_X12_doubled {g : GT} {Z : Int × MM} {n : Nat} (C : Cx g cX12_doubled 5 yX12_doubled 0 0) (hr : Rt g (some .int) 0 Z) {v0 : Int} (cv0 : cK 2 v0) {h : MM} (hf : f_X12_doubled n v0 h = some Z) : G g 0 [(2, v0), (3, 0), (3, 0), (3, 0), (3, 0)] [] h := by
  unfold f_X12_doubled at hf
  refine r_iconst C dX12_doubled_0 ?_
  refine r_istore_n C dX12_doubled_1 (Nat.le_of_ble_eq_true rfl) rfl ?_
  refine r_iconst C dX12_doubled_2 ?_
  refine r_istore_n C dX12_doubled_3 (Nat.le_of_ble_eq_true rfl) rfl ?_
  exact G.mask [true, true, true, false, false] rfl rfl (l_X12_doubled_4 C hr   _ _ _ _ (in32_of rfl) (in32_of rfl) hf)
set_option maxRecDepth 20000 in
theorem am_X12_doubled (l : Launch) (n : Nat) : AM l yX12_doubled cX12_doubled 5 (some .int) 0 0 [2] 0 (un1 (f_X12_doubled n)) := by
  refine AM.intro (by decide) (fun xs hx => ?_) (fun g xs h Z hl C hr hx hf => ?_)
  · obtain ⟨a0, rfl, c0⟩ := canL_1 hx
    exact Nat.le_of_ble_eq_true rfl
  · obtain ⟨a0, rfl, c0⟩ := canL_1 hx
    have hf := (un1_e _ a0 _).symm.trans hf
    exact e_X12_doubled (n := n) C hr c0 hf
/-! LinesPromisedModel.hand(II)I -/
theorem dX12_hand_0 : decode cX12_hand 0 = .ok (.iload_n 1, 1) := by decide +kernel
theorem dX12_hand_1 : decode cX12_hand 1 = .ok (.iconst 1, 1) := by decide +kernel
theorem dX12_hand_2 : decode cX12_hand 2 = .ok (.bipush 30, 2) := by decide +kernel
theorem dX12_hand_4 : decode cX12_hand 4 = .ok (.invokestatic 58, 3) := by decide +kernel
theorem dX12_hand_7 : decode cX12_hand 7 = .ok (.ifCond .eq 13, 3) := by decide +kernel
theorem dX12_hand_10 : decode cX12_hand 10 = .ok (.iload_n 2, 1) := by decide +kernel
theorem dX12_hand_11 : decode cX12_hand 11 = .ok (.iconst 1, 1) := by decide +kernel
theorem dX12_hand_12 : decode cX12_hand 12 = .ok (.bipush 30, 2) := by decide +kernel
theorem dX12_hand_14 : decode cX12_hand 14 = .ok (.invokestatic 58, 3) := by decide +kernel
theorem dX12_hand_17 : decode cX12_hand 17 = .ok (.ifCond .ne 6, 3) := by decide +kernel
theorem dX12_hand_20 : decode cX12_hand 20 = .ok (.bipush (-2), 2) := by decide +kernel
theorem dX12_hand_22 : decode cX12_hand 22 = .ok (.ireturn, 1) := by decide +kernel
theorem dX12_hand_23 : decode cX12_hand 23 = .ok (.aload_n 0, 1) := by decide +kernel
theorem dX12_hand_24 : decode cX12_hand 24 = .ok (.getfield 8, 3) := by decide +kernel
theorem dX12_hand_27 : decode cX12_hand 27 = .ok (.bipush 7, 2) := by decide +kernel
theorem dX12_hand_29 : decode cX12_hand 29 = .ok (.iaload, 1) := by decide +kernel
theorem dX12_hand_30 : decode cX12_hand 30 = .ok (.bipush 7, 2) := by decide +kernel
theorem dX12_hand_32 : decode cX12_hand 32 = .ok (.if_icmp .ne 6, 3) := by decide +kernel
theorem dX12_hand_35 : decode cX12_hand 35 = .ok (.bipush (-4), 2) := by decide +kernel
theorem dX12_hand_37 : decode cX12_hand 37 = .ok (.ireturn, 1) := by decide +kernel
theorem dX12_hand_38 : decode cX12_hand 38 = .ok (.aload_n 0, 1) := by decide +kernel
theorem dX12_hand_39 : decode cX12_hand 39 = .ok (.getfield 8, 3) := by decide +kernel
theorem dX12_hand_42 : decode cX12_hand 42 = .ok (.sipush 11470, 3) := by decide +kernel
theorem dX12_hand_45 : decode cX12_hand 45 = .ok (.aload_n 0, 1) := by decide +kernel
theorem dX12_hand_46 : decode cX12_hand 46 = .ok (.getfield 8, 3) := by decide +kernel
theorem dX12_hand_49 : decode cX12_hand 49 = .ok (.bipush 7, 2) := by decide +kernel
theorem dX12_hand_51 : decode cX12_hand 51 = .ok (.iaload, 1) := by decide +kernel
theorem dX12_hand_52 : decode cX12_hand 52 = .ok (.iadd, 1) := by decide +kernel
theorem dX12_hand_53 : decode cX12_hand 53 = .ok (.iload_n 1, 1) := by decide +kernel
theorem dX12_hand_54 : decode cX12_hand 54 = .ok (.iastore, 1) := by decide +kernel
theorem dX12_hand_55 : decode cX12_hand 55 = .ok (.aload_n 0, 1) := by decide +kernel
theorem dX12_hand_56 : decode cX12_hand 56 = .ok (.getfield 8, 3) := by decide +kernel
theorem dX12_hand_59 : decode cX12_hand 59 = .ok (.sipush 11480, 3) := by decide +kernel
theorem dX12_hand_62 : decode cX12_hand 62 = .ok (.aload_n 0, 1) := by decide +kernel
theorem dX12_hand_63 : decode cX12_hand 63 = .ok (.getfield 8, 3) := by decide +kernel
theorem dX12_hand_66 : decode cX12_hand 66 = .ok (.bipush 7, 2) := by decide +kernel
theorem dX12_hand_68 : decode cX12_hand 68 = .ok (.iaload, 1) := by decide +kernel
theorem dX12_hand_69 : decode cX12_hand 69 = .ok (.iadd, 1) := by decide +kernel
theorem dX12_hand_70 : decode cX12_hand 70 = .ok (.iload_n 2, 1) := by decide +kernel
theorem dX12_hand_71 : decode cX12_hand 71 = .ok (.iastore, 1) := by decide +kernel
theorem dX12_hand_72 : decode cX12_hand 72 = .ok (.aload_n 0, 1) := by decide +kernel
theorem dX12_hand_73 : decode cX12_hand 73 = .ok (.getfield 8, 3) := by decide +kernel
theorem dX12_hand_76 : decode cX12_hand 76 = .ok (.bipush 7, 2) := by decide +kernel
theorem dX12_hand_78 : decode cX12_hand 78 = .ok (.dup2, 1) := by decide +kernel
theorem dX12_hand_79 : decode cX12_hand 79 = .ok (.iaload, 1) := by decide +kernel
theorem dX12_hand_80 : decode cX12_hand 80 = .ok (.iconst 1, 1) := by decide +kernel
theorem dX12_hand_81 : decode cX12_hand 81 = .ok (.iadd, 1) := by decide +kernel
theorem dX12_hand_82 : decode cX12_hand 82 = .ok (.iastore, 1) := by decide +kernel
theorem dX12_hand_83 : decode cX12_hand 83 = .ok (.aload_n 0, 1) := by decide +kernel
theorem dX12_hand_84 : decode cX12_hand 84 = .ok (.getfield 8, 3) := by decide +kernel
theorem dX12_hand_87 : decode cX12_hand 87 = .ok (.bipush 7, 2) := by decide +kernel
theorem dX12_hand_89 : decode cX12_hand 89 = .ok (.iaload, 1) := by decide +kernel
theorem dX12_hand_90 : decode cX12_hand 90 = .ok (.ireturn, 1) := by decide +kernel
theorem cm_X12_hand : CM yX12_hand cX12_hand 3 (some .int) 2 12 := ⟨w_1750, w_1751, w_1752, w_97, ⟨by decide +kernel, by decide +kernel, by decide +kernel⟩, ⟨_, _, rfl⟩, by decide⟩
noncomputable def f_X12_hand_20 (n : Nat)  (h : MM) : RR :=
  some ((-2), h)
noncomputable def f_X12_hand (n : Nat) (v0 v1 v2 : Int) (h : MM) : RR :=
  bd (f_X12_in n v1 1 30 h) fun r1 h1 =>
  if r1 = 0 then
    f_X12_hand_20 n h1
  else
  bd (f_X12_in n v2 1 30 h1) fun r3 h3 =>
  if r3 = 0 then
    f_X12_hand_20 n h3
  else
  gf h3 v0 12 1 fun r5 =>
  rd h3 r5 100 7 fun r6 =>
  if r6 = 7 then
    some ((-4), h3)
  else
  gf h3 v0 12 1 fun r8 =>
  gf h3 v0 12 1 fun r9 =>
  rd h3 r9 100 7 fun r10 =>
  wt h3 r8 100 (wr (11470 + r10)) v1 fun h11 =>
  gf h11 v0 12 1 fun r12 =>
  gf h11 v0 12 1 fun r13 =>
  rd h11 r13 100 7 fun r14 =>
  wt h11 r12 100 (wr (11480 + r14)) v2 fun h15 =>
  gf h15 v0 12 1 fun r16 =>
  rd h15 r16 100 7 fun r17 =>
  wt h15 r16 100 7 (wr (r17 + 1)) fun h18 =>
  gf h18 v0 12 1 fun r19 =>
  rd h18 r19 100 7 fun r20 =>
  some (r20, h18)
set_option maxRecDepth 20000 in
theorem b_X12_hand_20 {g : GT} {Z : Int × MM} {n : Nat} (C : Cx g cX12_hand 3 yX12_hand 1 22) (hr : Rt g (some .int) 0 Z)     {h : MM} (hf : f_X12_hand_20 n   h = some Z) : G g 20 [(3, 0), (3, 0), (3, 0)] [] h := by
  unfold f_X12_hand_20 at hf
  refine r_bipush C dX12_hand_20 rfl ?_
  cases hf
  exact r_jret C hr dX12_hand_22 (in32_of rfl)
set_option maxRecDepth 20000 in
theorem e_X12_hand {g : GT} {Z : Int × MM} {n : Nat} (C : Cx g cX12_hand 3 yX12_hand 1 22) (hr : Rt g (some .int) 0 Z) {v0 v1 v2 : Int} (cv0 : cK 2 v0) (cv1 : cK 0 v1) (cv2 : cK 0 v2) {h : MM} (hf : f_X12_hand n v0 v1 v2 h = some Z) : G g 0 [(2, v0), (0, v1), (0, v2)] [] h := by
  have cv1 : in32 v1 := cv1
  have cv2 : in32 v2 := cv2
  unfold f_X12_hand at hf
  refine r_iload_n C dX12_hand_0 rfl ?_
  refine r_iconst C dX12_hand_1 ?_
  refine r_bipush C dX12_hand_2 rfl ?_
  obtain ⟨r1, h1, hq1, hf⟩ := bd_s hf
  refine r_cS3 C (am_X12_in (gl g) n) cm_X12_in w_1496 dX12_hand_4 ⟨Nat.le_of_ble_eq_true rfl, Nat.le_of_ble_eq_true rfl⟩ cv1 (in32_of rfl) (in32_of rfl) rfl (Nat.le_of_ble_eq_true rfl) hq1 (by decide) (fun c1 => ?_)
  have c1 : in32 _ := c1
  refine r_if_eq C dX12_hand_7 (tgt := 20) (by decide) c1 (fun n2 => ?_) (fun n2 => ?_)
  · have hf := ite_p n2 hf
    exact G.mask [false, false, false] rfl rfl (b_X12_hand_20 C hr   hf)
  · have hf := ite_n n2 hf
    refine r_iload_n C dX12_hand_10 rfl ?_
    refine r_iconst C dX12_hand_11 ?_
    refine r_bipush C dX12_hand_12 rfl ?_
    obtain ⟨r3, h3, hq3, hf⟩ := bd_s hf
    refine r_cS3 C (am_X12_in (gl g) n) cm_X12_in w_1496 dX12_hand_14 ⟨Nat.le_of_ble_eq_true rfl, Nat.le_of_ble_eq_true rfl⟩ cv2 (in32_of rfl) (in32_of rfl) rfl (Nat.le_of_ble_eq_true rfl) hq3 (by decide) (fun c3 => ?_)
    have c3 : in32 _ := c3
    refine r_if_ne C dX12_hand_17 (tgt := 23) (by decide) c3 (fun n4 => ?_) (fun n4 => ?_)
    · have hf := ite_n n4 hf
      refine r_aload_n C dX12_hand_23 rfl ?_
      obtain ⟨q5, hf⟩ := gf_s hf
      refine r_gf C ct12 (j := 1) (ji := 1) dX12_hand_24 q5 rfl rfl (by decide) w_1426 rfl (fun c5 => ?_)
      refine r_bipush C dX12_hand_27 rfl ?_
      obtain ⟨q6, hf⟩ := rd_s hf
      refine r_iald C dX12_hand_29 q6 rfl (fun c6 => ?_)
      refine r_bipush C dX12_hand_30 rfl ?_
      refine r_icmp_ne C dX12_hand_32 (tgt := 38) (by decide) c6 (in32_of rfl) (fun n7 => ?_) (fun n7 => ?_)
      · have hf := ite_n n7 hf
        refine r_aload_n C dX12_hand_38 rfl ?_
        obtain ⟨q8, hf⟩ := gf_s hf
        refine r_gf C ct12 (j := 1) (ji := 1) dX12_hand_39 q8 rfl rfl (by decide) w_1426 rfl (fun c8 => ?_)
        refine r_sipush C dX12_hand_42 rfl ?_
        refine r_aload_n C dX12_hand_45 rfl ?_
        obtain ⟨q9, hf⟩ := gf_s hf
        refine r_gf C ct12 (j := 1) (ji := 1) dX12_hand_46 q9 rfl rfl (by decide) w_1426 rfl (fun c9 => ?_)
        refine r_bipush C dX12_hand_49 rfl ?_
        obtain ⟨q10, hf⟩ := rd_s hf
        refine r_iald C dX12_hand_51 q10 rfl (fun c10 => ?_)
        refine r_iadd C dX12_hand_52 ?_
        refine r_iload_n C dX12_hand_53 rfl ?_
        obtain ⟨q11, hf⟩ := wt_s hf
        refine r_iast C dX12_hand_54 q11 rfl cv1 ?_
        refine r_aload_n C dX12_hand_55 rfl ?_
        obtain ⟨q12, hf⟩ := gf_s hf
        refine r_gf C ct12 (j := 1) (ji := 1) dX12_hand_56 q12 rfl rfl (by decide) w_1426 rfl (fun c12 => ?_)
        refine r_sipush C dX12_hand_59 rfl ?_
        refine r_aload_n C dX12_hand_62 rfl ?_
        obtain ⟨q13, hf⟩ := gf_s hf
        refine r_gf C ct12 (j := 1) (ji := 1) dX12_hand_63 q13 rfl rfl (by decide) w_1426 rfl (fun c13 => ?_)
        refine r_bipush C dX12_hand_66 rfl ?_
        obtain ⟨q14, hf⟩ := rd_s hf
        refine r_iald C dX12_hand_68 q14 rfl (fun c14 => ?_)
        refine r_iadd C dX12_hand_69 ?_
        refine r_iload_n C dX12_hand_70 rfl ?_
        obtain ⟨q15, hf⟩ := wt_s hf
        refine r_iast C dX12_hand_71 q15 rfl cv2 ?_
        refine r_aload_n C dX12_hand_72 rfl ?_
        obtain ⟨q16, hf⟩ := gf_s hf
        refine r_gf C ct12 (j := 1) (ji := 1) dX12_hand_73 q16 rfl rfl (by decide) w_1426 rfl (fun c16 => ?_)
        refine r_bipush C dX12_hand_76 rfl ?_
        refine r_dup2 C dX12_hand_78 (by decide) (by decide) ?_
        obtain ⟨q17, hf⟩ := rd_s hf
        refine r_iald C dX12_hand_79 q17 rfl (fun c17 => ?_)
        refine r_iconst C dX12_hand_80 ?_
        refine r_iadd C dX12_hand_81 ?_
        obtain ⟨q18, hf⟩ := wt_s hf
        refine r_iast C dX12_hand_82 q18 rfl (in32_t _) ?_
        refine r_aload_n C dX12_hand_83 rfl ?_
        obtain ⟨q19, hf⟩ := gf_s hf
        refine r_gf C ct12 (j := 1) (ji := 1) dX12_hand_84 q19 rfl rfl (by decide) w_1426 rfl (fun c19 => ?_)
        refine r_bipush C dX12_hand_87 rfl ?_
        obtain ⟨q20, hf⟩ := rd_s hf
        refine r_iald C dX12_hand_89 q20 rfl (fun c20 => ?_)
        cases hf
        exact r_jret C hr dX12_hand_90 c20
      · have hf := ite_p n7 hf
        refine r_bipush C dX12_hand_35 rfl ?_
        cases hf
        exact r_jret C hr dX12_hand_37 (in32_of rfl)
    · have hf := ite_p n4 hf
      exact G.mask [false, false, false] rfl rfl (b_X12_hand_20 C hr   hf)
set_option maxRecDepth 20000 in
theorem am_X12_hand (l : Launch) (n : Nat) : AM l yX12_hand cX12_hand 3 (some .int) 1 22 [2, 0, 0] 0 (un3 (f_X12_hand n)) := by
  refine AM.intro (by decide) (fun xs hx => ?_) (fun g xs h Z hl C hr hx hf => ?_)
  · obtain ⟨a0, a1, a2, rfl, c0, c1, c2⟩ := canL_3 hx
    exact Nat.le_of_ble_eq_true rfl
  · obtain ⟨a0, a1, a2, rfl, c0, c1, c2⟩ := canL_3 hx
    have hf := (un3_e _ a0 a1 a2 _).symm.trans hf
    exact e_X12_hand (n := n) C hr c0 c1 c2 hf
/-! LinesPromisedModel.does(IIIII)V -/
theorem dX12_does_0 : decode cX12_does 0 = .ok (.iload_n 1, 1) := by decide +kernel
theorem dX12_does_1 : decode cX12_does 1 = .ok (.aload_n 0, 1) := by decide +kernel
theorem dX12_does_2 : decode cX12_does 2 = .ok (.getfield 231, 3) := by decide +kernel
theorem dX12_does_5 : decode cX12_does 5 = .ok (.if_icmp .le 37, 3) := by decide +kernel
theorem dX12_does_8 : decode cX12_does 8 = .ok (.aload_n 0, 1) := by decide +kernel
theorem dX12_does_9 : decode cX12_does 9 = .ok (.iload_n 1, 1) := by decide +kernel
theorem dX12_does_10 : decode cX12_does 10 = .ok (.putfield 231, 3) := by decide +kernel
theorem dX12_does_13 : decode cX12_does 13 = .ok (.iconst 0, 1) := by decide +kernel
theorem dX12_does_14 : decode cX12_does 14 = .ok (.istore 6, 2) := by decide +kernel
theorem dX12_does_16 : decode cX12_does 16 = .ok (.iload 6, 2) := by decide +kernel
theorem dX12_does_18 : decode cX12_does 18 = .ok (.iload_n 1, 1) := by decide +kernel
theorem dX12_does_19 : decode cX12_does 19 = .ok (.if_icmp .ge 23, 3) := by decide +kernel
theorem dX12_does_22 : decode cX12_does 22 = .ok (.aload_n 0, 1) := by decide +kernel
theorem dX12_does_23 : decode cX12_does 23 = .ok (.getfield 29, 3) := by decide +kernel
theorem dX12_does_26 : decode cX12_does 26 = .ok (.iload 6, 2) := by decide +kernel
theorem dX12_does_28 : decode cX12_does 28 = .ok (.aload_n 0, 1) := by decide +kernel
theorem dX12_does_29 : decode cX12_does 29 = .ok (.getfield 26, 3) := by decide +kernel
theorem dX12_does_32 : decode cX12_does 32 = .ok (.iload 6, 2) := by decide +kernel
theorem dX12_does_34 : decode cX12_does 34 = .ok (.iaload, 1) := by decide +kernel
theorem dX12_does_35 : decode cX12_does 35 = .ok (.iastore, 1) := by decide +kernel
theorem dX12_does_36 : decode cX12_does 36 = .ok (.iinc 6 1, 3) := by decide +kernel
theorem dX12_does_39 : decode cX12_does 39 = .ok (.goto (-23), 3) := by decide +kernel
theorem dX12_does_42 : decode cX12_does 42 = .ok (.iconst 0, 1) := by decide +kernel
theorem dX12_does_43 : decode cX12_does 43 = .ok (.istore 6, 2) := by decide +kernel
theorem dX12_does_45 : decode cX12_does 45 = .ok (.iload 6, 2) := by decide +kernel
theorem dX12_does_47 : decode cX12_does 47 = .ok (.aload_n 0, 1) := by decide +kernel
theorem dX12_does_48 : decode cX12_does 48 = .ok (.getfield 8, 3) := by decide +kernel
theorem dX12_does_51 : decode cX12_does 51 = .ok (.bipush 7, 2) := by decide +kernel
theorem dX12_does_53 : decode cX12_does 53 = .ok (.iaload, 1) := by decide +kernel
theorem dX12_does_54 : decode cX12_does 54 = .ok (.if_icmp .ge 95, 3) := by decide +kernel
theorem dX12_does_57 : decode cX12_does 57 = .ok (.iload_n 3, 1) := by decide +kernel
theorem dX12_does_58 : decode cX12_does 58 = .ok (.aload_n 0, 1) := by decide +kernel
theorem dX12_does_59 : decode cX12_does 59 = .ok (.getfield 8, 3) := by decide +kernel
theorem dX12_does_62 : decode cX12_does 62 = .ok (.sipush 11470, 3) := by decide +kernel
theorem dX12_does_65 : decode cX12_does 65 = .ok (.iload 6, 2) := by decide +kernel
theorem dX12_does_67 : decode cX12_does 67 = .ok (.iadd, 1) := by decide +kernel
theorem dX12_does_68 : decode cX12_does 68 = .ok (.iaload, 1) := by decide +kernel
theorem dX12_does_69 : decode cX12_does 69 = .ok (.iadd, 1) := by decide +kernel
theorem dX12_does_70 : decode cX12_does 70 = .ok (.istore 7, 2) := by decide +kernel
theorem dX12_does_72 : decode cX12_does 72 = .ok (.iload 7, 2) := by decide +kernel
theorem dX12_does_74 : decode cX12_does 74 = .ok (.iload 4, 2) := by decide +kernel
theorem dX12_does_76 : decode cX12_does 76 = .ok (.if_icmp .le 8, 3) := by decide +kernel
theorem dX12_does_79 : decode cX12_does 79 = .ok (.iload 7, 2) := by decide +kernel
theorem dX12_does_81 : decode cX12_does 81 = .ok (.goto 5, 3) := by decide +kernel
theorem dX12_does_84 : decode cX12_does 84 = .ok (.iload 4, 2) := by decide +kernel
theorem dX12_does_86 : decode cX12_does 86 = .ok (.aload_n 0, 1) := by decide +kernel
theorem dX12_does_87 : decode cX12_does 87 = .ok (.getfield 8, 3) := by decide +kernel
theorem dX12_does_90 : decode cX12_does 90 = .ok (.sipush 11480, 3) := by decide +kernel
theorem dX12_does_93 : decode cX12_does 93 = .ok (.iload 6, 2) := by decide +kernel
theorem dX12_does_95 : decode cX12_does 95 = .ok (.iadd, 1) := by decide +kernel
theorem dX12_does_96 : decode cX12_does 96 = .ok (.iaload, 1) := by decide +kernel
theorem dX12_does_97 : decode cX12_does 97 = .ok (.iadd, 1) := by decide +kernel
theorem dX12_does_98 : decode cX12_does 98 = .ok (.istore 8, 2) := by decide +kernel
theorem dX12_does_100 : decode cX12_does 100 = .ok (.iload_n 2, 1) := by decide +kernel
theorem dX12_does_101 : decode cX12_does 101 = .ok (.iload 6, 2) := by decide +kernel
theorem dX12_does_103 : decode cX12_does 103 = .ok (.ishr, 1) := by decide +kernel
theorem dX12_does_104 : decode cX12_does 104 = .ok (.iconst 1, 1) := by decide +kernel
theorem dX12_does_105 : decode cX12_does 105 = .ok (.iand, 1) := by decide +kernel
theorem dX12_does_106 : decode cX12_does 106 = .ok (.ifCond .ne 37, 3) := by decide +kernel
theorem dX12_does_109 : decode cX12_does 109 = .ok (.iload 8, 2) := by decide +kernel
theorem dX12_does_111 : decode cX12_does 111 = .ok (.iload 5, 2) := by decide +kernel
theorem dX12_does_113 : decode cX12_does 113 = .ok (.if_icmp .gt 30, 3) := by decide +kernel
theorem dX12_does_116 : decode cX12_does 116 = .ok (.aload_n 0, 1) := by decide +kernel
theorem dX12_does_117 : decode cX12_does 117 = .ok (.getfield 26, 3) := by decide +kernel
theorem dX12_does_120 : decode cX12_does 120 = .ok (.iload_n 1, 1) := by decide +kernel
theorem dX12_does_121 : decode cX12_does 121 = .ok (.iload 6, 2) := by decide +kernel
theorem dX12_does_123 : decode cX12_does 123 = .ok (.iastore, 1) := by decide +kernel
theorem dX12_does_124 : decode cX12_does 124 = .ok (.aload_n 0, 1) := by decide +kernel
theorem dX12_does_125 : decode cX12_does 125 = .ok (.iload_n 1, 1) := by decide +kernel
theorem dX12_does_126 : decode cX12_does 126 = .ok (.iconst 1, 1) := by decide +kernel
theorem dX12_does_127 : decode cX12_does 127 = .ok (.iadd, 1) := by decide +kernel
theorem dX12_does_128 : decode cX12_does 128 = .ok (.iload_n 2, 1) := by decide +kernel
theorem dX12_does_129 : decode cX12_does 129 = .ok (.iconst 1, 1) := by decide +kernel
theorem dX12_does_130 : decode cX12_does 130 = .ok (.iload 6, 2) := by decide +kernel
theorem dX12_does_132 : decode cX12_does 132 = .ok (.ishl, 1) := by decide +kernel
theorem dX12_does_133 : decode cX12_does 133 = .ok (.ior, 1) := by decide +kernel
theorem dX12_does_134 : decode cX12_does 134 = .ok (.iload 7, 2) := by decide +kernel
theorem dX12_does_136 : decode cX12_does 136 = .ok (.iload 8, 2) := by decide +kernel
theorem dX12_does_138 : decode cX12_does 138 = .ok (.iload 5, 2) := by decide +kernel
theorem dX12_does_140 : decode cX12_does 140 = .ok (.invokevirtual 234, 3) := by decide +kernel
theorem dX12_does_143 : decode cX12_does 143 = .ok (.iinc 6 1, 3) := by decide +kernel
theorem dX12_does_146 : decode cX12_does 146 = .ok (.goto (-101), 3) := by decide +kernel
theorem dX12_does_149 : decode cX12_does 149 = .ok (.return_, 1) := by decide +kernel
theorem cm_X12_does : CM yX12_does cX12_does 9 none 5 12 := ⟨w_1759, w_74, w_1760, w_97, ⟨by decide +kernel, by decide +kernel, by decide +kernel⟩, ⟨_, _, rfl⟩, by decide⟩
noncomputable def f_X12_does_143 (F_X12_does : Int → Int → Int → Int → Int → Int → MM → RR) (n : Nat) (rec45 : Int → MM → RR) (v0 v1 v2 v3 v4 v5 v6 : Int) (h : MM) : RR :=
  lb (wr (v6 + 1)) fun x1 =>
  rec45 x1 h
noncomputable def f_X12_does_86 (F_X12_does : Int → Int → Int → Int → Int → Int → MM → RR) (n : Nat) (rec45 : Int → MM → RR) (v0 v1 v2 v3 v4 v5 v6 v7 s0 : Int) (h : MM) : RR :=
  gf h v0 12 1 fun r1 =>
  rd h r1 100 (wr (11480 + v6)) fun r2 =>
  lb (wr (s0 + r2)) fun x3 =>
  if ban (shr v2 v6) 1 = 0 then
    if v5 < x3 then
      f_X12_does_143 F_X12_does n rec45 v0 v1 v2 v3 v4 v5 v6 h
    else
    gf h v0 12 11 fun r6 =>
    wt h r6 100 v1 v6 fun h7 =>
    gk h7 v0 12 <|
    bd (F_X12_does v0 (wr (v1 + 1)) (bor v2 (shl 1 v6)) v7 x3 v5 h7) fun r8 h8 =>
    f_X12_does_143 F_X12_does n rec45 v0 v1 v2 v3 v4 v5 v6 h8
  else
  f_X12_does_143 F_X12_does n rec45 v0 v1 v2 v3 v4 v5 v6 h
noncomputable def f_X12_does_45b (F_X12_does : Int → Int → Int → Int → Int → Int → MM → RR) (n : Nat) (rec45 : Int → MM → RR) (v0 v1 v2 v3 v4 v5 v6 : Int) (h : MM) : RR :=
  gf h v0 12 1 fun r1 =>
  rd h r1 100 7 fun r2 =>
  if r2 ≤ v6 then
    some (0, h)
  else
  gf h v0 12 1 fun r4 =>
  rd h r4 100 (wr (11470 + v6)) fun r5 =>
  lb (wr (v3 + r5)) fun x6 =>
  if x6 ≤ v4 then
    f_X12_does_86 F_X12_does n rec45 v0 v1 v2 v3 v4 v5 v6 x6 v4 h
  else
  f_X12_does_86 F_X12_does n rec45 v0 v1 v2 v3 v4 v5 v6 x6 x6 h
noncomputable def f_X12_does_45 (F_X12_does : Int → Int → Int → Int → Int → Int → MM → RR) (n : Nat)  (v0 v1 v2 v3 v4 v5 : Int) : Nat → Int → MM → RR
  | 0, _, _ => none
  | k + 1, v6, h => f_X12_does_45b F_X12_does n  (f_X12_does_45 F_X12_does n  v0 v1 v2 v3 v4 v5 k) v0 v1 v2 v3 v4 v5 v6 h
noncomputable def f_X12_does_42 (F_X12_does : Int → Int → Int → Int → Int → Int → MM → RR) (n : Nat)  (v0 v1 v2 v3 v4 v5 : Int) (h : MM) : RR :=
  f_X12_does_45 F_X12_does n v0 v1 v2 v3 v4 v5 n 0 h
noncomputable def f_X12_does_16b (F_X12_does : Int → Int → Int → Int → Int → Int → MM → RR) (n : Nat) (rec16 : Int → MM → RR) (v0 v1 v2 v3 v4 v5 v6 : Int) (h : MM) : RR :=
  if v1 ≤ v6 then
    f_X12_does_42 F_X12_does n v0 v1 v2 v3 v4 v5 h
  else
  gf h v0 12 12 fun r2 =>
  gf h v0 12 11 fun r3 =>
  rd h r3 100 v6 fun r4 =>
  wt h r2 100 v6 r4 fun h5 =>
  lb (wr (v6 + 1)) fun x6 =>
  rec16 x6 h5
noncomputable def f_X12_does_16 (F_X12_does : Int → Int → Int → Int → Int → Int → MM → RR) (n : Nat)  (v0 v1 v2 v3 v4 v5 : Int) : Nat → Int → MM → RR
  | 0, _, _ => none
  | k + 1, v6, h => f_X12_does_16b F_X12_does n  (f_X12_does_16 F_X12_does n  v0 v1 v2 v3 v4 v5 k) v0 v1 v2 v3 v4 v5 v6 h
noncomputable def f_X12_does_op (F_X12_does : Int → Int → Int → Int → Int → Int → MM → RR) (n : Nat) (v0 v1 v2 v3 v4 v5 : Int) (h : MM) : RR :=
  gf h v0 12 13 fun r1 =>
  if v1 ≤ r1 then
    f_X12_does_42 F_X12_does n v0 v1 v2 v3 v4 v5 h
  else
  pf h v0 12 13 v1 fun h3 =>
  f_X12_does_16 F_X12_does n v0 v1 v2 v3 v4 v5 n 0 h3
noncomputable def t_X12_does (n : Nat) : Nat → (Int → Int → Int → Int → Int → Int → MM → RR)
  | 0 => ((fun _ _ _ _ _ _ _ => none))
  | k + 1 => (f_X12_does_op ((t_X12_does n k)) n)
noncomputable def f_X12_does (n : Nat) : (Int → Int → Int → Int → Int → Int → MM → RR) := (t_X12_does n 10)
set_option maxRecDepth 20000 in
theorem b_X12_does_143 {g : GT} {Z : Int × MM} {n : Nat} {fA lA : Nat} {F_X12_does : Int → Int → Int → Int → Int → Int → MM → RR} (A_X12_does : AM (gl g) yX12_does cX12_does 9 none (fA) (lA) [2, 0, 0, 0, 0, 0] 3 (un6 F_X12_does)) (C : Cx g cX12_does 9 yX12_does (fA + 1) (lA + 28)) (hr : Rt g none 3 Z) {v0 v1 v2 v3 v4 v5 v6 : Int}  {rec45 : Int → MM → RR} (L45 : ∀ (u6 : Int) (h : MM), in32 u6 → rec45 u6 h = some Z → G g 45 [(2, v0), (0, v1), (0, v2), (0, v3), (0, v4), (0, v5), (0, u6), (3, 0), (3, 0)] [] h) (cv1 : in32 v1) (cv2 : in32 v2) (cv3 : in32 v3) (cv4 : in32 v4) (cv5 : in32 v5) (cv6 : in32 v6) {h : MM} (hf : f_X12_does_143 F_X12_does n rec45 v0 v1 v2 v3 v4 v5 v6 h = some Z) : G g 143 [(2, v0), (0, v1), (0, v2), (0, v3), (0, v4), (0, v5), (0, v6), (3, 0), (3, 0)] [] h := by
  unfold f_X12_does_143 at hf
  obtain ⟨x1, e1, hf⟩ := lb_s hf
  have c1 : in32 x1 := by rw [e1]; exact (in32_t _)
  refine r_iincL C dX12_does_143 rfl e1 (Nat.le_of_ble_eq_true rfl) rfl ?_
  refine r_goto C dX12_does_146 (tgt := 45) (by decide) ?_
  exact G.mask [true, true, true, true, true, true, true, false, false] rfl rfl (L45 _ _ c1 hf)
set_option maxRecDepth 20000 in
theorem b_X12_does_86 {g : GT} {Z : Int × MM} {n : Nat} {fA lA : Nat} {F_X12_does : Int → Int → Int → Int → Int → Int → MM → RR} (A_X12_does : AM (gl g) yX12_does cX12_does 9 none (fA) (lA) [2, 0, 0, 0, 0, 0] 3 (un6 F_X12_does)) (C : Cx g cX12_does 9 yX12_does (fA + 1) (lA + 28)) (hr : Rt g none 3 Z) {v0 v1 v2 v3 v4 v5 v6 v7 s0 : Int}  {rec45 : Int → MM → RR} (L45 : ∀ (u6 : Int) (h : MM), in32 u6 → rec45 u6 h = some Z → G g 45 [(2, v0), (0, v1), (0, v2), (0, v3), (0, v4), (0, v5), (0, u6), (3, 0), (3, 0)] [] h) (cv1 : in32 v1) (cv2 : in32 v2) (cv3 : in32 v3) (cv4 : in32 v4) (cv5 : in32 v5) (cv6 : in32 v6) (cv7 : in32 v7) (cs0 : in32 s0) {h : MM} (hf : f_X12_does_86 F_X12_does n rec45 v0 v1 v2 v3 v4 v5 v6 v7 s0 h = some Z) : G g 86 [(2, v0), (0, v1), (0, v2), (0, v3), (0, v4), (0, v5), (0, v6), (0, v7), (3, 0)] [(0, s0)] h := by
  unfold f_X12_does_86 at hf
  refine r_aload_n C dX12_does_86 rfl ?_
  obtain ⟨q1, hf⟩ := gf_s hf
  refine r_gf C ct12 (j := 1) (ji := 1) dX12_does_87 q1 rfl rfl (by decide) w_1426 rfl (fun c1 => ?_)
  refine r_sipush C dX12_does_90 rfl ?_
  refine r_iload C dX12_does_93 rfl ?_
  refine r_iadd C dX12_does_95 ?_
  obtain ⟨q2, hf⟩ := rd_s hf
  refine r_iald C dX12_does_96 q2 rfl (fun c2 => ?_)
  refine r_iadd C dX12_does_97 ?_
  obtain ⟨x3, e3, hf⟩ := lb_s hf
  have c3 : in32 x3 := by rw [e3]; exact (in32_t _)
  refine r_istoreL C dX12_does_98 e3 (Nat.le_of_ble_eq_true rfl) rfl ?_
  refine r_iload_n C dX12_does_100 rfl ?_
  refine r_iload C dX12_does_101 rfl ?_
  refine r_ishr C dX12_does_103 ?_
  refine r_iconst C dX12_does_104 ?_
  refine r_iand C dX12_does_105 ?_
  refine r_if_ne C dX12_does_106 (tgt := 143) (by decide) (in32_t _) (fun n4 => ?_) (fun n4 => ?_)
  · have hf := ite_n n4 hf
    exact G.mask [true, true, true, true, true, true, true, false, false] rfl rfl (b_X12_does_143 A_X12_does C hr L45 cv1 cv2 cv3 cv4 cv5 cv6 hf)
  · have hf := ite_p n4 hf
    refine r_iload C dX12_does_109 rfl ?_
    refine r_iload C dX12_does_111 rfl ?_
    refine r_icmp_gt C dX12_does_113 (tgt := 143) (by decide) c3 cv5 (fun n5 => ?_) (fun n5 => ?_)
    · have hf := ite_p n5 hf
      exact G.mask [true, true, true, true, true, true, true, false, false] rfl rfl (b_X12_does_143 A_X12_does C hr L45 cv1 cv2 cv3 cv4 cv5 cv6 hf)
    · have hf := ite_n n5 hf
      refine r_aload_n C dX12_does_116 rfl ?_
      obtain ⟨q6, hf⟩ := gf_s hf
      refine r_gf C ct12 (j := 11) (ji := 11) dX12_does_117 q6 rfl rfl (by decide) w_1436 rfl (fun c6 => ?_)
      refine r_iload_n C dX12_does_120 rfl ?_
      refine r_iload C dX12_does_121 rfl ?_
      obtain ⟨q7, hf⟩ := wt_s hf
      refine r_iast C dX12_does_123 q7 rfl cv6 ?_
      refine r_aload_n C dX12_does_124 rfl ?_
      refine r_iload_n C dX12_does_125 rfl ?_
      refine r_iconst C dX12_does_126 ?_
      refine r_iadd C dX12_does_127 ?_
      refine r_iload_n C dX12_does_128 rfl ?_
      refine r_iconst C dX12_does_129 ?_
      refine r_iload C dX12_does_130 rfl ?_
      refine r_ishl C dX12_does_132 ?_
      refine r_ior C dX12_does_133 ?_
      refine r_iload C dX12_does_134 rfl ?_
      refine r_iload C dX12_does_136 rfl ?_
      refine r_iload C dX12_does_138 rfl ?_
      obtain ⟨p8, hf⟩ := gk_s hf
      obtain ⟨r8, h8, hq8, hf⟩ := bd_s hf
      refine r_cV5v C A_X12_does cm_X12_does w_1757 dX12_does_140 ⟨by omega, by omega⟩ p8 rfl (in32_t _) (in32_t _) cv7 c3 cv5 rfl (Nat.le_of_ble_eq_true rfl) hq8 ?_
      exact G.mask [true, true, true, true, true, true, true, false, false] rfl rfl (b_X12_does_143 A_X12_does C hr L45 cv1 cv2 cv3 cv4 cv5 cv6 hf)
set_option maxRecDepth 20000 in
theorem b_X12_does_45b {g : GT} {Z : Int × MM} {n : Nat} {fA lA : Nat} {F_X12_does : Int → Int → Int → Int → Int → Int → MM → RR} (A_X12_does : AM (gl g) yX12_does cX12_does 9 none (fA) (lA) [2, 0, 0, 0, 0, 0] 3 (un6 F_X12_does)) (C : Cx g cX12_does 9 yX12_does (fA + 1) (lA + 28)) (hr : Rt g none 3 Z) {v0 v1 v2 v3 v4 v5 v6 : Int}  {rec45 : Int → MM → RR} (L45 : ∀ (u6 : Int) (h : MM), in32 u6 → rec45 u6 h = some Z → G g 45 [(2, v0), (0, v1), (0, v2), (0, v3), (0, v4), (0, v5), (0, u6), (3, 0), (3, 0)] [] h) (cv1 : in32 v1) (cv2 : in32 v2) (cv3 : in32 v3) (cv4 : in32 v4) (cv5 : in32 v5) (cv6 : in32 v6) {h : MM} (hf : f_X12_does_45b F_X12_does n rec45 v0 v1 v2 v3 v4 v5 v6 h = some Z) : G g 45 [(2, v0), (0, v1), (0, v2), (0, v3), (0, v4), (0, v5), (0, v6), (3, 0), (3, 0)] [] h := by
  unfold f_X12_does_45b at hf
  refine r_iload C dX12_does_45 rfl ?_
  refine r_aload_n C dX12_does_47 rfl ?_
  obtain ⟨q1, hf⟩ := gf_s hf
  refine r_gf C ct12 (j := 1) (ji := 1) dX12_does_48 q1 rfl rfl (by decide) w_1426 rfl (fun c1 => ?_)
  refine r_bipush C dX12_does_51 rfl ?_
  obtain ⟨q2, hf⟩ := rd_s hf
  refine r_iald C dX12_does_53 q2 rfl (fun c2 => ?_)
  refine r_icmp_ge C dX12_does_54 (tgt := 149) (by decide) cv6 c2 (fun n3 => ?_) (fun n3 => ?_)
  · have hf := ite_p n3 hf
    cases hf
    exact r_vret C hr dX12_does_149
  · have hf := ite_n n3 hf
    refine r_iload_n C dX12_does_57 rfl ?_
    refine r_aload_n C dX12_does_58 rfl ?_
    obtain ⟨q4, hf⟩ := gf_s hf
    refine r_gf C ct12 (j := 1) (ji := 1) dX12_does_59 q4 rfl rfl (by decide) w_1426 rfl (fun c4 => ?_)
    refine r_sipush C dX12_does_62 rfl ?_
    refine r_iload C dX12_does_65 rfl ?_
    refine r_iadd C dX12_does_67 ?_
    obtain ⟨q5, hf⟩ := rd_s hf
    refine r_iald C dX12_does_68 q5 rfl (fun c5 => ?_)
    refine r_iadd C dX12_does_69 ?_
    obtain ⟨x6, e6, hf⟩ := lb_s hf
    have c6 : in32 x6 := by rw [e6]; exact (in32_t _)
    refine r_istoreL C dX12_does_70 e6 (Nat.le_of_ble_eq_true rfl) rfl ?_
    refine r_iload C dX12_does_72 rfl ?_
    refine r_iload C dX12_does_74 rfl ?_
    refine r_icmp_le C dX12_does_76 (tgt := 84) (by decide) c6 cv4 (fun n7 => ?_) (fun n7 => ?_)
    · have hf := ite_p n7 hf
      refine r_iload C dX12_does_84 rfl ?_
      exact G.mask [true, true, true, true, true, true, true, true, false] rfl rfl (b_X12_does_86 A_X12_does C hr L45 cv1 cv2 cv3 cv4 cv5 cv6 c6 cv4 hf)
    · have hf := ite_n n7 hf
      refine r_iload C dX12_does_79 rfl ?_
      refine r_goto C dX12_does_81 (tgt := 86) (by decide) ?_
      exact G.mask [true, true, true, true, true, true, true, true, false] rfl rfl (b_X12_does_86 A_X12_does C hr L45 cv1 cv2 cv3 cv4 cv5 cv6 c6 c6 hf)
set_option maxRecDepth 20000 in
theorem l_X12_does_45 {g : GT} {Z : Int × MM} {n : Nat} {fA lA : Nat} {F_X12_does : Int → Int → Int → Int → Int → Int → MM → RR} (A_X12_does : AM (gl g) yX12_does cX12_does 9 none (fA) (lA) [2, 0, 0, 0, 0, 0] 3 (un6 F_X12_does)) (C : Cx g cX12_does 9 yX12_does (fA + 1) (lA + 28)) (hr : Rt g none 3 Z) {v0 v1 v2 v3 v4 v5 : Int}   (cv1 : in32 v1) (cv2 : in32 v2) (cv3 : in32 v3) (cv4 : in32 v4) (cv5 : in32 v5) : ∀ (k : Nat) (v6 : Int) (h : MM), in32 v6 → f_X12_does_45 F_X12_does n  v0 v1 v2 v3 v4 v5 k v6 h = some Z → G g 45 [(2, v0), (0, v1), (0, v2), (0, v3), (0, v4), (0, v5), (0, v6), (3, 0), (3, 0)] [] h := by
  intro k
  induction k with
  | zero => intro v6 h cv6 hf; exact absurd hf (by intro z; cases z)
  | succ k ih => intro v6 h cv6 hf; exact b_X12_does_45b A_X12_does C hr (rec45 := f_X12_does_45 F_X12_does n  v0 v1 v2 v3 v4 v5 k)  ih cv1 cv2 cv3 cv4 cv5 cv6 (show f_X12_does_45b F_X12_does n  (f_X12_does_45 F_X12_does n  v0 v1 v2 v3 v4 v5 k) v0 v1 v2 v3 v4 v5 v6 h = some Z from hf)
set_option maxRecDepth 20000 in
theorem b_X12_does_42 {g : GT} {Z : Int × MM} {n : Nat} {fA lA : Nat} {F_X12_does : Int → Int → Int → Int → Int → Int → MM → RR} (A_X12_does : AM (gl g) yX12_does cX12_does 9 none (fA) (lA) [2, 0, 0, 0, 0, 0] 3 (un6 F_X12_does)) (C : Cx g cX12_does 9 yX12_does (fA + 1) (lA + 28)) (hr : Rt g none 3 Z) {v0 v1 v2 v3 v4 v5 : Int}    (cv1 : in32 v1) (cv2 : in32 v2) (cv3 : in32 v3) (cv4 : in32 v4) (cv5 : in32 v5) {h : MM} (hf : f_X12_does_42 F_X12_does n  v0 v1 v2 v3 v4 v5 h = some Z) : G g 42 [(2, v0), (0, v1), (0, v2), (0, v3), (0, v4), (0, v5), (3, 0), (3, 0), (3, 0)] [] h := by
  unfold f_X12_does_42 at hf
  refine r_iconst C dX12_does_42 ?_
  refine r_istore C dX12_does_43 (Nat.le_of_ble_eq_true rfl) rfl ?_
  exact G.mask [true, true, true, true, true, true, true, false, false] rfl rfl (l_X12_does_45 A_X12_does C hr  cv1 cv2 cv3 cv4 cv5 _ _ _ (in32_of rfl) hf)
set_option maxRecDepth 20000 in
theorem b_X12_does_16b {g : GT} {Z : Int × MM} {n : Nat} {fA lA : Nat} {F_X12_does : Int → Int → Int → Int → Int → Int → MM → RR} (A_X12_does : AM (gl g) yX12_does cX12_does 9 none (fA) (lA) [2, 0, 0, 0, 0, 0] 3 (un6 F_X12_does)) (C : Cx g cX12_does 9 yX12_does (fA + 1) (lA + 28)) (hr : Rt g none 3 Z) {v0 v1 v2 v3 v4 v5 v6 : Int}  {rec16 : Int → MM → RR} (L16 : ∀ (u6 : Int) (h : MM), in32 u6 → rec16 u6 h = some Z → G g 16 [(2, v0), (0, v1), (0, v2), (0, v3), (0, v4), (0, v5), (0, u6), (3, 0), (3, 0)] [] h) (cv1 : in32 v1) (cv2 : in32 v2) (cv3 : in32 v3) (cv4 : in32 v4) (cv5 : in32 v5) (cv6 : in32 v6) {h : MM} (hf : f_X12_does_16b F_X12_does n rec16 v0 v1 v2 v3 v4 v5 v6 h = some Z) : G g 16 [(2, v0), (0, v1), (0, v2), (0, v3), (0, v4), (0, v5), (0, v6), (3, 0), (3, 0)] [] h := by
  unfold f_X12_does_16b at hf
  refine r_iload C dX12_does_16 rfl ?_
  refine r_iload_n C dX12_does_18 rfl ?_
  refine r_icmp_ge C dX12_does_19 (tgt := 42) (by decide) cv6 cv1 (fun n1 => ?_) (fun n1 => ?_)
  · have hf := ite_p n1 hf
    exact G.mask [true, true, true, true, true, true, false, false, false] rfl rfl (b_X12_does_42 A_X12_does C hr  cv1 cv2 cv3 cv4 cv5 hf)
  · have hf := ite_n n1 hf
    refine r_aload_n C dX12_does_22 rfl ?_
    obtain ⟨q2, hf⟩ := gf_s hf
    refine r_gf C ct12 (j := 12) (ji := 12) dX12_does_23 q2 rfl rfl (by decide) w_1437 rfl (fun c2 => ?_)
    refine r_iload C dX12_does_26 rfl ?_
    refine r_aload_n C dX12_does_28 rfl ?_
    obtain ⟨q3, hf⟩ := gf_s hf
    refine r_gf C ct12 (j := 11) (ji := 11) dX12_does_29 q3 rfl rfl (by decide) w_1436 rfl (fun c3 => ?_)
    refine r_iload C dX12_does_32 rfl ?_
    obtain ⟨q4, hf⟩ := rd_s hf
    refine r_iald C dX12_does_34 q4 rfl (fun c4 => ?_)
    obtain ⟨q5, hf⟩ := wt_s hf
    refine r_iast C dX12_does_35 q5 rfl c4 ?_
    obtain ⟨x6, e6, hf⟩ := lb_s hf
    have c6 : in32 x6 := by rw [e6]; exact (in32_t _)
    refine r_iincL C dX12_does_36 rfl e6 (Nat.le_of_ble_eq_true rfl) rfl ?_
    refine r_goto C dX12_does_39 (tgt := 16) (by decide) ?_
    exact G.mask [true, true, true, true, true, true, true, false, false] rfl rfl (L16 _ _ c6 hf)
set_option maxRecDepth 20000 in
theorem l_X12_does_16 {g : GT} {Z : Int × MM} {n : Nat} {fA lA : Nat} {F_X12_does : Int → Int → Int → Int → Int → Int → MM → RR} (A_X12_does : AM (gl g) yX12_does cX12_does 9 none (fA) (lA) [2, 0, 0, 0, 0, 0] 3 (un6 F_X12_does)) (C : Cx g cX12_does 9 yX12_does (fA + 1) (lA + 28)) (hr : Rt g none 3 Z) {v0 v1 v2 v3 v4 v5 : Int}   (cv1 : in32 v1) (cv2 : in32 v2) (cv3 : in32 v3) (cv4 : in32 v4) (cv5 : in32 v5) : ∀ (k : Nat) (v6 : Int) (h : MM), in32 v6 → f_X12_does_16 F_X12_does n  v0 v1 v2 v3 v4 v5 k v6 h = some Z → G g 16 [(2, v0), (0, v1), (0, v2), (0, v3), (0, v4), (0, v5), (0, v6), (3, 0), (3, 0)] [] h := by
  intro k
  induction k with
  | zero => intro v6 h cv6 hf; exact absurd hf (by intro z; cases z)
  | succ k ih => intro v6 h cv6 hf; exact b_X12_does_16b A_X12_does C hr (rec16 := f_X12_does_16 F_X12_does n  v0 v1 v2 v3 v4 v5 k)  ih cv1 cv2 cv3 cv4 cv5 cv6 (show f_X12_does_16b F_X12_does n  (f_X12_does_16 F_X12_does n  v0 v1 v2 v3 v4 v5 k) v0 v1 v2 v3 v4 v5 v6 h = some Z from hf)
set_option maxRecDepth 20000 in
theorem e_X12_does {g : GT} {Z : Int × MM} {n : Nat} {fA lA : Nat} {F_X12_does : Int → Int → Int → Int → Int → Int → MM → RR} (A_X12_does : AM (gl g) yX12_does cX12_does 9 none (fA) (lA) [2, 0, 0, 0, 0, 0] 3 (un6 F_X12_does)) (C : Cx g cX12_does 9 yX12_does (fA + 1) (lA + 28)) (hr : Rt g none 3 Z) {v0 v1 v2 v3 v4 v5 : Int} (cv0 : cK 2 v0) (cv1 : cK 0 v1) (cv2 : cK 0 v2) (cv3 : cK 0 v3) (cv4 : cK 0 v4) (cv5 : cK 0 v5) {h : MM} (hf : f_X12_does_op F_X12_does n v0 v1 v2 v3 v4 v5 h = some Z) : G g 0 [(2, v0), (0, v1), (0, v2), (0, v3), (0, v4), (0, v5), (3, 0), (3, 0), (3, 0)] [] h := by
  have cv1 : in32 v1 := cv1
  have cv2 : in32 v2 := cv2
  have cv3 : in32 v3 := cv3
  have cv4 : in32 v4 := cv4
  have cv5 : in32 v5 := cv5
  unfold f_X12_does_op at hf
  refine r_iload_n C dX12_does_0 rfl ?_
  refine r_aload_n C dX12_does_1 rfl ?_
  obtain ⟨q1, hf⟩ := gf_s hf
  refine r_gf C ct12 (j := 13) (ji := 13) dX12_does_2 q1 rfl rfl (by decide) w_1438 rfl (fun c1 => ?_)
  have c1 : in32 _ := c1
  refine r_icmp_le C dX12_does_5 (tgt := 42) (by decide) cv1 c1 (fun n2 => ?_) (fun n2 => ?_)
  · have hf := ite_p n2 hf
    exact G.mask [true, true, true, true, true, true, false, false, false] rfl rfl (b_X12_does_42 A_X12_does C hr  cv1 cv2 cv3 cv4 cv5 hf)
  · have hf := ite_n n2 hf
    refine r_aload_n C dX12_does_8 rfl ?_
    refine r_iload_n C dX12_does_9 rfl ?_
    obtain ⟨q3, hf⟩ := pf_s hf
    refine r_pf C ct12 (j := 13) (ji := 13) dX12_does_10 q3 rfl rfl (by decide) w_1438 rfl (Or.inl rfl) nar_int cv1 ?_
    refine r_iconst C dX12_does_13 ?_
    refine r_istore C dX12_does_14 (Nat.le_of_ble_eq_true rfl) rfl ?_
    exact G.mask [true, true, true, true, true, true, true, false, false] rfl rfl (l_X12_does_16 A_X12_does C hr  cv1 cv2 cv3 cv4 cv5 _ _ _ (in32_of rfl) hf)
set_option maxRecDepth 20000 in
theorem at_t_X12_does (l : Launch) (n : Nat) : ∀ k : Nat, AM l yX12_does cX12_does 9 none (1 * k) (28 * k) [2, 0, 0, 0, 0, 0] 3 (un6 ((t_X12_does n k))) := by
  intro k
  induction k with
  | zero =>
    exact AM.none (fun xs h Z hx q => by
      obtain ⟨a0, a1, a2, a3, a4, a5, rfl, c0, c1, c2, c3, c4, c5⟩ := canL_6 hx
      cases q)
  | succ k ih =>
    have i_X12_does := ih
    exact AM.intro (by decide) (fun xs hx => by
      obtain ⟨a0, a1, a2, a3, a4, a5, rfl, c0, c1, c2, c3, c4, c5⟩ := canL_6 hx
      exact Nat.le_of_ble_eq_true rfl) (fun g xs h Z hl C hr hx hf => by
      subst hl
      obtain ⟨a0, a1, a2, a3, a4, a5, rfl, c0, c1, c2, c3, c4, c5⟩ := canL_6 hx
      exact e_X12_does (n := n) i_X12_does C hr c0 c1 c2 c3 c4 c5 hf)
set_option maxRecDepth 20000 in
theorem am_X12_does (l : Launch) (n : Nat) : AM l yX12_does cX12_does 9 none 10 280 [2, 0, 0, 0, 0, 0] 3 (un6 (f_X12_does n)) := (at_t_X12_does l n 10)
/-! LinesPromisedModel.midnight(II)I -/
theorem dX12_midnight_0 : decode cX12_midnight 0 = .ok (.iload_n 2, 1) := by decide +kernel
theorem dX12_midnight_1 : decode cX12_midnight 1 = .ok (.iconst (-1), 1) := by decide +kernel
theorem dX12_midnight_2 : decode cX12_midnight 2 = .ok (.if_icmp .ge 5, 3) := by decide +kernel
theorem dX12_midnight_5 : decode cX12_midnight 5 = .ok (.iconst (-1), 1) := by decide +kernel
theorem dX12_midnight_6 : decode cX12_midnight 6 = .ok (.ireturn, 1) := by decide +kernel
theorem dX12_midnight_7 : decode cX12_midnight 7 = .ok (.iload_n 1, 1) := by decide +kernel
theorem dX12_midnight_8 : decode cX12_midnight 8 = .ok (.iconst 1, 1) := by decide +kernel
theorem dX12_midnight_9 : decode cX12_midnight 9 = .ok (.sipush 999, 3) := by decide +kernel
theorem dX12_midnight_12 : decode cX12_midnight 12 = .ok (.invokestatic 58, 3) := by decide +kernel
theorem dX12_midnight_15 : decode cX12_midnight 15 = .ok (.ifCond .ne 6, 3) := by decide +kernel
theorem dX12_midnight_18 : decode cX12_midnight 18 = .ok (.bipush (-2), 2) := by decide +kernel
theorem dX12_midnight_20 : decode cX12_midnight 20 = .ok (.ireturn, 1) := by decide +kernel
theorem dX12_midnight_21 : decode cX12_midnight 21 = .ok (.aload_n 0, 1) := by decide +kernel
theorem dX12_midnight_22 : decode cX12_midnight 22 = .ok (.iconst 0, 1) := by decide +kernel
theorem dX12_midnight_23 : decode cX12_midnight 23 = .ok (.putfield 231, 3) := by decide +kernel
theorem dX12_midnight_26 : decode cX12_midnight 26 = .ok (.aload_n 0, 1) := by decide +kernel
theorem dX12_midnight_27 : decode cX12_midnight 27 = .ok (.iconst 0, 1) := by decide +kernel
theorem dX12_midnight_28 : decode cX12_midnight 28 = .ok (.iconst 0, 1) := by decide +kernel
theorem dX12_midnight_29 : decode cX12_midnight 29 = .ok (.iconst 0, 1) := by decide +kernel
theorem dX12_midnight_30 : decode cX12_midnight 30 = .ok (.iconst 0, 1) := by decide +kernel
theorem dX12_midnight_31 : decode cX12_midnight 31 = .ok (.iload_n 1, 1) := by decide +kernel
theorem dX12_midnight_32 : decode cX12_midnight 32 = .ok (.invokevirtual 234, 3) := by decide +kernel
theorem dX12_midnight_35 : decode cX12_midnight 35 = .ok (.iload_n 2, 1) := by decide +kernel
theorem dX12_midnight_36 : decode cX12_midnight 36 = .ok (.iconst (-1), 1) := by decide +kernel
theorem dX12_midnight_37 : decode cX12_midnight 37 = .ok (.if_icmp .ne 10, 3) := by decide +kernel
theorem dX12_midnight_40 : decode cX12_midnight 40 = .ok (.aload_n 0, 1) := by decide +kernel
theorem dX12_midnight_41 : decode cX12_midnight 41 = .ok (.getfield 231, 3) := by decide +kernel
theorem dX12_midnight_44 : decode cX12_midnight 44 = .ok (.goto 21, 3) := by decide +kernel
theorem dX12_midnight_47 : decode cX12_midnight 47 = .ok (.iload_n 2, 1) := by decide +kernel
theorem dX12_midnight_48 : decode cX12_midnight 48 = .ok (.aload_n 0, 1) := by decide +kernel
theorem dX12_midnight_49 : decode cX12_midnight 49 = .ok (.getfield 231, 3) := by decide +kernel
theorem dX12_midnight_52 : decode cX12_midnight 52 = .ok (.if_icmp .ge 12, 3) := by decide +kernel
theorem dX12_midnight_55 : decode cX12_midnight 55 = .ok (.aload_n 0, 1) := by decide +kernel
theorem dX12_midnight_56 : decode cX12_midnight 56 = .ok (.getfield 29, 3) := by decide +kernel
theorem dX12_midnight_59 : decode cX12_midnight 59 = .ok (.iload_n 2, 1) := by decide +kernel
theorem dX12_midnight_60 : decode cX12_midnight 60 = .ok (.iaload, 1) := by decide +kernel
theorem dX12_midnight_61 : decode cX12_midnight 61 = .ok (.goto 4, 3) := by decide +kernel
theorem dX12_midnight_64 : decode cX12_midnight 64 = .ok (.iconst (-1), 1) := by decide +kernel
theorem dX12_midnight_65 : decode cX12_midnight 65 = .ok (.ireturn, 1) := by decide +kernel
theorem cm_X12_midnight : CM yX12_midnight cX12_midnight 3 (some .int) 2 12 := ⟨w_1754, w_1755, w_1756, w_97, ⟨by decide +kernel, by decide +kernel, by decide +kernel⟩, ⟨_, _, rfl⟩, by decide⟩
noncomputable def f_X12_midnight_65 (n : Nat)  (s0 : Int) (h : MM) : RR :=
  some (s0, h)
noncomputable def f_X12_midnight (n : Nat) (v0 v1 v2 : Int) (h : MM) : RR :=
  if (-1) ≤ v2 then
    bd (f_X12_in n v1 1 999 h) fun r2 h2 =>
    if r2 = 0 then
      some ((-2), h2)
    else
    pf h2 v0 12 13 0 fun h4 =>
    gk h4 v0 12 <|
    bd (f_X12_does n v0 0 0 0 0 v1 h4) fun r5 h5 =>
    if v2 = (-1) then
      gf h5 v0 12 13 fun r11 =>
      f_X12_midnight_65 n r11 h5
    else
    gf h5 v0 12 13 fun r7 =>
    if r7 ≤ v2 then
      f_X12_midnight_65 n ((-1)) h5
    else
    gf h5 v0 12 12 fun r9 =>
    rd h5 r9 100 v2 fun r10 =>
    f_X12_midnight_65 n r10 h5
  else
  some ((-1), h)
set_option maxRecDepth 20000 in
theorem b_X12_midnight_65 {g : GT} {Z : Int × MM} {n : Nat} (C : Cx g cX12_midnight 3 yX12_midnight 11 308) (hr : Rt g (some .int) 0 Z) {s0 : Int}    (cs0 : in32 s0) {h : MM} (hf : f_X12_midnight_65 n  s0 h = some Z) : G g 65 [(3, 0), (3, 0), (3, 0)] [(0, s0)] h := by
  unfold f_X12_midnight_65 at hf
  cases hf
  exact r_jret C hr dX12_midnight_65 cs0
set_option maxRecDepth 20000 in
theorem e_X12_midnight {g : GT} {Z : Int × MM} {n : Nat} (C : Cx g cX12_midnight 3 yX12_midnight 11 308) (hr : Rt g (some .int) 0 Z) {v0 v1 v2 : Int} (cv0 : cK 2 v0) (cv1 : cK 0 v1) (cv2 : cK 0 v2) {h : MM} (hf : f_X12_midnight n v0 v1 v2 h = some Z) : G g 0 [(2, v0), (0, v1), (0, v2)] [] h := by
  have cv1 : in32 v1 := cv1
  have cv2 : in32 v2 := cv2
  unfold f_X12_midnight at hf
  refine r_iload_n C dX12_midnight_0 rfl ?_
  refine r_iconst C dX12_midnight_1 ?_
  refine r_icmp_ge C dX12_midnight_2 (tgt := 7) (by decide) cv2 (in32_of rfl) (fun n1 => ?_) (fun n1 => ?_)
  · have hf := ite_p n1 hf
    refine r_iload_n C dX12_midnight_7 rfl ?_
    refine r_iconst C dX12_midnight_8 ?_
    refine r_sipush C dX12_midnight_9 rfl ?_
    obtain ⟨r2, h2, hq2, hf⟩ := bd_s hf
    refine r_cS3 C (am_X12_in (gl g) n) cm_X12_in w_1496 dX12_midnight_12 ⟨Nat.le_of_ble_eq_true rfl, Nat.le_of_ble_eq_true rfl⟩ cv1 (in32_of rfl) (in32_of rfl) rfl (Nat.le_of_ble_eq_true rfl) hq2 (by decide) (fun c2 => ?_)
    have c2 : in32 _ := c2
    refine r_if_ne C dX12_midnight_15 (tgt := 21) (by decide) c2 (fun n3 => ?_) (fun n3 => ?_)
    · have hf := ite_n n3 hf
      refine r_aload_n C dX12_midnight_21 rfl ?_
      refine r_iconst C dX12_midnight_22 ?_
      obtain ⟨q4, hf⟩ := pf_s hf
      refine r_pf C ct12 (j := 13) (ji := 13) dX12_midnight_23 q4 rfl rfl (by decide) w_1438 rfl (Or.inl rfl) nar_int (in32_of rfl) ?_
      refine r_aload_n C dX12_midnight_26 rfl ?_
      refine r_iconst C dX12_midnight_27 ?_
      refine r_iconst C dX12_midnight_28 ?_
      refine r_iconst C dX12_midnight_29 ?_
      refine r_iconst C dX12_midnight_30 ?_
      refine r_iload_n C dX12_midnight_31 rfl ?_
      obtain ⟨p5, hf⟩ := gk_s hf
      obtain ⟨r5, h5, hq5, hf⟩ := bd_s hf
      refine r_cV5v C (am_X12_does (gl g) n) cm_X12_does w_1757 dX12_midnight_32 ⟨Nat.le_of_ble_eq_true rfl, Nat.le_of_ble_eq_true rfl⟩ p5 rfl (in32_of rfl) (in32_of rfl) (in32_of rfl) (in32_of rfl) cv1 rfl (Nat.le_of_ble_eq_true rfl) hq5 ?_
      refine r_iload_n C dX12_midnight_35 rfl ?_
      refine r_iconst C dX12_midnight_36 ?_
      refine r_icmp_ne C dX12_midnight_37 (tgt := 47) (by decide) cv2 (in32_of rfl) (fun n6 => ?_) (fun n6 => ?_)
      · have hf := ite_n n6 hf
        refine r_iload_n C dX12_midnight_47 rfl ?_
        refine r_aload_n C dX12_midnight_48 rfl ?_
        obtain ⟨q7, hf⟩ := gf_s hf
        refine r_gf C ct12 (j := 13) (ji := 13) dX12_midnight_49 q7 rfl rfl (by decide) w_1438 rfl (fun c7 => ?_)
        have c7 : in32 _ := c7
        refine r_icmp_ge C dX12_midnight_52 (tgt := 64) (by decide) cv2 c7 (fun n8 => ?_) (fun n8 => ?_)
        · have hf := ite_p n8 hf
          refine r_iconst C dX12_midnight_64 ?_
          exact G.mask [false, false, false] rfl rfl (b_X12_midnight_65 C hr  (in32_of rfl) hf)
        · have hf := ite_n n8 hf
          refine r_aload_n C dX12_midnight_55 rfl ?_
          obtain ⟨q9, hf⟩ := gf_s hf
          refine r_gf C ct12 (j := 12) (ji := 12) dX12_midnight_56 q9 rfl rfl (by decide) w_1437 rfl (fun c9 => ?_)
          refine r_iload_n C dX12_midnight_59 rfl ?_
          obtain ⟨q10, hf⟩ := rd_s hf
          refine r_iald C dX12_midnight_60 q10 rfl (fun c10 => ?_)
          refine r_goto C dX12_midnight_61 (tgt := 65) (by decide) ?_
          exact G.mask [false, false, false] rfl rfl (b_X12_midnight_65 C hr  c10 hf)
      · have hf := ite_p n6 hf
        refine r_aload_n C dX12_midnight_40 rfl ?_
        obtain ⟨q11, hf⟩ := gf_s hf
        refine r_gf C ct12 (j := 13) (ji := 13) dX12_midnight_41 q11 rfl rfl (by decide) w_1438 rfl (fun c11 => ?_)
        have c11 : in32 _ := c11
        refine r_goto C dX12_midnight_44 (tgt := 65) (by decide) ?_
        exact G.mask [false, false, false] rfl rfl (b_X12_midnight_65 C hr  c11 hf)
    · have hf := ite_p n3 hf
      refine r_bipush C dX12_midnight_18 rfl ?_
      cases hf
      exact r_jret C hr dX12_midnight_20 (in32_of rfl)
  · have hf := ite_n n1 hf
    refine r_iconst C dX12_midnight_5 ?_
    cases hf
    exact r_jret C hr dX12_midnight_6 (in32_of rfl)
set_option maxRecDepth 20000 in
theorem am_X12_midnight (l : Launch) (n : Nat) : AM l yX12_midnight cX12_midnight 3 (some .int) 11 308 [2, 0, 0] 0 (un3 (f_X12_midnight n)) := by
  refine AM.intro (by decide) (fun xs hx => ?_) (fun g xs h Z hl C hr hx hf => ?_)
  · obtain ⟨a0, a1, a2, rfl, c0, c1, c2⟩ := canL_3 hx
    exact Nat.le_of_ble_eq_true rfl
  · obtain ⟨a0, a1, a2, rfl, c0, c1, c2⟩ := canL_3 hx
    have hf := (un3_e _ a0 a1 a2 _).symm.trans hf
    exact e_X12_midnight (n := n) C hr c0 c1 c2 hf
/-! LinesPromisedModel.isScheme(I)Z -/
theorem dX12_isScheme_0 : decode cX12_isScheme 0 = .ok (.aload_n 0, 1) := by decide +kernel
theorem dX12_isScheme_1 : decode cX12_isScheme 1 = .ok (.iload_n 1, 1) := by decide +kernel
theorem dX12_isScheme_2 : decode cX12_isScheme 2 = .ok (.iconst 1, 1) := by decide +kernel
theorem dX12_isScheme_3 : decode cX12_isScheme 3 = .ok (.invokevirtual 165, 3) := by decide +kernel
theorem dX12_isScheme_6 : decode cX12_isScheme 6 = .ok (.ireturn, 1) := by decide +kernel
theorem cm_X12_isScheme : CM yX12_isScheme cX12_isScheme 2 (some .boolean) 1 12 := ⟨w_1767, w_75, w_1768, w_97, ⟨by decide +kernel, by decide +kernel, by decide +kernel⟩, ⟨_, _, rfl⟩, by decide⟩
noncomputable def f_X12_isScheme (n : Nat) (v0 v1 : Int) (h : MM) : RR :=
  gk h v0 12 <|
  bd (f_X12_isOf n v0 v1 1 h) fun r1 h1 =>
  ck (isb r1) <|
  some (r1, h1)
set_option maxRecDepth 20000 in
theorem e_X12_isScheme {g : GT} {Z : Int × MM} {n : Nat} (C : Cx g cX12_isScheme 2 yX12_isScheme 3 65) (hr : Rt g (some .boolean) 0 Z) {v0 v1 : Int} (cv0 : cK 2 v0) (cv1 : cK 0 v1) {h : MM} (hf : f_X12_isScheme n v0 v1 h = some Z) : G g 0 [(2, v0), (0, v1)] [] h := by
  have cv1 : in32 v1 := cv1
  unfold f_X12_isScheme at hf
  refine r_aload_n C dX12_isScheme_0 rfl ?_
  refine r_iload_n C dX12_isScheme_1 rfl ?_
  refine r_iconst C dX12_isScheme_2 ?_
  obtain ⟨p1, hf⟩ := gk_s hf
  obtain ⟨r1, h1, hq1, hf⟩ := bd_s hf
  refine r_cV2 C (am_X12_isOf (gl g) n) cm_X12_isOf w_1607 dX12_isScheme_3 ⟨Nat.le_of_ble_eq_true rfl, Nat.le_of_ble_eq_true rfl⟩ p1 rfl cv1 (in32_of rfl) rfl (Nat.le_of_ble_eq_true rfl) hq1 (by decide) (fun c1 => ?_)
  have c1 : in32 _ := c1
  obtain ⟨b2, hf⟩ := ck_s hf
  cases hf
  exact r_zret C hr dX12_isScheme_6 b2
set_option maxRecDepth 20000 in
theorem am_X12_isScheme (l : Launch) (n : Nat) : AM l yX12_isScheme cX12_isScheme 2 (some .boolean) 3 65 [2, 0] 0 (un2 (f_X12_isScheme n)) := by
  refine AM.intro (by decide) (fun xs hx => ?_) (fun g xs h Z hl C hr hx hf => ?_)
  · obtain ⟨a0, a1, rfl, c0, c1⟩ := canL_2 hx
    exact Nat.le_of_ble_eq_true rfl
  · obtain ⟨a0, a1, rfl, c0, c1⟩ := canL_2 hx
    have hf := (un2_e _ a0 a1 _).symm.trans hf
    exact e_X12_isScheme (n := n) C hr c0 c1 hf
/-! LinesPromisedModel.isFallen(I)Z -/
theorem dX12_isFallen_0 : decode cX12_isFallen 0 = .ok (.aload_n 0, 1) := by decide +kernel
theorem dX12_isFallen_1 : decode cX12_isFallen 1 = .ok (.getfield 8, 3) := by decide +kernel
theorem dX12_isFallen_4 : decode cX12_isFallen 4 = .ok (.sipush 790, 3) := by decide +kernel
theorem dX12_isFallen_7 : decode cX12_isFallen 7 = .ok (.iload_n 1, 1) := by decide +kernel
theorem dX12_isFallen_8 : decode cX12_isFallen 8 = .ok (.iadd, 1) := by decide +kernel
theorem dX12_isFallen_9 : decode cX12_isFallen 9 = .ok (.iaload, 1) := by decide +kernel
theorem dX12_isFallen_10 : decode cX12_isFallen 10 = .ok (.iconst 1, 1) := by decide +kernel
theorem dX12_isFallen_11 : decode cX12_isFallen 11 = .ok (.if_icmp .ne 7, 3) := by decide +kernel
theorem dX12_isFallen_14 : decode cX12_isFallen 14 = .ok (.iconst 1, 1) := by decide +kernel
theorem dX12_isFallen_15 : decode cX12_isFallen 15 = .ok (.goto 4, 3) := by decide +kernel
theorem dX12_isFallen_18 : decode cX12_isFallen 18 = .ok (.iconst 0, 1) := by decide +kernel
theorem dX12_isFallen_19 : decode cX12_isFallen 19 = .ok (.ireturn, 1) := by decide +kernel
theorem cm_X12_isFallen : CM yX12_isFallen cX12_isFallen 2 (some .boolean) 1 12 := ⟨w_1771, w_76, w_1772, w_97, ⟨by decide +kernel, by decide +kernel, by decide +kernel⟩, ⟨_, _, rfl⟩, by decide⟩
noncomputable def f_X12_isFallen_19 (n : Nat)  (s0 : Int) (h : MM) : RR :=
  ck (isb s0) <|
  some (s0, h)
noncomputable def f_X12_isFallen (n : Nat) (v0 v1 : Int) (h : MM) : RR :=
  gf h v0 12 1 fun r1 =>
  rd h r1 100 (wr (790 + v1)) fun r2 =>
  if r2 = 1 then
    f_X12_isFallen_19 n 1 h
  else
  f_X12_isFallen_19 n 0 h
set_option maxRecDepth 20000 in
theorem b_X12_isFallen_19 {g : GT} {Z : Int × MM} {n : Nat} (C : Cx g cX12_isFallen 2 yX12_isFallen 0 0) (hr : Rt g (some .boolean) 0 Z) {s0 : Int}    (cs0 : in32 s0) {h : MM} (hf : f_X12_isFallen_19 n  s0 h = some Z) : G g 19 [(3, 0), (3, 0)] [(0, s0)] h := by
  unfold f_X12_isFallen_19 at hf
  obtain ⟨b1, hf⟩ := ck_s hf
  cases hf
  exact r_zret C hr dX12_isFallen_19 b1
set_option maxRecDepth 20000 in
theorem e_X12_isFallen {g : GT} {Z : Int × MM} {n : Nat} (C : Cx g cX12_isFallen 2 yX12_isFallen 0 0) (hr : Rt g (some .boolean) 0 Z) {v0 v1 : Int} (cv0 : cK 2 v0) (cv1 : cK 0 v1) {h : MM} (hf : f_X12_isFallen n v0 v1 h = some Z) : G g 0 [(2, v0), (0, v1)] [] h := by
  have cv1 : in32 v1 := cv1
  unfold f_X12_isFallen at hf
  refine r_aload_n C dX12_isFallen_0 rfl ?_
  obtain ⟨q1, hf⟩ := gf_s hf
  refine r_gf C ct12 (j := 1) (ji := 1) dX12_isFallen_1 q1 rfl rfl (by decide) w_1426 rfl (fun c1 => ?_)
  refine r_sipush C dX12_isFallen_4 rfl ?_
  refine r_iload_n C dX12_isFallen_7 rfl ?_
  refine r_iadd C dX12_isFallen_8 ?_
  obtain ⟨q2, hf⟩ := rd_s hf
  refine r_iald C dX12_isFallen_9 q2 rfl (fun c2 => ?_)
  refine r_iconst C dX12_isFallen_10 ?_
  refine r_icmp_ne C dX12_isFallen_11 (tgt := 18) (by decide) c2 (in32_of rfl) (fun n3 => ?_) (fun n3 => ?_)
  · have hf := ite_n n3 hf
    refine r_iconst C dX12_isFallen_18 ?_
    exact G.mask [false, false] rfl rfl (b_X12_isFallen_19 C hr  (in32_of rfl) hf)
  · have hf := ite_p n3 hf
    refine r_iconst C dX12_isFallen_14 ?_
    refine r_goto C dX12_isFallen_15 (tgt := 19) (by decide) ?_
    exact G.mask [false, false] rfl rfl (b_X12_isFallen_19 C hr  (in32_of rfl) hf)
set_option maxRecDepth 20000 in
theorem am_X12_isFallen (l : Launch) (n : Nat) : AM l yX12_isFallen cX12_isFallen 2 (some .boolean) 0 0 [2, 0] 0 (un2 (f_X12_isFallen n)) := by
  refine AM.intro (by decide) (fun xs hx => ?_) (fun g xs h Z hl C hr hx hf => ?_)
  · obtain ⟨a0, a1, rfl, c0, c1⟩ := canL_2 hx
    exact Nat.le_of_ble_eq_true rfl
  · obtain ⟨a0, a1, rfl, c0, c1⟩ := canL_2 hx
    have hf := (un2_e _ a0 a1 _).symm.trans hf
    exact e_X12_isFallen (n := n) C hr c0 c1 hf
/-! LinesPromisedModel.indexOf(I)I -/
theorem dX12_indexOf_0 : decode cX12_indexOf 0 = .ok (.iconst 0, 1) := by decide +kernel
theorem dX12_indexOf_1 : decode cX12_indexOf 1 = .ok (.istore_n 2, 1) := by decide +kernel
theorem dX12_indexOf_2 : decode cX12_indexOf 2 = .ok (.aload_n 0, 1) := by decide +kernel
theorem dX12_indexOf_3 : decode cX12_indexOf 3 = .ok (.getfield 8, 3) := by decide +kernel
theorem dX12_indexOf_6 : decode cX12_indexOf 6 = .ok (.sipush 11490, 3) := by decide +kernel
theorem dX12_indexOf_9 : decode cX12_indexOf 9 = .ok (.iload_n 2, 1) := by decide +kernel
theorem dX12_indexOf_10 : decode cX12_indexOf 10 = .ok (.iadd, 1) := by decide +kernel
theorem dX12_indexOf_11 : decode cX12_indexOf 11 = .ok (.iaload, 1) := by decide +kernel
theorem dX12_indexOf_12 : decode cX12_indexOf 12 = .ok (.iload_n 1, 1) := by decide +kernel
theorem dX12_indexOf_13 : decode cX12_indexOf 13 = .ok (.if_icmp .eq 9, 3) := by decide +kernel
theorem dX12_indexOf_16 : decode cX12_indexOf 16 = .ok (.iinc 2 1, 3) := by decide +kernel
theorem dX12_indexOf_19 : decode cX12_indexOf 19 = .ok (.goto (-17), 3) := by decide +kernel
theorem dX12_indexOf_22 : decode cX12_indexOf 22 = .ok (.iload_n 2, 1) := by decide +kernel
theorem dX12_indexOf_23 : decode cX12_indexOf 23 = .ok (.ireturn, 1) := by decide +kernel
theorem cm_X12_indexOf : CM yX12_indexOf cX12_indexOf 3 (some .int) 1 12 := ⟨w_1779, w_78, w_1780, w_97, ⟨by decide +kernel, by decide +kernel, by decide +kernel⟩, ⟨_, _, rfl⟩, by decide⟩
noncomputable def f_X12_indexOf_2b (n : Nat) (rec2 : Int → MM → RR) (v0 v1 v2 : Int) (h : MM) : RR :=
  gf h v0 12 1 fun r1 =>
  rd h r1 100 (wr (11490 + v2)) fun r2 =>
  if r2 = v1 then
    some (v2, h)
  else
  lb (wr (v2 + 1)) fun x4 =>
  rec2 x4 h
noncomputable def f_X12_indexOf_2 (n : Nat)  (v0 v1 : Int) : Nat → Int → MM → RR
  | 0, _, _ => none
  | k + 1, v2, h => f_X12_indexOf_2b n  (f_X12_indexOf_2 n  v0 v1 k) v0 v1 v2 h
noncomputable def f_X12_indexOf (n : Nat) (v0 v1 : Int) (h : MM) : RR :=
  f_X12_indexOf_2 n v0 v1 n 0 h
set_option maxRecDepth 20000 in
theorem b_X12_indexOf_2b {g : GT} {Z : Int × MM} {n : Nat} (C : Cx g cX12_indexOf 3 yX12_indexOf 0 0) (hr : Rt g (some .int) 0 Z) {v0 v1 v2 : Int}  {rec2 : Int → MM → RR} (L2 : ∀ (u2 : Int) (h : MM), in32 u2 → rec2 u2 h = some Z → G g 2 [(2, v0), (0, v1), (0, u2)] [] h) (cv1 : in32 v1) (cv2 : in32 v2) {h : MM} (hf : f_X12_indexOf_2b n rec2 v0 v1 v2 h = some Z) : G g 2 [(2, v0), (0, v1), (0, v2)] [] h := by
  unfold f_X12_indexOf_2b at hf
  refine r_aload_n C dX12_indexOf_2 rfl ?_
  obtain ⟨q1, hf⟩ := gf_s hf
  refine r_gf C ct12 (j := 1) (ji := 1) dX12_indexOf_3 q1 rfl rfl (by decide) w_1426 rfl (fun c1 => ?_)
  refine r_sipush C dX12_indexOf_6 rfl ?_
  refine r_iload_n C dX12_indexOf_9 rfl ?_
  refine r_iadd C dX12_indexOf_10 ?_
  obtain ⟨q2, hf⟩ := rd_s hf
  refine r_iald C dX12_indexOf_11 q2 rfl (fun c2 => ?_)
  refine r_iload_n C dX12_indexOf_12 rfl ?_
  refine r_icmp_eq C dX12_indexOf_13 (tgt := 22) (by decide) c2 cv1 (fun n3 => ?_) (fun n3 => ?_)
  · have hf := ite_p n3 hf
    refine r_iload_n C dX12_indexOf_22 rfl ?_
    cases hf
    exact r_jret C hr dX12_indexOf_23 cv2
  · have hf := ite_n n3 hf
    obtain ⟨x4, e4, hf⟩ := lb_s hf
    have c4 : in32 x4 := by rw [e4]; exact (in32_t _)
    refine r_iincL C dX12_indexOf_16 rfl e4 (Nat.le_of_ble_eq_true rfl) rfl ?_
    refine r_goto C dX12_indexOf_19 (tgt := 2) (by decide) ?_
    exact G.mask [true, true, true] rfl rfl (L2 _ _ c4 hf)
set_option maxRecDepth 20000 in
theorem l_X12_indexOf_2 {g : GT} {Z : Int × MM} {n : Nat} (C : Cx g cX12_indexOf 3 yX12_indexOf 0 0) (hr : Rt g (some .int) 0 Z) {v0 v1 : Int}   (cv1 : in32 v1) : ∀ (k : Nat) (v2 : Int) (h : MM), in32 v2 → f_X12_indexOf_2 n  v0 v1 k v2 h = some Z → G g 2 [(2, v0), (0, v1), (0, v2)] [] h := by
  intro k
  induction k with
  | zero => intro v2 h cv2 hf; exact absurd hf (by intro z; cases z)
  | succ k ih => intro v2 h cv2 hf; exact b_X12_indexOf_2b C hr (rec2 := f_X12_indexOf_2 n  v0 v1 k)  ih cv1 cv2 (show f_X12_indexOf_2b n  (f_X12_indexOf_2 n  v0 v1 k) v0 v1 v2 h = some Z from hf)
set_option maxRecDepth 20000 in
theorem e_X12_indexOf {g : GT} {Z : Int × MM} {n : Nat} (C : Cx g cX12_indexOf 3 yX12_indexOf 0 0) (hr : Rt g (some .int) 0 Z) {v0 v1 : Int} (cv0 : cK 2 v0) (cv1 : cK 0 v1) {h : MM} (hf : f_X12_indexOf n v0 v1 h = some Z) : G g 0 [(2, v0), (0, v1), (3, 0)] [] h := by
  have cv1 : in32 v1 := cv1
  unfold f_X12_indexOf at hf
  refine r_iconst C dX12_indexOf_0 ?_
  refine r_istore_n C dX12_indexOf_1 (Nat.le_of_ble_eq_true rfl) rfl ?_
  exact G.mask [true, true, true] rfl rfl (l_X12_indexOf_2 C hr  cv1 _ _ _ (in32_of rfl) hf)
set_option maxRecDepth 20000 in
theorem am_X12_indexOf (l : Launch) (n : Nat) : AM l yX12_indexOf cX12_indexOf 3 (some .int) 0 0 [2, 0] 0 (un2 (f_X12_indexOf n)) := by
  refine AM.intro (by decide) (fun xs hx => ?_) (fun g xs h Z hl C hr hx hf => ?_)
  · obtain ⟨a0, a1, rfl, c0, c1⟩ := canL_2 hx
    exact Nat.le_of_ble_eq_true rfl
  · obtain ⟨a0, a1, rfl, c0, c1⟩ := canL_2 hx
    have hf := (un2_e _ a0 a1 _).symm.trans hf
    exact e_X12_indexOf (n := n) C hr c0 c1 hf
/-! LinesPromisedModel.sharesAt(II)I -/
theorem dX12_sharesAt_0 : decode cX12_sharesAt 0 = .ok (.sipush 11530, 3) := by decide +kernel
theorem dX12_sharesAt_3 : decode cX12_sharesAt 3 = .ok (.bipush 9, 2) := by decide +kernel
theorem dX12_sharesAt_5 : decode cX12_sharesAt 5 = .ok (.aload_n 0, 1) := by decide +kernel
theorem dX12_sharesAt_6 : decode cX12_sharesAt 6 = .ok (.iload_n 1, 1) := by decide +kernel
theorem dX12_sharesAt_7 : decode cX12_sharesAt 7 = .ok (.invokevirtual 238, 3) := by decide +kernel
theorem dX12_sharesAt_10 : decode cX12_sharesAt 10 = .ok (.imul, 1) := by decide +kernel
theorem dX12_sharesAt_11 : decode cX12_sharesAt 11 = .ok (.iadd, 1) := by decide +kernel
theorem dX12_sharesAt_12 : decode cX12_sharesAt 12 = .ok (.iload_n 2, 1) := by decide +kernel
theorem dX12_sharesAt_13 : decode cX12_sharesAt 13 = .ok (.iadd, 1) := by decide +kernel
theorem dX12_sharesAt_14 : decode cX12_sharesAt 14 = .ok (.ireturn, 1) := by decide +kernel
theorem cm_X12_sharesAt : CM yX12_sharesAt cX12_sharesAt 3 (some .int) 2 12 := ⟨w_1775, w_77, w_1776, w_97, ⟨by decide +kernel, by decide +kernel, by decide +kernel⟩, ⟨_, _, rfl⟩, by decide⟩
noncomputable def f_X12_sharesAt (n : Nat) (v0 v1 v2 : Int) (h : MM) : RR :=
  gk h v0 12 <|
  bd (f_X12_indexOf n v0 v1 h) fun r1 h1 =>
  some (wr ((wr (11530 + (wr (9 * r1)))) + v2), h1)
set_option maxRecDepth 20000 in
theorem e_X12_sharesAt {g : GT} {Z : Int × MM} {n : Nat} (C : Cx g cX12_sharesAt 3 yX12_sharesAt 1 22) (hr : Rt g (some .int) 0 Z) {v0 v1 v2 : Int} (cv0 : cK 2 v0) (cv1 : cK 0 v1) (cv2 : cK 0 v2) {h : MM} (hf : f_X12_sharesAt n v0 v1 v2 h = some Z) : G g 0 [(2, v0), (0, v1), (0, v2)] [] h := by
  have cv1 : in32 v1 := cv1
  have cv2 : in32 v2 := cv2
  unfold f_X12_sharesAt at hf
  refine r_sipush C dX12_sharesAt_0 rfl ?_
  refine r_bipush C dX12_sharesAt_3 rfl ?_
  refine r_aload_n C dX12_sharesAt_5 rfl ?_
  refine r_iload_n C dX12_sharesAt_6 rfl ?_
  obtain ⟨p1, hf⟩ := gk_s hf
  obtain ⟨r1, h1, hq1, hf⟩ := bd_s hf
  refine r_cV1 C (am_X12_indexOf (gl g) n) cm_X12_indexOf w_1777 dX12_sharesAt_7 ⟨Nat.le_of_ble_eq_true rfl, Nat.le_of_ble_eq_true rfl⟩ p1 rfl cv1 rfl (Nat.le_of_ble_eq_true rfl) hq1 (by decide) (fun c1 => ?_)
  have c1 : in32 _ := c1
  refine r_imul C dX12_sharesAt_10 ?_
  refine r_iadd C dX12_sharesAt_11 ?_
  refine r_iload_n C dX12_sharesAt_12 rfl ?_
  refine r_iadd C dX12_sharesAt_13 ?_
  cases hf
  exact r_jret C hr dX12_sharesAt_14 (in32_t _)
set_option maxRecDepth 20000 in
theorem am_X12_sharesAt (l : Launch) (n : Nat) : AM l yX12_sharesAt cX12_sharesAt 3 (some .int) 1 22 [2, 0, 0] 0 (un3 (f_X12_sharesAt n)) := by
  refine AM.intro (by decide) (fun xs hx => ?_) (fun g xs h Z hl C hr hx hf => ?_)
  · obtain ⟨a0, a1, a2, rfl, c0, c1, c2⟩ := canL_3 hx
    exact Nat.le_of_ble_eq_true rfl
  · obtain ⟨a0, a1, a2, rfl, c0, c1, c2⟩ := canL_3 hx
    have hf := (un3_e _ a0 a1 a2 _).symm.trans hf
    exact e_X12_sharesAt (n := n) C hr c0 c1 c2 hf
