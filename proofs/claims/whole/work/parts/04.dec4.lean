theorem dX12_ask_8 : decode cX12_ask 8 = .ok (.iload_n 2, 1) := by decide +kernel
theorem dX12_ask_9 : decode cX12_ask 9 = .ok (.invokestatic 69, 3) := by decide +kernel
theorem dX12_ask_12 : decode cX12_ask 12 = .ok (.ifCond .ne 5, 3) := by decide +kernel
theorem dX12_ask_15 : decode cX12_ask 15 = .ok (.iconst (-1), 1) := by decide +kernel
theorem dX12_ask_16 : decode cX12_ask 16 = .ok (.ireturn, 1) := by decide +kernel
theorem dX12_ask_17 : decode cX12_ask 17 = .ok (.iload_n 3, 1) := by decide +kernel
theorem dX12_ask_18 : decode cX12_ask 18 = .ok (.iconst 1, 1) := by decide +kernel
theorem dX12_ask_19 : decode cX12_ask 19 = .ok (.bipush 99, 2) := by decide +kernel
theorem dX12_ask_21 : decode cX12_ask 21 = .ok (.invokestatic 58, 3) := by decide +kernel
theorem dX12_ask_24 : decode cX12_ask 24 = .ok (.ifCond .eq 15, 3) := by decide +kernel
theorem dX12_ask_27 : decode cX12_ask 27 = .ok (.iload 4, 2) := by decide +kernel
theorem dX12_ask_29 : decode cX12_ask 29 = .ok (.iconst 1, 1) := by decide +kernel
theorem dX12_ask_30 : decode cX12_ask 30 = .ok (.sipush 999, 3) := by decide +kernel
theorem dX12_ask_33 : decode cX12_ask 33 = .ok (.invokestatic 58, 3) := by decide +kernel
theorem dX12_ask_36 : decode cX12_ask 36 = .ok (.ifCond .ne 6, 3) := by decide +kernel
theorem dX12_ask_39 : decode cX12_ask 39 = .ok (.bipush (-2), 2) := by decide +kernel
theorem dX12_ask_41 : decode cX12_ask 41 = .ok (.ireturn, 1) := by decide +kernel
theorem dX12_ask_42 : decode cX12_ask 42 = .ok (.aload_n 0, 1) := by decide +kernel
theorem dX12_ask_43 : decode cX12_ask 43 = .ok (.getfield 8, 3) := by decide +kernel
theorem dX12_ask_46 : decode cX12_ask 46 = .ok (.bipush 8, 2) := by decide +kernel
theorem dX12_ask_48 : decode cX12_ask 48 = .ok (.iaload, 1) := by decide +kernel
theorem dX12_ask_49 : decode cX12_ask 49 = .ok (.bipush 40, 2) := by decide +kernel
theorem dX12_ask_51 : decode cX12_ask 51 = .ok (.if_icmp .ne 6, 3) := by decide +kernel
theorem dX12_ask_54 : decode cX12_ask 54 = .ok (.bipush (-4), 2) := by decide +kernel
theorem dX12_ask_56 : decode cX12_ask 56 = .ok (.ireturn, 1) := by decide +kernel
theorem dX12_ask_57 : decode cX12_ask 57 = .ok (.aload_n 0, 1) := by decide +kernel
theorem dX12_ask_58 : decode cX12_ask 58 = .ok (.getfield 8, 3) := by decide +kernel
theorem dX12_ask_61 : decode cX12_ask 61 = .ok (.bipush 8, 2) := by decide +kernel
theorem dX12_ask_63 : decode cX12_ask 63 = .ok (.iaload, 1) := by decide +kernel
theorem dX12_ask_64 : decode cX12_ask 64 = .ok (.istore 6, 2) := by decide +kernel
theorem dX12_ask_66 : decode cX12_ask 66 = .ok (.aload_n 0, 1) := by decide +kernel
theorem dX12_ask_67 : decode cX12_ask 67 = .ok (.getfield 8, 3) := by decide +kernel
theorem dX12_ask_70 : decode cX12_ask 70 = .ok (.sipush 11640, 3) := by decide +kernel
theorem dX12_ask_73 : decode cX12_ask 73 = .ok (.iload 6, 2) := by decide +kernel
theorem dX12_ask_75 : decode cX12_ask 75 = .ok (.iadd, 1) := by decide +kernel
theorem dX12_ask_76 : decode cX12_ask 76 = .ok (.iload_n 1, 1) := by decide +kernel
theorem dX12_ask_77 : decode cX12_ask 77 = .ok (.iastore, 1) := by decide +kernel
theorem dX12_ask_78 : decode cX12_ask 78 = .ok (.aload_n 0, 1) := by decide +kernel
theorem dX12_ask_79 : decode cX12_ask 79 = .ok (.getfield 8, 3) := by decide +kernel
theorem dX12_ask_82 : decode cX12_ask 82 = .ok (.sipush 11680, 3) := by decide +kernel
theorem dX12_ask_85 : decode cX12_ask 85 = .ok (.iload 6, 2) := by decide +kernel
theorem dX12_ask_87 : decode cX12_ask 87 = .ok (.iadd, 1) := by decide +kernel
theorem dX12_ask_88 : decode cX12_ask 88 = .ok (.iload_n 2, 1) := by decide +kernel
theorem dX12_ask_89 : decode cX12_ask 89 = .ok (.iastore, 1) := by decide +kernel
theorem dX12_ask_90 : decode cX12_ask 90 = .ok (.aload_n 0, 1) := by decide +kernel
theorem dX12_ask_91 : decode cX12_ask 91 = .ok (.getfield 8, 3) := by decide +kernel
theorem dX12_ask_94 : decode cX12_ask 94 = .ok (.sipush 11720, 3) := by decide +kernel
theorem dX12_ask_97 : decode cX12_ask 97 = .ok (.iload 6, 2) := by decide +kernel
theorem dX12_ask_99 : decode cX12_ask 99 = .ok (.iadd, 1) := by decide +kernel
theorem dX12_ask_100 : decode cX12_ask 100 = .ok (.iload_n 3, 1) := by decide +kernel
theorem dX12_ask_101 : decode cX12_ask 101 = .ok (.iastore, 1) := by decide +kernel
theorem dX12_ask_102 : decode cX12_ask 102 = .ok (.aload_n 0, 1) := by decide +kernel
theorem dX12_ask_103 : decode cX12_ask 103 = .ok (.getfield 8, 3) := by decide +kernel
theorem dX12_ask_106 : decode cX12_ask 106 = .ok (.sipush 11760, 3) := by decide +kernel
theorem dX12_ask_109 : decode cX12_ask 109 = .ok (.iload 6, 2) := by decide +kernel
theorem dX12_ask_111 : decode cX12_ask 111 = .ok (.iadd, 1) := by decide +kernel
theorem dX12_ask_112 : decode cX12_ask 112 = .ok (.iload 4, 2) := by decide +kernel
theorem dX12_ask_114 : decode cX12_ask 114 = .ok (.iastore, 1) := by decide +kernel
theorem dX12_ask_115 : decode cX12_ask 115 = .ok (.aload_n 0, 1) := by decide +kernel
theorem dX12_ask_116 : decode cX12_ask 116 = .ok (.getfield 8, 3) := by decide +kernel
theorem dX12_ask_119 : decode cX12_ask 119 = .ok (.sipush 11800, 3) := by decide +kernel
theorem dX12_ask_122 : decode cX12_ask 122 = .ok (.iload 6, 2) := by decide +kernel
theorem dX12_ask_124 : decode cX12_ask 124 = .ok (.iadd, 1) := by decide +kernel
theorem dX12_ask_125 : decode cX12_ask 125 = .ok (.iload 5, 2) := by decide +kernel
theorem dX12_ask_127 : decode cX12_ask 127 = .ok (.ifCond .eq 7, 3) := by decide +kernel
theorem dX12_ask_130 : decode cX12_ask 130 = .ok (.iconst 1, 1) := by decide +kernel
theorem dX12_ask_131 : decode cX12_ask 131 = .ok (.goto 4, 3) := by decide +kernel
theorem dX12_ask_134 : decode cX12_ask 134 = .ok (.iconst 0, 1) := by decide +kernel
theorem dX12_ask_135 : decode cX12_ask 135 = .ok (.iastore, 1) := by decide +kernel
theorem dX12_ask_136 : decode cX12_ask 136 = .ok (.aload_n 0, 1) := by decide +kernel
theorem dX12_ask_137 : decode cX12_ask 137 = .ok (.getfield 8, 3) := by decide +kernel
theorem dX12_ask_140 : decode cX12_ask 140 = .ok (.bipush 8, 2) := by decide +kernel
theorem dX12_ask_142 : decode cX12_ask 142 = .ok (.dup2, 1) := by decide +kernel
theorem dX12_ask_143 : decode cX12_ask 143 = .ok (.iaload, 1) := by decide +kernel
theorem dX12_ask_144 : decode cX12_ask 144 = .ok (.iconst 1, 1) := by decide +kernel
theorem dX12_ask_145 : decode cX12_ask 145 = .ok (.iadd, 1) := by decide +kernel
theorem dX12_ask_146 : decode cX12_ask 146 = .ok (.iastore, 1) := by decide +kernel
theorem dX12_ask_147 : decode cX12_ask 147 = .ok (.aload_n 0, 1) := by decide +kernel
theorem dX12_ask_148 : decode cX12_ask 148 = .ok (.getfield 8, 3) := by decide +kernel
theorem dX12_ask_151 : decode cX12_ask 151 = .ok (.bipush 8, 2) := by decide +kernel
theorem dX12_ask_153 : decode cX12_ask 153 = .ok (.iaload, 1) := by decide +kernel
theorem dX12_ask_154 : decode cX12_ask 154 = .ok (.ireturn, 1) := by decide +kernel
theorem dX12_bestOf_0 : decode cX12_bestOf 0 = .ok (.iconst (-1), 1) := by decide +kernel
theorem dX12_bestOf_1 : decode cX12_bestOf 1 = .ok (.istore_n 3, 1) := by decide +kernel
theorem dX12_bestOf_2 : decode cX12_bestOf 2 = .ok (.iconst 0, 1) := by decide +kernel
theorem dX12_bestOf_3 : decode cX12_bestOf 3 = .ok (.istore 4, 2) := by decide +kernel
theorem dX12_bestOf_5 : decode cX12_bestOf 5 = .ok (.iload 4, 2) := by decide +kernel
theorem dX12_bestOf_7 : decode cX12_bestOf 7 = .ok (.aload_n 0, 1) := by decide +kernel
theorem dX12_bestOf_8 : decode cX12_bestOf 8 = .ok (.getfield 8, 3) := by decide +kernel
theorem dX12_bestOf_11 : decode cX12_bestOf 11 = .ok (.bipush 8, 2) := by decide +kernel
theorem dX12_bestOf_13 : decode cX12_bestOf 13 = .ok (.iaload, 1) := by decide +kernel
theorem dX12_bestOf_14 : decode cX12_bestOf 14 = .ok (.if_icmp .ge 145, 3) := by decide +kernel
theorem dX12_bestOf_17 : decode cX12_bestOf 17 = .ok (.aload_n 0, 1) := by decide +kernel
theorem dX12_bestOf_18 : decode cX12_bestOf 18 = .ok (.getfield 8, 3) := by decide +kernel
theorem dX12_bestOf_21 : decode cX12_bestOf 21 = .ok (.sipush 11640, 3) := by decide +kernel
theorem dX12_bestOf_24 : decode cX12_bestOf 24 = .ok (.iload 4, 2) := by decide +kernel
theorem dX12_bestOf_26 : decode cX12_bestOf 26 = .ok (.iadd, 1) := by decide +kernel
theorem dX12_bestOf_27 : decode cX12_bestOf 27 = .ok (.iaload, 1) := by decide +kernel
theorem dX12_bestOf_28 : decode cX12_bestOf 28 = .ok (.iload_n 1, 1) := by decide +kernel
theorem dX12_bestOf_29 : decode cX12_bestOf 29 = .ok (.if_icmp .ne 36, 3) := by decide +kernel
theorem dX12_bestOf_32 : decode cX12_bestOf 32 = .ok (.aload_n 0, 1) := by decide +kernel
theorem dX12_bestOf_33 : decode cX12_bestOf 33 = .ok (.getfield 8, 3) := by decide +kernel
theorem dX12_bestOf_36 : decode cX12_bestOf 36 = .ok (.sipush 11800, 3) := by decide +kernel
theorem dX12_bestOf_39 : decode cX12_bestOf 39 = .ok (.iload 4, 2) := by decide +kernel
theorem dX12_bestOf_41 : decode cX12_bestOf 41 = .ok (.iadd, 1) := by decide +kernel
theorem dX12_bestOf_42 : decode cX12_bestOf 42 = .ok (.iaload, 1) := by decide +kernel
theorem dX12_bestOf_43 : decode cX12_bestOf 43 = .ok (.iload_n 2, 1) := by decide +kernel
theorem dX12_bestOf_44 : decode cX12_bestOf 44 = .ok (.if_icmp .ne 21, 3) := by decide +kernel
theorem dX12_bestOf_47 : decode cX12_bestOf 47 = .ok (.aload_n 0, 1) := by decide +kernel
theorem dX12_bestOf_48 : decode cX12_bestOf 48 = .ok (.getfield 8, 3) := by decide +kernel
theorem dX12_bestOf_51 : decode cX12_bestOf 51 = .ok (.sipush 11720, 3) := by decide +kernel
theorem dX12_bestOf_54 : decode cX12_bestOf 54 = .ok (.iload 4, 2) := by decide +kernel
theorem dX12_bestOf_56 : decode cX12_bestOf 56 = .ok (.iadd, 1) := by decide +kernel
theorem dX12_bestOf_57 : decode cX12_bestOf 57 = .ok (.iaload, 1) := by decide +kernel
theorem dX12_bestOf_58 : decode cX12_bestOf 58 = .ok (.ifCond .le 7, 3) := by decide +kernel
theorem dX12_bestOf_61 : decode cX12_bestOf 61 = .ok (.iconst 1, 1) := by decide +kernel
theorem dX12_bestOf_62 : decode cX12_bestOf 62 = .ok (.goto 4, 3) := by decide +kernel
theorem dX12_bestOf_65 : decode cX12_bestOf 65 = .ok (.iconst 0, 1) := by decide +kernel
theorem dX12_bestOf_66 : decode cX12_bestOf 66 = .ok (.istore 5, 2) := by decide +kernel
theorem dX12_bestOf_68 : decode cX12_bestOf 68 = .ok (.iload_n 3, 1) := by decide +kernel
theorem dX12_bestOf_69 : decode cX12_bestOf 69 = .ok (.iconst (-1), 1) := by decide +kernel
theorem dX12_bestOf_70 : decode cX12_bestOf 70 = .ok (.if_icmp .eq 59, 3) := by decide +kernel
theorem dX12_bestOf_73 : decode cX12_bestOf 73 = .ok (.iload_n 2, 1) := by decide +kernel
theorem dX12_bestOf_74 : decode cX12_bestOf 74 = .ok (.iconst 1, 1) := by decide +kernel
theorem dX12_bestOf_75 : decode cX12_bestOf 75 = .ok (.if_icmp .ne 30, 3) := by decide +kernel
theorem dX12_bestOf_78 : decode cX12_bestOf 78 = .ok (.aload_n 0, 1) := by decide +kernel
theorem dX12_bestOf_79 : decode cX12_bestOf 79 = .ok (.getfield 8, 3) := by decide +kernel
theorem dX12_bestOf_82 : decode cX12_bestOf 82 = .ok (.sipush 11760, 3) := by decide +kernel
theorem dX12_bestOf_85 : decode cX12_bestOf 85 = .ok (.iload 4, 2) := by decide +kernel
theorem dX12_bestOf_87 : decode cX12_bestOf 87 = .ok (.iadd, 1) := by decide +kernel
theorem dX12_bestOf_88 : decode cX12_bestOf 88 = .ok (.iaload, 1) := by decide +kernel
theorem dX12_bestOf_89 : decode cX12_bestOf 89 = .ok (.aload_n 0, 1) := by decide +kernel
theorem dX12_bestOf_90 : decode cX12_bestOf 90 = .ok (.getfield 8, 3) := by decide +kernel
theorem dX12_bestOf_93 : decode cX12_bestOf 93 = .ok (.sipush 11760, 3) := by decide +kernel
theorem dX12_bestOf_96 : decode cX12_bestOf 96 = .ok (.iload_n 3, 1) := by decide +kernel
theorem dX12_bestOf_97 : decode cX12_bestOf 97 = .ok (.iadd, 1) := by decide +kernel
theorem dX12_bestOf_98 : decode cX12_bestOf 98 = .ok (.iaload, 1) := by decide +kernel
theorem dX12_bestOf_99 : decode cX12_bestOf 99 = .ok (.if_icmp .le 34, 3) := by decide +kernel
theorem dX12_bestOf_102 : decode cX12_bestOf 102 = .ok (.goto 27, 3) := by decide +kernel
theorem dX12_bestOf_105 : decode cX12_bestOf 105 = .ok (.aload_n 0, 1) := by decide +kernel
theorem dX12_bestOf_106 : decode cX12_bestOf 106 = .ok (.getfield 8, 3) := by decide +kernel
theorem dX12_bestOf_109 : decode cX12_bestOf 109 = .ok (.sipush 11760, 3) := by decide +kernel
theorem dX12_bestOf_112 : decode cX12_bestOf 112 = .ok (.iload 4, 2) := by decide +kernel
theorem dX12_bestOf_114 : decode cX12_bestOf 114 = .ok (.iadd, 1) := by decide +kernel
theorem dX12_bestOf_115 : decode cX12_bestOf 115 = .ok (.iaload, 1) := by decide +kernel
theorem dX12_bestOf_116 : decode cX12_bestOf 116 = .ok (.aload_n 0, 1) := by decide +kernel
theorem dX12_bestOf_117 : decode cX12_bestOf 117 = .ok (.getfield 8, 3) := by decide +kernel
theorem dX12_bestOf_120 : decode cX12_bestOf 120 = .ok (.sipush 11760, 3) := by decide +kernel
theorem dX12_bestOf_123 : decode cX12_bestOf 123 = .ok (.iload_n 3, 1) := by decide +kernel
theorem dX12_bestOf_124 : decode cX12_bestOf 124 = .ok (.iadd, 1) := by decide +kernel
theorem dX12_bestOf_125 : decode cX12_bestOf 125 = .ok (.iaload, 1) := by decide +kernel
theorem dX12_bestOf_126 : decode cX12_bestOf 126 = .ok (.if_icmp .ge 7, 3) := by decide +kernel
theorem dX12_bestOf_129 : decode cX12_bestOf 129 = .ok (.iconst 1, 1) := by decide +kernel
theorem dX12_bestOf_130 : decode cX12_bestOf 130 = .ok (.goto 4, 3) := by decide +kernel
theorem dX12_bestOf_133 : decode cX12_bestOf 133 = .ok (.iconst 0, 1) := by decide +kernel
theorem dX12_bestOf_134 : decode cX12_bestOf 134 = .ok (.istore 6, 2) := by decide +kernel
theorem dX12_bestOf_136 : decode cX12_bestOf 136 = .ok (.iload 5, 2) := by decide +kernel
theorem dX12_bestOf_138 : decode cX12_bestOf 138 = .ok (.ifCond .eq 13, 3) := by decide +kernel
theorem dX12_bestOf_141 : decode cX12_bestOf 141 = .ok (.iload 6, 2) := by decide +kernel
theorem dX12_bestOf_143 : decode cX12_bestOf 143 = .ok (.ifCond .eq 8, 3) := by decide +kernel
theorem dX12_bestOf_146 : decode cX12_bestOf 146 = .ok (.iload 4, 2) := by decide +kernel
theorem dX12_bestOf_148 : decode cX12_bestOf 148 = .ok (.goto 4, 3) := by decide +kernel
theorem dX12_bestOf_151 : decode cX12_bestOf 151 = .ok (.iload_n 3, 1) := by decide +kernel
theorem dX12_bestOf_152 : decode cX12_bestOf 152 = .ok (.istore_n 3, 1) := by decide +kernel
theorem dX12_bestOf_153 : decode cX12_bestOf 153 = .ok (.iinc 4 1, 3) := by decide +kernel
theorem dX12_bestOf_156 : decode cX12_bestOf 156 = .ok (.goto (-151), 3) := by decide +kernel
theorem dX12_bestOf_159 : decode cX12_bestOf 159 = .ok (.iload_n 3, 1) := by decide +kernel
theorem dX12_bestOf_160 : decode cX12_bestOf 160 = .ok (.ireturn, 1) := by decide +kernel
theorem dX12_price_0 : decode cX12_price 0 = .ok (.aload_n 0, 1) := by decide +kernel
theorem dX12_price_1 : decode cX12_price 1 = .ok (.iload_n 1, 1) := by decide +kernel
theorem dX12_price_2 : decode cX12_price 2 = .ok (.invokevirtual 241, 3) := by decide +kernel
theorem dX12_price_5 : decode cX12_price 5 = .ok (.ifCond .ne 5, 3) := by decide +kernel
theorem dX12_price_8 : decode cX12_price 8 = .ok (.iconst (-1), 1) := by decide +kernel
theorem dX12_price_9 : decode cX12_price 9 = .ok (.ireturn, 1) := by decide +kernel
theorem dX12_price_10 : decode cX12_price 10 = .ok (.iconst 0, 1) := by decide +kernel
theorem dX12_price_11 : decode cX12_price 11 = .ok (.istore_n 2, 1) := by decide +kernel
theorem dX12_price_12 : decode cX12_price 12 = .ok (.aload_n 0, 1) := by decide +kernel
theorem dX12_price_13 : decode cX12_price 13 = .ok (.iload_n 1, 1) := by decide +kernel
theorem dX12_price_14 : decode cX12_price 14 = .ok (.iconst 0, 1) := by decide +kernel
theorem dX12_price_15 : decode cX12_price 15 = .ok (.invokevirtual 250, 3) := by decide +kernel
theorem dX12_price_18 : decode cX12_price 18 = .ok (.istore_n 3, 1) := by decide +kernel
theorem dX12_price_19 : decode cX12_price 19 = .ok (.aload_n 0, 1) := by decide +kernel
theorem dX12_price_20 : decode cX12_price 20 = .ok (.iload_n 1, 1) := by decide +kernel
theorem dX12_price_21 : decode cX12_price 21 = .ok (.iconst 1, 1) := by decide +kernel
theorem dX12_price_22 : decode cX12_price 22 = .ok (.invokevirtual 250, 3) := by decide +kernel
theorem dX12_price_25 : decode cX12_price 25 = .ok (.istore 4, 2) := by decide +kernel
theorem dX12_price_27 : decode cX12_price 27 = .ok (.iload_n 3, 1) := by decide +kernel
theorem dX12_price_28 : decode cX12_price 28 = .ok (.iconst (-1), 1) := by decide +kernel
theorem dX12_price_29 : decode cX12_price 29 = .ok (.if_icmp .eq 379, 3) := by decide +kernel
theorem dX12_price_32 : decode cX12_price 32 = .ok (.iload 4, 2) := by decide +kernel
theorem dX12_price_34 : decode cX12_price 34 = .ok (.iconst (-1), 1) := by decide +kernel
theorem dX12_price_35 : decode cX12_price 35 = .ok (.if_icmp .eq 373, 3) := by decide +kernel
theorem dX12_price_38 : decode cX12_price 38 = .ok (.aload_n 0, 1) := by decide +kernel
theorem dX12_price_39 : decode cX12_price 39 = .ok (.getfield 8, 3) := by decide +kernel
theorem dX12_price_42 : decode cX12_price 42 = .ok (.sipush 11760, 3) := by decide +kernel
theorem dX12_price_45 : decode cX12_price 45 = .ok (.iload 4, 2) := by decide +kernel
theorem dX12_price_47 : decode cX12_price 47 = .ok (.iadd, 1) := by decide +kernel
theorem dX12_price_48 : decode cX12_price 48 = .ok (.iaload, 1) := by decide +kernel
theorem dX12_price_49 : decode cX12_price 49 = .ok (.aload_n 0, 1) := by decide +kernel
theorem dX12_price_50 : decode cX12_price 50 = .ok (.getfield 8, 3) := by decide +kernel
theorem dX12_price_53 : decode cX12_price 53 = .ok (.sipush 11760, 3) := by decide +kernel
theorem dX12_price_56 : decode cX12_price 56 = .ok (.iload_n 3, 1) := by decide +kernel
theorem dX12_price_57 : decode cX12_price 57 = .ok (.iadd, 1) := by decide +kernel
theorem dX12_price_58 : decode cX12_price 58 = .ok (.iaload, 1) := by decide +kernel
theorem dX12_price_59 : decode cX12_price 59 = .ok (.if_icmp .lt 349, 3) := by decide +kernel
theorem dX12_price_62 : decode cX12_price 62 = .ok (.aload_n 0, 1) := by decide +kernel
theorem dX12_price_63 : decode cX12_price 63 = .ok (.getfield 8, 3) := by decide +kernel
theorem dX12_price_66 : decode cX12_price 66 = .ok (.sipush 11760, 3) := by decide +kernel
theorem dX12_price_69 : decode cX12_price 69 = .ok (.iload_n 3, 1) := by decide +kernel
theorem dX12_price_70 : decode cX12_price 70 = .ok (.iadd, 1) := by decide +kernel
theorem dX12_price_71 : decode cX12_price 71 = .ok (.iaload, 1) := by decide +kernel
theorem dX12_price_72 : decode cX12_price 72 = .ok (.istore 5, 2) := by decide +kernel
theorem dX12_price_74 : decode cX12_price 74 = .ok (.aload_n 0, 1) := by decide +kernel
theorem dX12_price_75 : decode cX12_price 75 = .ok (.getfield 8, 3) := by decide +kernel
theorem dX12_price_78 : decode cX12_price 78 = .ok (.aload_n 0, 1) := by decide +kernel
theorem dX12_price_79 : decode cX12_price 79 = .ok (.iload_n 1, 1) := by decide +kernel
theorem dX12_price_80 : decode cX12_price 80 = .ok (.aload_n 0, 1) := by decide +kernel
theorem dX12_price_81 : decode cX12_price 81 = .ok (.getfield 8, 3) := by decide +kernel
theorem dX12_price_84 : decode cX12_price 84 = .ok (.sipush 11680, 3) := by decide +kernel
theorem dX12_price_87 : decode cX12_price 87 = .ok (.iload_n 3, 1) := by decide +kernel
theorem dX12_price_88 : decode cX12_price 88 = .ok (.iadd, 1) := by decide +kernel
theorem dX12_price_89 : decode cX12_price 89 = .ok (.iaload, 1) := by decide +kernel
theorem dX12_price_90 : decode cX12_price 90 = .ok (.invokevirtual 247, 3) := by decide +kernel
theorem dX12_price_93 : decode cX12_price 93 = .ok (.iaload, 1) := by decide +kernel
theorem dX12_price_94 : decode cX12_price 94 = .ok (.istore 6, 2) := by decide +kernel
theorem dX12_price_96 : decode cX12_price 96 = .ok (.aload_n 0, 1) := by decide +kernel
theorem dX12_price_97 : decode cX12_price 97 = .ok (.getfield 8, 3) := by decide +kernel
theorem dX12_price_100 : decode cX12_price 100 = .ok (.sipush 192, 3) := by decide +kernel
theorem dX12_price_103 : decode cX12_price 103 = .ok (.aload_n 0, 1) := by decide +kernel
theorem dX12_price_104 : decode cX12_price 104 = .ok (.getfield 8, 3) := by decide +kernel
theorem dX12_price_107 : decode cX12_price 107 = .ok (.sipush 11680, 3) := by decide +kernel
theorem dX12_price_110 : decode cX12_price 110 = .ok (.iload 4, 2) := by decide +kernel
theorem dX12_price_112 : decode cX12_price 112 = .ok (.iadd, 1) := by decide +kernel
theorem dX12_price_113 : decode cX12_price 113 = .ok (.iaload, 1) := by decide +kernel
theorem dX12_price_114 : decode cX12_price 114 = .ok (.iadd, 1) := by decide +kernel
theorem dX12_price_115 : decode cX12_price 115 = .ok (.iaload, 1) := by decide +kernel
theorem dX12_price_116 : decode cX12_price 116 = .ok (.iload 5, 2) := by decide +kernel
theorem dX12_price_118 : decode cX12_price 118 = .ok (.idiv, 1) := by decide +kernel
theorem dX12_price_119 : decode cX12_price 119 = .ok (.istore 7, 2) := by decide +kernel
theorem dX12_price_121 : decode cX12_price 121 = .ok (.aload_n 0, 1) := by decide +kernel
theorem dX12_price_122 : decode cX12_price 122 = .ok (.getfield 8, 3) := by decide +kernel
theorem dX12_price_125 : decode cX12_price 125 = .ok (.sipush 11720, 3) := by decide +kernel
theorem dX12_price_128 : decode cX12_price 128 = .ok (.iload_n 3, 1) := by decide +kernel
theorem dX12_price_129 : decode cX12_price 129 = .ok (.iadd, 1) := by decide +kernel
theorem dX12_price_130 : decode cX12_price 130 = .ok (.iaload, 1) := by decide +kernel
theorem dX12_price_131 : decode cX12_price 131 = .ok (.aload_n 0, 1) := by decide +kernel
theorem dX12_price_132 : decode cX12_price 132 = .ok (.getfield 8, 3) := by decide +kernel
theorem dX12_price_135 : decode cX12_price 135 = .ok (.sipush 11720, 3) := by decide +kernel
theorem dX12_price_138 : decode cX12_price 138 = .ok (.iload 4, 2) := by decide +kernel
theorem dX12_price_140 : decode cX12_price 140 = .ok (.iadd, 1) := by decide +kernel
theorem dX12_price_141 : decode cX12_price 141 = .ok (.iaload, 1) := by decide +kernel
theorem dX12_price_142 : decode cX12_price 142 = .ok (.if_icmp .ge 16, 3) := by decide +kernel
theorem dX12_price_145 : decode cX12_price 145 = .ok (.aload_n 0, 1) := by decide +kernel
theorem dX12_price_146 : decode cX12_price 146 = .ok (.getfield 8, 3) := by decide +kernel
theorem dX12_price_149 : decode cX12_price 149 = .ok (.sipush 11720, 3) := by decide +kernel
theorem dX12_price_152 : decode cX12_price 152 = .ok (.iload_n 3, 1) := by decide +kernel
theorem dX12_price_153 : decode cX12_price 153 = .ok (.iadd, 1) := by decide +kernel
theorem dX12_price_154 : decode cX12_price 154 = .ok (.iaload, 1) := by decide +kernel
theorem dX12_price_155 : decode cX12_price 155 = .ok (.goto 14, 3) := by decide +kernel
theorem dX12_price_158 : decode cX12_price 158 = .ok (.aload_n 0, 1) := by decide +kernel
theorem dX12_price_159 : decode cX12_price 159 = .ok (.getfield 8, 3) := by decide +kernel
theorem dX12_price_162 : decode cX12_price 162 = .ok (.sipush 11720, 3) := by decide +kernel
theorem dX12_price_165 : decode cX12_price 165 = .ok (.iload 4, 2) := by decide +kernel
theorem dX12_price_167 : decode cX12_price 167 = .ok (.iadd, 1) := by decide +kernel
theorem dX12_price_168 : decode cX12_price 168 = .ok (.iaload, 1) := by decide +kernel
theorem dX12_price_169 : decode cX12_price 169 = .ok (.istore 8, 2) := by decide +kernel
theorem dX12_price_171 : decode cX12_price 171 = .ok (.iload 6, 2) := by decide +kernel
theorem dX12_price_173 : decode cX12_price 173 = .ok (.iload 8, 2) := by decide +kernel
theorem dX12_price_175 : decode cX12_price 175 = .ok (.if_icmp .ge 8, 3) := by decide +kernel
theorem dX12_price_178 : decode cX12_price 178 = .ok (.iload 6, 2) := by decide +kernel
theorem dX12_price_180 : decode cX12_price 180 = .ok (.goto 5, 3) := by decide +kernel
theorem dX12_price_183 : decode cX12_price 183 = .ok (.iload 8, 2) := by decide +kernel
theorem dX12_price_185 : decode cX12_price 185 = .ok (.istore 8, 2) := by decide +kernel
theorem dX12_price_187 : decode cX12_price 187 = .ok (.iload 7, 2) := by decide +kernel
theorem dX12_price_189 : decode cX12_price 189 = .ok (.iload 8, 2) := by decide +kernel
theorem dX12_price_191 : decode cX12_price 191 = .ok (.if_icmp .ge 8, 3) := by decide +kernel
theorem dX12_price_194 : decode cX12_price 194 = .ok (.iload 7, 2) := by decide +kernel
theorem dX12_price_196 : decode cX12_price 196 = .ok (.goto 5, 3) := by decide +kernel
theorem dX12_price_199 : decode cX12_price 199 = .ok (.iload 8, 2) := by decide +kernel
theorem dX12_price_201 : decode cX12_price 201 = .ok (.istore 8, 2) := by decide +kernel
theorem dX12_price_203 : decode cX12_price 203 = .ok (.iload 8, 2) := by decide +kernel
theorem dX12_price_205 : decode cX12_price 205 = .ok (.ifCond .ne 27, 3) := by decide +kernel
theorem dX12_price_208 : decode cX12_price 208 = .ok (.aload_n 0, 1) := by decide +kernel
theorem dX12_price_209 : decode cX12_price 209 = .ok (.getfield 8, 3) := by decide +kernel
theorem dX12_price_212 : decode cX12_price 212 = .ok (.sipush 11720, 3) := by decide +kernel
theorem dX12_price_215 : decode cX12_price 215 = .ok (.iload 6, 2) := by decide +kernel
theorem dX12_price_217 : decode cX12_price 217 = .ok (.ifCond .ne 7, 3) := by decide +kernel
theorem dX12_price_220 : decode cX12_price 220 = .ok (.iload_n 3, 1) := by decide +kernel
theorem dX12_price_221 : decode cX12_price 221 = .ok (.goto 5, 3) := by decide +kernel
theorem dX12_price_224 : decode cX12_price 224 = .ok (.iload 4, 2) := by decide +kernel
theorem dX12_price_226 : decode cX12_price 226 = .ok (.iadd, 1) := by decide +kernel
theorem dX12_price_227 : decode cX12_price 227 = .ok (.iconst 0, 1) := by decide +kernel
theorem dX12_price_228 : decode cX12_price 228 = .ok (.iastore, 1) := by decide +kernel
theorem dX12_price_229 : decode cX12_price 229 = .ok (.goto 161, 3) := by decide +kernel
theorem dX12_price_232 : decode cX12_price 232 = .ok (.aload_n 0, 1) := by decide +kernel
theorem dX12_price_233 : decode cX12_price 233 = .ok (.getfield 8, 3) := by decide +kernel
theorem dX12_price_236 : decode cX12_price 236 = .ok (.aload_n 0, 1) := by decide +kernel
theorem dX12_price_237 : decode cX12_price 237 = .ok (.iload_n 1, 1) := by decide +kernel
theorem dX12_price_238 : decode cX12_price 238 = .ok (.aload_n 0, 1) := by decide +kernel
theorem dX12_price_239 : decode cX12_price 239 = .ok (.getfield 8, 3) := by decide +kernel
theorem dX12_price_242 : decode cX12_price 242 = .ok (.sipush 11680, 3) := by decide +kernel
theorem dX12_price_245 : decode cX12_price 245 = .ok (.iload_n 3, 1) := by decide +kernel
theorem dX12_price_246 : decode cX12_price 246 = .ok (.iadd, 1) := by decide +kernel
theorem dX12_price_247 : decode cX12_price 247 = .ok (.iaload, 1) := by decide +kernel
theorem dX12_price_248 : decode cX12_price 248 = .ok (.invokevirtual 247, 3) := by decide +kernel
theorem dX12_price_251 : decode cX12_price 251 = .ok (.dup2, 1) := by decide +kernel
theorem dX12_price_252 : decode cX12_price 252 = .ok (.iaload, 1) := by decide +kernel
theorem dX12_price_253 : decode cX12_price 253 = .ok (.iload 8, 2) := by decide +kernel
theorem dX12_price_255 : decode cX12_price 255 = .ok (.isub, 1) := by decide +kernel
theorem dX12_price_256 : decode cX12_price 256 = .ok (.iastore, 1) := by decide +kernel
theorem dX12_price_257 : decode cX12_price 257 = .ok (.aload_n 0, 1) := by decide +kernel
theorem dX12_price_258 : decode cX12_price 258 = .ok (.getfield 8, 3) := by decide +kernel
theorem dX12_price_261 : decode cX12_price 261 = .ok (.aload_n 0, 1) := by decide +kernel
theorem dX12_price_262 : decode cX12_price 262 = .ok (.iload_n 1, 1) := by decide +kernel
theorem dX12_price_263 : decode cX12_price 263 = .ok (.aload_n 0, 1) := by decide +kernel
theorem dX12_price_264 : decode cX12_price 264 = .ok (.getfield 8, 3) := by decide +kernel
theorem dX12_price_267 : decode cX12_price 267 = .ok (.sipush 11680, 3) := by decide +kernel
theorem dX12_price_270 : decode cX12_price 270 = .ok (.iload 4, 2) := by decide +kernel
theorem dX12_price_272 : decode cX12_price 272 = .ok (.iadd, 1) := by decide +kernel
theorem dX12_price_273 : decode cX12_price 273 = .ok (.iaload, 1) := by decide +kernel
theorem dX12_price_274 : decode cX12_price 274 = .ok (.invokevirtual 247, 3) := by decide +kernel
theorem dX12_price_277 : decode cX12_price 277 = .ok (.dup2, 1) := by decide +kernel
theorem dX12_price_278 : decode cX12_price 278 = .ok (.iaload, 1) := by decide +kernel
theorem dX12_price_279 : decode cX12_price 279 = .ok (.iload 8, 2) := by decide +kernel
theorem dX12_price_281 : decode cX12_price 281 = .ok (.iadd, 1) := by decide +kernel
theorem dX12_price_282 : decode cX12_price 282 = .ok (.iastore, 1) := by decide +kernel
theorem dX12_price_283 : decode cX12_price 283 = .ok (.aload_n 0, 1) := by decide +kernel
theorem dX12_price_284 : decode cX12_price 284 = .ok (.getfield 8, 3) := by decide +kernel
theorem dX12_price_287 : decode cX12_price 287 = .ok (.sipush 192, 3) := by decide +kernel
theorem dX12_price_290 : decode cX12_price 290 = .ok (.aload_n 0, 1) := by decide +kernel
theorem dX12_price_291 : decode cX12_price 291 = .ok (.getfield 8, 3) := by decide +kernel
theorem dX12_price_294 : decode cX12_price 294 = .ok (.sipush 11680, 3) := by decide +kernel
theorem dX12_price_297 : decode cX12_price 297 = .ok (.iload 4, 2) := by decide +kernel
theorem dX12_price_299 : decode cX12_price 299 = .ok (.iadd, 1) := by decide +kernel
theorem dX12_price_300 : decode cX12_price 300 = .ok (.iaload, 1) := by decide +kernel
theorem dX12_price_301 : decode cX12_price 301 = .ok (.iadd, 1) := by decide +kernel
theorem dX12_price_302 : decode cX12_price 302 = .ok (.dup2, 1) := by decide +kernel
theorem dX12_price_303 : decode cX12_price 303 = .ok (.iaload, 1) := by decide +kernel
theorem dX12_price_304 : decode cX12_price 304 = .ok (.iload 8, 2) := by decide +kernel
theorem dX12_price_306 : decode cX12_price 306 = .ok (.iload 5, 2) := by decide +kernel
theorem dX12_price_308 : decode cX12_price 308 = .ok (.imul, 1) := by decide +kernel
theorem dX12_price_309 : decode cX12_price 309 = .ok (.isub, 1) := by decide +kernel
theorem dX12_price_310 : decode cX12_price 310 = .ok (.iastore, 1) := by decide +kernel
theorem dX12_price_311 : decode cX12_price 311 = .ok (.aload_n 0, 1) := by decide +kernel
theorem dX12_price_312 : decode cX12_price 312 = .ok (.getfield 8, 3) := by decide +kernel
theorem dX12_price_315 : decode cX12_price 315 = .ok (.sipush 192, 3) := by decide +kernel
theorem dX12_price_318 : decode cX12_price 318 = .ok (.aload_n 0, 1) := by decide +kernel
theorem dX12_price_319 : decode cX12_price 319 = .ok (.getfield 8, 3) := by decide +kernel
theorem dX12_price_322 : decode cX12_price 322 = .ok (.sipush 11680, 3) := by decide +kernel
theorem dX12_price_325 : decode cX12_price 325 = .ok (.iload_n 3, 1) := by decide +kernel
theorem dX12_price_326 : decode cX12_price 326 = .ok (.iadd, 1) := by decide +kernel
theorem dX12_price_327 : decode cX12_price 327 = .ok (.iaload, 1) := by decide +kernel
theorem dX12_price_328 : decode cX12_price 328 = .ok (.iadd, 1) := by decide +kernel
theorem dX12_price_329 : decode cX12_price 329 = .ok (.dup2, 1) := by decide +kernel
theorem dX12_price_330 : decode cX12_price 330 = .ok (.iaload, 1) := by decide +kernel
theorem dX12_price_331 : decode cX12_price 331 = .ok (.iload 8, 2) := by decide +kernel
theorem dX12_price_333 : decode cX12_price 333 = .ok (.iload 5, 2) := by decide +kernel
theorem dX12_price_335 : decode cX12_price 335 = .ok (.imul, 1) := by decide +kernel
theorem dX12_price_336 : decode cX12_price 336 = .ok (.iadd, 1) := by decide +kernel
theorem dX12_price_337 : decode cX12_price 337 = .ok (.iastore, 1) := by decide +kernel
theorem dX12_price_338 : decode cX12_price 338 = .ok (.aload_n 0, 1) := by decide +kernel
theorem dX12_price_339 : decode cX12_price 339 = .ok (.getfield 8, 3) := by decide +kernel
theorem dX12_price_342 : decode cX12_price 342 = .ok (.sipush 11720, 3) := by decide +kernel
theorem dX12_price_345 : decode cX12_price 345 = .ok (.iload_n 3, 1) := by decide +kernel
theorem dX12_price_346 : decode cX12_price 346 = .ok (.iadd, 1) := by decide +kernel
theorem dX12_price_347 : decode cX12_price 347 = .ok (.dup2, 1) := by decide +kernel
theorem dX12_price_348 : decode cX12_price 348 = .ok (.iaload, 1) := by decide +kernel
theorem dX12_price_349 : decode cX12_price 349 = .ok (.iload 8, 2) := by decide +kernel
theorem dX12_price_351 : decode cX12_price 351 = .ok (.isub, 1) := by decide +kernel
theorem dX12_price_352 : decode cX12_price 352 = .ok (.iastore, 1) := by decide +kernel
theorem dX12_price_353 : decode cX12_price 353 = .ok (.aload_n 0, 1) := by decide +kernel
theorem dX12_price_354 : decode cX12_price 354 = .ok (.getfield 8, 3) := by decide +kernel
theorem dX12_price_357 : decode cX12_price 357 = .ok (.sipush 11720, 3) := by decide +kernel
theorem dX12_price_360 : decode cX12_price 360 = .ok (.iload 4, 2) := by decide +kernel
theorem dX12_price_362 : decode cX12_price 362 = .ok (.iadd, 1) := by decide +kernel
theorem dX12_price_363 : decode cX12_price 363 = .ok (.dup2, 1) := by decide +kernel
theorem dX12_price_364 : decode cX12_price 364 = .ok (.iaload, 1) := by decide +kernel
theorem dX12_price_365 : decode cX12_price 365 = .ok (.iload 8, 2) := by decide +kernel
theorem dX12_price_367 : decode cX12_price 367 = .ok (.isub, 1) := by decide +kernel
theorem dX12_price_368 : decode cX12_price 368 = .ok (.iastore, 1) := by decide +kernel
theorem dX12_price_369 : decode cX12_price 369 = .ok (.aload_n 0, 1) := by decide +kernel
theorem dX12_price_370 : decode cX12_price 370 = .ok (.getfield 8, 3) := by decide +kernel
theorem dX12_price_373 : decode cX12_price 373 = .ok (.sipush 11514, 3) := by decide +kernel
theorem dX12_price_376 : decode cX12_price 376 = .ok (.aload_n 0, 1) := by decide +kernel
theorem dX12_price_377 : decode cX12_price 377 = .ok (.iload_n 1, 1) := by decide +kernel
theorem dX12_price_378 : decode cX12_price 378 = .ok (.invokevirtual 238, 3) := by decide +kernel
theorem dX12_price_381 : decode cX12_price 381 = .ok (.iadd, 1) := by decide +kernel
theorem dX12_price_382 : decode cX12_price 382 = .ok (.iload 5, 2) := by decide +kernel
theorem dX12_price_384 : decode cX12_price 384 = .ok (.iastore, 1) := by decide +kernel
theorem dX12_price_385 : decode cX12_price 385 = .ok (.iload_n 2, 1) := by decide +kernel
theorem dX12_price_386 : decode cX12_price 386 = .ok (.iload 8, 2) := by decide +kernel
theorem dX12_price_388 : decode cX12_price 388 = .ok (.iadd, 1) := by decide +kernel
theorem dX12_price_389 : decode cX12_price 389 = .ok (.istore_n 2, 1) := by decide +kernel
theorem dX12_price_390 : decode cX12_price 390 = .ok (.aload_n 0, 1) := by decide +kernel
theorem dX12_price_391 : decode cX12_price 391 = .ok (.iload_n 1, 1) := by decide +kernel
theorem dX12_price_392 : decode cX12_price 392 = .ok (.iconst 0, 1) := by decide +kernel
theorem dX12_price_393 : decode cX12_price 393 = .ok (.invokevirtual 250, 3) := by decide +kernel
theorem dX12_price_396 : decode cX12_price 396 = .ok (.istore_n 3, 1) := by decide +kernel
theorem dX12_price_397 : decode cX12_price 397 = .ok (.aload_n 0, 1) := by decide +kernel
theorem dX12_price_398 : decode cX12_price 398 = .ok (.iload_n 1, 1) := by decide +kernel
theorem dX12_price_399 : decode cX12_price 399 = .ok (.iconst 1, 1) := by decide +kernel
theorem dX12_price_400 : decode cX12_price 400 = .ok (.invokevirtual 250, 3) := by decide +kernel
theorem dX12_price_403 : decode cX12_price 403 = .ok (.istore 4, 2) := by decide +kernel
theorem dX12_price_405 : decode cX12_price 405 = .ok (.goto (-378), 3) := by decide +kernel
theorem dX12_price_408 : decode cX12_price 408 = .ok (.iconst 0, 1) := by decide +kernel
theorem dX12_price_409 : decode cX12_price 409 = .ok (.istore 5, 2) := by decide +kernel
theorem dX12_price_411 : decode cX12_price 411 = .ok (.iconst 0, 1) := by decide +kernel
theorem dX12_price_412 : decode cX12_price 412 = .ok (.istore 6, 2) := by decide +kernel
theorem dX12_price_414 : decode cX12_price 414 = .ok (.iload 6, 2) := by decide +kernel
theorem dX12_price_416 : decode cX12_price 416 = .ok (.aload_n 0, 1) := by decide +kernel
theorem dX12_price_417 : decode cX12_price 417 = .ok (.getfield 8, 3) := by decide +kernel
theorem dX12_price_420 : decode cX12_price 420 = .ok (.bipush 8, 2) := by decide +kernel
theorem dX12_price_422 : decode cX12_price 422 = .ok (.iaload, 1) := by decide +kernel
theorem dX12_price_423 : decode cX12_price 423 = .ok (.if_icmp .ge 137, 3) := by decide +kernel
theorem dX12_price_426 : decode cX12_price 426 = .ok (.aload_n 0, 1) := by decide +kernel
theorem dX12_price_427 : decode cX12_price 427 = .ok (.getfield 8, 3) := by decide +kernel
theorem dX12_price_430 : decode cX12_price 430 = .ok (.sipush 11640, 3) := by decide +kernel
theorem dX12_price_433 : decode cX12_price 433 = .ok (.iload 6, 2) := by decide +kernel
theorem dX12_price_435 : decode cX12_price 435 = .ok (.iadd, 1) := by decide +kernel
theorem dX12_price_436 : decode cX12_price 436 = .ok (.iaload, 1) := by decide +kernel
theorem dX12_price_437 : decode cX12_price 437 = .ok (.iload_n 1, 1) := by decide +kernel
theorem dX12_price_438 : decode cX12_price 438 = .ok (.if_icmp .eq 116, 3) := by decide +kernel
theorem dX12_price_441 : decode cX12_price 441 = .ok (.aload_n 0, 1) := by decide +kernel
theorem dX12_price_442 : decode cX12_price 442 = .ok (.getfield 8, 3) := by decide +kernel
theorem dX12_price_445 : decode cX12_price 445 = .ok (.sipush 11640, 3) := by decide +kernel
theorem dX12_price_448 : decode cX12_price 448 = .ok (.iload 5, 2) := by decide +kernel
theorem dX12_price_450 : decode cX12_price 450 = .ok (.iadd, 1) := by decide +kernel
theorem dX12_price_451 : decode cX12_price 451 = .ok (.aload_n 0, 1) := by decide +kernel
theorem dX12_price_452 : decode cX12_price 452 = .ok (.getfield 8, 3) := by decide +kernel
theorem dX12_price_455 : decode cX12_price 455 = .ok (.sipush 11640, 3) := by decide +kernel
theorem dX12_price_458 : decode cX12_price 458 = .ok (.iload 6, 2) := by decide +kernel
theorem dX12_price_460 : decode cX12_price 460 = .ok (.iadd, 1) := by decide +kernel
theorem dX12_price_461 : decode cX12_price 461 = .ok (.iaload, 1) := by decide +kernel
theorem dX12_price_462 : decode cX12_price 462 = .ok (.iastore, 1) := by decide +kernel
theorem dX12_price_463 : decode cX12_price 463 = .ok (.aload_n 0, 1) := by decide +kernel
theorem dX12_price_464 : decode cX12_price 464 = .ok (.getfield 8, 3) := by decide +kernel
theorem dX12_price_467 : decode cX12_price 467 = .ok (.sipush 11680, 3) := by decide +kernel
theorem dX12_price_470 : decode cX12_price 470 = .ok (.iload 5, 2) := by decide +kernel
theorem dX12_price_472 : decode cX12_price 472 = .ok (.iadd, 1) := by decide +kernel
theorem dX12_price_473 : decode cX12_price 473 = .ok (.aload_n 0, 1) := by decide +kernel
theorem dX12_price_474 : decode cX12_price 474 = .ok (.getfield 8, 3) := by decide +kernel
theorem dX12_price_477 : decode cX12_price 477 = .ok (.sipush 11680, 3) := by decide +kernel
theorem dX12_price_480 : decode cX12_price 480 = .ok (.iload 6, 2) := by decide +kernel
theorem dX12_price_482 : decode cX12_price 482 = .ok (.iadd, 1) := by decide +kernel
theorem dX12_price_483 : decode cX12_price 483 = .ok (.iaload, 1) := by decide +kernel
theorem dX12_price_484 : decode cX12_price 484 = .ok (.iastore, 1) := by decide +kernel
theorem dX12_price_485 : decode cX12_price 485 = .ok (.aload_n 0, 1) := by decide +kernel
theorem dX12_price_486 : decode cX12_price 486 = .ok (.getfield 8, 3) := by decide +kernel
theorem dX12_price_489 : decode cX12_price 489 = .ok (.sipush 11720, 3) := by decide +kernel
theorem dX12_price_492 : decode cX12_price 492 = .ok (.iload 5, 2) := by decide +kernel
theorem dX12_price_494 : decode cX12_price 494 = .ok (.iadd, 1) := by decide +kernel
theorem dX12_price_495 : decode cX12_price 495 = .ok (.aload_n 0, 1) := by decide +kernel
theorem dX12_price_496 : decode cX12_price 496 = .ok (.getfield 8, 3) := by decide +kernel
theorem dX12_price_499 : decode cX12_price 499 = .ok (.sipush 11720, 3) := by decide +kernel
theorem dX12_price_502 : decode cX12_price 502 = .ok (.iload 6, 2) := by decide +kernel
theorem dX12_price_504 : decode cX12_price 504 = .ok (.iadd, 1) := by decide +kernel
theorem dX12_price_505 : decode cX12_price 505 = .ok (.iaload, 1) := by decide +kernel
theorem dX12_price_506 : decode cX12_price 506 = .ok (.iastore, 1) := by decide +kernel
theorem dX12_price_507 : decode cX12_price 507 = .ok (.aload_n 0, 1) := by decide +kernel
theorem dX12_price_508 : decode cX12_price 508 = .ok (.getfield 8, 3) := by decide +kernel
theorem dX12_price_511 : decode cX12_price 511 = .ok (.sipush 11760, 3) := by decide +kernel
theorem dX12_price_514 : decode cX12_price 514 = .ok (.iload 5, 2) := by decide +kernel
theorem dX12_price_516 : decode cX12_price 516 = .ok (.iadd, 1) := by decide +kernel
theorem dX12_price_517 : decode cX12_price 517 = .ok (.aload_n 0, 1) := by decide +kernel
theorem dX12_price_518 : decode cX12_price 518 = .ok (.getfield 8, 3) := by decide +kernel
theorem dX12_price_521 : decode cX12_price 521 = .ok (.sipush 11760, 3) := by decide +kernel
theorem dX12_price_524 : decode cX12_price 524 = .ok (.iload 6, 2) := by decide +kernel
theorem dX12_price_526 : decode cX12_price 526 = .ok (.iadd, 1) := by decide +kernel
theorem dX12_price_527 : decode cX12_price 527 = .ok (.iaload, 1) := by decide +kernel
theorem dX12_price_528 : decode cX12_price 528 = .ok (.iastore, 1) := by decide +kernel
theorem dX12_price_529 : decode cX12_price 529 = .ok (.aload_n 0, 1) := by decide +kernel
theorem dX12_price_530 : decode cX12_price 530 = .ok (.getfield 8, 3) := by decide +kernel
theorem dX12_price_533 : decode cX12_price 533 = .ok (.sipush 11800, 3) := by decide +kernel
theorem dX12_price_536 : decode cX12_price 536 = .ok (.iload 5, 2) := by decide +kernel
theorem dX12_price_538 : decode cX12_price 538 = .ok (.iadd, 1) := by decide +kernel
theorem dX12_price_539 : decode cX12_price 539 = .ok (.aload_n 0, 1) := by decide +kernel
theorem dX12_price_540 : decode cX12_price 540 = .ok (.getfield 8, 3) := by decide +kernel
theorem dX12_price_543 : decode cX12_price 543 = .ok (.sipush 11800, 3) := by decide +kernel
theorem dX12_price_546 : decode cX12_price 546 = .ok (.iload 6, 2) := by decide +kernel
theorem dX12_price_548 : decode cX12_price 548 = .ok (.iadd, 1) := by decide +kernel
theorem dX12_price_549 : decode cX12_price 549 = .ok (.iaload, 1) := by decide +kernel
theorem dX12_price_550 : decode cX12_price 550 = .ok (.iastore, 1) := by decide +kernel
theorem dX12_price_551 : decode cX12_price 551 = .ok (.iinc 5 1, 3) := by decide +kernel
theorem dX12_price_554 : decode cX12_price 554 = .ok (.iinc 6 1, 3) := by decide +kernel
theorem dX12_price_557 : decode cX12_price 557 = .ok (.goto (-143), 3) := by decide +kernel
theorem dX12_price_560 : decode cX12_price 560 = .ok (.aload_n 0, 1) := by decide +kernel
theorem dX12_price_561 : decode cX12_price 561 = .ok (.getfield 8, 3) := by decide +kernel
theorem dX12_price_564 : decode cX12_price 564 = .ok (.bipush 8, 2) := by decide +kernel
theorem dX12_price_566 : decode cX12_price 566 = .ok (.iload 5, 2) := by decide +kernel
theorem dX12_price_568 : decode cX12_price 568 = .ok (.iastore, 1) := by decide +kernel
theorem dX12_price_569 : decode cX12_price 569 = .ok (.iload_n 2, 1) := by decide +kernel
theorem dX12_price_570 : decode cX12_price 570 = .ok (.ireturn, 1) := by decide +kernel
theorem dX12_read_0 : decode cX12_read 0 = .ok (.aload_n 0, 1) := by decide +kernel
theorem dX12_read_1 : decode cX12_read 1 = .ok (.iload_n 1, 1) := by decide +kernel
theorem dX12_read_2 : decode cX12_read 2 = .ok (.invokevirtual 241, 3) := by decide +kernel
theorem dX12_read_5 : decode cX12_read 5 = .ok (.ifCond .eq 20, 3) := by decide +kernel
theorem dX12_read_8 : decode cX12_read 8 = .ok (.aload_n 0, 1) := by decide +kernel
theorem dX12_read_9 : decode cX12_read 9 = .ok (.getfield 8, 3) := by decide +kernel
theorem dX12_read_12 : decode cX12_read 12 = .ok (.sipush 11514, 3) := by decide +kernel
theorem dX12_read_15 : decode cX12_read 15 = .ok (.aload_n 0, 1) := by decide +kernel
theorem dX12_read_16 : decode cX12_read 16 = .ok (.iload_n 1, 1) := by decide +kernel
theorem dX12_read_17 : decode cX12_read 17 = .ok (.invokevirtual 238, 3) := by decide +kernel
theorem dX12_read_20 : decode cX12_read 20 = .ok (.iadd, 1) := by decide +kernel
theorem dX12_read_21 : decode cX12_read 21 = .ok (.iaload, 1) := by decide +kernel
theorem dX12_read_22 : decode cX12_read 22 = .ok (.goto 4, 3) := by decide +kernel
theorem dX12_read_25 : decode cX12_read 25 = .ok (.iconst (-1), 1) := by decide +kernel
theorem dX12_read_26 : decode cX12_read 26 = .ok (.ireturn, 1) := by decide +kernel
theorem dX12_call_0 : decode cX12_call 0 = .ok (.aload_n 0, 1) := by decide +kernel
theorem dX12_call_1 : decode cX12_call 1 = .ok (.iload_n 1, 1) := by decide +kernel
theorem dX12_call_2 : decode cX12_call 2 = .ok (.invokevirtual 241, 3) := by decide +kernel
theorem dX12_call_5 : decode cX12_call 5 = .ok (.ifCond .ne 5, 3) := by decide +kernel
theorem dX12_call_8 : decode cX12_call 8 = .ok (.iconst (-1), 1) := by decide +kernel
theorem dX12_call_9 : decode cX12_call 9 = .ok (.ireturn, 1) := by decide +kernel
theorem dX12_call_10 : decode cX12_call 10 = .ok (.iload_n 2, 1) := by decide +kernel
theorem dX12_call_11 : decode cX12_call 11 = .ok (.iconst 1, 1) := by decide +kernel
theorem dX12_call_12 : decode cX12_call 12 = .ok (.aload_n 0, 1) := by decide +kernel
theorem dX12_call_13 : decode cX12_call 13 = .ok (.iconst 3, 1) := by decide +kernel
theorem dX12_call_14 : decode cX12_call 14 = .ok (.aload_n 0, 1) := by decide +kernel
theorem dX12_call_15 : decode cX12_call 15 = .ok (.getfield 8, 3) := by decide +kernel
theorem dX12_call_18 : decode cX12_call 18 = .ok (.iconst 0, 1) := by decide +kernel
theorem dX12_call_19 : decode cX12_call 19 = .ok (.iaload, 1) := by decide +kernel
theorem dX12_call_20 : decode cX12_call 20 = .ok (.invokevirtual 152, 3) := by decide +kernel
theorem dX12_call_23 : decode cX12_call 23 = .ok (.invokestatic 58, 3) := by decide +kernel
theorem dX12_call_26 : decode cX12_call 26 = .ok (.ifCond .ne 6, 3) := by decide +kernel
theorem dX12_call_29 : decode cX12_call 29 = .ok (.bipush (-2), 2) := by decide +kernel
theorem dX12_call_31 : decode cX12_call 31 = .ok (.ireturn, 1) := by decide +kernel
theorem dX12_call_32 : decode cX12_call 32 = .ok (.aload_n 0, 1) := by decide +kernel
theorem dX12_call_33 : decode cX12_call 33 = .ok (.iload_n 1, 1) := by decide +kernel
theorem dX12_call_34 : decode cX12_call 34 = .ok (.invokevirtual 244, 3) := by decide +kernel
theorem dX12_call_37 : decode cX12_call 37 = .ok (.ifCond .ne 7, 3) := by decide +kernel
theorem dX12_call_40 : decode cX12_call 40 = .ok (.iconst 1, 1) := by decide +kernel
theorem dX12_call_41 : decode cX12_call 41 = .ok (.goto 4, 3) := by decide +kernel
theorem dX12_call_44 : decode cX12_call 44 = .ok (.iconst 0, 1) := by decide +kernel
theorem dX12_call_45 : decode cX12_call 45 = .ok (.istore_n 3, 1) := by decide +kernel
theorem dX12_call_46 : decode cX12_call 46 = .ok (.iconst 0, 1) := by decide +kernel
theorem dX12_call_47 : decode cX12_call 47 = .ok (.istore 4, 2) := by decide +kernel
theorem dX12_call_49 : decode cX12_call 49 = .ok (.iload 4, 2) := by decide +kernel
theorem dX12_call_51 : decode cX12_call 51 = .ok (.aload_n 0, 1) := by decide +kernel
theorem dX12_call_52 : decode cX12_call 52 = .ok (.getfield 8, 3) := by decide +kernel
theorem dX12_call_55 : decode cX12_call 55 = .ok (.iconst 2, 1) := by decide +kernel
theorem dX12_call_56 : decode cX12_call 56 = .ok (.iaload, 1) := by decide +kernel
theorem dX12_call_57 : decode cX12_call 57 = .ok (.if_icmp .ge 81, 3) := by decide +kernel
theorem dX12_call_60 : decode cX12_call 60 = .ok (.iload_n 3, 1) := by decide +kernel
theorem dX12_call_61 : decode cX12_call 61 = .ok (.ifCond .eq 69, 3) := by decide +kernel
theorem dX12_call_64 : decode cX12_call 64 = .ok (.aload_n 0, 1) := by decide +kernel
theorem dX12_call_65 : decode cX12_call 65 = .ok (.getfield 8, 3) := by decide +kernel
theorem dX12_call_68 : decode cX12_call 68 = .ok (.sipush 370, 3) := by decide +kernel
theorem dX12_call_71 : decode cX12_call 71 = .ok (.iload 4, 2) := by decide +kernel
theorem dX12_call_73 : decode cX12_call 73 = .ok (.iadd, 1) := by decide +kernel
theorem dX12_call_74 : decode cX12_call 74 = .ok (.iaload, 1) := by decide +kernel
theorem dX12_call_75 : decode cX12_call 75 = .ok (.iconst 4, 1) := by decide +kernel
theorem dX12_call_76 : decode cX12_call 76 = .ok (.if_icmp .ne 50, 3) := by decide +kernel
theorem dX12_call_79 : decode cX12_call 79 = .ok (.aload_n 0, 1) := by decide +kernel
theorem dX12_call_80 : decode cX12_call 80 = .ok (.getfield 8, 3) := by decide +kernel
theorem dX12_call_83 : decode cX12_call 83 = .ok (.sipush 430, 3) := by decide +kernel
theorem dX12_call_86 : decode cX12_call 86 = .ok (.iload 4, 2) := by decide +kernel
theorem dX12_call_88 : decode cX12_call 88 = .ok (.iadd, 1) := by decide +kernel
theorem dX12_call_89 : decode cX12_call 89 = .ok (.iaload, 1) := by decide +kernel
theorem dX12_call_90 : decode cX12_call 90 = .ok (.iload_n 1, 1) := by decide +kernel
theorem dX12_call_91 : decode cX12_call 91 = .ok (.if_icmp .ne 35, 3) := by decide +kernel
theorem dX12_call_94 : decode cX12_call 94 = .ok (.aload_n 0, 1) := by decide +kernel
theorem dX12_call_95 : decode cX12_call 95 = .ok (.getfield 8, 3) := by decide +kernel
theorem dX12_call_98 : decode cX12_call 98 = .ok (.iconst 0, 1) := by decide +kernel
theorem dX12_call_99 : decode cX12_call 99 = .ok (.iaload, 1) := by decide +kernel
theorem dX12_call_100 : decode cX12_call 100 = .ok (.aload_n 0, 1) := by decide +kernel
theorem dX12_call_101 : decode cX12_call 101 = .ok (.getfield 8, 3) := by decide +kernel
theorem dX12_call_104 : decode cX12_call 104 = .ok (.sipush 490, 3) := by decide +kernel
theorem dX12_call_107 : decode cX12_call 107 = .ok (.iload 4, 2) := by decide +kernel
theorem dX12_call_109 : decode cX12_call 109 = .ok (.iadd, 1) := by decide +kernel
theorem dX12_call_110 : decode cX12_call 110 = .ok (.iaload, 1) := by decide +kernel
theorem dX12_call_111 : decode cX12_call 111 = .ok (.isub, 1) := by decide +kernel
theorem dX12_call_112 : decode cX12_call 112 = .ok (.aload_n 0, 1) := by decide +kernel
theorem dX12_call_113 : decode cX12_call 113 = .ok (.iconst 4, 1) := by decide +kernel
theorem dX12_call_114 : decode cX12_call 114 = .ok (.aload_n 0, 1) := by decide +kernel
theorem dX12_call_115 : decode cX12_call 115 = .ok (.getfield 8, 3) := by decide +kernel
theorem dX12_call_118 : decode cX12_call 118 = .ok (.iconst 0, 1) := by decide +kernel
theorem dX12_call_119 : decode cX12_call 119 = .ok (.iaload, 1) := by decide +kernel
theorem dX12_call_120 : decode cX12_call 120 = .ok (.invokevirtual 152, 3) := by decide +kernel
theorem dX12_call_123 : decode cX12_call 123 = .ok (.if_icmp .lt 7, 3) := by decide +kernel
theorem dX12_call_126 : decode cX12_call 126 = .ok (.iconst 1, 1) := by decide +kernel
theorem dX12_call_127 : decode cX12_call 127 = .ok (.goto 4, 3) := by decide +kernel
theorem dX12_call_130 : decode cX12_call 130 = .ok (.iconst 0, 1) := by decide +kernel
theorem dX12_call_131 : decode cX12_call 131 = .ok (.istore_n 3, 1) := by decide +kernel
theorem dX12_call_132 : decode cX12_call 132 = .ok (.iinc 4 1, 3) := by decide +kernel
theorem dX12_call_135 : decode cX12_call 135 = .ok (.goto (-86), 3) := by decide +kernel
theorem dX12_call_138 : decode cX12_call 138 = .ok (.iload_n 3, 1) := by decide +kernel
theorem dX12_call_139 : decode cX12_call 139 = .ok (.ifCond .ne 6, 3) := by decide +kernel
theorem dX12_call_142 : decode cX12_call 142 = .ok (.bipush (-3), 2) := by decide +kernel
theorem dX12_call_144 : decode cX12_call 144 = .ok (.ireturn, 1) := by decide +kernel
theorem dX12_call_145 : decode cX12_call 145 = .ok (.aload_n 0, 1) := by decide +kernel
theorem dX12_call_146 : decode cX12_call 146 = .ok (.getfield 8, 3) := by decide +kernel
theorem dX12_call_149 : decode cX12_call 149 = .ok (.iconst 2, 1) := by decide +kernel
theorem dX12_call_150 : decode cX12_call 150 = .ok (.iaload, 1) := by decide +kernel
theorem dX12_call_151 : decode cX12_call 151 = .ok (.bipush 60, 2) := by decide +kernel
theorem dX12_call_153 : decode cX12_call 153 = .ok (.if_icmp .ne 8, 3) := by decide +kernel
theorem dX12_call_156 : decode cX12_call 156 = .ok (.bipush (-4), 2) := by decide +kernel
theorem dX12_call_158 : decode cX12_call 158 = .ok (.goto 13, 3) := by decide +kernel
theorem dX12_call_161 : decode cX12_call 161 = .ok (.aload_n 0, 1) := by decide +kernel
theorem dX12_call_162 : decode cX12_call 162 = .ok (.iconst 4, 1) := by decide +kernel
theorem dX12_call_163 : decode cX12_call 163 = .ok (.iload_n 1, 1) := by decide +kernel
theorem dX12_call_164 : decode cX12_call 164 = .ok (.iconst (-1), 1) := by decide +kernel
theorem dX12_call_165 : decode cX12_call 165 = .ok (.iconst (-1), 1) := by decide +kernel
theorem dX12_call_166 : decode cX12_call 166 = .ok (.iconst (-1), 1) := by decide +kernel
theorem dX12_call_167 : decode cX12_call 167 = .ok (.iload_n 2, 1) := by decide +kernel
theorem dX12_call_168 : decode cX12_call 168 = .ok (.invokevirtual 158, 3) := by decide +kernel
theorem dX12_call_171 : decode cX12_call 171 = .ok (.ireturn, 1) := by decide +kernel
theorem dX12_lend_0 : decode cX12_lend 0 = .ok (.aload_n 0, 1) := by decide +kernel
theorem dX12_lend_1 : decode cX12_lend 1 = .ok (.iload_n 1, 1) := by decide +kernel
theorem dX12_lend_2 : decode cX12_lend 2 = .ok (.invokevirtual 241, 3) := by decide +kernel
theorem dX12_lend_5 : decode cX12_lend 5 = .ok (.ifCond .eq 10, 3) := by decide +kernel
theorem dX12_lend_8 : decode cX12_lend 8 = .ok (.iload_n 2, 1) := by decide +kernel
theorem dX12_lend_9 : decode cX12_lend 9 = .ok (.invokestatic 69, 3) := by decide +kernel
theorem dX12_lend_12 : decode cX12_lend 12 = .ok (.ifCond .ne 5, 3) := by decide +kernel
theorem dX12_lend_15 : decode cX12_lend 15 = .ok (.iconst (-1), 1) := by decide +kernel
theorem dX12_lend_16 : decode cX12_lend 16 = .ok (.ireturn, 1) := by decide +kernel
theorem dX12_lend_17 : decode cX12_lend 17 = .ok (.iload_n 3, 1) := by decide +kernel
theorem dX12_lend_18 : decode cX12_lend 18 = .ok (.iconst 1, 1) := by decide +kernel
theorem dX12_lend_19 : decode cX12_lend 19 = .ok (.sipush 9999, 3) := by decide +kernel
theorem dX12_lend_22 : decode cX12_lend 22 = .ok (.invokestatic 58, 3) := by decide +kernel
theorem dX12_lend_25 : decode cX12_lend 25 = .ok (.ifCond .ne 6, 3) := by decide +kernel
theorem dX12_lend_28 : decode cX12_lend 28 = .ok (.bipush (-2), 2) := by decide +kernel
theorem dX12_lend_30 : decode cX12_lend 30 = .ok (.ireturn, 1) := by decide +kernel
theorem dX12_lend_31 : decode cX12_lend 31 = .ok (.aload_n 0, 1) := by decide +kernel
theorem dX12_lend_32 : decode cX12_lend 32 = .ok (.iload_n 1, 1) := by decide +kernel
theorem dX12_lend_33 : decode cX12_lend 33 = .ok (.invokevirtual 244, 3) := by decide +kernel
theorem dX12_lend_36 : decode cX12_lend 36 = .ok (.ifCond .ne 17, 3) := by decide +kernel
theorem dX12_lend_39 : decode cX12_lend 39 = .ok (.aload_n 0, 1) := by decide +kernel
theorem dX12_lend_40 : decode cX12_lend 40 = .ok (.getfield 8, 3) := by decide +kernel
theorem dX12_lend_43 : decode cX12_lend 43 = .ok (.sipush 192, 3) := by decide +kernel
theorem dX12_lend_46 : decode cX12_lend 46 = .ok (.iload_n 2, 1) := by decide +kernel
theorem dX12_lend_47 : decode cX12_lend 47 = .ok (.iadd, 1) := by decide +kernel
theorem dX12_lend_48 : decode cX12_lend 48 = .ok (.iaload, 1) := by decide +kernel
theorem dX12_lend_49 : decode cX12_lend 49 = .ok (.iload_n 3, 1) := by decide +kernel
theorem dX12_lend_50 : decode cX12_lend 50 = .ok (.if_icmp .ge 6, 3) := by decide +kernel
theorem dX12_lend_53 : decode cX12_lend 53 = .ok (.bipush (-3), 2) := by decide +kernel
theorem dX12_lend_55 : decode cX12_lend 55 = .ok (.ireturn, 1) := by decide +kernel
theorem dX12_lend_56 : decode cX12_lend 56 = .ok (.aload_n 0, 1) := by decide +kernel
theorem dX12_lend_57 : decode cX12_lend 57 = .ok (.getfield 8, 3) := by decide +kernel
theorem dX12_lend_60 : decode cX12_lend 60 = .ok (.iconst 2, 1) := by decide +kernel
theorem dX12_lend_61 : decode cX12_lend 61 = .ok (.iaload, 1) := by decide +kernel
theorem dX12_lend_62 : decode cX12_lend 62 = .ok (.bipush 60, 2) := by decide +kernel
theorem dX12_lend_64 : decode cX12_lend 64 = .ok (.if_icmp .ne 6, 3) := by decide +kernel
theorem dX12_lend_67 : decode cX12_lend 67 = .ok (.bipush (-4), 2) := by decide +kernel
theorem dX12_lend_69 : decode cX12_lend 69 = .ok (.ireturn, 1) := by decide +kernel
theorem dX12_lend_70 : decode cX12_lend 70 = .ok (.aload_n 0, 1) := by decide +kernel
theorem dX12_lend_71 : decode cX12_lend 71 = .ok (.getfield 8, 3) := by decide +kernel
theorem dX12_lend_74 : decode cX12_lend 74 = .ok (.sipush 192, 3) := by decide +kernel
theorem dX12_lend_77 : decode cX12_lend 77 = .ok (.iload_n 2, 1) := by decide +kernel
theorem dX12_lend_78 : decode cX12_lend 78 = .ok (.iadd, 1) := by decide +kernel
theorem dX12_lend_79 : decode cX12_lend 79 = .ok (.dup2, 1) := by decide +kernel
theorem dX12_lend_80 : decode cX12_lend 80 = .ok (.iaload, 1) := by decide +kernel
theorem dX12_lend_81 : decode cX12_lend 81 = .ok (.iload_n 3, 1) := by decide +kernel
theorem dX12_lend_82 : decode cX12_lend 82 = .ok (.isub, 1) := by decide +kernel
theorem dX12_lend_83 : decode cX12_lend 83 = .ok (.iastore, 1) := by decide +kernel
theorem dX12_lend_84 : decode cX12_lend 84 = .ok (.aload_n 0, 1) := by decide +kernel
theorem dX12_lend_85 : decode cX12_lend 85 = .ok (.getfield 8, 3) := by decide +kernel
theorem dX12_lend_88 : decode cX12_lend 88 = .ok (.sipush 11502, 3) := by decide +kernel
theorem dX12_lend_91 : decode cX12_lend 91 = .ok (.aload_n 0, 1) := by decide +kernel
theorem dX12_lend_92 : decode cX12_lend 92 = .ok (.iload_n 1, 1) := by decide +kernel
theorem dX12_lend_93 : decode cX12_lend 93 = .ok (.invokevirtual 238, 3) := by decide +kernel
theorem dX12_lend_96 : decode cX12_lend 96 = .ok (.iadd, 1) := by decide +kernel
theorem dX12_lend_97 : decode cX12_lend 97 = .ok (.dup2, 1) := by decide +kernel
theorem dX12_lend_98 : decode cX12_lend 98 = .ok (.iaload, 1) := by decide +kernel
theorem dX12_lend_99 : decode cX12_lend 99 = .ok (.iload_n 3, 1) := by decide +kernel
theorem dX12_lend_100 : decode cX12_lend 100 = .ok (.iadd, 1) := by decide +kernel
theorem dX12_lend_101 : decode cX12_lend 101 = .ok (.iastore, 1) := by decide +kernel
theorem dX12_lend_102 : decode cX12_lend 102 = .ok (.aload_n 0, 1) := by decide +kernel
theorem dX12_lend_103 : decode cX12_lend 103 = .ok (.iconst 5, 1) := by decide +kernel
theorem dX12_lend_104 : decode cX12_lend 104 = .ok (.iload_n 1, 1) := by decide +kernel
theorem dX12_lend_105 : decode cX12_lend 105 = .ok (.iload_n 2, 1) := by decide +kernel
theorem dX12_lend_106 : decode cX12_lend 106 = .ok (.iconst (-1), 1) := by decide +kernel
theorem dX12_lend_107 : decode cX12_lend 107 = .ok (.iconst (-1), 1) := by decide +kernel
theorem dX12_lend_108 : decode cX12_lend 108 = .ok (.iload_n 3, 1) := by decide +kernel
theorem dX12_lend_109 : decode cX12_lend 109 = .ok (.invokevirtual 158, 3) := by decide +kernel
theorem dX12_lend_112 : decode cX12_lend 112 = .ok (.ireturn, 1) := by decide +kernel
theorem dX12_settles_0 : decode cX12_settles 0 = .ok (.iconst 0, 1) := by decide +kernel
theorem dX12_settles_1 : decode cX12_settles 1 = .ok (.istore_n 1, 1) := by decide +kernel
theorem dX12_settles_2 : decode cX12_settles 2 = .ok (.iload_n 1, 1) := by decide +kernel
theorem dX12_settles_3 : decode cX12_settles 3 = .ok (.sipush 400, 3) := by decide +kernel
theorem dX12_settles_6 : decode cX12_settles 6 = .ok (.if_icmp .ge 23, 3) := by decide +kernel
theorem dX12_settles_9 : decode cX12_settles 9 = .ok (.aload_n 0, 1) := by decide +kernel
theorem dX12_settles_10 : decode cX12_settles 10 = .ok (.getfield 32, 3) := by decide +kernel
theorem dX12_settles_13 : decode cX12_settles 13 = .ok (.iload_n 1, 1) := by decide +kernel
theorem dX12_settles_14 : decode cX12_settles 14 = .ok (.lconst 0, 1) := by decide +kernel
theorem dX12_settles_15 : decode cX12_settles 15 = .ok (.lastore, 1) := by decide +kernel
theorem dX12_settles_16 : decode cX12_settles 16 = .ok (.aload_n 0, 1) := by decide +kernel
theorem dX12_settles_17 : decode cX12_settles 17 = .ok (.getfield 36, 3) := by decide +kernel
theorem dX12_settles_20 : decode cX12_settles 20 = .ok (.iload_n 1, 1) := by decide +kernel
theorem dX12_settles_21 : decode cX12_settles 21 = .ok (.lconst 0, 1) := by decide +kernel
theorem dX12_settles_22 : decode cX12_settles 22 = .ok (.lastore, 1) := by decide +kernel
theorem dX12_settles_23 : decode cX12_settles 23 = .ok (.iinc 1 1, 3) := by decide +kernel
theorem dX12_settles_26 : decode cX12_settles 26 = .ok (.goto (-24), 3) := by decide +kernel
theorem dX12_settles_29 : decode cX12_settles 29 = .ok (.iconst 0, 1) := by decide +kernel
theorem dX12_settles_30 : decode cX12_settles 30 = .ok (.istore_n 1, 1) := by decide +kernel
theorem dX12_settles_31 : decode cX12_settles 31 = .ok (.iload_n 1, 1) := by decide +kernel
theorem dX12_settles_32 : decode cX12_settles 32 = .ok (.aload_n 0, 1) := by decide +kernel
theorem dX12_settles_33 : decode cX12_settles 33 = .ok (.getfield 8, 3) := by decide +kernel
theorem dX12_settles_36 : decode cX12_settles 36 = .ok (.iconst 2, 1) := by decide +kernel
theorem dX12_settles_37 : decode cX12_settles 37 = .ok (.iaload, 1) := by decide +kernel
theorem dX12_settles_38 : decode cX12_settles 38 = .ok (.if_icmp .ge 186, 3) := by decide +kernel
theorem dX12_settles_41 : decode cX12_settles 41 = .ok (.aload_n 0, 1) := by decide +kernel
theorem dX12_settles_42 : decode cX12_settles 42 = .ok (.getfield 8, 3) := by decide +kernel
theorem dX12_settles_45 : decode cX12_settles 45 = .ok (.sipush 790, 3) := by decide +kernel
theorem dX12_settles_48 : decode cX12_settles 48 = .ok (.iload_n 1, 1) := by decide +kernel
theorem dX12_settles_49 : decode cX12_settles 49 = .ok (.iadd, 1) := by decide +kernel
theorem dX12_settles_50 : decode cX12_settles 50 = .ok (.iaload, 1) := by decide +kernel
theorem dX12_settles_51 : decode cX12_settles 51 = .ok (.ifCond .ne 90, 3) := by decide +kernel
theorem dX12_settles_54 : decode cX12_settles 54 = .ok (.aload_n 0, 1) := by decide +kernel
theorem dX12_settles_55 : decode cX12_settles 55 = .ok (.getfield 8, 3) := by decide +kernel
theorem dX12_settles_58 : decode cX12_settles 58 = .ok (.sipush 370, 3) := by decide +kernel
theorem dX12_settles_61 : decode cX12_settles 61 = .ok (.iload_n 1, 1) := by decide +kernel
theorem dX12_settles_62 : decode cX12_settles 62 = .ok (.iadd, 1) := by decide +kernel
theorem dX12_settles_63 : decode cX12_settles 63 = .ok (.iaload, 1) := by decide +kernel
theorem dX12_settles_64 : decode cX12_settles 64 = .ok (.iconst 4, 1) := by decide +kernel
theorem dX12_settles_65 : decode cX12_settles 65 = .ok (.if_icmp .ne 76, 3) := by decide +kernel
theorem dX12_settles_68 : decode cX12_settles 68 = .ok (.aload_n 0, 1) := by decide +kernel
theorem dX12_settles_69 : decode cX12_settles 69 = .ok (.aload_n 0, 1) := by decide +kernel
theorem dX12_settles_70 : decode cX12_settles 70 = .ok (.getfield 8, 3) := by decide +kernel
theorem dX12_settles_73 : decode cX12_settles 73 = .ok (.sipush 430, 3) := by decide +kernel
theorem dX12_settles_76 : decode cX12_settles 76 = .ok (.iload_n 1, 1) := by decide +kernel
theorem dX12_settles_77 : decode cX12_settles 77 = .ok (.iadd, 1) := by decide +kernel
theorem dX12_settles_78 : decode cX12_settles 78 = .ok (.iaload, 1) := by decide +kernel
theorem dX12_settles_79 : decode cX12_settles 79 = .ok (.invokevirtual 238, 3) := by decide +kernel
theorem dX12_settles_82 : decode cX12_settles 82 = .ok (.istore_n 2, 1) := by decide +kernel
theorem dX12_settles_83 : decode cX12_settles 83 = .ok (.iconst 0, 1) := by decide +kernel
theorem dX12_settles_84 : decode cX12_settles 84 = .ok (.istore_n 3, 1) := by decide +kernel
theorem dX12_settles_85 : decode cX12_settles 85 = .ok (.iload_n 3, 1) := by decide +kernel
theorem dX12_settles_86 : decode cX12_settles 86 = .ok (.bipush 8, 2) := by decide +kernel
theorem dX12_settles_88 : decode cX12_settles 88 = .ok (.if_icmp .ge 53, 3) := by decide +kernel
theorem dX12_settles_91 : decode cX12_settles 91 = .ok (.aload_n 0, 1) := by decide +kernel
theorem dX12_settles_92 : decode cX12_settles 92 = .ok (.getfield 32, 3) := by decide +kernel
theorem dX12_settles_95 : decode cX12_settles 95 = .ok (.bipush 20, 2) := by decide +kernel
theorem dX12_settles_97 : decode cX12_settles 97 = .ok (.iload_n 3, 1) := by decide +kernel
theorem dX12_settles_98 : decode cX12_settles 98 = .ok (.imul, 1) := by decide +kernel
theorem dX12_settles_99 : decode cX12_settles 99 = .ok (.bipush 8, 2) := by decide +kernel
theorem dX12_settles_101 : decode cX12_settles 101 = .ok (.iadd, 1) := by decide +kernel
theorem dX12_settles_102 : decode cX12_settles 102 = .ok (.iload_n 2, 1) := by decide +kernel
theorem dX12_settles_103 : decode cX12_settles 103 = .ok (.iadd, 1) := by decide +kernel
theorem dX12_settles_104 : decode cX12_settles 104 = .ok (.dup2, 1) := by decide +kernel
theorem dX12_settles_105 : decode cX12_settles 105 = .ok (.laload, 1) := by decide +kernel
theorem dX12_settles_106 : decode cX12_settles 106 = .ok (.aload_n 0, 1) := by decide +kernel
theorem dX12_settles_107 : decode cX12_settles 107 = .ok (.getfield 8, 3) := by decide +kernel
theorem dX12_settles_110 : decode cX12_settles 110 = .ok (.sipush 730, 3) := by decide +kernel
theorem dX12_settles_113 : decode cX12_settles 113 = .ok (.iload_n 1, 1) := by decide +kernel
theorem dX12_settles_114 : decode cX12_settles 114 = .ok (.iadd, 1) := by decide +kernel
theorem dX12_settles_115 : decode cX12_settles 115 = .ok (.iaload, 1) := by decide +kernel
theorem dX12_settles_116 : decode cX12_settles 116 = .ok (.aload_n 0, 1) := by decide +kernel
theorem dX12_settles_117 : decode cX12_settles 117 = .ok (.getfield 8, 3) := by decide +kernel
theorem dX12_settles_120 : decode cX12_settles 120 = .ok (.sipush 11530, 3) := by decide +kernel
theorem dX12_settles_123 : decode cX12_settles 123 = .ok (.bipush 9, 2) := by decide +kernel
theorem dX12_settles_125 : decode cX12_settles 125 = .ok (.iload_n 2, 1) := by decide +kernel
theorem dX12_settles_126 : decode cX12_settles 126 = .ok (.imul, 1) := by decide +kernel
theorem dX12_settles_127 : decode cX12_settles 127 = .ok (.iadd, 1) := by decide +kernel
theorem dX12_settles_128 : decode cX12_settles 128 = .ok (.iload_n 3, 1) := by decide +kernel
theorem dX12_settles_129 : decode cX12_settles 129 = .ok (.iadd, 1) := by decide +kernel
theorem dX12_settles_130 : decode cX12_settles 130 = .ok (.iaload, 1) := by decide +kernel
theorem dX12_settles_131 : decode cX12_settles 131 = .ok (.imul, 1) := by decide +kernel
theorem dX12_settles_132 : decode cX12_settles 132 = .ok (.i2l, 1) := by decide +kernel
theorem dX12_settles_133 : decode cX12_settles 133 = .ok (.ladd, 1) := by decide +kernel
theorem dX12_settles_134 : decode cX12_settles 134 = .ok (.lastore, 1) := by decide +kernel
theorem dX12_settles_135 : decode cX12_settles 135 = .ok (.iinc 3 1, 3) := by decide +kernel
theorem dX12_settles_138 : decode cX12_settles 138 = .ok (.goto (-53), 3) := by decide +kernel
theorem dX12_settles_141 : decode cX12_settles 141 = .ok (.aload_n 0, 1) := by decide +kernel
theorem dX12_settles_142 : decode cX12_settles 142 = .ok (.getfield 8, 3) := by decide +kernel
theorem dX12_settles_145 : decode cX12_settles 145 = .ok (.sipush 790, 3) := by decide +kernel
theorem dX12_settles_148 : decode cX12_settles 148 = .ok (.iload_n 1, 1) := by decide +kernel
theorem dX12_settles_149 : decode cX12_settles 149 = .ok (.iadd, 1) := by decide +kernel
theorem dX12_settles_150 : decode cX12_settles 150 = .ok (.iaload, 1) := by decide +kernel
theorem dX12_settles_151 : decode cX12_settles 151 = .ok (.ifCond .ne 67, 3) := by decide +kernel
theorem dX12_settles_154 : decode cX12_settles 154 = .ok (.aload_n 0, 1) := by decide +kernel
theorem dX12_settles_155 : decode cX12_settles 155 = .ok (.getfield 8, 3) := by decide +kernel
theorem dX12_settles_158 : decode cX12_settles 158 = .ok (.sipush 370, 3) := by decide +kernel
theorem dX12_settles_161 : decode cX12_settles 161 = .ok (.iload_n 1, 1) := by decide +kernel
theorem dX12_settles_162 : decode cX12_settles 162 = .ok (.iadd, 1) := by decide +kernel
theorem dX12_settles_163 : decode cX12_settles 163 = .ok (.iaload, 1) := by decide +kernel
theorem dX12_settles_164 : decode cX12_settles 164 = .ok (.iconst 5, 1) := by decide +kernel
theorem dX12_settles_165 : decode cX12_settles 165 = .ok (.if_icmp .ne 53, 3) := by decide +kernel
theorem dX12_settles_168 : decode cX12_settles 168 = .ok (.aload_n 0, 1) := by decide +kernel
theorem dX12_settles_169 : decode cX12_settles 169 = .ok (.getfield 32, 3) := by decide +kernel
theorem dX12_settles_172 : decode cX12_settles 172 = .ok (.bipush 20, 2) := by decide +kernel
theorem dX12_settles_174 : decode cX12_settles 174 = .ok (.bipush 8, 2) := by decide +kernel
theorem dX12_settles_176 : decode cX12_settles 176 = .ok (.aload_n 0, 1) := by decide +kernel
theorem dX12_settles_177 : decode cX12_settles 177 = .ok (.aload_n 0, 1) := by decide +kernel
theorem dX12_settles_178 : decode cX12_settles 178 = .ok (.getfield 8, 3) := by decide +kernel
theorem dX12_settles_181 : decode cX12_settles 181 = .ok (.sipush 430, 3) := by decide +kernel
theorem dX12_settles_184 : decode cX12_settles 184 = .ok (.iload_n 1, 1) := by decide +kernel
theorem dX12_settles_185 : decode cX12_settles 185 = .ok (.iadd, 1) := by decide +kernel
theorem dX12_settles_186 : decode cX12_settles 186 = .ok (.iaload, 1) := by decide +kernel
theorem dX12_settles_187 : decode cX12_settles 187 = .ok (.invokevirtual 238, 3) := by decide +kernel
theorem dX12_settles_190 : decode cX12_settles 190 = .ok (.iadd, 1) := by decide +kernel
theorem dX12_settles_191 : decode cX12_settles 191 = .ok (.imul, 1) := by decide +kernel
theorem dX12_settles_192 : decode cX12_settles 192 = .ok (.aload_n 0, 1) := by decide +kernel
theorem dX12_settles_193 : decode cX12_settles 193 = .ok (.getfield 8, 3) := by decide +kernel
theorem dX12_settles_196 : decode cX12_settles 196 = .ok (.sipush 550, 3) := by decide +kernel
theorem dX12_settles_199 : decode cX12_settles 199 = .ok (.iload_n 1, 1) := by decide +kernel
theorem dX12_settles_200 : decode cX12_settles 200 = .ok (.iadd, 1) := by decide +kernel
theorem dX12_settles_201 : decode cX12_settles 201 = .ok (.iaload, 1) := by decide +kernel
theorem dX12_settles_202 : decode cX12_settles 202 = .ok (.iadd, 1) := by decide +kernel
theorem dX12_settles_203 : decode cX12_settles 203 = .ok (.dup2, 1) := by decide +kernel
theorem dX12_settles_204 : decode cX12_settles 204 = .ok (.laload, 1) := by decide +kernel
theorem dX12_settles_205 : decode cX12_settles 205 = .ok (.aload_n 0, 1) := by decide +kernel
theorem dX12_settles_206 : decode cX12_settles 206 = .ok (.getfield 8, 3) := by decide +kernel
theorem dX12_settles_209 : decode cX12_settles 209 = .ok (.sipush 730, 3) := by decide +kernel
theorem dX12_settles_212 : decode cX12_settles 212 = .ok (.iload_n 1, 1) := by decide +kernel
theorem dX12_settles_213 : decode cX12_settles 213 = .ok (.iadd, 1) := by decide +kernel
theorem dX12_settles_214 : decode cX12_settles 214 = .ok (.iaload, 1) := by decide +kernel
theorem dX12_settles_215 : decode cX12_settles 215 = .ok (.i2l, 1) := by decide +kernel
theorem dX12_settles_216 : decode cX12_settles 216 = .ok (.ladd, 1) := by decide +kernel
theorem dX12_settles_217 : decode cX12_settles 217 = .ok (.lastore, 1) := by decide +kernel
theorem dX12_settles_218 : decode cX12_settles 218 = .ok (.iinc 1 1, 3) := by decide +kernel
theorem dX12_settles_221 : decode cX12_settles 221 = .ok (.goto (-190), 3) := by decide +kernel
theorem dX12_settles_224 : decode cX12_settles 224 = .ok (.iconst 0, 1) := by decide +kernel
theorem dX12_settles_225 : decode cX12_settles 225 = .ok (.istore_n 1, 1) := by decide +kernel
theorem dX12_settles_226 : decode cX12_settles 226 = .ok (.iload_n 1, 1) := by decide +kernel
theorem dX12_settles_227 : decode cX12_settles 227 = .ok (.bipush 20, 2) := by decide +kernel
theorem dX12_settles_229 : decode cX12_settles 229 = .ok (.if_icmp .ge 108, 3) := by decide +kernel
theorem dX12_settles_232 : decode cX12_settles 232 = .ok (.aload_n 0, 1) := by decide +kernel
theorem dX12_settles_233 : decode cX12_settles 233 = .ok (.getfield 42, 3) := by decide +kernel
theorem dX12_settles_236 : decode cX12_settles 236 = .ok (.iload_n 1, 1) := by decide +kernel
theorem dX12_settles_237 : decode cX12_settles 237 = .ok (.iload_n 1, 1) := by decide +kernel
theorem dX12_settles_238 : decode cX12_settles 238 = .ok (.bipush 8, 2) := by decide +kernel
theorem dX12_settles_240 : decode cX12_settles 240 = .ok (.if_icmp .ge 17, 3) := by decide +kernel
theorem dX12_settles_243 : decode cX12_settles 243 = .ok (.aload_n 0, 1) := by decide +kernel
theorem dX12_settles_244 : decode cX12_settles 244 = .ok (.getfield 8, 3) := by decide +kernel
theorem dX12_settles_247 : decode cX12_settles 247 = .ok (.sipush 192, 3) := by decide +kernel
theorem dX12_settles_250 : decode cX12_settles 250 = .ok (.iload_n 1, 1) := by decide +kernel
theorem dX12_settles_251 : decode cX12_settles 251 = .ok (.iadd, 1) := by decide +kernel
theorem dX12_settles_252 : decode cX12_settles 252 = .ok (.iaload, 1) := by decide +kernel
theorem dX12_settles_253 : decode cX12_settles 253 = .ok (.i2l, 1) := by decide +kernel
theorem dX12_settles_254 : decode cX12_settles 254 = .ok (.goto 35, 3) := by decide +kernel
theorem dX12_settles_257 : decode cX12_settles 257 = .ok (.iload_n 1, 1) := by decide +kernel
theorem dX12_settles_258 : decode cX12_settles 258 = .ok (.bipush 8, 2) := by decide +kernel
theorem dX12_settles_260 : decode cX12_settles 260 = .ok (.isub, 1) := by decide +kernel
theorem dX12_settles_261 : decode cX12_settles 261 = .ok (.aload_n 0, 1) := by decide +kernel
theorem dX12_settles_262 : decode cX12_settles 262 = .ok (.getfield 8, 3) := by decide +kernel
theorem dX12_settles_265 : decode cX12_settles 265 = .ok (.bipush 9, 2) := by decide +kernel
theorem dX12_settles_267 : decode cX12_settles 267 = .ok (.iaload, 1) := by decide +kernel
theorem dX12_settles_268 : decode cX12_settles 268 = .ok (.if_icmp .ge 20, 3) := by decide +kernel
theorem dX12_settles_271 : decode cX12_settles 271 = .ok (.aload_n 0, 1) := by decide +kernel
theorem dX12_settles_272 : decode cX12_settles 272 = .ok (.getfield 8, 3) := by decide +kernel
theorem dX12_settles_275 : decode cX12_settles 275 = .ok (.sipush 11502, 3) := by decide +kernel
theorem dX12_settles_278 : decode cX12_settles 278 = .ok (.iload_n 1, 1) := by decide +kernel
theorem dX12_settles_279 : decode cX12_settles 279 = .ok (.iadd, 1) := by decide +kernel
theorem dX12_settles_280 : decode cX12_settles 280 = .ok (.bipush 8, 2) := by decide +kernel
theorem dX12_settles_282 : decode cX12_settles 282 = .ok (.isub, 1) := by decide +kernel
theorem dX12_settles_283 : decode cX12_settles 283 = .ok (.iaload, 1) := by decide +kernel
theorem dX12_settles_284 : decode cX12_settles 284 = .ok (.i2l, 1) := by decide +kernel
theorem dX12_settles_285 : decode cX12_settles 285 = .ok (.goto 4, 3) := by decide +kernel
theorem dX12_settles_288 : decode cX12_settles 288 = .ok (.lconst 0, 1) := by decide +kernel
theorem dX12_settles_289 : decode cX12_settles 289 = .ok (.lastore, 1) := by decide +kernel
theorem dX12_settles_290 : decode cX12_settles 290 = .ok (.aload_n 0, 1) := by decide +kernel
theorem dX12_settles_291 : decode cX12_settles 291 = .ok (.getfield 45, 3) := by decide +kernel
theorem dX12_settles_294 : decode cX12_settles 294 = .ok (.iload_n 1, 1) := by decide +kernel
theorem dX12_settles_295 : decode cX12_settles 295 = .ok (.lconst 0, 1) := by decide +kernel
theorem dX12_settles_296 : decode cX12_settles 296 = .ok (.lastore, 1) := by decide +kernel
theorem dX12_settles_297 : decode cX12_settles 297 = .ok (.iconst 0, 1) := by decide +kernel
theorem dX12_settles_298 : decode cX12_settles 298 = .ok (.istore_n 2, 1) := by decide +kernel
theorem dX12_settles_299 : decode cX12_settles 299 = .ok (.iload_n 2, 1) := by decide +kernel
theorem dX12_settles_300 : decode cX12_settles 300 = .ok (.bipush 20, 2) := by decide +kernel
theorem dX12_settles_302 : decode cX12_settles 302 = .ok (.if_icmp .ge 29, 3) := by decide +kernel
theorem dX12_settles_305 : decode cX12_settles 305 = .ok (.aload_n 0, 1) := by decide +kernel
theorem dX12_settles_306 : decode cX12_settles 306 = .ok (.getfield 45, 3) := by decide +kernel
theorem dX12_settles_309 : decode cX12_settles 309 = .ok (.iload_n 1, 1) := by decide +kernel
theorem dX12_settles_310 : decode cX12_settles 310 = .ok (.dup2, 1) := by decide +kernel
theorem dX12_settles_311 : decode cX12_settles 311 = .ok (.laload, 1) := by decide +kernel
theorem dX12_settles_312 : decode cX12_settles 312 = .ok (.aload_n 0, 1) := by decide +kernel
theorem dX12_settles_313 : decode cX12_settles 313 = .ok (.getfield 32, 3) := by decide +kernel
theorem dX12_settles_316 : decode cX12_settles 316 = .ok (.bipush 20, 2) := by decide +kernel
theorem dX12_settles_318 : decode cX12_settles 318 = .ok (.iload_n 1, 1) := by decide +kernel
theorem dX12_settles_319 : decode cX12_settles 319 = .ok (.imul, 1) := by decide +kernel
theorem dX12_settles_320 : decode cX12_settles 320 = .ok (.iload_n 2, 1) := by decide +kernel
theorem dX12_settles_321 : decode cX12_settles 321 = .ok (.iadd, 1) := by decide +kernel
theorem dX12_settles_322 : decode cX12_settles 322 = .ok (.laload, 1) := by decide +kernel
theorem dX12_settles_323 : decode cX12_settles 323 = .ok (.ladd, 1) := by decide +kernel
theorem dX12_settles_324 : decode cX12_settles 324 = .ok (.lastore, 1) := by decide +kernel
theorem dX12_settles_325 : decode cX12_settles 325 = .ok (.iinc 2 1, 3) := by decide +kernel
theorem dX12_settles_328 : decode cX12_settles 328 = .ok (.goto (-29), 3) := by decide +kernel
theorem dX12_settles_331 : decode cX12_settles 331 = .ok (.iinc 1 1, 3) := by decide +kernel
theorem dX12_settles_334 : decode cX12_settles 334 = .ok (.goto (-108), 3) := by decide +kernel
theorem dX12_settles_337 : decode cX12_settles 337 = .ok (.iconst 1, 1) := by decide +kernel
theorem dX12_settles_338 : decode cX12_settles 338 = .ok (.istore_n 1, 1) := by decide +kernel
theorem dX12_settles_339 : decode cX12_settles 339 = .ok (.iconst 0, 1) := by decide +kernel
theorem dX12_settles_340 : decode cX12_settles 340 = .ok (.istore_n 2, 1) := by decide +kernel
theorem dX12_settles_341 : decode cX12_settles 341 = .ok (.iload_n 2, 1) := by decide +kernel
theorem dX12_settles_342 : decode cX12_settles 342 = .ok (.sipush 300, 3) := by decide +kernel
theorem dX12_settles_345 : decode cX12_settles 345 = .ok (.if_icmp .ge 166, 3) := by decide +kernel
theorem dX12_settles_348 : decode cX12_settles 348 = .ok (.iload_n 1, 1) := by decide +kernel
theorem dX12_settles_349 : decode cX12_settles 349 = .ok (.ifCond .eq 162, 3) := by decide +kernel
theorem dX12_settles_352 : decode cX12_settles 352 = .ok (.iconst 0, 1) := by decide +kernel
theorem dX12_settles_353 : decode cX12_settles 353 = .ok (.istore_n 1, 1) := by decide +kernel
theorem dX12_settles_354 : decode cX12_settles 354 = .ok (.iconst 0, 1) := by decide +kernel
theorem dX12_settles_355 : decode cX12_settles 355 = .ok (.istore_n 3, 1) := by decide +kernel
theorem dX12_settles_356 : decode cX12_settles 356 = .ok (.iload_n 3, 1) := by decide +kernel
theorem dX12_settles_357 : decode cX12_settles 357 = .ok (.bipush 20, 2) := by decide +kernel
theorem dX12_settles_359 : decode cX12_settles 359 = .ok (.if_icmp .ge 119, 3) := by decide +kernel
theorem dX12_settles_362 : decode cX12_settles 362 = .ok (.aload_n 0, 1) := by decide +kernel
theorem dX12_settles_363 : decode cX12_settles 363 = .ok (.iload_n 3, 1) := by decide +kernel
theorem dX12_settles_364 : decode cX12_settles 364 = .ok (.invokevirtual 253, 3) := by decide +kernel
theorem dX12_settles_367 : decode cX12_settles 367 = .ok (.lstore 4, 2) := by decide +kernel
theorem dX12_settles_369 : decode cX12_settles 369 = .ok (.iconst 0, 1) := by decide +kernel
theorem dX12_settles_370 : decode cX12_settles 370 = .ok (.istore 6, 2) := by decide +kernel
theorem dX12_settles_372 : decode cX12_settles 372 = .ok (.iload 6, 2) := by decide +kernel
theorem dX12_settles_374 : decode cX12_settles 374 = .ok (.bipush 20, 2) := by decide +kernel
theorem dX12_settles_376 : decode cX12_settles 376 = .ok (.if_icmp .ge 96, 3) := by decide +kernel
theorem dX12_settles_379 : decode cX12_settles 379 = .ok (.aload_n 0, 1) := by decide +kernel
theorem dX12_settles_380 : decode cX12_settles 380 = .ok (.getfield 39, 3) := by decide +kernel
theorem dX12_settles_383 : decode cX12_settles 383 = .ok (.bipush 20, 2) := by decide +kernel
theorem dX12_settles_385 : decode cX12_settles 385 = .ok (.iload_n 3, 1) := by decide +kernel
theorem dX12_settles_386 : decode cX12_settles 386 = .ok (.imul, 1) := by decide +kernel
theorem dX12_settles_387 : decode cX12_settles 387 = .ok (.iload 6, 2) := by decide +kernel
theorem dX12_settles_389 : decode cX12_settles 389 = .ok (.iadd, 1) := by decide +kernel
theorem dX12_settles_390 : decode cX12_settles 390 = .ok (.aload_n 0, 1) := by decide +kernel
theorem dX12_settles_391 : decode cX12_settles 391 = .ok (.getfield 45, 3) := by decide +kernel
theorem dX12_settles_394 : decode cX12_settles 394 = .ok (.iload_n 3, 1) := by decide +kernel
theorem dX12_settles_395 : decode cX12_settles 395 = .ok (.laload, 1) := by decide +kernel
theorem dX12_settles_396 : decode cX12_settles 396 = .ok (.lconst 0, 1) := by decide +kernel
theorem dX12_settles_397 : decode cX12_settles 397 = .ok (.lcmp, 1) := by decide +kernel
theorem dX12_settles_398 : decode cX12_settles 398 = .ok (.ifCond .ne 7, 3) := by decide +kernel
theorem dX12_settles_401 : decode cX12_settles 401 = .ok (.lconst 0, 1) := by decide +kernel
theorem dX12_settles_402 : decode cX12_settles 402 = .ok (.goto 25, 3) := by decide +kernel
theorem dX12_settles_405 : decode cX12_settles 405 = .ok (.lload 4, 2) := by decide +kernel
theorem dX12_settles_407 : decode cX12_settles 407 = .ok (.aload_n 0, 1) := by decide +kernel
theorem dX12_settles_408 : decode cX12_settles 408 = .ok (.getfield 32, 3) := by decide +kernel
theorem dX12_settles_411 : decode cX12_settles 411 = .ok (.bipush 20, 2) := by decide +kernel
theorem dX12_settles_413 : decode cX12_settles 413 = .ok (.iload_n 3, 1) := by decide +kernel
theorem dX12_settles_414 : decode cX12_settles 414 = .ok (.imul, 1) := by decide +kernel
theorem dX12_settles_415 : decode cX12_settles 415 = .ok (.iload 6, 2) := by decide +kernel
theorem dX12_settles_417 : decode cX12_settles 417 = .ok (.iadd, 1) := by decide +kernel
theorem dX12_settles_418 : decode cX12_settles 418 = .ok (.laload, 1) := by decide +kernel
theorem dX12_settles_419 : decode cX12_settles 419 = .ok (.lmul, 1) := by decide +kernel
theorem dX12_settles_420 : decode cX12_settles 420 = .ok (.aload_n 0, 1) := by decide +kernel
theorem dX12_settles_421 : decode cX12_settles 421 = .ok (.getfield 45, 3) := by decide +kernel
theorem dX12_settles_424 : decode cX12_settles 424 = .ok (.iload_n 3, 1) := by decide +kernel
theorem dX12_settles_425 : decode cX12_settles 425 = .ok (.laload, 1) := by decide +kernel
theorem dX12_settles_426 : decode cX12_settles 426 = .ok (.ldiv, 1) := by decide +kernel
theorem dX12_settles_427 : decode cX12_settles 427 = .ok (.lastore, 1) := by decide +kernel
theorem dX12_settles_428 : decode cX12_settles 428 = .ok (.iload_n 1, 1) := by decide +kernel
theorem dX12_settles_429 : decode cX12_settles 429 = .ok (.ifCond .ne 31, 3) := by decide +kernel
theorem dX12_settles_432 : decode cX12_settles 432 = .ok (.aload_n 0, 1) := by decide +kernel
theorem dX12_settles_433 : decode cX12_settles 433 = .ok (.getfield 39, 3) := by decide +kernel
theorem dX12_settles_436 : decode cX12_settles 436 = .ok (.bipush 20, 2) := by decide +kernel
theorem dX12_settles_438 : decode cX12_settles 438 = .ok (.iload_n 3, 1) := by decide +kernel
theorem dX12_settles_439 : decode cX12_settles 439 = .ok (.imul, 1) := by decide +kernel
theorem dX12_settles_440 : decode cX12_settles 440 = .ok (.iload 6, 2) := by decide +kernel
theorem dX12_settles_442 : decode cX12_settles 442 = .ok (.iadd, 1) := by decide +kernel
theorem dX12_settles_443 : decode cX12_settles 443 = .ok (.laload, 1) := by decide +kernel
theorem dX12_settles_444 : decode cX12_settles 444 = .ok (.aload_n 0, 1) := by decide +kernel
theorem dX12_settles_445 : decode cX12_settles 445 = .ok (.getfield 36, 3) := by decide +kernel
theorem dX12_settles_448 : decode cX12_settles 448 = .ok (.bipush 20, 2) := by decide +kernel
theorem dX12_settles_450 : decode cX12_settles 450 = .ok (.iload_n 3, 1) := by decide +kernel
theorem dX12_settles_451 : decode cX12_settles 451 = .ok (.imul, 1) := by decide +kernel
theorem dX12_settles_452 : decode cX12_settles 452 = .ok (.iload 6, 2) := by decide +kernel
theorem dX12_settles_454 : decode cX12_settles 454 = .ok (.iadd, 1) := by decide +kernel
theorem dX12_settles_455 : decode cX12_settles 455 = .ok (.laload, 1) := by decide +kernel
theorem dX12_settles_456 : decode cX12_settles 456 = .ok (.lcmp, 1) := by decide +kernel
theorem dX12_settles_457 : decode cX12_settles 457 = .ok (.ifCond .eq 7, 3) := by decide +kernel
theorem dX12_settles_460 : decode cX12_settles 460 = .ok (.iconst 1, 1) := by decide +kernel
theorem dX12_settles_461 : decode cX12_settles 461 = .ok (.goto 4, 3) := by decide +kernel
theorem dX12_settles_464 : decode cX12_settles 464 = .ok (.iconst 0, 1) := by decide +kernel
theorem dX12_settles_465 : decode cX12_settles 465 = .ok (.istore_n 1, 1) := by decide +kernel
theorem dX12_settles_466 : decode cX12_settles 466 = .ok (.iinc 6 1, 3) := by decide +kernel
theorem dX12_settles_469 : decode cX12_settles 469 = .ok (.goto (-97), 3) := by decide +kernel
theorem dX12_settles_472 : decode cX12_settles 472 = .ok (.iinc 3 1, 3) := by decide +kernel
theorem dX12_settles_475 : decode cX12_settles 475 = .ok (.goto (-119), 3) := by decide +kernel
theorem dX12_settles_478 : decode cX12_settles 478 = .ok (.iconst 0, 1) := by decide +kernel
theorem dX12_settles_479 : decode cX12_settles 479 = .ok (.istore_n 3, 1) := by decide +kernel
theorem dX12_settles_480 : decode cX12_settles 480 = .ok (.iload_n 3, 1) := by decide +kernel
theorem dX12_settles_481 : decode cX12_settles 481 = .ok (.sipush 400, 3) := by decide +kernel
theorem dX12_settles_484 : decode cX12_settles 484 = .ok (.if_icmp .ge 21, 3) := by decide +kernel
theorem dX12_settles_487 : decode cX12_settles 487 = .ok (.aload_n 0, 1) := by decide +kernel
theorem dX12_settles_488 : decode cX12_settles 488 = .ok (.getfield 36, 3) := by decide +kernel
theorem dX12_settles_491 : decode cX12_settles 491 = .ok (.iload_n 3, 1) := by decide +kernel
theorem dX12_settles_492 : decode cX12_settles 492 = .ok (.aload_n 0, 1) := by decide +kernel
theorem dX12_settles_493 : decode cX12_settles 493 = .ok (.getfield 39, 3) := by decide +kernel
theorem dX12_settles_496 : decode cX12_settles 496 = .ok (.iload_n 3, 1) := by decide +kernel
theorem dX12_settles_497 : decode cX12_settles 497 = .ok (.laload, 1) := by decide +kernel
theorem dX12_settles_498 : decode cX12_settles 498 = .ok (.lastore, 1) := by decide +kernel
theorem dX12_settles_499 : decode cX12_settles 499 = .ok (.iinc 3 1, 3) := by decide +kernel
theorem dX12_settles_502 : decode cX12_settles 502 = .ok (.goto (-22), 3) := by decide +kernel
theorem dX12_settles_505 : decode cX12_settles 505 = .ok (.iinc 2 1, 3) := by decide +kernel
theorem dX12_settles_508 : decode cX12_settles 508 = .ok (.goto (-167), 3) := by decide +kernel
theorem dX12_settles_511 : decode cX12_settles 511 = .ok (.return_, 1) := by decide +kernel
theorem dX12_canPay_0 : decode cX12_canPay 0 = .ok (.aload_n 0, 1) := by decide +kernel
theorem dX12_canPay_1 : decode cX12_canPay 1 = .ok (.getfield 42, 3) := by decide +kernel
theorem dX12_canPay_4 : decode cX12_canPay 4 = .ok (.iload_n 1, 1) := by decide +kernel
theorem dX12_canPay_5 : decode cX12_canPay 5 = .ok (.laload, 1) := by decide +kernel
theorem dX12_canPay_6 : decode cX12_canPay 6 = .ok (.lstore_n 2, 1) := by decide +kernel
theorem dX12_canPay_7 : decode cX12_canPay 7 = .ok (.iconst 0, 1) := by decide +kernel
theorem dX12_canPay_8 : decode cX12_canPay 8 = .ok (.istore 4, 2) := by decide +kernel
theorem dX12_canPay_10 : decode cX12_canPay 10 = .ok (.iload 4, 2) := by decide +kernel
theorem dX12_canPay_12 : decode cX12_canPay 12 = .ok (.bipush 20, 2) := by decide +kernel
theorem dX12_canPay_14 : decode cX12_canPay 14 = .ok (.if_icmp .ge 24, 3) := by decide +kernel
theorem dX12_canPay_17 : decode cX12_canPay 17 = .ok (.lload_n 2, 1) := by decide +kernel
theorem dX12_canPay_18 : decode cX12_canPay 18 = .ok (.aload_n 0, 1) := by decide +kernel
theorem dX12_canPay_19 : decode cX12_canPay 19 = .ok (.getfield 36, 3) := by decide +kernel
theorem dX12_canPay_22 : decode cX12_canPay 22 = .ok (.bipush 20, 2) := by decide +kernel
theorem dX12_canPay_24 : decode cX12_canPay 24 = .ok (.iload 4, 2) := by decide +kernel
theorem dX12_canPay_26 : decode cX12_canPay 26 = .ok (.imul, 1) := by decide +kernel
theorem dX12_canPay_27 : decode cX12_canPay 27 = .ok (.iload_n 1, 1) := by decide +kernel
theorem dX12_canPay_28 : decode cX12_canPay 28 = .ok (.iadd, 1) := by decide +kernel
theorem dX12_canPay_29 : decode cX12_canPay 29 = .ok (.laload, 1) := by decide +kernel
theorem dX12_canPay_30 : decode cX12_canPay 30 = .ok (.ladd, 1) := by decide +kernel
theorem dX12_canPay_31 : decode cX12_canPay 31 = .ok (.lstore_n 2, 1) := by decide +kernel
theorem dX12_canPay_32 : decode cX12_canPay 32 = .ok (.iinc 4 1, 3) := by decide +kernel
theorem dX12_canPay_35 : decode cX12_canPay 35 = .ok (.goto (-25), 3) := by decide +kernel
theorem dX12_canPay_38 : decode cX12_canPay 38 = .ok (.lload_n 2, 1) := by decide +kernel
theorem dX12_canPay_39 : decode cX12_canPay 39 = .ok (.aload_n 0, 1) := by decide +kernel
theorem dX12_canPay_40 : decode cX12_canPay 40 = .ok (.getfield 45, 3) := by decide +kernel
theorem dX12_canPay_43 : decode cX12_canPay 43 = .ok (.iload_n 1, 1) := by decide +kernel
theorem dX12_canPay_44 : decode cX12_canPay 44 = .ok (.laload, 1) := by decide +kernel
theorem dX12_canPay_45 : decode cX12_canPay 45 = .ok (.lcmp, 1) := by decide +kernel
theorem dX12_canPay_46 : decode cX12_canPay 46 = .ok (.ifCond .ge 7, 3) := by decide +kernel
theorem dX12_canPay_49 : decode cX12_canPay 49 = .ok (.lload_n 2, 1) := by decide +kernel
theorem dX12_canPay_50 : decode cX12_canPay 50 = .ok (.goto 9, 3) := by decide +kernel
theorem dX12_canPay_53 : decode cX12_canPay 53 = .ok (.aload_n 0, 1) := by decide +kernel
theorem dX12_canPay_54 : decode cX12_canPay 54 = .ok (.getfield 45, 3) := by decide +kernel
theorem dX12_canPay_57 : decode cX12_canPay 57 = .ok (.iload_n 1, 1) := by decide +kernel
theorem dX12_canPay_58 : decode cX12_canPay 58 = .ok (.laload, 1) := by decide +kernel
theorem dX12_canPay_59 : decode cX12_canPay 59 = .ok (.lreturn, 1) := by decide +kernel
theorem dX12_pays_0 : decode cX12_pays 0 = .ok (.lconst 0, 1) := by decide +kernel
theorem dX12_pays_1 : decode cX12_pays 1 = .ok (.lstore_n 2, 1) := by decide +kernel
theorem dX12_pays_2 : decode cX12_pays 2 = .ok (.iconst 0, 1) := by decide +kernel
theorem dX12_pays_3 : decode cX12_pays 3 = .ok (.istore 4, 2) := by decide +kernel
theorem dX12_pays_5 : decode cX12_pays 5 = .ok (.iload 4, 2) := by decide +kernel
theorem dX12_pays_7 : decode cX12_pays 7 = .ok (.bipush 20, 2) := by decide +kernel
theorem dX12_pays_9 : decode cX12_pays 9 = .ok (.if_icmp .ge 24, 3) := by decide +kernel
theorem dX12_pays_12 : decode cX12_pays 12 = .ok (.lload_n 2, 1) := by decide +kernel
theorem dX12_pays_13 : decode cX12_pays 13 = .ok (.aload_n 0, 1) := by decide +kernel
theorem dX12_pays_14 : decode cX12_pays 14 = .ok (.getfield 36, 3) := by decide +kernel
theorem dX12_pays_17 : decode cX12_pays 17 = .ok (.bipush 20, 2) := by decide +kernel
theorem dX12_pays_19 : decode cX12_pays 19 = .ok (.iload_n 1, 1) := by decide +kernel
theorem dX12_pays_20 : decode cX12_pays 20 = .ok (.imul, 1) := by decide +kernel
theorem dX12_pays_21 : decode cX12_pays 21 = .ok (.iload 4, 2) := by decide +kernel
theorem dX12_pays_23 : decode cX12_pays 23 = .ok (.iadd, 1) := by decide +kernel
theorem dX12_pays_24 : decode cX12_pays 24 = .ok (.laload, 1) := by decide +kernel
theorem dX12_pays_25 : decode cX12_pays 25 = .ok (.ladd, 1) := by decide +kernel
theorem dX12_pays_26 : decode cX12_pays 26 = .ok (.lstore_n 2, 1) := by decide +kernel
theorem dX12_pays_27 : decode cX12_pays 27 = .ok (.iinc 4 1, 3) := by decide +kernel
theorem dX12_pays_30 : decode cX12_pays 30 = .ok (.goto (-25), 3) := by decide +kernel
theorem dX12_pays_33 : decode cX12_pays 33 = .ok (.lload_n 2, 1) := by decide +kernel
theorem dX12_pays_34 : decode cX12_pays 34 = .ok (.lreturn, 1) := by decide +kernel
theorem dX12_along_0 : decode cX12_along 0 = .ok (.iload_n 1, 1) := by decide +kernel
theorem dX12_along_1 : decode cX12_along 1 = .ok (.iconst 0, 1) := by decide +kernel
theorem dX12_along_2 : decode cX12_along 2 = .ok (.iconst 1, 1) := by decide +kernel
theorem dX12_along_3 : decode cX12_along 3 = .ok (.invokestatic 58, 3) := by decide +kernel
theorem dX12_along_6 : decode cX12_along 6 = .ok (.ifCond .eq 25, 3) := by decide +kernel
theorem dX12_along_9 : decode cX12_along 9 = .ok (.iload_n 1, 1) := by decide +kernel
theorem dX12_along_10 : decode cX12_along 10 = .ok (.ifCond .ne 13, 3) := by decide +kernel
theorem dX12_along_13 : decode cX12_along 13 = .ok (.iload_n 2, 1) := by decide +kernel
theorem dX12_along_14 : decode cX12_along 14 = .ok (.invokestatic 69, 3) := by decide +kernel
theorem dX12_along_17 : decode cX12_along 17 = .ok (.ifCond .ne 16, 3) := by decide +kernel
theorem dX12_along_20 : decode cX12_along 20 = .ok (.goto 11, 3) := by decide +kernel
theorem dX12_along_23 : decode cX12_along 23 = .ok (.aload_n 0, 1) := by decide +kernel
theorem dX12_along_24 : decode cX12_along 24 = .ok (.iload_n 2, 1) := by decide +kernel
theorem dX12_along_25 : decode cX12_along 25 = .ok (.invokevirtual 241, 3) := by decide +kernel
theorem dX12_along_28 : decode cX12_along 28 = .ok (.ifCond .ne 5, 3) := by decide +kernel
theorem dX12_along_31 : decode cX12_along 31 = .ok (.iconst (-1), 1) := by decide +kernel
theorem dX12_along_32 : decode cX12_along 32 = .ok (.ireturn, 1) := by decide +kernel
theorem dX12_along_33 : decode cX12_along 33 = .ok (.aload_n 0, 1) := by decide +kernel
theorem dX12_along_34 : decode cX12_along 34 = .ok (.invokevirtual 257, 3) := by decide +kernel
theorem dX12_along_37 : decode cX12_along 37 = .ok (.aload_n 0, 1) := by decide +kernel
theorem dX12_along_38 : decode cX12_along 38 = .ok (.iload_n 1, 1) := by decide +kernel
theorem dX12_along_39 : decode cX12_along 39 = .ok (.ifCond .ne 7, 3) := by decide +kernel
theorem dX12_along_42 : decode cX12_along 42 = .ok (.iload_n 2, 1) := by decide +kernel
theorem dX12_along_43 : decode cX12_along 43 = .ok (.goto 11, 3) := by decide +kernel
theorem dX12_along_46 : decode cX12_along 46 = .ok (.bipush 8, 2) := by decide +kernel
theorem dX12_along_48 : decode cX12_along 48 = .ok (.aload_n 0, 1) := by decide +kernel
theorem dX12_along_49 : decode cX12_along 49 = .ok (.iload_n 2, 1) := by decide +kernel
theorem dX12_along_50 : decode cX12_along 50 = .ok (.invokevirtual 238, 3) := by decide +kernel
theorem dX12_along_53 : decode cX12_along 53 = .ok (.iadd, 1) := by decide +kernel
theorem dX12_along_54 : decode cX12_along 54 = .ok (.invokevirtual 260, 3) := by decide +kernel
theorem dX12_along_57 : decode cX12_along 57 = .ok (.l2i, 1) := by decide +kernel
theorem dX12_along_58 : decode cX12_along 58 = .ok (.ireturn, 1) := by decide +kernel
theorem dX12_settle_0 : decode cX12_settle 0 = .ok (.aload_n 0, 1) := by decide +kernel
theorem dX12_settle_1 : decode cX12_settle 1 = .ok (.invokevirtual 257, 3) := by decide +kernel
theorem dX12_settle_4 : decode cX12_settle 4 = .ok (.iconst 0, 1) := by decide +kernel
theorem dX12_settle_5 : decode cX12_settle 5 = .ok (.istore_n 1, 1) := by decide +kernel
theorem dX12_settle_6 : decode cX12_settle 6 = .ok (.iconst 0, 1) := by decide +kernel
theorem dX12_settle_7 : decode cX12_settle 7 = .ok (.istore_n 2, 1) := by decide +kernel
theorem dX12_settle_8 : decode cX12_settle 8 = .ok (.iload_n 2, 1) := by decide +kernel
theorem dX12_settle_9 : decode cX12_settle 9 = .ok (.bipush 20, 2) := by decide +kernel
theorem dX12_settle_11 : decode cX12_settle 11 = .ok (.if_icmp .ge 34, 3) := by decide +kernel
theorem dX12_settle_14 : decode cX12_settle 14 = .ok (.iload_n 1, 1) := by decide +kernel
theorem dX12_settle_15 : decode cX12_settle 15 = .ok (.aload_n 0, 1) := by decide +kernel
theorem dX12_settle_16 : decode cX12_settle 16 = .ok (.iload_n 2, 1) := by decide +kernel
theorem dX12_settle_17 : decode cX12_settle 17 = .ok (.invokevirtual 260, 3) := by decide +kernel
theorem dX12_settle_20 : decode cX12_settle 20 = .ok (.aload_n 0, 1) := by decide +kernel
theorem dX12_settle_21 : decode cX12_settle 21 = .ok (.getfield 45, 3) := by decide +kernel
theorem dX12_settle_24 : decode cX12_settle 24 = .ok (.iload_n 2, 1) := by decide +kernel
theorem dX12_settle_25 : decode cX12_settle 25 = .ok (.laload, 1) := by decide +kernel
theorem dX12_settle_26 : decode cX12_settle 26 = .ok (.lcmp, 1) := by decide +kernel
theorem dX12_settle_27 : decode cX12_settle 27 = .ok (.ifCond .ge 9, 3) := by decide +kernel
theorem dX12_settle_30 : decode cX12_settle 30 = .ok (.iconst 1, 1) := by decide +kernel
theorem dX12_settle_31 : decode cX12_settle 31 = .ok (.iload_n 2, 1) := by decide +kernel
theorem dX12_settle_32 : decode cX12_settle 32 = .ok (.ishl, 1) := by decide +kernel
theorem dX12_settle_33 : decode cX12_settle 33 = .ok (.goto 4, 3) := by decide +kernel
theorem dX12_settle_36 : decode cX12_settle 36 = .ok (.iconst 0, 1) := by decide +kernel
theorem dX12_settle_37 : decode cX12_settle 37 = .ok (.ior, 1) := by decide +kernel
theorem dX12_settle_38 : decode cX12_settle 38 = .ok (.istore_n 1, 1) := by decide +kernel
theorem dX12_settle_39 : decode cX12_settle 39 = .ok (.iinc 2 1, 3) := by decide +kernel
theorem dX12_settle_42 : decode cX12_settle 42 = .ok (.goto (-34), 3) := by decide +kernel
theorem dX12_settle_45 : decode cX12_settle 45 = .ok (.iconst 0, 1) := by decide +kernel
theorem dX12_settle_46 : decode cX12_settle 46 = .ok (.istore_n 2, 1) := by decide +kernel
theorem dX12_settle_47 : decode cX12_settle 47 = .ok (.iload_n 2, 1) := by decide +kernel
theorem dX12_settle_48 : decode cX12_settle 48 = .ok (.bipush 20, 2) := by decide +kernel
theorem dX12_settle_50 : decode cX12_settle 50 = .ok (.if_icmp .ge 103, 3) := by decide +kernel
theorem dX12_settle_53 : decode cX12_settle 53 = .ok (.aload_n 0, 1) := by decide +kernel
theorem dX12_settle_54 : decode cX12_settle 54 = .ok (.getfield 42, 3) := by decide +kernel
theorem dX12_settle_57 : decode cX12_settle 57 = .ok (.iload_n 2, 1) := by decide +kernel
theorem dX12_settle_58 : decode cX12_settle 58 = .ok (.laload, 1) := by decide +kernel
theorem dX12_settle_59 : decode cX12_settle 59 = .ok (.aload_n 0, 1) := by decide +kernel
theorem dX12_settle_60 : decode cX12_settle 60 = .ok (.iload_n 2, 1) := by decide +kernel
theorem dX12_settle_61 : decode cX12_settle 61 = .ok (.invokevirtual 260, 3) := by decide +kernel
theorem dX12_settle_64 : decode cX12_settle 64 = .ok (.lsub, 1) := by decide +kernel
theorem dX12_settle_65 : decode cX12_settle 65 = .ok (.lstore_n 3, 1) := by decide +kernel
theorem dX12_settle_66 : decode cX12_settle 66 = .ok (.iconst 0, 1) := by decide +kernel
theorem dX12_settle_67 : decode cX12_settle 67 = .ok (.istore 5, 2) := by decide +kernel
theorem dX12_settle_69 : decode cX12_settle 69 = .ok (.iload 5, 2) := by decide +kernel
theorem dX12_settle_71 : decode cX12_settle 71 = .ok (.bipush 20, 2) := by decide +kernel
theorem dX12_settle_73 : decode cX12_settle 73 = .ok (.if_icmp .ge 24, 3) := by decide +kernel
theorem dX12_settle_76 : decode cX12_settle 76 = .ok (.lload_n 3, 1) := by decide +kernel
theorem dX12_settle_77 : decode cX12_settle 77 = .ok (.aload_n 0, 1) := by decide +kernel
theorem dX12_settle_78 : decode cX12_settle 78 = .ok (.getfield 36, 3) := by decide +kernel
theorem dX12_settle_81 : decode cX12_settle 81 = .ok (.bipush 20, 2) := by decide +kernel
theorem dX12_settle_83 : decode cX12_settle 83 = .ok (.iload 5, 2) := by decide +kernel
theorem dX12_settle_85 : decode cX12_settle 85 = .ok (.imul, 1) := by decide +kernel
theorem dX12_settle_86 : decode cX12_settle 86 = .ok (.iload_n 2, 1) := by decide +kernel
theorem dX12_settle_87 : decode cX12_settle 87 = .ok (.iadd, 1) := by decide +kernel
theorem dX12_settle_88 : decode cX12_settle 88 = .ok (.laload, 1) := by decide +kernel
theorem dX12_settle_89 : decode cX12_settle 89 = .ok (.ladd, 1) := by decide +kernel
theorem dX12_settle_90 : decode cX12_settle 90 = .ok (.lstore_n 3, 1) := by decide +kernel
theorem dX12_settle_91 : decode cX12_settle 91 = .ok (.iinc 5 1, 3) := by decide +kernel
theorem dX12_settle_94 : decode cX12_settle 94 = .ok (.goto (-25), 3) := by decide +kernel
theorem dX12_settle_97 : decode cX12_settle 97 = .ok (.iload_n 2, 1) := by decide +kernel
theorem dX12_settle_98 : decode cX12_settle 98 = .ok (.bipush 8, 2) := by decide +kernel
theorem dX12_settle_100 : decode cX12_settle 100 = .ok (.if_icmp .ge 18, 3) := by decide +kernel
theorem dX12_settle_103 : decode cX12_settle 103 = .ok (.aload_n 0, 1) := by decide +kernel
theorem dX12_settle_104 : decode cX12_settle 104 = .ok (.getfield 8, 3) := by decide +kernel
theorem dX12_settle_107 : decode cX12_settle 107 = .ok (.sipush 192, 3) := by decide +kernel
theorem dX12_settle_110 : decode cX12_settle 110 = .ok (.iload_n 2, 1) := by decide +kernel
theorem dX12_settle_111 : decode cX12_settle 111 = .ok (.iadd, 1) := by decide +kernel
theorem dX12_settle_112 : decode cX12_settle 112 = .ok (.lload_n 3, 1) := by decide +kernel
theorem dX12_settle_113 : decode cX12_settle 113 = .ok (.l2i, 1) := by decide +kernel
theorem dX12_settle_114 : decode cX12_settle 114 = .ok (.iastore, 1) := by decide +kernel
theorem dX12_settle_115 : decode cX12_settle 115 = .ok (.goto 32, 3) := by decide +kernel
theorem dX12_settle_118 : decode cX12_settle 118 = .ok (.iload_n 2, 1) := by decide +kernel
theorem dX12_settle_119 : decode cX12_settle 119 = .ok (.bipush 8, 2) := by decide +kernel
theorem dX12_settle_121 : decode cX12_settle 121 = .ok (.isub, 1) := by decide +kernel
theorem dX12_settle_122 : decode cX12_settle 122 = .ok (.aload_n 0, 1) := by decide +kernel
theorem dX12_settle_123 : decode cX12_settle 123 = .ok (.getfield 8, 3) := by decide +kernel
theorem dX12_settle_126 : decode cX12_settle 126 = .ok (.bipush 9, 2) := by decide +kernel
theorem dX12_settle_128 : decode cX12_settle 128 = .ok (.iaload, 1) := by decide +kernel
theorem dX12_settle_129 : decode cX12_settle 129 = .ok (.if_icmp .ge 18, 3) := by decide +kernel
theorem dX12_settle_132 : decode cX12_settle 132 = .ok (.aload_n 0, 1) := by decide +kernel
theorem dX12_settle_133 : decode cX12_settle 133 = .ok (.getfield 8, 3) := by decide +kernel
theorem dX12_settle_136 : decode cX12_settle 136 = .ok (.sipush 11502, 3) := by decide +kernel
theorem dX12_settle_139 : decode cX12_settle 139 = .ok (.iload_n 2, 1) := by decide +kernel
theorem dX12_settle_140 : decode cX12_settle 140 = .ok (.iadd, 1) := by decide +kernel
theorem dX12_settle_141 : decode cX12_settle 141 = .ok (.bipush 8, 2) := by decide +kernel
theorem dX12_settle_143 : decode cX12_settle 143 = .ok (.isub, 1) := by decide +kernel
theorem dX12_settle_144 : decode cX12_settle 144 = .ok (.lload_n 3, 1) := by decide +kernel
theorem dX12_settle_145 : decode cX12_settle 145 = .ok (.l2i, 1) := by decide +kernel
theorem dX12_settle_146 : decode cX12_settle 146 = .ok (.iastore, 1) := by decide +kernel
theorem dX12_settle_147 : decode cX12_settle 147 = .ok (.iinc 2 1, 3) := by decide +kernel
theorem dX12_settle_150 : decode cX12_settle 150 = .ok (.goto (-103), 3) := by decide +kernel
theorem dX12_settle_153 : decode cX12_settle 153 = .ok (.iconst 0, 1) := by decide +kernel
theorem dX12_settle_154 : decode cX12_settle 154 = .ok (.istore_n 2, 1) := by decide +kernel
theorem dX12_settle_155 : decode cX12_settle 155 = .ok (.iload_n 2, 1) := by decide +kernel
theorem dX12_settle_156 : decode cX12_settle 156 = .ok (.aload_n 0, 1) := by decide +kernel
theorem dX12_settle_157 : decode cX12_settle 157 = .ok (.getfield 8, 3) := by decide +kernel
theorem dX12_settle_160 : decode cX12_settle 160 = .ok (.iconst 2, 1) := by decide +kernel
theorem dX12_settle_161 : decode cX12_settle 161 = .ok (.iaload, 1) := by decide +kernel
theorem dX12_settle_162 : decode cX12_settle 162 = .ok (.if_icmp .ge 71, 3) := by decide +kernel
theorem dX12_settle_165 : decode cX12_settle 165 = .ok (.aload_n 0, 1) := by decide +kernel
theorem dX12_settle_166 : decode cX12_settle 166 = .ok (.getfield 8, 3) := by decide +kernel
theorem dX12_settle_169 : decode cX12_settle 169 = .ok (.sipush 370, 3) := by decide +kernel
theorem dX12_settle_172 : decode cX12_settle 172 = .ok (.iload_n 2, 1) := by decide +kernel
theorem dX12_settle_173 : decode cX12_settle 173 = .ok (.iadd, 1) := by decide +kernel
theorem dX12_settle_174 : decode cX12_settle 174 = .ok (.iaload, 1) := by decide +kernel
theorem dX12_settle_175 : decode cX12_settle 175 = .ok (.iconst 4, 1) := by decide +kernel
theorem dX12_settle_176 : decode cX12_settle 176 = .ok (.if_icmp .eq 17, 3) := by decide +kernel
theorem dX12_settle_179 : decode cX12_settle 179 = .ok (.aload_n 0, 1) := by decide +kernel
theorem dX12_settle_180 : decode cX12_settle 180 = .ok (.getfield 8, 3) := by decide +kernel
theorem dX12_settle_183 : decode cX12_settle 183 = .ok (.sipush 370, 3) := by decide +kernel
theorem dX12_settle_186 : decode cX12_settle 186 = .ok (.iload_n 2, 1) := by decide +kernel
theorem dX12_settle_187 : decode cX12_settle 187 = .ok (.iadd, 1) := by decide +kernel
theorem dX12_settle_188 : decode cX12_settle 188 = .ok (.iaload, 1) := by decide +kernel
theorem dX12_settle_189 : decode cX12_settle 189 = .ok (.iconst 5, 1) := by decide +kernel
theorem dX12_settle_190 : decode cX12_settle 190 = .ok (.if_icmp .ne 7, 3) := by decide +kernel
theorem dX12_settle_193 : decode cX12_settle 193 = .ok (.iconst 1, 1) := by decide +kernel
theorem dX12_settle_194 : decode cX12_settle 194 = .ok (.goto 4, 3) := by decide +kernel
theorem dX12_settle_197 : decode cX12_settle 197 = .ok (.iconst 0, 1) := by decide +kernel
theorem dX12_settle_198 : decode cX12_settle 198 = .ok (.istore_n 3, 1) := by decide +kernel
theorem dX12_settle_199 : decode cX12_settle 199 = .ok (.aload_n 0, 1) := by decide +kernel
theorem dX12_settle_200 : decode cX12_settle 200 = .ok (.getfield 8, 3) := by decide +kernel
theorem dX12_settle_203 : decode cX12_settle 203 = .ok (.sipush 790, 3) := by decide +kernel
theorem dX12_settle_206 : decode cX12_settle 206 = .ok (.iload_n 2, 1) := by decide +kernel
theorem dX12_settle_207 : decode cX12_settle 207 = .ok (.iadd, 1) := by decide +kernel
theorem dX12_settle_208 : decode cX12_settle 208 = .ok (.iload_n 3, 1) := by decide +kernel
theorem dX12_settle_209 : decode cX12_settle 209 = .ok (.ifCond .eq 7, 3) := by decide +kernel
theorem dX12_settle_212 : decode cX12_settle 212 = .ok (.iconst 1, 1) := by decide +kernel
theorem dX12_settle_213 : decode cX12_settle 213 = .ok (.goto 13, 3) := by decide +kernel
theorem dX12_settle_216 : decode cX12_settle 216 = .ok (.aload_n 0, 1) := by decide +kernel
theorem dX12_settle_217 : decode cX12_settle 217 = .ok (.getfield 8, 3) := by decide +kernel
theorem dX12_settle_220 : decode cX12_settle 220 = .ok (.sipush 790, 3) := by decide +kernel
theorem dX12_settle_223 : decode cX12_settle 223 = .ok (.iload_n 2, 1) := by decide +kernel
theorem dX12_settle_224 : decode cX12_settle 224 = .ok (.iadd, 1) := by decide +kernel
theorem dX12_settle_225 : decode cX12_settle 225 = .ok (.iaload, 1) := by decide +kernel
theorem dX12_settle_226 : decode cX12_settle 226 = .ok (.iastore, 1) := by decide +kernel
theorem dX12_settle_227 : decode cX12_settle 227 = .ok (.iinc 2 1, 3) := by decide +kernel
theorem dX12_settle_230 : decode cX12_settle 230 = .ok (.goto (-75), 3) := by decide +kernel
theorem dX12_settle_233 : decode cX12_settle 233 = .ok (.iconst 0, 1) := by decide +kernel
theorem dX12_settle_234 : decode cX12_settle 234 = .ok (.istore_n 2, 1) := by decide +kernel
theorem dX12_settle_235 : decode cX12_settle 235 = .ok (.iload_n 2, 1) := by decide +kernel
theorem dX12_settle_236 : decode cX12_settle 236 = .ok (.aload_n 0, 1) := by decide +kernel
theorem dX12_settle_237 : decode cX12_settle 237 = .ok (.getfield 8, 3) := by decide +kernel
theorem dX12_settle_240 : decode cX12_settle 240 = .ok (.bipush 9, 2) := by decide +kernel
theorem dX12_settle_242 : decode cX12_settle 242 = .ok (.iaload, 1) := by decide +kernel
theorem dX12_settle_243 : decode cX12_settle 243 = .ok (.if_icmp .ge 133, 3) := by decide +kernel
theorem dX12_settle_246 : decode cX12_settle 246 = .ok (.iconst 0, 1) := by decide +kernel
theorem dX12_settle_247 : decode cX12_settle 247 = .ok (.istore_n 3, 1) := by decide +kernel
theorem dX12_settle_248 : decode cX12_settle 248 = .ok (.iload_n 3, 1) := by decide +kernel
theorem dX12_settle_249 : decode cX12_settle 249 = .ok (.bipush 8, 2) := by decide +kernel
theorem dX12_settle_251 : decode cX12_settle 251 = .ok (.if_icmp .ge 87, 3) := by decide +kernel
theorem dX12_settle_254 : decode cX12_settle 254 = .ok (.iload_n 1, 1) := by decide +kernel
theorem dX12_settle_255 : decode cX12_settle 255 = .ok (.iload_n 3, 1) := by decide +kernel
theorem dX12_settle_256 : decode cX12_settle 256 = .ok (.ishr, 1) := by decide +kernel
theorem dX12_settle_257 : decode cX12_settle 257 = .ok (.iconst 1, 1) := by decide +kernel
theorem dX12_settle_258 : decode cX12_settle 258 = .ok (.iand, 1) := by decide +kernel
theorem dX12_settle_259 : decode cX12_settle 259 = .ok (.iconst 1, 1) := by decide +kernel
theorem dX12_settle_260 : decode cX12_settle 260 = .ok (.if_icmp .ne 72, 3) := by decide +kernel
theorem dX12_settle_263 : decode cX12_settle 263 = .ok (.aload_n 0, 1) := by decide +kernel
theorem dX12_settle_264 : decode cX12_settle 264 = .ok (.getfield 32, 3) := by decide +kernel
theorem dX12_settle_267 : decode cX12_settle 267 = .ok (.bipush 20, 2) := by decide +kernel
theorem dX12_settle_269 : decode cX12_settle 269 = .ok (.iload_n 3, 1) := by decide +kernel
theorem dX12_settle_270 : decode cX12_settle 270 = .ok (.imul, 1) := by decide +kernel
theorem dX12_settle_271 : decode cX12_settle 271 = .ok (.bipush 8, 2) := by decide +kernel
theorem dX12_settle_273 : decode cX12_settle 273 = .ok (.iadd, 1) := by decide +kernel
theorem dX12_settle_274 : decode cX12_settle 274 = .ok (.iload_n 2, 1) := by decide +kernel
theorem dX12_settle_275 : decode cX12_settle 275 = .ok (.iadd, 1) := by decide +kernel
theorem dX12_settle_276 : decode cX12_settle 276 = .ok (.laload, 1) := by decide +kernel
theorem dX12_settle_277 : decode cX12_settle 277 = .ok (.lconst 0, 1) := by decide +kernel
theorem dX12_settle_278 : decode cX12_settle 278 = .ok (.lcmp, 1) := by decide +kernel
theorem dX12_settle_279 : decode cX12_settle 279 = .ok (.ifCond .le 53, 3) := by decide +kernel
theorem dX12_settle_282 : decode cX12_settle 282 = .ok (.aload_n 0, 1) := by decide +kernel
theorem dX12_settle_283 : decode cX12_settle 283 = .ok (.getfield 8, 3) := by decide +kernel
theorem dX12_settle_286 : decode cX12_settle 286 = .ok (.sipush 11530, 3) := by decide +kernel
theorem dX12_settle_289 : decode cX12_settle 289 = .ok (.bipush 9, 2) := by decide +kernel
theorem dX12_settle_291 : decode cX12_settle 291 = .ok (.iload_n 2, 1) := by decide +kernel
theorem dX12_settle_292 : decode cX12_settle 292 = .ok (.imul, 1) := by decide +kernel
theorem dX12_settle_293 : decode cX12_settle 293 = .ok (.iadd, 1) := by decide +kernel
theorem dX12_settle_294 : decode cX12_settle 294 = .ok (.bipush 8, 2) := by decide +kernel
theorem dX12_settle_296 : decode cX12_settle 296 = .ok (.iadd, 1) := by decide +kernel
theorem dX12_settle_297 : decode cX12_settle 297 = .ok (.dup2, 1) := by decide +kernel
theorem dX12_settle_298 : decode cX12_settle 298 = .ok (.iaload, 1) := by decide +kernel
theorem dX12_settle_299 : decode cX12_settle 299 = .ok (.aload_n 0, 1) := by decide +kernel
theorem dX12_settle_300 : decode cX12_settle 300 = .ok (.getfield 8, 3) := by decide +kernel
theorem dX12_settle_303 : decode cX12_settle 303 = .ok (.sipush 11530, 3) := by decide +kernel
theorem dX12_settle_306 : decode cX12_settle 306 = .ok (.bipush 9, 2) := by decide +kernel
theorem dX12_settle_308 : decode cX12_settle 308 = .ok (.iload_n 2, 1) := by decide +kernel
theorem dX12_settle_309 : decode cX12_settle 309 = .ok (.imul, 1) := by decide +kernel
theorem dX12_settle_310 : decode cX12_settle 310 = .ok (.iadd, 1) := by decide +kernel
theorem dX12_settle_311 : decode cX12_settle 311 = .ok (.iload_n 3, 1) := by decide +kernel
theorem dX12_settle_312 : decode cX12_settle 312 = .ok (.iadd, 1) := by decide +kernel
theorem dX12_settle_313 : decode cX12_settle 313 = .ok (.iaload, 1) := by decide +kernel
theorem dX12_settle_314 : decode cX12_settle 314 = .ok (.iadd, 1) := by decide +kernel
theorem dX12_settle_315 : decode cX12_settle 315 = .ok (.iastore, 1) := by decide +kernel
theorem dX12_settle_316 : decode cX12_settle 316 = .ok (.aload_n 0, 1) := by decide +kernel
theorem dX12_settle_317 : decode cX12_settle 317 = .ok (.getfield 8, 3) := by decide +kernel
theorem dX12_settle_320 : decode cX12_settle 320 = .ok (.sipush 11530, 3) := by decide +kernel
theorem dX12_settle_323 : decode cX12_settle 323 = .ok (.bipush 9, 2) := by decide +kernel
theorem dX12_settle_325 : decode cX12_settle 325 = .ok (.iload_n 2, 1) := by decide +kernel
theorem dX12_settle_326 : decode cX12_settle 326 = .ok (.imul, 1) := by decide +kernel
theorem dX12_settle_327 : decode cX12_settle 327 = .ok (.iadd, 1) := by decide +kernel
theorem dX12_settle_328 : decode cX12_settle 328 = .ok (.iload_n 3, 1) := by decide +kernel
theorem dX12_settle_329 : decode cX12_settle 329 = .ok (.iadd, 1) := by decide +kernel
theorem dX12_settle_330 : decode cX12_settle 330 = .ok (.iconst 0, 1) := by decide +kernel
theorem dX12_settle_331 : decode cX12_settle 331 = .ok (.iastore, 1) := by decide +kernel
theorem dX12_settle_332 : decode cX12_settle 332 = .ok (.iinc 3 1, 3) := by decide +kernel
theorem dX12_settle_335 : decode cX12_settle 335 = .ok (.goto (-87), 3) := by decide +kernel
theorem dX12_settle_338 : decode cX12_settle 338 = .ok (.iload_n 1, 1) := by decide +kernel
theorem dX12_settle_339 : decode cX12_settle 339 = .ok (.bipush 8, 2) := by decide +kernel
theorem dX12_settle_341 : decode cX12_settle 341 = .ok (.iload_n 2, 1) := by decide +kernel
theorem dX12_settle_342 : decode cX12_settle 342 = .ok (.iadd, 1) := by decide +kernel
theorem dX12_settle_343 : decode cX12_settle 343 = .ok (.ishr, 1) := by decide +kernel
theorem dX12_settle_344 : decode cX12_settle 344 = .ok (.iconst 1, 1) := by decide +kernel
theorem dX12_settle_345 : decode cX12_settle 345 = .ok (.iand, 1) := by decide +kernel
theorem dX12_settle_346 : decode cX12_settle 346 = .ok (.iconst 1, 1) := by decide +kernel
theorem dX12_settle_347 : decode cX12_settle 347 = .ok (.if_icmp .ne 23, 3) := by decide +kernel
theorem dX12_settle_350 : decode cX12_settle 350 = .ok (.aload_n 0, 1) := by decide +kernel
theorem dX12_settle_351 : decode cX12_settle 351 = .ok (.getfield 8, 3) := by decide +kernel
theorem dX12_settle_354 : decode cX12_settle 354 = .ok (.sipush 790, 3) := by decide +kernel
theorem dX12_settle_357 : decode cX12_settle 357 = .ok (.aload_n 0, 1) := by decide +kernel
theorem dX12_settle_358 : decode cX12_settle 358 = .ok (.getfield 8, 3) := by decide +kernel
theorem dX12_settle_361 : decode cX12_settle 361 = .ok (.sipush 11490, 3) := by decide +kernel
theorem dX12_settle_364 : decode cX12_settle 364 = .ok (.iload_n 2, 1) := by decide +kernel
theorem dX12_settle_365 : decode cX12_settle 365 = .ok (.iadd, 1) := by decide +kernel
theorem dX12_settle_366 : decode cX12_settle 366 = .ok (.iaload, 1) := by decide +kernel
theorem dX12_settle_367 : decode cX12_settle 367 = .ok (.iadd, 1) := by decide +kernel
theorem dX12_settle_368 : decode cX12_settle 368 = .ok (.iconst 1, 1) := by decide +kernel
theorem dX12_settle_369 : decode cX12_settle 369 = .ok (.iastore, 1) := by decide +kernel
theorem dX12_settle_370 : decode cX12_settle 370 = .ok (.iinc 2 1, 3) := by decide +kernel
theorem dX12_settle_373 : decode cX12_settle 373 = .ok (.goto (-138), 3) := by decide +kernel
theorem dX12_settle_376 : decode cX12_settle 376 = .ok (.iload_n 1, 1) := by decide +kernel
theorem dX12_settle_377 : decode cX12_settle 377 = .ok (.ireturn, 1) := by decide +kernel
theorem dX12_schemeOf_0 : decode cX12_schemeOf 0 = .ok (.aload_n 0, 1) := by decide +kernel
theorem dX12_schemeOf_1 : decode cX12_schemeOf 1 = .ok (.getfield 8, 3) := by decide +kernel
theorem dX12_schemeOf_4 : decode cX12_schemeOf 4 = .ok (.sipush 430, 3) := by decide +kernel
theorem dX12_schemeOf_7 : decode cX12_schemeOf 7 = .ok (.aload_n 0, 1) := by decide +kernel
theorem dX12_schemeOf_8 : decode cX12_schemeOf 8 = .ok (.getfield 8, 3) := by decide +kernel
theorem dX12_schemeOf_11 : decode cX12_schemeOf 11 = .ok (.sipush 430, 3) := by decide +kernel
theorem dX12_schemeOf_14 : decode cX12_schemeOf 14 = .ok (.iload_n 1, 1) := by decide +kernel
theorem dX12_schemeOf_15 : decode cX12_schemeOf 15 = .ok (.iadd, 1) := by decide +kernel
theorem dX12_schemeOf_16 : decode cX12_schemeOf 16 = .ok (.iaload, 1) := by decide +kernel
theorem dX12_schemeOf_17 : decode cX12_schemeOf 17 = .ok (.iadd, 1) := by decide +kernel
theorem dX12_schemeOf_18 : decode cX12_schemeOf 18 = .ok (.iaload, 1) := by decide +kernel
theorem dX12_schemeOf_19 : decode cX12_schemeOf 19 = .ok (.ireturn, 1) := by decide +kernel
theorem dX12_digs_0 : decode cX12_digs 0 = .ok (.aload_n 0, 1) := by decide +kernel
theorem dX12_digs_1 : decode cX12_digs 1 = .ok (.getfield 8, 3) := by decide +kernel
theorem dX12_digs_4 : decode cX12_digs 4 = .ok (.iconst 0, 1) := by decide +kernel
theorem dX12_digs_5 : decode cX12_digs 5 = .ok (.iaload, 1) := by decide +kernel
theorem dX12_digs_6 : decode cX12_digs 6 = .ok (.istore_n 1, 1) := by decide +kernel
theorem dX12_digs_7 : decode cX12_digs 7 = .ok (.iconst 3, 1) := by decide +kernel
theorem dX12_digs_8 : decode cX12_digs 8 = .ok (.aload_n 0, 1) := by decide +kernel
theorem dX12_digs_9 : decode cX12_digs 9 = .ok (.getfield 8, 3) := by decide +kernel
theorem dX12_digs_12 : decode cX12_digs 12 = .ok (.iconst 5, 1) := by decide +kernel
theorem dX12_digs_13 : decode cX12_digs 13 = .ok (.iaload, 1) := by decide +kernel
theorem dX12_digs_14 : decode cX12_digs 14 = .ok (.imul, 1) := by decide +kernel
theorem dX12_digs_15 : decode cX12_digs 15 = .ok (.istore_n 2, 1) := by decide +kernel
theorem dX12_digs_16 : decode cX12_digs 16 = .ok (.iconst 0, 1) := by decide +kernel
theorem dX12_digs_17 : decode cX12_digs 17 = .ok (.istore_n 3, 1) := by decide +kernel
theorem dX12_digs_18 : decode cX12_digs 18 = .ok (.iload_n 3, 1) := by decide +kernel
theorem dX12_digs_19 : decode cX12_digs 19 = .ok (.aload_n 0, 1) := by decide +kernel
theorem dX12_digs_20 : decode cX12_digs 20 = .ok (.getfield 8, 3) := by decide +kernel
theorem dX12_digs_23 : decode cX12_digs 23 = .ok (.iconst 2, 1) := by decide +kernel
theorem dX12_digs_24 : decode cX12_digs 24 = .ok (.iaload, 1) := by decide +kernel
theorem dX12_digs_25 : decode cX12_digs 25 = .ok (.if_icmp .ge 188, 3) := by decide +kernel
theorem dX12_digs_28 : decode cX12_digs 28 = .ok (.aload_n 0, 1) := by decide +kernel
theorem dX12_digs_29 : decode cX12_digs 29 = .ok (.iload_n 3, 1) := by decide +kernel
theorem dX12_digs_30 : decode cX12_digs 30 = .ok (.invokevirtual 219, 3) := by decide +kernel
theorem dX12_digs_33 : decode cX12_digs 33 = .ok (.ifCond .eq 174, 3) := by decide +kernel
theorem dX12_digs_36 : decode cX12_digs 36 = .ok (.aload_n 0, 1) := by decide +kernel
theorem dX12_digs_37 : decode cX12_digs 37 = .ok (.getfield 8, 3) := by decide +kernel
theorem dX12_digs_40 : decode cX12_digs 40 = .ok (.sipush 970, 3) := by decide +kernel
theorem dX12_digs_43 : decode cX12_digs 43 = .ok (.iload_n 3, 1) := by decide +kernel
theorem dX12_digs_44 : decode cX12_digs 44 = .ok (.iadd, 1) := by decide +kernel
theorem dX12_digs_45 : decode cX12_digs 45 = .ok (.iaload, 1) := by decide +kernel
theorem dX12_digs_46 : decode cX12_digs 46 = .ok (.ifCond .le 161, 3) := by decide +kernel
theorem dX12_digs_49 : decode cX12_digs 49 = .ok (.aload_n 0, 1) := by decide +kernel
theorem dX12_digs_50 : decode cX12_digs 50 = .ok (.aload_n 0, 1) := by decide +kernel
theorem dX12_digs_51 : decode cX12_digs 51 = .ok (.iload_n 3, 1) := by decide +kernel
theorem dX12_digs_52 : decode cX12_digs 52 = .ok (.invokevirtual 263, 3) := by decide +kernel
theorem dX12_digs_55 : decode cX12_digs 55 = .ok (.invokevirtual 244, 3) := by decide +kernel
theorem dX12_digs_58 : decode cX12_digs 58 = .ok (.ifCond .ne 149, 3) := by decide +kernel
theorem dX12_digs_61 : decode cX12_digs 61 = .ok (.sipush 11502, 3) := by decide +kernel
theorem dX12_digs_64 : decode cX12_digs 64 = .ok (.aload_n 0, 1) := by decide +kernel
theorem dX12_digs_65 : decode cX12_digs 65 = .ok (.aload_n 0, 1) := by decide +kernel
theorem dX12_digs_66 : decode cX12_digs 66 = .ok (.iload_n 3, 1) := by decide +kernel
theorem dX12_digs_67 : decode cX12_digs 67 = .ok (.invokevirtual 263, 3) := by decide +kernel
theorem dX12_digs_70 : decode cX12_digs 70 = .ok (.invokevirtual 238, 3) := by decide +kernel
theorem dX12_digs_73 : decode cX12_digs 73 = .ok (.iadd, 1) := by decide +kernel
theorem dX12_digs_74 : decode cX12_digs 74 = .ok (.istore 4, 2) := by decide +kernel
theorem dX12_digs_76 : decode cX12_digs 76 = .ok (.aload_n 0, 1) := by decide +kernel
theorem dX12_digs_77 : decode cX12_digs 77 = .ok (.getfield 8, 3) := by decide +kernel
theorem dX12_digs_80 : decode cX12_digs 80 = .ok (.sipush 970, 3) := by decide +kernel
theorem dX12_digs_83 : decode cX12_digs 83 = .ok (.iload_n 3, 1) := by decide +kernel
theorem dX12_digs_84 : decode cX12_digs 84 = .ok (.iadd, 1) := by decide +kernel
theorem dX12_digs_85 : decode cX12_digs 85 = .ok (.iaload, 1) := by decide +kernel
theorem dX12_digs_86 : decode cX12_digs 86 = .ok (.iload_n 2, 1) := by decide +kernel
theorem dX12_digs_87 : decode cX12_digs 87 = .ok (.if_icmp .ge 16, 3) := by decide +kernel
theorem dX12_digs_90 : decode cX12_digs 90 = .ok (.aload_n 0, 1) := by decide +kernel
theorem dX12_digs_91 : decode cX12_digs 91 = .ok (.getfield 8, 3) := by decide +kernel
theorem dX12_digs_94 : decode cX12_digs 94 = .ok (.sipush 970, 3) := by decide +kernel
theorem dX12_digs_97 : decode cX12_digs 97 = .ok (.iload_n 3, 1) := by decide +kernel
theorem dX12_digs_98 : decode cX12_digs 98 = .ok (.iadd, 1) := by decide +kernel
theorem dX12_digs_99 : decode cX12_digs 99 = .ok (.iaload, 1) := by decide +kernel
theorem dX12_digs_100 : decode cX12_digs 100 = .ok (.goto 4, 3) := by decide +kernel
theorem dX12_digs_103 : decode cX12_digs 103 = .ok (.iload_n 2, 1) := by decide +kernel
theorem dX12_digs_104 : decode cX12_digs 104 = .ok (.istore 5, 2) := by decide +kernel
theorem dX12_digs_106 : decode cX12_digs 106 = .ok (.aload_n 0, 1) := by decide +kernel
theorem dX12_digs_107 : decode cX12_digs 107 = .ok (.getfield 8, 3) := by decide +kernel
theorem dX12_digs_110 : decode cX12_digs 110 = .ok (.iload 4, 2) := by decide +kernel
theorem dX12_digs_112 : decode cX12_digs 112 = .ok (.iaload, 1) := by decide +kernel
theorem dX12_digs_113 : decode cX12_digs 113 = .ok (.iconst 2, 1) := by decide +kernel
theorem dX12_digs_114 : decode cX12_digs 114 = .ok (.idiv, 1) := by decide +kernel
theorem dX12_digs_115 : decode cX12_digs 115 = .ok (.iload 5, 2) := by decide +kernel
theorem dX12_digs_117 : decode cX12_digs 117 = .ok (.if_icmp .ge 15, 3) := by decide +kernel
theorem dX12_digs_120 : decode cX12_digs 120 = .ok (.aload_n 0, 1) := by decide +kernel
theorem dX12_digs_121 : decode cX12_digs 121 = .ok (.getfield 8, 3) := by decide +kernel
theorem dX12_digs_124 : decode cX12_digs 124 = .ok (.iload 4, 2) := by decide +kernel
theorem dX12_digs_126 : decode cX12_digs 126 = .ok (.iaload, 1) := by decide +kernel
theorem dX12_digs_127 : decode cX12_digs 127 = .ok (.iconst 2, 1) := by decide +kernel
theorem dX12_digs_128 : decode cX12_digs 128 = .ok (.idiv, 1) := by decide +kernel
theorem dX12_digs_129 : decode cX12_digs 129 = .ok (.goto 5, 3) := by decide +kernel
theorem dX12_digs_132 : decode cX12_digs 132 = .ok (.iload 5, 2) := by decide +kernel
theorem dX12_digs_134 : decode cX12_digs 134 = .ok (.istore 5, 2) := by decide +kernel
theorem dX12_digs_136 : decode cX12_digs 136 = .ok (.iload_n 2, 1) := by decide +kernel
theorem dX12_digs_137 : decode cX12_digs 137 = .ok (.iload 5, 2) := by decide +kernel
theorem dX12_digs_139 : decode cX12_digs 139 = .ok (.isub, 1) := by decide +kernel
theorem dX12_digs_140 : decode cX12_digs 140 = .ok (.istore_n 2, 1) := by decide +kernel
theorem dX12_digs_141 : decode cX12_digs 141 = .ok (.aload_n 0, 1) := by decide +kernel
theorem dX12_digs_142 : decode cX12_digs 142 = .ok (.getfield 8, 3) := by decide +kernel
theorem dX12_digs_145 : decode cX12_digs 145 = .ok (.iload 4, 2) := by decide +kernel
theorem dX12_digs_147 : decode cX12_digs 147 = .ok (.dup2, 1) := by decide +kernel
theorem dX12_digs_148 : decode cX12_digs 148 = .ok (.iaload, 1) := by decide +kernel
theorem dX12_digs_149 : decode cX12_digs 149 = .ok (.iconst 2, 1) := by decide +kernel
theorem dX12_digs_150 : decode cX12_digs 150 = .ok (.iload 5, 2) := by decide +kernel
theorem dX12_digs_152 : decode cX12_digs 152 = .ok (.imul, 1) := by decide +kernel
theorem dX12_digs_153 : decode cX12_digs 153 = .ok (.isub, 1) := by decide +kernel
theorem dX12_digs_154 : decode cX12_digs 154 = .ok (.iastore, 1) := by decide +kernel
theorem dX12_digs_155 : decode cX12_digs 155 = .ok (.aload_n 0, 1) := by decide +kernel
theorem dX12_digs_156 : decode cX12_digs 156 = .ok (.getfield 8, 3) := by decide +kernel
theorem dX12_digs_159 : decode cX12_digs 159 = .ok (.sipush 970, 3) := by decide +kernel
theorem dX12_digs_162 : decode cX12_digs 162 = .ok (.iload_n 3, 1) := by decide +kernel
theorem dX12_digs_163 : decode cX12_digs 163 = .ok (.iadd, 1) := by decide +kernel
theorem dX12_digs_164 : decode cX12_digs 164 = .ok (.dup2, 1) := by decide +kernel
theorem dX12_digs_165 : decode cX12_digs 165 = .ok (.iaload, 1) := by decide +kernel
theorem dX12_digs_166 : decode cX12_digs 166 = .ok (.iload 5, 2) := by decide +kernel
theorem dX12_digs_168 : decode cX12_digs 168 = .ok (.isub, 1) := by decide +kernel
theorem dX12_digs_169 : decode cX12_digs 169 = .ok (.iastore, 1) := by decide +kernel
theorem dX12_digs_170 : decode cX12_digs 170 = .ok (.aload_n 0, 1) := by decide +kernel
theorem dX12_digs_171 : decode cX12_digs 171 = .ok (.getfield 8, 3) := by decide +kernel
theorem dX12_digs_174 : decode cX12_digs 174 = .ok (.sipush 1030, 3) := by decide +kernel
theorem dX12_digs_177 : decode cX12_digs 177 = .ok (.iload_n 3, 1) := by decide +kernel
theorem dX12_digs_178 : decode cX12_digs 178 = .ok (.iadd, 1) := by decide +kernel
theorem dX12_digs_179 : decode cX12_digs 179 = .ok (.aload_n 0, 1) := by decide +kernel
theorem dX12_digs_180 : decode cX12_digs 180 = .ok (.getfield 8, 3) := by decide +kernel
theorem dX12_digs_183 : decode cX12_digs 183 = .ok (.sipush 970, 3) := by decide +kernel
theorem dX12_digs_186 : decode cX12_digs 186 = .ok (.iload_n 3, 1) := by decide +kernel
theorem dX12_digs_187 : decode cX12_digs 187 = .ok (.iadd, 1) := by decide +kernel
theorem dX12_digs_188 : decode cX12_digs 188 = .ok (.iaload, 1) := by decide +kernel
theorem dX12_digs_189 : decode cX12_digs 189 = .ok (.ifCond .ne 7, 3) := by decide +kernel
theorem dX12_digs_192 : decode cX12_digs 192 = .ok (.iload_n 1, 1) := by decide +kernel
theorem dX12_digs_193 : decode cX12_digs 193 = .ok (.goto 13, 3) := by decide +kernel
theorem dX12_digs_196 : decode cX12_digs 196 = .ok (.aload_n 0, 1) := by decide +kernel
theorem dX12_digs_197 : decode cX12_digs 197 = .ok (.getfield 8, 3) := by decide +kernel
theorem dX12_digs_200 : decode cX12_digs 200 = .ok (.sipush 1030, 3) := by decide +kernel
theorem dX12_digs_203 : decode cX12_digs 203 = .ok (.iload_n 3, 1) := by decide +kernel
theorem dX12_digs_204 : decode cX12_digs 204 = .ok (.iadd, 1) := by decide +kernel
theorem dX12_digs_205 : decode cX12_digs 205 = .ok (.iaload, 1) := by decide +kernel
theorem dX12_digs_206 : decode cX12_digs 206 = .ok (.iastore, 1) := by decide +kernel
theorem dX12_digs_207 : decode cX12_digs 207 = .ok (.iinc 3 1, 3) := by decide +kernel
theorem dX12_digs_210 : decode cX12_digs 210 = .ok (.goto (-192), 3) := by decide +kernel
theorem dX12_digs_213 : decode cX12_digs 213 = .ok (.iconst 0, 1) := by decide +kernel
theorem dX12_digs_214 : decode cX12_digs 214 = .ok (.istore_n 3, 1) := by decide +kernel
theorem dX12_digs_215 : decode cX12_digs 215 = .ok (.iload_n 3, 1) := by decide +kernel
theorem dX12_digs_216 : decode cX12_digs 216 = .ok (.bipush 12, 2) := by decide +kernel
theorem dX12_digs_218 : decode cX12_digs 218 = .ok (.if_icmp .ge 50, 3) := by decide +kernel
theorem dX12_digs_221 : decode cX12_digs 221 = .ok (.aload_n 0, 1) := by decide +kernel
theorem dX12_digs_222 : decode cX12_digs 222 = .ok (.getfield 8, 3) := by decide +kernel
theorem dX12_digs_225 : decode cX12_digs 225 = .ok (.sipush 11840, 3) := by decide +kernel
theorem dX12_digs_228 : decode cX12_digs 228 = .ok (.sipush 1000, 3) := by decide +kernel
theorem dX12_digs_231 : decode cX12_digs 231 = .ok (.iload_n 3, 1) := by decide +kernel
theorem dX12_digs_232 : decode cX12_digs 232 = .ok (.imul, 1) := by decide +kernel
theorem dX12_digs_233 : decode cX12_digs 233 = .ok (.iadd, 1) := by decide +kernel
theorem dX12_digs_234 : decode cX12_digs 234 = .ok (.iload_n 1, 1) := by decide +kernel
theorem dX12_digs_235 : decode cX12_digs 235 = .ok (.iadd, 1) := by decide +kernel
theorem dX12_digs_236 : decode cX12_digs 236 = .ok (.iload_n 3, 1) := by decide +kernel
theorem dX12_digs_237 : decode cX12_digs 237 = .ok (.aload_n 0, 1) := by decide +kernel
theorem dX12_digs_238 : decode cX12_digs 238 = .ok (.getfield 8, 3) := by decide +kernel
theorem dX12_digs_241 : decode cX12_digs 241 = .ok (.bipush 9, 2) := by decide +kernel
theorem dX12_digs_243 : decode cX12_digs 243 = .ok (.iaload, 1) := by decide +kernel
theorem dX12_digs_244 : decode cX12_digs 244 = .ok (.if_icmp .ge 16, 3) := by decide +kernel
theorem dX12_digs_247 : decode cX12_digs 247 = .ok (.aload_n 0, 1) := by decide +kernel
theorem dX12_digs_248 : decode cX12_digs 248 = .ok (.getfield 8, 3) := by decide +kernel
theorem dX12_digs_251 : decode cX12_digs 251 = .ok (.sipush 11502, 3) := by decide +kernel
theorem dX12_digs_254 : decode cX12_digs 254 = .ok (.iload_n 3, 1) := by decide +kernel
theorem dX12_digs_255 : decode cX12_digs 255 = .ok (.iadd, 1) := by decide +kernel
theorem dX12_digs_256 : decode cX12_digs 256 = .ok (.iaload, 1) := by decide +kernel
theorem dX12_digs_257 : decode cX12_digs 257 = .ok (.goto 4, 3) := by decide +kernel
theorem dX12_digs_260 : decode cX12_digs 260 = .ok (.iconst (-1), 1) := by decide +kernel
theorem dX12_digs_261 : decode cX12_digs 261 = .ok (.iastore, 1) := by decide +kernel
theorem dX12_digs_262 : decode cX12_digs 262 = .ok (.iinc 3 1, 3) := by decide +kernel
theorem dX12_digs_265 : decode cX12_digs 265 = .ok (.goto (-50), 3) := by decide +kernel
theorem dX12_digs_268 : decode cX12_digs 268 = .ok (.iconst 0, 1) := by decide +kernel
theorem dX12_digs_269 : decode cX12_digs 269 = .ok (.istore_n 3, 1) := by decide +kernel
theorem dX12_digs_270 : decode cX12_digs 270 = .ok (.iload_n 3, 1) := by decide +kernel
theorem dX12_digs_271 : decode cX12_digs 271 = .ok (.bipush 60, 2) := by decide +kernel
theorem dX12_digs_273 : decode cX12_digs 273 = .ok (.if_icmp .ge 57, 3) := by decide +kernel
theorem dX12_digs_276 : decode cX12_digs 276 = .ok (.aload_n 0, 1) := by decide +kernel
theorem dX12_digs_277 : decode cX12_digs 277 = .ok (.getfield 8, 3) := by decide +kernel
theorem dX12_digs_280 : decode cX12_digs 280 = .ok (.sipush 23840, 3) := by decide +kernel
theorem dX12_digs_283 : decode cX12_digs 283 = .ok (.sipush 1000, 3) := by decide +kernel
theorem dX12_digs_286 : decode cX12_digs 286 = .ok (.iload_n 3, 1) := by decide +kernel
theorem dX12_digs_287 : decode cX12_digs 287 = .ok (.imul, 1) := by decide +kernel
theorem dX12_digs_288 : decode cX12_digs 288 = .ok (.iadd, 1) := by decide +kernel
theorem dX12_digs_289 : decode cX12_digs 289 = .ok (.iload_n 1, 1) := by decide +kernel
theorem dX12_digs_290 : decode cX12_digs 290 = .ok (.iadd, 1) := by decide +kernel
theorem dX12_digs_291 : decode cX12_digs 291 = .ok (.iload_n 3, 1) := by decide +kernel
theorem dX12_digs_292 : decode cX12_digs 292 = .ok (.aload_n 0, 1) := by decide +kernel
theorem dX12_digs_293 : decode cX12_digs 293 = .ok (.getfield 8, 3) := by decide +kernel
theorem dX12_digs_296 : decode cX12_digs 296 = .ok (.iconst 2, 1) := by decide +kernel
theorem dX12_digs_297 : decode cX12_digs 297 = .ok (.iaload, 1) := by decide +kernel
theorem dX12_digs_298 : decode cX12_digs 298 = .ok (.if_icmp .ge 24, 3) := by decide +kernel
theorem dX12_digs_301 : decode cX12_digs 301 = .ok (.aload_n 0, 1) := by decide +kernel
theorem dX12_digs_302 : decode cX12_digs 302 = .ok (.iload_n 3, 1) := by decide +kernel
theorem dX12_digs_303 : decode cX12_digs 303 = .ok (.invokevirtual 219, 3) := by decide +kernel
theorem dX12_digs_306 : decode cX12_digs 306 = .ok (.ifCond .eq 16, 3) := by decide +kernel
theorem dX12_digs_309 : decode cX12_digs 309 = .ok (.aload_n 0, 1) := by decide +kernel
theorem dX12_digs_310 : decode cX12_digs 310 = .ok (.getfield 8, 3) := by decide +kernel
theorem dX12_digs_313 : decode cX12_digs 313 = .ok (.sipush 970, 3) := by decide +kernel
theorem dX12_digs_316 : decode cX12_digs 316 = .ok (.iload_n 3, 1) := by decide +kernel
theorem dX12_digs_317 : decode cX12_digs 317 = .ok (.iadd, 1) := by decide +kernel
theorem dX12_digs_318 : decode cX12_digs 318 = .ok (.iaload, 1) := by decide +kernel
theorem dX12_digs_319 : decode cX12_digs 319 = .ok (.goto 4, 3) := by decide +kernel
theorem dX12_digs_322 : decode cX12_digs 322 = .ok (.iconst (-1), 1) := by decide +kernel
theorem dX12_digs_323 : decode cX12_digs 323 = .ok (.iastore, 1) := by decide +kernel
theorem dX12_digs_324 : decode cX12_digs 324 = .ok (.iinc 3 1, 3) := by decide +kernel
theorem dX12_digs_327 : decode cX12_digs 327 = .ok (.goto (-57), 3) := by decide +kernel
theorem dX12_digs_330 : decode cX12_digs 330 = .ok (.aload_n 0, 1) := by decide +kernel
theorem dX12_digs_331 : decode cX12_digs 331 = .ok (.getfield 8, 3) := by decide +kernel
theorem dX12_digs_334 : decode cX12_digs 334 = .ok (.iconst 0, 1) := by decide +kernel
theorem dX12_digs_335 : decode cX12_digs 335 = .ok (.dup2, 1) := by decide +kernel
theorem dX12_digs_336 : decode cX12_digs 336 = .ok (.iaload, 1) := by decide +kernel
theorem dX12_digs_337 : decode cX12_digs 337 = .ok (.iconst 1, 1) := by decide +kernel
theorem dX12_digs_338 : decode cX12_digs 338 = .ok (.iadd, 1) := by decide +kernel
theorem dX12_digs_339 : decode cX12_digs 339 = .ok (.iastore, 1) := by decide +kernel
theorem dX12_digs_340 : decode cX12_digs 340 = .ok (.return_, 1) := by decide +kernel
theorem dX12_dig_0 : decode cX12_dig 0 = .ok (.iload_n 1, 1) := by decide +kernel
theorem dX12_dig_1 : decode cX12_dig 1 = .ok (.iconst 1, 1) := by decide +kernel
theorem dX12_dig_2 : decode cX12_dig 2 = .ok (.bipush 50, 2) := by decide +kernel
theorem dX12_dig_4 : decode cX12_dig 4 = .ok (.invokestatic 58, 3) := by decide +kernel
theorem dX12_dig_7 : decode cX12_dig 7 = .ok (.ifCond .eq 17, 3) := by decide +kernel
theorem dX12_dig_10 : decode cX12_dig 10 = .ok (.aload_n 0, 1) := by decide +kernel
theorem dX12_dig_11 : decode cX12_dig 11 = .ok (.getfield 8, 3) := by decide +kernel
theorem dX12_dig_14 : decode cX12_dig 14 = .ok (.iconst 0, 1) := by decide +kernel
theorem dX12_dig_15 : decode cX12_dig 15 = .ok (.iaload, 1) := by decide +kernel
theorem dX12_dig_16 : decode cX12_dig 16 = .ok (.iload_n 1, 1) := by decide +kernel
theorem dX12_dig_17 : decode cX12_dig 17 = .ok (.iadd, 1) := by decide +kernel
theorem dX12_dig_18 : decode cX12_dig 18 = .ok (.sipush 999, 3) := by decide +kernel
theorem dX12_dig_21 : decode cX12_dig 21 = .ok (.if_icmp .le 6, 3) := by decide +kernel
theorem dX12_dig_24 : decode cX12_dig 24 = .ok (.bipush (-2), 2) := by decide +kernel
theorem dX12_dig_26 : decode cX12_dig 26 = .ok (.ireturn, 1) := by decide +kernel
theorem dX12_dig_27 : decode cX12_dig 27 = .ok (.iconst 0, 1) := by decide +kernel
theorem dX12_dig_28 : decode cX12_dig 28 = .ok (.istore_n 2, 1) := by decide +kernel
theorem dX12_dig_29 : decode cX12_dig 29 = .ok (.iload_n 2, 1) := by decide +kernel
theorem dX12_dig_30 : decode cX12_dig 30 = .ok (.iload_n 1, 1) := by decide +kernel
theorem dX12_dig_31 : decode cX12_dig 31 = .ok (.if_icmp .ge 13, 3) := by decide +kernel
theorem dX12_dig_34 : decode cX12_dig 34 = .ok (.aload_n 0, 1) := by decide +kernel
theorem dX12_dig_35 : decode cX12_dig 35 = .ok (.invokevirtual 266, 3) := by decide +kernel
theorem dX12_dig_38 : decode cX12_dig 38 = .ok (.iinc 2 1, 3) := by decide +kernel
theorem dX12_dig_41 : decode cX12_dig 41 = .ok (.goto (-12), 3) := by decide +kernel
theorem dX12_dig_44 : decode cX12_dig 44 = .ok (.aload_n 0, 1) := by decide +kernel
theorem dX12_dig_45 : decode cX12_dig 45 = .ok (.getfield 8, 3) := by decide +kernel
theorem dX12_dig_48 : decode cX12_dig 48 = .ok (.iconst 0, 1) := by decide +kernel
theorem dX12_dig_49 : decode cX12_dig 49 = .ok (.iaload, 1) := by decide +kernel
theorem dX12_dig_50 : decode cX12_dig 50 = .ok (.ireturn, 1) := by decide +kernel
theorem dX12_last_0 : decode cX12_last 0 = .ok (.aload_n 0, 1) := by decide +kernel
theorem dX12_last_1 : decode cX12_last 1 = .ok (.iload_n 1, 1) := by decide +kernel
theorem dX12_last_2 : decode cX12_last 2 = .ok (.iconst 3, 1) := by decide +kernel
theorem dX12_last_3 : decode cX12_last 3 = .ok (.invokevirtual 165, 3) := by decide +kernel
theorem dX12_last_6 : decode cX12_last 6 = .ok (.ifCond .eq 12, 3) := by decide +kernel
theorem dX12_last_9 : decode cX12_last 9 = .ok (.iload_n 2, 1) := by decide +kernel
theorem dX12_last_10 : decode cX12_last 10 = .ok (.iconst 0, 1) := by decide +kernel
theorem dX12_last_11 : decode cX12_last 11 = .ok (.iconst 1, 1) := by decide +kernel
theorem dX12_last_12 : decode cX12_last 12 = .ok (.invokestatic 58, 3) := by decide +kernel
theorem dX12_last_15 : decode cX12_last 15 = .ok (.ifCond .ne 5, 3) := by decide +kernel
theorem dX12_last_18 : decode cX12_last 18 = .ok (.iconst (-1), 1) := by decide +kernel
theorem dX12_last_19 : decode cX12_last 19 = .ok (.ireturn, 1) := by decide +kernel
theorem dX12_last_20 : decode cX12_last 20 = .ok (.aload_n 0, 1) := by decide +kernel
theorem dX12_last_21 : decode cX12_last 21 = .ok (.iload_n 1, 1) := by decide +kernel
theorem dX12_last_22 : decode cX12_last 22 = .ok (.invokevirtual 219, 3) := by decide +kernel
theorem dX12_last_25 : decode cX12_last 25 = .ok (.ifCond .ne 8, 3) := by decide +kernel
theorem dX12_last_28 : decode cX12_last 28 = .ok (.bipush (-3), 2) := by decide +kernel
theorem dX12_last_30 : decode cX12_last 30 = .ok (.goto 30, 3) := by decide +kernel
theorem dX12_last_33 : decode cX12_last 33 = .ok (.iload_n 2, 1) := by decide +kernel
theorem dX12_last_34 : decode cX12_last 34 = .ok (.ifCond .ne 16, 3) := by decide +kernel
theorem dX12_last_37 : decode cX12_last 37 = .ok (.aload_n 0, 1) := by decide +kernel
theorem dX12_last_38 : decode cX12_last 38 = .ok (.getfield 8, 3) := by decide +kernel
theorem dX12_last_41 : decode cX12_last 41 = .ok (.sipush 970, 3) := by decide +kernel
theorem dX12_last_44 : decode cX12_last 44 = .ok (.iload_n 1, 1) := by decide +kernel
theorem dX12_last_45 : decode cX12_last 45 = .ok (.iadd, 1) := by decide +kernel
theorem dX12_last_46 : decode cX12_last 46 = .ok (.iaload, 1) := by decide +kernel
theorem dX12_last_47 : decode cX12_last 47 = .ok (.goto 13, 3) := by decide +kernel
theorem dX12_last_50 : decode cX12_last 50 = .ok (.aload_n 0, 1) := by decide +kernel
theorem dX12_last_51 : decode cX12_last 51 = .ok (.getfield 8, 3) := by decide +kernel
theorem dX12_last_54 : decode cX12_last 54 = .ok (.sipush 1030, 3) := by decide +kernel
theorem dX12_last_57 : decode cX12_last 57 = .ok (.iload_n 1, 1) := by decide +kernel
theorem dX12_last_58 : decode cX12_last 58 = .ok (.iadd, 1) := by decide +kernel
theorem dX12_last_59 : decode cX12_last 59 = .ok (.iaload, 1) := by decide +kernel
theorem dX12_last_60 : decode cX12_last 60 = .ok (.ireturn, 1) := by decide +kernel
theorem dX12_meet_0 : decode cX12_meet 0 = .ok (.iconst 0, 1) := by decide +kernel
theorem dX12_meet_1 : decode cX12_meet 1 = .ok (.istore_n 1, 1) := by decide +kernel
theorem dX12_meet_2 : decode cX12_meet 2 = .ok (.iconst 0, 1) := by decide +kernel
theorem dX12_meet_3 : decode cX12_meet 3 = .ok (.istore_n 2, 1) := by decide +kernel
theorem dX12_meet_4 : decode cX12_meet 4 = .ok (.iconst 0, 1) := by decide +kernel
theorem dX12_meet_5 : decode cX12_meet 5 = .ok (.istore_n 3, 1) := by decide +kernel
theorem dX12_meet_6 : decode cX12_meet 6 = .ok (.iload_n 3, 1) := by decide +kernel
theorem dX12_meet_7 : decode cX12_meet 7 = .ok (.aload_n 0, 1) := by decide +kernel
theorem dX12_meet_8 : decode cX12_meet 8 = .ok (.getfield 8, 3) := by decide +kernel
theorem dX12_meet_11 : decode cX12_meet 11 = .ok (.iconst 2, 1) := by decide +kernel
theorem dX12_meet_12 : decode cX12_meet 12 = .ok (.iaload, 1) := by decide +kernel
theorem dX12_meet_13 : decode cX12_meet 13 = .ok (.if_icmp .ge 102, 3) := by decide +kernel
theorem dX12_meet_16 : decode cX12_meet 16 = .ok (.aload_n 0, 1) := by decide +kernel
theorem dX12_meet_17 : decode cX12_meet 17 = .ok (.iload_n 3, 1) := by decide +kernel
theorem dX12_meet_18 : decode cX12_meet 18 = .ok (.invokevirtual 219, 3) := by decide +kernel
theorem dX12_meet_21 : decode cX12_meet 21 = .ok (.ifCond .eq 88, 3) := by decide +kernel
theorem dX12_meet_24 : decode cX12_meet 24 = .ok (.aload_n 0, 1) := by decide +kernel
theorem dX12_meet_25 : decode cX12_meet 25 = .ok (.getfield 8, 3) := by decide +kernel
theorem dX12_meet_28 : decode cX12_meet 28 = .ok (.sipush 970, 3) := by decide +kernel
theorem dX12_meet_31 : decode cX12_meet 31 = .ok (.iload_n 3, 1) := by decide +kernel
theorem dX12_meet_32 : decode cX12_meet 32 = .ok (.iadd, 1) := by decide +kernel
theorem dX12_meet_33 : decode cX12_meet 33 = .ok (.iaload, 1) := by decide +kernel
theorem dX12_meet_34 : decode cX12_meet 34 = .ok (.ifCond .ne 75, 3) := by decide +kernel
theorem dX12_meet_37 : decode cX12_meet 37 = .ok (.iconst 1, 1) := by decide +kernel
theorem dX12_meet_38 : decode cX12_meet 38 = .ok (.aload_n 0, 1) := by decide +kernel
theorem dX12_meet_39 : decode cX12_meet 39 = .ok (.getfield 8, 3) := by decide +kernel
theorem dX12_meet_42 : decode cX12_meet 42 = .ok (.sipush 550, 3) := by decide +kernel
theorem dX12_meet_45 : decode cX12_meet 45 = .ok (.iload_n 3, 1) := by decide +kernel
theorem dX12_meet_46 : decode cX12_meet 46 = .ok (.iadd, 1) := by decide +kernel
theorem dX12_meet_47 : decode cX12_meet 47 = .ok (.iaload, 1) := by decide +kernel
theorem dX12_meet_48 : decode cX12_meet 48 = .ok (.ishl, 1) := by decide +kernel
theorem dX12_meet_49 : decode cX12_meet 49 = .ok (.iconst 1, 1) := by decide +kernel
theorem dX12_meet_50 : decode cX12_meet 50 = .ok (.aload_n 0, 1) := by decide +kernel
theorem dX12_meet_51 : decode cX12_meet 51 = .ok (.getfield 8, 3) := by decide +kernel
theorem dX12_meet_54 : decode cX12_meet 54 = .ok (.sipush 610, 3) := by decide +kernel
theorem dX12_meet_57 : decode cX12_meet 57 = .ok (.iload_n 3, 1) := by decide +kernel
theorem dX12_meet_58 : decode cX12_meet 58 = .ok (.iadd, 1) := by decide +kernel
theorem dX12_meet_59 : decode cX12_meet 59 = .ok (.iaload, 1) := by decide +kernel
theorem dX12_meet_60 : decode cX12_meet 60 = .ok (.ishl, 1) := by decide +kernel
theorem dX12_meet_61 : decode cX12_meet 61 = .ok (.ior, 1) := by decide +kernel
theorem dX12_meet_62 : decode cX12_meet 62 = .ok (.istore 4, 2) := by decide +kernel
theorem dX12_meet_64 : decode cX12_meet 64 = .ok (.iload_n 1, 1) := by decide +kernel
theorem dX12_meet_65 : decode cX12_meet 65 = .ok (.aload_n 0, 1) := by decide +kernel
theorem dX12_meet_66 : decode cX12_meet 66 = .ok (.getfield 8, 3) := by decide +kernel
theorem dX12_meet_69 : decode cX12_meet 69 = .ok (.sipush 670, 3) := by decide +kernel
theorem dX12_meet_72 : decode cX12_meet 72 = .ok (.iload_n 3, 1) := by decide +kernel
theorem dX12_meet_73 : decode cX12_meet 73 = .ok (.iadd, 1) := by decide +kernel
theorem dX12_meet_74 : decode cX12_meet 74 = .ok (.iaload, 1) := by decide +kernel
theorem dX12_meet_75 : decode cX12_meet 75 = .ok (.ifCond .ne 8, 3) := by decide +kernel
theorem dX12_meet_78 : decode cX12_meet 78 = .ok (.iload 4, 2) := by decide +kernel
theorem dX12_meet_80 : decode cX12_meet 80 = .ok (.goto 4, 3) := by decide +kernel
theorem dX12_meet_83 : decode cX12_meet 83 = .ok (.iconst 0, 1) := by decide +kernel
theorem dX12_meet_84 : decode cX12_meet 84 = .ok (.ior, 1) := by decide +kernel
theorem dX12_meet_85 : decode cX12_meet 85 = .ok (.istore_n 1, 1) := by decide +kernel
theorem dX12_meet_86 : decode cX12_meet 86 = .ok (.iload_n 2, 1) := by decide +kernel
theorem dX12_meet_87 : decode cX12_meet 87 = .ok (.aload_n 0, 1) := by decide +kernel
theorem dX12_meet_88 : decode cX12_meet 88 = .ok (.getfield 8, 3) := by decide +kernel
theorem dX12_meet_91 : decode cX12_meet 91 = .ok (.sipush 670, 3) := by decide +kernel
theorem dX12_meet_94 : decode cX12_meet 94 = .ok (.iload_n 3, 1) := by decide +kernel
theorem dX12_meet_95 : decode cX12_meet 95 = .ok (.iadd, 1) := by decide +kernel
theorem dX12_meet_96 : decode cX12_meet 96 = .ok (.iaload, 1) := by decide +kernel
theorem dX12_meet_97 : decode cX12_meet 97 = .ok (.iconst 1, 1) := by decide +kernel
theorem dX12_meet_98 : decode cX12_meet 98 = .ok (.if_icmp .ne 8, 3) := by decide +kernel
theorem dX12_meet_101 : decode cX12_meet 101 = .ok (.iload 4, 2) := by decide +kernel
theorem dX12_meet_103 : decode cX12_meet 103 = .ok (.goto 4, 3) := by decide +kernel
theorem dX12_meet_106 : decode cX12_meet 106 = .ok (.iconst 0, 1) := by decide +kernel
theorem dX12_meet_107 : decode cX12_meet 107 = .ok (.ior, 1) := by decide +kernel
theorem dX12_meet_108 : decode cX12_meet 108 = .ok (.istore_n 2, 1) := by decide +kernel
theorem dX12_meet_109 : decode cX12_meet 109 = .ok (.iinc 3 1, 3) := by decide +kernel
theorem dX12_meet_112 : decode cX12_meet 112 = .ok (.goto (-106), 3) := by decide +kernel
theorem dX12_meet_115 : decode cX12_meet 115 = .ok (.iload_n 1, 1) := by decide +kernel
theorem dX12_meet_116 : decode cX12_meet 116 = .ok (.iload_n 2, 1) := by decide +kernel
theorem dX12_meet_117 : decode cX12_meet 117 = .ok (.iand, 1) := by decide +kernel
theorem dX12_meet_118 : decode cX12_meet 118 = .ok (.ireturn, 1) := by decide +kernel
theorem dX12_areJoined_0 : decode cX12_areJoined 0 = .ok (.iload_n 1, 1) := by decide +kernel
theorem dX12_areJoined_1 : decode cX12_areJoined 1 = .ok (.invokestatic 269, 3) := by decide +kernel
theorem dX12_areJoined_4 : decode cX12_areJoined 4 = .ok (.iconst 2, 1) := by decide +kernel
theorem dX12_areJoined_5 : decode cX12_areJoined 5 = .ok (.if_icmp .ge 5, 3) := by decide +kernel
theorem dX12_areJoined_8 : decode cX12_areJoined 8 = .ok (.iconst 1, 1) := by decide +kernel
theorem dX12_areJoined_9 : decode cX12_areJoined 9 = .ok (.ireturn, 1) := by decide +kernel
theorem dX12_areJoined_10 : decode cX12_areJoined 10 = .ok (.iload_n 1, 1) := by decide +kernel
theorem dX12_areJoined_11 : decode cX12_areJoined 11 = .ok (.iload_n 1, 1) := by decide +kernel
theorem dX12_areJoined_12 : decode cX12_areJoined 12 = .ok (.ineg, 1) := by decide +kernel
theorem dX12_areJoined_13 : decode cX12_areJoined 13 = .ok (.iand, 1) := by decide +kernel
theorem dX12_areJoined_14 : decode cX12_areJoined 14 = .ok (.istore 4, 2) := by decide +kernel
theorem dX12_areJoined_16 : decode cX12_areJoined 16 = .ok (.iconst 0, 1) := by decide +kernel
theorem dX12_areJoined_17 : decode cX12_areJoined 17 = .ok (.istore 5, 2) := by decide +kernel
theorem dX12_areJoined_19 : decode cX12_areJoined 19 = .ok (.iload 5, 2) := by decide +kernel
theorem dX12_areJoined_21 : decode cX12_areJoined 21 = .ok (.bipush 6, 2) := by decide +kernel
theorem dX12_areJoined_23 : decode cX12_areJoined 23 = .ok (.if_icmp .ge 92, 3) := by decide +kernel
theorem dX12_areJoined_26 : decode cX12_areJoined 26 = .ok (.iconst 0, 1) := by decide +kernel
theorem dX12_areJoined_27 : decode cX12_areJoined 27 = .ok (.istore 6, 2) := by decide +kernel
theorem dX12_areJoined_29 : decode cX12_areJoined 29 = .ok (.iload 6, 2) := by decide +kernel
theorem dX12_areJoined_31 : decode cX12_areJoined 31 = .ok (.iload_n 3, 1) := by decide +kernel
theorem dX12_areJoined_32 : decode cX12_areJoined 32 = .ok (.if_icmp .ge 77, 3) := by decide +kernel
theorem dX12_areJoined_35 : decode cX12_areJoined 35 = .ok (.iconst 1, 1) := by decide +kernel
theorem dX12_areJoined_36 : decode cX12_areJoined 36 = .ok (.aload_n 0, 1) := by decide +kernel
theorem dX12_areJoined_37 : decode cX12_areJoined 37 = .ok (.getfield 8, 3) := by decide +kernel
theorem dX12_areJoined_40 : decode cX12_areJoined 40 = .ok (.sipush 550, 3) := by decide +kernel
theorem dX12_areJoined_43 : decode cX12_areJoined 43 = .ok (.aload_n 0, 1) := by decide +kernel
theorem dX12_areJoined_44 : decode cX12_areJoined 44 = .ok (.getfield 48, 3) := by decide +kernel
theorem dX12_areJoined_47 : decode cX12_areJoined 47 = .ok (.iload 6, 2) := by decide +kernel
theorem dX12_areJoined_49 : decode cX12_areJoined 49 = .ok (.iaload, 1) := by decide +kernel
theorem dX12_areJoined_50 : decode cX12_areJoined 50 = .ok (.iadd, 1) := by decide +kernel
theorem dX12_areJoined_51 : decode cX12_areJoined 51 = .ok (.iaload, 1) := by decide +kernel
theorem dX12_areJoined_52 : decode cX12_areJoined 52 = .ok (.ishl, 1) := by decide +kernel
theorem dX12_areJoined_53 : decode cX12_areJoined 53 = .ok (.iconst 1, 1) := by decide +kernel
theorem dX12_areJoined_54 : decode cX12_areJoined 54 = .ok (.aload_n 0, 1) := by decide +kernel
theorem dX12_areJoined_55 : decode cX12_areJoined 55 = .ok (.getfield 8, 3) := by decide +kernel
theorem dX12_areJoined_58 : decode cX12_areJoined 58 = .ok (.sipush 610, 3) := by decide +kernel
theorem dX12_areJoined_61 : decode cX12_areJoined 61 = .ok (.aload_n 0, 1) := by decide +kernel
theorem dX12_areJoined_62 : decode cX12_areJoined 62 = .ok (.getfield 48, 3) := by decide +kernel
theorem dX12_areJoined_65 : decode cX12_areJoined 65 = .ok (.iload 6, 2) := by decide +kernel
theorem dX12_areJoined_67 : decode cX12_areJoined 67 = .ok (.iaload, 1) := by decide +kernel
theorem dX12_areJoined_68 : decode cX12_areJoined 68 = .ok (.iadd, 1) := by decide +kernel
theorem dX12_areJoined_69 : decode cX12_areJoined 69 = .ok (.iaload, 1) := by decide +kernel
theorem dX12_areJoined_70 : decode cX12_areJoined 70 = .ok (.ishl, 1) := by decide +kernel
theorem dX12_areJoined_71 : decode cX12_areJoined 71 = .ok (.ior, 1) := by decide +kernel
theorem dX12_areJoined_72 : decode cX12_areJoined 72 = .ok (.istore 7, 2) := by decide +kernel
theorem dX12_areJoined_74 : decode cX12_areJoined 74 = .ok (.iload 4, 2) := by decide +kernel
theorem dX12_areJoined_76 : decode cX12_areJoined 76 = .ok (.iload_n 2, 1) := by decide +kernel
theorem dX12_areJoined_77 : decode cX12_areJoined 77 = .ok (.iload 6, 2) := by decide +kernel
theorem dX12_areJoined_79 : decode cX12_areJoined 79 = .ok (.ishr, 1) := by decide +kernel
theorem dX12_areJoined_80 : decode cX12_areJoined 80 = .ok (.iconst 1, 1) := by decide +kernel
theorem dX12_areJoined_81 : decode cX12_areJoined 81 = .ok (.iand, 1) := by decide +kernel
theorem dX12_areJoined_82 : decode cX12_areJoined 82 = .ok (.iconst 1, 1) := by decide +kernel
theorem dX12_areJoined_83 : decode cX12_areJoined 83 = .ok (.if_icmp .ne 16, 3) := by decide +kernel
theorem dX12_areJoined_86 : decode cX12_areJoined 86 = .ok (.iload 4, 2) := by decide +kernel
theorem dX12_areJoined_88 : decode cX12_areJoined 88 = .ok (.iload 7, 2) := by decide +kernel
theorem dX12_areJoined_90 : decode cX12_areJoined 90 = .ok (.iand, 1) := by decide +kernel
theorem dX12_areJoined_91 : decode cX12_areJoined 91 = .ok (.ifCond .eq 8, 3) := by decide +kernel
theorem dX12_areJoined_94 : decode cX12_areJoined 94 = .ok (.iload 7, 2) := by decide +kernel
theorem dX12_areJoined_96 : decode cX12_areJoined 96 = .ok (.goto 4, 3) := by decide +kernel
theorem dX12_areJoined_99 : decode cX12_areJoined 99 = .ok (.iconst 0, 1) := by decide +kernel
theorem dX12_areJoined_100 : decode cX12_areJoined 100 = .ok (.ior, 1) := by decide +kernel
theorem dX12_areJoined_101 : decode cX12_areJoined 101 = .ok (.istore 4, 2) := by decide +kernel
theorem dX12_areJoined_103 : decode cX12_areJoined 103 = .ok (.iinc 6 1, 3) := by decide +kernel
theorem dX12_areJoined_106 : decode cX12_areJoined 106 = .ok (.goto (-77), 3) := by decide +kernel
theorem dX12_areJoined_109 : decode cX12_areJoined 109 = .ok (.iinc 5 1, 3) := by decide +kernel
theorem dX12_areJoined_112 : decode cX12_areJoined 112 = .ok (.goto (-93), 3) := by decide +kernel
theorem dX12_areJoined_115 : decode cX12_areJoined 115 = .ok (.iload_n 1, 1) := by decide +kernel
theorem dX12_areJoined_116 : decode cX12_areJoined 116 = .ok (.iload 4, 2) := by decide +kernel
theorem dX12_areJoined_118 : decode cX12_areJoined 118 = .ok (.iconst (-1), 1) := by decide +kernel
theorem dX12_areJoined_119 : decode cX12_areJoined 119 = .ok (.ixor, 1) := by decide +kernel
theorem dX12_areJoined_120 : decode cX12_areJoined 120 = .ok (.iand, 1) := by decide +kernel
theorem dX12_areJoined_121 : decode cX12_areJoined 121 = .ok (.ifCond .ne 7, 3) := by decide +kernel
theorem dX12_areJoined_124 : decode cX12_areJoined 124 = .ok (.iconst 1, 1) := by decide +kernel
theorem dX12_areJoined_125 : decode cX12_areJoined 125 = .ok (.goto 4, 3) := by decide +kernel
theorem dX12_areJoined_128 : decode cX12_areJoined 128 = .ok (.iconst 0, 1) := by decide +kernel
theorem dX12_areJoined_129 : decode cX12_areJoined 129 = .ok (.ireturn, 1) := by decide +kernel
theorem dX12_many_0 : decode cX12_many 0 = .ok (.iconst 0, 1) := by decide +kernel
theorem dX12_many_1 : decode cX12_many 1 = .ok (.istore_n 1, 1) := by decide +kernel
theorem dX12_many_2 : decode cX12_many 2 = .ok (.iconst 0, 1) := by decide +kernel
theorem dX12_many_3 : decode cX12_many 3 = .ok (.istore_n 2, 1) := by decide +kernel
theorem dX12_many_4 : decode cX12_many 4 = .ok (.iload_n 2, 1) := by decide +kernel
theorem dX12_many_5 : decode cX12_many 5 = .ok (.bipush 30, 2) := by decide +kernel
theorem dX12_many_7 : decode cX12_many 7 = .ok (.if_icmp .ge 17, 3) := by decide +kernel
theorem dX12_many_10 : decode cX12_many 10 = .ok (.iload_n 1, 1) := by decide +kernel
theorem dX12_many_11 : decode cX12_many 11 = .ok (.iload_n 0, 1) := by decide +kernel
theorem dX12_many_12 : decode cX12_many 12 = .ok (.iload_n 2, 1) := by decide +kernel
theorem dX12_many_13 : decode cX12_many 13 = .ok (.ishr, 1) := by decide +kernel
theorem dX12_many_14 : decode cX12_many 14 = .ok (.iconst 1, 1) := by decide +kernel
theorem dX12_many_15 : decode cX12_many 15 = .ok (.iand, 1) := by decide +kernel
theorem dX12_many_16 : decode cX12_many 16 = .ok (.iadd, 1) := by decide +kernel
theorem dX12_many_17 : decode cX12_many 17 = .ok (.istore_n 1, 1) := by decide +kernel
theorem dX12_many_18 : decode cX12_many 18 = .ok (.iinc 2 1, 3) := by decide +kernel
theorem dX12_many_21 : decode cX12_many 21 = .ok (.goto (-17), 3) := by decide +kernel
theorem dX12_many_24 : decode cX12_many 24 = .ok (.iload_n 1, 1) := by decide +kernel
theorem dX12_many_25 : decode cX12_many 25 = .ok (.ireturn, 1) := by decide +kernel
theorem dX12_gauge_0 : decode cX12_gauge 0 = .ok (.iload_n 1, 1) := by decide +kernel
theorem dX12_gauge_1 : decode cX12_gauge 1 = .ok (.iconst 0, 1) := by decide +kernel
theorem dX12_gauge_2 : decode cX12_gauge 2 = .ok (.iconst 1, 1) := by decide +kernel
theorem dX12_gauge_3 : decode cX12_gauge 3 = .ok (.aload_n 0, 1) := by decide +kernel
theorem dX12_gauge_4 : decode cX12_gauge 4 = .ok (.getfield 8, 3) := by decide +kernel
theorem dX12_gauge_7 : decode cX12_gauge 7 = .ok (.iconst 1, 1) := by decide +kernel
theorem dX12_gauge_8 : decode cX12_gauge 8 = .ok (.iaload, 1) := by decide +kernel
theorem dX12_gauge_9 : decode cX12_gauge 9 = .ok (.ishl, 1) := by decide +kernel
theorem dX12_gauge_10 : decode cX12_gauge 10 = .ok (.iconst 1, 1) := by decide +kernel
theorem dX12_gauge_11 : decode cX12_gauge 11 = .ok (.isub, 1) := by decide +kernel
theorem dX12_gauge_12 : decode cX12_gauge 12 = .ok (.invokestatic 58, 3) := by decide +kernel
theorem dX12_gauge_15 : decode cX12_gauge 15 = .ok (.ifCond .ne 6, 3) := by decide +kernel
theorem dX12_gauge_18 : decode cX12_gauge 18 = .ok (.bipush (-2), 2) := by decide +kernel
theorem dX12_gauge_20 : decode cX12_gauge 20 = .ok (.ireturn, 1) := by decide +kernel
theorem dX12_gauge_21 : decode cX12_gauge 21 = .ok (.iconst 0, 1) := by decide +kernel
theorem dX12_gauge_22 : decode cX12_gauge 22 = .ok (.istore_n 2, 1) := by decide +kernel
theorem dX12_gauge_23 : decode cX12_gauge 23 = .ok (.iconst 0, 1) := by decide +kernel
theorem dX12_gauge_24 : decode cX12_gauge 24 = .ok (.istore_n 3, 1) := by decide +kernel
theorem dX12_gauge_25 : decode cX12_gauge 25 = .ok (.iconst 0, 1) := by decide +kernel
theorem dX12_gauge_26 : decode cX12_gauge 26 = .ok (.istore 4, 2) := by decide +kernel
theorem dX12_gauge_28 : decode cX12_gauge 28 = .ok (.iload 4, 2) := by decide +kernel
theorem dX12_gauge_30 : decode cX12_gauge 30 = .ok (.aload_n 0, 1) := by decide +kernel
theorem dX12_gauge_31 : decode cX12_gauge 31 = .ok (.getfield 8, 3) := by decide +kernel
theorem dX12_gauge_34 : decode cX12_gauge 34 = .ok (.iconst 2, 1) := by decide +kernel
theorem dX12_gauge_35 : decode cX12_gauge 35 = .ok (.iaload, 1) := by decide +kernel
theorem dX12_gauge_36 : decode cX12_gauge 36 = .ok (.if_icmp .ge 55, 3) := by decide +kernel
theorem dX12_gauge_39 : decode cX12_gauge 39 = .ok (.aload_n 0, 1) := by decide +kernel
theorem dX12_gauge_40 : decode cX12_gauge 40 = .ok (.iload 4, 2) := by decide +kernel
theorem dX12_gauge_42 : decode cX12_gauge 42 = .ok (.invokevirtual 219, 3) := by decide +kernel
theorem dX12_gauge_45 : decode cX12_gauge 45 = .ok (.ifCond .eq 40, 3) := by decide +kernel
theorem dX12_gauge_48 : decode cX12_gauge 48 = .ok (.aload_n 0, 1) := by decide +kernel
theorem dX12_gauge_49 : decode cX12_gauge 49 = .ok (.getfield 48, 3) := by decide +kernel
theorem dX12_gauge_52 : decode cX12_gauge 52 = .ok (.iload_n 2, 1) := by decide +kernel
theorem dX12_gauge_53 : decode cX12_gauge 53 = .ok (.iload 4, 2) := by decide +kernel
theorem dX12_gauge_55 : decode cX12_gauge 55 = .ok (.iastore, 1) := by decide +kernel
theorem dX12_gauge_56 : decode cX12_gauge 56 = .ok (.iload_n 3, 1) := by decide +kernel
theorem dX12_gauge_57 : decode cX12_gauge 57 = .ok (.iload_n 2, 1) := by decide +kernel
theorem dX12_gauge_58 : decode cX12_gauge 58 = .ok (.bipush 10, 2) := by decide +kernel
theorem dX12_gauge_60 : decode cX12_gauge 60 = .ok (.if_icmp .ge 19, 3) := by decide +kernel
theorem dX12_gauge_63 : decode cX12_gauge 63 = .ok (.aload_n 0, 1) := by decide +kernel
theorem dX12_gauge_64 : decode cX12_gauge 64 = .ok (.getfield 8, 3) := by decide +kernel
theorem dX12_gauge_67 : decode cX12_gauge 67 = .ok (.sipush 670, 3) := by decide +kernel
theorem dX12_gauge_70 : decode cX12_gauge 70 = .ok (.iload 4, 2) := by decide +kernel
theorem dX12_gauge_72 : decode cX12_gauge 72 = .ok (.iadd, 1) := by decide +kernel
theorem dX12_gauge_73 : decode cX12_gauge 73 = .ok (.iaload, 1) := by decide +kernel
theorem dX12_gauge_74 : decode cX12_gauge 74 = .ok (.iload_n 2, 1) := by decide +kernel
theorem dX12_gauge_75 : decode cX12_gauge 75 = .ok (.ishl, 1) := by decide +kernel
theorem dX12_gauge_76 : decode cX12_gauge 76 = .ok (.goto 4, 3) := by decide +kernel
theorem dX12_gauge_79 : decode cX12_gauge 79 = .ok (.iconst 0, 1) := by decide +kernel
theorem dX12_gauge_80 : decode cX12_gauge 80 = .ok (.ior, 1) := by decide +kernel
theorem dX12_gauge_81 : decode cX12_gauge 81 = .ok (.istore_n 3, 1) := by decide +kernel
theorem dX12_gauge_82 : decode cX12_gauge 82 = .ok (.iinc 2 1, 3) := by decide +kernel
theorem dX12_gauge_85 : decode cX12_gauge 85 = .ok (.iinc 4 1, 3) := by decide +kernel
theorem dX12_gauge_88 : decode cX12_gauge 88 = .ok (.goto (-60), 3) := by decide +kernel
theorem dX12_gauge_91 : decode cX12_gauge 91 = .ok (.iload_n 2, 1) := by decide +kernel
theorem dX12_gauge_92 : decode cX12_gauge 92 = .ok (.bipush 10, 2) := by decide +kernel
theorem dX12_gauge_94 : decode cX12_gauge 94 = .ok (.if_icmp .le 6, 3) := by decide +kernel
theorem dX12_gauge_97 : decode cX12_gauge 97 = .ok (.bipush (-9), 2) := by decide +kernel
theorem dX12_gauge_99 : decode cX12_gauge 99 = .ok (.ireturn, 1) := by decide +kernel
theorem dX12_gauge_100 : decode cX12_gauge 100 = .ok (.bipush (-5), 2) := by decide +kernel
theorem dX12_gauge_102 : decode cX12_gauge 102 = .ok (.istore 4, 2) := by decide +kernel
theorem dX12_gauge_104 : decode cX12_gauge 104 = .ok (.iconst 0, 1) := by decide +kernel
theorem dX12_gauge_105 : decode cX12_gauge 105 = .ok (.istore 5, 2) := by decide +kernel
theorem dX12_gauge_107 : decode cX12_gauge 107 = .ok (.iload 5, 2) := by decide +kernel
theorem dX12_gauge_109 : decode cX12_gauge 109 = .ok (.iconst 1, 1) := by decide +kernel
theorem dX12_gauge_110 : decode cX12_gauge 110 = .ok (.iload_n 2, 1) := by decide +kernel
theorem dX12_gauge_111 : decode cX12_gauge 111 = .ok (.ishl, 1) := by decide +kernel
theorem dX12_gauge_112 : decode cX12_gauge 112 = .ok (.if_icmp .ge 80, 3) := by decide +kernel
theorem dX12_gauge_115 : decode cX12_gauge 115 = .ok (.iload_n 3, 1) := by decide +kernel
theorem dX12_gauge_116 : decode cX12_gauge 116 = .ok (.iload 5, 2) := by decide +kernel
theorem dX12_gauge_118 : decode cX12_gauge 118 = .ok (.ixor, 1) := by decide +kernel
theorem dX12_gauge_119 : decode cX12_gauge 119 = .ok (.istore 6, 2) := by decide +kernel
theorem dX12_gauge_121 : decode cX12_gauge 121 = .ok (.aload_n 0, 1) := by decide +kernel
theorem dX12_gauge_122 : decode cX12_gauge 122 = .ok (.iload_n 1, 1) := by decide +kernel
theorem dX12_gauge_123 : decode cX12_gauge 123 = .ok (.iload 6, 2) := by decide +kernel
theorem dX12_gauge_125 : decode cX12_gauge 125 = .ok (.iload_n 2, 1) := by decide +kernel
theorem dX12_gauge_126 : decode cX12_gauge 126 = .ok (.invokevirtual 272, 3) := by decide +kernel
theorem dX12_gauge_129 : decode cX12_gauge 129 = .ok (.ifCond .ne 16, 3) := by decide +kernel
theorem dX12_gauge_132 : decode cX12_gauge 132 = .ok (.aload_n 0, 1) := by decide +kernel
theorem dX12_gauge_133 : decode cX12_gauge 133 = .ok (.iload_n 1, 1) := by decide +kernel
theorem dX12_gauge_134 : decode cX12_gauge 134 = .ok (.iload 6, 2) := by decide +kernel
theorem dX12_gauge_136 : decode cX12_gauge 136 = .ok (.iconst (-1), 1) := by decide +kernel
theorem dX12_gauge_137 : decode cX12_gauge 137 = .ok (.ixor, 1) := by decide +kernel
theorem dX12_gauge_138 : decode cX12_gauge 138 = .ok (.iload_n 2, 1) := by decide +kernel
theorem dX12_gauge_139 : decode cX12_gauge 139 = .ok (.invokevirtual 272, 3) := by decide +kernel
theorem dX12_gauge_142 : decode cX12_gauge 142 = .ok (.ifCond .eq 7, 3) := by decide +kernel
theorem dX12_gauge_145 : decode cX12_gauge 145 = .ok (.iconst 1, 1) := by decide +kernel
theorem dX12_gauge_146 : decode cX12_gauge 146 = .ok (.goto 4, 3) := by decide +kernel
theorem dX12_gauge_149 : decode cX12_gauge 149 = .ok (.iconst 0, 1) := by decide +kernel
theorem dX12_gauge_150 : decode cX12_gauge 150 = .ok (.istore 7, 2) := by decide +kernel
theorem dX12_gauge_152 : decode cX12_gauge 152 = .ok (.iload 7, 2) := by decide +kernel
theorem dX12_gauge_154 : decode cX12_gauge 154 = .ok (.ifCond .eq 28, 3) := by decide +kernel
theorem dX12_gauge_157 : decode cX12_gauge 157 = .ok (.iload 4, 2) := by decide +kernel
theorem dX12_gauge_159 : decode cX12_gauge 159 = .ok (.bipush (-5), 2) := by decide +kernel
theorem dX12_gauge_161 : decode cX12_gauge 161 = .ok (.if_icmp .eq 16, 3) := by decide +kernel
theorem dX12_gauge_164 : decode cX12_gauge 164 = .ok (.iload 5, 2) := by decide +kernel
theorem dX12_gauge_166 : decode cX12_gauge 166 = .ok (.invokestatic 269, 3) := by decide +kernel
theorem dX12_gauge_169 : decode cX12_gauge 169 = .ok (.iload 4, 2) := by decide +kernel
theorem dX12_gauge_171 : decode cX12_gauge 171 = .ok (.invokestatic 269, 3) := by decide +kernel
theorem dX12_gauge_174 : decode cX12_gauge 174 = .ok (.if_icmp .ge 8, 3) := by decide +kernel
theorem dX12_gauge_177 : decode cX12_gauge 177 = .ok (.iload 5, 2) := by decide +kernel
theorem dX12_gauge_179 : decode cX12_gauge 179 = .ok (.goto 5, 3) := by decide +kernel
theorem dX12_gauge_182 : decode cX12_gauge 182 = .ok (.iload 4, 2) := by decide +kernel
theorem dX12_gauge_184 : decode cX12_gauge 184 = .ok (.istore 4, 2) := by decide +kernel
theorem dX12_gauge_186 : decode cX12_gauge 186 = .ok (.iinc 5 1, 3) := by decide +kernel
theorem dX12_gauge_189 : decode cX12_gauge 189 = .ok (.goto (-82), 3) := by decide +kernel
theorem dX12_gauge_192 : decode cX12_gauge 192 = .ok (.iload 4, 2) := by decide +kernel
theorem dX12_gauge_194 : decode cX12_gauge 194 = .ok (.ireturn, 1) := by decide +kernel
theorem dX12_plan_0 : decode cX12_plan 0 = .ok (.iload 4, 2) := by decide +kernel
theorem dX12_plan_2 : decode cX12_plan 2 = .ok (.iconst 0, 1) := by decide +kernel
theorem dX12_plan_3 : decode cX12_plan 3 = .ok (.iconst 1, 1) := by decide +kernel
theorem dX12_plan_4 : decode cX12_plan 4 = .ok (.invokestatic 58, 3) := by decide +kernel
theorem dX12_plan_7 : decode cX12_plan 7 = .ok (.ifCond .ne 5, 3) := by decide +kernel
theorem dX12_plan_10 : decode cX12_plan 10 = .ok (.iconst (-1), 1) := by decide +kernel
theorem dX12_plan_11 : decode cX12_plan 11 = .ok (.ireturn, 1) := by decide +kernel
theorem dX12_plan_12 : decode cX12_plan 12 = .ok (.iload_n 1, 1) := by decide +kernel
theorem dX12_plan_13 : decode cX12_plan 13 = .ok (.iconst 0, 1) := by decide +kernel
theorem dX12_plan_14 : decode cX12_plan 14 = .ok (.iconst 1, 1) := by decide +kernel
theorem dX12_plan_15 : decode cX12_plan 15 = .ok (.aload_n 0, 1) := by decide +kernel
theorem dX12_plan_16 : decode cX12_plan 16 = .ok (.getfield 8, 3) := by decide +kernel
theorem dX12_plan_19 : decode cX12_plan 19 = .ok (.iconst 1, 1) := by decide +kernel
theorem dX12_plan_20 : decode cX12_plan 20 = .ok (.iaload, 1) := by decide +kernel
theorem dX12_plan_21 : decode cX12_plan 21 = .ok (.ishl, 1) := by decide +kernel
theorem dX12_plan_22 : decode cX12_plan 22 = .ok (.iconst 1, 1) := by decide +kernel
theorem dX12_plan_23 : decode cX12_plan 23 = .ok (.isub, 1) := by decide +kernel
theorem dX12_plan_24 : decode cX12_plan 24 = .ok (.invokestatic 58, 3) := by decide +kernel
theorem dX12_plan_27 : decode cX12_plan 27 = .ok (.ifCond .eq 24, 3) := by decide +kernel
theorem dX12_plan_30 : decode cX12_plan 30 = .ok (.iload_n 2, 1) := by decide +kernel
theorem dX12_plan_31 : decode cX12_plan 31 = .ok (.iconst 0, 1) := by decide +kernel
theorem dX12_plan_32 : decode cX12_plan 32 = .ok (.ldc 72, 2) := by decide +kernel
theorem dX12_plan_34 : decode cX12_plan 34 = .ok (.invokestatic 58, 3) := by decide +kernel
theorem dX12_plan_37 : decode cX12_plan 37 = .ok (.ifCond .eq 14, 3) := by decide +kernel
theorem dX12_plan_40 : decode cX12_plan 40 = .ok (.iload_n 3, 1) := by decide +kernel
theorem dX12_plan_41 : decode cX12_plan 41 = .ok (.iconst 0, 1) := by decide +kernel
theorem dX12_plan_42 : decode cX12_plan 42 = .ok (.ldc_w 275, 3) := by decide +kernel
theorem dX12_plan_45 : decode cX12_plan 45 = .ok (.invokestatic 58, 3) := by decide +kernel
theorem dX12_plan_48 : decode cX12_plan 48 = .ok (.ifCond .ne 6, 3) := by decide +kernel
theorem dX12_plan_51 : decode cX12_plan 51 = .ok (.bipush (-2), 2) := by decide +kernel
theorem dX12_plan_53 : decode cX12_plan 53 = .ok (.ireturn, 1) := by decide +kernel
theorem dX12_plan_54 : decode cX12_plan 54 = .ok (.iconst 0, 1) := by decide +kernel
theorem dX12_plan_55 : decode cX12_plan 55 = .ok (.istore 5, 2) := by decide +kernel
theorem dX12_plan_57 : decode cX12_plan 57 = .ok (.iconst 0, 1) := by decide +kernel
theorem dX12_plan_58 : decode cX12_plan 58 = .ok (.istore 6, 2) := by decide +kernel
theorem dX12_plan_60 : decode cX12_plan 60 = .ok (.iload 6, 2) := by decide +kernel
theorem dX12_plan_62 : decode cX12_plan 62 = .ok (.aload_n 0, 1) := by decide +kernel
theorem dX12_plan_63 : decode cX12_plan 63 = .ok (.getfield 8, 3) := by decide +kernel
theorem dX12_plan_66 : decode cX12_plan 66 = .ok (.iconst 2, 1) := by decide +kernel
theorem dX12_plan_67 : decode cX12_plan 67 = .ok (.iaload, 1) := by decide +kernel
theorem dX12_plan_68 : decode cX12_plan 68 = .ok (.if_icmp .ge 72, 3) := by decide +kernel
theorem dX12_plan_71 : decode cX12_plan 71 = .ok (.iload 5, 2) := by decide +kernel
theorem dX12_plan_73 : decode cX12_plan 73 = .ok (.bipush 8, 2) := by decide +kernel
theorem dX12_plan_75 : decode cX12_plan 75 = .ok (.if_icmp .ge 59, 3) := by decide +kernel
theorem dX12_plan_78 : decode cX12_plan 78 = .ok (.aload_n 0, 1) := by decide +kernel
theorem dX12_plan_79 : decode cX12_plan 79 = .ok (.getfield 8, 3) := by decide +kernel
theorem dX12_plan_82 : decode cX12_plan 82 = .ok (.sipush 370, 3) := by decide +kernel
theorem dX12_plan_85 : decode cX12_plan 85 = .ok (.iload 6, 2) := by decide +kernel
theorem dX12_plan_87 : decode cX12_plan 87 = .ok (.iadd, 1) := by decide +kernel
theorem dX12_plan_88 : decode cX12_plan 88 = .ok (.iaload, 1) := by decide +kernel
theorem dX12_plan_89 : decode cX12_plan 89 = .ok (.iconst 3, 1) := by decide +kernel
theorem dX12_plan_90 : decode cX12_plan 90 = .ok (.if_icmp .ne 44, 3) := by decide +kernel
theorem dX12_plan_93 : decode cX12_plan 93 = .ok (.aload_n 0, 1) := by decide +kernel
theorem dX12_plan_94 : decode cX12_plan 94 = .ok (.getfield 8, 3) := by decide +kernel
theorem dX12_plan_97 : decode cX12_plan 97 = .ok (.sipush 790, 3) := by decide +kernel
theorem dX12_plan_100 : decode cX12_plan 100 = .ok (.iload 6, 2) := by decide +kernel
theorem dX12_plan_102 : decode cX12_plan 102 = .ok (.iadd, 1) := by decide +kernel
theorem dX12_plan_103 : decode cX12_plan 103 = .ok (.iaload, 1) := by decide +kernel
theorem dX12_plan_104 : decode cX12_plan 104 = .ok (.ifCond .ne 30, 3) := by decide +kernel
theorem dX12_plan_107 : decode cX12_plan 107 = .ok (.aload_n 0, 1) := by decide +kernel
theorem dX12_plan_108 : decode cX12_plan 108 = .ok (.iload 6, 2) := by decide +kernel
theorem dX12_plan_110 : decode cX12_plan 110 = .ok (.aload_n 0, 1) := by decide +kernel
theorem dX12_plan_111 : decode cX12_plan 111 = .ok (.getfield 8, 3) := by decide +kernel
theorem dX12_plan_114 : decode cX12_plan 114 = .ok (.iconst 0, 1) := by decide +kernel
theorem dX12_plan_115 : decode cX12_plan 115 = .ok (.iaload, 1) := by decide +kernel
theorem dX12_plan_116 : decode cX12_plan 116 = .ok (.invokevirtual 213, 3) := by decide +kernel
theorem dX12_plan_119 : decode cX12_plan 119 = .ok (.ifCond .eq 15, 3) := by decide +kernel
theorem dX12_plan_122 : decode cX12_plan 122 = .ok (.aload_n 0, 1) := by decide +kernel
theorem dX12_plan_123 : decode cX12_plan 123 = .ok (.getfield 48, 3) := by decide +kernel
theorem dX12_plan_126 : decode cX12_plan 126 = .ok (.iload 5, 2) := by decide +kernel
theorem dX12_plan_128 : decode cX12_plan 128 = .ok (.iload 6, 2) := by decide +kernel
theorem dX12_plan_130 : decode cX12_plan 130 = .ok (.iastore, 1) := by decide +kernel
theorem dX12_plan_131 : decode cX12_plan 131 = .ok (.iinc 5 1, 3) := by decide +kernel
theorem dX12_plan_134 : decode cX12_plan 134 = .ok (.iinc 6 1, 3) := by decide +kernel
theorem dX12_plan_137 : decode cX12_plan 137 = .ok (.goto (-77), 3) := by decide +kernel
theorem dX12_plan_140 : decode cX12_plan 140 = .ok (.bipush (-5), 2) := by decide +kernel
theorem dX12_plan_142 : decode cX12_plan 142 = .ok (.istore 6, 2) := by decide +kernel
theorem dX12_plan_144 : decode cX12_plan 144 = .ok (.iconst 0, 1) := by decide +kernel
theorem dX12_plan_145 : decode cX12_plan 145 = .ok (.istore 7, 2) := by decide +kernel
theorem dX12_plan_147 : decode cX12_plan 147 = .ok (.iconst 0, 1) := by decide +kernel
theorem dX12_plan_148 : decode cX12_plan 148 = .ok (.istore 8, 2) := by decide +kernel
theorem dX12_plan_150 : decode cX12_plan 150 = .ok (.iload 8, 2) := by decide +kernel
theorem dX12_plan_152 : decode cX12_plan 152 = .ok (.iconst 1, 1) := by decide +kernel
theorem dX12_plan_153 : decode cX12_plan 153 = .ok (.iload 5, 2) := by decide +kernel
theorem dX12_plan_155 : decode cX12_plan 155 = .ok (.ishl, 1) := by decide +kernel
theorem dX12_plan_156 : decode cX12_plan 156 = .ok (.if_icmp .ge 234, 3) := by decide +kernel
theorem dX12_plan_159 : decode cX12_plan 159 = .ok (.iconst 0, 1) := by decide +kernel
theorem dX12_plan_160 : decode cX12_plan 160 = .ok (.istore 9, 2) := by decide +kernel
theorem dX12_plan_162 : decode cX12_plan 162 = .ok (.iconst 0, 1) := by decide +kernel
theorem dX12_plan_163 : decode cX12_plan 163 = .ok (.istore 10, 2) := by decide +kernel
theorem dX12_plan_165 : decode cX12_plan 165 = .ok (.aload_n 0, 1) := by decide +kernel
theorem dX12_plan_166 : decode cX12_plan 166 = .ok (.iload_n 1, 1) := by decide +kernel
theorem dX12_plan_167 : decode cX12_plan 167 = .ok (.iload 8, 2) := by decide +kernel
theorem dX12_plan_169 : decode cX12_plan 169 = .ok (.iload 5, 2) := by decide +kernel
theorem dX12_plan_171 : decode cX12_plan 171 = .ok (.invokevirtual 272, 3) := by decide +kernel
theorem dX12_plan_174 : decode cX12_plan 174 = .ok (.istore 11, 2) := by decide +kernel
theorem dX12_plan_176 : decode cX12_plan 176 = .ok (.iconst 0, 1) := by decide +kernel
theorem dX12_plan_177 : decode cX12_plan 177 = .ok (.istore 12, 2) := by decide +kernel
theorem dX12_plan_179 : decode cX12_plan 179 = .ok (.iload 12, 2) := by decide +kernel
theorem dX12_plan_181 : decode cX12_plan 181 = .ok (.iload 5, 2) := by decide +kernel
theorem dX12_plan_183 : decode cX12_plan 183 = .ok (.if_icmp .ge 130, 3) := by decide +kernel
theorem dX12_plan_186 : decode cX12_plan 186 = .ok (.iload 8, 2) := by decide +kernel
theorem dX12_plan_188 : decode cX12_plan 188 = .ok (.iload 12, 2) := by decide +kernel
theorem dX12_plan_190 : decode cX12_plan 190 = .ok (.ishr, 1) := by decide +kernel
theorem dX12_plan_191 : decode cX12_plan 191 = .ok (.iconst 1, 1) := by decide +kernel
theorem dX12_plan_192 : decode cX12_plan 192 = .ok (.iand, 1) := by decide +kernel
theorem dX12_plan_193 : decode cX12_plan 193 = .ok (.iconst 1, 1) := by decide +kernel
theorem dX12_plan_194 : decode cX12_plan 194 = .ok (.if_icmp .ne 113, 3) := by decide +kernel
theorem dX12_plan_197 : decode cX12_plan 197 = .ok (.aload_n 0, 1) := by decide +kernel
theorem dX12_plan_198 : decode cX12_plan 198 = .ok (.aload_n 0, 1) := by decide +kernel
theorem dX12_plan_199 : decode cX12_plan 199 = .ok (.getfield 8, 3) := by decide +kernel
theorem dX12_plan_202 : decode cX12_plan 202 = .ok (.sipush 430, 3) := by decide +kernel
theorem dX12_plan_205 : decode cX12_plan 205 = .ok (.aload_n 0, 1) := by decide +kernel
theorem dX12_plan_206 : decode cX12_plan 206 = .ok (.getfield 48, 3) := by decide +kernel
theorem dX12_plan_209 : decode cX12_plan 209 = .ok (.iload 12, 2) := by decide +kernel
theorem dX12_plan_211 : decode cX12_plan 211 = .ok (.iaload, 1) := by decide +kernel
theorem dX12_plan_212 : decode cX12_plan 212 = .ok (.iadd, 1) := by decide +kernel
theorem dX12_plan_213 : decode cX12_plan 213 = .ok (.iaload, 1) := by decide +kernel
theorem dX12_plan_214 : decode cX12_plan 214 = .ok (.invokevirtual 190, 3) := by decide +kernel
theorem dX12_plan_217 : decode cX12_plan 217 = .ok (.istore 13, 2) := by decide +kernel
theorem dX12_plan_219 : decode cX12_plan 219 = .ok (.iload 9, 2) := by decide +kernel
theorem dX12_plan_221 : decode cX12_plan 221 = .ok (.iload 13, 2) := by decide +kernel
theorem dX12_plan_223 : decode cX12_plan 223 = .ok (.iadd, 1) := by decide +kernel
theorem dX12_plan_224 : decode cX12_plan 224 = .ok (.istore 9, 2) := by decide +kernel
theorem dX12_plan_226 : decode cX12_plan 226 = .ok (.iload 10, 2) := by decide +kernel
theorem dX12_plan_228 : decode cX12_plan 228 = .ok (.iconst 2, 1) := by decide +kernel
theorem dX12_plan_229 : decode cX12_plan 229 = .ok (.iload 13, 2) := by decide +kernel
theorem dX12_plan_231 : decode cX12_plan 231 = .ok (.imul, 1) := by decide +kernel
theorem dX12_plan_232 : decode cX12_plan 232 = .ok (.aload_n 0, 1) := by decide +kernel
theorem dX12_plan_233 : decode cX12_plan 233 = .ok (.aload_n 0, 1) := by decide +kernel
theorem dX12_plan_234 : decode cX12_plan 234 = .ok (.getfield 48, 3) := by decide +kernel
theorem dX12_plan_237 : decode cX12_plan 237 = .ok (.iload 12, 2) := by decide +kernel
theorem dX12_plan_239 : decode cX12_plan 239 = .ok (.iaload, 1) := by decide +kernel
theorem dX12_plan_240 : decode cX12_plan 240 = .ok (.invokevirtual 210, 3) := by decide +kernel
theorem dX12_plan_243 : decode cX12_plan 243 = .ok (.iadd, 1) := by decide +kernel
theorem dX12_plan_244 : decode cX12_plan 244 = .ok (.iadd, 1) := by decide +kernel
theorem dX12_plan_245 : decode cX12_plan 245 = .ok (.istore 10, 2) := by decide +kernel
theorem dX12_plan_247 : decode cX12_plan 247 = .ok (.iconst 0, 1) := by decide +kernel
theorem dX12_plan_248 : decode cX12_plan 248 = .ok (.istore 14, 2) := by decide +kernel
theorem dX12_plan_250 : decode cX12_plan 250 = .ok (.iload 14, 2) := by decide +kernel
theorem dX12_plan_252 : decode cX12_plan 252 = .ok (.iload 12, 2) := by decide +kernel
theorem dX12_plan_254 : decode cX12_plan 254 = .ok (.if_icmp .ge 53, 3) := by decide +kernel
theorem dX12_plan_257 : decode cX12_plan 257 = .ok (.iload 11, 2) := by decide +kernel
theorem dX12_plan_259 : decode cX12_plan 259 = .ok (.ifCond .eq 39, 3) := by decide +kernel
theorem dX12_plan_262 : decode cX12_plan 262 = .ok (.iload 8, 2) := by decide +kernel
theorem dX12_plan_264 : decode cX12_plan 264 = .ok (.iload 14, 2) := by decide +kernel
theorem dX12_plan_266 : decode cX12_plan 266 = .ok (.ishr, 1) := by decide +kernel
theorem dX12_plan_267 : decode cX12_plan 267 = .ok (.iconst 1, 1) := by decide +kernel
theorem dX12_plan_268 : decode cX12_plan 268 = .ok (.iand, 1) := by decide +kernel
theorem dX12_plan_269 : decode cX12_plan 269 = .ok (.iconst 1, 1) := by decide +kernel
theorem dX12_plan_270 : decode cX12_plan 270 = .ok (.if_icmp .ne 24, 3) := by decide +kernel
theorem dX12_plan_273 : decode cX12_plan 273 = .ok (.aload_n 0, 1) := by decide +kernel
theorem dX12_plan_274 : decode cX12_plan 274 = .ok (.aload_n 0, 1) := by decide +kernel
theorem dX12_plan_275 : decode cX12_plan 275 = .ok (.getfield 48, 3) := by decide +kernel
theorem dX12_plan_278 : decode cX12_plan 278 = .ok (.iload 14, 2) := by decide +kernel
theorem dX12_plan_280 : decode cX12_plan 280 = .ok (.iaload, 1) := by decide +kernel
theorem dX12_plan_281 : decode cX12_plan 281 = .ok (.aload_n 0, 1) := by decide +kernel
theorem dX12_plan_282 : decode cX12_plan 282 = .ok (.getfield 48, 3) := by decide +kernel
theorem dX12_plan_285 : decode cX12_plan 285 = .ok (.iload 12, 2) := by decide +kernel
theorem dX12_plan_287 : decode cX12_plan 287 = .ok (.iaload, 1) := by decide +kernel
theorem dX12_plan_288 : decode cX12_plan 288 = .ok (.invokevirtual 216, 3) := by decide +kernel
theorem dX12_plan_291 : decode cX12_plan 291 = .ok (.ifCond .ne 7, 3) := by decide +kernel
theorem dX12_plan_294 : decode cX12_plan 294 = .ok (.iconst 1, 1) := by decide +kernel
theorem dX12_plan_295 : decode cX12_plan 295 = .ok (.goto 4, 3) := by decide +kernel
theorem dX12_plan_298 : decode cX12_plan 298 = .ok (.iconst 0, 1) := by decide +kernel
theorem dX12_plan_299 : decode cX12_plan 299 = .ok (.istore 11, 2) := by decide +kernel
theorem dX12_plan_301 : decode cX12_plan 301 = .ok (.iinc 14 1, 3) := by decide +kernel
theorem dX12_plan_304 : decode cX12_plan 304 = .ok (.goto (-54), 3) := by decide +kernel
theorem dX12_plan_307 : decode cX12_plan 307 = .ok (.iinc 12 1, 3) := by decide +kernel
theorem dX12_plan_310 : decode cX12_plan 310 = .ok (.goto (-131), 3) := by decide +kernel
theorem dX12_plan_313 : decode cX12_plan 313 = .ok (.iload 6, 2) := by decide +kernel
theorem dX12_plan_315 : decode cX12_plan 315 = .ok (.bipush (-5), 2) := by decide +kernel
theorem dX12_plan_317 : decode cX12_plan 317 = .ok (.if_icmp .eq 30, 3) := by decide +kernel
theorem dX12_plan_320 : decode cX12_plan 320 = .ok (.iload 10, 2) := by decide +kernel
theorem dX12_plan_322 : decode cX12_plan 322 = .ok (.iload 7, 2) := by decide +kernel
theorem dX12_plan_324 : decode cX12_plan 324 = .ok (.if_icmp .lt 23, 3) := by decide +kernel
theorem dX12_plan_327 : decode cX12_plan 327 = .ok (.iload 10, 2) := by decide +kernel
theorem dX12_plan_329 : decode cX12_plan 329 = .ok (.iload 7, 2) := by decide +kernel
theorem dX12_plan_331 : decode cX12_plan 331 = .ok (.if_icmp .ne 20, 3) := by decide +kernel
theorem dX12_plan_334 : decode cX12_plan 334 = .ok (.iload 8, 2) := by decide +kernel
theorem dX12_plan_336 : decode cX12_plan 336 = .ok (.invokestatic 269, 3) := by decide +kernel
theorem dX12_plan_339 : decode cX12_plan 339 = .ok (.iload 6, 2) := by decide +kernel
theorem dX12_plan_341 : decode cX12_plan 341 = .ok (.invokestatic 269, 3) := by decide +kernel
theorem dX12_plan_344 : decode cX12_plan 344 = .ok (.if_icmp .ge 7, 3) := by decide +kernel
theorem dX12_plan_347 : decode cX12_plan 347 = .ok (.iconst 1, 1) := by decide +kernel
theorem dX12_plan_348 : decode cX12_plan 348 = .ok (.goto 4, 3) := by decide +kernel
theorem dX12_plan_351 : decode cX12_plan 351 = .ok (.iconst 0, 1) := by decide +kernel
theorem dX12_plan_352 : decode cX12_plan 352 = .ok (.istore 12, 2) := by decide +kernel
theorem dX12_plan_354 : decode cX12_plan 354 = .ok (.iload 11, 2) := by decide +kernel
theorem dX12_plan_356 : decode cX12_plan 356 = .ok (.ifCond .eq 28, 3) := by decide +kernel
theorem dX12_plan_359 : decode cX12_plan 359 = .ok (.iload 9, 2) := by decide +kernel
theorem dX12_plan_361 : decode cX12_plan 361 = .ok (.iload_n 2, 1) := by decide +kernel
theorem dX12_plan_362 : decode cX12_plan 362 = .ok (.if_icmp .gt 22, 3) := by decide +kernel
theorem dX12_plan_365 : decode cX12_plan 365 = .ok (.iload 10, 2) := by decide +kernel
theorem dX12_plan_367 : decode cX12_plan 367 = .ok (.iload_n 3, 1) := by decide +kernel
theorem dX12_plan_368 : decode cX12_plan 368 = .ok (.if_icmp .gt 16, 3) := by decide +kernel
theorem dX12_plan_371 : decode cX12_plan 371 = .ok (.iload 12, 2) := by decide +kernel
theorem dX12_plan_373 : decode cX12_plan 373 = .ok (.ifCond .eq 11, 3) := by decide +kernel
theorem dX12_plan_376 : decode cX12_plan 376 = .ok (.iload 8, 2) := by decide +kernel
theorem dX12_plan_378 : decode cX12_plan 378 = .ok (.istore 6, 2) := by decide +kernel
theorem dX12_plan_380 : decode cX12_plan 380 = .ok (.iload 10, 2) := by decide +kernel
theorem dX12_plan_382 : decode cX12_plan 382 = .ok (.istore 7, 2) := by decide +kernel
theorem dX12_plan_384 : decode cX12_plan 384 = .ok (.iinc 8 1, 3) := by decide +kernel
theorem dX12_plan_387 : decode cX12_plan 387 = .ok (.goto (-237), 3) := by decide +kernel
theorem dX12_plan_390 : decode cX12_plan 390 = .ok (.iload 6, 2) := by decide +kernel
theorem dX12_plan_392 : decode cX12_plan 392 = .ok (.bipush (-5), 2) := by decide +kernel
theorem dX12_plan_394 : decode cX12_plan 394 = .ok (.if_icmp .ne 8, 3) := by decide +kernel
theorem dX12_plan_397 : decode cX12_plan 397 = .ok (.bipush (-5), 2) := by decide +kernel
theorem dX12_plan_399 : decode cX12_plan 399 = .ok (.goto 15, 3) := by decide +kernel
theorem dX12_plan_402 : decode cX12_plan 402 = .ok (.iload 4, 2) := by decide +kernel
theorem dX12_plan_404 : decode cX12_plan 404 = .ok (.ifCond .ne 8, 3) := by decide +kernel
theorem dX12_plan_407 : decode cX12_plan 407 = .ok (.iload 6, 2) := by decide +kernel
theorem dX12_plan_409 : decode cX12_plan 409 = .ok (.goto 5, 3) := by decide +kernel
theorem dX12_plan_412 : decode cX12_plan 412 = .ok (.iload 7, 2) := by decide +kernel
theorem dX12_plan_414 : decode cX12_plan 414 = .ok (.ireturn, 1) := by decide +kernel
theorem dX12_tried_0 : decode cX12_tried 0 = .ok (.iload_n 1, 1) := by decide +kernel
theorem dX12_tried_1 : decode cX12_tried 1 = .ok (.iconst 0, 1) := by decide +kernel
theorem dX12_tried_2 : decode cX12_tried 2 = .ok (.iconst 2, 1) := by decide +kernel
theorem dX12_tried_3 : decode cX12_tried 3 = .ok (.invokestatic 58, 3) := by decide +kernel
theorem dX12_tried_6 : decode cX12_tried 6 = .ok (.ifCond .ne 5, 3) := by decide +kernel
theorem dX12_tried_9 : decode cX12_tried 9 = .ok (.iconst (-1), 1) := by decide +kernel
theorem dX12_tried_10 : decode cX12_tried 10 = .ok (.ireturn, 1) := by decide +kernel
theorem dX12_tried_11 : decode cX12_tried 11 = .ok (.aload_n 0, 1) := by decide +kernel
theorem dX12_tried_12 : decode cX12_tried 12 = .ok (.getfield 8, 3) := by decide +kernel
theorem dX12_tried_15 : decode cX12_tried 15 = .ok (.iconst 3, 1) := by decide +kernel
theorem dX12_tried_16 : decode cX12_tried 16 = .ok (.iaload, 1) := by decide +kernel
theorem dX12_tried_17 : decode cX12_tried 17 = .ok (.istore_n 2, 1) := by decide +kernel
theorem dX12_tried_18 : decode cX12_tried 18 = .ok (.aload_n 0, 1) := by decide +kernel
theorem dX12_tried_19 : decode cX12_tried 19 = .ok (.iload_n 2, 1) := by decide +kernel
theorem dX12_tried_20 : decode cX12_tried 20 = .ok (.aload_n 0, 1) := by decide +kernel
theorem dX12_tried_21 : decode cX12_tried 21 = .ok (.getfield 8, 3) := by decide +kernel
theorem dX12_tried_24 : decode cX12_tried 24 = .ok (.iconst 0, 1) := by decide +kernel
theorem dX12_tried_25 : decode cX12_tried 25 = .ok (.iaload, 1) := by decide +kernel
theorem dX12_tried_26 : decode cX12_tried 26 = .ok (.invokevirtual 144, 3) := by decide +kernel
theorem dX12_tried_29 : decode cX12_tried 29 = .ok (.ifCond .ne 11, 3) := by decide +kernel
theorem dX12_tried_32 : decode cX12_tried 32 = .ok (.bipush (-10), 2) := by decide +kernel
theorem dX12_tried_34 : decode cX12_tried 34 = .ok (.aload_n 0, 1) := by decide +kernel
theorem dX12_tried_35 : decode cX12_tried 35 = .ok (.getfield 75, 3) := by decide +kernel
theorem dX12_tried_38 : decode cX12_tried 38 = .ok (.isub, 1) := by decide +kernel
theorem dX12_tried_39 : decode cX12_tried 39 = .ok (.ireturn, 1) := by decide +kernel
theorem dX12_tried_40 : decode cX12_tried 40 = .ok (.aload_n 0, 1) := by decide +kernel
theorem dX12_tried_41 : decode cX12_tried 41 = .ok (.getfield 8, 3) := by decide +kernel
theorem dX12_tried_44 : decode cX12_tried 44 = .ok (.iconst 3, 1) := by decide +kernel
theorem dX12_tried_45 : decode cX12_tried 45 = .ok (.dup2, 1) := by decide +kernel
theorem dX12_tried_46 : decode cX12_tried 46 = .ok (.iaload, 1) := by decide +kernel
theorem dX12_tried_47 : decode cX12_tried 47 = .ok (.iconst 1, 1) := by decide +kernel
theorem dX12_tried_48 : decode cX12_tried 48 = .ok (.iadd, 1) := by decide +kernel
theorem dX12_tried_49 : decode cX12_tried 49 = .ok (.iastore, 1) := by decide +kernel
theorem dX12_tried_50 : decode cX12_tried 50 = .ok (.iconst 0, 1) := by decide +kernel
theorem dX12_tried_51 : decode cX12_tried 51 = .ok (.istore_n 3, 1) := by decide +kernel
theorem dX12_tried_52 : decode cX12_tried 52 = .ok (.iconst 0, 1) := by decide +kernel
theorem dX12_tried_53 : decode cX12_tried 53 = .ok (.istore 4, 2) := by decide +kernel
theorem dX12_tried_55 : decode cX12_tried 55 = .ok (.iload 4, 2) := by decide +kernel
theorem dX12_tried_57 : decode cX12_tried 57 = .ok (.aload_n 0, 1) := by decide +kernel
theorem dX12_tried_58 : decode cX12_tried 58 = .ok (.getfield 8, 3) := by decide +kernel
theorem dX12_tried_61 : decode cX12_tried 61 = .ok (.iconst 2, 1) := by decide +kernel
theorem dX12_tried_62 : decode cX12_tried 62 = .ok (.iaload, 1) := by decide +kernel
theorem dX12_tried_63 : decode cX12_tried 63 = .ok (.if_icmp .ge 125, 3) := by decide +kernel
theorem dX12_tried_66 : decode cX12_tried 66 = .ok (.iload_n 1, 1) := by decide +kernel
theorem dX12_tried_67 : decode cX12_tried 67 = .ok (.iconst 2, 1) := by decide +kernel
theorem dX12_tried_68 : decode cX12_tried 68 = .ok (.if_icmp .ge 120, 3) := by decide +kernel
theorem dX12_tried_71 : decode cX12_tried 71 = .ok (.iload_n 1, 1) := by decide +kernel
theorem dX12_tried_72 : decode cX12_tried 72 = .ok (.ifCond .ne 60, 3) := by decide +kernel
theorem dX12_tried_75 : decode cX12_tried 75 = .ok (.aload_n 0, 1) := by decide +kernel
theorem dX12_tried_76 : decode cX12_tried 76 = .ok (.getfield 8, 3) := by decide +kernel
theorem dX12_tried_79 : decode cX12_tried 79 = .ok (.sipush 370, 3) := by decide +kernel
theorem dX12_tried_82 : decode cX12_tried 82 = .ok (.iload 4, 2) := by decide +kernel
theorem dX12_tried_84 : decode cX12_tried 84 = .ok (.iadd, 1) := by decide +kernel
theorem dX12_tried_85 : decode cX12_tried 85 = .ok (.iaload, 1) := by decide +kernel
theorem dX12_tried_86 : decode cX12_tried 86 = .ok (.iconst 2, 1) := by decide +kernel
theorem dX12_tried_87 : decode cX12_tried 87 = .ok (.if_icmp .ne 41, 3) := by decide +kernel
theorem dX12_tried_90 : decode cX12_tried 90 = .ok (.aload_n 0, 1) := by decide +kernel
theorem dX12_tried_91 : decode cX12_tried 91 = .ok (.iload 4, 2) := by decide +kernel
theorem dX12_tried_93 : decode cX12_tried 93 = .ok (.aload_n 0, 1) := by decide +kernel
theorem dX12_tried_94 : decode cX12_tried 94 = .ok (.getfield 8, 3) := by decide +kernel
theorem dX12_tried_97 : decode cX12_tried 97 = .ok (.iconst 0, 1) := by decide +kernel
theorem dX12_tried_98 : decode cX12_tried 98 = .ok (.iaload, 1) := by decide +kernel
theorem dX12_tried_99 : decode cX12_tried 99 = .ok (.invokevirtual 193, 3) := by decide +kernel
theorem dX12_tried_102 : decode cX12_tried 102 = .ok (.bipush (-5), 2) := by decide +kernel
theorem dX12_tried_104 : decode cX12_tried 104 = .ok (.if_icmp .ne 24, 3) := by decide +kernel
theorem dX12_tried_107 : decode cX12_tried 107 = .ok (.aload_n 0, 1) := by decide +kernel
theorem dX12_tried_108 : decode cX12_tried 108 = .ok (.iload 4, 2) := by decide +kernel
theorem dX12_tried_110 : decode cX12_tried 110 = .ok (.aload_n 0, 1) := by decide +kernel
theorem dX12_tried_111 : decode cX12_tried 111 = .ok (.getfield 8, 3) := by decide +kernel
theorem dX12_tried_114 : decode cX12_tried 114 = .ok (.iconst 0, 1) := by decide +kernel
theorem dX12_tried_115 : decode cX12_tried 115 = .ok (.iaload, 1) := by decide +kernel
theorem dX12_tried_116 : decode cX12_tried 116 = .ok (.invokevirtual 196, 3) := by decide +kernel
theorem dX12_tried_119 : decode cX12_tried 119 = .ok (.bipush (-5), 2) := by decide +kernel
theorem dX12_tried_121 : decode cX12_tried 121 = .ok (.if_icmp .ne 7, 3) := by decide +kernel
theorem dX12_tried_124 : decode cX12_tried 124 = .ok (.iconst 1, 1) := by decide +kernel
theorem dX12_tried_125 : decode cX12_tried 125 = .ok (.goto 42, 3) := by decide +kernel
theorem dX12_tried_128 : decode cX12_tried 128 = .ok (.iconst 0, 1) := by decide +kernel
theorem dX12_tried_129 : decode cX12_tried 129 = .ok (.goto 38, 3) := by decide +kernel
theorem dX12_tried_132 : decode cX12_tried 132 = .ok (.aload_n 0, 1) := by decide +kernel
theorem dX12_tried_133 : decode cX12_tried 133 = .ok (.getfield 8, 3) := by decide +kernel
theorem dX12_tried_136 : decode cX12_tried 136 = .ok (.sipush 370, 3) := by decide +kernel
theorem dX12_tried_139 : decode cX12_tried 139 = .ok (.iload 4, 2) := by decide +kernel
theorem dX12_tried_141 : decode cX12_tried 141 = .ok (.iadd, 1) := by decide +kernel
theorem dX12_tried_142 : decode cX12_tried 142 = .ok (.iaload, 1) := by decide +kernel
theorem dX12_tried_143 : decode cX12_tried 143 = .ok (.iconst 3, 1) := by decide +kernel
theorem dX12_tried_144 : decode cX12_tried 144 = .ok (.if_icmp .ne 22, 3) := by decide +kernel
theorem dX12_tried_147 : decode cX12_tried 147 = .ok (.aload_n 0, 1) := by decide +kernel
theorem dX12_tried_148 : decode cX12_tried 148 = .ok (.iload 4, 2) := by decide +kernel
theorem dX12_tried_150 : decode cX12_tried 150 = .ok (.aload_n 0, 1) := by decide +kernel
theorem dX12_tried_151 : decode cX12_tried 151 = .ok (.getfield 8, 3) := by decide +kernel
theorem dX12_tried_154 : decode cX12_tried 154 = .ok (.iconst 0, 1) := by decide +kernel
theorem dX12_tried_155 : decode cX12_tried 155 = .ok (.iaload, 1) := by decide +kernel
theorem dX12_tried_156 : decode cX12_tried 156 = .ok (.invokevirtual 213, 3) := by decide +kernel
theorem dX12_tried_159 : decode cX12_tried 159 = .ok (.ifCond .eq 7, 3) := by decide +kernel
theorem dX12_tried_162 : decode cX12_tried 162 = .ok (.iconst 1, 1) := by decide +kernel
theorem dX12_tried_163 : decode cX12_tried 163 = .ok (.goto 4, 3) := by decide +kernel
theorem dX12_tried_166 : decode cX12_tried 166 = .ok (.iconst 0, 1) := by decide +kernel
theorem dX12_tried_167 : decode cX12_tried 167 = .ok (.istore 5, 2) := by decide +kernel
theorem dX12_tried_169 : decode cX12_tried 169 = .ok (.iload_n 3, 1) := by decide +kernel
theorem dX12_tried_170 : decode cX12_tried 170 = .ok (.iload 5, 2) := by decide +kernel
theorem dX12_tried_172 : decode cX12_tried 172 = .ok (.ifCond .eq 7, 3) := by decide +kernel
theorem dX12_tried_175 : decode cX12_tried 175 = .ok (.iconst 1, 1) := by decide +kernel
theorem dX12_tried_176 : decode cX12_tried 176 = .ok (.goto 4, 3) := by decide +kernel
theorem dX12_tried_179 : decode cX12_tried 179 = .ok (.iconst 0, 1) := by decide +kernel
theorem dX12_tried_180 : decode cX12_tried 180 = .ok (.iadd, 1) := by decide +kernel
theorem dX12_tried_181 : decode cX12_tried 181 = .ok (.istore_n 3, 1) := by decide +kernel
theorem dX12_tried_182 : decode cX12_tried 182 = .ok (.iinc 4 1, 3) := by decide +kernel
theorem dX12_tried_185 : decode cX12_tried 185 = .ok (.goto (-130), 3) := by decide +kernel
theorem dX12_tried_188 : decode cX12_tried 188 = .ok (.iload_n 1, 1) := by decide +kernel
theorem dX12_tried_189 : decode cX12_tried 189 = .ok (.iconst 2, 1) := by decide +kernel
theorem dX12_tried_190 : decode cX12_tried 190 = .ok (.if_icmp .ne 32, 3) := by decide +kernel
theorem dX12_tried_193 : decode cX12_tried 193 = .ok (.aload_n 0, 1) := by decide +kernel
theorem dX12_tried_194 : decode cX12_tried 194 = .ok (.getfield 8, 3) := by decide +kernel
theorem dX12_tried_197 : decode cX12_tried 197 = .ok (.iconst 1, 1) := by decide +kernel
theorem dX12_tried_198 : decode cX12_tried 198 = .ok (.iaload, 1) := by decide +kernel
theorem dX12_tried_199 : decode cX12_tried 199 = .ok (.iconst 2, 1) := by decide +kernel
theorem dX12_tried_200 : decode cX12_tried 200 = .ok (.if_icmp .ge 8, 3) := by decide +kernel
theorem dX12_tried_203 : decode cX12_tried 203 = .ok (.bipush (-5), 2) := by decide +kernel
theorem dX12_tried_205 : decode cX12_tried 205 = .ok (.goto 16, 3) := by decide +kernel
theorem dX12_tried_208 : decode cX12_tried 208 = .ok (.aload_n 0, 1) := by decide +kernel
theorem dX12_tried_209 : decode cX12_tried 209 = .ok (.iconst 0, 1) := by decide +kernel
theorem dX12_tried_210 : decode cX12_tried 210 = .ok (.iconst 1, 1) := by decide +kernel
theorem dX12_tried_211 : decode cX12_tried 211 = .ok (.aload_n 0, 1) := by decide +kernel
theorem dX12_tried_212 : decode cX12_tried 212 = .ok (.getfield 8, 3) := by decide +kernel
theorem dX12_tried_215 : decode cX12_tried 215 = .ok (.iconst 0, 1) := by decide +kernel
theorem dX12_tried_216 : decode cX12_tried 216 = .ok (.iaload, 1) := by decide +kernel
theorem dX12_tried_217 : decode cX12_tried 217 = .ok (.iconst 0, 1) := by decide +kernel
theorem dX12_tried_218 : decode cX12_tried 218 = .ok (.invokevirtual 276, 3) := by decide +kernel
theorem dX12_tried_221 : decode cX12_tried 221 = .ok (.istore_n 3, 1) := by decide +kernel
theorem dX12_tried_222 : decode cX12_tried 222 = .ok (.aload_n 0, 1) := by decide +kernel
theorem dX12_tried_223 : decode cX12_tried 223 = .ok (.getfield 8, 3) := by decide +kernel
theorem dX12_tried_226 : decode cX12_tried 226 = .ok (.iconst 3, 1) := by decide +kernel
theorem dX12_tried_227 : decode cX12_tried 227 = .ok (.dup2, 1) := by decide +kernel
theorem dX12_tried_228 : decode cX12_tried 228 = .ok (.iaload, 1) := by decide +kernel
theorem dX12_tried_229 : decode cX12_tried 229 = .ok (.iconst 1, 1) := by decide +kernel
theorem dX12_tried_230 : decode cX12_tried 230 = .ok (.isub, 1) := by decide +kernel
theorem dX12_tried_231 : decode cX12_tried 231 = .ok (.iastore, 1) := by decide +kernel
theorem dX12_tried_232 : decode cX12_tried 232 = .ok (.iload_n 3, 1) := by decide +kernel
theorem dX12_tried_233 : decode cX12_tried 233 = .ok (.ireturn, 1) := by decide +kernel
theorem dX12_known_0 : decode cX12_known 0 = .ok (.aload_n 0, 1) := by decide +kernel
theorem dX12_known_1 : decode cX12_known 1 = .ok (.iload_n 1, 1) := by decide +kernel
theorem dX12_known_2 : decode cX12_known 2 = .ok (.invokevirtual 62, 3) := by decide +kernel
theorem dX12_known_5 : decode cX12_known 5 = .ok (.ifCond .eq 19, 3) := by decide +kernel
theorem dX12_known_8 : decode cX12_known 8 = .ok (.iload_n 2, 1) := by decide +kernel
theorem dX12_known_9 : decode cX12_known 9 = .ok (.iconst 0, 1) := by decide +kernel
theorem dX12_known_10 : decode cX12_known 10 = .ok (.aload_n 0, 1) := by decide +kernel
theorem dX12_known_11 : decode cX12_known 11 = .ok (.getfield 8, 3) := by decide +kernel
theorem dX12_known_14 : decode cX12_known 14 = .ok (.iconst 0, 1) := by decide +kernel
theorem dX12_known_15 : decode cX12_known 15 = .ok (.iaload, 1) := by decide +kernel
theorem dX12_known_16 : decode cX12_known 16 = .ok (.iconst 1, 1) := by decide +kernel
theorem dX12_known_17 : decode cX12_known 17 = .ok (.isub, 1) := by decide +kernel
theorem dX12_known_18 : decode cX12_known 18 = .ok (.invokestatic 58, 3) := by decide +kernel
theorem dX12_known_21 : decode cX12_known 21 = .ok (.ifCond .ne 5, 3) := by decide +kernel
theorem dX12_known_24 : decode cX12_known 24 = .ok (.iconst (-1), 1) := by decide +kernel
theorem dX12_known_25 : decode cX12_known 25 = .ok (.ireturn, 1) := by decide +kernel
theorem dX12_known_26 : decode cX12_known 26 = .ok (.aload_n 0, 1) := by decide +kernel
theorem dX12_known_27 : decode cX12_known 27 = .ok (.getfield 8, 3) := by decide +kernel
theorem dX12_known_30 : decode cX12_known 30 = .ok (.sipush 370, 3) := by decide +kernel
theorem dX12_known_33 : decode cX12_known 33 = .ok (.iload_n 1, 1) := by decide +kernel
theorem dX12_known_34 : decode cX12_known 34 = .ok (.iadd, 1) := by decide +kernel
theorem dX12_known_35 : decode cX12_known 35 = .ok (.iaload, 1) := by decide +kernel
theorem dX12_known_36 : decode cX12_known 36 = .ok (.istore_n 3, 1) := by decide +kernel
theorem dX12_known_37 : decode cX12_known 37 = .ok (.iload_n 3, 1) := by decide +kernel
theorem dX12_known_38 : decode cX12_known 38 = .ok (.iconst 1, 1) := by decide +kernel
theorem dX12_known_39 : decode cX12_known 39 = .ok (.if_icmp .ne 26, 3) := by decide +kernel
theorem dX12_known_42 : decode cX12_known 42 = .ok (.aload_n 0, 1) := by decide +kernel
theorem dX12_known_43 : decode cX12_known 43 = .ok (.getfield 8, 3) := by decide +kernel
theorem dX12_known_46 : decode cX12_known 46 = .ok (.sipush 11840, 3) := by decide +kernel
theorem dX12_known_49 : decode cX12_known 49 = .ok (.sipush 1000, 3) := by decide +kernel
theorem dX12_known_52 : decode cX12_known 52 = .ok (.aload_n 0, 1) := by decide +kernel
theorem dX12_known_53 : decode cX12_known 53 = .ok (.iload_n 1, 1) := by decide +kernel
theorem dX12_known_54 : decode cX12_known 54 = .ok (.invokevirtual 238, 3) := by decide +kernel
theorem dX12_known_57 : decode cX12_known 57 = .ok (.imul, 1) := by decide +kernel
theorem dX12_known_58 : decode cX12_known 58 = .ok (.iadd, 1) := by decide +kernel
theorem dX12_known_59 : decode cX12_known 59 = .ok (.iload_n 2, 1) := by decide +kernel
theorem dX12_known_60 : decode cX12_known 60 = .ok (.iadd, 1) := by decide +kernel
theorem dX12_known_61 : decode cX12_known 61 = .ok (.iaload, 1) := by decide +kernel
theorem dX12_known_62 : decode cX12_known 62 = .ok (.goto 28, 3) := by decide +kernel
theorem dX12_known_65 : decode cX12_known 65 = .ok (.iload_n 3, 1) := by decide +kernel
theorem dX12_known_66 : decode cX12_known 66 = .ok (.iconst 3, 1) := by decide +kernel
theorem dX12_known_67 : decode cX12_known 67 = .ok (.if_icmp .ne 22, 3) := by decide +kernel
theorem dX12_known_70 : decode cX12_known 70 = .ok (.aload_n 0, 1) := by decide +kernel
theorem dX12_known_71 : decode cX12_known 71 = .ok (.getfield 8, 3) := by decide +kernel
theorem dX12_known_74 : decode cX12_known 74 = .ok (.sipush 23840, 3) := by decide +kernel
theorem dX12_known_77 : decode cX12_known 77 = .ok (.sipush 1000, 3) := by decide +kernel
theorem dX12_known_80 : decode cX12_known 80 = .ok (.iload_n 1, 1) := by decide +kernel
theorem dX12_known_81 : decode cX12_known 81 = .ok (.imul, 1) := by decide +kernel
theorem dX12_known_82 : decode cX12_known 82 = .ok (.iadd, 1) := by decide +kernel
theorem dX12_known_83 : decode cX12_known 83 = .ok (.iload_n 2, 1) := by decide +kernel
theorem dX12_known_84 : decode cX12_known 84 = .ok (.iadd, 1) := by decide +kernel
theorem dX12_known_85 : decode cX12_known 85 = .ok (.iaload, 1) := by decide +kernel
theorem dX12_known_86 : decode cX12_known 86 = .ok (.goto 4, 3) := by decide +kernel
theorem dX12_known_89 : decode cX12_known 89 = .ok (.iconst (-1), 1) := by decide +kernel
theorem dX12_known_90 : decode cX12_known 90 = .ok (.ireturn, 1) := by decide +kernel
theorem dX12_image_0 : decode cX12_image 0 = .ok (.iconst 0, 1) := by decide +kernel
theorem dX12_image_1 : decode cX12_image 1 = .ok (.istore_n 1, 1) := by decide +kernel
theorem dX12_image_2 : decode cX12_image 2 = .ok (.iload_n 1, 1) := by decide +kernel
theorem dX12_image_3 : decode cX12_image 3 = .ok (.ldc 7, 2) := by decide +kernel
theorem dX12_image_5 : decode cX12_image 5 = .ok (.if_icmp .ge 21, 3) := by decide +kernel
theorem dX12_image_8 : decode cX12_image 8 = .ok (.aload_n 0, 1) := by decide +kernel
theorem dX12_image_9 : decode cX12_image 9 = .ok (.getfield 14, 3) := by decide +kernel
theorem dX12_image_12 : decode cX12_image 12 = .ok (.iload_n 1, 1) := by decide +kernel
theorem dX12_image_13 : decode cX12_image 13 = .ok (.aload_n 0, 1) := by decide +kernel
theorem dX12_image_14 : decode cX12_image 14 = .ok (.getfield 8, 3) := by decide +kernel
theorem dX12_image_17 : decode cX12_image 17 = .ok (.iload_n 1, 1) := by decide +kernel
theorem dX12_image_18 : decode cX12_image 18 = .ok (.iaload, 1) := by decide +kernel
theorem dX12_image_19 : decode cX12_image 19 = .ok (.iastore, 1) := by decide +kernel
theorem dX12_image_20 : decode cX12_image 20 = .ok (.iinc 1 1, 3) := by decide +kernel
theorem dX12_image_23 : decode cX12_image 23 = .ok (.goto (-21), 3) := by decide +kernel
theorem dX12_image_26 : decode cX12_image 26 = .ok (.aload_n 0, 1) := by decide +kernel
theorem dX12_image_27 : decode cX12_image 27 = .ok (.iconst 1, 1) := by decide +kernel
theorem dX12_image_28 : decode cX12_image 28 = .ok (.putfield 280, 3) := by decide +kernel
theorem dX12_image_31 : decode cX12_image 31 = .ok (.aload_n 0, 1) := by decide +kernel
theorem dX12_image_32 : decode cX12_image 32 = .ok (.getfield 8, 3) := by decide +kernel
theorem dX12_image_35 : decode cX12_image 35 = .ok (.iconst 0, 1) := by decide +kernel
theorem dX12_image_36 : decode cX12_image 36 = .ok (.iaload, 1) := by decide +kernel
theorem dX12_image_37 : decode cX12_image 37 = .ok (.ireturn, 1) := by decide +kernel
theorem dX12_undo_0 : decode cX12_undo 0 = .ok (.aload_n 0, 1) := by decide +kernel
theorem dX12_undo_1 : decode cX12_undo 1 = .ok (.getfield 280, 3) := by decide +kernel
theorem dX12_undo_4 : decode cX12_undo 4 = .ok (.ifCond .ne 6, 3) := by decide +kernel
theorem dX12_undo_7 : decode cX12_undo 7 = .ok (.bipush (-3), 2) := by decide +kernel
theorem dX12_undo_9 : decode cX12_undo 9 = .ok (.ireturn, 1) := by decide +kernel
theorem dX12_undo_10 : decode cX12_undo 10 = .ok (.iconst 0, 1) := by decide +kernel
theorem dX12_undo_11 : decode cX12_undo 11 = .ok (.istore_n 1, 1) := by decide +kernel
theorem dX12_undo_12 : decode cX12_undo 12 = .ok (.iload_n 1, 1) := by decide +kernel
theorem dX12_undo_13 : decode cX12_undo 13 = .ok (.ldc 7, 2) := by decide +kernel
theorem dX12_undo_15 : decode cX12_undo 15 = .ok (.if_icmp .ge 21, 3) := by decide +kernel
theorem dX12_undo_18 : decode cX12_undo 18 = .ok (.aload_n 0, 1) := by decide +kernel
theorem dX12_undo_19 : decode cX12_undo 19 = .ok (.getfield 8, 3) := by decide +kernel
theorem dX12_undo_22 : decode cX12_undo 22 = .ok (.iload_n 1, 1) := by decide +kernel
theorem dX12_undo_23 : decode cX12_undo 23 = .ok (.aload_n 0, 1) := by decide +kernel
theorem dX12_undo_24 : decode cX12_undo 24 = .ok (.getfield 14, 3) := by decide +kernel
theorem dX12_undo_27 : decode cX12_undo 27 = .ok (.iload_n 1, 1) := by decide +kernel
theorem dX12_undo_28 : decode cX12_undo 28 = .ok (.iaload, 1) := by decide +kernel
theorem dX12_undo_29 : decode cX12_undo 29 = .ok (.iastore, 1) := by decide +kernel
theorem dX12_undo_30 : decode cX12_undo 30 = .ok (.iinc 1 1, 3) := by decide +kernel
theorem dX12_undo_33 : decode cX12_undo 33 = .ok (.goto (-21), 3) := by decide +kernel
theorem dX12_undo_36 : decode cX12_undo 36 = .ok (.aload_n 0, 1) := by decide +kernel
theorem dX12_undo_37 : decode cX12_undo 37 = .ok (.getfield 8, 3) := by decide +kernel
theorem dX12_undo_40 : decode cX12_undo 40 = .ok (.iconst 0, 1) := by decide +kernel
theorem dX12_undo_41 : decode cX12_undo 41 = .ok (.iaload, 1) := by decide +kernel
theorem dX12_undo_42 : decode cX12_undo 42 = .ok (.ireturn, 1) := by decide +kernel
theorem dX12_count_0 : decode cX12_count 0 = .ok (.iconst 0, 1) := by decide +kernel
theorem dX12_count_1 : decode cX12_count 1 = .ok (.istore_n 2, 1) := by decide +kernel
theorem dX12_count_2 : decode cX12_count 2 = .ok (.iload_n 1, 1) := by decide +kernel
theorem dX12_count_3 : decode cX12_count 3 = .ok (.tableswitch 177 0 10 #[57, 64, 71, 78, 85, 92, 99, 104, 153, 161, 169], 57) := by decide +kernel
theorem dX12_count_60 : decode cX12_count 60 = .ok (.aload_n 0, 1) := by decide +kernel
theorem dX12_count_61 : decode cX12_count 61 = .ok (.getfield 8, 3) := by decide +kernel
theorem dX12_count_64 : decode cX12_count 64 = .ok (.iconst 1, 1) := by decide +kernel
theorem dX12_count_65 : decode cX12_count 65 = .ok (.iaload, 1) := by decide +kernel
theorem dX12_count_66 : decode cX12_count 66 = .ok (.ireturn, 1) := by decide +kernel
theorem dX12_count_67 : decode cX12_count 67 = .ok (.aload_n 0, 1) := by decide +kernel
theorem dX12_count_68 : decode cX12_count 68 = .ok (.getfield 8, 3) := by decide +kernel
theorem dX12_count_71 : decode cX12_count 71 = .ok (.iconst 2, 1) := by decide +kernel
theorem dX12_count_72 : decode cX12_count 72 = .ok (.iaload, 1) := by decide +kernel
theorem dX12_count_73 : decode cX12_count 73 = .ok (.ireturn, 1) := by decide +kernel
theorem dX12_count_74 : decode cX12_count 74 = .ok (.aload_n 0, 1) := by decide +kernel
theorem dX12_count_75 : decode cX12_count 75 = .ok (.getfield 8, 3) := by decide +kernel
theorem dX12_count_78 : decode cX12_count 78 = .ok (.iconst 3, 1) := by decide +kernel
theorem dX12_count_79 : decode cX12_count 79 = .ok (.iaload, 1) := by decide +kernel
theorem dX12_count_80 : decode cX12_count 80 = .ok (.ireturn, 1) := by decide +kernel
theorem dX12_count_81 : decode cX12_count 81 = .ok (.aload_n 0, 1) := by decide +kernel
theorem dX12_count_82 : decode cX12_count 82 = .ok (.getfield 8, 3) := by decide +kernel
theorem dX12_count_85 : decode cX12_count 85 = .ok (.iconst 0, 1) := by decide +kernel
theorem dX12_count_86 : decode cX12_count 86 = .ok (.iaload, 1) := by decide +kernel
theorem dX12_count_87 : decode cX12_count 87 = .ok (.ireturn, 1) := by decide +kernel
theorem dX12_count_88 : decode cX12_count 88 = .ok (.aload_n 0, 1) := by decide +kernel
theorem dX12_count_89 : decode cX12_count 89 = .ok (.getfield 8, 3) := by decide +kernel
theorem dX12_count_92 : decode cX12_count 92 = .ok (.iconst 4, 1) := by decide +kernel
theorem dX12_count_93 : decode cX12_count 93 = .ok (.iaload, 1) := by decide +kernel
theorem dX12_count_94 : decode cX12_count 94 = .ok (.ireturn, 1) := by decide +kernel
theorem dX12_count_95 : decode cX12_count 95 = .ok (.aload_n 0, 1) := by decide +kernel
theorem dX12_count_96 : decode cX12_count 96 = .ok (.getfield 8, 3) := by decide +kernel
theorem dX12_count_99 : decode cX12_count 99 = .ok (.iconst 5, 1) := by decide +kernel
theorem dX12_count_100 : decode cX12_count 100 = .ok (.iaload, 1) := by decide +kernel
theorem dX12_count_101 : decode cX12_count 101 = .ok (.ireturn, 1) := by decide +kernel
theorem dX12_count_102 : decode cX12_count 102 = .ok (.aload_n 0, 1) := by decide +kernel
theorem dX12_count_103 : decode cX12_count 103 = .ok (.invokevirtual 222, 3) := by decide +kernel
theorem dX12_count_106 : decode cX12_count 106 = .ok (.ireturn, 1) := by decide +kernel
theorem dX12_count_107 : decode cX12_count 107 = .ok (.iconst 0, 1) := by decide +kernel
theorem dX12_count_108 : decode cX12_count 108 = .ok (.istore_n 3, 1) := by decide +kernel
theorem dX12_count_109 : decode cX12_count 109 = .ok (.iload_n 3, 1) := by decide +kernel
theorem dX12_count_110 : decode cX12_count 110 = .ok (.aload_n 0, 1) := by decide +kernel
theorem dX12_count_111 : decode cX12_count 111 = .ok (.getfield 8, 3) := by decide +kernel
theorem dX12_count_114 : decode cX12_count 114 = .ok (.iconst 2, 1) := by decide +kernel
theorem dX12_count_115 : decode cX12_count 115 = .ok (.iaload, 1) := by decide +kernel
theorem dX12_count_116 : decode cX12_count 116 = .ok (.if_icmp .ge 38, 3) := by decide +kernel
theorem dX12_count_119 : decode cX12_count 119 = .ok (.iload_n 2, 1) := by decide +kernel
theorem dX12_count_120 : decode cX12_count 120 = .ok (.aload_n 0, 1) := by decide +kernel
theorem dX12_count_121 : decode cX12_count 121 = .ok (.iload_n 3, 1) := by decide +kernel
theorem dX12_count_122 : decode cX12_count 122 = .ok (.invokevirtual 219, 3) := by decide +kernel
theorem dX12_count_125 : decode cX12_count 125 = .ok (.ifCond .eq 20, 3) := by decide +kernel
theorem dX12_count_128 : decode cX12_count 128 = .ok (.aload_n 0, 1) := by decide +kernel
theorem dX12_count_129 : decode cX12_count 129 = .ok (.getfield 8, 3) := by decide +kernel
theorem dX12_count_132 : decode cX12_count 132 = .ok (.sipush 970, 3) := by decide +kernel
theorem dX12_count_135 : decode cX12_count 135 = .ok (.iload_n 3, 1) := by decide +kernel
theorem dX12_count_136 : decode cX12_count 136 = .ok (.iadd, 1) := by decide +kernel
theorem dX12_count_137 : decode cX12_count 137 = .ok (.iaload, 1) := by decide +kernel
theorem dX12_count_138 : decode cX12_count 138 = .ok (.ifCond .ne 7, 3) := by decide +kernel
theorem dX12_count_141 : decode cX12_count 141 = .ok (.iconst 1, 1) := by decide +kernel
theorem dX12_count_142 : decode cX12_count 142 = .ok (.goto 4, 3) := by decide +kernel
theorem dX12_count_145 : decode cX12_count 145 = .ok (.iconst 0, 1) := by decide +kernel
theorem dX12_count_146 : decode cX12_count 146 = .ok (.iadd, 1) := by decide +kernel
theorem dX12_count_147 : decode cX12_count 147 = .ok (.istore_n 2, 1) := by decide +kernel
theorem dX12_count_148 : decode cX12_count 148 = .ok (.iinc 3 1, 3) := by decide +kernel
theorem dX12_count_151 : decode cX12_count 151 = .ok (.goto (-42), 3) := by decide +kernel
theorem dX12_count_154 : decode cX12_count 154 = .ok (.iload_n 2, 1) := by decide +kernel
theorem dX12_count_155 : decode cX12_count 155 = .ok (.ireturn, 1) := by decide +kernel
theorem dX12_count_156 : decode cX12_count 156 = .ok (.aload_n 0, 1) := by decide +kernel
theorem dX12_count_157 : decode cX12_count 157 = .ok (.getfield 8, 3) := by decide +kernel
theorem dX12_count_160 : decode cX12_count 160 = .ok (.bipush 7, 2) := by decide +kernel
theorem dX12_count_162 : decode cX12_count 162 = .ok (.iaload, 1) := by decide +kernel
theorem dX12_count_163 : decode cX12_count 163 = .ok (.ireturn, 1) := by decide +kernel
theorem dX12_count_164 : decode cX12_count 164 = .ok (.aload_n 0, 1) := by decide +kernel
theorem dX12_count_165 : decode cX12_count 165 = .ok (.getfield 8, 3) := by decide +kernel
theorem dX12_count_168 : decode cX12_count 168 = .ok (.bipush 8, 2) := by decide +kernel
theorem dX12_count_170 : decode cX12_count 170 = .ok (.iaload, 1) := by decide +kernel
theorem dX12_count_171 : decode cX12_count 171 = .ok (.ireturn, 1) := by decide +kernel
theorem dX12_count_172 : decode cX12_count 172 = .ok (.aload_n 0, 1) := by decide +kernel
theorem dX12_count_173 : decode cX12_count 173 = .ok (.getfield 8, 3) := by decide +kernel
theorem dX12_count_176 : decode cX12_count 176 = .ok (.bipush 6, 2) := by decide +kernel
theorem dX12_count_178 : decode cX12_count 178 = .ok (.iaload, 1) := by decide +kernel
theorem dX12_count_179 : decode cX12_count 179 = .ok (.ireturn, 1) := by decide +kernel
theorem dX12_count_180 : decode cX12_count 180 = .ok (.iconst (-1), 1) := by decide +kernel
theorem dX12_count_181 : decode cX12_count 181 = .ok (.ireturn, 1) := by decide +kernel
theorem dX12_sheet_0 : decode cX12_sheet 0 = .ok (.iload_n 1, 1) := by decide +kernel
theorem dX12_sheet_1 : decode cX12_sheet 1 = .ok (.invokestatic 168, 3) := by decide +kernel
theorem dX12_sheet_4 : decode cX12_sheet 4 = .ok (.ifCond .ne 5, 3) := by decide +kernel
theorem dX12_sheet_7 : decode cX12_sheet 7 = .ok (.iconst (-1), 1) := by decide +kernel
theorem dX12_sheet_8 : decode cX12_sheet 8 = .ok (.ireturn, 1) := by decide +kernel
theorem dX12_sheet_9 : decode cX12_sheet 9 = .ok (.iload_n 2, 1) := by decide +kernel
theorem dX12_sheet_10 : decode cX12_sheet 10 = .ok (.iconst (-1), 1) := by decide +kernel
theorem dX12_sheet_11 : decode cX12_sheet 11 = .ok (.iconst 2, 1) := by decide +kernel
theorem dX12_sheet_12 : decode cX12_sheet 12 = .ok (.invokestatic 58, 3) := by decide +kernel
theorem dX12_sheet_15 : decode cX12_sheet 15 = .ok (.ifCond .eq 14, 3) := by decide +kernel
theorem dX12_sheet_18 : decode cX12_sheet 18 = .ok (.iload_n 2, 1) := by decide +kernel
theorem dX12_sheet_19 : decode cX12_sheet 19 = .ok (.iconst (-1), 1) := by decide +kernel
theorem dX12_sheet_20 : decode cX12_sheet 20 = .ok (.if_icmp .eq 12, 3) := by decide +kernel
theorem dX12_sheet_23 : decode cX12_sheet 23 = .ok (.iload_n 3, 1) := by decide +kernel
theorem dX12_sheet_24 : decode cX12_sheet 24 = .ok (.bipush 40, 2) := by decide +kernel
theorem dX12_sheet_26 : decode cX12_sheet 26 = .ok (.if_icmp .le 6, 3) := by decide +kernel
theorem dX12_sheet_29 : decode cX12_sheet 29 = .ok (.bipush (-2), 2) := by decide +kernel
theorem dX12_sheet_31 : decode cX12_sheet 31 = .ok (.ireturn, 1) := by decide +kernel
theorem dX12_sheet_32 : decode cX12_sheet 32 = .ok (.iload_n 2, 1) := by decide +kernel
theorem dX12_sheet_33 : decode cX12_sheet 33 = .ok (.iconst (-1), 1) := by decide +kernel
theorem dX12_sheet_34 : decode cX12_sheet 34 = .ok (.if_icmp .eq 10, 3) := by decide +kernel
theorem dX12_sheet_37 : decode cX12_sheet 37 = .ok (.iload_n 3, 1) := by decide +kernel
theorem dX12_sheet_38 : decode cX12_sheet 38 = .ok (.ifCond .ge 6, 3) := by decide +kernel
theorem dX12_sheet_41 : decode cX12_sheet 41 = .ok (.bipush (-14), 2) := by decide +kernel
theorem dX12_sheet_43 : decode cX12_sheet 43 = .ok (.ireturn, 1) := by decide +kernel
theorem dX12_sheet_44 : decode cX12_sheet 44 = .ok (.aload_n 0, 1) := by decide +kernel
theorem dX12_sheet_45 : decode cX12_sheet 45 = .ok (.getfield 8, 3) := by decide +kernel
theorem dX12_sheet_48 : decode cX12_sheet 48 = .ok (.sipush 200, 3) := by decide +kernel
theorem dX12_sheet_51 : decode cX12_sheet 51 = .ok (.iload_n 1, 1) := by decide +kernel
theorem dX12_sheet_52 : decode cX12_sheet 52 = .ok (.iadd, 1) := by decide +kernel
theorem dX12_sheet_53 : decode cX12_sheet 53 = .ok (.iload_n 2, 1) := by decide +kernel
theorem dX12_sheet_54 : decode cX12_sheet 54 = .ok (.iastore, 1) := by decide +kernel
theorem dX12_sheet_55 : decode cX12_sheet 55 = .ok (.aload_n 0, 1) := by decide +kernel
theorem dX12_sheet_56 : decode cX12_sheet 56 = .ok (.getfield 8, 3) := by decide +kernel
theorem dX12_sheet_59 : decode cX12_sheet 59 = .ok (.sipush 204, 3) := by decide +kernel
theorem dX12_sheet_62 : decode cX12_sheet 62 = .ok (.iload_n 1, 1) := by decide +kernel
theorem dX12_sheet_63 : decode cX12_sheet 63 = .ok (.iadd, 1) := by decide +kernel
theorem dX12_sheet_64 : decode cX12_sheet 64 = .ok (.iload_n 2, 1) := by decide +kernel
theorem dX12_sheet_65 : decode cX12_sheet 65 = .ok (.iconst (-1), 1) := by decide +kernel
theorem dX12_sheet_66 : decode cX12_sheet 66 = .ok (.if_icmp .ne 7, 3) := by decide +kernel
theorem dX12_sheet_69 : decode cX12_sheet 69 = .ok (.iconst 0, 1) := by decide +kernel
theorem dX12_sheet_70 : decode cX12_sheet 70 = .ok (.goto 4, 3) := by decide +kernel
theorem dX12_sheet_73 : decode cX12_sheet 73 = .ok (.iload_n 3, 1) := by decide +kernel
theorem dX12_sheet_74 : decode cX12_sheet 74 = .ok (.iastore, 1) := by decide +kernel
theorem dX12_sheet_75 : decode cX12_sheet 75 = .ok (.iconst 0, 1) := by decide +kernel
theorem dX12_sheet_76 : decode cX12_sheet 76 = .ok (.istore 4, 2) := by decide +kernel
theorem dX12_sheet_78 : decode cX12_sheet 78 = .ok (.iload 4, 2) := by decide +kernel
theorem dX12_sheet_80 : decode cX12_sheet 80 = .ok (.bipush 40, 2) := by decide +kernel
theorem dX12_sheet_82 : decode cX12_sheet 82 = .ok (.if_icmp .ge 26, 3) := by decide +kernel
theorem dX12_sheet_85 : decode cX12_sheet 85 = .ok (.aload_n 0, 1) := by decide +kernel
theorem dX12_sheet_86 : decode cX12_sheet 86 = .ok (.getfield 8, 3) := by decide +kernel
theorem dX12_sheet_89 : decode cX12_sheet 89 = .ok (.sipush 208, 3) := by decide +kernel
theorem dX12_sheet_92 : decode cX12_sheet 92 = .ok (.bipush 40, 2) := by decide +kernel
theorem dX12_sheet_94 : decode cX12_sheet 94 = .ok (.iload_n 1, 1) := by decide +kernel
theorem dX12_sheet_95 : decode cX12_sheet 95 = .ok (.imul, 1) := by decide +kernel
theorem dX12_sheet_96 : decode cX12_sheet 96 = .ok (.iadd, 1) := by decide +kernel
theorem dX12_sheet_97 : decode cX12_sheet 97 = .ok (.iload 4, 2) := by decide +kernel
theorem dX12_sheet_99 : decode cX12_sheet 99 = .ok (.iadd, 1) := by decide +kernel
theorem dX12_sheet_100 : decode cX12_sheet 100 = .ok (.iconst 0, 1) := by decide +kernel
theorem dX12_sheet_101 : decode cX12_sheet 101 = .ok (.iastore, 1) := by decide +kernel
theorem dX12_sheet_102 : decode cX12_sheet 102 = .ok (.iinc 4 1, 3) := by decide +kernel
theorem dX12_sheet_105 : decode cX12_sheet 105 = .ok (.goto (-27), 3) := by decide +kernel
theorem dX12_sheet_108 : decode cX12_sheet 108 = .ok (.iconst 1, 1) := by decide +kernel
theorem dX12_sheet_109 : decode cX12_sheet 109 = .ok (.ireturn, 1) := by decide +kernel
theorem dX12_item_0 : decode cX12_item 0 = .ok (.iload_n 1, 1) := by decide +kernel
theorem dX12_item_1 : decode cX12_item 1 = .ok (.invokestatic 168, 3) := by decide +kernel
theorem dX12_item_4 : decode cX12_item 4 = .ok (.ifCond .ne 5, 3) := by decide +kernel
theorem dX12_item_7 : decode cX12_item 7 = .ok (.iconst (-1), 1) := by decide +kernel
theorem dX12_item_8 : decode cX12_item 8 = .ok (.ireturn, 1) := by decide +kernel
theorem dX12_item_9 : decode cX12_item 9 = .ok (.aload_n 0, 1) := by decide +kernel
theorem dX12_item_10 : decode cX12_item 10 = .ok (.getfield 8, 3) := by decide +kernel
theorem dX12_item_13 : decode cX12_item 13 = .ok (.sipush 200, 3) := by decide +kernel
theorem dX12_item_16 : decode cX12_item 16 = .ok (.iload_n 1, 1) := by decide +kernel
theorem dX12_item_17 : decode cX12_item 17 = .ok (.iadd, 1) := by decide +kernel
theorem dX12_item_18 : decode cX12_item 18 = .ok (.iaload, 1) := by decide +kernel
theorem dX12_item_19 : decode cX12_item 19 = .ok (.istore 4, 2) := by decide +kernel
theorem dX12_item_21 : decode cX12_item 21 = .ok (.iload 4, 2) := by decide +kernel
theorem dX12_item_23 : decode cX12_item 23 = .ok (.iconst (-1), 1) := by decide +kernel
theorem dX12_item_24 : decode cX12_item 24 = .ok (.if_icmp .ne 6, 3) := by decide +kernel
theorem dX12_item_27 : decode cX12_item 27 = .ok (.bipush (-11), 2) := by decide +kernel
theorem dX12_item_29 : decode cX12_item 29 = .ok (.ireturn, 1) := by decide +kernel
theorem dX12_item_30 : decode cX12_item 30 = .ok (.iload_n 2, 1) := by decide +kernel
theorem dX12_item_31 : decode cX12_item 31 = .ok (.iconst 0, 1) := by decide +kernel
theorem dX12_item_32 : decode cX12_item 32 = .ok (.aload_n 0, 1) := by decide +kernel
theorem dX12_item_33 : decode cX12_item 33 = .ok (.getfield 8, 3) := by decide +kernel
theorem dX12_item_36 : decode cX12_item 36 = .ok (.sipush 204, 3) := by decide +kernel
theorem dX12_item_39 : decode cX12_item 39 = .ok (.iload_n 1, 1) := by decide +kernel
theorem dX12_item_40 : decode cX12_item 40 = .ok (.iadd, 1) := by decide +kernel
theorem dX12_item_41 : decode cX12_item 41 = .ok (.iaload, 1) := by decide +kernel
theorem dX12_item_42 : decode cX12_item 42 = .ok (.iconst 1, 1) := by decide +kernel
theorem dX12_item_43 : decode cX12_item 43 = .ok (.isub, 1) := by decide +kernel
theorem dX12_item_44 : decode cX12_item 44 = .ok (.invokestatic 58, 3) := by decide +kernel
theorem dX12_item_47 : decode cX12_item 47 = .ok (.ifCond .ne 6, 3) := by decide +kernel
theorem dX12_item_50 : decode cX12_item 50 = .ok (.bipush (-12), 2) := by decide +kernel
theorem dX12_item_52 : decode cX12_item 52 = .ok (.ireturn, 1) := by decide +kernel
theorem dX12_item_53 : decode cX12_item 53 = .ok (.aload_n 0, 1) := by decide +kernel
theorem dX12_item_54 : decode cX12_item 54 = .ok (.getfield 8, 3) := by decide +kernel
theorem dX12_item_57 : decode cX12_item 57 = .ok (.sipush 208, 3) := by decide +kernel
theorem dX12_item_60 : decode cX12_item 60 = .ok (.bipush 40, 2) := by decide +kernel
theorem dX12_item_62 : decode cX12_item 62 = .ok (.iload_n 1, 1) := by decide +kernel
theorem dX12_item_63 : decode cX12_item 63 = .ok (.imul, 1) := by decide +kernel
theorem dX12_item_64 : decode cX12_item 64 = .ok (.iadd, 1) := by decide +kernel
theorem dX12_item_65 : decode cX12_item 65 = .ok (.iload_n 2, 1) := by decide +kernel
theorem dX12_item_66 : decode cX12_item 66 = .ok (.iadd, 1) := by decide +kernel
theorem dX12_item_67 : decode cX12_item 67 = .ok (.iload 4, 2) := by decide +kernel
theorem dX12_item_69 : decode cX12_item 69 = .ok (.ifCond .ne 8, 3) := by decide +kernel
theorem dX12_item_72 : decode cX12_item 72 = .ok (.iload_n 3, 1) := by decide +kernel
theorem dX12_item_73 : decode cX12_item 73 = .ok (.i2b, 1) := by decide +kernel
theorem dX12_item_74 : decode cX12_item 74 = .ok (.goto 15, 3) := by decide +kernel
theorem dX12_item_77 : decode cX12_item 77 = .ok (.iload 4, 2) := by decide +kernel
theorem dX12_item_79 : decode cX12_item 79 = .ok (.iconst 1, 1) := by decide +kernel
theorem dX12_item_80 : decode cX12_item 80 = .ok (.if_icmp .ne 8, 3) := by decide +kernel
theorem dX12_item_83 : decode cX12_item 83 = .ok (.iload_n 3, 1) := by decide +kernel
theorem dX12_item_84 : decode cX12_item 84 = .ok (.i2s, 1) := by decide +kernel
theorem dX12_item_85 : decode cX12_item 85 = .ok (.goto 4, 3) := by decide +kernel
theorem dX12_item_88 : decode cX12_item 88 = .ok (.iload_n 3, 1) := by decide +kernel
theorem dX12_item_89 : decode cX12_item 89 = .ok (.iastore, 1) := by decide +kernel
theorem dX12_item_90 : decode cX12_item 90 = .ok (.iconst 1, 1) := by decide +kernel
theorem dX12_item_91 : decode cX12_item 91 = .ok (.ireturn, 1) := by decide +kernel
theorem dX12_copy_0 : decode cX12_copy 0 = .ok (.iload_n 1, 1) := by decide +kernel
theorem dX12_copy_1 : decode cX12_copy 1 = .ok (.invokestatic 168, 3) := by decide +kernel
theorem dX12_copy_4 : decode cX12_copy 4 = .ok (.ifCond .eq 10, 3) := by decide +kernel
theorem dX12_copy_7 : decode cX12_copy 7 = .ok (.iload_n 3, 1) := by decide +kernel
theorem dX12_copy_8 : decode cX12_copy 8 = .ok (.invokestatic 168, 3) := by decide +kernel
theorem dX12_copy_11 : decode cX12_copy 11 = .ok (.ifCond .ne 5, 3) := by decide +kernel
theorem dX12_copy_14 : decode cX12_copy 14 = .ok (.iconst (-1), 1) := by decide +kernel
theorem dX12_copy_15 : decode cX12_copy 15 = .ok (.ireturn, 1) := by decide +kernel
theorem dX12_copy_16 : decode cX12_copy 16 = .ok (.aload_n 0, 1) := by decide +kernel
theorem dX12_copy_17 : decode cX12_copy 17 = .ok (.getfield 8, 3) := by decide +kernel
theorem dX12_copy_20 : decode cX12_copy 20 = .ok (.sipush 200, 3) := by decide +kernel
theorem dX12_copy_23 : decode cX12_copy 23 = .ok (.iload_n 1, 1) := by decide +kernel
theorem dX12_copy_24 : decode cX12_copy 24 = .ok (.iadd, 1) := by decide +kernel
theorem dX12_copy_25 : decode cX12_copy 25 = .ok (.iaload, 1) := by decide +kernel
theorem dX12_copy_26 : decode cX12_copy 26 = .ok (.iconst (-1), 1) := by decide +kernel
theorem dX12_copy_27 : decode cX12_copy 27 = .ok (.if_icmp .eq 17, 3) := by decide +kernel
theorem dX12_copy_30 : decode cX12_copy 30 = .ok (.aload_n 0, 1) := by decide +kernel
theorem dX12_copy_31 : decode cX12_copy 31 = .ok (.getfield 8, 3) := by decide +kernel
theorem dX12_copy_34 : decode cX12_copy 34 = .ok (.sipush 200, 3) := by decide +kernel
theorem dX12_copy_37 : decode cX12_copy 37 = .ok (.iload_n 3, 1) := by decide +kernel
theorem dX12_copy_38 : decode cX12_copy 38 = .ok (.iadd, 1) := by decide +kernel
theorem dX12_copy_39 : decode cX12_copy 39 = .ok (.iaload, 1) := by decide +kernel
theorem dX12_copy_40 : decode cX12_copy 40 = .ok (.iconst (-1), 1) := by decide +kernel
theorem dX12_copy_41 : decode cX12_copy 41 = .ok (.if_icmp .ne 6, 3) := by decide +kernel
theorem dX12_copy_44 : decode cX12_copy 44 = .ok (.bipush (-11), 2) := by decide +kernel
theorem dX12_copy_46 : decode cX12_copy 46 = .ok (.ireturn, 1) := by decide +kernel
theorem dX12_copy_47 : decode cX12_copy 47 = .ok (.aload_n 0, 1) := by decide +kernel
theorem dX12_copy_48 : decode cX12_copy 48 = .ok (.getfield 8, 3) := by decide +kernel
theorem dX12_copy_51 : decode cX12_copy 51 = .ok (.sipush 200, 3) := by decide +kernel
theorem dX12_copy_54 : decode cX12_copy 54 = .ok (.iload_n 1, 1) := by decide +kernel
theorem dX12_copy_55 : decode cX12_copy 55 = .ok (.iadd, 1) := by decide +kernel
theorem dX12_copy_56 : decode cX12_copy 56 = .ok (.iaload, 1) := by decide +kernel
theorem dX12_copy_57 : decode cX12_copy 57 = .ok (.aload_n 0, 1) := by decide +kernel
theorem dX12_copy_58 : decode cX12_copy 58 = .ok (.getfield 8, 3) := by decide +kernel
theorem dX12_copy_61 : decode cX12_copy 61 = .ok (.sipush 200, 3) := by decide +kernel
theorem dX12_copy_64 : decode cX12_copy 64 = .ok (.iload_n 3, 1) := by decide +kernel
theorem dX12_copy_65 : decode cX12_copy 65 = .ok (.iadd, 1) := by decide +kernel
theorem dX12_copy_66 : decode cX12_copy 66 = .ok (.iaload, 1) := by decide +kernel
theorem dX12_copy_67 : decode cX12_copy 67 = .ok (.if_icmp .eq 6, 3) := by decide +kernel
theorem dX12_copy_70 : decode cX12_copy 70 = .ok (.bipush (-13), 2) := by decide +kernel
theorem dX12_copy_72 : decode cX12_copy 72 = .ok (.ireturn, 1) := by decide +kernel
theorem dX12_copy_73 : decode cX12_copy 73 = .ok (.iload 5, 2) := by decide +kernel
theorem dX12_copy_75 : decode cX12_copy 75 = .ok (.ifCond .lt 47, 3) := by decide +kernel
theorem dX12_copy_78 : decode cX12_copy 78 = .ok (.iload_n 2, 1) := by decide +kernel
theorem dX12_copy_79 : decode cX12_copy 79 = .ok (.ifCond .lt 43, 3) := by decide +kernel
theorem dX12_copy_82 : decode cX12_copy 82 = .ok (.iload 4, 2) := by decide +kernel
theorem dX12_copy_84 : decode cX12_copy 84 = .ok (.ifCond .lt 38, 3) := by decide +kernel
theorem dX12_copy_87 : decode cX12_copy 87 = .ok (.iload 5, 2) := by decide +kernel
theorem dX12_copy_89 : decode cX12_copy 89 = .ok (.aload_n 0, 1) := by decide +kernel
theorem dX12_copy_90 : decode cX12_copy 90 = .ok (.getfield 8, 3) := by decide +kernel
theorem dX12_copy_93 : decode cX12_copy 93 = .ok (.sipush 204, 3) := by decide +kernel
theorem dX12_copy_96 : decode cX12_copy 96 = .ok (.iload_n 1, 1) := by decide +kernel
theorem dX12_copy_97 : decode cX12_copy 97 = .ok (.iadd, 1) := by decide +kernel
theorem dX12_copy_98 : decode cX12_copy 98 = .ok (.iaload, 1) := by decide +kernel
theorem dX12_copy_99 : decode cX12_copy 99 = .ok (.iload_n 2, 1) := by decide +kernel
theorem dX12_copy_100 : decode cX12_copy 100 = .ok (.isub, 1) := by decide +kernel
theorem dX12_copy_101 : decode cX12_copy 101 = .ok (.if_icmp .gt 21, 3) := by decide +kernel
theorem dX12_copy_104 : decode cX12_copy 104 = .ok (.iload 5, 2) := by decide +kernel
theorem dX12_copy_106 : decode cX12_copy 106 = .ok (.aload_n 0, 1) := by decide +kernel
theorem dX12_copy_107 : decode cX12_copy 107 = .ok (.getfield 8, 3) := by decide +kernel
theorem dX12_copy_110 : decode cX12_copy 110 = .ok (.sipush 204, 3) := by decide +kernel
theorem dX12_copy_113 : decode cX12_copy 113 = .ok (.iload_n 3, 1) := by decide +kernel
theorem dX12_copy_114 : decode cX12_copy 114 = .ok (.iadd, 1) := by decide +kernel
theorem dX12_copy_115 : decode cX12_copy 115 = .ok (.iaload, 1) := by decide +kernel
theorem dX12_copy_116 : decode cX12_copy 116 = .ok (.iload 4, 2) := by decide +kernel
theorem dX12_copy_118 : decode cX12_copy 118 = .ok (.isub, 1) := by decide +kernel
theorem dX12_copy_119 : decode cX12_copy 119 = .ok (.if_icmp .le 6, 3) := by decide +kernel
theorem dX12_copy_122 : decode cX12_copy 122 = .ok (.bipush (-12), 2) := by decide +kernel
theorem dX12_copy_124 : decode cX12_copy 124 = .ok (.ireturn, 1) := by decide +kernel
theorem dX12_copy_125 : decode cX12_copy 125 = .ok (.iconst 0, 1) := by decide +kernel
theorem dX12_copy_126 : decode cX12_copy 126 = .ok (.istore 6, 2) := by decide +kernel
theorem dX12_copy_128 : decode cX12_copy 128 = .ok (.iload 6, 2) := by decide +kernel
theorem dX12_copy_130 : decode cX12_copy 130 = .ok (.iload 5, 2) := by decide +kernel
theorem dX12_copy_132 : decode cX12_copy 132 = .ok (.if_icmp .ge 34, 3) := by decide +kernel
theorem dX12_copy_135 : decode cX12_copy 135 = .ok (.aload_n 0, 1) := by decide +kernel
theorem dX12_copy_136 : decode cX12_copy 136 = .ok (.getfield 51, 3) := by decide +kernel
theorem dX12_copy_139 : decode cX12_copy 139 = .ok (.iload 6, 2) := by decide +kernel
theorem dX12_copy_141 : decode cX12_copy 141 = .ok (.aload_n 0, 1) := by decide +kernel
theorem dX12_copy_142 : decode cX12_copy 142 = .ok (.getfield 8, 3) := by decide +kernel
theorem dX12_copy_145 : decode cX12_copy 145 = .ok (.sipush 208, 3) := by decide +kernel
theorem dX12_copy_148 : decode cX12_copy 148 = .ok (.bipush 40, 2) := by decide +kernel
theorem dX12_copy_150 : decode cX12_copy 150 = .ok (.iload_n 1, 1) := by decide +kernel
theorem dX12_copy_151 : decode cX12_copy 151 = .ok (.imul, 1) := by decide +kernel
