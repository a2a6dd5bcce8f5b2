theorem dX0_init_0 : decode cX0_init 0 = .ok (.aload_n 0, 1) := by decide +kernel
theorem dX0_init_1 : decode cX0_init 1 = .ok (.invokespecial 3, 3) := by decide +kernel
theorem dX0_init_4 : decode cX0_init 4 = .ok (.aload_n 0, 1) := by decide +kernel
theorem dX0_init_5 : decode cX0_init 5 = .ok (.bipush 96, 2) := by decide +kernel
theorem dX0_init_7 : decode cX0_init 7 = .ok (.newarray .int, 2) := by decide +kernel
theorem dX0_init_9 : decode cX0_init 9 = .ok (.putfield 9, 3) := by decide +kernel
theorem dX0_init_12 : decode cX0_init 12 = .ok (.aload_n 0, 1) := by decide +kernel
theorem dX0_init_13 : decode cX0_init 13 = .ok (.bipush 96, 2) := by decide +kernel
theorem dX0_init_15 : decode cX0_init 15 = .ok (.newarray .int, 2) := by decide +kernel
theorem dX0_init_17 : decode cX0_init 17 = .ok (.putfield 15, 3) := by decide +kernel
theorem dX0_init_20 : decode cX0_init 20 = .ok (.aload_n 0, 1) := by decide +kernel
theorem dX0_init_21 : decode cX0_init 21 = .ok (.bipush 96, 2) := by decide +kernel
theorem dX0_init_23 : decode cX0_init 23 = .ok (.newarray .int, 2) := by decide +kernel
theorem dX0_init_25 : decode cX0_init 25 = .ok (.putfield 18, 3) := by decide +kernel
theorem dX0_init_28 : decode cX0_init 28 = .ok (.aload_n 0, 1) := by decide +kernel
theorem dX0_init_29 : decode cX0_init 29 = .ok (.bipush 96, 2) := by decide +kernel
theorem dX0_init_31 : decode cX0_init 31 = .ok (.newarray .int, 2) := by decide +kernel
theorem dX0_init_33 : decode cX0_init 33 = .ok (.putfield 21, 3) := by decide +kernel
theorem dX0_init_36 : decode cX0_init 36 = .ok (.aload_n 0, 1) := by decide +kernel
theorem dX0_init_37 : decode cX0_init 37 = .ok (.bipush 20, 2) := by decide +kernel
theorem dX0_init_39 : decode cX0_init 39 = .ok (.newarray .int, 2) := by decide +kernel
theorem dX0_init_41 : decode cX0_init 41 = .ok (.putfield 24, 3) := by decide +kernel
theorem dX0_init_44 : decode cX0_init 44 = .ok (.aload_n 0, 1) := by decide +kernel
theorem dX0_init_45 : decode cX0_init 45 = .ok (.bipush 20, 2) := by decide +kernel
theorem dX0_init_47 : decode cX0_init 47 = .ok (.newarray .int, 2) := by decide +kernel
theorem dX0_init_49 : decode cX0_init 49 = .ok (.putfield 27, 3) := by decide +kernel
theorem dX0_init_52 : decode cX0_init 52 = .ok (.return_, 1) := by decide +kernel
theorem dX0_reckon_0 : decode cX0_reckon 0 = .ok (.aload_n 0, 1) := by decide +kernel
theorem dX0_reckon_1 : decode cX0_reckon 1 = .ok (.aload_n 1, 1) := by decide +kernel
theorem dX0_reckon_2 : decode cX0_reckon 2 = .ok (.getfield 30, 3) := by decide +kernel
theorem dX0_reckon_5 : decode cX0_reckon 5 = .ok (.putfield 36, 3) := by decide +kernel
theorem dX0_reckon_8 : decode cX0_reckon 8 = .ok (.aload_n 0, 1) := by decide +kernel
theorem dX0_reckon_9 : decode cX0_reckon 9 = .ok (.aload_n 1, 1) := by decide +kernel
theorem dX0_reckon_10 : decode cX0_reckon 10 = .ok (.aload_n 2, 1) := by decide +kernel
theorem dX0_reckon_11 : decode cX0_reckon 11 = .ok (.invokevirtual 37, 3) := by decide +kernel
theorem dX0_reckon_14 : decode cX0_reckon 14 = .ok (.aload_n 0, 1) := by decide +kernel
theorem dX0_reckon_15 : decode cX0_reckon 15 = .ok (.invokevirtual 41, 3) := by decide +kernel
theorem dX0_reckon_18 : decode cX0_reckon 18 = .ok (.aload_n 0, 1) := by decide +kernel
theorem dX0_reckon_19 : decode cX0_reckon 19 = .ok (.getfield 18, 3) := by decide +kernel
theorem dX0_reckon_22 : decode cX0_reckon 22 = .ok (.iconst 0, 1) := by decide +kernel
theorem dX0_reckon_23 : decode cX0_reckon 23 = .ok (.invokestatic 44, 3) := by decide +kernel
theorem dX0_reckon_26 : decode cX0_reckon 26 = .ok (.aload_n 0, 1) := by decide +kernel
theorem dX0_reckon_27 : decode cX0_reckon 27 = .ok (.getfield 21, 3) := by decide +kernel
theorem dX0_reckon_30 : decode cX0_reckon 30 = .ok (.iconst 0, 1) := by decide +kernel
theorem dX0_reckon_31 : decode cX0_reckon 31 = .ok (.invokestatic 44, 3) := by decide +kernel
theorem dX0_reckon_34 : decode cX0_reckon 34 = .ok (.iconst 1, 1) := by decide +kernel
theorem dX0_reckon_35 : decode cX0_reckon 35 = .ok (.istore_n 3, 1) := by decide +kernel
theorem dX0_reckon_36 : decode cX0_reckon 36 = .ok (.iconst 0, 1) := by decide +kernel
theorem dX0_reckon_37 : decode cX0_reckon 37 = .ok (.istore 4, 2) := by decide +kernel
theorem dX0_reckon_39 : decode cX0_reckon 39 = .ok (.iload 4, 2) := by decide +kernel
theorem dX0_reckon_41 : decode cX0_reckon 41 = .ok (.sipush 300, 3) := by decide +kernel
theorem dX0_reckon_44 : decode cX0_reckon 44 = .ok (.if_icmp .ge 23, 3) := by decide +kernel
theorem dX0_reckon_47 : decode cX0_reckon 47 = .ok (.iload_n 3, 1) := by decide +kernel
theorem dX0_reckon_48 : decode cX0_reckon 48 = .ok (.ifCond .eq 19, 3) := by decide +kernel
theorem dX0_reckon_51 : decode cX0_reckon 51 = .ok (.aload_n 0, 1) := by decide +kernel
theorem dX0_reckon_52 : decode cX0_reckon 52 = .ok (.invokevirtual 50, 3) := by decide +kernel
theorem dX0_reckon_55 : decode cX0_reckon 55 = .ok (.aload_n 0, 1) := by decide +kernel
theorem dX0_reckon_56 : decode cX0_reckon 56 = .ok (.aload_n 2, 1) := by decide +kernel
theorem dX0_reckon_57 : decode cX0_reckon 57 = .ok (.invokevirtual 53, 3) := by decide +kernel
theorem dX0_reckon_60 : decode cX0_reckon 60 = .ok (.istore_n 3, 1) := by decide +kernel
theorem dX0_reckon_61 : decode cX0_reckon 61 = .ok (.iinc 4 1, 3) := by decide +kernel
theorem dX0_reckon_64 : decode cX0_reckon 64 = .ok (.goto (-25), 3) := by decide +kernel
theorem dX0_reckon_67 : decode cX0_reckon 67 = .ok (.return_, 1) := by decide +kernel
theorem dX0_gather_0 : decode cX0_gather 0 = .ok (.aload_n 0, 1) := by decide +kernel
theorem dX0_gather_1 : decode cX0_gather 1 = .ok (.getfield 9, 3) := by decide +kernel
theorem dX0_gather_4 : decode cX0_gather 4 = .ok (.iconst 0, 1) := by decide +kernel
theorem dX0_gather_5 : decode cX0_gather 5 = .ok (.invokestatic 44, 3) := by decide +kernel
theorem dX0_gather_8 : decode cX0_gather 8 = .ok (.aload_n 0, 1) := by decide +kernel
theorem dX0_gather_9 : decode cX0_gather 9 = .ok (.getfield 15, 3) := by decide +kernel
theorem dX0_gather_12 : decode cX0_gather 12 = .ok (.iconst 0, 1) := by decide +kernel
theorem dX0_gather_13 : decode cX0_gather 13 = .ok (.invokestatic 44, 3) := by decide +kernel
theorem dX0_gather_16 : decode cX0_gather 16 = .ok (.iconst 0, 1) := by decide +kernel
theorem dX0_gather_17 : decode cX0_gather 17 = .ok (.istore_n 3, 1) := by decide +kernel
theorem dX0_gather_18 : decode cX0_gather 18 = .ok (.iload_n 3, 1) := by decide +kernel
theorem dX0_gather_19 : decode cX0_gather 19 = .ok (.aload_n 1, 1) := by decide +kernel
theorem dX0_gather_20 : decode cX0_gather 20 = .ok (.getfield 57, 3) := by decide +kernel
theorem dX0_gather_23 : decode cX0_gather 23 = .ok (.if_icmp .ge 149, 3) := by decide +kernel
theorem dX0_gather_26 : decode cX0_gather 26 = .ok (.aload_n 1, 1) := by decide +kernel
theorem dX0_gather_27 : decode cX0_gather 27 = .ok (.iload_n 3, 1) := by decide +kernel
theorem dX0_gather_28 : decode cX0_gather 28 = .ok (.invokevirtual 60, 3) := by decide +kernel
theorem dX0_gather_31 : decode cX0_gather 31 = .ok (.astore 4, 2) := by decide +kernel
theorem dX0_gather_33 : decode cX0_gather 33 = .ok (.aload 4, 2) := by decide +kernel
theorem dX0_gather_35 : decode cX0_gather 35 = .ok (.ifnonnull 7, 3) := by decide +kernel
theorem dX0_gather_38 : decode cX0_gather 38 = .ok (.aconst_null, 1) := by decide +kernel
theorem dX0_gather_39 : decode cX0_gather 39 = .ok (.goto 12, 3) := by decide +kernel
theorem dX0_gather_42 : decode cX0_gather 42 = .ok (.aload_n 1, 1) := by decide +kernel
theorem dX0_gather_43 : decode cX0_gather 43 = .ok (.aload 4, 2) := by decide +kernel
theorem dX0_gather_45 : decode cX0_gather 45 = .ok (.getfield 64, 3) := by decide +kernel
theorem dX0_gather_48 : decode cX0_gather 48 = .ok (.invokevirtual 60, 3) := by decide +kernel
theorem dX0_gather_51 : decode cX0_gather 51 = .ok (.astore 5, 2) := by decide +kernel
theorem dX0_gather_53 : decode cX0_gather 53 = .ok (.aload 5, 2) := by decide +kernel
theorem dX0_gather_55 : decode cX0_gather 55 = .ok (.ifnull 111, 3) := by decide +kernel
theorem dX0_gather_58 : decode cX0_gather 58 = .ok (.aload_n 1, 1) := by decide +kernel
theorem dX0_gather_59 : decode cX0_gather 59 = .ok (.iload_n 3, 1) := by decide +kernel
theorem dX0_gather_60 : decode cX0_gather 60 = .ok (.invokevirtual 69, 3) := by decide +kernel
theorem dX0_gather_63 : decode cX0_gather 63 = .ok (.ifCond .eq 6, 3) := by decide +kernel
theorem dX0_gather_66 : decode cX0_gather 66 = .ok (.goto 100, 3) := by decide +kernel
theorem dX0_gather_69 : decode cX0_gather 69 = .ok (.aload 4, 2) := by decide +kernel
theorem dX0_gather_71 : decode cX0_gather 71 = .ok (.getfield 73, 3) := by decide +kernel
theorem dX0_gather_74 : decode cX0_gather 74 = .ok (.iconst 5, 1) := by decide +kernel
theorem dX0_gather_75 : decode cX0_gather 75 = .ok (.if_icmp .ne 30, 3) := by decide +kernel
theorem dX0_gather_78 : decode cX0_gather 78 = .ok (.aload_n 0, 1) := by decide +kernel
theorem dX0_gather_79 : decode cX0_gather 79 = .ok (.getfield 15, 3) := by decide +kernel
theorem dX0_gather_82 : decode cX0_gather 82 = .ok (.aload 4, 2) := by decide +kernel
theorem dX0_gather_84 : decode cX0_gather 84 = .ok (.getfield 76, 3) := by decide +kernel
theorem dX0_gather_87 : decode cX0_gather 87 = .ok (.bipush 12, 2) := by decide +kernel
theorem dX0_gather_89 : decode cX0_gather 89 = .ok (.imul, 1) := by decide +kernel
theorem dX0_gather_90 : decode cX0_gather 90 = .ok (.aload 5, 2) := by decide +kernel
theorem dX0_gather_92 : decode cX0_gather 92 = .ok (.getfield 79, 3) := by decide +kernel
theorem dX0_gather_95 : decode cX0_gather 95 = .ok (.iadd, 1) := by decide +kernel
theorem dX0_gather_96 : decode cX0_gather 96 = .ok (.dup2, 1) := by decide +kernel
theorem dX0_gather_97 : decode cX0_gather 97 = .ok (.iaload, 1) := by decide +kernel
theorem dX0_gather_98 : decode cX0_gather 98 = .ok (.aload 4, 2) := by decide +kernel
theorem dX0_gather_100 : decode cX0_gather 100 = .ok (.getfield 82, 3) := by decide +kernel
theorem dX0_gather_103 : decode cX0_gather 103 = .ok (.iadd, 1) := by decide +kernel
theorem dX0_gather_104 : decode cX0_gather 104 = .ok (.iastore, 1) := by decide +kernel
theorem dX0_gather_105 : decode cX0_gather 105 = .ok (.iconst 0, 1) := by decide +kernel
theorem dX0_gather_106 : decode cX0_gather 106 = .ok (.istore 6, 2) := by decide +kernel
theorem dX0_gather_108 : decode cX0_gather 108 = .ok (.iload 6, 2) := by decide +kernel
theorem dX0_gather_110 : decode cX0_gather 110 = .ok (.bipush 8, 2) := by decide +kernel
theorem dX0_gather_112 : decode cX0_gather 112 = .ok (.if_icmp .ge 54, 3) := by decide +kernel
theorem dX0_gather_115 : decode cX0_gather 115 = .ok (.aload 4, 2) := by decide +kernel
theorem dX0_gather_117 : decode cX0_gather 117 = .ok (.getfield 73, 3) := by decide +kernel
theorem dX0_gather_120 : decode cX0_gather 120 = .ok (.iconst 4, 1) := by decide +kernel
theorem dX0_gather_121 : decode cX0_gather 121 = .ok (.if_icmp .ne 45, 3) := by decide +kernel
theorem dX0_gather_124 : decode cX0_gather 124 = .ok (.aload_n 0, 1) := by decide +kernel
theorem dX0_gather_125 : decode cX0_gather 125 = .ok (.getfield 9, 3) := by decide +kernel
theorem dX0_gather_128 : decode cX0_gather 128 = .ok (.iload 6, 2) := by decide +kernel
theorem dX0_gather_130 : decode cX0_gather 130 = .ok (.bipush 12, 2) := by decide +kernel
theorem dX0_gather_132 : decode cX0_gather 132 = .ok (.imul, 1) := by decide +kernel
theorem dX0_gather_133 : decode cX0_gather 133 = .ok (.aload 5, 2) := by decide +kernel
theorem dX0_gather_135 : decode cX0_gather 135 = .ok (.getfield 79, 3) := by decide +kernel
theorem dX0_gather_138 : decode cX0_gather 138 = .ok (.iadd, 1) := by decide +kernel
theorem dX0_gather_139 : decode cX0_gather 139 = .ok (.dup2, 1) := by decide +kernel
theorem dX0_gather_140 : decode cX0_gather 140 = .ok (.iaload, 1) := by decide +kernel
theorem dX0_gather_141 : decode cX0_gather 141 = .ok (.aload 4, 2) := by decide +kernel
theorem dX0_gather_143 : decode cX0_gather 143 = .ok (.getfield 82, 3) := by decide +kernel
theorem dX0_gather_146 : decode cX0_gather 146 = .ok (.aload_n 2, 1) := by decide +kernel
theorem dX0_gather_147 : decode cX0_gather 147 = .ok (.aload 5, 2) := by decide +kernel
theorem dX0_gather_149 : decode cX0_gather 149 = .ok (.getfield 79, 3) := by decide +kernel
theorem dX0_gather_152 : decode cX0_gather 152 = .ok (.iload 6, 2) := by decide +kernel
theorem dX0_gather_154 : decode cX0_gather 154 = .ok (.invokevirtual 85, 3) := by decide +kernel
theorem dX0_gather_157 : decode cX0_gather 157 = .ok (.imul, 1) := by decide +kernel
theorem dX0_gather_158 : decode cX0_gather 158 = .ok (.iadd, 1) := by decide +kernel
theorem dX0_gather_159 : decode cX0_gather 159 = .ok (.iastore, 1) := by decide +kernel
theorem dX0_gather_160 : decode cX0_gather 160 = .ok (.iinc 6 1, 3) := by decide +kernel
theorem dX0_gather_163 : decode cX0_gather 163 = .ok (.goto (-55), 3) := by decide +kernel
theorem dX0_gather_166 : decode cX0_gather 166 = .ok (.iinc 3 1, 3) := by decide +kernel
theorem dX0_gather_169 : decode cX0_gather 169 = .ok (.goto (-151), 3) := by decide +kernel
theorem dX0_gather_172 : decode cX0_gather 172 = .ok (.return_, 1) := by decide +kernel
theorem dX0_addUpDue_0 : decode cX0_addUpDue 0 = .ok (.aload_n 0, 1) := by decide +kernel
theorem dX0_addUpDue_1 : decode cX0_addUpDue 1 = .ok (.getfield 24, 3) := by decide +kernel
theorem dX0_addUpDue_4 : decode cX0_addUpDue 4 = .ok (.iconst 0, 1) := by decide +kernel
theorem dX0_addUpDue_5 : decode cX0_addUpDue 5 = .ok (.invokestatic 44, 3) := by decide +kernel
theorem dX0_addUpDue_8 : decode cX0_addUpDue 8 = .ok (.iconst 0, 1) := by decide +kernel
theorem dX0_addUpDue_9 : decode cX0_addUpDue 9 = .ok (.istore_n 1, 1) := by decide +kernel
theorem dX0_addUpDue_10 : decode cX0_addUpDue 10 = .ok (.iload_n 1, 1) := by decide +kernel
theorem dX0_addUpDue_11 : decode cX0_addUpDue 11 = .ok (.aload_n 0, 1) := by decide +kernel
theorem dX0_addUpDue_12 : decode cX0_addUpDue 12 = .ok (.getfield 9, 3) := by decide +kernel
theorem dX0_addUpDue_15 : decode cX0_addUpDue 15 = .ok (.arraylength, 1) := by decide +kernel
theorem dX0_addUpDue_16 : decode cX0_addUpDue 16 = .ok (.if_icmp .ge 48, 3) := by decide +kernel
theorem dX0_addUpDue_19 : decode cX0_addUpDue 19 = .ok (.aload_n 0, 1) := by decide +kernel
theorem dX0_addUpDue_20 : decode cX0_addUpDue 20 = .ok (.getfield 24, 3) := by decide +kernel
theorem dX0_addUpDue_23 : decode cX0_addUpDue 23 = .ok (.iload_n 1, 1) := by decide +kernel
theorem dX0_addUpDue_24 : decode cX0_addUpDue 24 = .ok (.bipush 12, 2) := by decide +kernel
theorem dX0_addUpDue_26 : decode cX0_addUpDue 26 = .ok (.idiv, 1) := by decide +kernel
theorem dX0_addUpDue_27 : decode cX0_addUpDue 27 = .ok (.dup2, 1) := by decide +kernel
theorem dX0_addUpDue_28 : decode cX0_addUpDue 28 = .ok (.iaload, 1) := by decide +kernel
theorem dX0_addUpDue_29 : decode cX0_addUpDue 29 = .ok (.aload_n 0, 1) := by decide +kernel
theorem dX0_addUpDue_30 : decode cX0_addUpDue 30 = .ok (.getfield 9, 3) := by decide +kernel
theorem dX0_addUpDue_33 : decode cX0_addUpDue 33 = .ok (.iload_n 1, 1) := by decide +kernel
theorem dX0_addUpDue_34 : decode cX0_addUpDue 34 = .ok (.iaload, 1) := by decide +kernel
theorem dX0_addUpDue_35 : decode cX0_addUpDue 35 = .ok (.iadd, 1) := by decide +kernel
theorem dX0_addUpDue_36 : decode cX0_addUpDue 36 = .ok (.iastore, 1) := by decide +kernel
theorem dX0_addUpDue_37 : decode cX0_addUpDue 37 = .ok (.aload_n 0, 1) := by decide +kernel
theorem dX0_addUpDue_38 : decode cX0_addUpDue 38 = .ok (.getfield 24, 3) := by decide +kernel
theorem dX0_addUpDue_41 : decode cX0_addUpDue 41 = .ok (.bipush 8, 2) := by decide +kernel
theorem dX0_addUpDue_43 : decode cX0_addUpDue 43 = .ok (.iload_n 1, 1) := by decide +kernel
theorem dX0_addUpDue_44 : decode cX0_addUpDue 44 = .ok (.bipush 12, 2) := by decide +kernel
theorem dX0_addUpDue_46 : decode cX0_addUpDue 46 = .ok (.irem, 1) := by decide +kernel
theorem dX0_addUpDue_47 : decode cX0_addUpDue 47 = .ok (.iadd, 1) := by decide +kernel
theorem dX0_addUpDue_48 : decode cX0_addUpDue 48 = .ok (.dup2, 1) := by decide +kernel
theorem dX0_addUpDue_49 : decode cX0_addUpDue 49 = .ok (.iaload, 1) := by decide +kernel
theorem dX0_addUpDue_50 : decode cX0_addUpDue 50 = .ok (.aload_n 0, 1) := by decide +kernel
theorem dX0_addUpDue_51 : decode cX0_addUpDue 51 = .ok (.getfield 15, 3) := by decide +kernel
theorem dX0_addUpDue_54 : decode cX0_addUpDue 54 = .ok (.iload_n 1, 1) := by decide +kernel
theorem dX0_addUpDue_55 : decode cX0_addUpDue 55 = .ok (.iaload, 1) := by decide +kernel
theorem dX0_addUpDue_56 : decode cX0_addUpDue 56 = .ok (.iadd, 1) := by decide +kernel
theorem dX0_addUpDue_57 : decode cX0_addUpDue 57 = .ok (.iastore, 1) := by decide +kernel
theorem dX0_addUpDue_58 : decode cX0_addUpDue 58 = .ok (.iinc 1 1, 3) := by decide +kernel
theorem dX0_addUpDue_61 : decode cX0_addUpDue 61 = .ok (.goto (-51), 3) := by decide +kernel
theorem dX0_addUpDue_64 : decode cX0_addUpDue 64 = .ok (.return_, 1) := by decide +kernel
theorem dX0_addUpIncome_0 : decode cX0_addUpIncome 0 = .ok (.aload_n 0, 1) := by decide +kernel
theorem dX0_addUpIncome_1 : decode cX0_addUpIncome 1 = .ok (.getfield 27, 3) := by decide +kernel
theorem dX0_addUpIncome_4 : decode cX0_addUpIncome 4 = .ok (.iconst 0, 1) := by decide +kernel
theorem dX0_addUpIncome_5 : decode cX0_addUpIncome 5 = .ok (.invokestatic 44, 3) := by decide +kernel
theorem dX0_addUpIncome_8 : decode cX0_addUpIncome 8 = .ok (.iconst 0, 1) := by decide +kernel
theorem dX0_addUpIncome_9 : decode cX0_addUpIncome 9 = .ok (.istore_n 1, 1) := by decide +kernel
theorem dX0_addUpIncome_10 : decode cX0_addUpIncome 10 = .ok (.iload_n 1, 1) := by decide +kernel
theorem dX0_addUpIncome_11 : decode cX0_addUpIncome 11 = .ok (.bipush 8, 2) := by decide +kernel
theorem dX0_addUpIncome_13 : decode cX0_addUpIncome 13 = .ok (.if_icmp .ge 68, 3) := by decide +kernel
theorem dX0_addUpIncome_16 : decode cX0_addUpIncome 16 = .ok (.iconst 0, 1) := by decide +kernel
theorem dX0_addUpIncome_17 : decode cX0_addUpIncome 17 = .ok (.istore_n 2, 1) := by decide +kernel
theorem dX0_addUpIncome_18 : decode cX0_addUpIncome 18 = .ok (.iload_n 2, 1) := by decide +kernel
theorem dX0_addUpIncome_19 : decode cX0_addUpIncome 19 = .ok (.aload_n 0, 1) := by decide +kernel
theorem dX0_addUpIncome_20 : decode cX0_addUpIncome 20 = .ok (.getfield 36, 3) := by decide +kernel
theorem dX0_addUpIncome_23 : decode cX0_addUpIncome 23 = .ok (.if_icmp .ge 52, 3) := by decide +kernel
theorem dX0_addUpIncome_26 : decode cX0_addUpIncome 26 = .ok (.aload_n 0, 1) := by decide +kernel
theorem dX0_addUpIncome_27 : decode cX0_addUpIncome 27 = .ok (.getfield 27, 3) := by decide +kernel
theorem dX0_addUpIncome_30 : decode cX0_addUpIncome 30 = .ok (.iload_n 1, 1) := by decide +kernel
theorem dX0_addUpIncome_31 : decode cX0_addUpIncome 31 = .ok (.dup2, 1) := by decide +kernel
theorem dX0_addUpIncome_32 : decode cX0_addUpIncome 32 = .ok (.iaload, 1) := by decide +kernel
theorem dX0_addUpIncome_33 : decode cX0_addUpIncome 33 = .ok (.aload_n 0, 1) := by decide +kernel
theorem dX0_addUpIncome_34 : decode cX0_addUpIncome 34 = .ok (.getfield 21, 3) := by decide +kernel
theorem dX0_addUpIncome_37 : decode cX0_addUpIncome 37 = .ok (.iload_n 1, 1) := by decide +kernel
theorem dX0_addUpIncome_38 : decode cX0_addUpIncome 38 = .ok (.bipush 12, 2) := by decide +kernel
theorem dX0_addUpIncome_40 : decode cX0_addUpIncome 40 = .ok (.imul, 1) := by decide +kernel
theorem dX0_addUpIncome_41 : decode cX0_addUpIncome 41 = .ok (.iload_n 2, 1) := by decide +kernel
theorem dX0_addUpIncome_42 : decode cX0_addUpIncome 42 = .ok (.iadd, 1) := by decide +kernel
theorem dX0_addUpIncome_43 : decode cX0_addUpIncome 43 = .ok (.iaload, 1) := by decide +kernel
theorem dX0_addUpIncome_44 : decode cX0_addUpIncome 44 = .ok (.iadd, 1) := by decide +kernel
theorem dX0_addUpIncome_45 : decode cX0_addUpIncome 45 = .ok (.iastore, 1) := by decide +kernel
theorem dX0_addUpIncome_46 : decode cX0_addUpIncome 46 = .ok (.aload_n 0, 1) := by decide +kernel
theorem dX0_addUpIncome_47 : decode cX0_addUpIncome 47 = .ok (.getfield 27, 3) := by decide +kernel
theorem dX0_addUpIncome_50 : decode cX0_addUpIncome 50 = .ok (.bipush 8, 2) := by decide +kernel
theorem dX0_addUpIncome_52 : decode cX0_addUpIncome 52 = .ok (.iload_n 2, 1) := by decide +kernel
theorem dX0_addUpIncome_53 : decode cX0_addUpIncome 53 = .ok (.iadd, 1) := by decide +kernel
theorem dX0_addUpIncome_54 : decode cX0_addUpIncome 54 = .ok (.dup2, 1) := by decide +kernel
theorem dX0_addUpIncome_55 : decode cX0_addUpIncome 55 = .ok (.iaload, 1) := by decide +kernel
theorem dX0_addUpIncome_56 : decode cX0_addUpIncome 56 = .ok (.aload_n 0, 1) := by decide +kernel
theorem dX0_addUpIncome_57 : decode cX0_addUpIncome 57 = .ok (.getfield 18, 3) := by decide +kernel
theorem dX0_addUpIncome_60 : decode cX0_addUpIncome 60 = .ok (.iload_n 1, 1) := by decide +kernel
theorem dX0_addUpIncome_61 : decode cX0_addUpIncome 61 = .ok (.bipush 12, 2) := by decide +kernel
theorem dX0_addUpIncome_63 : decode cX0_addUpIncome 63 = .ok (.imul, 1) := by decide +kernel
theorem dX0_addUpIncome_64 : decode cX0_addUpIncome 64 = .ok (.iload_n 2, 1) := by decide +kernel
theorem dX0_addUpIncome_65 : decode cX0_addUpIncome 65 = .ok (.iadd, 1) := by decide +kernel
theorem dX0_addUpIncome_66 : decode cX0_addUpIncome 66 = .ok (.iaload, 1) := by decide +kernel
theorem dX0_addUpIncome_67 : decode cX0_addUpIncome 67 = .ok (.iadd, 1) := by decide +kernel
theorem dX0_addUpIncome_68 : decode cX0_addUpIncome 68 = .ok (.iastore, 1) := by decide +kernel
theorem dX0_addUpIncome_69 : decode cX0_addUpIncome 69 = .ok (.iinc 2 1, 3) := by decide +kernel
theorem dX0_addUpIncome_72 : decode cX0_addUpIncome 72 = .ok (.goto (-54), 3) := by decide +kernel
theorem dX0_addUpIncome_75 : decode cX0_addUpIncome 75 = .ok (.iinc 1 1, 3) := by decide +kernel
theorem dX0_addUpIncome_78 : decode cX0_addUpIncome 78 = .ok (.goto (-68), 3) := by decide +kernel
theorem dX0_addUpIncome_81 : decode cX0_addUpIncome 81 = .ok (.return_, 1) := by decide +kernel
theorem dX0_payOnce_0 : decode cX0_payOnce 0 = .ok (.iconst 0, 1) := by decide +kernel
theorem dX0_payOnce_1 : decode cX0_payOnce 1 = .ok (.istore_n 2, 1) := by decide +kernel
theorem dX0_payOnce_2 : decode cX0_payOnce 2 = .ok (.iconst 0, 1) := by decide +kernel
theorem dX0_payOnce_3 : decode cX0_payOnce 3 = .ok (.istore_n 3, 1) := by decide +kernel
theorem dX0_payOnce_4 : decode cX0_payOnce 4 = .ok (.iload_n 3, 1) := by decide +kernel
theorem dX0_payOnce_5 : decode cX0_payOnce 5 = .ok (.bipush 8, 2) := by decide +kernel
theorem dX0_payOnce_7 : decode cX0_payOnce 7 = .ok (.if_icmp .ge 122, 3) := by decide +kernel
theorem dX0_payOnce_10 : decode cX0_payOnce 10 = .ok (.iconst 0, 1) := by decide +kernel
theorem dX0_payOnce_11 : decode cX0_payOnce 11 = .ok (.istore 4, 2) := by decide +kernel
theorem dX0_payOnce_13 : decode cX0_payOnce 13 = .ok (.iload 4, 2) := by decide +kernel
theorem dX0_payOnce_15 : decode cX0_payOnce 15 = .ok (.aload_n 0, 1) := by decide +kernel
theorem dX0_payOnce_16 : decode cX0_payOnce 16 = .ok (.getfield 36, 3) := by decide +kernel
theorem dX0_payOnce_19 : decode cX0_payOnce 19 = .ok (.if_icmp .ge 104, 3) := by decide +kernel
theorem dX0_payOnce_22 : decode cX0_payOnce 22 = .ok (.iload_n 3, 1) := by decide +kernel
theorem dX0_payOnce_23 : decode cX0_payOnce 23 = .ok (.bipush 12, 2) := by decide +kernel
theorem dX0_payOnce_25 : decode cX0_payOnce 25 = .ok (.imul, 1) := by decide +kernel
theorem dX0_payOnce_26 : decode cX0_payOnce 26 = .ok (.iload 4, 2) := by decide +kernel
theorem dX0_payOnce_28 : decode cX0_payOnce 28 = .ok (.iadd, 1) := by decide +kernel
theorem dX0_payOnce_29 : decode cX0_payOnce 29 = .ok (.istore 5, 2) := by decide +kernel
theorem dX0_payOnce_31 : decode cX0_payOnce 31 = .ok (.aload_n 0, 1) := by decide +kernel
theorem dX0_payOnce_32 : decode cX0_payOnce 32 = .ok (.aload_n 1, 1) := by decide +kernel
theorem dX0_payOnce_33 : decode cX0_payOnce 33 = .ok (.iload_n 3, 1) := by decide +kernel
theorem dX0_payOnce_34 : decode cX0_payOnce 34 = .ok (.aload_n 0, 1) := by decide +kernel
theorem dX0_payOnce_35 : decode cX0_payOnce 35 = .ok (.getfield 9, 3) := by decide +kernel
theorem dX0_payOnce_38 : decode cX0_payOnce 38 = .ok (.iload 5, 2) := by decide +kernel
theorem dX0_payOnce_40 : decode cX0_payOnce 40 = .ok (.iaload, 1) := by decide +kernel
theorem dX0_payOnce_41 : decode cX0_payOnce 41 = .ok (.invokevirtual 91, 3) := by decide +kernel
theorem dX0_payOnce_44 : decode cX0_payOnce 44 = .ok (.istore 6, 2) := by decide +kernel
theorem dX0_payOnce_46 : decode cX0_payOnce 46 = .ok (.aload_n 0, 1) := by decide +kernel
theorem dX0_payOnce_47 : decode cX0_payOnce 47 = .ok (.aload_n 1, 1) := by decide +kernel
theorem dX0_payOnce_48 : decode cX0_payOnce 48 = .ok (.bipush 8, 2) := by decide +kernel
theorem dX0_payOnce_50 : decode cX0_payOnce 50 = .ok (.iload 4, 2) := by decide +kernel
theorem dX0_payOnce_52 : decode cX0_payOnce 52 = .ok (.iadd, 1) := by decide +kernel
theorem dX0_payOnce_53 : decode cX0_payOnce 53 = .ok (.aload_n 0, 1) := by decide +kernel
theorem dX0_payOnce_54 : decode cX0_payOnce 54 = .ok (.getfield 15, 3) := by decide +kernel
theorem dX0_payOnce_57 : decode cX0_payOnce 57 = .ok (.iload 5, 2) := by decide +kernel
theorem dX0_payOnce_59 : decode cX0_payOnce 59 = .ok (.iaload, 1) := by decide +kernel
theorem dX0_payOnce_60 : decode cX0_payOnce 60 = .ok (.invokevirtual 91, 3) := by decide +kernel
theorem dX0_payOnce_63 : decode cX0_payOnce 63 = .ok (.istore 7, 2) := by decide +kernel
theorem dX0_payOnce_65 : decode cX0_payOnce 65 = .ok (.iload_n 2, 1) := by decide +kernel
theorem dX0_payOnce_66 : decode cX0_payOnce 66 = .ok (.ifCond .ne 27, 3) := by decide +kernel
theorem dX0_payOnce_69 : decode cX0_payOnce 69 = .ok (.iload 6, 2) := by decide +kernel
theorem dX0_payOnce_71 : decode cX0_payOnce 71 = .ok (.aload_n 0, 1) := by decide +kernel
theorem dX0_payOnce_72 : decode cX0_payOnce 72 = .ok (.getfield 18, 3) := by decide +kernel
theorem dX0_payOnce_75 : decode cX0_payOnce 75 = .ok (.iload 5, 2) := by decide +kernel
theorem dX0_payOnce_77 : decode cX0_payOnce 77 = .ok (.iaload, 1) := by decide +kernel
theorem dX0_payOnce_78 : decode cX0_payOnce 78 = .ok (.if_icmp .ne 15, 3) := by decide +kernel
theorem dX0_payOnce_81 : decode cX0_payOnce 81 = .ok (.iload 7, 2) := by decide +kernel
theorem dX0_payOnce_83 : decode cX0_payOnce 83 = .ok (.aload_n 0, 1) := by decide +kernel
theorem dX0_payOnce_84 : decode cX0_payOnce 84 = .ok (.getfield 21, 3) := by decide +kernel
theorem dX0_payOnce_87 : decode cX0_payOnce 87 = .ok (.iload 5, 2) := by decide +kernel
theorem dX0_payOnce_89 : decode cX0_payOnce 89 = .ok (.iaload, 1) := by decide +kernel
theorem dX0_payOnce_90 : decode cX0_payOnce 90 = .ok (.if_icmp .eq 7, 3) := by decide +kernel
theorem dX0_payOnce_93 : decode cX0_payOnce 93 = .ok (.iconst 1, 1) := by decide +kernel
theorem dX0_payOnce_94 : decode cX0_payOnce 94 = .ok (.goto 4, 3) := by decide +kernel
theorem dX0_payOnce_97 : decode cX0_payOnce 97 = .ok (.iconst 0, 1) := by decide +kernel
theorem dX0_payOnce_98 : decode cX0_payOnce 98 = .ok (.istore_n 2, 1) := by decide +kernel
theorem dX0_payOnce_99 : decode cX0_payOnce 99 = .ok (.aload_n 0, 1) := by decide +kernel
theorem dX0_payOnce_100 : decode cX0_payOnce 100 = .ok (.getfield 18, 3) := by decide +kernel
theorem dX0_payOnce_103 : decode cX0_payOnce 103 = .ok (.iload 5, 2) := by decide +kernel
theorem dX0_payOnce_105 : decode cX0_payOnce 105 = .ok (.iload 6, 2) := by decide +kernel
theorem dX0_payOnce_107 : decode cX0_payOnce 107 = .ok (.iastore, 1) := by decide +kernel
theorem dX0_payOnce_108 : decode cX0_payOnce 108 = .ok (.aload_n 0, 1) := by decide +kernel
theorem dX0_payOnce_109 : decode cX0_payOnce 109 = .ok (.getfield 21, 3) := by decide +kernel
theorem dX0_payOnce_112 : decode cX0_payOnce 112 = .ok (.iload 5, 2) := by decide +kernel
theorem dX0_payOnce_114 : decode cX0_payOnce 114 = .ok (.iload 7, 2) := by decide +kernel
theorem dX0_payOnce_116 : decode cX0_payOnce 116 = .ok (.iastore, 1) := by decide +kernel
theorem dX0_payOnce_117 : decode cX0_payOnce 117 = .ok (.iinc 4 1, 3) := by decide +kernel
theorem dX0_payOnce_120 : decode cX0_payOnce 120 = .ok (.goto (-107), 3) := by decide +kernel
theorem dX0_payOnce_123 : decode cX0_payOnce 123 = .ok (.iinc 3 1, 3) := by decide +kernel
theorem dX0_payOnce_126 : decode cX0_payOnce 126 = .ok (.goto (-122), 3) := by decide +kernel
theorem dX0_payOnce_129 : decode cX0_payOnce 129 = .ok (.iload_n 2, 1) := by decide +kernel
theorem dX0_payOnce_130 : decode cX0_payOnce 130 = .ok (.ireturn, 1) := by decide +kernel
theorem dX0_part_0 : decode cX0_part 0 = .ok (.iload_n 3, 1) := by decide +kernel
theorem dX0_part_1 : decode cX0_part 1 = .ok (.ifCond .eq 12, 3) := by decide +kernel
theorem dX0_part_4 : decode cX0_part 4 = .ok (.aload_n 0, 1) := by decide +kernel
theorem dX0_part_5 : decode cX0_part 5 = .ok (.getfield 24, 3) := by decide +kernel
theorem dX0_part_8 : decode cX0_part 8 = .ok (.iload_n 2, 1) := by decide +kernel
theorem dX0_part_9 : decode cX0_part 9 = .ok (.iaload, 1) := by decide +kernel
theorem dX0_part_10 : decode cX0_part 10 = .ok (.ifCond .ne 5, 3) := by decide +kernel
theorem dX0_part_13 : decode cX0_part 13 = .ok (.iconst 0, 1) := by decide +kernel
theorem dX0_part_14 : decode cX0_part 14 = .ok (.ireturn, 1) := by decide +kernel
theorem dX0_part_15 : decode cX0_part 15 = .ok (.aload_n 0, 1) := by decide +kernel
theorem dX0_part_16 : decode cX0_part 16 = .ok (.getfield 24, 3) := by decide +kernel
theorem dX0_part_19 : decode cX0_part 19 = .ok (.iload_n 2, 1) := by decide +kernel
theorem dX0_part_20 : decode cX0_part 20 = .ok (.iaload, 1) := by decide +kernel
theorem dX0_part_21 : decode cX0_part 21 = .ok (.i2l, 1) := by decide +kernel
theorem dX0_part_22 : decode cX0_part 22 = .ok (.aload_n 1, 1) := by decide +kernel
theorem dX0_part_23 : decode cX0_part 23 = .ok (.getfield 95, 3) := by decide +kernel
theorem dX0_part_26 : decode cX0_part 26 = .ok (.iload_n 2, 1) := by decide +kernel
theorem dX0_part_27 : decode cX0_part 27 = .ok (.iaload, 1) := by decide +kernel
theorem dX0_part_28 : decode cX0_part 28 = .ok (.i2l, 1) := by decide +kernel
theorem dX0_part_29 : decode cX0_part 29 = .ok (.aload_n 0, 1) := by decide +kernel
theorem dX0_part_30 : decode cX0_part 30 = .ok (.getfield 27, 3) := by decide +kernel
theorem dX0_part_33 : decode cX0_part 33 = .ok (.iload_n 2, 1) := by decide +kernel
theorem dX0_part_34 : decode cX0_part 34 = .ok (.iaload, 1) := by decide +kernel
theorem dX0_part_35 : decode cX0_part 35 = .ok (.i2l, 1) := by decide +kernel
theorem dX0_part_36 : decode cX0_part 36 = .ok (.ladd, 1) := by decide +kernel
theorem dX0_part_37 : decode cX0_part 37 = .ok (.invokestatic 98, 3) := by decide +kernel
theorem dX0_part_40 : decode cX0_part 40 = .ok (.lstore 4, 2) := by decide +kernel
theorem dX0_part_42 : decode cX0_part 42 = .ok (.lload 4, 2) := by decide +kernel
theorem dX0_part_44 : decode cX0_part 44 = .ok (.iload_n 3, 1) := by decide +kernel
theorem dX0_part_45 : decode cX0_part 45 = .ok (.i2l, 1) := by decide +kernel
theorem dX0_part_46 : decode cX0_part 46 = .ok (.lmul, 1) := by decide +kernel
theorem dX0_part_47 : decode cX0_part 47 = .ok (.aload_n 0, 1) := by decide +kernel
theorem dX0_part_48 : decode cX0_part 48 = .ok (.getfield 24, 3) := by decide +kernel
theorem dX0_part_51 : decode cX0_part 51 = .ok (.iload_n 2, 1) := by decide +kernel
theorem dX0_part_52 : decode cX0_part 52 = .ok (.iaload, 1) := by decide +kernel
theorem dX0_part_53 : decode cX0_part 53 = .ok (.i2l, 1) := by decide +kernel
theorem dX0_part_54 : decode cX0_part 54 = .ok (.ldiv, 1) := by decide +kernel
theorem dX0_part_55 : decode cX0_part 55 = .ok (.l2i, 1) := by decide +kernel
theorem dX0_part_56 : decode cX0_part 56 = .ok (.ireturn, 1) := by decide +kernel
theorem dX0_paidBy_0 : decode cX0_paidBy 0 = .ok (.iconst 0, 1) := by decide +kernel
theorem dX0_paidBy_1 : decode cX0_paidBy 1 = .ok (.istore_n 2, 1) := by decide +kernel
theorem dX0_paidBy_2 : decode cX0_paidBy 2 = .ok (.iconst 0, 1) := by decide +kernel
theorem dX0_paidBy_3 : decode cX0_paidBy 3 = .ok (.istore_n 3, 1) := by decide +kernel
theorem dX0_paidBy_4 : decode cX0_paidBy 4 = .ok (.iload_n 3, 1) := by decide +kernel
theorem dX0_paidBy_5 : decode cX0_paidBy 5 = .ok (.aload_n 0, 1) := by decide +kernel
theorem dX0_paidBy_6 : decode cX0_paidBy 6 = .ok (.getfield 9, 3) := by decide +kernel
theorem dX0_paidBy_9 : decode cX0_paidBy 9 = .ok (.arraylength, 1) := by decide +kernel
theorem dX0_paidBy_10 : decode cX0_paidBy 10 = .ok (.if_icmp .ge 46, 3) := by decide +kernel
theorem dX0_paidBy_13 : decode cX0_paidBy 13 = .ok (.iload_n 1, 1) := by decide +kernel
theorem dX0_paidBy_14 : decode cX0_paidBy 14 = .ok (.iload_n 3, 1) := by decide +kernel
theorem dX0_paidBy_15 : decode cX0_paidBy 15 = .ok (.bipush 12, 2) := by decide +kernel
theorem dX0_paidBy_17 : decode cX0_paidBy 17 = .ok (.idiv, 1) := by decide +kernel
theorem dX0_paidBy_18 : decode cX0_paidBy 18 = .ok (.if_icmp .ne 12, 3) := by decide +kernel
theorem dX0_paidBy_21 : decode cX0_paidBy 21 = .ok (.iload_n 2, 1) := by decide +kernel
theorem dX0_paidBy_22 : decode cX0_paidBy 22 = .ok (.aload_n 0, 1) := by decide +kernel
theorem dX0_paidBy_23 : decode cX0_paidBy 23 = .ok (.getfield 18, 3) := by decide +kernel
theorem dX0_paidBy_26 : decode cX0_paidBy 26 = .ok (.iload_n 3, 1) := by decide +kernel
theorem dX0_paidBy_27 : decode cX0_paidBy 27 = .ok (.iaload, 1) := by decide +kernel
theorem dX0_paidBy_28 : decode cX0_paidBy 28 = .ok (.iadd, 1) := by decide +kernel
theorem dX0_paidBy_29 : decode cX0_paidBy 29 = .ok (.istore_n 2, 1) := by decide +kernel
theorem dX0_paidBy_30 : decode cX0_paidBy 30 = .ok (.iload_n 1, 1) := by decide +kernel
theorem dX0_paidBy_31 : decode cX0_paidBy 31 = .ok (.bipush 8, 2) := by decide +kernel
theorem dX0_paidBy_33 : decode cX0_paidBy 33 = .ok (.iload_n 3, 1) := by decide +kernel
theorem dX0_paidBy_34 : decode cX0_paidBy 34 = .ok (.bipush 12, 2) := by decide +kernel
theorem dX0_paidBy_36 : decode cX0_paidBy 36 = .ok (.irem, 1) := by decide +kernel
theorem dX0_paidBy_37 : decode cX0_paidBy 37 = .ok (.iadd, 1) := by decide +kernel
theorem dX0_paidBy_38 : decode cX0_paidBy 38 = .ok (.if_icmp .ne 12, 3) := by decide +kernel
theorem dX0_paidBy_41 : decode cX0_paidBy 41 = .ok (.iload_n 2, 1) := by decide +kernel
theorem dX0_paidBy_42 : decode cX0_paidBy 42 = .ok (.aload_n 0, 1) := by decide +kernel
theorem dX0_paidBy_43 : decode cX0_paidBy 43 = .ok (.getfield 21, 3) := by decide +kernel
theorem dX0_paidBy_46 : decode cX0_paidBy 46 = .ok (.iload_n 3, 1) := by decide +kernel
theorem dX0_paidBy_47 : decode cX0_paidBy 47 = .ok (.iaload, 1) := by decide +kernel
theorem dX0_paidBy_48 : decode cX0_paidBy 48 = .ok (.iadd, 1) := by decide +kernel
theorem dX0_paidBy_49 : decode cX0_paidBy 49 = .ok (.istore_n 2, 1) := by decide +kernel
theorem dX0_paidBy_50 : decode cX0_paidBy 50 = .ok (.iinc 3 1, 3) := by decide +kernel
theorem dX0_paidBy_53 : decode cX0_paidBy 53 = .ok (.goto (-49), 3) := by decide +kernel
theorem dX0_paidBy_56 : decode cX0_paidBy 56 = .ok (.iload_n 2, 1) := by decide +kernel
theorem dX0_paidBy_57 : decode cX0_paidBy 57 = .ok (.ireturn, 1) := by decide +kernel
theorem dX0_payOut_0 : decode cX0_payOut 0 = .ok (.iconst 0, 1) := by decide +kernel
theorem dX0_payOut_1 : decode cX0_payOut 1 = .ok (.istore_n 2, 1) := by decide +kernel
theorem dX0_payOut_2 : decode cX0_payOut 2 = .ok (.iload_n 2, 1) := by decide +kernel
theorem dX0_payOut_3 : decode cX0_payOut 3 = .ok (.aload_n 0, 1) := by decide +kernel
theorem dX0_payOut_4 : decode cX0_payOut 4 = .ok (.getfield 9, 3) := by decide +kernel
theorem dX0_payOut_7 : decode cX0_payOut 7 = .ok (.arraylength, 1) := by decide +kernel
theorem dX0_payOut_8 : decode cX0_payOut 8 = .ok (.if_icmp .ge 52, 3) := by decide +kernel
theorem dX0_payOut_11 : decode cX0_payOut 11 = .ok (.aload_n 0, 1) := by decide +kernel
theorem dX0_payOut_12 : decode cX0_payOut 12 = .ok (.getfield 18, 3) := by decide +kernel
theorem dX0_payOut_15 : decode cX0_payOut 15 = .ok (.iload_n 2, 1) := by decide +kernel
theorem dX0_payOut_16 : decode cX0_payOut 16 = .ok (.iaload, 1) := by decide +kernel
theorem dX0_payOut_17 : decode cX0_payOut 17 = .ok (.aload_n 0, 1) := by decide +kernel
theorem dX0_payOut_18 : decode cX0_payOut 18 = .ok (.getfield 21, 3) := by decide +kernel
theorem dX0_payOut_21 : decode cX0_payOut 21 = .ok (.iload_n 2, 1) := by decide +kernel
theorem dX0_payOut_22 : decode cX0_payOut 22 = .ok (.iaload, 1) := by decide +kernel
theorem dX0_payOut_23 : decode cX0_payOut 23 = .ok (.isub, 1) := by decide +kernel
theorem dX0_payOut_24 : decode cX0_payOut 24 = .ok (.istore_n 3, 1) := by decide +kernel
theorem dX0_payOut_25 : decode cX0_payOut 25 = .ok (.aload_n 1, 1) := by decide +kernel
theorem dX0_payOut_26 : decode cX0_payOut 26 = .ok (.getfield 95, 3) := by decide +kernel
theorem dX0_payOut_29 : decode cX0_payOut 29 = .ok (.iload_n 2, 1) := by decide +kernel
theorem dX0_payOut_30 : decode cX0_payOut 30 = .ok (.bipush 12, 2) := by decide +kernel
theorem dX0_payOut_32 : decode cX0_payOut 32 = .ok (.idiv, 1) := by decide +kernel
theorem dX0_payOut_33 : decode cX0_payOut 33 = .ok (.dup2, 1) := by decide +kernel
theorem dX0_payOut_34 : decode cX0_payOut 34 = .ok (.iaload, 1) := by decide +kernel
theorem dX0_payOut_35 : decode cX0_payOut 35 = .ok (.iload_n 3, 1) := by decide +kernel
theorem dX0_payOut_36 : decode cX0_payOut 36 = .ok (.isub, 1) := by decide +kernel
theorem dX0_payOut_37 : decode cX0_payOut 37 = .ok (.iastore, 1) := by decide +kernel
theorem dX0_payOut_38 : decode cX0_payOut 38 = .ok (.aload_n 1, 1) := by decide +kernel
theorem dX0_payOut_39 : decode cX0_payOut 39 = .ok (.getfield 95, 3) := by decide +kernel
theorem dX0_payOut_42 : decode cX0_payOut 42 = .ok (.bipush 8, 2) := by decide +kernel
theorem dX0_payOut_44 : decode cX0_payOut 44 = .ok (.iload_n 2, 1) := by decide +kernel
theorem dX0_payOut_45 : decode cX0_payOut 45 = .ok (.bipush 12, 2) := by decide +kernel
theorem dX0_payOut_47 : decode cX0_payOut 47 = .ok (.irem, 1) := by decide +kernel
theorem dX0_payOut_48 : decode cX0_payOut 48 = .ok (.iadd, 1) := by decide +kernel
theorem dX0_payOut_49 : decode cX0_payOut 49 = .ok (.dup2, 1) := by decide +kernel
theorem dX0_payOut_50 : decode cX0_payOut 50 = .ok (.iaload, 1) := by decide +kernel
theorem dX0_payOut_51 : decode cX0_payOut 51 = .ok (.iload_n 3, 1) := by decide +kernel
theorem dX0_payOut_52 : decode cX0_payOut 52 = .ok (.iadd, 1) := by decide +kernel
theorem dX0_payOut_53 : decode cX0_payOut 53 = .ok (.iastore, 1) := by decide +kernel
theorem dX0_payOut_54 : decode cX0_payOut 54 = .ok (.iinc 2 1, 3) := by decide +kernel
theorem dX0_payOut_57 : decode cX0_payOut 57 = .ok (.goto (-55), 3) := by decide +kernel
theorem dX0_payOut_60 : decode cX0_payOut 60 = .ok (.return_, 1) := by decide +kernel
theorem dX0_fell_0 : decode cX0_fell 0 = .ok (.iconst 0, 1) := by decide +kernel
theorem dX0_fell_1 : decode cX0_fell 1 = .ok (.istore_n 3, 1) := by decide +kernel
theorem dX0_fell_2 : decode cX0_fell 2 = .ok (.iconst 0, 1) := by decide +kernel
theorem dX0_fell_3 : decode cX0_fell 3 = .ok (.istore 4, 2) := by decide +kernel
theorem dX0_fell_5 : decode cX0_fell 5 = .ok (.iload 4, 2) := by decide +kernel
theorem dX0_fell_7 : decode cX0_fell 7 = .ok (.aload_n 0, 1) := by decide +kernel
theorem dX0_fell_8 : decode cX0_fell 8 = .ok (.getfield 24, 3) := by decide +kernel
theorem dX0_fell_11 : decode cX0_fell 11 = .ok (.arraylength, 1) := by decide +kernel
theorem dX0_fell_12 : decode cX0_fell 12 = .ok (.if_icmp .ge 32, 3) := by decide +kernel
theorem dX0_fell_15 : decode cX0_fell 15 = .ok (.aload_n 0, 1) := by decide +kernel
theorem dX0_fell_16 : decode cX0_fell 16 = .ok (.iload 4, 2) := by decide +kernel
theorem dX0_fell_18 : decode cX0_fell 18 = .ok (.invokevirtual 104, 3) := by decide +kernel
theorem dX0_fell_21 : decode cX0_fell 21 = .ok (.aload_n 0, 1) := by decide +kernel
theorem dX0_fell_22 : decode cX0_fell 22 = .ok (.getfield 24, 3) := by decide +kernel
theorem dX0_fell_25 : decode cX0_fell 25 = .ok (.iload 4, 2) := by decide +kernel
theorem dX0_fell_27 : decode cX0_fell 27 = .ok (.iaload, 1) := by decide +kernel
theorem dX0_fell_28 : decode cX0_fell 28 = .ok (.if_icmp .ge 10, 3) := by decide +kernel
theorem dX0_fell_31 : decode cX0_fell 31 = .ok (.iload_n 3, 1) := by decide +kernel
theorem dX0_fell_32 : decode cX0_fell 32 = .ok (.iconst 1, 1) := by decide +kernel
theorem dX0_fell_33 : decode cX0_fell 33 = .ok (.iload 4, 2) := by decide +kernel
theorem dX0_fell_35 : decode cX0_fell 35 = .ok (.ishl, 1) := by decide +kernel
theorem dX0_fell_36 : decode cX0_fell 36 = .ok (.ior, 1) := by decide +kernel
theorem dX0_fell_37 : decode cX0_fell 37 = .ok (.istore_n 3, 1) := by decide +kernel
theorem dX0_fell_38 : decode cX0_fell 38 = .ok (.iinc 4 1, 3) := by decide +kernel
theorem dX0_fell_41 : decode cX0_fell 41 = .ok (.goto (-36), 3) := by decide +kernel
theorem dX0_fell_44 : decode cX0_fell 44 = .ok (.iconst 0, 1) := by decide +kernel
theorem dX0_fell_45 : decode cX0_fell 45 = .ok (.istore 4, 2) := by decide +kernel
theorem dX0_fell_47 : decode cX0_fell 47 = .ok (.iload 4, 2) := by decide +kernel
theorem dX0_fell_49 : decode cX0_fell 49 = .ok (.aload_n 0, 1) := by decide +kernel
theorem dX0_fell_50 : decode cX0_fell 50 = .ok (.getfield 9, 3) := by decide +kernel
theorem dX0_fell_53 : decode cX0_fell 53 = .ok (.arraylength, 1) := by decide +kernel
theorem dX0_fell_54 : decode cX0_fell 54 = .ok (.if_icmp .ge 63, 3) := by decide +kernel
theorem dX0_fell_57 : decode cX0_fell 57 = .ok (.iload 4, 2) := by decide +kernel
theorem dX0_fell_59 : decode cX0_fell 59 = .ok (.bipush 12, 2) := by decide +kernel
theorem dX0_fell_61 : decode cX0_fell 61 = .ok (.idiv, 1) := by decide +kernel
theorem dX0_fell_62 : decode cX0_fell 62 = .ok (.istore 5, 2) := by decide +kernel
theorem dX0_fell_64 : decode cX0_fell 64 = .ok (.iload 4, 2) := by decide +kernel
theorem dX0_fell_66 : decode cX0_fell 66 = .ok (.bipush 12, 2) := by decide +kernel
theorem dX0_fell_68 : decode cX0_fell 68 = .ok (.irem, 1) := by decide +kernel
theorem dX0_fell_69 : decode cX0_fell 69 = .ok (.istore 6, 2) := by decide +kernel
theorem dX0_fell_71 : decode cX0_fell 71 = .ok (.iload_n 3, 1) := by decide +kernel
theorem dX0_fell_72 : decode cX0_fell 72 = .ok (.iload 5, 2) := by decide +kernel
theorem dX0_fell_74 : decode cX0_fell 74 = .ok (.ishr, 1) := by decide +kernel
theorem dX0_fell_75 : decode cX0_fell 75 = .ok (.iconst 1, 1) := by decide +kernel
theorem dX0_fell_76 : decode cX0_fell 76 = .ok (.iand, 1) := by decide +kernel
theorem dX0_fell_77 : decode cX0_fell 77 = .ok (.ifCond .eq 34, 3) := by decide +kernel
theorem dX0_fell_80 : decode cX0_fell 80 = .ok (.aload_n 0, 1) := by decide +kernel
theorem dX0_fell_81 : decode cX0_fell 81 = .ok (.getfield 9, 3) := by decide +kernel
theorem dX0_fell_84 : decode cX0_fell 84 = .ok (.iload 4, 2) := by decide +kernel
theorem dX0_fell_86 : decode cX0_fell 86 = .ok (.iaload, 1) := by decide +kernel
theorem dX0_fell_87 : decode cX0_fell 87 = .ok (.ifCond .ne 6, 3) := by decide +kernel
theorem dX0_fell_90 : decode cX0_fell 90 = .ok (.goto 21, 3) := by decide +kernel
theorem dX0_fell_93 : decode cX0_fell 93 = .ok (.aload_n 2, 1) := by decide +kernel
theorem dX0_fell_94 : decode cX0_fell 94 = .ok (.iload 6, 2) := by decide +kernel
theorem dX0_fell_96 : decode cX0_fell 96 = .ok (.iload 5, 2) := by decide +kernel
theorem dX0_fell_98 : decode cX0_fell 98 = .ok (.bipush 8, 2) := by decide +kernel
theorem dX0_fell_100 : decode cX0_fell 100 = .ok (.aload_n 2, 1) := by decide +kernel
theorem dX0_fell_101 : decode cX0_fell 101 = .ok (.iload 6, 2) := by decide +kernel
theorem dX0_fell_103 : decode cX0_fell 103 = .ok (.iload 5, 2) := by decide +kernel
theorem dX0_fell_105 : decode cX0_fell 105 = .ok (.invokevirtual 85, 3) := by decide +kernel
theorem dX0_fell_108 : decode cX0_fell 108 = .ok (.invokevirtual 108, 3) := by decide +kernel
theorem dX0_fell_111 : decode cX0_fell 111 = .ok (.iinc 4 1, 3) := by decide +kernel
theorem dX0_fell_114 : decode cX0_fell 114 = .ok (.goto (-67), 3) := by decide +kernel
theorem dX0_fell_117 : decode cX0_fell 117 = .ok (.iconst 0, 1) := by decide +kernel
theorem dX0_fell_118 : decode cX0_fell 118 = .ok (.istore 4, 2) := by decide +kernel
theorem dX0_fell_120 : decode cX0_fell 120 = .ok (.iload 4, 2) := by decide +kernel
theorem dX0_fell_122 : decode cX0_fell 122 = .ok (.aload_n 1, 1) := by decide +kernel
theorem dX0_fell_123 : decode cX0_fell 123 = .ok (.getfield 57, 3) := by decide +kernel
theorem dX0_fell_126 : decode cX0_fell 126 = .ok (.if_icmp .ge 37, 3) := by decide +kernel
theorem dX0_fell_129 : decode cX0_fell 129 = .ok (.aload_n 1, 1) := by decide +kernel
theorem dX0_fell_130 : decode cX0_fell 130 = .ok (.iload 4, 2) := by decide +kernel
theorem dX0_fell_132 : decode cX0_fell 132 = .ok (.invokevirtual 60, 3) := by decide +kernel
theorem dX0_fell_135 : decode cX0_fell 135 = .ok (.astore 5, 2) := by decide +kernel
theorem dX0_fell_137 : decode cX0_fell 137 = .ok (.aload 5, 2) := by decide +kernel
theorem dX0_fell_139 : decode cX0_fell 139 = .ok (.ifnull 18, 3) := by decide +kernel
theorem dX0_fell_142 : decode cX0_fell 142 = .ok (.aload 5, 2) := by decide +kernel
theorem dX0_fell_144 : decode cX0_fell 144 = .ok (.iload_n 3, 1) := by decide +kernel
theorem dX0_fell_145 : decode cX0_fell 145 = .ok (.invokestatic 112, 3) := by decide +kernel
theorem dX0_fell_148 : decode cX0_fell 148 = .ok (.ifCond .eq 9, 3) := by decide +kernel
theorem dX0_fell_151 : decode cX0_fell 151 = .ok (.aload_n 1, 1) := by decide +kernel
theorem dX0_fell_152 : decode cX0_fell 152 = .ok (.iload 4, 2) := by decide +kernel
theorem dX0_fell_154 : decode cX0_fell 154 = .ok (.invokevirtual 116, 3) := by decide +kernel
theorem dX0_fell_157 : decode cX0_fell 157 = .ok (.iinc 4 1, 3) := by decide +kernel
theorem dX0_fell_160 : decode cX0_fell 160 = .ok (.goto (-40), 3) := by decide +kernel
theorem dX0_fell_163 : decode cX0_fell 163 = .ok (.iload_n 3, 1) := by decide +kernel
theorem dX0_fell_164 : decode cX0_fell 164 = .ok (.ireturn, 1) := by decide +kernel
theorem dX0_isEnded_0 : decode cX0_isEnded 0 = .ok (.aload_n 0, 1) := by decide +kernel
theorem dX0_isEnded_1 : decode cX0_isEnded 1 = .ok (.getfield 73, 3) := by decide +kernel
theorem dX0_isEnded_4 : decode cX0_isEnded 4 = .ok (.iconst 4, 1) := by decide +kernel
theorem dX0_isEnded_5 : decode cX0_isEnded 5 = .ok (.if_icmp .eq 11, 3) := by decide +kernel
theorem dX0_isEnded_8 : decode cX0_isEnded 8 = .ok (.aload_n 0, 1) := by decide +kernel
theorem dX0_isEnded_9 : decode cX0_isEnded 9 = .ok (.getfield 73, 3) := by decide +kernel
theorem dX0_isEnded_12 : decode cX0_isEnded 12 = .ok (.iconst 5, 1) := by decide +kernel
theorem dX0_isEnded_13 : decode cX0_isEnded 13 = .ok (.if_icmp .ne 5, 3) := by decide +kernel
theorem dX0_isEnded_16 : decode cX0_isEnded 16 = .ok (.iconst 1, 1) := by decide +kernel
theorem dX0_isEnded_17 : decode cX0_isEnded 17 = .ok (.ireturn, 1) := by decide +kernel
theorem dX0_isEnded_18 : decode cX0_isEnded 18 = .ok (.aload_n 0, 1) := by decide +kernel
theorem dX0_isEnded_19 : decode cX0_isEnded 19 = .ok (.getfield 73, 3) := by decide +kernel
theorem dX0_isEnded_22 : decode cX0_isEnded 22 = .ok (.iconst 1, 1) := by decide +kernel
theorem dX0_isEnded_23 : decode cX0_isEnded 23 = .ok (.if_icmp .ne 21, 3) := by decide +kernel
theorem dX0_isEnded_26 : decode cX0_isEnded 26 = .ok (.iload_n 1, 1) := by decide +kernel
theorem dX0_isEnded_27 : decode cX0_isEnded 27 = .ok (.bipush 8, 2) := by decide +kernel
theorem dX0_isEnded_29 : decode cX0_isEnded 29 = .ok (.aload_n 0, 1) := by decide +kernel
theorem dX0_isEnded_30 : decode cX0_isEnded 30 = .ok (.getfield 79, 3) := by decide +kernel
theorem dX0_isEnded_33 : decode cX0_isEnded 33 = .ok (.iadd, 1) := by decide +kernel
theorem dX0_isEnded_34 : decode cX0_isEnded 34 = .ok (.ishr, 1) := by decide +kernel
theorem dX0_isEnded_35 : decode cX0_isEnded 35 = .ok (.iconst 1, 1) := by decide +kernel
theorem dX0_isEnded_36 : decode cX0_isEnded 36 = .ok (.iand, 1) := by decide +kernel
theorem dX0_isEnded_37 : decode cX0_isEnded 37 = .ok (.ifCond .eq 7, 3) := by decide +kernel
theorem dX0_isEnded_40 : decode cX0_isEnded 40 = .ok (.iconst 1, 1) := by decide +kernel
theorem dX0_isEnded_41 : decode cX0_isEnded 41 = .ok (.goto 4, 3) := by decide +kernel
theorem dX0_isEnded_44 : decode cX0_isEnded 44 = .ok (.iconst 0, 1) := by decide +kernel
theorem dX0_isEnded_45 : decode cX0_isEnded 45 = .ok (.ireturn, 1) := by decide +kernel
theorem dX1_init_0 : decode cX1_init 0 = .ok (.aload_n 0, 1) := by decide +kernel
theorem dX1_init_1 : decode cX1_init 1 = .ok (.invokespecial 3, 3) := by decide +kernel
theorem dX1_init_4 : decode cX1_init 4 = .ok (.aload_n 0, 1) := by decide +kernel
theorem dX1_init_5 : decode cX1_init 5 = .ok (.bipush 80, 2) := by decide +kernel
theorem dX1_init_7 : decode cX1_init 7 = .ok (.newarray .int, 2) := by decide +kernel
theorem dX1_init_9 : decode cX1_init 9 = .ok (.putfield 9, 3) := by decide +kernel
theorem dX1_init_12 : decode cX1_init 12 = .ok (.aload_n 0, 1) := by decide +kernel
theorem dX1_init_13 : decode cX1_init 13 = .ok (.bipush 80, 2) := by decide +kernel
theorem dX1_init_15 : decode cX1_init 15 = .ok (.newarray .int, 2) := by decide +kernel
theorem dX1_init_17 : decode cX1_init 17 = .ok (.putfield 15, 3) := by decide +kernel
theorem dX1_init_20 : decode cX1_init 20 = .ok (.aload_n 0, 1) := by decide +kernel
theorem dX1_init_21 : decode cX1_init 21 = .ok (.bipush 80, 2) := by decide +kernel
theorem dX1_init_23 : decode cX1_init 23 = .ok (.newarray .int, 2) := by decide +kernel
theorem dX1_init_25 : decode cX1_init 25 = .ok (.putfield 18, 3) := by decide +kernel
theorem dX1_init_28 : decode cX1_init 28 = .ok (.aload_n 0, 1) := by decide +kernel
theorem dX1_init_29 : decode cX1_init 29 = .ok (.bipush 6, 2) := by decide +kernel
theorem dX1_init_31 : decode cX1_init 31 = .ok (.newarray .int, 2) := by decide +kernel
theorem dX1_init_33 : decode cX1_init 33 = .ok (.putfield 21, 3) := by decide +kernel
theorem dX1_init_36 : decode cX1_init 36 = .ok (.aload_n 0, 1) := by decide +kernel
theorem dX1_init_37 : decode cX1_init 37 = .ok (.bipush 6, 2) := by decide +kernel
theorem dX1_init_39 : decode cX1_init 39 = .ok (.newarray .int, 2) := by decide +kernel
theorem dX1_init_41 : decode cX1_init 41 = .ok (.putfield 24, 3) := by decide +kernel
theorem dX1_init_44 : decode cX1_init 44 = .ok (.return_, 1) := by decide +kernel
theorem dX1_become_0 : decode cX1_become 0 = .ok (.aload_n 1, 1) := by decide +kernel
theorem dX1_become_1 : decode cX1_become 1 = .ok (.getfield 9, 3) := by decide +kernel
theorem dX1_become_4 : decode cX1_become 4 = .ok (.iconst 0, 1) := by decide +kernel
theorem dX1_become_5 : decode cX1_become 5 = .ok (.aload_n 0, 1) := by decide +kernel
theorem dX1_become_6 : decode cX1_become 6 = .ok (.getfield 9, 3) := by decide +kernel
theorem dX1_become_9 : decode cX1_become 9 = .ok (.iconst 0, 1) := by decide +kernel
theorem dX1_become_10 : decode cX1_become 10 = .ok (.bipush 80, 2) := by decide +kernel
theorem dX1_become_12 : decode cX1_become 12 = .ok (.invokestatic 27, 3) := by decide +kernel
theorem dX1_become_15 : decode cX1_become 15 = .ok (.aload_n 1, 1) := by decide +kernel
theorem dX1_become_16 : decode cX1_become 16 = .ok (.getfield 15, 3) := by decide +kernel
theorem dX1_become_19 : decode cX1_become 19 = .ok (.iconst 0, 1) := by decide +kernel
theorem dX1_become_20 : decode cX1_become 20 = .ok (.aload_n 0, 1) := by decide +kernel
theorem dX1_become_21 : decode cX1_become 21 = .ok (.getfield 15, 3) := by decide +kernel
theorem dX1_become_24 : decode cX1_become 24 = .ok (.iconst 0, 1) := by decide +kernel
theorem dX1_become_25 : decode cX1_become 25 = .ok (.bipush 80, 2) := by decide +kernel
theorem dX1_become_27 : decode cX1_become 27 = .ok (.invokestatic 27, 3) := by decide +kernel
theorem dX1_become_30 : decode cX1_become 30 = .ok (.aload_n 1, 1) := by decide +kernel
theorem dX1_become_31 : decode cX1_become 31 = .ok (.getfield 18, 3) := by decide +kernel
theorem dX1_become_34 : decode cX1_become 34 = .ok (.iconst 0, 1) := by decide +kernel
theorem dX1_become_35 : decode cX1_become 35 = .ok (.aload_n 0, 1) := by decide +kernel
theorem dX1_become_36 : decode cX1_become 36 = .ok (.getfield 18, 3) := by decide +kernel
theorem dX1_become_39 : decode cX1_become 39 = .ok (.iconst 0, 1) := by decide +kernel
theorem dX1_become_40 : decode cX1_become 40 = .ok (.bipush 80, 2) := by decide +kernel
theorem dX1_become_42 : decode cX1_become 42 = .ok (.invokestatic 27, 3) := by decide +kernel
theorem dX1_become_45 : decode cX1_become 45 = .ok (.aload_n 1, 1) := by decide +kernel
theorem dX1_become_46 : decode cX1_become 46 = .ok (.getfield 21, 3) := by decide +kernel
theorem dX1_become_49 : decode cX1_become 49 = .ok (.iconst 0, 1) := by decide +kernel
theorem dX1_become_50 : decode cX1_become 50 = .ok (.aload_n 0, 1) := by decide +kernel
theorem dX1_become_51 : decode cX1_become 51 = .ok (.getfield 21, 3) := by decide +kernel
theorem dX1_become_54 : decode cX1_become 54 = .ok (.iconst 0, 1) := by decide +kernel
theorem dX1_become_55 : decode cX1_become 55 = .ok (.bipush 6, 2) := by decide +kernel
theorem dX1_become_57 : decode cX1_become 57 = .ok (.invokestatic 27, 3) := by decide +kernel
theorem dX1_become_60 : decode cX1_become 60 = .ok (.aload_n 1, 1) := by decide +kernel
theorem dX1_become_61 : decode cX1_become 61 = .ok (.getfield 24, 3) := by decide +kernel
theorem dX1_become_64 : decode cX1_become 64 = .ok (.iconst 0, 1) := by decide +kernel
theorem dX1_become_65 : decode cX1_become 65 = .ok (.aload_n 0, 1) := by decide +kernel
theorem dX1_become_66 : decode cX1_become 66 = .ok (.getfield 24, 3) := by decide +kernel
theorem dX1_become_69 : decode cX1_become 69 = .ok (.iconst 0, 1) := by decide +kernel
theorem dX1_become_70 : decode cX1_become 70 = .ok (.bipush 6, 2) := by decide +kernel
theorem dX1_become_72 : decode cX1_become 72 = .ok (.invokestatic 27, 3) := by decide +kernel
theorem dX1_become_75 : decode cX1_become 75 = .ok (.aload_n 0, 1) := by decide +kernel
theorem dX1_become_76 : decode cX1_become 76 = .ok (.aload_n 1, 1) := by decide +kernel
theorem dX1_become_77 : decode cX1_become 77 = .ok (.getfield 33, 3) := by decide +kernel
theorem dX1_become_80 : decode cX1_become 80 = .ok (.putfield 33, 3) := by decide +kernel
theorem dX1_become_83 : decode cX1_become 83 = .ok (.return_, 1) := by decide +kernel
theorem dX1_isTaken_0 : decode cX1_isTaken 0 = .ok (.iconst 0, 1) := by decide +kernel
theorem dX1_isTaken_1 : decode cX1_isTaken 1 = .ok (.istore_n 2, 1) := by decide +kernel
theorem dX1_isTaken_2 : decode cX1_isTaken 2 = .ok (.iload_n 2, 1) := by decide +kernel
theorem dX1_isTaken_3 : decode cX1_isTaken 3 = .ok (.aload_n 0, 1) := by decide +kernel
theorem dX1_isTaken_4 : decode cX1_isTaken 4 = .ok (.getfield 33, 3) := by decide +kernel
theorem dX1_isTaken_7 : decode cX1_isTaken 7 = .ok (.if_icmp .ge 21, 3) := by decide +kernel
theorem dX1_isTaken_10 : decode cX1_isTaken 10 = .ok (.aload_n 0, 1) := by decide +kernel
theorem dX1_isTaken_11 : decode cX1_isTaken 11 = .ok (.getfield 21, 3) := by decide +kernel
theorem dX1_isTaken_14 : decode cX1_isTaken 14 = .ok (.iload_n 2, 1) := by decide +kernel
theorem dX1_isTaken_15 : decode cX1_isTaken 15 = .ok (.iaload, 1) := by decide +kernel
theorem dX1_isTaken_16 : decode cX1_isTaken 16 = .ok (.iload_n 1, 1) := by decide +kernel
theorem dX1_isTaken_17 : decode cX1_isTaken 17 = .ok (.if_icmp .ne 5, 3) := by decide +kernel
theorem dX1_isTaken_20 : decode cX1_isTaken 20 = .ok (.iconst 1, 1) := by decide +kernel
theorem dX1_isTaken_21 : decode cX1_isTaken 21 = .ok (.ireturn, 1) := by decide +kernel
theorem dX1_isTaken_22 : decode cX1_isTaken 22 = .ok (.iinc 2 1, 3) := by decide +kernel
theorem dX1_isTaken_25 : decode cX1_isTaken 25 = .ok (.goto (-23), 3) := by decide +kernel
theorem dX1_isTaken_28 : decode cX1_isTaken 28 = .ok (.iconst 0, 1) := by decide +kernel
theorem dX1_isTaken_29 : decode cX1_isTaken 29 = .ok (.ireturn, 1) := by decide +kernel
theorem dX1_found_0 : decode cX1_found 0 = .ok (.aload_n 0, 1) := by decide +kernel
theorem dX1_found_1 : decode cX1_found 1 = .ok (.getfield 21, 3) := by decide +kernel
theorem dX1_found_4 : decode cX1_found 4 = .ok (.aload_n 0, 1) := by decide +kernel
theorem dX1_found_5 : decode cX1_found 5 = .ok (.getfield 33, 3) := by decide +kernel
theorem dX1_found_8 : decode cX1_found 8 = .ok (.iload_n 1, 1) := by decide +kernel
theorem dX1_found_9 : decode cX1_found 9 = .ok (.iastore, 1) := by decide +kernel
theorem dX1_found_10 : decode cX1_found 10 = .ok (.aload_n 0, 1) := by decide +kernel
theorem dX1_found_11 : decode cX1_found 11 = .ok (.getfield 24, 3) := by decide +kernel
theorem dX1_found_14 : decode cX1_found 14 = .ok (.aload_n 0, 1) := by decide +kernel
theorem dX1_found_15 : decode cX1_found 15 = .ok (.getfield 33, 3) := by decide +kernel
theorem dX1_found_18 : decode cX1_found 18 = .ok (.iload_n 2, 1) := by decide +kernel
theorem dX1_found_19 : decode cX1_found 19 = .ok (.iastore, 1) := by decide +kernel
theorem dX1_found_20 : decode cX1_found 20 = .ok (.aload_n 0, 1) := by decide +kernel
theorem dX1_found_21 : decode cX1_found 21 = .ok (.dup, 1) := by decide +kernel
theorem dX1_found_22 : decode cX1_found 22 = .ok (.getfield 33, 3) := by decide +kernel
theorem dX1_found_25 : decode cX1_found 25 = .ok (.iconst 1, 1) := by decide +kernel
theorem dX1_found_26 : decode cX1_found 26 = .ok (.iadd, 1) := by decide +kernel
theorem dX1_found_27 : decode cX1_found 27 = .ok (.putfield 33, 3) := by decide +kernel
theorem dX1_found_30 : decode cX1_found 30 = .ok (.aload_n 0, 1) := by decide +kernel
theorem dX1_found_31 : decode cX1_found 31 = .ok (.getfield 33, 3) := by decide +kernel
theorem dX1_found_34 : decode cX1_found 34 = .ok (.iconst 1, 1) := by decide +kernel
theorem dX1_found_35 : decode cX1_found 35 = .ok (.isub, 1) := by decide +kernel
theorem dX1_found_36 : decode cX1_found 36 = .ok (.ireturn, 1) := by decide +kernel
theorem dX1_beside_0 : decode cX1_beside 0 = .ok (.iload_n 1, 1) := by decide +kernel
theorem dX1_beside_1 : decode cX1_beside 1 = .ok (.tableswitch 74 0 2 #[27, 42, 57], 27) := by decide +kernel
theorem dX1_beside_28 : decode cX1_beside 28 = .ok (.iload_n 0, 1) := by decide +kernel
theorem dX1_beside_29 : decode cX1_beside 29 = .ok (.bipush 10, 2) := by decide +kernel
theorem dX1_beside_31 : decode cX1_beside 31 = .ok (.if_icmp .lt 10, 3) := by decide +kernel
theorem dX1_beside_34 : decode cX1_beside 34 = .ok (.iload_n 0, 1) := by decide +kernel
theorem dX1_beside_35 : decode cX1_beside 35 = .ok (.bipush 10, 2) := by decide +kernel
theorem dX1_beside_37 : decode cX1_beside 37 = .ok (.isub, 1) := by decide +kernel
theorem dX1_beside_38 : decode cX1_beside 38 = .ok (.goto 4, 3) := by decide +kernel
theorem dX1_beside_41 : decode cX1_beside 41 = .ok (.iconst (-1), 1) := by decide +kernel
theorem dX1_beside_42 : decode cX1_beside 42 = .ok (.ireturn, 1) := by decide +kernel
theorem dX1_beside_43 : decode cX1_beside 43 = .ok (.iload_n 0, 1) := by decide +kernel
theorem dX1_beside_44 : decode cX1_beside 44 = .ok (.bipush 10, 2) := by decide +kernel
theorem dX1_beside_46 : decode cX1_beside 46 = .ok (.irem, 1) := by decide +kernel
theorem dX1_beside_47 : decode cX1_beside 47 = .ok (.ifCond .le 9, 3) := by decide +kernel
theorem dX1_beside_50 : decode cX1_beside 50 = .ok (.iload_n 0, 1) := by decide +kernel
theorem dX1_beside_51 : decode cX1_beside 51 = .ok (.iconst 1, 1) := by decide +kernel
theorem dX1_beside_52 : decode cX1_beside 52 = .ok (.isub, 1) := by decide +kernel
theorem dX1_beside_53 : decode cX1_beside 53 = .ok (.goto 4, 3) := by decide +kernel
theorem dX1_beside_56 : decode cX1_beside 56 = .ok (.iconst (-1), 1) := by decide +kernel
theorem dX1_beside_57 : decode cX1_beside 57 = .ok (.ireturn, 1) := by decide +kernel
theorem dX1_beside_58 : decode cX1_beside 58 = .ok (.iload_n 0, 1) := by decide +kernel
theorem dX1_beside_59 : decode cX1_beside 59 = .ok (.bipush 10, 2) := by decide +kernel
theorem dX1_beside_61 : decode cX1_beside 61 = .ok (.irem, 1) := by decide +kernel
theorem dX1_beside_62 : decode cX1_beside 62 = .ok (.bipush 9, 2) := by decide +kernel
theorem dX1_beside_64 : decode cX1_beside 64 = .ok (.if_icmp .ge 9, 3) := by decide +kernel
theorem dX1_beside_67 : decode cX1_beside 67 = .ok (.iload_n 0, 1) := by decide +kernel
theorem dX1_beside_68 : decode cX1_beside 68 = .ok (.iconst 1, 1) := by decide +kernel
theorem dX1_beside_69 : decode cX1_beside 69 = .ok (.iadd, 1) := by decide +kernel
theorem dX1_beside_70 : decode cX1_beside 70 = .ok (.goto 4, 3) := by decide +kernel
theorem dX1_beside_73 : decode cX1_beside 73 = .ok (.iconst (-1), 1) := by decide +kernel
theorem dX1_beside_74 : decode cX1_beside 74 = .ok (.ireturn, 1) := by decide +kernel
theorem dX1_beside_75 : decode cX1_beside 75 = .ok (.iload_n 0, 1) := by decide +kernel
theorem dX1_beside_76 : decode cX1_beside 76 = .ok (.bipush 10, 2) := by decide +kernel
theorem dX1_beside_78 : decode cX1_beside 78 = .ok (.iadd, 1) := by decide +kernel
theorem dX1_beside_79 : decode cX1_beside 79 = .ok (.bipush 80, 2) := by decide +kernel
theorem dX1_beside_81 : decode cX1_beside 81 = .ok (.if_icmp .ge 10, 3) := by decide +kernel
theorem dX1_beside_84 : decode cX1_beside 84 = .ok (.iload_n 0, 1) := by decide +kernel
theorem dX1_beside_85 : decode cX1_beside 85 = .ok (.bipush 10, 2) := by decide +kernel
theorem dX1_beside_87 : decode cX1_beside 87 = .ok (.iadd, 1) := by decide +kernel
theorem dX1_beside_88 : decode cX1_beside 88 = .ok (.goto 4, 3) := by decide +kernel
theorem dX1_beside_91 : decode cX1_beside 91 = .ok (.iconst (-1), 1) := by decide +kernel
theorem dX1_beside_92 : decode cX1_beside 92 = .ok (.ireturn, 1) := by decide +kernel
theorem dX1_areBeside_0 : decode cX1_areBeside 0 = .ok (.iconst 0, 1) := by decide +kernel
theorem dX1_areBeside_1 : decode cX1_areBeside 1 = .ok (.istore_n 2, 1) := by decide +kernel
theorem dX1_areBeside_2 : decode cX1_areBeside 2 = .ok (.iload_n 2, 1) := by decide +kernel
theorem dX1_areBeside_3 : decode cX1_areBeside 3 = .ok (.iconst 4, 1) := by decide +kernel
theorem dX1_areBeside_4 : decode cX1_areBeside 4 = .ok (.if_icmp .ge 20, 3) := by decide +kernel
theorem dX1_areBeside_7 : decode cX1_areBeside 7 = .ok (.iload_n 0, 1) := by decide +kernel
theorem dX1_areBeside_8 : decode cX1_areBeside 8 = .ok (.iload_n 2, 1) := by decide +kernel
theorem dX1_areBeside_9 : decode cX1_areBeside 9 = .ok (.invokestatic 37, 3) := by decide +kernel
theorem dX1_areBeside_12 : decode cX1_areBeside 12 = .ok (.iload_n 1, 1) := by decide +kernel
theorem dX1_areBeside_13 : decode cX1_areBeside 13 = .ok (.if_icmp .ne 5, 3) := by decide +kernel
theorem dX1_areBeside_16 : decode cX1_areBeside 16 = .ok (.iconst 1, 1) := by decide +kernel
theorem dX1_areBeside_17 : decode cX1_areBeside 17 = .ok (.ireturn, 1) := by decide +kernel
theorem dX1_areBeside_18 : decode cX1_areBeside 18 = .ok (.iinc 2 1, 3) := by decide +kernel
theorem dX1_areBeside_21 : decode cX1_areBeside 21 = .ok (.goto (-19), 3) := by decide +kernel
theorem dX1_areBeside_24 : decode cX1_areBeside 24 = .ok (.iconst 0, 1) := by decide +kernel
theorem dX1_areBeside_25 : decode cX1_areBeside 25 = .ok (.ireturn, 1) := by decide +kernel
theorem dX1_follow_0 : decode cX1_follow 0 = .ok (.iconst 0, 1) := by decide +kernel
theorem dX1_follow_1 : decode cX1_follow 1 = .ok (.istore 4, 2) := by decide +kernel
theorem dX1_follow_3 : decode cX1_follow 3 = .ok (.iload 4, 2) := by decide +kernel
theorem dX1_follow_5 : decode cX1_follow 5 = .ok (.aload_n 1, 1) := by decide +kernel
theorem dX1_follow_6 : decode cX1_follow 6 = .ok (.getfield 41, 3) := by decide +kernel
theorem dX1_follow_9 : decode cX1_follow 9 = .ok (.if_icmp .ge 38, 3) := by decide +kernel
theorem dX1_follow_12 : decode cX1_follow 12 = .ok (.aload_n 1, 1) := by decide +kernel
theorem dX1_follow_13 : decode cX1_follow 13 = .ok (.iload 4, 2) := by decide +kernel
theorem dX1_follow_15 : decode cX1_follow 15 = .ok (.iload_n 2, 1) := by decide +kernel
theorem dX1_follow_16 : decode cX1_follow 16 = .ok (.invokestatic 46, 3) := by decide +kernel
theorem dX1_follow_19 : decode cX1_follow 19 = .ok (.ifCond .ne 6, 3) := by decide +kernel
theorem dX1_follow_22 : decode cX1_follow 22 = .ok (.iload 4, 2) := by decide +kernel
theorem dX1_follow_24 : decode cX1_follow 24 = .ok (.ireturn, 1) := by decide +kernel
theorem dX1_follow_25 : decode cX1_follow 25 = .ok (.aload_n 1, 1) := by decide +kernel
theorem dX1_follow_26 : decode cX1_follow 26 = .ok (.getfield 50, 3) := by decide +kernel
theorem dX1_follow_29 : decode cX1_follow 29 = .ok (.iload 4, 2) := by decide +kernel
theorem dX1_follow_31 : decode cX1_follow 31 = .ok (.iaload, 1) := by decide +kernel
theorem dX1_follow_32 : decode cX1_follow 32 = .ok (.iload_n 3, 1) := by decide +kernel
theorem dX1_follow_33 : decode cX1_follow 33 = .ok (.if_icmp .ne 8, 3) := by decide +kernel
theorem dX1_follow_36 : decode cX1_follow 36 = .ok (.iload 4, 2) := by decide +kernel
theorem dX1_follow_38 : decode cX1_follow 38 = .ok (.iconst 1, 1) := by decide +kernel
theorem dX1_follow_39 : decode cX1_follow 39 = .ok (.iadd, 1) := by decide +kernel
theorem dX1_follow_40 : decode cX1_follow 40 = .ok (.ireturn, 1) := by decide +kernel
theorem dX1_follow_41 : decode cX1_follow 41 = .ok (.iinc 4 1, 3) := by decide +kernel
theorem dX1_follow_44 : decode cX1_follow 44 = .ok (.goto (-41), 3) := by decide +kernel
theorem dX1_follow_47 : decode cX1_follow 47 = .ok (.aload_n 1, 1) := by decide +kernel
theorem dX1_follow_48 : decode cX1_follow 48 = .ok (.getfield 41, 3) := by decide +kernel
theorem dX1_follow_51 : decode cX1_follow 51 = .ok (.ireturn, 1) := by decide +kernel
theorem dX1_goesOn_0 : decode cX1_goesOn 0 = .ok (.aload_n 0, 1) := by decide +kernel
theorem dX1_goesOn_1 : decode cX1_goesOn 1 = .ok (.getfield 50, 3) := by decide +kernel
theorem dX1_goesOn_4 : decode cX1_goesOn 4 = .ok (.iload_n 1, 1) := by decide +kernel
theorem dX1_goesOn_5 : decode cX1_goesOn 5 = .ok (.iaload, 1) := by decide +kernel
theorem dX1_goesOn_6 : decode cX1_goesOn 6 = .ok (.istore_n 3, 1) := by decide +kernel
theorem dX1_goesOn_7 : decode cX1_goesOn 7 = .ok (.iload_n 1, 1) := by decide +kernel
theorem dX1_goesOn_8 : decode cX1_goesOn 8 = .ok (.ifCond .ne 14, 3) := by decide +kernel
theorem dX1_goesOn_11 : decode cX1_goesOn 11 = .ok (.iload_n 3, 1) := by decide +kernel
theorem dX1_goesOn_12 : decode cX1_goesOn 12 = .ok (.iload_n 2, 1) := by decide +kernel
theorem dX1_goesOn_13 : decode cX1_goesOn 13 = .ok (.if_icmp .ne 7, 3) := by decide +kernel
theorem dX1_goesOn_16 : decode cX1_goesOn 16 = .ok (.iconst 1, 1) := by decide +kernel
theorem dX1_goesOn_17 : decode cX1_goesOn 17 = .ok (.goto 4, 3) := by decide +kernel
theorem dX1_goesOn_20 : decode cX1_goesOn 20 = .ok (.iconst 0, 1) := by decide +kernel
theorem dX1_goesOn_21 : decode cX1_goesOn 21 = .ok (.ireturn, 1) := by decide +kernel
theorem dX1_goesOn_22 : decode cX1_goesOn 22 = .ok (.iload_n 3, 1) := by decide +kernel
theorem dX1_goesOn_23 : decode cX1_goesOn 23 = .ok (.i2l, 1) := by decide +kernel
theorem dX1_goesOn_24 : decode cX1_goesOn 24 = .ok (.iconst 0, 1) := by decide +kernel
theorem dX1_goesOn_25 : decode cX1_goesOn 25 = .ok (.bipush 79, 2) := by decide +kernel
theorem dX1_goesOn_27 : decode cX1_goesOn 27 = .ok (.invokestatic 53, 3) := by decide +kernel
theorem dX1_goesOn_30 : decode cX1_goesOn 30 = .ok (.ifCond .eq 18, 3) := by decide +kernel
theorem dX1_goesOn_33 : decode cX1_goesOn 33 = .ok (.aload_n 0, 1) := by decide +kernel
theorem dX1_goesOn_34 : decode cX1_goesOn 34 = .ok (.getfield 50, 3) := by decide +kernel
theorem dX1_goesOn_37 : decode cX1_goesOn 37 = .ok (.iload_n 1, 1) := by decide +kernel
theorem dX1_goesOn_38 : decode cX1_goesOn 38 = .ok (.iconst 1, 1) := by decide +kernel
theorem dX1_goesOn_39 : decode cX1_goesOn 39 = .ok (.isub, 1) := by decide +kernel
theorem dX1_goesOn_40 : decode cX1_goesOn 40 = .ok (.iaload, 1) := by decide +kernel
theorem dX1_goesOn_41 : decode cX1_goesOn 41 = .ok (.iload_n 3, 1) := by decide +kernel
theorem dX1_goesOn_42 : decode cX1_goesOn 42 = .ok (.invokestatic 57, 3) := by decide +kernel
theorem dX1_goesOn_45 : decode cX1_goesOn 45 = .ok (.ifCond .ne 5, 3) := by decide +kernel
theorem dX1_goesOn_48 : decode cX1_goesOn 48 = .ok (.iconst 0, 1) := by decide +kernel
theorem dX1_goesOn_49 : decode cX1_goesOn 49 = .ok (.ireturn, 1) := by decide +kernel
theorem dX1_goesOn_50 : decode cX1_goesOn 50 = .ok (.iconst 0, 1) := by decide +kernel
theorem dX1_goesOn_51 : decode cX1_goesOn 51 = .ok (.istore 4, 2) := by decide +kernel
theorem dX1_goesOn_53 : decode cX1_goesOn 53 = .ok (.iload 4, 2) := by decide +kernel
theorem dX1_goesOn_55 : decode cX1_goesOn 55 = .ok (.iload_n 1, 1) := by decide +kernel
theorem dX1_goesOn_56 : decode cX1_goesOn 56 = .ok (.if_icmp .ge 22, 3) := by decide +kernel
theorem dX1_goesOn_59 : decode cX1_goesOn 59 = .ok (.aload_n 0, 1) := by decide +kernel
theorem dX1_goesOn_60 : decode cX1_goesOn 60 = .ok (.getfield 50, 3) := by decide +kernel
theorem dX1_goesOn_63 : decode cX1_goesOn 63 = .ok (.iload 4, 2) := by decide +kernel
theorem dX1_goesOn_65 : decode cX1_goesOn 65 = .ok (.iaload, 1) := by decide +kernel
theorem dX1_goesOn_66 : decode cX1_goesOn 66 = .ok (.iload_n 3, 1) := by decide +kernel
theorem dX1_goesOn_67 : decode cX1_goesOn 67 = .ok (.if_icmp .ne 5, 3) := by decide +kernel
theorem dX1_goesOn_70 : decode cX1_goesOn 70 = .ok (.iconst 0, 1) := by decide +kernel
theorem dX1_goesOn_71 : decode cX1_goesOn 71 = .ok (.ireturn, 1) := by decide +kernel
theorem dX1_goesOn_72 : decode cX1_goesOn 72 = .ok (.iinc 4 1, 3) := by decide +kernel
theorem dX1_goesOn_75 : decode cX1_goesOn 75 = .ok (.goto (-22), 3) := by decide +kernel
theorem dX1_goesOn_78 : decode cX1_goesOn 78 = .ok (.iconst 1, 1) := by decide +kernel
theorem dX1_goesOn_79 : decode cX1_goesOn 79 = .ok (.ireturn, 1) := by decide +kernel
theorem dX1_levelsOf_0 : decode cX1_levelsOf 0 = .ok (.aload_n 1, 1) := by decide +kernel
theorem dX1_levelsOf_1 : decode cX1_levelsOf 1 = .ok (.arraylength, 1) := by decide +kernel
theorem dX1_levelsOf_2 : decode cX1_levelsOf 2 = .ok (.aload_n 2, 1) := by decide +kernel
theorem dX1_levelsOf_3 : decode cX1_levelsOf 3 = .ok (.getfield 61, 3) := by decide +kernel
theorem dX1_levelsOf_6 : decode cX1_levelsOf 6 = .ok (.iconst 2, 1) := by decide +kernel
theorem dX1_levelsOf_7 : decode cX1_levelsOf 7 = .ok (.if_icmp .ne 12, 3) := by decide +kernel
theorem dX1_levelsOf_10 : decode cX1_levelsOf 10 = .ok (.aload_n 2, 1) := by decide +kernel
theorem dX1_levelsOf_11 : decode cX1_levelsOf 11 = .ok (.getfield 41, 3) := by decide +kernel
theorem dX1_levelsOf_14 : decode cX1_levelsOf 14 = .ok (.iconst 1, 1) := by decide +kernel
theorem dX1_levelsOf_15 : decode cX1_levelsOf 15 = .ok (.iadd, 1) := by decide +kernel
theorem dX1_levelsOf_16 : decode cX1_levelsOf 16 = .ok (.goto 4, 3) := by decide +kernel
theorem dX1_levelsOf_19 : decode cX1_levelsOf 19 = .ok (.iconst 1, 1) := by decide +kernel
theorem dX1_levelsOf_20 : decode cX1_levelsOf 20 = .ok (.invokestatic 64, 3) := by decide +kernel
theorem dX1_levelsOf_23 : decode cX1_levelsOf 23 = .ok (.istore_n 3, 1) := by decide +kernel
theorem dX1_levelsOf_24 : decode cX1_levelsOf 24 = .ok (.iload_n 3, 1) := by decide +kernel
theorem dX1_levelsOf_25 : decode cX1_levelsOf 25 = .ok (.newarray .int, 2) := by decide +kernel
theorem dX1_levelsOf_27 : decode cX1_levelsOf 27 = .ok (.astore 4, 2) := by decide +kernel
theorem dX1_levelsOf_29 : decode cX1_levelsOf 29 = .ok (.iconst 0, 1) := by decide +kernel
theorem dX1_levelsOf_30 : decode cX1_levelsOf 30 = .ok (.istore 5, 2) := by decide +kernel
theorem dX1_levelsOf_32 : decode cX1_levelsOf 32 = .ok (.iload 5, 2) := by decide +kernel
theorem dX1_levelsOf_34 : decode cX1_levelsOf 34 = .ok (.iload_n 3, 1) := by decide +kernel
theorem dX1_levelsOf_35 : decode cX1_levelsOf 35 = .ok (.if_icmp .ge 54, 3) := by decide +kernel
theorem dX1_levelsOf_38 : decode cX1_levelsOf 38 = .ok (.aload 4, 2) := by decide +kernel
theorem dX1_levelsOf_40 : decode cX1_levelsOf 40 = .ok (.iload 5, 2) := by decide +kernel
theorem dX1_levelsOf_42 : decode cX1_levelsOf 42 = .ok (.iload 5, 2) := by decide +kernel
theorem dX1_levelsOf_44 : decode cX1_levelsOf 44 = .ok (.ifCond .ne 14, 3) := by decide +kernel
theorem dX1_levelsOf_47 : decode cX1_levelsOf 47 = .ok (.aload_n 0, 1) := by decide +kernel
theorem dX1_levelsOf_48 : decode cX1_levelsOf 48 = .ok (.getfield 9, 3) := by decide +kernel
theorem dX1_levelsOf_51 : decode cX1_levelsOf 51 = .ok (.aload_n 1, 1) := by decide +kernel
theorem dX1_levelsOf_52 : decode cX1_levelsOf 52 = .ok (.iconst 0, 1) := by decide +kernel
theorem dX1_levelsOf_53 : decode cX1_levelsOf 53 = .ok (.iaload, 1) := by decide +kernel
theorem dX1_levelsOf_54 : decode cX1_levelsOf 54 = .ok (.iaload, 1) := by decide +kernel
theorem dX1_levelsOf_55 : decode cX1_levelsOf 55 = .ok (.goto 27, 3) := by decide +kernel
theorem dX1_levelsOf_58 : decode cX1_levelsOf 58 = .ok (.aload 4, 2) := by decide +kernel
theorem dX1_levelsOf_60 : decode cX1_levelsOf 60 = .ok (.iload 5, 2) := by decide +kernel
theorem dX1_levelsOf_62 : decode cX1_levelsOf 62 = .ok (.iconst 1, 1) := by decide +kernel
theorem dX1_levelsOf_63 : decode cX1_levelsOf 63 = .ok (.isub, 1) := by decide +kernel
theorem dX1_levelsOf_64 : decode cX1_levelsOf 64 = .ok (.iaload, 1) := by decide +kernel
theorem dX1_levelsOf_65 : decode cX1_levelsOf 65 = .ok (.aload_n 0, 1) := by decide +kernel
theorem dX1_levelsOf_66 : decode cX1_levelsOf 66 = .ok (.aload_n 1, 1) := by decide +kernel
theorem dX1_levelsOf_67 : decode cX1_levelsOf 67 = .ok (.iload 5, 2) := by decide +kernel
theorem dX1_levelsOf_69 : decode cX1_levelsOf 69 = .ok (.aload_n 2, 1) := by decide +kernel
theorem dX1_levelsOf_70 : decode cX1_levelsOf 70 = .ok (.getfield 50, 3) := by decide +kernel
theorem dX1_levelsOf_73 : decode cX1_levelsOf 73 = .ok (.iload 5, 2) := by decide +kernel
theorem dX1_levelsOf_75 : decode cX1_levelsOf 75 = .ok (.iconst 1, 1) := by decide +kernel
theorem dX1_levelsOf_76 : decode cX1_levelsOf 76 = .ok (.isub, 1) := by decide +kernel
theorem dX1_levelsOf_77 : decode cX1_levelsOf 77 = .ok (.iaload, 1) := by decide +kernel
theorem dX1_levelsOf_78 : decode cX1_levelsOf 78 = .ok (.invokevirtual 69, 3) := by decide +kernel
theorem dX1_levelsOf_81 : decode cX1_levelsOf 81 = .ok (.iadd, 1) := by decide +kernel
theorem dX1_levelsOf_82 : decode cX1_levelsOf 82 = .ok (.iastore, 1) := by decide +kernel
theorem dX1_levelsOf_83 : decode cX1_levelsOf 83 = .ok (.iinc 5 1, 3) := by decide +kernel
theorem dX1_levelsOf_86 : decode cX1_levelsOf 86 = .ok (.goto (-54), 3) := by decide +kernel
theorem dX1_levelsOf_89 : decode cX1_levelsOf 89 = .ok (.aload 4, 2) := by decide +kernel
theorem dX1_levelsOf_91 : decode cX1_levelsOf 91 = .ok (.areturn, 1) := by decide +kernel
theorem dX1_riseTo_0 : decode cX1_riseTo 0 = .ok (.iload_n 3, 1) := by decide +kernel
theorem dX1_riseTo_1 : decode cX1_riseTo 1 = .ok (.ldc 73, 2) := by decide +kernel
theorem dX1_riseTo_3 : decode cX1_riseTo 3 = .ok (.if_icmp .ne 23, 3) := by decide +kernel
theorem dX1_riseTo_6 : decode cX1_riseTo 6 = .ok (.aload_n 0, 1) := by decide +kernel
theorem dX1_riseTo_7 : decode cX1_riseTo 7 = .ok (.getfield 9, 3) := by decide +kernel
theorem dX1_riseTo_10 : decode cX1_riseTo 10 = .ok (.aload_n 1, 1) := by decide +kernel
theorem dX1_riseTo_11 : decode cX1_riseTo 11 = .ok (.iload_n 2, 1) := by decide +kernel
theorem dX1_riseTo_12 : decode cX1_riseTo 12 = .ok (.iaload, 1) := by decide +kernel
theorem dX1_riseTo_13 : decode cX1_riseTo 13 = .ok (.iaload, 1) := by decide +kernel
theorem dX1_riseTo_14 : decode cX1_riseTo 14 = .ok (.aload_n 0, 1) := by decide +kernel
theorem dX1_riseTo_15 : decode cX1_riseTo 15 = .ok (.getfield 9, 3) := by decide +kernel
theorem dX1_riseTo_18 : decode cX1_riseTo 18 = .ok (.aload_n 1, 1) := by decide +kernel
theorem dX1_riseTo_19 : decode cX1_riseTo 19 = .ok (.iload_n 2, 1) := by decide +kernel
theorem dX1_riseTo_20 : decode cX1_riseTo 20 = .ok (.iconst 1, 1) := by decide +kernel
theorem dX1_riseTo_21 : decode cX1_riseTo 21 = .ok (.isub, 1) := by decide +kernel
theorem dX1_riseTo_22 : decode cX1_riseTo 22 = .ok (.iaload, 1) := by decide +kernel
theorem dX1_riseTo_23 : decode cX1_riseTo 23 = .ok (.iaload, 1) := by decide +kernel
theorem dX1_riseTo_24 : decode cX1_riseTo 24 = .ok (.isub, 1) := by decide +kernel
theorem dX1_riseTo_25 : decode cX1_riseTo 25 = .ok (.ireturn, 1) := by decide +kernel
theorem dX1_riseTo_26 : decode cX1_riseTo 26 = .ok (.sipush (-10000), 3) := by decide +kernel
theorem dX1_riseTo_29 : decode cX1_riseTo 29 = .ok (.sipush 10000, 3) := by decide +kernel
theorem dX1_riseTo_32 : decode cX1_riseTo 32 = .ok (.iload_n 3, 1) := by decide +kernel
theorem dX1_riseTo_33 : decode cX1_riseTo 33 = .ok (.invokestatic 64, 3) := by decide +kernel
theorem dX1_riseTo_36 : decode cX1_riseTo 36 = .ok (.invokestatic 74, 3) := by decide +kernel
theorem dX1_riseTo_39 : decode cX1_riseTo 39 = .ok (.ireturn, 1) := by decide +kernel
theorem dX1_climb_0 : decode cX1_climb 0 = .ok (.aload_n 0, 1) := by decide +kernel
theorem dX1_climb_1 : decode cX1_climb 1 = .ok (.getfield 9, 3) := by decide +kernel
theorem dX1_climb_4 : decode cX1_climb 4 = .ok (.iload_n 2, 1) := by decide +kernel
theorem dX1_climb_5 : decode cX1_climb 5 = .ok (.iaload, 1) := by decide +kernel
theorem dX1_climb_6 : decode cX1_climb 6 = .ok (.aload_n 0, 1) := by decide +kernel
theorem dX1_climb_7 : decode cX1_climb 7 = .ok (.getfield 9, 3) := by decide +kernel
theorem dX1_climb_10 : decode cX1_climb 10 = .ok (.iload_n 1, 1) := by decide +kernel
theorem dX1_climb_11 : decode cX1_climb 11 = .ok (.iaload, 1) := by decide +kernel
theorem dX1_climb_12 : decode cX1_climb 12 = .ok (.isub, 1) := by decide +kernel
theorem dX1_climb_13 : decode cX1_climb 13 = .ok (.invokestatic 77, 3) := by decide +kernel
theorem dX1_climb_16 : decode cX1_climb 16 = .ok (.ireturn, 1) := by decide +kernel
theorem dX1_yardsTo_0 : decode cX1_yardsTo 0 = .ok (.aload_n 0, 1) := by decide +kernel
theorem dX1_yardsTo_1 : decode cX1_yardsTo 1 = .ok (.getfield 15, 3) := by decide +kernel
theorem dX1_yardsTo_4 : decode cX1_yardsTo 4 = .ok (.iload_n 2, 1) := by decide +kernel
theorem dX1_yardsTo_5 : decode cX1_yardsTo 5 = .ok (.iaload, 1) := by decide +kernel
theorem dX1_yardsTo_6 : decode cX1_yardsTo 6 = .ok (.iconst 1, 1) := by decide +kernel
theorem dX1_yardsTo_7 : decode cX1_yardsTo 7 = .ok (.if_icmp .ne 8, 3) := by decide +kernel
theorem dX1_yardsTo_10 : decode cX1_yardsTo 10 = .ok (.bipush 20, 2) := by decide +kernel
theorem dX1_yardsTo_12 : decode cX1_yardsTo 12 = .ok (.goto 18, 3) := by decide +kernel
theorem dX1_yardsTo_15 : decode cX1_yardsTo 15 = .ok (.aload_n 0, 1) := by decide +kernel
theorem dX1_yardsTo_16 : decode cX1_yardsTo 16 = .ok (.getfield 15, 3) := by decide +kernel
theorem dX1_yardsTo_19 : decode cX1_yardsTo 19 = .ok (.iload_n 2, 1) := by decide +kernel
theorem dX1_yardsTo_20 : decode cX1_yardsTo 20 = .ok (.iaload, 1) := by decide +kernel
theorem dX1_yardsTo_21 : decode cX1_yardsTo 21 = .ok (.iconst 2, 1) := by decide +kernel
theorem dX1_yardsTo_22 : decode cX1_yardsTo 22 = .ok (.if_icmp .ne 7, 3) := by decide +kernel
theorem dX1_yardsTo_25 : decode cX1_yardsTo 25 = .ok (.iconst 5, 1) := by decide +kernel
theorem dX1_yardsTo_26 : decode cX1_yardsTo 26 = .ok (.goto 4, 3) := by decide +kernel
theorem dX1_yardsTo_29 : decode cX1_yardsTo 29 = .ok (.iconst 0, 1) := by decide +kernel
theorem dX1_yardsTo_30 : decode cX1_yardsTo 30 = .ok (.istore_n 3, 1) := by decide +kernel
theorem dX1_yardsTo_31 : decode cX1_yardsTo 31 = .ok (.bipush 10, 2) := by decide +kernel
theorem dX1_yardsTo_33 : decode cX1_yardsTo 33 = .ok (.iconst 3, 1) := by decide +kernel
theorem dX1_yardsTo_34 : decode cX1_yardsTo 34 = .ok (.aload_n 0, 1) := by decide +kernel
theorem dX1_yardsTo_35 : decode cX1_yardsTo 35 = .ok (.iload_n 1, 1) := by decide +kernel
theorem dX1_yardsTo_36 : decode cX1_yardsTo 36 = .ok (.iload_n 2, 1) := by decide +kernel
theorem dX1_yardsTo_37 : decode cX1_yardsTo 37 = .ok (.invokevirtual 81, 3) := by decide +kernel
theorem dX1_yardsTo_40 : decode cX1_yardsTo 40 = .ok (.imul, 1) := by decide +kernel
theorem dX1_yardsTo_41 : decode cX1_yardsTo 41 = .ok (.iadd, 1) := by decide +kernel
theorem dX1_yardsTo_42 : decode cX1_yardsTo 42 = .ok (.iload_n 3, 1) := by decide +kernel
theorem dX1_yardsTo_43 : decode cX1_yardsTo 43 = .ok (.iadd, 1) := by decide +kernel
theorem dX1_yardsTo_44 : decode cX1_yardsTo 44 = .ok (.ireturn, 1) := by decide +kernel
theorem dX1_yardsOf_0 : decode cX1_yardsOf 0 = .ok (.iconst 0, 1) := by decide +kernel
theorem dX1_yardsOf_1 : decode cX1_yardsOf 1 = .ok (.istore_n 2, 1) := by decide +kernel
theorem dX1_yardsOf_2 : decode cX1_yardsOf 2 = .ok (.iconst 1, 1) := by decide +kernel
theorem dX1_yardsOf_3 : decode cX1_yardsOf 3 = .ok (.istore_n 3, 1) := by decide +kernel
theorem dX1_yardsOf_4 : decode cX1_yardsOf 4 = .ok (.iload_n 3, 1) := by decide +kernel
theorem dX1_yardsOf_5 : decode cX1_yardsOf 5 = .ok (.aload_n 1, 1) := by decide +kernel
theorem dX1_yardsOf_6 : decode cX1_yardsOf 6 = .ok (.arraylength, 1) := by decide +kernel
theorem dX1_yardsOf_7 : decode cX1_yardsOf 7 = .ok (.if_icmp .ge 24, 3) := by decide +kernel
theorem dX1_yardsOf_10 : decode cX1_yardsOf 10 = .ok (.iload_n 2, 1) := by decide +kernel
theorem dX1_yardsOf_11 : decode cX1_yardsOf 11 = .ok (.aload_n 0, 1) := by decide +kernel
theorem dX1_yardsOf_12 : decode cX1_yardsOf 12 = .ok (.aload_n 1, 1) := by decide +kernel
theorem dX1_yardsOf_13 : decode cX1_yardsOf 13 = .ok (.iload_n 3, 1) := by decide +kernel
theorem dX1_yardsOf_14 : decode cX1_yardsOf 14 = .ok (.iconst 1, 1) := by decide +kernel
theorem dX1_yardsOf_15 : decode cX1_yardsOf 15 = .ok (.isub, 1) := by decide +kernel
theorem dX1_yardsOf_16 : decode cX1_yardsOf 16 = .ok (.iaload, 1) := by decide +kernel
theorem dX1_yardsOf_17 : decode cX1_yardsOf 17 = .ok (.aload_n 1, 1) := by decide +kernel
theorem dX1_yardsOf_18 : decode cX1_yardsOf 18 = .ok (.iload_n 3, 1) := by decide +kernel
theorem dX1_yardsOf_19 : decode cX1_yardsOf 19 = .ok (.iaload, 1) := by decide +kernel
theorem dX1_yardsOf_20 : decode cX1_yardsOf 20 = .ok (.invokevirtual 84, 3) := by decide +kernel
theorem dX1_yardsOf_23 : decode cX1_yardsOf 23 = .ok (.iadd, 1) := by decide +kernel
theorem dX1_yardsOf_24 : decode cX1_yardsOf 24 = .ok (.istore_n 2, 1) := by decide +kernel
theorem dX1_yardsOf_25 : decode cX1_yardsOf 25 = .ok (.iinc 3 1, 3) := by decide +kernel
theorem dX1_yardsOf_28 : decode cX1_yardsOf 28 = .ok (.goto (-24), 3) := by decide +kernel
theorem dX1_yardsOf_31 : decode cX1_yardsOf 31 = .ok (.iload_n 2, 1) := by decide +kernel
theorem dX1_yardsOf_32 : decode cX1_yardsOf 32 = .ok (.ireturn, 1) := by decide +kernel
theorem dX1_claimsOf_0 : decode cX1_claimsOf 0 = .ok (.iconst 0, 1) := by decide +kernel
theorem dX1_claimsOf_1 : decode cX1_claimsOf 1 = .ok (.istore_n 2, 1) := by decide +kernel
theorem dX1_claimsOf_2 : decode cX1_claimsOf 2 = .ok (.iconst 0, 1) := by decide +kernel
theorem dX1_claimsOf_3 : decode cX1_claimsOf 3 = .ok (.istore_n 3, 1) := by decide +kernel
theorem dX1_claimsOf_4 : decode cX1_claimsOf 4 = .ok (.iload_n 3, 1) := by decide +kernel
theorem dX1_claimsOf_5 : decode cX1_claimsOf 5 = .ok (.aload_n 1, 1) := by decide +kernel
theorem dX1_claimsOf_6 : decode cX1_claimsOf 6 = .ok (.arraylength, 1) := by decide +kernel
theorem dX1_claimsOf_7 : decode cX1_claimsOf 7 = .ok (.if_icmp .ge 20, 3) := by decide +kernel
theorem dX1_claimsOf_10 : decode cX1_claimsOf 10 = .ok (.iload_n 2, 1) := by decide +kernel
theorem dX1_claimsOf_11 : decode cX1_claimsOf 11 = .ok (.aload_n 0, 1) := by decide +kernel
theorem dX1_claimsOf_12 : decode cX1_claimsOf 12 = .ok (.getfield 18, 3) := by decide +kernel
theorem dX1_claimsOf_15 : decode cX1_claimsOf 15 = .ok (.aload_n 1, 1) := by decide +kernel
theorem dX1_claimsOf_16 : decode cX1_claimsOf 16 = .ok (.iload_n 3, 1) := by decide +kernel
theorem dX1_claimsOf_17 : decode cX1_claimsOf 17 = .ok (.iaload, 1) := by decide +kernel
theorem dX1_claimsOf_18 : decode cX1_claimsOf 18 = .ok (.iaload, 1) := by decide +kernel
theorem dX1_claimsOf_19 : decode cX1_claimsOf 19 = .ok (.iadd, 1) := by decide +kernel
theorem dX1_claimsOf_20 : decode cX1_claimsOf 20 = .ok (.istore_n 2, 1) := by decide +kernel
theorem dX1_claimsOf_21 : decode cX1_claimsOf 21 = .ok (.iinc 3 1, 3) := by decide +kernel
theorem dX1_claimsOf_24 : decode cX1_claimsOf 24 = .ok (.goto (-20), 3) := by decide +kernel
theorem dX1_claimsOf_27 : decode cX1_claimsOf 27 = .ok (.iload_n 2, 1) := by decide +kernel
theorem dX1_claimsOf_28 : decode cX1_claimsOf 28 = .ok (.ireturn, 1) := by decide +kernel
theorem dX1_cellsOf_0 : decode cX1_cellsOf 0 = .ok (.iconst 0, 1) := by decide +kernel
theorem dX1_cellsOf_1 : decode cX1_cellsOf 1 = .ok (.istore_n 3, 1) := by decide +kernel
theorem dX1_cellsOf_2 : decode cX1_cellsOf 2 = .ok (.iconst 0, 1) := by decide +kernel
theorem dX1_cellsOf_3 : decode cX1_cellsOf 3 = .ok (.istore 4, 2) := by decide +kernel
theorem dX1_cellsOf_5 : decode cX1_cellsOf 5 = .ok (.iload 4, 2) := by decide +kernel
theorem dX1_cellsOf_7 : decode cX1_cellsOf 7 = .ok (.aload_n 1, 1) := by decide +kernel
theorem dX1_cellsOf_8 : decode cX1_cellsOf 8 = .ok (.arraylength, 1) := by decide +kernel
theorem dX1_cellsOf_9 : decode cX1_cellsOf 9 = .ok (.if_icmp .ge 25, 3) := by decide +kernel
theorem dX1_cellsOf_12 : decode cX1_cellsOf 12 = .ok (.aload_n 0, 1) := by decide +kernel
theorem dX1_cellsOf_13 : decode cX1_cellsOf 13 = .ok (.getfield 15, 3) := by decide +kernel
theorem dX1_cellsOf_16 : decode cX1_cellsOf 16 = .ok (.aload_n 1, 1) := by decide +kernel
theorem dX1_cellsOf_17 : decode cX1_cellsOf 17 = .ok (.iload 4, 2) := by decide +kernel
theorem dX1_cellsOf_19 : decode cX1_cellsOf 19 = .ok (.iaload, 1) := by decide +kernel
theorem dX1_cellsOf_20 : decode cX1_cellsOf 20 = .ok (.iaload, 1) := by decide +kernel
theorem dX1_cellsOf_21 : decode cX1_cellsOf 21 = .ok (.iload_n 2, 1) := by decide +kernel
theorem dX1_cellsOf_22 : decode cX1_cellsOf 22 = .ok (.if_icmp .ne 6, 3) := by decide +kernel
theorem dX1_cellsOf_25 : decode cX1_cellsOf 25 = .ok (.iinc 3 1, 3) := by decide +kernel
theorem dX1_cellsOf_28 : decode cX1_cellsOf 28 = .ok (.iinc 4 1, 3) := by decide +kernel
theorem dX1_cellsOf_31 : decode cX1_cellsOf 31 = .ok (.goto (-26), 3) := by decide +kernel
theorem dX1_cellsOf_34 : decode cX1_cellsOf 34 = .ok (.iload_n 3, 1) := by decide +kernel
theorem dX1_cellsOf_35 : decode cX1_cellsOf 35 = .ok (.ireturn, 1) := by decide +kernel
theorem dX2_init_0 : decode cX2_init 0 = .ok (.aload_n 0, 1) := by decide +kernel
theorem dX2_init_1 : decode cX2_init 1 = .ok (.invokespecial 3, 3) := by decide +kernel
theorem dX2_init_4 : decode cX2_init 4 = .ok (.aload_n 0, 1) := by decide +kernel
theorem dX2_init_5 : decode cX2_init 5 = .ok (.bipush 10, 2) := by decide +kernel
theorem dX2_init_7 : decode cX2_init 7 = .ok (.newarray .int, 2) := by decide +kernel
theorem dX2_init_9 : decode cX2_init 9 = .ok (.putfield 9, 3) := by decide +kernel
theorem dX2_init_12 : decode cX2_init 12 = .ok (.aload_n 0, 1) := by decide +kernel
theorem dX2_init_13 : decode cX2_init 13 = .ok (.bipush 10, 2) := by decide +kernel
theorem dX2_init_15 : decode cX2_init 15 = .ok (.newarray .int, 2) := by decide +kernel
theorem dX2_init_17 : decode cX2_init 17 = .ok (.putfield 15, 3) := by decide +kernel
theorem dX2_init_20 : decode cX2_init 20 = .ok (.aload_n 0, 1) := by decide +kernel
theorem dX2_init_21 : decode cX2_init 21 = .ok (.bipush 10, 2) := by decide +kernel
theorem dX2_init_23 : decode cX2_init 23 = .ok (.newarray .int, 2) := by decide +kernel
theorem dX2_init_25 : decode cX2_init 25 = .ok (.putfield 18, 3) := by decide +kernel
theorem dX2_init_28 : decode cX2_init 28 = .ok (.aload_n 0, 1) := by decide +kernel
theorem dX2_init_29 : decode cX2_init 29 = .ok (.bipush 10, 2) := by decide +kernel
theorem dX2_init_31 : decode cX2_init 31 = .ok (.newarray .int, 2) := by decide +kernel
theorem dX2_init_33 : decode cX2_init 33 = .ok (.putfield 21, 3) := by decide +kernel
theorem dX2_init_36 : decode cX2_init 36 = .ok (.aload_n 0, 1) := by decide +kernel
theorem dX2_init_37 : decode cX2_init 37 = .ok (.bipush 10, 2) := by decide +kernel
theorem dX2_init_39 : decode cX2_init 39 = .ok (.newarray .int, 2) := by decide +kernel
theorem dX2_init_41 : decode cX2_init 41 = .ok (.putfield 24, 3) := by decide +kernel
theorem dX2_init_44 : decode cX2_init 44 = .ok (.return_, 1) := by decide +kernel
theorem dX2_clear_0 : decode cX2_clear 0 = .ok (.aload_n 0, 1) := by decide +kernel
theorem dX2_clear_1 : decode cX2_clear 1 = .ok (.iconst 0, 1) := by decide +kernel
theorem dX2_clear_2 : decode cX2_clear 2 = .ok (.putfield 27, 3) := by decide +kernel
theorem dX2_clear_5 : decode cX2_clear 5 = .ok (.aload_n 0, 1) := by decide +kernel
theorem dX2_clear_6 : decode cX2_clear 6 = .ok (.iconst 0, 1) := by decide +kernel
theorem dX2_clear_7 : decode cX2_clear 7 = .ok (.putfield 31, 3) := by decide +kernel
theorem dX2_clear_10 : decode cX2_clear 10 = .ok (.return_, 1) := by decide +kernel
theorem dX2_add_0 : decode cX2_add 0 = .ok (.aload_n 0, 1) := by decide +kernel
theorem dX2_add_1 : decode cX2_add 1 = .ok (.getfield 27, 3) := by decide +kernel
theorem dX2_add_4 : decode cX2_add 4 = .ok (.bipush 10, 2) := by decide +kernel
theorem dX2_add_6 : decode cX2_add 6 = .ok (.if_icmp .lt 4, 3) := by decide +kernel
theorem dX2_add_9 : decode cX2_add 9 = .ok (.return_, 1) := by decide +kernel
theorem dX2_add_10 : decode cX2_add 10 = .ok (.aload_n 0, 1) := by decide +kernel
theorem dX2_add_11 : decode cX2_add 11 = .ok (.getfield 9, 3) := by decide +kernel
theorem dX2_add_14 : decode cX2_add 14 = .ok (.aload_n 0, 1) := by decide +kernel
theorem dX2_add_15 : decode cX2_add 15 = .ok (.getfield 27, 3) := by decide +kernel
theorem dX2_add_18 : decode cX2_add 18 = .ok (.iload_n 1, 1) := by decide +kernel
theorem dX2_add_19 : decode cX2_add 19 = .ok (.iastore, 1) := by decide +kernel
theorem dX2_add_20 : decode cX2_add 20 = .ok (.aload_n 0, 1) := by decide +kernel
theorem dX2_add_21 : decode cX2_add 21 = .ok (.getfield 15, 3) := by decide +kernel
theorem dX2_add_24 : decode cX2_add 24 = .ok (.aload_n 0, 1) := by decide +kernel
theorem dX2_add_25 : decode cX2_add 25 = .ok (.getfield 27, 3) := by decide +kernel
theorem dX2_add_28 : decode cX2_add 28 = .ok (.iconst 1, 1) := by decide +kernel
theorem dX2_add_29 : decode cX2_add 29 = .ok (.aload_n 2, 1) := by decide +kernel
theorem dX2_add_30 : decode cX2_add 30 = .ok (.getfield 34, 3) := by decide +kernel
theorem dX2_add_33 : decode cX2_add 33 = .ok (.ishl, 1) := by decide +kernel
theorem dX2_add_34 : decode cX2_add 34 = .ok (.iconst 1, 1) := by decide +kernel
theorem dX2_add_35 : decode cX2_add 35 = .ok (.aload_n 2, 1) := by decide +kernel
theorem dX2_add_36 : decode cX2_add 36 = .ok (.getfield 39, 3) := by decide +kernel
theorem dX2_add_39 : decode cX2_add 39 = .ok (.ishl, 1) := by decide +kernel
theorem dX2_add_40 : decode cX2_add 40 = .ok (.ior, 1) := by decide +kernel
theorem dX2_add_41 : decode cX2_add 41 = .ok (.iastore, 1) := by decide +kernel
theorem dX2_add_42 : decode cX2_add 42 = .ok (.aload_n 0, 1) := by decide +kernel
theorem dX2_add_43 : decode cX2_add 43 = .ok (.getfield 21, 3) := by decide +kernel
theorem dX2_add_46 : decode cX2_add 46 = .ok (.aload_n 0, 1) := by decide +kernel
theorem dX2_add_47 : decode cX2_add 47 = .ok (.getfield 27, 3) := by decide +kernel
theorem dX2_add_50 : decode cX2_add 50 = .ok (.iload 5, 2) := by decide +kernel
theorem dX2_add_52 : decode cX2_add 52 = .ok (.iastore, 1) := by decide +kernel
theorem dX2_add_53 : decode cX2_add 53 = .ok (.aload_n 0, 1) := by decide +kernel
theorem dX2_add_54 : decode cX2_add 54 = .ok (.getfield 24, 3) := by decide +kernel
theorem dX2_add_57 : decode cX2_add 57 = .ok (.aload_n 0, 1) := by decide +kernel
theorem dX2_add_58 : decode cX2_add 58 = .ok (.getfield 27, 3) := by decide +kernel
theorem dX2_add_61 : decode cX2_add 61 = .ok (.iload 6, 2) := by decide +kernel
theorem dX2_add_63 : decode cX2_add 63 = .ok (.iastore, 1) := by decide +kernel
theorem dX2_add_64 : decode cX2_add 64 = .ok (.aload_n 0, 1) := by decide +kernel
theorem dX2_add_65 : decode cX2_add 65 = .ok (.getfield 18, 3) := by decide +kernel
theorem dX2_add_68 : decode cX2_add 68 = .ok (.aload_n 0, 1) := by decide +kernel
theorem dX2_add_69 : decode cX2_add 69 = .ok (.getfield 27, 3) := by decide +kernel
theorem dX2_add_72 : decode cX2_add 72 = .ok (.iconst 0, 1) := by decide +kernel
theorem dX2_add_73 : decode cX2_add 73 = .ok (.iastore, 1) := by decide +kernel
theorem dX2_add_74 : decode cX2_add 74 = .ok (.iconst 0, 1) := by decide +kernel
theorem dX2_add_75 : decode cX2_add 75 = .ok (.istore 7, 2) := by decide +kernel
theorem dX2_add_77 : decode cX2_add 77 = .ok (.iload 7, 2) := by decide +kernel
theorem dX2_add_79 : decode cX2_add 79 = .ok (.aload_n 0, 1) := by decide +kernel
theorem dX2_add_80 : decode cX2_add 80 = .ok (.getfield 27, 3) := by decide +kernel
theorem dX2_add_83 : decode cX2_add 83 = .ok (.if_icmp .ge 41, 3) := by decide +kernel
theorem dX2_add_86 : decode cX2_add 86 = .ok (.lload_n 3, 1) := by decide +kernel
theorem dX2_add_87 : decode cX2_add 87 = .ok (.aload_n 0, 1) := by decide +kernel
theorem dX2_add_88 : decode cX2_add 88 = .ok (.getfield 9, 3) := by decide +kernel
theorem dX2_add_91 : decode cX2_add 91 = .ok (.iload 7, 2) := by decide +kernel
theorem dX2_add_93 : decode cX2_add 93 = .ok (.iaload, 1) := by decide +kernel
theorem dX2_add_94 : decode cX2_add 94 = .ok (.lshr, 1) := by decide +kernel
theorem dX2_add_95 : decode cX2_add 95 = .ok (.lconst 1, 1) := by decide +kernel
theorem dX2_add_96 : decode cX2_add 96 = .ok (.land, 1) := by decide +kernel
theorem dX2_add_97 : decode cX2_add 97 = .ok (.lconst 0, 1) := by decide +kernel
theorem dX2_add_98 : decode cX2_add 98 = .ok (.lcmp, 1) := by decide +kernel
theorem dX2_add_99 : decode cX2_add 99 = .ok (.ifCond .eq 19, 3) := by decide +kernel
theorem dX2_add_102 : decode cX2_add 102 = .ok (.aload_n 0, 1) := by decide +kernel
theorem dX2_add_103 : decode cX2_add 103 = .ok (.getfield 18, 3) := by decide +kernel
theorem dX2_add_106 : decode cX2_add 106 = .ok (.aload_n 0, 1) := by decide +kernel
theorem dX2_add_107 : decode cX2_add 107 = .ok (.getfield 27, 3) := by decide +kernel
theorem dX2_add_110 : decode cX2_add 110 = .ok (.dup2, 1) := by decide +kernel
theorem dX2_add_111 : decode cX2_add 111 = .ok (.iaload, 1) := by decide +kernel
theorem dX2_add_112 : decode cX2_add 112 = .ok (.iconst 1, 1) := by decide +kernel
theorem dX2_add_113 : decode cX2_add 113 = .ok (.iload 7, 2) := by decide +kernel
theorem dX2_add_115 : decode cX2_add 115 = .ok (.ishl, 1) := by decide +kernel
theorem dX2_add_116 : decode cX2_add 116 = .ok (.ior, 1) := by decide +kernel
theorem dX2_add_117 : decode cX2_add 117 = .ok (.iastore, 1) := by decide +kernel
theorem dX2_add_118 : decode cX2_add 118 = .ok (.iinc 7 1, 3) := by decide +kernel
theorem dX2_add_121 : decode cX2_add 121 = .ok (.goto (-44), 3) := by decide +kernel
theorem dX2_add_124 : decode cX2_add 124 = .ok (.aload_n 0, 1) := by decide +kernel
theorem dX2_add_125 : decode cX2_add 125 = .ok (.dup, 1) := by decide +kernel
theorem dX2_add_126 : decode cX2_add 126 = .ok (.getfield 31, 3) := by decide +kernel
theorem dX2_add_129 : decode cX2_add 129 = .ok (.aload_n 2, 1) := by decide +kernel
theorem dX2_add_130 : decode cX2_add 130 = .ok (.getfield 42, 3) := by decide +kernel
theorem dX2_add_133 : decode cX2_add 133 = .ok (.aload_n 0, 1) := by decide +kernel
theorem dX2_add_134 : decode cX2_add 134 = .ok (.getfield 27, 3) := by decide +kernel
theorem dX2_add_137 : decode cX2_add 137 = .ok (.ishl, 1) := by decide +kernel
theorem dX2_add_138 : decode cX2_add 138 = .ok (.ior, 1) := by decide +kernel
theorem dX2_add_139 : decode cX2_add 139 = .ok (.putfield 31, 3) := by decide +kernel
theorem dX2_add_142 : decode cX2_add 142 = .ok (.aload_n 0, 1) := by decide +kernel
theorem dX2_add_143 : decode cX2_add 143 = .ok (.dup, 1) := by decide +kernel
theorem dX2_add_144 : decode cX2_add 144 = .ok (.getfield 27, 3) := by decide +kernel
theorem dX2_add_147 : decode cX2_add 147 = .ok (.iconst 1, 1) := by decide +kernel
theorem dX2_add_148 : decode cX2_add 148 = .ok (.iadd, 1) := by decide +kernel
theorem dX2_add_149 : decode cX2_add 149 = .ok (.putfield 27, 3) := by decide +kernel
theorem dX2_add_152 : decode cX2_add 152 = .ok (.return_, 1) := by decide +kernel
theorem dX2_join_0 : decode cX2_join 0 = .ok (.iload_n 1, 1) := by decide +kernel
theorem dX2_join_1 : decode cX2_join 1 = .ok (.iload_n 1, 1) := by decide +kernel
theorem dX2_join_2 : decode cX2_join 2 = .ok (.ineg, 1) := by decide +kernel
theorem dX2_join_3 : decode cX2_join 3 = .ok (.iand, 1) := by decide +kernel
theorem dX2_join_4 : decode cX2_join 4 = .ok (.istore_n 3, 1) := by decide +kernel
theorem dX2_join_5 : decode cX2_join 5 = .ok (.iconst 0, 1) := by decide +kernel
theorem dX2_join_6 : decode cX2_join 6 = .ok (.istore 4, 2) := by decide +kernel
theorem dX2_join_8 : decode cX2_join 8 = .ok (.iconst 0, 1) := by decide +kernel
theorem dX2_join_9 : decode cX2_join 9 = .ok (.istore 5, 2) := by decide +kernel
theorem dX2_join_11 : decode cX2_join 11 = .ok (.iload 5, 2) := by decide +kernel
theorem dX2_join_13 : decode cX2_join 13 = .ok (.bipush 6, 2) := by decide +kernel
theorem dX2_join_15 : decode cX2_join 15 = .ok (.if_icmp .ge 67, 3) := by decide +kernel
theorem dX2_join_18 : decode cX2_join 18 = .ok (.iload_n 3, 1) := by decide +kernel
theorem dX2_join_19 : decode cX2_join 19 = .ok (.iload 4, 2) := by decide +kernel
theorem dX2_join_21 : decode cX2_join 21 = .ok (.if_icmp .eq 61, 3) := by decide +kernel
theorem dX2_join_24 : decode cX2_join 24 = .ok (.iload_n 3, 1) := by decide +kernel
theorem dX2_join_25 : decode cX2_join 25 = .ok (.istore 4, 2) := by decide +kernel
theorem dX2_join_27 : decode cX2_join 27 = .ok (.iconst 0, 1) := by decide +kernel
theorem dX2_join_28 : decode cX2_join 28 = .ok (.istore 6, 2) := by decide +kernel
theorem dX2_join_30 : decode cX2_join 30 = .ok (.iload 6, 2) := by decide +kernel
theorem dX2_join_32 : decode cX2_join 32 = .ok (.aload_n 0, 1) := by decide +kernel
theorem dX2_join_33 : decode cX2_join 33 = .ok (.getfield 27, 3) := by decide +kernel
theorem dX2_join_36 : decode cX2_join 36 = .ok (.if_icmp .ge 40, 3) := by decide +kernel
theorem dX2_join_39 : decode cX2_join 39 = .ok (.iload_n 2, 1) := by decide +kernel
theorem dX2_join_40 : decode cX2_join 40 = .ok (.iload 6, 2) := by decide +kernel
theorem dX2_join_42 : decode cX2_join 42 = .ok (.ishr, 1) := by decide +kernel
theorem dX2_join_43 : decode cX2_join 43 = .ok (.iconst 1, 1) := by decide +kernel
theorem dX2_join_44 : decode cX2_join 44 = .ok (.iand, 1) := by decide +kernel
theorem dX2_join_45 : decode cX2_join 45 = .ok (.ifCond .eq 25, 3) := by decide +kernel
theorem dX2_join_48 : decode cX2_join 48 = .ok (.aload_n 0, 1) := by decide +kernel
theorem dX2_join_49 : decode cX2_join 49 = .ok (.getfield 15, 3) := by decide +kernel
theorem dX2_join_52 : decode cX2_join 52 = .ok (.iload 6, 2) := by decide +kernel
theorem dX2_join_54 : decode cX2_join 54 = .ok (.iaload, 1) := by decide +kernel
theorem dX2_join_55 : decode cX2_join 55 = .ok (.iload_n 3, 1) := by decide +kernel
theorem dX2_join_56 : decode cX2_join 56 = .ok (.iand, 1) := by decide +kernel
theorem dX2_join_57 : decode cX2_join 57 = .ok (.ifCond .eq 13, 3) := by decide +kernel
theorem dX2_join_60 : decode cX2_join 60 = .ok (.iload_n 3, 1) := by decide +kernel
theorem dX2_join_61 : decode cX2_join 61 = .ok (.aload_n 0, 1) := by decide +kernel
theorem dX2_join_62 : decode cX2_join 62 = .ok (.getfield 15, 3) := by decide +kernel
theorem dX2_join_65 : decode cX2_join 65 = .ok (.iload 6, 2) := by decide +kernel
theorem dX2_join_67 : decode cX2_join 67 = .ok (.iaload, 1) := by decide +kernel
theorem dX2_join_68 : decode cX2_join 68 = .ok (.ior, 1) := by decide +kernel
theorem dX2_join_69 : decode cX2_join 69 = .ok (.istore_n 3, 1) := by decide +kernel
theorem dX2_join_70 : decode cX2_join 70 = .ok (.iinc 6 1, 3) := by decide +kernel
theorem dX2_join_73 : decode cX2_join 73 = .ok (.goto (-43), 3) := by decide +kernel
theorem dX2_join_76 : decode cX2_join 76 = .ok (.iinc 5 1, 3) := by decide +kernel
theorem dX2_join_79 : decode cX2_join 79 = .ok (.goto (-68), 3) := by decide +kernel
theorem dX2_join_82 : decode cX2_join 82 = .ok (.iload_n 1, 1) := by decide +kernel
theorem dX2_join_83 : decode cX2_join 83 = .ok (.iload_n 3, 1) := by decide +kernel
theorem dX2_join_84 : decode cX2_join 84 = .ok (.iconst (-1), 1) := by decide +kernel
theorem dX2_join_85 : decode cX2_join 85 = .ok (.ixor, 1) := by decide +kernel
theorem dX2_join_86 : decode cX2_join 86 = .ok (.iand, 1) := by decide +kernel
theorem dX2_join_87 : decode cX2_join 87 = .ok (.ifCond .ne 7, 3) := by decide +kernel
theorem dX2_join_90 : decode cX2_join 90 = .ok (.iconst 1, 1) := by decide +kernel
theorem dX2_join_91 : decode cX2_join 91 = .ok (.goto 4, 3) := by decide +kernel
theorem dX2_join_94 : decode cX2_join 94 = .ok (.iconst 0, 1) := by decide +kernel
theorem dX2_join_95 : decode cX2_join 95 = .ok (.ireturn, 1) := by decide +kernel
theorem dX2_fewestRelaid_0 : decode cX2_fewestRelaid 0 = .ok (.iconst 1, 1) := by decide +kernel
theorem dX2_fewestRelaid_1 : decode cX2_fewestRelaid 1 = .ok (.aload_n 0, 1) := by decide +kernel
theorem dX2_fewestRelaid_2 : decode cX2_fewestRelaid 2 = .ok (.getfield 27, 3) := by decide +kernel
theorem dX2_fewestRelaid_5 : decode cX2_fewestRelaid 5 = .ok (.ishl, 1) := by decide +kernel
theorem dX2_fewestRelaid_6 : decode cX2_fewestRelaid 6 = .ok (.iconst 1, 1) := by decide +kernel
theorem dX2_fewestRelaid_7 : decode cX2_fewestRelaid 7 = .ok (.isub, 1) := by decide +kernel
theorem dX2_fewestRelaid_8 : decode cX2_fewestRelaid 8 = .ok (.istore_n 2, 1) := by decide +kernel
theorem dX2_fewestRelaid_9 : decode cX2_fewestRelaid 9 = .ok (.bipush (-5), 2) := by decide +kernel
theorem dX2_fewestRelaid_11 : decode cX2_fewestRelaid 11 = .ok (.istore_n 3, 1) := by decide +kernel
theorem dX2_fewestRelaid_12 : decode cX2_fewestRelaid 12 = .ok (.iconst 0, 1) := by decide +kernel
theorem dX2_fewestRelaid_13 : decode cX2_fewestRelaid 13 = .ok (.istore 4, 2) := by decide +kernel
theorem dX2_fewestRelaid_15 : decode cX2_fewestRelaid 15 = .ok (.iload 4, 2) := by decide +kernel
theorem dX2_fewestRelaid_17 : decode cX2_fewestRelaid 17 = .ok (.iload_n 2, 1) := by decide +kernel
theorem dX2_fewestRelaid_18 : decode cX2_fewestRelaid 18 = .ok (.if_icmp .gt 64, 3) := by decide +kernel
theorem dX2_fewestRelaid_21 : decode cX2_fewestRelaid 21 = .ok (.iload_n 3, 1) := by decide +kernel
theorem dX2_fewestRelaid_22 : decode cX2_fewestRelaid 22 = .ok (.ifCond .lt 18, 3) := by decide +kernel
theorem dX2_fewestRelaid_25 : decode cX2_fewestRelaid 25 = .ok (.iload 4, 2) := by decide +kernel
theorem dX2_fewestRelaid_27 : decode cX2_fewestRelaid 27 = .ok (.invokestatic 45, 3) := by decide +kernel
theorem dX2_fewestRelaid_30 : decode cX2_fewestRelaid 30 = .ok (.iload_n 3, 1) := by decide +kernel
theorem dX2_fewestRelaid_31 : decode cX2_fewestRelaid 31 = .ok (.invokestatic 45, 3) := by decide +kernel
theorem dX2_fewestRelaid_34 : decode cX2_fewestRelaid 34 = .ok (.if_icmp .lt 6, 3) := by decide +kernel
theorem dX2_fewestRelaid_37 : decode cX2_fewestRelaid 37 = .ok (.goto 39, 3) := by decide +kernel
theorem dX2_fewestRelaid_40 : decode cX2_fewestRelaid 40 = .ok (.aload_n 0, 1) := by decide +kernel
theorem dX2_fewestRelaid_41 : decode cX2_fewestRelaid 41 = .ok (.getfield 31, 3) := by decide +kernel
theorem dX2_fewestRelaid_44 : decode cX2_fewestRelaid 44 = .ok (.iload 4, 2) := by decide +kernel
theorem dX2_fewestRelaid_46 : decode cX2_fewestRelaid 46 = .ok (.ixor, 1) := by decide +kernel
theorem dX2_fewestRelaid_47 : decode cX2_fewestRelaid 47 = .ok (.istore 5, 2) := by decide +kernel
theorem dX2_fewestRelaid_49 : decode cX2_fewestRelaid 49 = .ok (.aload_n 0, 1) := by decide +kernel
theorem dX2_fewestRelaid_50 : decode cX2_fewestRelaid 50 = .ok (.iload_n 1, 1) := by decide +kernel
theorem dX2_fewestRelaid_51 : decode cX2_fewestRelaid 51 = .ok (.iload 5, 2) := by decide +kernel
theorem dX2_fewestRelaid_53 : decode cX2_fewestRelaid 53 = .ok (.invokevirtual 51, 3) := by decide +kernel
theorem dX2_fewestRelaid_56 : decode cX2_fewestRelaid 56 = .ok (.ifCond .ne 17, 3) := by decide +kernel
theorem dX2_fewestRelaid_59 : decode cX2_fewestRelaid 59 = .ok (.aload_n 0, 1) := by decide +kernel
theorem dX2_fewestRelaid_60 : decode cX2_fewestRelaid 60 = .ok (.iload_n 1, 1) := by decide +kernel
theorem dX2_fewestRelaid_61 : decode cX2_fewestRelaid 61 = .ok (.iload_n 2, 1) := by decide +kernel
theorem dX2_fewestRelaid_62 : decode cX2_fewestRelaid 62 = .ok (.iload 5, 2) := by decide +kernel
theorem dX2_fewestRelaid_64 : decode cX2_fewestRelaid 64 = .ok (.iconst (-1), 1) := by decide +kernel
theorem dX2_fewestRelaid_65 : decode cX2_fewestRelaid 65 = .ok (.ixor, 1) := by decide +kernel
theorem dX2_fewestRelaid_66 : decode cX2_fewestRelaid 66 = .ok (.iand, 1) := by decide +kernel
theorem dX2_fewestRelaid_67 : decode cX2_fewestRelaid 67 = .ok (.invokevirtual 51, 3) := by decide +kernel
theorem dX2_fewestRelaid_70 : decode cX2_fewestRelaid 70 = .ok (.ifCond .eq 6, 3) := by decide +kernel
theorem dX2_fewestRelaid_73 : decode cX2_fewestRelaid 73 = .ok (.iload 4, 2) := by decide +kernel
theorem dX2_fewestRelaid_75 : decode cX2_fewestRelaid 75 = .ok (.istore_n 3, 1) := by decide +kernel
theorem dX2_fewestRelaid_76 : decode cX2_fewestRelaid 76 = .ok (.iinc 4 1, 3) := by decide +kernel
theorem dX2_fewestRelaid_79 : decode cX2_fewestRelaid 79 = .ok (.goto (-64), 3) := by decide +kernel
theorem dX2_fewestRelaid_82 : decode cX2_fewestRelaid 82 = .ok (.iload_n 3, 1) := by decide +kernel
theorem dX2_fewestRelaid_83 : decode cX2_fewestRelaid 83 = .ok (.ireturn, 1) := by decide +kernel
theorem dX2_cheapest_0 : decode cX2_cheapest 0 = .ok (.bipush (-5), 2) := by decide +kernel
theorem dX2_cheapest_2 : decode cX2_cheapest 2 = .ok (.istore 4, 2) := by decide +kernel
theorem dX2_cheapest_4 : decode cX2_cheapest 4 = .ok (.iconst 0, 1) := by decide +kernel
theorem dX2_cheapest_5 : decode cX2_cheapest 5 = .ok (.istore 5, 2) := by decide +kernel
theorem dX2_cheapest_7 : decode cX2_cheapest 7 = .ok (.iload 5, 2) := by decide +kernel
theorem dX2_cheapest_9 : decode cX2_cheapest 9 = .ok (.iconst 1, 1) := by decide +kernel
theorem dX2_cheapest_10 : decode cX2_cheapest 10 = .ok (.aload_n 0, 1) := by decide +kernel
theorem dX2_cheapest_11 : decode cX2_cheapest 11 = .ok (.getfield 27, 3) := by decide +kernel
theorem dX2_cheapest_14 : decode cX2_cheapest 14 = .ok (.ishl, 1) := by decide +kernel
theorem dX2_cheapest_15 : decode cX2_cheapest 15 = .ok (.if_icmp .ge 78, 3) := by decide +kernel
theorem dX2_cheapest_18 : decode cX2_cheapest 18 = .ok (.aload_n 0, 1) := by decide +kernel
theorem dX2_cheapest_19 : decode cX2_cheapest 19 = .ok (.iload 5, 2) := by decide +kernel
theorem dX2_cheapest_21 : decode cX2_cheapest 21 = .ok (.invokevirtual 55, 3) := by decide +kernel
theorem dX2_cheapest_24 : decode cX2_cheapest 24 = .ok (.iload_n 3, 1) := by decide +kernel
theorem dX2_cheapest_25 : decode cX2_cheapest 25 = .ok (.if_icmp .gt 62, 3) := by decide +kernel
theorem dX2_cheapest_28 : decode cX2_cheapest 28 = .ok (.aload_n 0, 1) := by decide +kernel
theorem dX2_cheapest_29 : decode cX2_cheapest 29 = .ok (.aload_n 0, 1) := by decide +kernel
theorem dX2_cheapest_30 : decode cX2_cheapest 30 = .ok (.getfield 21, 3) := by decide +kernel
theorem dX2_cheapest_33 : decode cX2_cheapest 33 = .ok (.iload 5, 2) := by decide +kernel
theorem dX2_cheapest_35 : decode cX2_cheapest 35 = .ok (.invokevirtual 58, 3) := by decide +kernel
theorem dX2_cheapest_38 : decode cX2_cheapest 38 = .ok (.iload_n 2, 1) := by decide +kernel
theorem dX2_cheapest_39 : decode cX2_cheapest 39 = .ok (.if_icmp .le 6, 3) := by decide +kernel
theorem dX2_cheapest_42 : decode cX2_cheapest 42 = .ok (.goto 45, 3) := by decide +kernel
theorem dX2_cheapest_45 : decode cX2_cheapest 45 = .ok (.iload 4, 2) := by decide +kernel
theorem dX2_cheapest_47 : decode cX2_cheapest 47 = .ok (.ifCond .lt 17, 3) := by decide +kernel
theorem dX2_cheapest_50 : decode cX2_cheapest 50 = .ok (.aload_n 0, 1) := by decide +kernel
theorem dX2_cheapest_51 : decode cX2_cheapest 51 = .ok (.iload 5, 2) := by decide +kernel
theorem dX2_cheapest_53 : decode cX2_cheapest 53 = .ok (.iload 4, 2) := by decide +kernel
theorem dX2_cheapest_55 : decode cX2_cheapest 55 = .ok (.invokevirtual 62, 3) := by decide +kernel
theorem dX2_cheapest_58 : decode cX2_cheapest 58 = .ok (.ifCond .ne 6, 3) := by decide +kernel
theorem dX2_cheapest_61 : decode cX2_cheapest 61 = .ok (.goto 26, 3) := by decide +kernel
theorem dX2_cheapest_64 : decode cX2_cheapest 64 = .ok (.aload_n 0, 1) := by decide +kernel
theorem dX2_cheapest_65 : decode cX2_cheapest 65 = .ok (.iload 5, 2) := by decide +kernel
theorem dX2_cheapest_67 : decode cX2_cheapest 67 = .ok (.invokevirtual 65, 3) := by decide +kernel
theorem dX2_cheapest_70 : decode cX2_cheapest 70 = .ok (.ifCond .ne 17, 3) := by decide +kernel
theorem dX2_cheapest_73 : decode cX2_cheapest 73 = .ok (.aload_n 0, 1) := by decide +kernel
theorem dX2_cheapest_74 : decode cX2_cheapest 74 = .ok (.iload_n 1, 1) := by decide +kernel
theorem dX2_cheapest_75 : decode cX2_cheapest 75 = .ok (.iload 5, 2) := by decide +kernel
theorem dX2_cheapest_77 : decode cX2_cheapest 77 = .ok (.invokevirtual 51, 3) := by decide +kernel
theorem dX2_cheapest_80 : decode cX2_cheapest 80 = .ok (.ifCond .eq 7, 3) := by decide +kernel
theorem dX2_cheapest_83 : decode cX2_cheapest 83 = .ok (.iload 5, 2) := by decide +kernel
theorem dX2_cheapest_85 : decode cX2_cheapest 85 = .ok (.istore 4, 2) := by decide +kernel
theorem dX2_cheapest_87 : decode cX2_cheapest 87 = .ok (.iinc 5 1, 3) := by decide +kernel
theorem dX2_cheapest_90 : decode cX2_cheapest 90 = .ok (.goto (-83), 3) := by decide +kernel
theorem dX2_cheapest_93 : decode cX2_cheapest 93 = .ok (.iload 4, 2) := by decide +kernel
theorem dX2_cheapest_95 : decode cX2_cheapest 95 = .ok (.ireturn, 1) := by decide +kernel
theorem dX2_isBetter_0 : decode cX2_isBetter 0 = .ok (.aload_n 0, 1) := by decide +kernel
theorem dX2_isBetter_1 : decode cX2_isBetter 1 = .ok (.iload_n 1, 1) := by decide +kernel
theorem dX2_isBetter_2 : decode cX2_isBetter 2 = .ok (.invokevirtual 55, 3) := by decide +kernel
theorem dX2_isBetter_5 : decode cX2_isBetter 5 = .ok (.aload_n 0, 1) := by decide +kernel
theorem dX2_isBetter_6 : decode cX2_isBetter 6 = .ok (.iload_n 2, 1) := by decide +kernel
theorem dX2_isBetter_7 : decode cX2_isBetter 7 = .ok (.invokevirtual 55, 3) := by decide +kernel
theorem dX2_isBetter_10 : decode cX2_isBetter 10 = .ok (.isub, 1) := by decide +kernel
theorem dX2_isBetter_11 : decode cX2_isBetter 11 = .ok (.istore_n 3, 1) := by decide +kernel
theorem dX2_isBetter_12 : decode cX2_isBetter 12 = .ok (.iload_n 3, 1) := by decide +kernel
theorem dX2_isBetter_13 : decode cX2_isBetter 13 = .ok (.ifCond .lt 18, 3) := by decide +kernel
theorem dX2_isBetter_16 : decode cX2_isBetter 16 = .ok (.iload_n 3, 1) := by decide +kernel
theorem dX2_isBetter_17 : decode cX2_isBetter 17 = .ok (.ifCond .ne 18, 3) := by decide +kernel
theorem dX2_isBetter_20 : decode cX2_isBetter 20 = .ok (.iload_n 1, 1) := by decide +kernel
theorem dX2_isBetter_21 : decode cX2_isBetter 21 = .ok (.invokestatic 45, 3) := by decide +kernel
theorem dX2_isBetter_24 : decode cX2_isBetter 24 = .ok (.iload_n 2, 1) := by decide +kernel
theorem dX2_isBetter_25 : decode cX2_isBetter 25 = .ok (.invokestatic 45, 3) := by decide +kernel
theorem dX2_isBetter_28 : decode cX2_isBetter 28 = .ok (.if_icmp .ge 7, 3) := by decide +kernel
theorem dX2_isBetter_31 : decode cX2_isBetter 31 = .ok (.iconst 1, 1) := by decide +kernel
theorem dX2_isBetter_32 : decode cX2_isBetter 32 = .ok (.goto 4, 3) := by decide +kernel
theorem dX2_isBetter_35 : decode cX2_isBetter 35 = .ok (.iconst 0, 1) := by decide +kernel
theorem dX2_isBetter_36 : decode cX2_isBetter 36 = .ok (.ireturn, 1) := by decide +kernel
theorem dX2_isAtOdds_0 : decode cX2_isAtOdds 0 = .ok (.iconst 0, 1) := by decide +kernel
theorem dX2_isAtOdds_1 : decode cX2_isAtOdds 1 = .ok (.istore_n 2, 1) := by decide +kernel
theorem dX2_isAtOdds_2 : decode cX2_isAtOdds 2 = .ok (.iload_n 2, 1) := by decide +kernel
theorem dX2_isAtOdds_3 : decode cX2_isAtOdds 3 = .ok (.aload_n 0, 1) := by decide +kernel
theorem dX2_isAtOdds_4 : decode cX2_isAtOdds 4 = .ok (.getfield 27, 3) := by decide +kernel
theorem dX2_isAtOdds_7 : decode cX2_isAtOdds 7 = .ok (.if_icmp .ge 30, 3) := by decide +kernel
theorem dX2_isAtOdds_10 : decode cX2_isAtOdds 10 = .ok (.iload_n 1, 1) := by decide +kernel
theorem dX2_isAtOdds_11 : decode cX2_isAtOdds 11 = .ok (.iload_n 2, 1) := by decide +kernel
theorem dX2_isAtOdds_12 : decode cX2_isAtOdds 12 = .ok (.ishr, 1) := by decide +kernel
theorem dX2_isAtOdds_13 : decode cX2_isAtOdds 13 = .ok (.iconst 1, 1) := by decide +kernel
theorem dX2_isAtOdds_14 : decode cX2_isAtOdds 14 = .ok (.iand, 1) := by decide +kernel
theorem dX2_isAtOdds_15 : decode cX2_isAtOdds 15 = .ok (.ifCond .eq 16, 3) := by decide +kernel
theorem dX2_isAtOdds_18 : decode cX2_isAtOdds 18 = .ok (.aload_n 0, 1) := by decide +kernel
theorem dX2_isAtOdds_19 : decode cX2_isAtOdds 19 = .ok (.getfield 18, 3) := by decide +kernel
theorem dX2_isAtOdds_22 : decode cX2_isAtOdds 22 = .ok (.iload_n 2, 1) := by decide +kernel
theorem dX2_isAtOdds_23 : decode cX2_isAtOdds 23 = .ok (.iaload, 1) := by decide +kernel
theorem dX2_isAtOdds_24 : decode cX2_isAtOdds 24 = .ok (.iload_n 1, 1) := by decide +kernel
theorem dX2_isAtOdds_25 : decode cX2_isAtOdds 25 = .ok (.iand, 1) := by decide +kernel
theorem dX2_isAtOdds_26 : decode cX2_isAtOdds 26 = .ok (.ifCond .eq 5, 3) := by decide +kernel
theorem dX2_isAtOdds_29 : decode cX2_isAtOdds 29 = .ok (.iconst 1, 1) := by decide +kernel
theorem dX2_isAtOdds_30 : decode cX2_isAtOdds 30 = .ok (.ireturn, 1) := by decide +kernel
theorem dX2_isAtOdds_31 : decode cX2_isAtOdds 31 = .ok (.iinc 2 1, 3) := by decide +kernel
theorem dX2_isAtOdds_34 : decode cX2_isAtOdds 34 = .ok (.goto (-32), 3) := by decide +kernel
theorem dX2_isAtOdds_37 : decode cX2_isAtOdds 37 = .ok (.iconst 0, 1) := by decide +kernel
theorem dX2_isAtOdds_38 : decode cX2_isAtOdds 38 = .ok (.ireturn, 1) := by decide +kernel
theorem dX2_coinsOf_0 : decode cX2_coinsOf 0 = .ok (.aload_n 0, 1) := by decide +kernel
theorem dX2_coinsOf_1 : decode cX2_coinsOf 1 = .ok (.aload_n 0, 1) := by decide +kernel
theorem dX2_coinsOf_2 : decode cX2_coinsOf 2 = .ok (.getfield 24, 3) := by decide +kernel
theorem dX2_coinsOf_5 : decode cX2_coinsOf 5 = .ok (.iload_n 1, 1) := by decide +kernel
theorem dX2_coinsOf_6 : decode cX2_coinsOf 6 = .ok (.invokevirtual 58, 3) := by decide +kernel
theorem dX2_coinsOf_9 : decode cX2_coinsOf 9 = .ok (.ireturn, 1) := by decide +kernel
theorem dX2_sumOf_0 : decode cX2_sumOf 0 = .ok (.iconst 0, 1) := by decide +kernel
theorem dX2_sumOf_1 : decode cX2_sumOf 1 = .ok (.istore_n 3, 1) := by decide +kernel
theorem dX2_sumOf_2 : decode cX2_sumOf 2 = .ok (.iconst 0, 1) := by decide +kernel
theorem dX2_sumOf_3 : decode cX2_sumOf 3 = .ok (.istore 4, 2) := by decide +kernel
theorem dX2_sumOf_5 : decode cX2_sumOf 5 = .ok (.iload 4, 2) := by decide +kernel
theorem dX2_sumOf_7 : decode cX2_sumOf 7 = .ok (.aload_n 0, 1) := by decide +kernel
theorem dX2_sumOf_8 : decode cX2_sumOf 8 = .ok (.getfield 27, 3) := by decide +kernel
theorem dX2_sumOf_11 : decode cX2_sumOf 11 = .ok (.if_icmp .ge 25, 3) := by decide +kernel
theorem dX2_sumOf_14 : decode cX2_sumOf 14 = .ok (.iload_n 2, 1) := by decide +kernel
theorem dX2_sumOf_15 : decode cX2_sumOf 15 = .ok (.iload 4, 2) := by decide +kernel
theorem dX2_sumOf_17 : decode cX2_sumOf 17 = .ok (.ishr, 1) := by decide +kernel
theorem dX2_sumOf_18 : decode cX2_sumOf 18 = .ok (.iconst 1, 1) := by decide +kernel
theorem dX2_sumOf_19 : decode cX2_sumOf 19 = .ok (.iand, 1) := by decide +kernel
theorem dX2_sumOf_20 : decode cX2_sumOf 20 = .ok (.ifCond .eq 10, 3) := by decide +kernel
theorem dX2_sumOf_23 : decode cX2_sumOf 23 = .ok (.iload_n 3, 1) := by decide +kernel
theorem dX2_sumOf_24 : decode cX2_sumOf 24 = .ok (.aload_n 1, 1) := by decide +kernel
theorem dX2_sumOf_25 : decode cX2_sumOf 25 = .ok (.iload 4, 2) := by decide +kernel
theorem dX2_sumOf_27 : decode cX2_sumOf 27 = .ok (.iaload, 1) := by decide +kernel
theorem dX2_sumOf_28 : decode cX2_sumOf 28 = .ok (.iadd, 1) := by decide +kernel
theorem dX2_sumOf_29 : decode cX2_sumOf 29 = .ok (.istore_n 3, 1) := by decide +kernel
theorem dX2_sumOf_30 : decode cX2_sumOf 30 = .ok (.iinc 4 1, 3) := by decide +kernel
theorem dX2_sumOf_33 : decode cX2_sumOf 33 = .ok (.goto (-28), 3) := by decide +kernel
theorem dX2_sumOf_36 : decode cX2_sumOf 36 = .ok (.iload_n 3, 1) := by decide +kernel
theorem dX2_sumOf_37 : decode cX2_sumOf 37 = .ok (.ireturn, 1) := by decide +kernel
theorem dX3_init_0 : decode cX3_init 0 = .ok (.aload_n 0, 1) := by decide +kernel
theorem dX3_init_1 : decode cX3_init 1 = .ok (.invokespecial 3, 3) := by decide +kernel
theorem dX3_init_4 : decode cX3_init 4 = .ok (.aload_n 0, 1) := by decide +kernel
theorem dX3_init_5 : decode cX3_init 5 = .ok (.bipush 7, 2) := by decide +kernel
theorem dX3_init_7 : decode cX3_init 7 = .ok (.newarray .int, 2) := by decide +kernel
theorem dX3_init_9 : decode cX3_init 9 = .ok (.putfield 9, 3) := by decide +kernel
theorem dX3_init_12 : decode cX3_init 12 = .ok (.aload_n 0, 1) := by decide +kernel
theorem dX3_init_13 : decode cX3_init 13 = .ok (.bipush 7, 2) := by decide +kernel
theorem dX3_init_15 : decode cX3_init 15 = .ok (.newarray .int, 2) := by decide +kernel
theorem dX3_init_17 : decode cX3_init 17 = .ok (.putfield 15, 3) := by decide +kernel
theorem dX3_init_20 : decode cX3_init 20 = .ok (.aload_n 0, 1) := by decide +kernel
theorem dX3_init_21 : decode cX3_init 21 = .ok (.bipush 6, 2) := by decide +kernel
theorem dX3_init_23 : decode cX3_init 23 = .ok (.newarray .int, 2) := by decide +kernel
theorem dX3_init_25 : decode cX3_init 25 = .ok (.putfield 18, 3) := by decide +kernel
theorem dX3_init_28 : decode cX3_init 28 = .ok (.aload_n 0, 1) := by decide +kernel
theorem dX3_init_29 : decode cX3_init 29 = .ok (.iload_n 1, 1) := by decide +kernel
theorem dX3_init_30 : decode cX3_init 30 = .ok (.putfield 21, 3) := by decide +kernel
theorem dX3_init_33 : decode cX3_init 33 = .ok (.aload_n 0, 1) := by decide +kernel
theorem dX3_init_34 : decode cX3_init 34 = .ok (.aload_n 2, 1) := by decide +kernel
theorem dX3_init_35 : decode cX3_init 35 = .ok (.iload_n 3, 1) := by decide +kernel
theorem dX3_init_36 : decode cX3_init 36 = .ok (.invokestatic 25, 3) := by decide +kernel
theorem dX3_init_39 : decode cX3_init 39 = .ok (.putfield 31, 3) := by decide +kernel
theorem dX3_init_42 : decode cX3_init 42 = .ok (.aload_n 0, 1) := by decide +kernel
theorem dX3_init_43 : decode cX3_init 43 = .ok (.getfield 15, 3) := by decide +kernel
theorem dX3_init_46 : decode cX3_init 46 = .ok (.iconst (-1), 1) := by decide +kernel
theorem dX3_init_47 : decode cX3_init 47 = .ok (.invokestatic 35, 3) := by decide +kernel
theorem dX3_init_50 : decode cX3_init 50 = .ok (.return_, 1) := by decide +kernel
theorem dX3_faultOf_0 : decode cX3_faultOf 0 = .ok (.aload_n 0, 1) := by decide +kernel
theorem dX3_faultOf_1 : decode cX3_faultOf 1 = .ok (.iconst 0, 1) := by decide +kernel
theorem dX3_faultOf_2 : decode cX3_faultOf 2 = .ok (.putfield 39, 3) := by decide +kernel
theorem dX3_faultOf_5 : decode cX3_faultOf 5 = .ok (.iconst 0, 1) := by decide +kernel
theorem dX3_faultOf_6 : decode cX3_faultOf 6 = .ok (.istore_n 1, 1) := by decide +kernel
theorem dX3_faultOf_7 : decode cX3_faultOf 7 = .ok (.iload_n 1, 1) := by decide +kernel
theorem dX3_faultOf_8 : decode cX3_faultOf 8 = .ok (.bipush 8, 2) := by decide +kernel
theorem dX3_faultOf_10 : decode cX3_faultOf 10 = .ok (.if_icmp .ge 71, 3) := by decide +kernel
theorem dX3_faultOf_13 : decode cX3_faultOf 13 = .ok (.aload_n 0, 1) := by decide +kernel
theorem dX3_faultOf_14 : decode cX3_faultOf 14 = .ok (.iload_n 1, 1) := by decide +kernel
theorem dX3_faultOf_15 : decode cX3_faultOf 15 = .ok (.invokevirtual 42, 3) := by decide +kernel
theorem dX3_faultOf_18 : decode cX3_faultOf 18 = .ok (.ifCond .ne 8, 3) := by decide +kernel
theorem dX3_faultOf_21 : decode cX3_faultOf 21 = .ok (.aload_n 0, 1) := by decide +kernel
theorem dX3_faultOf_22 : decode cX3_faultOf 22 = .ok (.getfield 39, 3) := by decide +kernel
theorem dX3_faultOf_25 : decode cX3_faultOf 25 = .ok (.ireturn, 1) := by decide +kernel
theorem dX3_faultOf_26 : decode cX3_faultOf 26 = .ok (.aload_n 0, 1) := by decide +kernel
theorem dX3_faultOf_27 : decode cX3_faultOf 27 = .ok (.getfield 39, 3) := by decide +kernel
theorem dX3_faultOf_30 : decode cX3_faultOf 30 = .ok (.aload_n 0, 1) := by decide +kernel
theorem dX3_faultOf_31 : decode cX3_faultOf 31 = .ok (.getfield 31, 3) := by decide +kernel
theorem dX3_faultOf_34 : decode cX3_faultOf 34 = .ok (.arraylength, 1) := by decide +kernel
theorem dX3_faultOf_35 : decode cX3_faultOf 35 = .ok (.if_icmp .lt 5, 3) := by decide +kernel
theorem dX3_faultOf_38 : decode cX3_faultOf 38 = .ok (.iconst (-1), 1) := by decide +kernel
theorem dX3_faultOf_39 : decode cX3_faultOf 39 = .ok (.ireturn, 1) := by decide +kernel
theorem dX3_faultOf_40 : decode cX3_faultOf 40 = .ok (.aload_n 0, 1) := by decide +kernel
theorem dX3_faultOf_41 : decode cX3_faultOf 41 = .ok (.getfield 31, 3) := by decide +kernel
theorem dX3_faultOf_44 : decode cX3_faultOf 44 = .ok (.aload_n 0, 1) := by decide +kernel
theorem dX3_faultOf_45 : decode cX3_faultOf 45 = .ok (.getfield 39, 3) := by decide +kernel
theorem dX3_faultOf_48 : decode cX3_faultOf 48 = .ok (.baload, 1) := by decide +kernel
theorem dX3_faultOf_49 : decode cX3_faultOf 49 = .ok (.bipush 59, 2) := by decide +kernel
theorem dX3_faultOf_51 : decode cX3_faultOf 51 = .ok (.if_icmp .ne 9, 3) := by decide +kernel
theorem dX3_faultOf_54 : decode cX3_faultOf 54 = .ok (.iload_n 1, 1) := by decide +kernel
theorem dX3_faultOf_55 : decode cX3_faultOf 55 = .ok (.bipush 7, 2) := by decide +kernel
theorem dX3_faultOf_57 : decode cX3_faultOf 57 = .ok (.if_icmp .ne 8, 3) := by decide +kernel
theorem dX3_faultOf_60 : decode cX3_faultOf 60 = .ok (.aload_n 0, 1) := by decide +kernel
theorem dX3_faultOf_61 : decode cX3_faultOf 61 = .ok (.getfield 39, 3) := by decide +kernel
theorem dX3_faultOf_64 : decode cX3_faultOf 64 = .ok (.ireturn, 1) := by decide +kernel
theorem dX3_faultOf_65 : decode cX3_faultOf 65 = .ok (.aload_n 0, 1) := by decide +kernel
theorem dX3_faultOf_66 : decode cX3_faultOf 66 = .ok (.dup, 1) := by decide +kernel
theorem dX3_faultOf_67 : decode cX3_faultOf 67 = .ok (.getfield 39, 3) := by decide +kernel
theorem dX3_faultOf_70 : decode cX3_faultOf 70 = .ok (.iconst 1, 1) := by decide +kernel
theorem dX3_faultOf_71 : decode cX3_faultOf 71 = .ok (.iadd, 1) := by decide +kernel
theorem dX3_faultOf_72 : decode cX3_faultOf 72 = .ok (.putfield 39, 3) := by decide +kernel
theorem dX3_faultOf_75 : decode cX3_faultOf 75 = .ok (.iinc 1 1, 3) := by decide +kernel
theorem dX3_faultOf_78 : decode cX3_faultOf 78 = .ok (.goto (-71), 3) := by decide +kernel
theorem dX3_faultOf_81 : decode cX3_faultOf 81 = .ok (.aload_n 0, 1) := by decide +kernel
theorem dX3_faultOf_82 : decode cX3_faultOf 82 = .ok (.getfield 39, 3) := by decide +kernel
theorem dX3_faultOf_85 : decode cX3_faultOf 85 = .ok (.ireturn, 1) := by decide +kernel
theorem dX3_lets_0 : decode cX3_lets 0 = .ok (.aload_n 0, 1) := by decide +kernel
theorem dX3_lets_1 : decode cX3_lets 1 = .ok (.aload_n 0, 1) := by decide +kernel
theorem dX3_lets_2 : decode cX3_lets 2 = .ok (.getfield 9, 3) := by decide +kernel
theorem dX3_lets_5 : decode cX3_lets 5 = .ok (.bipush 6, 2) := by decide +kernel
theorem dX3_lets_7 : decode cX3_lets 7 = .ok (.iaload, 1) := by decide +kernel
theorem dX3_lets_8 : decode cX3_lets 8 = .ok (.putfield 39, 3) := by decide +kernel
theorem dX3_lets_11 : decode cX3_lets 11 = .ok (.aload_n 0, 1) := by decide +kernel
theorem dX3_lets_12 : decode cX3_lets 12 = .ok (.iconst 0, 1) := by decide +kernel
theorem dX3_lets_13 : decode cX3_lets 13 = .ok (.invokevirtual 46, 3) := by decide +kernel
theorem dX3_lets_16 : decode cX3_lets 16 = .ok (.iconst 1, 1) := by decide +kernel
theorem dX3_lets_17 : decode cX3_lets 17 = .ok (.if_icmp .ne 7, 3) := by decide +kernel
theorem dX3_lets_20 : decode cX3_lets 20 = .ok (.iconst 1, 1) := by decide +kernel
theorem dX3_lets_21 : decode cX3_lets 21 = .ok (.goto 4, 3) := by decide +kernel
theorem dX3_lets_24 : decode cX3_lets 24 = .ok (.iconst 0, 1) := by decide +kernel
theorem dX3_lets_25 : decode cX3_lets 25 = .ok (.ireturn, 1) := by decide +kernel
theorem dX3_nameOf_0 : decode cX3_nameOf 0 = .ok (.iload_n 0, 1) := by decide +kernel
theorem dX3_nameOf_1 : decode cX3_nameOf 1 = .ok (.tableswitch 57 0 5 #[39, 42, 45, 48, 51, 54], 39) := by decide +kernel
theorem dX3_nameOf_40 : decode cX3_nameOf 40 = .ok (.ldc 50, 2) := by decide +kernel
theorem dX3_nameOf_42 : decode cX3_nameOf 42 = .ok (.areturn, 1) := by decide +kernel
theorem dX3_nameOf_43 : decode cX3_nameOf 43 = .ok (.ldc 52, 2) := by decide +kernel
theorem dX3_nameOf_45 : decode cX3_nameOf 45 = .ok (.areturn, 1) := by decide +kernel
theorem dX3_nameOf_46 : decode cX3_nameOf 46 = .ok (.ldc 54, 2) := by decide +kernel
theorem dX3_nameOf_48 : decode cX3_nameOf 48 = .ok (.areturn, 1) := by decide +kernel
theorem dX3_nameOf_49 : decode cX3_nameOf 49 = .ok (.ldc 56, 2) := by decide +kernel
theorem dX3_nameOf_51 : decode cX3_nameOf 51 = .ok (.areturn, 1) := by decide +kernel
theorem dX3_nameOf_52 : decode cX3_nameOf 52 = .ok (.ldc 58, 2) := by decide +kernel
theorem dX3_nameOf_54 : decode cX3_nameOf 54 = .ok (.areturn, 1) := by decide +kernel
theorem dX3_nameOf_55 : decode cX3_nameOf 55 = .ok (.ldc 60, 2) := by decide +kernel
theorem dX3_nameOf_57 : decode cX3_nameOf 57 = .ok (.areturn, 1) := by decide +kernel
theorem dX3_nameOf_58 : decode cX3_nameOf 58 = .ok (.ldc 62, 2) := by decide +kernel
theorem dX3_nameOf_60 : decode cX3_nameOf 60 = .ok (.areturn, 1) := by decide +kernel
theorem dX3_peek_0 : decode cX3_peek 0 = .ok (.aload_n 0, 1) := by decide +kernel
theorem dX3_peek_1 : decode cX3_peek 1 = .ok (.getfield 39, 3) := by decide +kernel
theorem dX3_peek_4 : decode cX3_peek 4 = .ok (.aload_n 0, 1) := by decide +kernel
theorem dX3_peek_5 : decode cX3_peek 5 = .ok (.getfield 31, 3) := by decide +kernel
theorem dX3_peek_8 : decode cX3_peek 8 = .ok (.arraylength, 1) := by decide +kernel
theorem dX3_peek_9 : decode cX3_peek 9 = .ok (.if_icmp .ge 15, 3) := by decide +kernel
theorem dX3_peek_12 : decode cX3_peek 12 = .ok (.aload_n 0, 1) := by decide +kernel
theorem dX3_peek_13 : decode cX3_peek 13 = .ok (.getfield 31, 3) := by decide +kernel
theorem dX3_peek_16 : decode cX3_peek 16 = .ok (.aload_n 0, 1) := by decide +kernel
theorem dX3_peek_17 : decode cX3_peek 17 = .ok (.getfield 39, 3) := by decide +kernel
theorem dX3_peek_20 : decode cX3_peek 20 = .ok (.baload, 1) := by decide +kernel
theorem dX3_peek_21 : decode cX3_peek 21 = .ok (.goto 4, 3) := by decide +kernel
theorem dX3_peek_24 : decode cX3_peek 24 = .ok (.iconst (-1), 1) := by decide +kernel
theorem dX3_peek_25 : decode cX3_peek 25 = .ok (.ireturn, 1) := by decide +kernel
theorem dX3_readClause_0 : decode cX3_readClause 0 = .ok (.aload_n 0, 1) := by decide +kernel
theorem dX3_readClause_1 : decode cX3_readClause 1 = .ok (.invokevirtual 64, 3) := by decide +kernel
theorem dX3_readClause_4 : decode cX3_readClause 4 = .ok (.istore_n 2, 1) := by decide +kernel
theorem dX3_readClause_5 : decode cX3_readClause 5 = .ok (.iload_n 2, 1) := by decide +kernel
theorem dX3_readClause_6 : decode cX3_readClause 6 = .ok (.iconst (-1), 1) := by decide +kernel
theorem dX3_readClause_7 : decode cX3_readClause 7 = .ok (.if_icmp .ne 5, 3) := by decide +kernel
theorem dX3_readClause_10 : decode cX3_readClause 10 = .ok (.iconst 0, 1) := by decide +kernel
theorem dX3_readClause_11 : decode cX3_readClause 11 = .ok (.ireturn, 1) := by decide +kernel
theorem dX3_readClause_12 : decode cX3_readClause 12 = .ok (.aload_n 0, 1) := by decide +kernel
theorem dX3_readClause_13 : decode cX3_readClause 13 = .ok (.getfield 39, 3) := by decide +kernel
theorem dX3_readClause_16 : decode cX3_readClause 16 = .ok (.istore_n 3, 1) := by decide +kernel
theorem dX3_readClause_17 : decode cX3_readClause 17 = .ok (.iload_n 2, 1) := by decide +kernel
theorem dX3_readClause_18 : decode cX3_readClause 18 = .ok (.bipush 6, 2) := by decide +kernel
theorem dX3_readClause_20 : decode cX3_readClause 20 = .ok (.if_icmp .ne 11, 3) := by decide +kernel
theorem dX3_readClause_23 : decode cX3_readClause 23 = .ok (.aload_n 0, 1) := by decide +kernel
theorem dX3_readClause_24 : decode cX3_readClause 24 = .ok (.iconst 0, 1) := by decide +kernel
theorem dX3_readClause_25 : decode cX3_readClause 25 = .ok (.invokevirtual 46, 3) := by decide +kernel
theorem dX3_readClause_28 : decode cX3_readClause 28 = .ok (.goto 19, 3) := by decide +kernel
theorem dX3_readClause_31 : decode cX3_readClause 31 = .ok (.iload_n 2, 1) := by decide +kernel
theorem dX3_readClause_32 : decode cX3_readClause 32 = .ok (.iconst 5, 1) := by decide +kernel
theorem dX3_readClause_33 : decode cX3_readClause 33 = .ok (.if_icmp .ne 10, 3) := by decide +kernel
theorem dX3_readClause_36 : decode cX3_readClause 36 = .ok (.aload_n 0, 1) := by decide +kernel
theorem dX3_readClause_37 : decode cX3_readClause 37 = .ok (.invokevirtual 68, 3) := by decide +kernel
theorem dX3_readClause_40 : decode cX3_readClause 40 = .ok (.goto 7, 3) := by decide +kernel
theorem dX3_readClause_43 : decode cX3_readClause 43 = .ok (.aload_n 0, 1) := by decide +kernel
theorem dX3_readClause_44 : decode cX3_readClause 44 = .ok (.invokevirtual 71, 3) := by decide +kernel
theorem dX3_readClause_47 : decode cX3_readClause 47 = .ok (.istore 4, 2) := by decide +kernel
theorem dX3_readClause_49 : decode cX3_readClause 49 = .ok (.iload 4, 2) := by decide +kernel
theorem dX3_readClause_51 : decode cX3_readClause 51 = .ok (.iconst (-1), 1) := by decide +kernel
theorem dX3_readClause_52 : decode cX3_readClause 52 = .ok (.if_icmp .ne 5, 3) := by decide +kernel
theorem dX3_readClause_55 : decode cX3_readClause 55 = .ok (.iconst 0, 1) := by decide +kernel
theorem dX3_readClause_56 : decode cX3_readClause 56 = .ok (.ireturn, 1) := by decide +kernel
theorem dX3_readClause_57 : decode cX3_readClause 57 = .ok (.aload_n 0, 1) := by decide +kernel
theorem dX3_readClause_58 : decode cX3_readClause 58 = .ok (.getfield 9, 3) := by decide +kernel
theorem dX3_readClause_61 : decode cX3_readClause 61 = .ok (.iload_n 2, 1) := by decide +kernel
theorem dX3_readClause_62 : decode cX3_readClause 62 = .ok (.iload_n 2, 1) := by decide +kernel
theorem dX3_readClause_63 : decode cX3_readClause 63 = .ok (.bipush 6, 2) := by decide +kernel
theorem dX3_readClause_65 : decode cX3_readClause 65 = .ok (.if_icmp .ne 7, 3) := by decide +kernel
theorem dX3_readClause_68 : decode cX3_readClause 68 = .ok (.iload_n 3, 1) := by decide +kernel
theorem dX3_readClause_69 : decode cX3_readClause 69 = .ok (.goto 5, 3) := by decide +kernel
theorem dX3_readClause_72 : decode cX3_readClause 72 = .ok (.iload 4, 2) := by decide +kernel
theorem dX3_readClause_74 : decode cX3_readClause 74 = .ok (.iastore, 1) := by decide +kernel
theorem dX3_readClause_75 : decode cX3_readClause 75 = .ok (.aload_n 0, 1) := by decide +kernel
theorem dX3_readClause_76 : decode cX3_readClause 76 = .ok (.getfield 15, 3) := by decide +kernel
theorem dX3_readClause_79 : decode cX3_readClause 79 = .ok (.iload_n 2, 1) := by decide +kernel
theorem dX3_readClause_80 : decode cX3_readClause 80 = .ok (.iload_n 1, 1) := by decide +kernel
theorem dX3_readClause_81 : decode cX3_readClause 81 = .ok (.iastore, 1) := by decide +kernel
theorem dX3_readClause_82 : decode cX3_readClause 82 = .ok (.iconst 1, 1) := by decide +kernel
theorem dX3_readClause_83 : decode cX3_readClause 83 = .ok (.ireturn, 1) := by decide +kernel
theorem dX3_readWord_0 : decode cX3_readWord 0 = .ok (.iconst 0, 1) := by decide +kernel
theorem dX3_readWord_1 : decode cX3_readWord 1 = .ok (.istore_n 1, 1) := by decide +kernel
theorem dX3_readWord_2 : decode cX3_readWord 2 = .ok (.iconst 0, 1) := by decide +kernel
theorem dX3_readWord_3 : decode cX3_readWord 3 = .ok (.istore_n 2, 1) := by decide +kernel
theorem dX3_readWord_4 : decode cX3_readWord 4 = .ok (.iload_n 2, 1) := by decide +kernel
theorem dX3_readWord_5 : decode cX3_readWord 5 = .ok (.bipush 7, 2) := by decide +kernel
theorem dX3_readWord_7 : decode cX3_readWord 7 = .ok (.if_icmp .ge 50, 3) := by decide +kernel
theorem dX3_readWord_10 : decode cX3_readWord 10 = .ok (.iload_n 2, 1) := by decide +kernel
theorem dX3_readWord_11 : decode cX3_readWord 11 = .ok (.invokestatic 74, 3) := by decide +kernel
theorem dX3_readWord_14 : decode cX3_readWord 14 = .ok (.astore_n 3, 1) := by decide +kernel
theorem dX3_readWord_15 : decode cX3_readWord 15 = .ok (.aload_n 0, 1) := by decide +kernel
theorem dX3_readWord_16 : decode cX3_readWord 16 = .ok (.aload_n 3, 1) := by decide +kernel
theorem dX3_readWord_17 : decode cX3_readWord 17 = .ok (.invokevirtual 78, 3) := by decide +kernel
theorem dX3_readWord_20 : decode cX3_readWord 20 = .ok (.istore 4, 2) := by decide +kernel
theorem dX3_readWord_22 : decode cX3_readWord 22 = .ok (.iload 4, 2) := by decide +kernel
theorem dX3_readWord_24 : decode cX3_readWord 24 = .ok (.aload_n 3, 1) := by decide +kernel
theorem dX3_readWord_25 : decode cX3_readWord 25 = .ok (.invokevirtual 82, 3) := by decide +kernel
theorem dX3_readWord_28 : decode cX3_readWord 28 = .ok (.if_icmp .ne 16, 3) := by decide +kernel
theorem dX3_readWord_31 : decode cX3_readWord 31 = .ok (.aload_n 0, 1) := by decide +kernel
theorem dX3_readWord_32 : decode cX3_readWord 32 = .ok (.dup, 1) := by decide +kernel
theorem dX3_readWord_33 : decode cX3_readWord 33 = .ok (.getfield 39, 3) := by decide +kernel
theorem dX3_readWord_36 : decode cX3_readWord 36 = .ok (.iload 4, 2) := by decide +kernel
theorem dX3_readWord_38 : decode cX3_readWord 38 = .ok (.iadd, 1) := by decide +kernel
theorem dX3_readWord_39 : decode cX3_readWord 39 = .ok (.putfield 39, 3) := by decide +kernel
theorem dX3_readWord_42 : decode cX3_readWord 42 = .ok (.iload_n 2, 1) := by decide +kernel
theorem dX3_readWord_43 : decode cX3_readWord 43 = .ok (.ireturn, 1) := by decide +kernel
theorem dX3_readWord_44 : decode cX3_readWord 44 = .ok (.iload_n 1, 1) := by decide +kernel
theorem dX3_readWord_45 : decode cX3_readWord 45 = .ok (.iload 4, 2) := by decide +kernel
theorem dX3_readWord_47 : decode cX3_readWord 47 = .ok (.invokestatic 87, 3) := by decide +kernel
theorem dX3_readWord_50 : decode cX3_readWord 50 = .ok (.istore_n 1, 1) := by decide +kernel
theorem dX3_readWord_51 : decode cX3_readWord 51 = .ok (.iinc 2 1, 3) := by decide +kernel
theorem dX3_readWord_54 : decode cX3_readWord 54 = .ok (.goto (-50), 3) := by decide +kernel
theorem dX3_readWord_57 : decode cX3_readWord 57 = .ok (.aload_n 0, 1) := by decide +kernel
theorem dX3_readWord_58 : decode cX3_readWord 58 = .ok (.dup, 1) := by decide +kernel
theorem dX3_readWord_59 : decode cX3_readWord 59 = .ok (.getfield 39, 3) := by decide +kernel
theorem dX3_readWord_62 : decode cX3_readWord 62 = .ok (.iload_n 1, 1) := by decide +kernel
theorem dX3_readWord_63 : decode cX3_readWord 63 = .ok (.iadd, 1) := by decide +kernel
theorem dX3_readWord_64 : decode cX3_readWord 64 = .ok (.putfield 39, 3) := by decide +kernel
theorem dX3_readWord_67 : decode cX3_readWord 67 = .ok (.iconst (-1), 1) := by decide +kernel
theorem dX3_readWord_68 : decode cX3_readWord 68 = .ok (.ireturn, 1) := by decide +kernel
theorem dX3_fitting_0 : decode cX3_fitting 0 = .ok (.iconst 0, 1) := by decide +kernel
theorem dX3_fitting_1 : decode cX3_fitting 1 = .ok (.istore_n 2, 1) := by decide +kernel
theorem dX3_fitting_2 : decode cX3_fitting 2 = .ok (.iload_n 2, 1) := by decide +kernel
theorem dX3_fitting_3 : decode cX3_fitting 3 = .ok (.aload_n 1, 1) := by decide +kernel
theorem dX3_fitting_4 : decode cX3_fitting 4 = .ok (.invokevirtual 82, 3) := by decide +kernel
theorem dX3_fitting_7 : decode cX3_fitting 7 = .ok (.if_icmp .ge 42, 3) := by decide +kernel
theorem dX3_fitting_10 : decode cX3_fitting 10 = .ok (.aload_n 0, 1) := by decide +kernel
theorem dX3_fitting_11 : decode cX3_fitting 11 = .ok (.getfield 39, 3) := by decide +kernel
theorem dX3_fitting_14 : decode cX3_fitting 14 = .ok (.iload_n 2, 1) := by decide +kernel
theorem dX3_fitting_15 : decode cX3_fitting 15 = .ok (.iadd, 1) := by decide +kernel
theorem dX3_fitting_16 : decode cX3_fitting 16 = .ok (.aload_n 0, 1) := by decide +kernel
theorem dX3_fitting_17 : decode cX3_fitting 17 = .ok (.getfield 31, 3) := by decide +kernel
theorem dX3_fitting_20 : decode cX3_fitting 20 = .ok (.arraylength, 1) := by decide +kernel
theorem dX3_fitting_21 : decode cX3_fitting 21 = .ok (.if_icmp .ge 28, 3) := by decide +kernel
theorem dX3_fitting_24 : decode cX3_fitting 24 = .ok (.aload_n 0, 1) := by decide +kernel
theorem dX3_fitting_25 : decode cX3_fitting 25 = .ok (.getfield 31, 3) := by decide +kernel
theorem dX3_fitting_28 : decode cX3_fitting 28 = .ok (.aload_n 0, 1) := by decide +kernel
theorem dX3_fitting_29 : decode cX3_fitting 29 = .ok (.getfield 39, 3) := by decide +kernel
theorem dX3_fitting_32 : decode cX3_fitting 32 = .ok (.iload_n 2, 1) := by decide +kernel
theorem dX3_fitting_33 : decode cX3_fitting 33 = .ok (.iadd, 1) := by decide +kernel
theorem dX3_fitting_34 : decode cX3_fitting 34 = .ok (.baload, 1) := by decide +kernel
theorem dX3_fitting_35 : decode cX3_fitting 35 = .ok (.aload_n 1, 1) := by decide +kernel
theorem dX3_fitting_36 : decode cX3_fitting 36 = .ok (.iload_n 2, 1) := by decide +kernel
theorem dX3_fitting_37 : decode cX3_fitting 37 = .ok (.invokevirtual 93, 3) := by decide +kernel
theorem dX3_fitting_40 : decode cX3_fitting 40 = .ok (.if_icmp .ne 9, 3) := by decide +kernel
theorem dX3_fitting_43 : decode cX3_fitting 43 = .ok (.iinc 2 1, 3) := by decide +kernel
theorem dX3_fitting_46 : decode cX3_fitting 46 = .ok (.goto (-44), 3) := by decide +kernel
theorem dX3_fitting_49 : decode cX3_fitting 49 = .ok (.iload_n 2, 1) := by decide +kernel
theorem dX3_fitting_50 : decode cX3_fitting 50 = .ok (.ireturn, 1) := by decide +kernel
theorem dX3_readYesOrNo_0 : decode cX3_readYesOrNo 0 = .ok (.aload_n 0, 1) := by decide +kernel
theorem dX3_readYesOrNo_1 : decode cX3_readYesOrNo 1 = .ok (.invokevirtual 97, 3) := by decide +kernel
theorem dX3_readYesOrNo_4 : decode cX3_readYesOrNo 4 = .ok (.istore_n 1, 1) := by decide +kernel
theorem dX3_readYesOrNo_5 : decode cX3_readYesOrNo 5 = .ok (.iload_n 1, 1) := by decide +kernel
theorem dX3_readYesOrNo_6 : decode cX3_readYesOrNo 6 = .ok (.bipush 121, 2) := by decide +kernel
theorem dX3_readYesOrNo_8 : decode cX3_readYesOrNo 8 = .ok (.if_icmp .eq 11, 3) := by decide +kernel
theorem dX3_readYesOrNo_11 : decode cX3_readYesOrNo 11 = .ok (.iload_n 1, 1) := by decide +kernel
theorem dX3_readYesOrNo_12 : decode cX3_readYesOrNo 12 = .ok (.bipush 110, 2) := by decide +kernel
theorem dX3_readYesOrNo_14 : decode cX3_readYesOrNo 14 = .ok (.if_icmp .eq 5, 3) := by decide +kernel
theorem dX3_readYesOrNo_17 : decode cX3_readYesOrNo 17 = .ok (.iconst (-1), 1) := by decide +kernel
theorem dX3_readYesOrNo_18 : decode cX3_readYesOrNo 18 = .ok (.ireturn, 1) := by decide +kernel
theorem dX3_readYesOrNo_19 : decode cX3_readYesOrNo 19 = .ok (.aload_n 0, 1) := by decide +kernel
theorem dX3_readYesOrNo_20 : decode cX3_readYesOrNo 20 = .ok (.dup, 1) := by decide +kernel
theorem dX3_readYesOrNo_21 : decode cX3_readYesOrNo 21 = .ok (.getfield 39, 3) := by decide +kernel
theorem dX3_readYesOrNo_24 : decode cX3_readYesOrNo 24 = .ok (.iconst 1, 1) := by decide +kernel
theorem dX3_readYesOrNo_25 : decode cX3_readYesOrNo 25 = .ok (.iadd, 1) := by decide +kernel
theorem dX3_readYesOrNo_26 : decode cX3_readYesOrNo 26 = .ok (.putfield 39, 3) := by decide +kernel
theorem dX3_readYesOrNo_29 : decode cX3_readYesOrNo 29 = .ok (.iload_n 1, 1) := by decide +kernel
theorem dX3_readYesOrNo_30 : decode cX3_readYesOrNo 30 = .ok (.bipush 121, 2) := by decide +kernel
theorem dX3_readYesOrNo_32 : decode cX3_readYesOrNo 32 = .ok (.if_icmp .ne 7, 3) := by decide +kernel
theorem dX3_readYesOrNo_35 : decode cX3_readYesOrNo 35 = .ok (.iconst 1, 1) := by decide +kernel
theorem dX3_readYesOrNo_36 : decode cX3_readYesOrNo 36 = .ok (.goto 4, 3) := by decide +kernel
theorem dX3_readYesOrNo_39 : decode cX3_readYesOrNo 39 = .ok (.iconst 0, 1) := by decide +kernel
theorem dX3_readYesOrNo_40 : decode cX3_readYesOrNo 40 = .ok (.ireturn, 1) := by decide +kernel
theorem dX3_readNumber_0 : decode cX3_readNumber 0 = .ok (.iconst (-1), 1) := by decide +kernel
theorem dX3_readNumber_1 : decode cX3_readNumber 1 = .ok (.istore_n 1, 1) := by decide +kernel
theorem dX3_readNumber_2 : decode cX3_readNumber 2 = .ok (.iconst 0, 1) := by decide +kernel
theorem dX3_readNumber_3 : decode cX3_readNumber 3 = .ok (.istore_n 2, 1) := by decide +kernel
theorem dX3_readNumber_4 : decode cX3_readNumber 4 = .ok (.iload_n 2, 1) := by decide +kernel
theorem dX3_readNumber_5 : decode cX3_readNumber 5 = .ok (.iconst 3, 1) := by decide +kernel
theorem dX3_readNumber_6 : decode cX3_readNumber 6 = .ok (.if_icmp .ge 76, 3) := by decide +kernel
theorem dX3_readNumber_9 : decode cX3_readNumber 9 = .ok (.iload_n 1, 1) := by decide +kernel
theorem dX3_readNumber_10 : decode cX3_readNumber 10 = .ok (.ifCond .eq 72, 3) := by decide +kernel
theorem dX3_readNumber_13 : decode cX3_readNumber 13 = .ok (.aload_n 0, 1) := by decide +kernel
theorem dX3_readNumber_14 : decode cX3_readNumber 14 = .ok (.getfield 39, 3) := by decide +kernel
theorem dX3_readNumber_17 : decode cX3_readNumber 17 = .ok (.aload_n 0, 1) := by decide +kernel
theorem dX3_readNumber_18 : decode cX3_readNumber 18 = .ok (.getfield 31, 3) := by decide +kernel
theorem dX3_readNumber_21 : decode cX3_readNumber 21 = .ok (.arraylength, 1) := by decide +kernel
theorem dX3_readNumber_22 : decode cX3_readNumber 22 = .ok (.if_icmp .ge 60, 3) := by decide +kernel
theorem dX3_readNumber_25 : decode cX3_readNumber 25 = .ok (.aload_n 0, 1) := by decide +kernel
theorem dX3_readNumber_26 : decode cX3_readNumber 26 = .ok (.getfield 31, 3) := by decide +kernel
theorem dX3_readNumber_29 : decode cX3_readNumber 29 = .ok (.aload_n 0, 1) := by decide +kernel
theorem dX3_readNumber_30 : decode cX3_readNumber 30 = .ok (.getfield 39, 3) := by decide +kernel
theorem dX3_readNumber_33 : decode cX3_readNumber 33 = .ok (.baload, 1) := by decide +kernel
theorem dX3_readNumber_34 : decode cX3_readNumber 34 = .ok (.bipush 48, 2) := by decide +kernel
theorem dX3_readNumber_36 : decode cX3_readNumber 36 = .ok (.isub, 1) := by decide +kernel
theorem dX3_readNumber_37 : decode cX3_readNumber 37 = .ok (.istore_n 3, 1) := by decide +kernel
theorem dX3_readNumber_38 : decode cX3_readNumber 38 = .ok (.iload_n 3, 1) := by decide +kernel
theorem dX3_readNumber_39 : decode cX3_readNumber 39 = .ok (.ifCond .lt 9, 3) := by decide +kernel
theorem dX3_readNumber_42 : decode cX3_readNumber 42 = .ok (.iload_n 3, 1) := by decide +kernel
theorem dX3_readNumber_43 : decode cX3_readNumber 43 = .ok (.bipush 9, 2) := by decide +kernel
theorem dX3_readNumber_45 : decode cX3_readNumber 45 = .ok (.if_icmp .le 5, 3) := by decide +kernel
theorem dX3_readNumber_48 : decode cX3_readNumber 48 = .ok (.iload_n 1, 1) := by decide +kernel
theorem dX3_readNumber_49 : decode cX3_readNumber 49 = .ok (.ireturn, 1) := by decide +kernel
theorem dX3_readNumber_50 : decode cX3_readNumber 50 = .ok (.iload_n 1, 1) := by decide +kernel
theorem dX3_readNumber_51 : decode cX3_readNumber 51 = .ok (.iconst (-1), 1) := by decide +kernel
theorem dX3_readNumber_52 : decode cX3_readNumber 52 = .ok (.if_icmp .ne 7, 3) := by decide +kernel
theorem dX3_readNumber_55 : decode cX3_readNumber 55 = .ok (.iload_n 3, 1) := by decide +kernel
theorem dX3_readNumber_56 : decode cX3_readNumber 56 = .ok (.goto 9, 3) := by decide +kernel
theorem dX3_readNumber_59 : decode cX3_readNumber 59 = .ok (.bipush 10, 2) := by decide +kernel
theorem dX3_readNumber_61 : decode cX3_readNumber 61 = .ok (.iload_n 1, 1) := by decide +kernel
theorem dX3_readNumber_62 : decode cX3_readNumber 62 = .ok (.imul, 1) := by decide +kernel
theorem dX3_readNumber_63 : decode cX3_readNumber 63 = .ok (.iload_n 3, 1) := by decide +kernel
theorem dX3_readNumber_64 : decode cX3_readNumber 64 = .ok (.iadd, 1) := by decide +kernel
theorem dX3_readNumber_65 : decode cX3_readNumber 65 = .ok (.istore_n 1, 1) := by decide +kernel
theorem dX3_readNumber_66 : decode cX3_readNumber 66 = .ok (.aload_n 0, 1) := by decide +kernel
theorem dX3_readNumber_67 : decode cX3_readNumber 67 = .ok (.dup, 1) := by decide +kernel
theorem dX3_readNumber_68 : decode cX3_readNumber 68 = .ok (.getfield 39, 3) := by decide +kernel
theorem dX3_readNumber_71 : decode cX3_readNumber 71 = .ok (.iconst 1, 1) := by decide +kernel
theorem dX3_readNumber_72 : decode cX3_readNumber 72 = .ok (.iadd, 1) := by decide +kernel
theorem dX3_readNumber_73 : decode cX3_readNumber 73 = .ok (.putfield 39, 3) := by decide +kernel
theorem dX3_readNumber_76 : decode cX3_readNumber 76 = .ok (.iinc 2 1, 3) := by decide +kernel
theorem dX3_readNumber_79 : decode cX3_readNumber 79 = .ok (.goto (-75), 3) := by decide +kernel
theorem dX3_readNumber_82 : decode cX3_readNumber 82 = .ok (.iload_n 1, 1) := by decide +kernel
theorem dX3_readNumber_83 : decode cX3_readNumber 83 = .ok (.ireturn, 1) := by decide +kernel
theorem dX3_either_0 : decode cX3_either 0 = .ok (.iconst 0, 1) := by decide +kernel
theorem dX3_either_1 : decode cX3_either 1 = .ok (.istore_n 2, 1) := by decide +kernel
theorem dX3_either_2 : decode cX3_either 2 = .ok (.iconst 1, 1) := by decide +kernel
theorem dX3_either_3 : decode cX3_either 3 = .ok (.istore_n 3, 1) := by decide +kernel
theorem dX3_either_4 : decode cX3_either 4 = .ok (.iconst 0, 1) := by decide +kernel
theorem dX3_either_5 : decode cX3_either 5 = .ok (.istore 4, 2) := by decide +kernel
theorem dX3_either_7 : decode cX3_either 7 = .ok (.iload 4, 2) := by decide +kernel
theorem dX3_either_9 : decode cX3_either 9 = .ok (.sipush 140, 3) := by decide +kernel
theorem dX3_either_12 : decode cX3_either 12 = .ok (.if_icmp .ge 67, 3) := by decide +kernel
theorem dX3_either_15 : decode cX3_either 15 = .ok (.aload_n 0, 1) := by decide +kernel
theorem dX3_either_16 : decode cX3_either 16 = .ok (.iload_n 1, 1) := by decide +kernel
theorem dX3_either_17 : decode cX3_either 17 = .ok (.invokevirtual 100, 3) := by decide +kernel
theorem dX3_either_20 : decode cX3_either 20 = .ok (.istore 5, 2) := by decide +kernel
theorem dX3_either_22 : decode cX3_either 22 = .ok (.iload 5, 2) := by decide +kernel
theorem dX3_either_24 : decode cX3_either 24 = .ok (.iconst (-1), 1) := by decide +kernel
theorem dX3_either_25 : decode cX3_either 25 = .ok (.if_icmp .ne 5, 3) := by decide +kernel
theorem dX3_either_28 : decode cX3_either 28 = .ok (.iconst (-1), 1) := by decide +kernel
theorem dX3_either_29 : decode cX3_either 29 = .ok (.ireturn, 1) := by decide +kernel
theorem dX3_either_30 : decode cX3_either 30 = .ok (.iload_n 3, 1) := by decide +kernel
theorem dX3_either_31 : decode cX3_either 31 = .ok (.iload 5, 2) := by decide +kernel
theorem dX3_either_33 : decode cX3_either 33 = .ok (.iand, 1) := by decide +kernel
theorem dX3_either_34 : decode cX3_either 34 = .ok (.istore_n 3, 1) := by decide +kernel
theorem dX3_either_35 : decode cX3_either 35 = .ok (.aload_n 0, 1) := by decide +kernel
theorem dX3_either_36 : decode cX3_either 36 = .ok (.invokevirtual 97, 3) := by decide +kernel
theorem dX3_either_39 : decode cX3_either 39 = .ok (.istore 6, 2) := by decide +kernel
theorem dX3_either_41 : decode cX3_either 41 = .ok (.iload 6, 2) := by decide +kernel
theorem dX3_either_43 : decode cX3_either 43 = .ok (.bipush 38, 2) := by decide +kernel
theorem dX3_either_45 : decode cX3_either 45 = .ok (.if_icmp .eq 18, 3) := by decide +kernel
theorem dX3_either_48 : decode cX3_either 48 = .ok (.iload_n 2, 1) := by decide +kernel
theorem dX3_either_49 : decode cX3_either 49 = .ok (.iload_n 3, 1) := by decide +kernel
theorem dX3_either_50 : decode cX3_either 50 = .ok (.ior, 1) := by decide +kernel
theorem dX3_either_51 : decode cX3_either 51 = .ok (.istore_n 2, 1) := by decide +kernel
theorem dX3_either_52 : decode cX3_either 52 = .ok (.iconst 1, 1) := by decide +kernel
theorem dX3_either_53 : decode cX3_either 53 = .ok (.istore_n 3, 1) := by decide +kernel
theorem dX3_either_54 : decode cX3_either 54 = .ok (.iload 6, 2) := by decide +kernel
theorem dX3_either_56 : decode cX3_either 56 = .ok (.bipush 124, 2) := by decide +kernel
theorem dX3_either_58 : decode cX3_either 58 = .ok (.if_icmp .eq 5, 3) := by decide +kernel
theorem dX3_either_61 : decode cX3_either 61 = .ok (.iload_n 2, 1) := by decide +kernel
theorem dX3_either_62 : decode cX3_either 62 = .ok (.ireturn, 1) := by decide +kernel
theorem dX3_either_63 : decode cX3_either 63 = .ok (.aload_n 0, 1) := by decide +kernel
theorem dX3_either_64 : decode cX3_either 64 = .ok (.dup, 1) := by decide +kernel
theorem dX3_either_65 : decode cX3_either 65 = .ok (.getfield 39, 3) := by decide +kernel
theorem dX3_either_68 : decode cX3_either 68 = .ok (.iconst 1, 1) := by decide +kernel
theorem dX3_either_69 : decode cX3_either 69 = .ok (.iadd, 1) := by decide +kernel
theorem dX3_either_70 : decode cX3_either 70 = .ok (.putfield 39, 3) := by decide +kernel
theorem dX3_either_73 : decode cX3_either 73 = .ok (.iinc 4 1, 3) := by decide +kernel
theorem dX3_either_76 : decode cX3_either 76 = .ok (.goto (-69), 3) := by decide +kernel
theorem dX3_either_79 : decode cX3_either 79 = .ok (.iconst (-1), 1) := by decide +kernel
theorem dX3_either_80 : decode cX3_either 80 = .ok (.ireturn, 1) := by decide +kernel
theorem dX3_single_0 : decode cX3_single 0 = .ok (.aload_n 0, 1) := by decide +kernel
theorem dX3_single_1 : decode cX3_single 1 = .ok (.invokevirtual 97, 3) := by decide +kernel
theorem dX3_single_4 : decode cX3_single 4 = .ok (.istore_n 2, 1) := by decide +kernel
theorem dX3_single_5 : decode cX3_single 5 = .ok (.iload_n 2, 1) := by decide +kernel
theorem dX3_single_6 : decode cX3_single 6 = .ok (.bipush 33, 2) := by decide +kernel
theorem dX3_single_8 : decode cX3_single 8 = .ok (.if_icmp .eq 15, 3) := by decide +kernel
theorem dX3_single_11 : decode cX3_single 11 = .ok (.iload_n 2, 1) := by decide +kernel
theorem dX3_single_12 : decode cX3_single 12 = .ok (.bipush 40, 2) := by decide +kernel
theorem dX3_single_14 : decode cX3_single 14 = .ok (.if_icmp .eq 9, 3) := by decide +kernel
theorem dX3_single_17 : decode cX3_single 17 = .ok (.aload_n 0, 1) := by decide +kernel
theorem dX3_single_18 : decode cX3_single 18 = .ok (.iload_n 2, 1) := by decide +kernel
theorem dX3_single_19 : decode cX3_single 19 = .ok (.invokevirtual 103, 3) := by decide +kernel
theorem dX3_single_22 : decode cX3_single 22 = .ok (.ireturn, 1) := by decide +kernel
theorem dX3_single_23 : decode cX3_single 23 = .ok (.iload_n 1, 1) := by decide +kernel
theorem dX3_single_24 : decode cX3_single 24 = .ok (.iconst 5, 1) := by decide +kernel
theorem dX3_single_25 : decode cX3_single 25 = .ok (.if_icmp .lt 5, 3) := by decide +kernel
theorem dX3_single_28 : decode cX3_single 28 = .ok (.iconst (-1), 1) := by decide +kernel
theorem dX3_single_29 : decode cX3_single 29 = .ok (.ireturn, 1) := by decide +kernel
theorem dX3_single_30 : decode cX3_single 30 = .ok (.aload_n 0, 1) := by decide +kernel
theorem dX3_single_31 : decode cX3_single 31 = .ok (.dup, 1) := by decide +kernel
theorem dX3_single_32 : decode cX3_single 32 = .ok (.getfield 39, 3) := by decide +kernel
theorem dX3_single_35 : decode cX3_single 35 = .ok (.iconst 1, 1) := by decide +kernel
theorem dX3_single_36 : decode cX3_single 36 = .ok (.iadd, 1) := by decide +kernel
theorem dX3_single_37 : decode cX3_single 37 = .ok (.putfield 39, 3) := by decide +kernel
theorem dX3_single_40 : decode cX3_single 40 = .ok (.iload_n 2, 1) := by decide +kernel
theorem dX3_single_41 : decode cX3_single 41 = .ok (.bipush 33, 2) := by decide +kernel
theorem dX3_single_43 : decode cX3_single 43 = .ok (.if_icmp .ne 24, 3) := by decide +kernel
theorem dX3_single_46 : decode cX3_single 46 = .ok (.aload_n 0, 1) := by decide +kernel
theorem dX3_single_47 : decode cX3_single 47 = .ok (.iload_n 1, 1) := by decide +kernel
theorem dX3_single_48 : decode cX3_single 48 = .ok (.iconst 1, 1) := by decide +kernel
theorem dX3_single_49 : decode cX3_single 49 = .ok (.iadd, 1) := by decide +kernel
theorem dX3_single_50 : decode cX3_single 50 = .ok (.invokevirtual 100, 3) := by decide +kernel
theorem dX3_single_53 : decode cX3_single 53 = .ok (.istore_n 3, 1) := by decide +kernel
theorem dX3_single_54 : decode cX3_single 54 = .ok (.iload_n 3, 1) := by decide +kernel
theorem dX3_single_55 : decode cX3_single 55 = .ok (.iconst (-1), 1) := by decide +kernel
theorem dX3_single_56 : decode cX3_single 56 = .ok (.if_icmp .ne 7, 3) := by decide +kernel
theorem dX3_single_59 : decode cX3_single 59 = .ok (.iconst (-1), 1) := by decide +kernel
theorem dX3_single_60 : decode cX3_single 60 = .ok (.goto 6, 3) := by decide +kernel
theorem dX3_single_63 : decode cX3_single 63 = .ok (.iconst 1, 1) := by decide +kernel
theorem dX3_single_64 : decode cX3_single 64 = .ok (.iload_n 3, 1) := by decide +kernel
theorem dX3_single_65 : decode cX3_single 65 = .ok (.isub, 1) := by decide +kernel
theorem dX3_single_66 : decode cX3_single 66 = .ok (.ireturn, 1) := by decide +kernel
theorem dX3_single_67 : decode cX3_single 67 = .ok (.aload_n 0, 1) := by decide +kernel
theorem dX3_single_68 : decode cX3_single 68 = .ok (.iload_n 1, 1) := by decide +kernel
theorem dX3_single_69 : decode cX3_single 69 = .ok (.iconst 1, 1) := by decide +kernel
theorem dX3_single_70 : decode cX3_single 70 = .ok (.iadd, 1) := by decide +kernel
theorem dX3_single_71 : decode cX3_single 71 = .ok (.invokevirtual 46, 3) := by decide +kernel
theorem dX3_single_74 : decode cX3_single 74 = .ok (.istore_n 3, 1) := by decide +kernel
theorem dX3_single_75 : decode cX3_single 75 = .ok (.iload_n 3, 1) := by decide +kernel
theorem dX3_single_76 : decode cX3_single 76 = .ok (.iconst (-1), 1) := by decide +kernel
theorem dX3_single_77 : decode cX3_single 77 = .ok (.if_icmp .eq 12, 3) := by decide +kernel
theorem dX3_single_80 : decode cX3_single 80 = .ok (.aload_n 0, 1) := by decide +kernel
theorem dX3_single_81 : decode cX3_single 81 = .ok (.invokevirtual 97, 3) := by decide +kernel
theorem dX3_single_84 : decode cX3_single 84 = .ok (.bipush 41, 2) := by decide +kernel
theorem dX3_single_86 : decode cX3_single 86 = .ok (.if_icmp .eq 5, 3) := by decide +kernel
theorem dX3_single_89 : decode cX3_single 89 = .ok (.iconst (-1), 1) := by decide +kernel
theorem dX3_single_90 : decode cX3_single 90 = .ok (.ireturn, 1) := by decide +kernel
theorem dX3_single_91 : decode cX3_single 91 = .ok (.aload_n 0, 1) := by decide +kernel
theorem dX3_single_92 : decode cX3_single 92 = .ok (.dup, 1) := by decide +kernel
theorem dX3_single_93 : decode cX3_single 93 = .ok (.getfield 39, 3) := by decide +kernel
theorem dX3_single_96 : decode cX3_single 96 = .ok (.iconst 1, 1) := by decide +kernel
theorem dX3_single_97 : decode cX3_single 97 = .ok (.iadd, 1) := by decide +kernel
theorem dX3_single_98 : decode cX3_single 98 = .ok (.putfield 39, 3) := by decide +kernel
theorem dX3_single_101 : decode cX3_single 101 = .ok (.iload_n 3, 1) := by decide +kernel
theorem dX3_single_102 : decode cX3_single 102 = .ok (.ireturn, 1) := by decide +kernel
theorem dX3_factOf_0 : decode cX3_factOf 0 = .ok (.iload_n 0, 1) := by decide +kernel
theorem dX3_factOf_1 : decode cX3_factOf 1 = .ok (.lookupswitch 71 #[(99, 67), (103, 69), (114, 65), (116, 61), (119, 63), (121, 59)], 59) := by decide +kernel
theorem dX3_factOf_60 : decode cX3_factOf 60 = .ok (.iconst 0, 1) := by decide +kernel
theorem dX3_factOf_61 : decode cX3_factOf 61 = .ok (.ireturn, 1) := by decide +kernel
theorem dX3_factOf_62 : decode cX3_factOf 62 = .ok (.iconst 1, 1) := by decide +kernel
theorem dX3_factOf_63 : decode cX3_factOf 63 = .ok (.ireturn, 1) := by decide +kernel
theorem dX3_factOf_64 : decode cX3_factOf 64 = .ok (.iconst 2, 1) := by decide +kernel
theorem dX3_factOf_65 : decode cX3_factOf 65 = .ok (.ireturn, 1) := by decide +kernel
theorem dX3_factOf_66 : decode cX3_factOf 66 = .ok (.iconst 3, 1) := by decide +kernel
theorem dX3_factOf_67 : decode cX3_factOf 67 = .ok (.ireturn, 1) := by decide +kernel
theorem dX3_factOf_68 : decode cX3_factOf 68 = .ok (.iconst 4, 1) := by decide +kernel
theorem dX3_factOf_69 : decode cX3_factOf 69 = .ok (.ireturn, 1) := by decide +kernel
theorem dX3_factOf_70 : decode cX3_factOf 70 = .ok (.iconst 5, 1) := by decide +kernel
theorem dX3_factOf_71 : decode cX3_factOf 71 = .ok (.ireturn, 1) := by decide +kernel
theorem dX3_factOf_72 : decode cX3_factOf 72 = .ok (.iconst (-1), 1) := by decide +kernel
theorem dX3_factOf_73 : decode cX3_factOf 73 = .ok (.ireturn, 1) := by decide +kernel
theorem dX3_compared_0 : decode cX3_compared 0 = .ok (.iload_n 1, 1) := by decide +kernel
theorem dX3_compared_1 : decode cX3_compared 1 = .ok (.invokestatic 106, 3) := by decide +kernel
theorem dX3_compared_4 : decode cX3_compared 4 = .ok (.istore_n 2, 1) := by decide +kernel
theorem dX3_compared_5 : decode cX3_compared 5 = .ok (.iload_n 2, 1) := by decide +kernel
theorem dX3_compared_6 : decode cX3_compared 6 = .ok (.iconst (-1), 1) := by decide +kernel
theorem dX3_compared_7 : decode cX3_compared 7 = .ok (.if_icmp .ne 5, 3) := by decide +kernel
theorem dX3_compared_10 : decode cX3_compared 10 = .ok (.iconst (-1), 1) := by decide +kernel
theorem dX3_compared_11 : decode cX3_compared 11 = .ok (.ireturn, 1) := by decide +kernel
theorem dX3_compared_12 : decode cX3_compared 12 = .ok (.aload_n 0, 1) := by decide +kernel
theorem dX3_compared_13 : decode cX3_compared 13 = .ok (.dup, 1) := by decide +kernel
theorem dX3_compared_14 : decode cX3_compared 14 = .ok (.getfield 39, 3) := by decide +kernel
theorem dX3_compared_17 : decode cX3_compared 17 = .ok (.iconst 1, 1) := by decide +kernel
theorem dX3_compared_18 : decode cX3_compared 18 = .ok (.iadd, 1) := by decide +kernel
theorem dX3_compared_19 : decode cX3_compared 19 = .ok (.putfield 39, 3) := by decide +kernel
theorem dX3_compared_22 : decode cX3_compared 22 = .ok (.aload_n 0, 1) := by decide +kernel
theorem dX3_compared_23 : decode cX3_compared 23 = .ok (.invokevirtual 97, 3) := by decide +kernel
theorem dX3_compared_26 : decode cX3_compared 26 = .ok (.istore_n 3, 1) := by decide +kernel
theorem dX3_compared_27 : decode cX3_compared 27 = .ok (.iload_n 2, 1) := by decide +kernel
theorem dX3_compared_28 : decode cX3_compared 28 = .ok (.iconst 5, 1) := by decide +kernel
theorem dX3_compared_29 : decode cX3_compared 29 = .ok (.if_icmp .ne 12, 3) := by decide +kernel
theorem dX3_compared_32 : decode cX3_compared 32 = .ok (.iload_n 3, 1) := by decide +kernel
theorem dX3_compared_33 : decode cX3_compared 33 = .ok (.bipush 61, 2) := by decide +kernel
theorem dX3_compared_35 : decode cX3_compared 35 = .ok (.if_icmp .eq 20, 3) := by decide +kernel
theorem dX3_compared_38 : decode cX3_compared 38 = .ok (.goto 15, 3) := by decide +kernel
theorem dX3_compared_41 : decode cX3_compared 41 = .ok (.iload_n 3, 1) := by decide +kernel
theorem dX3_compared_42 : decode cX3_compared 42 = .ok (.bipush 60, 2) := by decide +kernel
theorem dX3_compared_44 : decode cX3_compared 44 = .ok (.if_icmp .eq 11, 3) := by decide +kernel
theorem dX3_compared_47 : decode cX3_compared 47 = .ok (.iload_n 3, 1) := by decide +kernel
theorem dX3_compared_48 : decode cX3_compared 48 = .ok (.bipush 62, 2) := by decide +kernel
theorem dX3_compared_50 : decode cX3_compared 50 = .ok (.if_icmp .eq 5, 3) := by decide +kernel
theorem dX3_compared_53 : decode cX3_compared 53 = .ok (.iconst (-1), 1) := by decide +kernel
theorem dX3_compared_54 : decode cX3_compared 54 = .ok (.ireturn, 1) := by decide +kernel
theorem dX3_compared_55 : decode cX3_compared 55 = .ok (.aload_n 0, 1) := by decide +kernel
theorem dX3_compared_56 : decode cX3_compared 56 = .ok (.dup, 1) := by decide +kernel
theorem dX3_compared_57 : decode cX3_compared 57 = .ok (.getfield 39, 3) := by decide +kernel
theorem dX3_compared_60 : decode cX3_compared 60 = .ok (.iconst 1, 1) := by decide +kernel
theorem dX3_compared_61 : decode cX3_compared 61 = .ok (.iadd, 1) := by decide +kernel
theorem dX3_compared_62 : decode cX3_compared 62 = .ok (.putfield 39, 3) := by decide +kernel
theorem dX3_compared_65 : decode cX3_compared 65 = .ok (.iload_n 2, 1) := by decide +kernel
theorem dX3_compared_66 : decode cX3_compared 66 = .ok (.iconst 5, 1) := by decide +kernel
theorem dX3_compared_67 : decode cX3_compared 67 = .ok (.if_icmp .ne 12, 3) := by decide +kernel
theorem dX3_compared_70 : decode cX3_compared 70 = .ok (.aload_n 0, 1) := by decide +kernel
theorem dX3_compared_71 : decode cX3_compared 71 = .ok (.aload_n 0, 1) := by decide +kernel
theorem dX3_compared_72 : decode cX3_compared 72 = .ok (.invokevirtual 97, 3) := by decide +kernel
theorem dX3_compared_75 : decode cX3_compared 75 = .ok (.invokevirtual 109, 3) := by decide +kernel
theorem dX3_compared_78 : decode cX3_compared 78 = .ok (.ireturn, 1) := by decide +kernel
theorem dX3_compared_79 : decode cX3_compared 79 = .ok (.aload_n 0, 1) := by decide +kernel
theorem dX3_compared_80 : decode cX3_compared 80 = .ok (.invokevirtual 71, 3) := by decide +kernel
theorem dX3_compared_83 : decode cX3_compared 83 = .ok (.istore 4, 2) := by decide +kernel
theorem dX3_compared_85 : decode cX3_compared 85 = .ok (.iload 4, 2) := by decide +kernel
theorem dX3_compared_87 : decode cX3_compared 87 = .ok (.iconst (-1), 1) := by decide +kernel
theorem dX3_compared_88 : decode cX3_compared 88 = .ok (.if_icmp .ne 5, 3) := by decide +kernel
theorem dX3_compared_91 : decode cX3_compared 91 = .ok (.iconst (-1), 1) := by decide +kernel
theorem dX3_compared_92 : decode cX3_compared 92 = .ok (.ireturn, 1) := by decide +kernel
theorem dX3_compared_93 : decode cX3_compared 93 = .ok (.iload_n 3, 1) := by decide +kernel
theorem dX3_compared_94 : decode cX3_compared 94 = .ok (.bipush 60, 2) := by decide +kernel
theorem dX3_compared_96 : decode cX3_compared 96 = .ok (.if_icmp .ne 17, 3) := by decide +kernel
theorem dX3_compared_99 : decode cX3_compared 99 = .ok (.aload_n 0, 1) := by decide +kernel
theorem dX3_compared_100 : decode cX3_compared 100 = .ok (.getfield 18, 3) := by decide +kernel
theorem dX3_compared_103 : decode cX3_compared 103 = .ok (.iload_n 2, 1) := by decide +kernel
theorem dX3_compared_104 : decode cX3_compared 104 = .ok (.iaload, 1) := by decide +kernel
theorem dX3_compared_105 : decode cX3_compared 105 = .ok (.iload 4, 2) := by decide +kernel
theorem dX3_compared_107 : decode cX3_compared 107 = .ok (.if_icmp .ge 21, 3) := by decide +kernel
theorem dX3_compared_110 : decode cX3_compared 110 = .ok (.goto 14, 3) := by decide +kernel
theorem dX3_compared_113 : decode cX3_compared 113 = .ok (.aload_n 0, 1) := by decide +kernel
theorem dX3_compared_114 : decode cX3_compared 114 = .ok (.getfield 18, 3) := by decide +kernel
theorem dX3_compared_117 : decode cX3_compared 117 = .ok (.iload_n 2, 1) := by decide +kernel
theorem dX3_compared_118 : decode cX3_compared 118 = .ok (.iaload, 1) := by decide +kernel
theorem dX3_compared_119 : decode cX3_compared 119 = .ok (.iload 4, 2) := by decide +kernel
theorem dX3_compared_121 : decode cX3_compared 121 = .ok (.if_icmp .le 7, 3) := by decide +kernel
theorem dX3_compared_124 : decode cX3_compared 124 = .ok (.iconst 1, 1) := by decide +kernel
theorem dX3_compared_125 : decode cX3_compared 125 = .ok (.goto 4, 3) := by decide +kernel
theorem dX3_compared_128 : decode cX3_compared 128 = .ok (.iconst 0, 1) := by decide +kernel
theorem dX3_compared_129 : decode cX3_compared 129 = .ok (.ireturn, 1) := by decide +kernel
theorem dX3_comparedGauge_0 : decode cX3_comparedGauge 0 = .ok (.iload_n 1, 1) := by decide +kernel
theorem dX3_comparedGauge_1 : decode cX3_comparedGauge 1 = .ok (.bipush 48, 2) := by decide +kernel
theorem dX3_comparedGauge_3 : decode cX3_comparedGauge 3 = .ok (.if_icmp .eq 11, 3) := by decide +kernel
theorem dX3_comparedGauge_6 : decode cX3_comparedGauge 6 = .ok (.iload_n 1, 1) := by decide +kernel
theorem dX3_comparedGauge_7 : decode cX3_comparedGauge 7 = .ok (.bipush 49, 2) := by decide +kernel
theorem dX3_comparedGauge_9 : decode cX3_comparedGauge 9 = .ok (.if_icmp .eq 5, 3) := by decide +kernel
theorem dX3_comparedGauge_12 : decode cX3_comparedGauge 12 = .ok (.iconst (-1), 1) := by decide +kernel
theorem dX3_comparedGauge_13 : decode cX3_comparedGauge 13 = .ok (.ireturn, 1) := by decide +kernel
theorem dX3_comparedGauge_14 : decode cX3_comparedGauge 14 = .ok (.aload_n 0, 1) := by decide +kernel
theorem dX3_comparedGauge_15 : decode cX3_comparedGauge 15 = .ok (.dup, 1) := by decide +kernel
theorem dX3_comparedGauge_16 : decode cX3_comparedGauge 16 = .ok (.getfield 39, 3) := by decide +kernel
theorem dX3_comparedGauge_19 : decode cX3_comparedGauge 19 = .ok (.iconst 1, 1) := by decide +kernel
theorem dX3_comparedGauge_20 : decode cX3_comparedGauge 20 = .ok (.iadd, 1) := by decide +kernel
theorem dX3_comparedGauge_21 : decode cX3_comparedGauge 21 = .ok (.putfield 39, 3) := by decide +kernel
theorem dX3_comparedGauge_24 : decode cX3_comparedGauge 24 = .ok (.aload_n 0, 1) := by decide +kernel
theorem dX3_comparedGauge_25 : decode cX3_comparedGauge 25 = .ok (.getfield 18, 3) := by decide +kernel
theorem dX3_comparedGauge_28 : decode cX3_comparedGauge 28 = .ok (.iconst 5, 1) := by decide +kernel
theorem dX3_comparedGauge_29 : decode cX3_comparedGauge 29 = .ok (.iaload, 1) := by decide +kernel
theorem dX3_comparedGauge_30 : decode cX3_comparedGauge 30 = .ok (.iload_n 1, 1) := by decide +kernel
theorem dX3_comparedGauge_31 : decode cX3_comparedGauge 31 = .ok (.bipush 48, 2) := by decide +kernel
theorem dX3_comparedGauge_33 : decode cX3_comparedGauge 33 = .ok (.isub, 1) := by decide +kernel
theorem dX3_comparedGauge_34 : decode cX3_comparedGauge 34 = .ok (.if_icmp .ne 7, 3) := by decide +kernel
theorem dX3_comparedGauge_37 : decode cX3_comparedGauge 37 = .ok (.iconst 1, 1) := by decide +kernel
theorem dX3_comparedGauge_38 : decode cX3_comparedGauge 38 = .ok (.goto 4, 3) := by decide +kernel
theorem dX3_comparedGauge_41 : decode cX3_comparedGauge 41 = .ok (.iconst 0, 1) := by decide +kernel
theorem dX3_comparedGauge_42 : decode cX3_comparedGauge 42 = .ok (.ireturn, 1) := by decide +kernel
theorem dX4_init_0 : decode cX4_init 0 = .ok (.aload_n 0, 1) := by decide +kernel
theorem dX4_init_1 : decode cX4_init 1 = .ok (.invokespecial 3, 3) := by decide +kernel
theorem dX4_init_4 : decode cX4_init 4 = .ok (.aload_n 0, 1) := by decide +kernel
theorem dX4_init_5 : decode cX4_init 5 = .ok (.iconst (-1), 1) := by decide +kernel
theorem dX4_init_6 : decode cX4_init 6 = .ok (.putfield 9, 3) := by decide +kernel
theorem dX4_init_9 : decode cX4_init 9 = .ok (.aload_n 0, 1) := by decide +kernel
theorem dX4_init_10 : decode cX4_init 10 = .ok (.iconst (-1), 1) := by decide +kernel
theorem dX4_init_11 : decode cX4_init 11 = .ok (.putfield 15, 3) := by decide +kernel
theorem dX4_init_14 : decode cX4_init 14 = .ok (.aload_n 0, 1) := by decide +kernel
theorem dX4_init_15 : decode cX4_init 15 = .ok (.iconst (-1), 1) := by decide +kernel
theorem dX4_init_16 : decode cX4_init 16 = .ok (.putfield 18, 3) := by decide +kernel
theorem dX4_init_19 : decode cX4_init 19 = .ok (.aload_n 0, 1) := by decide +kernel
theorem dX4_init_20 : decode cX4_init 20 = .ok (.iconst (-1), 1) := by decide +kernel
theorem dX4_init_21 : decode cX4_init 21 = .ok (.putfield 21, 3) := by decide +kernel
theorem dX4_init_24 : decode cX4_init 24 = .ok (.aload_n 0, 1) := by decide +kernel
theorem dX4_init_25 : decode cX4_init 25 = .ok (.iconst (-1), 1) := by decide +kernel
theorem dX4_init_26 : decode cX4_init 26 = .ok (.putfield 24, 3) := by decide +kernel
theorem dX4_init_29 : decode cX4_init 29 = .ok (.aload_n 0, 1) := by decide +kernel
theorem dX4_init_30 : decode cX4_init 30 = .ok (.bipush (-5), 2) := by decide +kernel
theorem dX4_init_32 : decode cX4_init 32 = .ok (.putfield 27, 3) := by decide +kernel
theorem dX4_init_35 : decode cX4_init 35 = .ok (.aload_n 0, 1) := by decide +kernel
theorem dX4_init_36 : decode cX4_init 36 = .ok (.iload_n 1, 1) := by decide +kernel
theorem dX4_init_37 : decode cX4_init 37 = .ok (.putfield 30, 3) := by decide +kernel
theorem dX4_init_40 : decode cX4_init 40 = .ok (.aload_n 0, 1) := by decide +kernel
theorem dX4_init_41 : decode cX4_init 41 = .ok (.iload_n 2, 1) := by decide +kernel
theorem dX4_init_42 : decode cX4_init 42 = .ok (.putfield 33, 3) := by decide +kernel
theorem dX4_init_45 : decode cX4_init 45 = .ok (.aload_n 0, 1) := by decide +kernel
theorem dX4_init_46 : decode cX4_init 46 = .ok (.iload_n 3, 1) := by decide +kernel
theorem dX4_init_47 : decode cX4_init 47 = .ok (.putfield 36, 3) := by decide +kernel
theorem dX4_init_50 : decode cX4_init 50 = .ok (.aload_n 0, 1) := by decide +kernel
theorem dX4_init_51 : decode cX4_init 51 = .ok (.aload 4, 2) := by decide +kernel
theorem dX4_init_53 : decode cX4_init 53 = .ok (.putfield 39, 3) := by decide +kernel
theorem dX4_init_56 : decode cX4_init 56 = .ok (.aload_n 0, 1) := by decide +kernel
theorem dX4_init_57 : decode cX4_init 57 = .ok (.aload 5, 2) := by decide +kernel
theorem dX4_init_59 : decode cX4_init 59 = .ok (.putfield 43, 3) := by decide +kernel
theorem dX4_init_62 : decode cX4_init 62 = .ok (.return_, 1) := by decide +kernel
theorem dX4_tell_0 : decode cX4_tell 0 = .ok (.aload_n 0, 1) := by decide +kernel
theorem dX4_tell_1 : decode cX4_tell 1 = .ok (.iload_n 1, 1) := by decide +kernel
theorem dX4_tell_2 : decode cX4_tell 2 = .ok (.putfield 9, 3) := by decide +kernel
theorem dX4_tell_5 : decode cX4_tell 5 = .ok (.aload_n 0, 1) := by decide +kernel
theorem dX4_tell_6 : decode cX4_tell 6 = .ok (.iload_n 2, 1) := by decide +kernel
theorem dX4_tell_7 : decode cX4_tell 7 = .ok (.putfield 15, 3) := by decide +kernel
theorem dX4_tell_10 : decode cX4_tell 10 = .ok (.aload_n 0, 1) := by decide +kernel
theorem dX4_tell_11 : decode cX4_tell 11 = .ok (.iload_n 3, 1) := by decide +kernel
theorem dX4_tell_12 : decode cX4_tell 12 = .ok (.putfield 18, 3) := by decide +kernel
theorem dX4_tell_15 : decode cX4_tell 15 = .ok (.aload_n 0, 1) := by decide +kernel
theorem dX4_tell_16 : decode cX4_tell 16 = .ok (.iload 4, 2) := by decide +kernel
theorem dX4_tell_18 : decode cX4_tell 18 = .ok (.putfield 21, 3) := by decide +kernel
theorem dX4_tell_21 : decode cX4_tell 21 = .ok (.return_, 1) := by decide +kernel
theorem dX4_isUnder_0 : decode cX4_isUnder 0 = .ok (.aload_n 0, 1) := by decide +kernel
theorem dX4_isUnder_1 : decode cX4_isUnder 1 = .ok (.getfield 30, 3) := by decide +kernel
theorem dX4_isUnder_4 : decode cX4_isUnder 4 = .ok (.istore_n 2, 1) := by decide +kernel
theorem dX4_isUnder_5 : decode cX4_isUnder 5 = .ok (.iconst 0, 1) := by decide +kernel
theorem dX4_isUnder_6 : decode cX4_isUnder 6 = .ok (.istore_n 3, 1) := by decide +kernel
theorem dX4_isUnder_7 : decode cX4_isUnder 7 = .ok (.iload_n 3, 1) := by decide +kernel
theorem dX4_isUnder_8 : decode cX4_isUnder 8 = .ok (.getstatic 46, 3) := by decide +kernel
theorem dX4_isUnder_11 : decode cX4_isUnder 11 = .ok (.arraylength, 1) := by decide +kernel
theorem dX4_isUnder_12 : decode cX4_isUnder 12 = .ok (.if_icmp .ge 27, 3) := by decide +kernel
theorem dX4_isUnder_15 : decode cX4_isUnder 15 = .ok (.iload_n 2, 1) := by decide +kernel
theorem dX4_isUnder_16 : decode cX4_isUnder 16 = .ok (.iconst (-1), 1) := by decide +kernel
theorem dX4_isUnder_17 : decode cX4_isUnder 17 = .ok (.if_icmp .eq 22, 3) := by decide +kernel
theorem dX4_isUnder_20 : decode cX4_isUnder 20 = .ok (.iload_n 2, 1) := by decide +kernel
theorem dX4_isUnder_21 : decode cX4_isUnder 21 = .ok (.iload_n 1, 1) := by decide +kernel
theorem dX4_isUnder_22 : decode cX4_isUnder 22 = .ok (.if_icmp .ne 5, 3) := by decide +kernel
theorem dX4_isUnder_25 : decode cX4_isUnder 25 = .ok (.iconst 1, 1) := by decide +kernel
theorem dX4_isUnder_26 : decode cX4_isUnder 26 = .ok (.ireturn, 1) := by decide +kernel
theorem dX4_isUnder_27 : decode cX4_isUnder 27 = .ok (.getstatic 46, 3) := by decide +kernel
theorem dX4_isUnder_30 : decode cX4_isUnder 30 = .ok (.iload_n 2, 1) := by decide +kernel
theorem dX4_isUnder_31 : decode cX4_isUnder 31 = .ok (.iaload, 1) := by decide +kernel
theorem dX4_isUnder_32 : decode cX4_isUnder 32 = .ok (.istore_n 2, 1) := by decide +kernel
theorem dX4_isUnder_33 : decode cX4_isUnder 33 = .ok (.iinc 3 1, 3) := by decide +kernel
theorem dX4_isUnder_36 : decode cX4_isUnder 36 = .ok (.goto (-29), 3) := by decide +kernel
theorem dX4_isUnder_39 : decode cX4_isUnder 39 = .ok (.iconst 0, 1) := by decide +kernel
theorem dX4_isUnder_40 : decode cX4_isUnder 40 = .ok (.ireturn, 1) := by decide +kernel
theorem dX4_cellAtOddsWith_0 : decode cX4_cellAtOddsWith 0 = .ok (.iconst 0, 1) := by decide +kernel
theorem dX4_cellAtOddsWith_1 : decode cX4_cellAtOddsWith 1 = .ok (.istore_n 2, 1) := by decide +kernel
theorem dX4_cellAtOddsWith_2 : decode cX4_cellAtOddsWith 2 = .ok (.iload_n 2, 1) := by decide +kernel
theorem dX4_cellAtOddsWith_3 : decode cX4_cellAtOddsWith 3 = .ok (.aload_n 0, 1) := by decide +kernel
theorem dX4_cellAtOddsWith_4 : decode cX4_cellAtOddsWith 4 = .ok (.getfield 43, 3) := by decide +kernel
theorem dX4_cellAtOddsWith_7 : decode cX4_cellAtOddsWith 7 = .ok (.arraylength, 1) := by decide +kernel
theorem dX4_cellAtOddsWith_8 : decode cX4_cellAtOddsWith 8 = .ok (.if_icmp .ge 63, 3) := by decide +kernel
theorem dX4_cellAtOddsWith_11 : decode cX4_cellAtOddsWith 11 = .ok (.iconst 0, 1) := by decide +kernel
theorem dX4_cellAtOddsWith_12 : decode cX4_cellAtOddsWith 12 = .ok (.istore_n 3, 1) := by decide +kernel
theorem dX4_cellAtOddsWith_13 : decode cX4_cellAtOddsWith 13 = .ok (.iload_n 3, 1) := by decide +kernel
theorem dX4_cellAtOddsWith_14 : decode cX4_cellAtOddsWith 14 = .ok (.aload_n 1, 1) := by decide +kernel
theorem dX4_cellAtOddsWith_15 : decode cX4_cellAtOddsWith 15 = .ok (.getfield 43, 3) := by decide +kernel
theorem dX4_cellAtOddsWith_18 : decode cX4_cellAtOddsWith 18 = .ok (.arraylength, 1) := by decide +kernel
theorem dX4_cellAtOddsWith_19 : decode cX4_cellAtOddsWith 19 = .ok (.if_icmp .ge 46, 3) := by decide +kernel
theorem dX4_cellAtOddsWith_22 : decode cX4_cellAtOddsWith 22 = .ok (.aload_n 0, 1) := by decide +kernel
theorem dX4_cellAtOddsWith_23 : decode cX4_cellAtOddsWith 23 = .ok (.getfield 39, 3) := by decide +kernel
theorem dX4_cellAtOddsWith_26 : decode cX4_cellAtOddsWith 26 = .ok (.iload_n 2, 1) := by decide +kernel
theorem dX4_cellAtOddsWith_27 : decode cX4_cellAtOddsWith 27 = .ok (.iaload, 1) := by decide +kernel
theorem dX4_cellAtOddsWith_28 : decode cX4_cellAtOddsWith 28 = .ok (.aload_n 1, 1) := by decide +kernel
theorem dX4_cellAtOddsWith_29 : decode cX4_cellAtOddsWith 29 = .ok (.getfield 39, 3) := by decide +kernel
theorem dX4_cellAtOddsWith_32 : decode cX4_cellAtOddsWith 32 = .ok (.iload_n 3, 1) := by decide +kernel
theorem dX4_cellAtOddsWith_33 : decode cX4_cellAtOddsWith 33 = .ok (.iaload, 1) := by decide +kernel
theorem dX4_cellAtOddsWith_34 : decode cX4_cellAtOddsWith 34 = .ok (.if_icmp .ne 25, 3) := by decide +kernel
theorem dX4_cellAtOddsWith_37 : decode cX4_cellAtOddsWith 37 = .ok (.aload_n 0, 1) := by decide +kernel
theorem dX4_cellAtOddsWith_38 : decode cX4_cellAtOddsWith 38 = .ok (.getfield 43, 3) := by decide +kernel
theorem dX4_cellAtOddsWith_41 : decode cX4_cellAtOddsWith 41 = .ok (.iload_n 2, 1) := by decide +kernel
theorem dX4_cellAtOddsWith_42 : decode cX4_cellAtOddsWith 42 = .ok (.iaload, 1) := by decide +kernel
theorem dX4_cellAtOddsWith_43 : decode cX4_cellAtOddsWith 43 = .ok (.aload_n 1, 1) := by decide +kernel
theorem dX4_cellAtOddsWith_44 : decode cX4_cellAtOddsWith 44 = .ok (.getfield 43, 3) := by decide +kernel
theorem dX4_cellAtOddsWith_47 : decode cX4_cellAtOddsWith 47 = .ok (.iload_n 3, 1) := by decide +kernel
theorem dX4_cellAtOddsWith_48 : decode cX4_cellAtOddsWith 48 = .ok (.iaload, 1) := by decide +kernel
theorem dX4_cellAtOddsWith_49 : decode cX4_cellAtOddsWith 49 = .ok (.if_icmp .eq 10, 3) := by decide +kernel
theorem dX4_cellAtOddsWith_52 : decode cX4_cellAtOddsWith 52 = .ok (.aload_n 0, 1) := by decide +kernel
theorem dX4_cellAtOddsWith_53 : decode cX4_cellAtOddsWith 53 = .ok (.getfield 39, 3) := by decide +kernel
theorem dX4_cellAtOddsWith_56 : decode cX4_cellAtOddsWith 56 = .ok (.iload_n 2, 1) := by decide +kernel
theorem dX4_cellAtOddsWith_57 : decode cX4_cellAtOddsWith 57 = .ok (.iaload, 1) := by decide +kernel
theorem dX4_cellAtOddsWith_58 : decode cX4_cellAtOddsWith 58 = .ok (.ireturn, 1) := by decide +kernel
theorem dX4_cellAtOddsWith_59 : decode cX4_cellAtOddsWith 59 = .ok (.iinc 3 1, 3) := by decide +kernel
theorem dX4_cellAtOddsWith_62 : decode cX4_cellAtOddsWith 62 = .ok (.goto (-49), 3) := by decide +kernel
theorem dX4_cellAtOddsWith_65 : decode cX4_cellAtOddsWith 65 = .ok (.iinc 2 1, 3) := by decide +kernel
theorem dX4_cellAtOddsWith_68 : decode cX4_cellAtOddsWith 68 = .ok (.goto (-66), 3) := by decide +kernel
theorem dX4_cellAtOddsWith_71 : decode cX4_cellAtOddsWith 71 = .ok (.bipush (-5), 2) := by decide +kernel
theorem dX4_cellAtOddsWith_73 : decode cX4_cellAtOddsWith 73 = .ok (.ireturn, 1) := by decide +kernel
theorem dX5_init_0 : decode cX5_init 0 = .ok (.aload_n 0, 1) := by decide +kernel
theorem dX5_init_1 : decode cX5_init 1 = .ok (.invokespecial 3, 3) := by decide +kernel
theorem dX5_init_4 : decode cX5_init 4 = .ok (.aload_n 0, 1) := by decide +kernel
theorem dX5_init_5 : decode cX5_init 5 = .ok (.bipush 60, 2) := by decide +kernel
theorem dX5_init_7 : decode cX5_init 7 = .ok (.anewarray 9, 3) := by decide +kernel
theorem dX5_init_10 : decode cX5_init 10 = .ok (.putfield 11, 3) := by decide +kernel
theorem dX5_init_13 : decode cX5_init 13 = .ok (.aload_n 0, 1) := by decide +kernel
theorem dX5_init_14 : decode cX5_init 14 = .ok (.bipush 60, 2) := by decide +kernel
theorem dX5_init_16 : decode cX5_init 16 = .ok (.newarray .long, 2) := by decide +kernel
theorem dX5_init_18 : decode cX5_init 18 = .ok (.putfield 17, 3) := by decide +kernel
theorem dX5_init_21 : decode cX5_init 21 = .ok (.aload_n 0, 1) := by decide +kernel
theorem dX5_init_22 : decode cX5_init 22 = .ok (.bipush 60, 2) := by decide +kernel
theorem dX5_init_24 : decode cX5_init 24 = .ok (.newarray .int, 2) := by decide +kernel
theorem dX5_init_26 : decode cX5_init 26 = .ok (.putfield 21, 3) := by decide +kernel
theorem dX5_init_29 : decode cX5_init 29 = .ok (.aload_n 0, 1) := by decide +kernel
theorem dX5_init_30 : decode cX5_init 30 = .ok (.bipush 60, 2) := by decide +kernel
theorem dX5_init_32 : decode cX5_init 32 = .ok (.newarray .int, 2) := by decide +kernel
theorem dX5_init_34 : decode cX5_init 34 = .ok (.putfield 25, 3) := by decide +kernel
theorem dX5_init_37 : decode cX5_init 37 = .ok (.aload_n 0, 1) := by decide +kernel
theorem dX5_init_38 : decode cX5_init 38 = .ok (.bipush 60, 2) := by decide +kernel
theorem dX5_init_40 : decode cX5_init 40 = .ok (.newarray .int, 2) := by decide +kernel
theorem dX5_init_42 : decode cX5_init 42 = .ok (.putfield 28, 3) := by decide +kernel
theorem dX5_init_45 : decode cX5_init 45 = .ok (.aload_n 0, 1) := by decide +kernel
theorem dX5_init_46 : decode cX5_init 46 = .ok (.bipush 60, 2) := by decide +kernel
theorem dX5_init_48 : decode cX5_init 48 = .ok (.newarray .int, 2) := by decide +kernel
theorem dX5_init_50 : decode cX5_init 50 = .ok (.putfield 31, 3) := by decide +kernel
theorem dX5_init_53 : decode cX5_init 53 = .ok (.return_, 1) := by decide +kernel
theorem dX5_become_0 : decode cX5_become 0 = .ok (.iconst 0, 1) := by decide +kernel
theorem dX5_become_1 : decode cX5_become 1 = .ok (.istore_n 2, 1) := by decide +kernel
theorem dX5_become_2 : decode cX5_become 2 = .ok (.iload_n 2, 1) := by decide +kernel
theorem dX5_become_3 : decode cX5_become 3 = .ok (.bipush 60, 2) := by decide +kernel
theorem dX5_become_5 : decode cX5_become 5 = .ok (.if_icmp .ge 21, 3) := by decide +kernel
theorem dX5_become_8 : decode cX5_become 8 = .ok (.aload_n 0, 1) := by decide +kernel
theorem dX5_become_9 : decode cX5_become 9 = .ok (.getfield 11, 3) := by decide +kernel
theorem dX5_become_12 : decode cX5_become 12 = .ok (.iload_n 2, 1) := by decide +kernel
theorem dX5_become_13 : decode cX5_become 13 = .ok (.aload_n 1, 1) := by decide +kernel
theorem dX5_become_14 : decode cX5_become 14 = .ok (.getfield 11, 3) := by decide +kernel
theorem dX5_become_17 : decode cX5_become 17 = .ok (.iload_n 2, 1) := by decide +kernel
theorem dX5_become_18 : decode cX5_become 18 = .ok (.aaload, 1) := by decide +kernel
theorem dX5_become_19 : decode cX5_become 19 = .ok (.aastore, 1) := by decide +kernel
theorem dX5_become_20 : decode cX5_become 20 = .ok (.iinc 2 1, 3) := by decide +kernel
theorem dX5_become_23 : decode cX5_become 23 = .ok (.goto (-21), 3) := by decide +kernel
theorem dX5_become_26 : decode cX5_become 26 = .ok (.aload_n 1, 1) := by decide +kernel
theorem dX5_become_27 : decode cX5_become 27 = .ok (.getfield 17, 3) := by decide +kernel
theorem dX5_become_30 : decode cX5_become 30 = .ok (.iconst 0, 1) := by decide +kernel
theorem dX5_become_31 : decode cX5_become 31 = .ok (.aload_n 0, 1) := by decide +kernel
theorem dX5_become_32 : decode cX5_become 32 = .ok (.getfield 17, 3) := by decide +kernel
theorem dX5_become_35 : decode cX5_become 35 = .ok (.iconst 0, 1) := by decide +kernel
theorem dX5_become_36 : decode cX5_become 36 = .ok (.bipush 60, 2) := by decide +kernel
theorem dX5_become_38 : decode cX5_become 38 = .ok (.invokestatic 34, 3) := by decide +kernel
theorem dX5_become_41 : decode cX5_become 41 = .ok (.aload_n 1, 1) := by decide +kernel
theorem dX5_become_42 : decode cX5_become 42 = .ok (.getfield 21, 3) := by decide +kernel
theorem dX5_become_45 : decode cX5_become 45 = .ok (.iconst 0, 1) := by decide +kernel
theorem dX5_become_46 : decode cX5_become 46 = .ok (.aload_n 0, 1) := by decide +kernel
theorem dX5_become_47 : decode cX5_become 47 = .ok (.getfield 21, 3) := by decide +kernel
theorem dX5_become_50 : decode cX5_become 50 = .ok (.iconst 0, 1) := by decide +kernel
theorem dX5_become_51 : decode cX5_become 51 = .ok (.bipush 60, 2) := by decide +kernel
theorem dX5_become_53 : decode cX5_become 53 = .ok (.invokestatic 34, 3) := by decide +kernel
theorem dX5_become_56 : decode cX5_become 56 = .ok (.aload_n 1, 1) := by decide +kernel
theorem dX5_become_57 : decode cX5_become 57 = .ok (.getfield 25, 3) := by decide +kernel
theorem dX5_become_60 : decode cX5_become 60 = .ok (.iconst 0, 1) := by decide +kernel
theorem dX5_become_61 : decode cX5_become 61 = .ok (.aload_n 0, 1) := by decide +kernel
theorem dX5_become_62 : decode cX5_become 62 = .ok (.getfield 25, 3) := by decide +kernel
theorem dX5_become_65 : decode cX5_become 65 = .ok (.iconst 0, 1) := by decide +kernel
theorem dX5_become_66 : decode cX5_become 66 = .ok (.bipush 60, 2) := by decide +kernel
theorem dX5_become_68 : decode cX5_become 68 = .ok (.invokestatic 34, 3) := by decide +kernel
theorem dX5_become_71 : decode cX5_become 71 = .ok (.aload_n 1, 1) := by decide +kernel
theorem dX5_become_72 : decode cX5_become 72 = .ok (.getfield 28, 3) := by decide +kernel
theorem dX5_become_75 : decode cX5_become 75 = .ok (.iconst 0, 1) := by decide +kernel
theorem dX5_become_76 : decode cX5_become 76 = .ok (.aload_n 0, 1) := by decide +kernel
theorem dX5_become_77 : decode cX5_become 77 = .ok (.getfield 28, 3) := by decide +kernel
theorem dX5_become_80 : decode cX5_become 80 = .ok (.iconst 0, 1) := by decide +kernel
theorem dX5_become_81 : decode cX5_become 81 = .ok (.bipush 60, 2) := by decide +kernel
theorem dX5_become_83 : decode cX5_become 83 = .ok (.invokestatic 34, 3) := by decide +kernel
theorem dX5_become_86 : decode cX5_become 86 = .ok (.aload_n 1, 1) := by decide +kernel
theorem dX5_become_87 : decode cX5_become 87 = .ok (.getfield 31, 3) := by decide +kernel
theorem dX5_become_90 : decode cX5_become 90 = .ok (.iconst 0, 1) := by decide +kernel
theorem dX5_become_91 : decode cX5_become 91 = .ok (.aload_n 0, 1) := by decide +kernel
theorem dX5_become_92 : decode cX5_become 92 = .ok (.getfield 31, 3) := by decide +kernel
theorem dX5_become_95 : decode cX5_become 95 = .ok (.iconst 0, 1) := by decide +kernel
theorem dX5_become_96 : decode cX5_become 96 = .ok (.bipush 60, 2) := by decide +kernel
theorem dX5_become_98 : decode cX5_become 98 = .ok (.invokestatic 34, 3) := by decide +kernel
theorem dX5_become_101 : decode cX5_become 101 = .ok (.aload_n 0, 1) := by decide +kernel
theorem dX5_become_102 : decode cX5_become 102 = .ok (.aload_n 1, 1) := by decide +kernel
theorem dX5_become_103 : decode cX5_become 103 = .ok (.getfield 40, 3) := by decide +kernel
theorem dX5_become_106 : decode cX5_become 106 = .ok (.putfield 40, 3) := by decide +kernel
theorem dX5_become_109 : decode cX5_become 109 = .ok (.aload_n 0, 1) := by decide +kernel
theorem dX5_become_110 : decode cX5_become 110 = .ok (.aload_n 1, 1) := by decide +kernel
theorem dX5_become_111 : decode cX5_become 111 = .ok (.getfield 44, 3) := by decide +kernel
theorem dX5_become_114 : decode cX5_become 114 = .ok (.putfield 44, 3) := by decide +kernel
theorem dX5_become_117 : decode cX5_become 117 = .ok (.aload_n 0, 1) := by decide +kernel
theorem dX5_become_118 : decode cX5_become 118 = .ok (.aload_n 1, 1) := by decide +kernel
theorem dX5_become_119 : decode cX5_become 119 = .ok (.getfield 48, 3) := by decide +kernel
theorem dX5_become_122 : decode cX5_become 122 = .ok (.putfield 48, 3) := by decide +kernel
theorem dX5_become_125 : decode cX5_become 125 = .ok (.aload_n 0, 1) := by decide +kernel
theorem dX5_become_126 : decode cX5_become 126 = .ok (.aload_n 1, 1) := by decide +kernel
theorem dX5_become_127 : decode cX5_become 127 = .ok (.getfield 51, 3) := by decide +kernel
theorem dX5_become_130 : decode cX5_become 130 = .ok (.putfield 51, 3) := by decide +kernel
theorem dX5_become_133 : decode cX5_become 133 = .ok (.return_, 1) := by decide +kernel
theorem dX5_isFull_0 : decode cX5_isFull 0 = .ok (.aload_n 0, 1) := by decide +kernel
theorem dX5_isFull_1 : decode cX5_isFull 1 = .ok (.getfield 44, 3) := by decide +kernel
theorem dX5_isFull_4 : decode cX5_isFull 4 = .ok (.bipush 60, 2) := by decide +kernel
theorem dX5_isFull_6 : decode cX5_isFull 6 = .ok (.if_icmp .lt 7, 3) := by decide +kernel
theorem dX5_isFull_9 : decode cX5_isFull 9 = .ok (.iconst 1, 1) := by decide +kernel
theorem dX5_isFull_10 : decode cX5_isFull 10 = .ok (.goto 4, 3) := by decide +kernel
theorem dX5_isFull_13 : decode cX5_isFull 13 = .ok (.iconst 0, 1) := by decide +kernel
theorem dX5_isFull_14 : decode cX5_isFull 14 = .ok (.ireturn, 1) := by decide +kernel
theorem dX5_file_0 : decode cX5_file 0 = .ok (.aload_n 0, 1) := by decide +kernel
theorem dX5_file_1 : decode cX5_file 1 = .ok (.invokevirtual 54, 3) := by decide +kernel
theorem dX5_file_4 : decode cX5_file 4 = .ok (.ifCond .eq 6, 3) := by decide +kernel
theorem dX5_file_7 : decode cX5_file 7 = .ok (.bipush (-4), 2) := by decide +kernel
theorem dX5_file_9 : decode cX5_file 9 = .ok (.ireturn, 1) := by decide +kernel
theorem dX5_file_10 : decode cX5_file 10 = .ok (.aload_n 0, 1) := by decide +kernel
theorem dX5_file_11 : decode cX5_file 11 = .ok (.getfield 44, 3) := by decide +kernel
theorem dX5_file_14 : decode cX5_file 14 = .ok (.istore_n 2, 1) := by decide +kernel
theorem dX5_file_15 : decode cX5_file 15 = .ok (.aload_n 0, 1) := by decide +kernel
theorem dX5_file_16 : decode cX5_file 16 = .ok (.getfield 11, 3) := by decide +kernel
theorem dX5_file_19 : decode cX5_file 19 = .ok (.iload_n 2, 1) := by decide +kernel
theorem dX5_file_20 : decode cX5_file 20 = .ok (.aload_n 1, 1) := by decide +kernel
theorem dX5_file_21 : decode cX5_file 21 = .ok (.aastore, 1) := by decide +kernel
theorem dX5_file_22 : decode cX5_file 22 = .ok (.aload_n 0, 1) := by decide +kernel
theorem dX5_file_23 : decode cX5_file 23 = .ok (.getfield 17, 3) := by decide +kernel
theorem dX5_file_26 : decode cX5_file 26 = .ok (.iload_n 2, 1) := by decide +kernel
theorem dX5_file_27 : decode cX5_file 27 = .ok (.lconst 0, 1) := by decide +kernel
theorem dX5_file_28 : decode cX5_file 28 = .ok (.lastore, 1) := by decide +kernel
theorem dX5_file_29 : decode cX5_file 29 = .ok (.aload_n 0, 1) := by decide +kernel
theorem dX5_file_30 : decode cX5_file 30 = .ok (.getfield 21, 3) := by decide +kernel
theorem dX5_file_33 : decode cX5_file 33 = .ok (.iload_n 2, 1) := by decide +kernel
theorem dX5_file_34 : decode cX5_file 34 = .ok (.iconst 0, 1) := by decide +kernel
theorem dX5_file_35 : decode cX5_file 35 = .ok (.iastore, 1) := by decide +kernel
theorem dX5_file_36 : decode cX5_file 36 = .ok (.aload_n 0, 1) := by decide +kernel
theorem dX5_file_37 : decode cX5_file 37 = .ok (.getfield 25, 3) := by decide +kernel
theorem dX5_file_40 : decode cX5_file 40 = .ok (.iload_n 2, 1) := by decide +kernel
theorem dX5_file_41 : decode cX5_file 41 = .ok (.bipush (-5), 2) := by decide +kernel
theorem dX5_file_43 : decode cX5_file 43 = .ok (.iastore, 1) := by decide +kernel
theorem dX5_file_44 : decode cX5_file 44 = .ok (.aload_n 0, 1) := by decide +kernel
theorem dX5_file_45 : decode cX5_file 45 = .ok (.getfield 28, 3) := by decide +kernel
theorem dX5_file_48 : decode cX5_file 48 = .ok (.iload_n 2, 1) := by decide +kernel
theorem dX5_file_49 : decode cX5_file 49 = .ok (.iconst 0, 1) := by decide +kernel
theorem dX5_file_50 : decode cX5_file 50 = .ok (.iastore, 1) := by decide +kernel
theorem dX5_file_51 : decode cX5_file 51 = .ok (.aload_n 0, 1) := by decide +kernel
theorem dX5_file_52 : decode cX5_file 52 = .ok (.getfield 31, 3) := by decide +kernel
theorem dX5_file_55 : decode cX5_file 55 = .ok (.iload_n 2, 1) := by decide +kernel
theorem dX5_file_56 : decode cX5_file 56 = .ok (.iconst 0, 1) := by decide +kernel
theorem dX5_file_57 : decode cX5_file 57 = .ok (.iastore, 1) := by decide +kernel
theorem dX5_file_58 : decode cX5_file 58 = .ok (.aload_n 0, 1) := by decide +kernel
theorem dX5_file_59 : decode cX5_file 59 = .ok (.dup, 1) := by decide +kernel
theorem dX5_file_60 : decode cX5_file 60 = .ok (.getfield 44, 3) := by decide +kernel
theorem dX5_file_63 : decode cX5_file 63 = .ok (.iconst 1, 1) := by decide +kernel
theorem dX5_file_64 : decode cX5_file 64 = .ok (.iadd, 1) := by decide +kernel
theorem dX5_file_65 : decode cX5_file 65 = .ok (.putfield 44, 3) := by decide +kernel
theorem dX5_file_68 : decode cX5_file 68 = .ok (.aload_n 1, 1) := by decide +kernel
theorem dX5_file_69 : decode cX5_file 69 = .ok (.getfield 58, 3) := by decide +kernel
theorem dX5_file_72 : decode cX5_file 72 = .ok (.iconst 1, 1) := by decide +kernel
theorem dX5_file_73 : decode cX5_file 73 = .ok (.if_icmp .ne 13, 3) := by decide +kernel
theorem dX5_file_76 : decode cX5_file 76 = .ok (.aload_n 0, 1) := by decide +kernel
theorem dX5_file_77 : decode cX5_file 77 = .ok (.dup, 1) := by decide +kernel
theorem dX5_file_78 : decode cX5_file 78 = .ok (.getfield 48, 3) := by decide +kernel
theorem dX5_file_81 : decode cX5_file 81 = .ok (.iconst 1, 1) := by decide +kernel
theorem dX5_file_82 : decode cX5_file 82 = .ok (.iadd, 1) := by decide +kernel
theorem dX5_file_83 : decode cX5_file 83 = .ok (.putfield 48, 3) := by decide +kernel
theorem dX5_file_86 : decode cX5_file 86 = .ok (.iload_n 2, 1) := by decide +kernel
theorem dX5_file_87 : decode cX5_file 87 = .ok (.ireturn, 1) := by decide +kernel
theorem dX5_get_0 : decode cX5_get 0 = .ok (.iload_n 1, 1) := by decide +kernel
theorem dX5_get_1 : decode cX5_get 1 = .ok (.i2l, 1) := by decide +kernel
theorem dX5_get_2 : decode cX5_get 2 = .ok (.iconst 0, 1) := by decide +kernel
theorem dX5_get_3 : decode cX5_get 3 = .ok (.aload_n 0, 1) := by decide +kernel
theorem dX5_get_4 : decode cX5_get 4 = .ok (.getfield 44, 3) := by decide +kernel
theorem dX5_get_7 : decode cX5_get 7 = .ok (.iconst 1, 1) := by decide +kernel
theorem dX5_get_8 : decode cX5_get 8 = .ok (.isub, 1) := by decide +kernel
theorem dX5_get_9 : decode cX5_get 9 = .ok (.invokestatic 61, 3) := by decide +kernel
theorem dX5_get_12 : decode cX5_get 12 = .ok (.ifCond .eq 12, 3) := by decide +kernel
theorem dX5_get_15 : decode cX5_get 15 = .ok (.aload_n 0, 1) := by decide +kernel
theorem dX5_get_16 : decode cX5_get 16 = .ok (.getfield 11, 3) := by decide +kernel
theorem dX5_get_19 : decode cX5_get 19 = .ok (.iload_n 1, 1) := by decide +kernel
theorem dX5_get_20 : decode cX5_get 20 = .ok (.aaload, 1) := by decide +kernel
theorem dX5_get_21 : decode cX5_get 21 = .ok (.goto 4, 3) := by decide +kernel
theorem dX5_get_24 : decode cX5_get 24 = .ok (.aconst_null, 1) := by decide +kernel
theorem dX5_get_25 : decode cX5_get 25 = .ok (.areturn, 1) := by decide +kernel
theorem dX5_find_0 : decode cX5_find 0 = .ok (.aload_n 0, 1) := by decide +kernel
theorem dX5_find_1 : decode cX5_find 1 = .ok (.iload_n 1, 1) := by decide +kernel
theorem dX5_find_2 : decode cX5_find 2 = .ok (.invokevirtual 65, 3) := by decide +kernel
theorem dX5_find_5 : decode cX5_find 5 = .ok (.astore_n 3, 1) := by decide +kernel
theorem dX5_find_6 : decode cX5_find 6 = .ok (.aload_n 3, 1) := by decide +kernel
theorem dX5_find_7 : decode cX5_find 7 = .ok (.ifnull 15, 3) := by decide +kernel
theorem dX5_find_10 : decode cX5_find 10 = .ok (.aload_n 3, 1) := by decide +kernel
theorem dX5_find_11 : decode cX5_find 11 = .ok (.getfield 58, 3) := by decide +kernel
theorem dX5_find_14 : decode cX5_find 14 = .ok (.iload_n 2, 1) := by decide +kernel
theorem dX5_find_15 : decode cX5_find 15 = .ok (.if_icmp .ne 7, 3) := by decide +kernel
theorem dX5_find_18 : decode cX5_find 18 = .ok (.aload_n 3, 1) := by decide +kernel
theorem dX5_find_19 : decode cX5_find 19 = .ok (.goto 4, 3) := by decide +kernel
theorem dX5_find_22 : decode cX5_find 22 = .ok (.aconst_null, 1) := by decide +kernel
theorem dX5_find_23 : decode cX5_find 23 = .ok (.areturn, 1) := by decide +kernel
theorem dX5_mark_0 : decode cX5_mark 0 = .ok (.aload_n 0, 1) := by decide +kernel
theorem dX5_mark_1 : decode cX5_mark 1 = .ok (.dup, 1) := by decide +kernel
theorem dX5_mark_2 : decode cX5_mark 2 = .ok (.getfield 40, 3) := by decide +kernel
theorem dX5_mark_5 : decode cX5_mark 5 = .ok (.lconst 1, 1) := by decide +kernel
theorem dX5_mark_6 : decode cX5_mark 6 = .ok (.iload_n 1, 1) := by decide +kernel
theorem dX5_mark_7 : decode cX5_mark 7 = .ok (.lshl, 1) := by decide +kernel
theorem dX5_mark_8 : decode cX5_mark 8 = .ok (.lor, 1) := by decide +kernel
theorem dX5_mark_9 : decode cX5_mark 9 = .ok (.putfield 40, 3) := by decide +kernel
theorem dX5_mark_12 : decode cX5_mark 12 = .ok (.return_, 1) := by decide +kernel
theorem dX5_isMarked_0 : decode cX5_isMarked 0 = .ok (.aload_n 0, 1) := by decide +kernel
theorem dX5_isMarked_1 : decode cX5_isMarked 1 = .ok (.getfield 40, 3) := by decide +kernel
theorem dX5_isMarked_4 : decode cX5_isMarked 4 = .ok (.iload_n 1, 1) := by decide +kernel
theorem dX5_isMarked_5 : decode cX5_isMarked 5 = .ok (.lshr, 1) := by decide +kernel
theorem dX5_isMarked_6 : decode cX5_isMarked 6 = .ok (.lconst 1, 1) := by decide +kernel
theorem dX5_isMarked_7 : decode cX5_isMarked 7 = .ok (.land, 1) := by decide +kernel
theorem dX5_isMarked_8 : decode cX5_isMarked 8 = .ok (.lconst 0, 1) := by decide +kernel
theorem dX5_isMarked_9 : decode cX5_isMarked 9 = .ok (.lcmp, 1) := by decide +kernel
theorem dX5_isMarked_10 : decode cX5_isMarked 10 = .ok (.ifCond .eq 7, 3) := by decide +kernel
theorem dX5_isMarked_13 : decode cX5_isMarked 13 = .ok (.iconst 1, 1) := by decide +kernel
theorem dX5_isMarked_14 : decode cX5_isMarked 14 = .ok (.goto 4, 3) := by decide +kernel
theorem dX5_isMarked_17 : decode cX5_isMarked 17 = .ok (.iconst 0, 1) := by decide +kernel
theorem dX5_isMarked_18 : decode cX5_isMarked 18 = .ok (.ireturn, 1) := by decide +kernel
theorem dX5_isGranted_0 : decode cX5_isGranted 0 = .ok (.aload_n 0, 1) := by decide +kernel
theorem dX5_isGranted_1 : decode cX5_isGranted 1 = .ok (.iload_n 1, 1) := by decide +kernel
theorem dX5_isGranted_2 : decode cX5_isGranted 2 = .ok (.invokevirtual 69, 3) := by decide +kernel
theorem dX5_isGranted_5 : decode cX5_isGranted 5 = .ok (.ifCond .eq 16, 3) := by decide +kernel
theorem dX5_isGranted_8 : decode cX5_isGranted 8 = .ok (.aload_n 0, 1) := by decide +kernel
theorem dX5_isGranted_9 : decode cX5_isGranted 9 = .ok (.iload_n 1, 1) := by decide +kernel
theorem dX5_isGranted_10 : decode cX5_isGranted 10 = .ok (.iconst 3, 1) := by decide +kernel
theorem dX5_isGranted_11 : decode cX5_isGranted 11 = .ok (.invokevirtual 73, 3) := by decide +kernel
theorem dX5_isGranted_14 : decode cX5_isGranted 14 = .ok (.ifnull 7, 3) := by decide +kernel
theorem dX5_isGranted_17 : decode cX5_isGranted 17 = .ok (.iconst 1, 1) := by decide +kernel
theorem dX5_isGranted_18 : decode cX5_isGranted 18 = .ok (.goto 4, 3) := by decide +kernel
theorem dX5_isGranted_21 : decode cX5_isGranted 21 = .ok (.iconst 0, 1) := by decide +kernel
theorem dX5_isGranted_22 : decode cX5_isGranted 22 = .ok (.ireturn, 1) := by decide +kernel
theorem dX5_isFallen_0 : decode cX5_isFallen 0 = .ok (.iconst 0, 1) := by decide +kernel
theorem dX5_isFallen_1 : decode cX5_isFallen 1 = .ok (.istore_n 2, 1) := by decide +kernel
theorem dX5_isFallen_2 : decode cX5_isFallen 2 = .ok (.iload_n 2, 1) := by decide +kernel
theorem dX5_isFallen_3 : decode cX5_isFallen 3 = .ok (.aload_n 0, 1) := by decide +kernel
theorem dX5_isFallen_4 : decode cX5_isFallen 4 = .ok (.getfield 44, 3) := by decide +kernel
theorem dX5_isFallen_7 : decode cX5_isFallen 7 = .ok (.if_icmp .ge 34, 3) := by decide +kernel
theorem dX5_isFallen_10 : decode cX5_isFallen 10 = .ok (.aload_n 0, 1) := by decide +kernel
theorem dX5_isFallen_11 : decode cX5_isFallen 11 = .ok (.iload_n 2, 1) := by decide +kernel
theorem dX5_isFallen_12 : decode cX5_isFallen 12 = .ok (.iconst 1, 1) := by decide +kernel
theorem dX5_isFallen_13 : decode cX5_isFallen 13 = .ok (.invokevirtual 73, 3) := by decide +kernel
theorem dX5_isFallen_16 : decode cX5_isFallen 16 = .ok (.astore_n 3, 1) := by decide +kernel
theorem dX5_isFallen_17 : decode cX5_isFallen 17 = .ok (.aload_n 3, 1) := by decide +kernel
theorem dX5_isFallen_18 : decode cX5_isFallen 18 = .ok (.ifnull 17, 3) := by decide +kernel
theorem dX5_isFallen_21 : decode cX5_isFallen 21 = .ok (.aload_n 3, 1) := by decide +kernel
theorem dX5_isFallen_22 : decode cX5_isFallen 22 = .ok (.getfield 77, 3) := by decide +kernel
theorem dX5_isFallen_25 : decode cX5_isFallen 25 = .ok (.iload_n 1, 1) := by decide +kernel
theorem dX5_isFallen_26 : decode cX5_isFallen 26 = .ok (.if_icmp .ne 9, 3) := by decide +kernel
theorem dX5_isFallen_29 : decode cX5_isFallen 29 = .ok (.aload_n 0, 1) := by decide +kernel
theorem dX5_isFallen_30 : decode cX5_isFallen 30 = .ok (.iload_n 2, 1) := by decide +kernel
theorem dX5_isFallen_31 : decode cX5_isFallen 31 = .ok (.invokevirtual 69, 3) := by decide +kernel
theorem dX5_isFallen_34 : decode cX5_isFallen 34 = .ok (.ireturn, 1) := by decide +kernel
theorem dX5_isFallen_35 : decode cX5_isFallen 35 = .ok (.iinc 2 1, 3) := by decide +kernel
theorem dX5_isFallen_38 : decode cX5_isFallen 38 = .ok (.goto (-36), 3) := by decide +kernel
theorem dX5_isFallen_41 : decode cX5_isFallen 41 = .ok (.iconst 0, 1) := by decide +kernel
theorem dX5_isFallen_42 : decode cX5_isFallen 42 = .ok (.ireturn, 1) := by decide +kernel
theorem dX5_granted_0 : decode cX5_granted 0 = .ok (.iconst 0, 1) := by decide +kernel
theorem dX5_granted_1 : decode cX5_granted 1 = .ok (.istore_n 1, 1) := by decide +kernel
theorem dX5_granted_2 : decode cX5_granted 2 = .ok (.iconst 0, 1) := by decide +kernel
theorem dX5_granted_3 : decode cX5_granted 3 = .ok (.istore_n 2, 1) := by decide +kernel
theorem dX5_granted_4 : decode cX5_granted 4 = .ok (.iload_n 2, 1) := by decide +kernel
theorem dX5_granted_5 : decode cX5_granted 5 = .ok (.aload_n 0, 1) := by decide +kernel
theorem dX5_granted_6 : decode cX5_granted 6 = .ok (.getfield 44, 3) := by decide +kernel
theorem dX5_granted_9 : decode cX5_granted 9 = .ok (.if_icmp .ge 20, 3) := by decide +kernel
theorem dX5_granted_12 : decode cX5_granted 12 = .ok (.aload_n 0, 1) := by decide +kernel
theorem dX5_granted_13 : decode cX5_granted 13 = .ok (.iload_n 2, 1) := by decide +kernel
theorem dX5_granted_14 : decode cX5_granted 14 = .ok (.invokevirtual 80, 3) := by decide +kernel
theorem dX5_granted_17 : decode cX5_granted 17 = .ok (.ifCond .eq 6, 3) := by decide +kernel
theorem dX5_granted_20 : decode cX5_granted 20 = .ok (.iinc 1 1, 3) := by decide +kernel
theorem dX5_granted_23 : decode cX5_granted 23 = .ok (.iinc 2 1, 3) := by decide +kernel
theorem dX5_granted_26 : decode cX5_granted 26 = .ok (.goto (-22), 3) := by decide +kernel
theorem dX5_granted_29 : decode cX5_granted 29 = .ok (.iload_n 1, 1) := by decide +kernel
theorem dX5_granted_30 : decode cX5_granted 30 = .ok (.ireturn, 1) := by decide +kernel
theorem dX5_finished_0 : decode cX5_finished 0 = .ok (.iconst 0, 1) := by decide +kernel
theorem dX5_finished_1 : decode cX5_finished 1 = .ok (.istore_n 1, 1) := by decide +kernel
theorem dX5_finished_2 : decode cX5_finished 2 = .ok (.iconst 0, 1) := by decide +kernel
theorem dX5_finished_3 : decode cX5_finished 3 = .ok (.istore_n 2, 1) := by decide +kernel
theorem dX5_finished_4 : decode cX5_finished 4 = .ok (.iload_n 2, 1) := by decide +kernel
theorem dX5_finished_5 : decode cX5_finished 5 = .ok (.aload_n 0, 1) := by decide +kernel
theorem dX5_finished_6 : decode cX5_finished 6 = .ok (.getfield 44, 3) := by decide +kernel
theorem dX5_finished_9 : decode cX5_finished 9 = .ok (.if_icmp .ge 23, 3) := by decide +kernel
theorem dX5_finished_12 : decode cX5_finished 12 = .ok (.aload_n 0, 1) := by decide +kernel
theorem dX5_finished_13 : decode cX5_finished 13 = .ok (.getfield 25, 3) := by decide +kernel
theorem dX5_finished_16 : decode cX5_finished 16 = .ok (.iload_n 2, 1) := by decide +kernel
theorem dX5_finished_17 : decode cX5_finished 17 = .ok (.iaload, 1) := by decide +kernel
theorem dX5_finished_18 : decode cX5_finished 18 = .ok (.bipush (-5), 2) := by decide +kernel
theorem dX5_finished_20 : decode cX5_finished 20 = .ok (.if_icmp .eq 6, 3) := by decide +kernel
theorem dX5_finished_23 : decode cX5_finished 23 = .ok (.iinc 1 1, 3) := by decide +kernel
theorem dX5_finished_26 : decode cX5_finished 26 = .ok (.iinc 2 1, 3) := by decide +kernel
theorem dX5_finished_29 : decode cX5_finished 29 = .ok (.goto (-25), 3) := by decide +kernel
theorem dX5_finished_32 : decode cX5_finished 32 = .ok (.iload_n 1, 1) := by decide +kernel
theorem dX5_finished_33 : decode cX5_finished 33 = .ok (.ireturn, 1) := by decide +kernel
theorem dX5_hasBill_0 : decode cX5_hasBill 0 = .ok (.iconst 0, 1) := by decide +kernel
theorem dX5_hasBill_1 : decode cX5_hasBill 1 = .ok (.istore_n 2, 1) := by decide +kernel
theorem dX5_hasBill_2 : decode cX5_hasBill 2 = .ok (.iload_n 2, 1) := by decide +kernel
theorem dX5_hasBill_3 : decode cX5_hasBill 3 = .ok (.aload_n 0, 1) := by decide +kernel
theorem dX5_hasBill_4 : decode cX5_hasBill 4 = .ok (.getfield 44, 3) := by decide +kernel
theorem dX5_hasBill_7 : decode cX5_hasBill 7 = .ok (.if_icmp .ge 30, 3) := by decide +kernel
theorem dX5_hasBill_10 : decode cX5_hasBill 10 = .ok (.aload_n 0, 1) := by decide +kernel
theorem dX5_hasBill_11 : decode cX5_hasBill 11 = .ok (.iload_n 2, 1) := by decide +kernel
theorem dX5_hasBill_12 : decode cX5_hasBill 12 = .ok (.iconst 3, 1) := by decide +kernel
theorem dX5_hasBill_13 : decode cX5_hasBill 13 = .ok (.invokevirtual 73, 3) := by decide +kernel
theorem dX5_hasBill_16 : decode cX5_hasBill 16 = .ok (.astore_n 3, 1) := by decide +kernel
theorem dX5_hasBill_17 : decode cX5_hasBill 17 = .ok (.aload_n 3, 1) := by decide +kernel
theorem dX5_hasBill_18 : decode cX5_hasBill 18 = .ok (.ifnull 13, 3) := by decide +kernel
theorem dX5_hasBill_21 : decode cX5_hasBill 21 = .ok (.aload_n 3, 1) := by decide +kernel
theorem dX5_hasBill_22 : decode cX5_hasBill 22 = .ok (.getfield 83, 3) := by decide +kernel
theorem dX5_hasBill_25 : decode cX5_hasBill 25 = .ok (.iload_n 1, 1) := by decide +kernel
theorem dX5_hasBill_26 : decode cX5_hasBill 26 = .ok (.if_icmp .ne 5, 3) := by decide +kernel
theorem dX5_hasBill_29 : decode cX5_hasBill 29 = .ok (.iconst 1, 1) := by decide +kernel
theorem dX5_hasBill_30 : decode cX5_hasBill 30 = .ok (.ireturn, 1) := by decide +kernel
theorem dX5_hasBill_31 : decode cX5_hasBill 31 = .ok (.iinc 2 1, 3) := by decide +kernel
theorem dX5_hasBill_34 : decode cX5_hasBill 34 = .ok (.goto (-32), 3) := by decide +kernel
theorem dX5_hasBill_37 : decode cX5_hasBill 37 = .ok (.iconst 0, 1) := by decide +kernel
theorem dX5_hasBill_38 : decode cX5_hasBill 38 = .ok (.ireturn, 1) := by decide +kernel
theorem dX5_latestCall_0 : decode cX5_latestCall 0 = .ok (.aload_n 0, 1) := by decide +kernel
theorem dX5_latestCall_1 : decode cX5_latestCall 1 = .ok (.getfield 44, 3) := by decide +kernel
theorem dX5_latestCall_4 : decode cX5_latestCall 4 = .ok (.iconst 1, 1) := by decide +kernel
theorem dX5_latestCall_5 : decode cX5_latestCall 5 = .ok (.isub, 1) := by decide +kernel
theorem dX5_latestCall_6 : decode cX5_latestCall 6 = .ok (.istore_n 2, 1) := by decide +kernel
theorem dX5_latestCall_7 : decode cX5_latestCall 7 = .ok (.iload_n 2, 1) := by decide +kernel
theorem dX5_latestCall_8 : decode cX5_latestCall 8 = .ok (.ifCond .lt 33, 3) := by decide +kernel
theorem dX5_latestCall_11 : decode cX5_latestCall 11 = .ok (.aload_n 0, 1) := by decide +kernel
theorem dX5_latestCall_12 : decode cX5_latestCall 12 = .ok (.iload_n 2, 1) := by decide +kernel
theorem dX5_latestCall_13 : decode cX5_latestCall 13 = .ok (.iconst 4, 1) := by decide +kernel
theorem dX5_latestCall_14 : decode cX5_latestCall 14 = .ok (.invokevirtual 73, 3) := by decide +kernel
theorem dX5_latestCall_17 : decode cX5_latestCall 17 = .ok (.astore_n 3, 1) := by decide +kernel
theorem dX5_latestCall_18 : decode cX5_latestCall 18 = .ok (.aload_n 3, 1) := by decide +kernel
theorem dX5_latestCall_19 : decode cX5_latestCall 19 = .ok (.ifnull 16, 3) := by decide +kernel
theorem dX5_latestCall_22 : decode cX5_latestCall 22 = .ok (.aload_n 3, 1) := by decide +kernel
theorem dX5_latestCall_23 : decode cX5_latestCall 23 = .ok (.getfield 83, 3) := by decide +kernel
theorem dX5_latestCall_26 : decode cX5_latestCall 26 = .ok (.iload_n 1, 1) := by decide +kernel
theorem dX5_latestCall_27 : decode cX5_latestCall 27 = .ok (.if_icmp .ne 8, 3) := by decide +kernel
theorem dX5_latestCall_30 : decode cX5_latestCall 30 = .ok (.aload_n 3, 1) := by decide +kernel
theorem dX5_latestCall_31 : decode cX5_latestCall 31 = .ok (.getfield 86, 3) := by decide +kernel
theorem dX5_latestCall_34 : decode cX5_latestCall 34 = .ok (.ireturn, 1) := by decide +kernel
theorem dX5_latestCall_35 : decode cX5_latestCall 35 = .ok (.iinc 2 (-1), 3) := by decide +kernel
theorem dX5_latestCall_38 : decode cX5_latestCall 38 = .ok (.goto (-31), 3) := by decide +kernel
theorem dX5_latestCall_41 : decode cX5_latestCall 41 = .ok (.iconst (-1), 1) := by decide +kernel
theorem dX5_latestCall_42 : decode cX5_latestCall 42 = .ok (.ireturn, 1) := by decide +kernel
theorem dX5_setAtBar_0 : decode cX5_setAtBar 0 = .ok (.aload_n 0, 1) := by decide +kernel
theorem dX5_setAtBar_1 : decode cX5_setAtBar 1 = .ok (.getfield 17, 3) := by decide +kernel
theorem dX5_setAtBar_4 : decode cX5_setAtBar 4 = .ok (.iload_n 1, 1) := by decide +kernel
theorem dX5_setAtBar_5 : decode cX5_setAtBar 5 = .ok (.laload, 1) := by decide +kernel
theorem dX5_setAtBar_6 : decode cX5_setAtBar 6 = .ok (.iload_n 2, 1) := by decide +kernel
theorem dX5_setAtBar_7 : decode cX5_setAtBar 7 = .ok (.lshr, 1) := by decide +kernel
theorem dX5_setAtBar_8 : decode cX5_setAtBar 8 = .ok (.lconst 1, 1) := by decide +kernel
theorem dX5_setAtBar_9 : decode cX5_setAtBar 9 = .ok (.land, 1) := by decide +kernel
theorem dX5_setAtBar_10 : decode cX5_setAtBar 10 = .ok (.lconst 0, 1) := by decide +kernel
theorem dX5_setAtBar_11 : decode cX5_setAtBar 11 = .ok (.lcmp, 1) := by decide +kernel
theorem dX5_setAtBar_12 : decode cX5_setAtBar 12 = .ok (.ifCond .eq 5, 3) := by decide +kernel
theorem dX5_setAtBar_15 : decode cX5_setAtBar 15 = .ok (.iconst 0, 1) := by decide +kernel
theorem dX5_setAtBar_16 : decode cX5_setAtBar 16 = .ok (.ireturn, 1) := by decide +kernel
theorem dX5_setAtBar_17 : decode cX5_setAtBar 17 = .ok (.aload_n 0, 1) := by decide +kernel
theorem dX5_setAtBar_18 : decode cX5_setAtBar 18 = .ok (.getfield 17, 3) := by decide +kernel
theorem dX5_setAtBar_21 : decode cX5_setAtBar 21 = .ok (.iload_n 1, 1) := by decide +kernel
theorem dX5_setAtBar_22 : decode cX5_setAtBar 22 = .ok (.dup2, 1) := by decide +kernel
theorem dX5_setAtBar_23 : decode cX5_setAtBar 23 = .ok (.laload, 1) := by decide +kernel
theorem dX5_setAtBar_24 : decode cX5_setAtBar 24 = .ok (.lconst 1, 1) := by decide +kernel
theorem dX5_setAtBar_25 : decode cX5_setAtBar 25 = .ok (.iload_n 2, 1) := by decide +kernel
theorem dX5_setAtBar_26 : decode cX5_setAtBar 26 = .ok (.lshl, 1) := by decide +kernel
theorem dX5_setAtBar_27 : decode cX5_setAtBar 27 = .ok (.lor, 1) := by decide +kernel
theorem dX5_setAtBar_28 : decode cX5_setAtBar 28 = .ok (.lastore, 1) := by decide +kernel
theorem dX5_setAtBar_29 : decode cX5_setAtBar 29 = .ok (.aload_n 0, 1) := by decide +kernel
theorem dX5_setAtBar_30 : decode cX5_setAtBar 30 = .ok (.getfield 17, 3) := by decide +kernel
theorem dX5_setAtBar_33 : decode cX5_setAtBar 33 = .ok (.iload_n 2, 1) := by decide +kernel
theorem dX5_setAtBar_34 : decode cX5_setAtBar 34 = .ok (.dup2, 1) := by decide +kernel
theorem dX5_setAtBar_35 : decode cX5_setAtBar 35 = .ok (.laload, 1) := by decide +kernel
theorem dX5_setAtBar_36 : decode cX5_setAtBar 36 = .ok (.lconst 1, 1) := by decide +kernel
theorem dX5_setAtBar_37 : decode cX5_setAtBar 37 = .ok (.iload_n 1, 1) := by decide +kernel
theorem dX5_setAtBar_38 : decode cX5_setAtBar 38 = .ok (.lshl, 1) := by decide +kernel
theorem dX5_setAtBar_39 : decode cX5_setAtBar 39 = .ok (.lor, 1) := by decide +kernel
theorem dX5_setAtBar_40 : decode cX5_setAtBar 40 = .ok (.lastore, 1) := by decide +kernel
theorem dX5_setAtBar_41 : decode cX5_setAtBar 41 = .ok (.iconst 1, 1) := by decide +kernel
theorem dX5_setAtBar_42 : decode cX5_setAtBar 42 = .ok (.ireturn, 1) := by decide +kernel
theorem dX5_isBarred_0 : decode cX5_isBarred 0 = .ok (.aload_n 0, 1) := by decide +kernel
theorem dX5_isBarred_1 : decode cX5_isBarred 1 = .ok (.getfield 17, 3) := by decide +kernel
theorem dX5_isBarred_4 : decode cX5_isBarred 4 = .ok (.iload_n 1, 1) := by decide +kernel
theorem dX5_isBarred_5 : decode cX5_isBarred 5 = .ok (.laload, 1) := by decide +kernel
theorem dX5_isBarred_6 : decode cX5_isBarred 6 = .ok (.aload_n 0, 1) := by decide +kernel
theorem dX5_isBarred_7 : decode cX5_isBarred 7 = .ok (.getfield 40, 3) := by decide +kernel
theorem dX5_isBarred_10 : decode cX5_isBarred 10 = .ok (.land, 1) := by decide +kernel
theorem dX5_isBarred_11 : decode cX5_isBarred 11 = .ok (.lconst 0, 1) := by decide +kernel
theorem dX5_isBarred_12 : decode cX5_isBarred 12 = .ok (.lcmp, 1) := by decide +kernel
theorem dX5_isBarred_13 : decode cX5_isBarred 13 = .ok (.ifCond .eq 7, 3) := by decide +kernel
theorem dX5_isBarred_16 : decode cX5_isBarred 16 = .ok (.iconst 1, 1) := by decide +kernel
theorem dX5_isBarred_17 : decode cX5_isBarred 17 = .ok (.goto 4, 3) := by decide +kernel
theorem dX5_isBarred_20 : decode cX5_isBarred 20 = .ok (.iconst 0, 1) := by decide +kernel
theorem dX5_isBarred_21 : decode cX5_isBarred 21 = .ok (.ireturn, 1) := by decide +kernel
theorem dX5_worthOf_0 : decode cX5_worthOf 0 = .ok (.aload_n 1, 1) := by decide +kernel
theorem dX5_worthOf_1 : decode cX5_worthOf 1 = .ok (.getfield 58, 3) := by decide +kernel
theorem dX5_worthOf_4 : decode cX5_worthOf 4 = .ok (.tableswitch 85 1 5 #[36, 44, 50, 65, 73], 36) := by decide +kernel
theorem dX5_worthOf_40 : decode cX5_worthOf 40 = .ok (.bipush 10, 2) := by decide +kernel
theorem dX5_worthOf_42 : decode cX5_worthOf 42 = .ok (.aload_n 1, 1) := by decide +kernel
theorem dX5_worthOf_43 : decode cX5_worthOf 43 = .ok (.getfield 89, 3) := by decide +kernel
theorem dX5_worthOf_46 : decode cX5_worthOf 46 = .ok (.iadd, 1) := by decide +kernel
theorem dX5_worthOf_47 : decode cX5_worthOf 47 = .ok (.ireturn, 1) := by decide +kernel
theorem dX5_worthOf_48 : decode cX5_worthOf 48 = .ok (.aload_n 0, 1) := by decide +kernel
theorem dX5_worthOf_49 : decode cX5_worthOf 49 = .ok (.aload_n 1, 1) := by decide +kernel
theorem dX5_worthOf_50 : decode cX5_worthOf 50 = .ok (.invokevirtual 92, 3) := by decide +kernel
theorem dX5_worthOf_53 : decode cX5_worthOf 53 = .ok (.ireturn, 1) := by decide +kernel
theorem dX5_worthOf_54 : decode cX5_worthOf 54 = .ok (.iconst 2, 1) := by decide +kernel
theorem dX5_worthOf_55 : decode cX5_worthOf 55 = .ok (.aload_n 0, 1) := by decide +kernel
theorem dX5_worthOf_56 : decode cX5_worthOf 56 = .ok (.aload_n 0, 1) := by decide +kernel
theorem dX5_worthOf_57 : decode cX5_worthOf 57 = .ok (.aload_n 1, 1) := by decide +kernel
theorem dX5_worthOf_58 : decode cX5_worthOf 58 = .ok (.getfield 83, 3) := by decide +kernel
theorem dX5_worthOf_61 : decode cX5_worthOf 61 = .ok (.invokevirtual 65, 3) := by decide +kernel
theorem dX5_worthOf_64 : decode cX5_worthOf 64 = .ok (.invokevirtual 92, 3) := by decide +kernel
theorem dX5_worthOf_67 : decode cX5_worthOf 67 = .ok (.imul, 1) := by decide +kernel
theorem dX5_worthOf_68 : decode cX5_worthOf 68 = .ok (.ireturn, 1) := by decide +kernel
theorem dX5_worthOf_69 : decode cX5_worthOf 69 = .ok (.aload_n 1, 1) := by decide +kernel
theorem dX5_worthOf_70 : decode cX5_worthOf 70 = .ok (.getfield 89, 3) := by decide +kernel
theorem dX5_worthOf_73 : decode cX5_worthOf 73 = .ok (.invokestatic 96, 3) := by decide +kernel
theorem dX5_worthOf_76 : decode cX5_worthOf 76 = .ok (.ireturn, 1) := by decide +kernel
theorem dX5_worthOf_77 : decode cX5_worthOf 77 = .ok (.iconst 2, 1) := by decide +kernel
theorem dX5_worthOf_78 : decode cX5_worthOf 78 = .ok (.aload_n 1, 1) := by decide +kernel
theorem dX5_worthOf_79 : decode cX5_worthOf 79 = .ok (.getfield 89, 3) := by decide +kernel
theorem dX5_worthOf_82 : decode cX5_worthOf 82 = .ok (.invokestatic 96, 3) := by decide +kernel
theorem dX5_worthOf_85 : decode cX5_worthOf 85 = .ok (.imul, 1) := by decide +kernel
theorem dX5_worthOf_86 : decode cX5_worthOf 86 = .ok (.iconst 1, 1) := by decide +kernel
theorem dX5_worthOf_87 : decode cX5_worthOf 87 = .ok (.isub, 1) := by decide +kernel
theorem dX5_worthOf_88 : decode cX5_worthOf 88 = .ok (.ireturn, 1) := by decide +kernel
theorem dX5_worthOf_89 : decode cX5_worthOf 89 = .ok (.iconst 1, 1) := by decide +kernel
theorem dX5_worthOf_90 : decode cX5_worthOf 90 = .ok (.aload_n 1, 1) := by decide +kernel
theorem dX5_worthOf_91 : decode cX5_worthOf 91 = .ok (.getfield 89, 3) := by decide +kernel
theorem dX5_worthOf_94 : decode cX5_worthOf 94 = .ok (.iadd, 1) := by decide +kernel
theorem dX5_worthOf_95 : decode cX5_worthOf 95 = .ok (.ireturn, 1) := by decide +kernel
theorem dX5_worthOfPlan_0 : decode cX5_worthOfPlan 0 = .ok (.aload_n 1, 1) := by decide +kernel
theorem dX5_worthOfPlan_1 : decode cX5_worthOfPlan 1 = .ok (.ifnonnull 7, 3) := by decide +kernel
theorem dX5_worthOfPlan_4 : decode cX5_worthOfPlan 4 = .ok (.aconst_null, 1) := by decide +kernel
theorem dX5_worthOfPlan_5 : decode cX5_worthOfPlan 5 = .ok (.goto 11, 3) := by decide +kernel
theorem dX5_worthOfPlan_8 : decode cX5_worthOfPlan 8 = .ok (.aload_n 0, 1) := by decide +kernel
theorem dX5_worthOfPlan_9 : decode cX5_worthOfPlan 9 = .ok (.aload_n 1, 1) := by decide +kernel
theorem dX5_worthOfPlan_10 : decode cX5_worthOfPlan 10 = .ok (.getfield 83, 3) := by decide +kernel
theorem dX5_worthOfPlan_13 : decode cX5_worthOfPlan 13 = .ok (.invokevirtual 65, 3) := by decide +kernel
theorem dX5_worthOfPlan_16 : decode cX5_worthOfPlan 16 = .ok (.astore_n 2, 1) := by decide +kernel
theorem dX5_worthOfPlan_17 : decode cX5_worthOfPlan 17 = .ok (.aload_n 2, 1) := by decide +kernel
theorem dX5_worthOfPlan_18 : decode cX5_worthOfPlan 18 = .ok (.ifnonnull 7, 3) := by decide +kernel
theorem dX5_worthOfPlan_21 : decode cX5_worthOfPlan 21 = .ok (.iconst 0, 1) := by decide +kernel
theorem dX5_worthOfPlan_22 : decode cX5_worthOfPlan 22 = .ok (.goto 16, 3) := by decide +kernel
theorem dX5_worthOfPlan_25 : decode cX5_worthOfPlan 25 = .ok (.bipush 10, 2) := by decide +kernel
theorem dX5_worthOfPlan_27 : decode cX5_worthOfPlan 27 = .ok (.aload_n 2, 1) := by decide +kernel
theorem dX5_worthOfPlan_28 : decode cX5_worthOfPlan 28 = .ok (.getfield 89, 3) := by decide +kernel
theorem dX5_worthOfPlan_31 : decode cX5_worthOfPlan 31 = .ok (.iadd, 1) := by decide +kernel
theorem dX5_worthOfPlan_32 : decode cX5_worthOfPlan 32 = .ok (.aload_n 1, 1) := by decide +kernel
theorem dX5_worthOfPlan_33 : decode cX5_worthOfPlan 33 = .ok (.getfield 100, 3) := by decide +kernel
theorem dX5_worthOfPlan_36 : decode cX5_worthOfPlan 36 = .ok (.arraylength, 1) := by decide +kernel
theorem dX5_worthOfPlan_37 : decode cX5_worthOfPlan 37 = .ok (.iadd, 1) := by decide +kernel
theorem dX5_worthOfPlan_38 : decode cX5_worthOfPlan 38 = .ok (.ireturn, 1) := by decide +kernel
theorem dX5_worthOfCall_0 : decode cX5_worthOfCall 0 = .ok (.iconst 4, 1) := by decide +kernel
theorem dX5_worthOfCall_1 : decode cX5_worthOfCall 1 = .ok (.iload_n 0, 1) := by decide +kernel
theorem dX5_worthOfCall_2 : decode cX5_worthOfCall 2 = .ok (.iadd, 1) := by decide +kernel
theorem dX5_worthOfCall_3 : decode cX5_worthOfCall 3 = .ok (.ireturn, 1) := by decide +kernel
theorem dX5_vote_0 : decode cX5_vote 0 = .ok (.iload_n 3, 1) := by decide +kernel
theorem dX5_vote_1 : decode cX5_vote 1 = .ok (.ifCond .eq 10, 3) := by decide +kernel
theorem dX5_vote_4 : decode cX5_vote 4 = .ok (.aload_n 0, 1) := by decide +kernel
theorem dX5_vote_5 : decode cX5_vote 5 = .ok (.getfield 28, 3) := by decide +kernel
theorem dX5_vote_8 : decode cX5_vote 8 = .ok (.goto 7, 3) := by decide +kernel
theorem dX5_vote_11 : decode cX5_vote 11 = .ok (.aload_n 0, 1) := by decide +kernel
theorem dX5_vote_12 : decode cX5_vote 12 = .ok (.getfield 31, 3) := by decide +kernel
theorem dX5_vote_15 : decode cX5_vote 15 = .ok (.astore 4, 2) := by decide +kernel
theorem dX5_vote_17 : decode cX5_vote 17 = .ok (.aload 4, 2) := by decide +kernel
theorem dX5_vote_19 : decode cX5_vote 19 = .ok (.iload_n 2, 1) := by decide +kernel
theorem dX5_vote_20 : decode cX5_vote 20 = .ok (.dup2, 1) := by decide +kernel
theorem dX5_vote_21 : decode cX5_vote 21 = .ok (.iaload, 1) := by decide +kernel
theorem dX5_vote_22 : decode cX5_vote 22 = .ok (.iconst 1, 1) := by decide +kernel
theorem dX5_vote_23 : decode cX5_vote 23 = .ok (.iload_n 1, 1) := by decide +kernel
theorem dX5_vote_24 : decode cX5_vote 24 = .ok (.ishl, 1) := by decide +kernel
theorem dX5_vote_25 : decode cX5_vote 25 = .ok (.ior, 1) := by decide +kernel
theorem dX5_vote_26 : decode cX5_vote 26 = .ok (.iastore, 1) := by decide +kernel
theorem dX5_vote_27 : decode cX5_vote 27 = .ok (.aload_n 0, 1) := by decide +kernel
theorem dX5_vote_28 : decode cX5_vote 28 = .ok (.dup, 1) := by decide +kernel
theorem dX5_vote_29 : decode cX5_vote 29 = .ok (.getfield 51, 3) := by decide +kernel
theorem dX5_vote_32 : decode cX5_vote 32 = .ok (.iconst 1, 1) := by decide +kernel
theorem dX5_vote_33 : decode cX5_vote 33 = .ok (.iadd, 1) := by decide +kernel
theorem dX5_vote_34 : decode cX5_vote 34 = .ok (.putfield 51, 3) := by decide +kernel
theorem dX5_vote_37 : decode cX5_vote 37 = .ok (.aload_n 0, 1) := by decide +kernel
theorem dX5_vote_38 : decode cX5_vote 38 = .ok (.getfield 51, 3) := by decide +kernel
theorem dX5_vote_41 : decode cX5_vote 41 = .ok (.ireturn, 1) := by decide +kernel
theorem dX5_votersBothWays_0 : decode cX5_votersBothWays 0 = .ok (.iconst 0, 1) := by decide +kernel
theorem dX5_votersBothWays_1 : decode cX5_votersBothWays 1 = .ok (.istore_n 1, 1) := by decide +kernel
theorem dX5_votersBothWays_2 : decode cX5_votersBothWays 2 = .ok (.iconst 0, 1) := by decide +kernel
theorem dX5_votersBothWays_3 : decode cX5_votersBothWays 3 = .ok (.istore_n 2, 1) := by decide +kernel
theorem dX5_votersBothWays_4 : decode cX5_votersBothWays 4 = .ok (.iload_n 2, 1) := by decide +kernel
theorem dX5_votersBothWays_5 : decode cX5_votersBothWays 5 = .ok (.aload_n 0, 1) := by decide +kernel
theorem dX5_votersBothWays_6 : decode cX5_votersBothWays 6 = .ok (.getfield 44, 3) := by decide +kernel
theorem dX5_votersBothWays_9 : decode cX5_votersBothWays 9 = .ok (.if_icmp .ge 25, 3) := by decide +kernel
theorem dX5_votersBothWays_12 : decode cX5_votersBothWays 12 = .ok (.iload_n 1, 1) := by decide +kernel
theorem dX5_votersBothWays_13 : decode cX5_votersBothWays 13 = .ok (.aload_n 0, 1) := by decide +kernel
theorem dX5_votersBothWays_14 : decode cX5_votersBothWays 14 = .ok (.getfield 28, 3) := by decide +kernel
theorem dX5_votersBothWays_17 : decode cX5_votersBothWays 17 = .ok (.iload_n 2, 1) := by decide +kernel
theorem dX5_votersBothWays_18 : decode cX5_votersBothWays 18 = .ok (.iaload, 1) := by decide +kernel
theorem dX5_votersBothWays_19 : decode cX5_votersBothWays 19 = .ok (.aload_n 0, 1) := by decide +kernel
theorem dX5_votersBothWays_20 : decode cX5_votersBothWays 20 = .ok (.getfield 31, 3) := by decide +kernel
theorem dX5_votersBothWays_23 : decode cX5_votersBothWays 23 = .ok (.iload_n 2, 1) := by decide +kernel
theorem dX5_votersBothWays_24 : decode cX5_votersBothWays 24 = .ok (.iaload, 1) := by decide +kernel
theorem dX5_votersBothWays_25 : decode cX5_votersBothWays 25 = .ok (.iand, 1) := by decide +kernel
theorem dX5_votersBothWays_26 : decode cX5_votersBothWays 26 = .ok (.ior, 1) := by decide +kernel
theorem dX5_votersBothWays_27 : decode cX5_votersBothWays 27 = .ok (.istore_n 1, 1) := by decide +kernel
theorem dX5_votersBothWays_28 : decode cX5_votersBothWays 28 = .ok (.iinc 2 1, 3) := by decide +kernel
theorem dX5_votersBothWays_31 : decode cX5_votersBothWays 31 = .ok (.goto (-27), 3) := by decide +kernel
theorem dX5_votersBothWays_34 : decode cX5_votersBothWays 34 = .ok (.iload_n 1, 1) := by decide +kernel
theorem dX5_votersBothWays_35 : decode cX5_votersBothWays 35 = .ok (.ireturn, 1) := by decide +kernel
theorem dX5_townsOfBothGauges_0 : decode cX5_townsOfBothGauges 0 = .ok (.iconst 0, 1) := by decide +kernel
theorem dX5_townsOfBothGauges_1 : decode cX5_townsOfBothGauges 1 = .ok (.istore_n 1, 1) := by decide +kernel
theorem dX5_townsOfBothGauges_2 : decode cX5_townsOfBothGauges 2 = .ok (.iconst 0, 1) := by decide +kernel
theorem dX5_townsOfBothGauges_3 : decode cX5_townsOfBothGauges 3 = .ok (.istore_n 2, 1) := by decide +kernel
theorem dX5_townsOfBothGauges_4 : decode cX5_townsOfBothGauges 4 = .ok (.iconst 0, 1) := by decide +kernel
theorem dX5_townsOfBothGauges_5 : decode cX5_townsOfBothGauges 5 = .ok (.istore_n 3, 1) := by decide +kernel
theorem dX5_townsOfBothGauges_6 : decode cX5_townsOfBothGauges 6 = .ok (.iload_n 3, 1) := by decide +kernel
theorem dX5_townsOfBothGauges_7 : decode cX5_townsOfBothGauges 7 = .ok (.aload_n 0, 1) := by decide +kernel
theorem dX5_townsOfBothGauges_8 : decode cX5_townsOfBothGauges 8 = .ok (.getfield 44, 3) := by decide +kernel
theorem dX5_townsOfBothGauges_11 : decode cX5_townsOfBothGauges 11 = .ok (.if_icmp .ge 74, 3) := by decide +kernel
theorem dX5_townsOfBothGauges_14 : decode cX5_townsOfBothGauges 14 = .ok (.aload_n 0, 1) := by decide +kernel
theorem dX5_townsOfBothGauges_15 : decode cX5_townsOfBothGauges 15 = .ok (.iload_n 3, 1) := by decide +kernel
theorem dX5_townsOfBothGauges_16 : decode cX5_townsOfBothGauges 16 = .ok (.iconst 3, 1) := by decide +kernel
theorem dX5_townsOfBothGauges_17 : decode cX5_townsOfBothGauges 17 = .ok (.invokevirtual 73, 3) := by decide +kernel
theorem dX5_townsOfBothGauges_20 : decode cX5_townsOfBothGauges 20 = .ok (.astore 4, 2) := by decide +kernel
theorem dX5_townsOfBothGauges_22 : decode cX5_townsOfBothGauges 22 = .ok (.aload 4, 2) := by decide +kernel
theorem dX5_townsOfBothGauges_24 : decode cX5_townsOfBothGauges 24 = .ok (.ifnull 55, 3) := by decide +kernel
theorem dX5_townsOfBothGauges_27 : decode cX5_townsOfBothGauges 27 = .ok (.aload_n 0, 1) := by decide +kernel
theorem dX5_townsOfBothGauges_28 : decode cX5_townsOfBothGauges 28 = .ok (.getfield 25, 3) := by decide +kernel
theorem dX5_townsOfBothGauges_31 : decode cX5_townsOfBothGauges 31 = .ok (.iload_n 3, 1) := by decide +kernel
theorem dX5_townsOfBothGauges_32 : decode cX5_townsOfBothGauges 32 = .ok (.iaload, 1) := by decide +kernel
theorem dX5_townsOfBothGauges_33 : decode cX5_townsOfBothGauges 33 = .ok (.bipush (-5), 2) := by decide +kernel
theorem dX5_townsOfBothGauges_35 : decode cX5_townsOfBothGauges 35 = .ok (.if_icmp .ne 6, 3) := by decide +kernel
theorem dX5_townsOfBothGauges_38 : decode cX5_townsOfBothGauges 38 = .ok (.goto 41, 3) := by decide +kernel
theorem dX5_townsOfBothGauges_41 : decode cX5_townsOfBothGauges 41 = .ok (.iconst 1, 1) := by decide +kernel
theorem dX5_townsOfBothGauges_42 : decode cX5_townsOfBothGauges 42 = .ok (.aload 4, 2) := by decide +kernel
theorem dX5_townsOfBothGauges_44 : decode cX5_townsOfBothGauges 44 = .ok (.getfield 103, 3) := by decide +kernel
theorem dX5_townsOfBothGauges_47 : decode cX5_townsOfBothGauges 47 = .ok (.ishl, 1) := by decide +kernel
theorem dX5_townsOfBothGauges_48 : decode cX5_townsOfBothGauges 48 = .ok (.iconst 1, 1) := by decide +kernel
theorem dX5_townsOfBothGauges_49 : decode cX5_townsOfBothGauges 49 = .ok (.aload 4, 2) := by decide +kernel
theorem dX5_townsOfBothGauges_51 : decode cX5_townsOfBothGauges 51 = .ok (.getfield 106, 3) := by decide +kernel
theorem dX5_townsOfBothGauges_54 : decode cX5_townsOfBothGauges 54 = .ok (.ishl, 1) := by decide +kernel
theorem dX5_townsOfBothGauges_55 : decode cX5_townsOfBothGauges 55 = .ok (.ior, 1) := by decide +kernel
theorem dX5_townsOfBothGauges_56 : decode cX5_townsOfBothGauges 56 = .ok (.istore 5, 2) := by decide +kernel
theorem dX5_townsOfBothGauges_58 : decode cX5_townsOfBothGauges 58 = .ok (.aload 4, 2) := by decide +kernel
theorem dX5_townsOfBothGauges_60 : decode cX5_townsOfBothGauges 60 = .ok (.getfield 109, 3) := by decide +kernel
theorem dX5_townsOfBothGauges_63 : decode cX5_townsOfBothGauges 63 = .ok (.ifCond .ne 11, 3) := by decide +kernel
theorem dX5_townsOfBothGauges_66 : decode cX5_townsOfBothGauges 66 = .ok (.iload_n 1, 1) := by decide +kernel
theorem dX5_townsOfBothGauges_67 : decode cX5_townsOfBothGauges 67 = .ok (.iload 5, 2) := by decide +kernel
theorem dX5_townsOfBothGauges_69 : decode cX5_townsOfBothGauges 69 = .ok (.ior, 1) := by decide +kernel
theorem dX5_townsOfBothGauges_70 : decode cX5_townsOfBothGauges 70 = .ok (.istore_n 1, 1) := by decide +kernel
theorem dX5_townsOfBothGauges_71 : decode cX5_townsOfBothGauges 71 = .ok (.goto 8, 3) := by decide +kernel
theorem dX5_townsOfBothGauges_74 : decode cX5_townsOfBothGauges 74 = .ok (.iload_n 2, 1) := by decide +kernel
theorem dX5_townsOfBothGauges_75 : decode cX5_townsOfBothGauges 75 = .ok (.iload 5, 2) := by decide +kernel
theorem dX5_townsOfBothGauges_77 : decode cX5_townsOfBothGauges 77 = .ok (.ior, 1) := by decide +kernel
theorem dX5_townsOfBothGauges_78 : decode cX5_townsOfBothGauges 78 = .ok (.istore_n 2, 1) := by decide +kernel
theorem dX5_townsOfBothGauges_79 : decode cX5_townsOfBothGauges 79 = .ok (.iinc 3 1, 3) := by decide +kernel
theorem dX5_townsOfBothGauges_82 : decode cX5_townsOfBothGauges 82 = .ok (.goto (-76), 3) := by decide +kernel
theorem dX5_townsOfBothGauges_85 : decode cX5_townsOfBothGauges 85 = .ok (.iload_n 1, 1) := by decide +kernel
theorem dX5_townsOfBothGauges_86 : decode cX5_townsOfBothGauges 86 = .ok (.iload_n 2, 1) := by decide +kernel
theorem dX5_townsOfBothGauges_87 : decode cX5_townsOfBothGauges 87 = .ok (.iand, 1) := by decide +kernel
theorem dX5_townsOfBothGauges_88 : decode cX5_townsOfBothGauges 88 = .ok (.ireturn, 1) := by decide +kernel
theorem dX6_init_0 : decode cX6_init 0 = .ok (.aload_n 0, 1) := by decide +kernel
theorem dX6_init_1 : decode cX6_init 1 = .ok (.invokespecial 3, 3) := by decide +kernel
theorem dX6_init_4 : decode cX6_init 4 = .ok (.aload_n 0, 1) := by decide +kernel
theorem dX6_init_5 : decode cX6_init 5 = .ok (.bipush 7, 2) := by decide +kernel
theorem dX6_init_7 : decode cX6_init 7 = .ok (.newarray .int, 2) := by decide +kernel
theorem dX6_init_9 : decode cX6_init 9 = .ok (.putfield 9, 3) := by decide +kernel
theorem dX6_init_12 : decode cX6_init 12 = .ok (.aload_n 0, 1) := by decide +kernel
theorem dX6_init_13 : decode cX6_init 13 = .ok (.bipush 7, 2) := by decide +kernel
theorem dX6_init_15 : decode cX6_init 15 = .ok (.newarray .int, 2) := by decide +kernel
theorem dX6_init_17 : decode cX6_init 17 = .ok (.putfield 15, 3) := by decide +kernel
theorem dX6_init_20 : decode cX6_init 20 = .ok (.aload_n 0, 1) := by decide +kernel
theorem dX6_init_21 : decode cX6_init 21 = .ok (.bipush 7, 2) := by decide +kernel
theorem dX6_init_23 : decode cX6_init 23 = .ok (.newarray .int, 2) := by decide +kernel
theorem dX6_init_25 : decode cX6_init 25 = .ok (.putfield 18, 3) := by decide +kernel
theorem dX6_init_28 : decode cX6_init 28 = .ok (.aload_n 0, 1) := by decide +kernel
theorem dX6_init_29 : decode cX6_init 29 = .ok (.sipush 128, 3) := by decide +kernel
theorem dX6_init_32 : decode cX6_init 32 = .ok (.newarray .int, 2) := by decide +kernel
theorem dX6_init_34 : decode cX6_init 34 = .ok (.putfield 21, 3) := by decide +kernel
theorem dX6_init_37 : decode cX6_init 37 = .ok (.return_, 1) := by decide +kernel
theorem dX6_become_0 : decode cX6_become 0 = .ok (.aload_n 1, 1) := by decide +kernel
theorem dX6_become_1 : decode cX6_become 1 = .ok (.getfield 9, 3) := by decide +kernel
theorem dX6_become_4 : decode cX6_become 4 = .ok (.iconst 0, 1) := by decide +kernel
theorem dX6_become_5 : decode cX6_become 5 = .ok (.aload_n 0, 1) := by decide +kernel
theorem dX6_become_6 : decode cX6_become 6 = .ok (.getfield 9, 3) := by decide +kernel
theorem dX6_become_9 : decode cX6_become 9 = .ok (.iconst 0, 1) := by decide +kernel
theorem dX6_become_10 : decode cX6_become 10 = .ok (.bipush 7, 2) := by decide +kernel
theorem dX6_become_12 : decode cX6_become 12 = .ok (.invokestatic 24, 3) := by decide +kernel
theorem dX6_become_15 : decode cX6_become 15 = .ok (.aload_n 1, 1) := by decide +kernel
theorem dX6_become_16 : decode cX6_become 16 = .ok (.getfield 15, 3) := by decide +kernel
theorem dX6_become_19 : decode cX6_become 19 = .ok (.iconst 0, 1) := by decide +kernel
theorem dX6_become_20 : decode cX6_become 20 = .ok (.aload_n 0, 1) := by decide +kernel
theorem dX6_become_21 : decode cX6_become 21 = .ok (.getfield 15, 3) := by decide +kernel
theorem dX6_become_24 : decode cX6_become 24 = .ok (.iconst 0, 1) := by decide +kernel
theorem dX6_become_25 : decode cX6_become 25 = .ok (.bipush 7, 2) := by decide +kernel
theorem dX6_become_27 : decode cX6_become 27 = .ok (.invokestatic 24, 3) := by decide +kernel
theorem dX6_become_30 : decode cX6_become 30 = .ok (.aload_n 0, 1) := by decide +kernel
theorem dX6_become_31 : decode cX6_become 31 = .ok (.aload_n 1, 1) := by decide +kernel
theorem dX6_become_32 : decode cX6_become 32 = .ok (.getfield 30, 3) := by decide +kernel
theorem dX6_become_35 : decode cX6_become 35 = .ok (.putfield 30, 3) := by decide +kernel
theorem dX6_become_38 : decode cX6_become 38 = .ok (.return_, 1) := by decide +kernel
theorem dX6_add_0 : decode cX6_add 0 = .ok (.aload_n 0, 1) := by decide +kernel
theorem dX6_add_1 : decode cX6_add 1 = .ok (.getfield 9, 3) := by decide +kernel
theorem dX6_add_4 : decode cX6_add 4 = .ok (.aload_n 0, 1) := by decide +kernel
theorem dX6_add_5 : decode cX6_add 5 = .ok (.getfield 30, 3) := by decide +kernel
theorem dX6_add_8 : decode cX6_add 8 = .ok (.iload_n 1, 1) := by decide +kernel
theorem dX6_add_9 : decode cX6_add 9 = .ok (.iastore, 1) := by decide +kernel
theorem dX6_add_10 : decode cX6_add 10 = .ok (.aload_n 0, 1) := by decide +kernel
theorem dX6_add_11 : decode cX6_add 11 = .ok (.getfield 15, 3) := by decide +kernel
theorem dX6_add_14 : decode cX6_add 14 = .ok (.aload_n 0, 1) := by decide +kernel
theorem dX6_add_15 : decode cX6_add 15 = .ok (.getfield 30, 3) := by decide +kernel
theorem dX6_add_18 : decode cX6_add 18 = .ok (.iload_n 2, 1) := by decide +kernel
theorem dX6_add_19 : decode cX6_add 19 = .ok (.iastore, 1) := by decide +kernel
theorem dX6_add_20 : decode cX6_add 20 = .ok (.aload_n 0, 1) := by decide +kernel
theorem dX6_add_21 : decode cX6_add 21 = .ok (.dup, 1) := by decide +kernel
theorem dX6_add_22 : decode cX6_add 22 = .ok (.getfield 30, 3) := by decide +kernel
theorem dX6_add_25 : decode cX6_add 25 = .ok (.iconst 1, 1) := by decide +kernel
theorem dX6_add_26 : decode cX6_add 26 = .ok (.iadd, 1) := by decide +kernel
theorem dX6_add_27 : decode cX6_add 27 = .ok (.putfield 30, 3) := by decide +kernel
theorem dX6_add_30 : decode cX6_add 30 = .ok (.aload_n 0, 1) := by decide +kernel
theorem dX6_add_31 : decode cX6_add 31 = .ok (.getfield 30, 3) := by decide +kernel
theorem dX6_add_34 : decode cX6_add 34 = .ok (.ireturn, 1) := by decide +kernel
theorem dX6_order_0 : decode cX6_order 0 = .ok (.iconst 1, 1) := by decide +kernel
theorem dX6_order_1 : decode cX6_order 1 = .ok (.aload_n 0, 1) := by decide +kernel
