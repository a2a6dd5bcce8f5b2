theorem dX12_rule_13 : decode cX12_rule 13 = .ok (.getfield 8, 3) := by decide +kernel
theorem dX12_rule_16 : decode cX12_rule 16 = .ok (.sipush 10990, 3) := by decide +kernel
theorem dX12_rule_19 : decode cX12_rule 19 = .ok (.iload_n 3, 1) := by decide +kernel
theorem dX12_rule_20 : decode cX12_rule 20 = .ok (.iadd, 1) := by decide +kernel
theorem dX12_rule_21 : decode cX12_rule 21 = .ok (.iaload, 1) := by decide +kernel
theorem dX12_rule_22 : decode cX12_rule 22 = .ok (.ireturn, 1) := by decide +kernel
theorem dX12_rule_23 : decode cX12_rule 23 = .ok (.iload_n 1, 1) := by decide +kernel
theorem dX12_rule_24 : decode cX12_rule 24 = .ok (.tableswitch 57 0 5 #[40, 43, 45, 49, 52, 55], 40) := by decide +kernel
theorem dX12_rule_64 : decode cX12_rule 64 = .ok (.bipush 99, 2) := by decide +kernel
theorem dX12_rule_66 : decode cX12_rule 66 = .ok (.ireturn, 1) := by decide +kernel
theorem dX12_rule_67 : decode cX12_rule 67 = .ok (.iconst 2, 1) := by decide +kernel
theorem dX12_rule_68 : decode cX12_rule 68 = .ok (.ireturn, 1) := by decide +kernel
theorem dX12_rule_69 : decode cX12_rule 69 = .ok (.sipush 999, 3) := by decide +kernel
theorem dX12_rule_72 : decode cX12_rule 72 = .ok (.ireturn, 1) := by decide +kernel
theorem dX12_rule_73 : decode cX12_rule 73 = .ok (.bipush 50, 2) := by decide +kernel
theorem dX12_rule_75 : decode cX12_rule 75 = .ok (.ireturn, 1) := by decide +kernel
theorem dX12_rule_76 : decode cX12_rule 76 = .ok (.bipush 10, 2) := by decide +kernel
theorem dX12_rule_78 : decode cX12_rule 78 = .ok (.ireturn, 1) := by decide +kernel
theorem dX12_rule_79 : decode cX12_rule 79 = .ok (.iconst 1, 1) := by decide +kernel
theorem dX12_rule_80 : decode cX12_rule 80 = .ok (.ireturn, 1) := by decide +kernel
theorem dX12_rule_81 : decode cX12_rule 81 = .ok (.iconst 0, 1) := by decide +kernel
theorem dX12_rule_82 : decode cX12_rule 82 = .ok (.ireturn, 1) := by decide +kernel
theorem dX12_force_0 : decode cX12_force 0 = .ok (.iload_n 1, 1) := by decide +kernel
theorem dX12_force_1 : decode cX12_force 1 = .ok (.iconst 0, 1) := by decide +kernel
theorem dX12_force_2 : decode cX12_force 2 = .ok (.bipush 6, 2) := by decide +kernel
theorem dX12_force_4 : decode cX12_force 4 = .ok (.invokestatic 58, 3) := by decide +kernel
theorem dX12_force_7 : decode cX12_force 7 = .ok (.ifCond .ne 7, 3) := by decide +kernel
theorem dX12_force_10 : decode cX12_force 10 = .ok (.iconst (-1), 1) := by decide +kernel
theorem dX12_force_11 : decode cX12_force 11 = .ok (.goto 21, 3) := by decide +kernel
theorem dX12_force_14 : decode cX12_force 14 = .ok (.iload_n 2, 1) := by decide +kernel
theorem dX12_force_15 : decode cX12_force 15 = .ok (.invokestatic 141, 3) := by decide +kernel
theorem dX12_force_18 : decode cX12_force 18 = .ok (.ifCond .eq 12, 3) := by decide +kernel
theorem dX12_force_21 : decode cX12_force 21 = .ok (.aload_n 0, 1) := by decide +kernel
theorem dX12_force_22 : decode cX12_force 22 = .ok (.iload_n 1, 1) := by decide +kernel
theorem dX12_force_23 : decode cX12_force 23 = .ok (.iload_n 2, 1) := by decide +kernel
theorem dX12_force_24 : decode cX12_force 24 = .ok (.invokevirtual 152, 3) := by decide +kernel
theorem dX12_force_27 : decode cX12_force 27 = .ok (.goto 5, 3) := by decide +kernel
theorem dX12_force_30 : decode cX12_force 30 = .ok (.bipush (-2), 2) := by decide +kernel
theorem dX12_force_32 : decode cX12_force 32 = .ok (.ireturn, 1) := by decide +kernel
theorem dX12_why_0 : decode cX12_why 0 = .ok (.iload_n 1, 1) := by decide +kernel
theorem dX12_why_1 : decode cX12_why 1 = .ok (.iconst 0, 1) := by decide +kernel
theorem dX12_why_2 : decode cX12_why 2 = .ok (.bipush 6, 2) := by decide +kernel
theorem dX12_why_4 : decode cX12_why 4 = .ok (.invokestatic 58, 3) := by decide +kernel
theorem dX12_why_7 : decode cX12_why 7 = .ok (.ifCond .ne 5, 3) := by decide +kernel
theorem dX12_why_10 : decode cX12_why 10 = .ok (.iconst (-1), 1) := by decide +kernel
theorem dX12_why_11 : decode cX12_why 11 = .ok (.ireturn, 1) := by decide +kernel
theorem dX12_why_12 : decode cX12_why 12 = .ok (.iload_n 2, 1) := by decide +kernel
theorem dX12_why_13 : decode cX12_why 13 = .ok (.invokestatic 141, 3) := by decide +kernel
theorem dX12_why_16 : decode cX12_why 16 = .ok (.ifCond .ne 6, 3) := by decide +kernel
theorem dX12_why_19 : decode cX12_why 19 = .ok (.bipush (-2), 2) := by decide +kernel
theorem dX12_why_21 : decode cX12_why 21 = .ok (.ireturn, 1) := by decide +kernel
theorem dX12_why_22 : decode cX12_why 22 = .ok (.aload_n 0, 1) := by decide +kernel
theorem dX12_why_23 : decode cX12_why 23 = .ok (.iload_n 1, 1) := by decide +kernel
theorem dX12_why_24 : decode cX12_why 24 = .ok (.iload_n 2, 1) := by decide +kernel
theorem dX12_why_25 : decode cX12_why 25 = .ok (.invokevirtual 148, 3) := by decide +kernel
theorem dX12_why_28 : decode cX12_why 28 = .ok (.istore_n 3, 1) := by decide +kernel
theorem dX12_why_29 : decode cX12_why 29 = .ok (.iload_n 3, 1) := by decide +kernel
theorem dX12_why_30 : decode cX12_why 30 = .ok (.iconst (-1), 1) := by decide +kernel
theorem dX12_why_31 : decode cX12_why 31 = .ok (.if_icmp .ne 8, 3) := by decide +kernel
theorem dX12_why_34 : decode cX12_why 34 = .ok (.bipush (-5), 2) := by decide +kernel
theorem dX12_why_36 : decode cX12_why 36 = .ok (.goto 15, 3) := by decide +kernel
theorem dX12_why_39 : decode cX12_why 39 = .ok (.bipush 100, 2) := by decide +kernel
theorem dX12_why_41 : decode cX12_why 41 = .ok (.iload_n 3, 1) := by decide +kernel
theorem dX12_why_42 : decode cX12_why 42 = .ok (.bipush 8, 2) := by decide +kernel
theorem dX12_why_44 : decode cX12_why 44 = .ok (.idiv, 1) := by decide +kernel
theorem dX12_why_45 : decode cX12_why 45 = .ok (.imul, 1) := by decide +kernel
theorem dX12_why_46 : decode cX12_why 46 = .ok (.iload_n 3, 1) := by decide +kernel
theorem dX12_why_47 : decode cX12_why 47 = .ok (.bipush 8, 2) := by decide +kernel
theorem dX12_why_49 : decode cX12_why 49 = .ok (.irem, 1) := by decide +kernel
theorem dX12_why_50 : decode cX12_why 50 = .ok (.iadd, 1) := by decide +kernel
theorem dX12_why_51 : decode cX12_why 51 = .ok (.ireturn, 1) := by decide +kernel
theorem dX12_paper_0 : decode cX12_paper 0 = .ok (.aload_n 0, 1) := by decide +kernel
theorem dX12_paper_1 : decode cX12_paper 1 = .ok (.getfield 8, 3) := by decide +kernel
theorem dX12_paper_4 : decode cX12_paper 4 = .ok (.iconst 2, 1) := by decide +kernel
theorem dX12_paper_5 : decode cX12_paper 5 = .ok (.iaload, 1) := by decide +kernel
theorem dX12_paper_6 : decode cX12_paper 6 = .ok (.istore 7, 2) := by decide +kernel
theorem dX12_paper_8 : decode cX12_paper 8 = .ok (.aload_n 0, 1) := by decide +kernel
theorem dX12_paper_9 : decode cX12_paper 9 = .ok (.getfield 8, 3) := by decide +kernel
theorem dX12_paper_12 : decode cX12_paper 12 = .ok (.sipush 370, 3) := by decide +kernel
theorem dX12_paper_15 : decode cX12_paper 15 = .ok (.iload 7, 2) := by decide +kernel
theorem dX12_paper_17 : decode cX12_paper 17 = .ok (.iadd, 1) := by decide +kernel
theorem dX12_paper_18 : decode cX12_paper 18 = .ok (.iload_n 1, 1) := by decide +kernel
theorem dX12_paper_19 : decode cX12_paper 19 = .ok (.iastore, 1) := by decide +kernel
theorem dX12_paper_20 : decode cX12_paper 20 = .ok (.aload_n 0, 1) := by decide +kernel
theorem dX12_paper_21 : decode cX12_paper 21 = .ok (.getfield 8, 3) := by decide +kernel
theorem dX12_paper_24 : decode cX12_paper 24 = .ok (.sipush 430, 3) := by decide +kernel
theorem dX12_paper_27 : decode cX12_paper 27 = .ok (.iload 7, 2) := by decide +kernel
theorem dX12_paper_29 : decode cX12_paper 29 = .ok (.iadd, 1) := by decide +kernel
theorem dX12_paper_30 : decode cX12_paper 30 = .ok (.iload_n 2, 1) := by decide +kernel
theorem dX12_paper_31 : decode cX12_paper 31 = .ok (.iastore, 1) := by decide +kernel
theorem dX12_paper_32 : decode cX12_paper 32 = .ok (.aload_n 0, 1) := by decide +kernel
theorem dX12_paper_33 : decode cX12_paper 33 = .ok (.getfield 8, 3) := by decide +kernel
theorem dX12_paper_36 : decode cX12_paper 36 = .ok (.sipush 490, 3) := by decide +kernel
theorem dX12_paper_39 : decode cX12_paper 39 = .ok (.iload 7, 2) := by decide +kernel
theorem dX12_paper_41 : decode cX12_paper 41 = .ok (.iadd, 1) := by decide +kernel
theorem dX12_paper_42 : decode cX12_paper 42 = .ok (.aload_n 0, 1) := by decide +kernel
theorem dX12_paper_43 : decode cX12_paper 43 = .ok (.getfield 8, 3) := by decide +kernel
theorem dX12_paper_46 : decode cX12_paper 46 = .ok (.iconst 0, 1) := by decide +kernel
theorem dX12_paper_47 : decode cX12_paper 47 = .ok (.iaload, 1) := by decide +kernel
theorem dX12_paper_48 : decode cX12_paper 48 = .ok (.iastore, 1) := by decide +kernel
theorem dX12_paper_49 : decode cX12_paper 49 = .ok (.aload_n 0, 1) := by decide +kernel
theorem dX12_paper_50 : decode cX12_paper 50 = .ok (.getfield 8, 3) := by decide +kernel
theorem dX12_paper_53 : decode cX12_paper 53 = .ok (.sipush 550, 3) := by decide +kernel
theorem dX12_paper_56 : decode cX12_paper 56 = .ok (.iload 7, 2) := by decide +kernel
theorem dX12_paper_58 : decode cX12_paper 58 = .ok (.iadd, 1) := by decide +kernel
theorem dX12_paper_59 : decode cX12_paper 59 = .ok (.iload_n 3, 1) := by decide +kernel
theorem dX12_paper_60 : decode cX12_paper 60 = .ok (.iastore, 1) := by decide +kernel
theorem dX12_paper_61 : decode cX12_paper 61 = .ok (.aload_n 0, 1) := by decide +kernel
theorem dX12_paper_62 : decode cX12_paper 62 = .ok (.getfield 8, 3) := by decide +kernel
theorem dX12_paper_65 : decode cX12_paper 65 = .ok (.sipush 610, 3) := by decide +kernel
theorem dX12_paper_68 : decode cX12_paper 68 = .ok (.iload 7, 2) := by decide +kernel
theorem dX12_paper_70 : decode cX12_paper 70 = .ok (.iadd, 1) := by decide +kernel
theorem dX12_paper_71 : decode cX12_paper 71 = .ok (.iload 4, 2) := by decide +kernel
theorem dX12_paper_73 : decode cX12_paper 73 = .ok (.iastore, 1) := by decide +kernel
theorem dX12_paper_74 : decode cX12_paper 74 = .ok (.aload_n 0, 1) := by decide +kernel
theorem dX12_paper_75 : decode cX12_paper 75 = .ok (.getfield 8, 3) := by decide +kernel
theorem dX12_paper_78 : decode cX12_paper 78 = .ok (.sipush 670, 3) := by decide +kernel
theorem dX12_paper_81 : decode cX12_paper 81 = .ok (.iload 7, 2) := by decide +kernel
theorem dX12_paper_83 : decode cX12_paper 83 = .ok (.iadd, 1) := by decide +kernel
theorem dX12_paper_84 : decode cX12_paper 84 = .ok (.iload 5, 2) := by decide +kernel
theorem dX12_paper_86 : decode cX12_paper 86 = .ok (.iastore, 1) := by decide +kernel
theorem dX12_paper_87 : decode cX12_paper 87 = .ok (.aload_n 0, 1) := by decide +kernel
theorem dX12_paper_88 : decode cX12_paper 88 = .ok (.getfield 8, 3) := by decide +kernel
theorem dX12_paper_91 : decode cX12_paper 91 = .ok (.sipush 730, 3) := by decide +kernel
theorem dX12_paper_94 : decode cX12_paper 94 = .ok (.iload 7, 2) := by decide +kernel
theorem dX12_paper_96 : decode cX12_paper 96 = .ok (.iadd, 1) := by decide +kernel
theorem dX12_paper_97 : decode cX12_paper 97 = .ok (.iload 6, 2) := by decide +kernel
theorem dX12_paper_99 : decode cX12_paper 99 = .ok (.iastore, 1) := by decide +kernel
theorem dX12_paper_100 : decode cX12_paper 100 = .ok (.aload_n 0, 1) := by decide +kernel
theorem dX12_paper_101 : decode cX12_paper 101 = .ok (.getfield 8, 3) := by decide +kernel
theorem dX12_paper_104 : decode cX12_paper 104 = .ok (.sipush 790, 3) := by decide +kernel
theorem dX12_paper_107 : decode cX12_paper 107 = .ok (.iload 7, 2) := by decide +kernel
theorem dX12_paper_109 : decode cX12_paper 109 = .ok (.iadd, 1) := by decide +kernel
theorem dX12_paper_110 : decode cX12_paper 110 = .ok (.iconst 0, 1) := by decide +kernel
theorem dX12_paper_111 : decode cX12_paper 111 = .ok (.iastore, 1) := by decide +kernel
theorem dX12_paper_112 : decode cX12_paper 112 = .ok (.aload_n 0, 1) := by decide +kernel
theorem dX12_paper_113 : decode cX12_paper 113 = .ok (.getfield 8, 3) := by decide +kernel
theorem dX12_paper_116 : decode cX12_paper 116 = .ok (.iconst 2, 1) := by decide +kernel
theorem dX12_paper_117 : decode cX12_paper 117 = .ok (.dup2, 1) := by decide +kernel
theorem dX12_paper_118 : decode cX12_paper 118 = .ok (.iaload, 1) := by decide +kernel
theorem dX12_paper_119 : decode cX12_paper 119 = .ok (.iconst 1, 1) := by decide +kernel
theorem dX12_paper_120 : decode cX12_paper 120 = .ok (.iadd, 1) := by decide +kernel
theorem dX12_paper_121 : decode cX12_paper 121 = .ok (.iastore, 1) := by decide +kernel
theorem dX12_paper_122 : decode cX12_paper 122 = .ok (.iload 7, 2) := by decide +kernel
theorem dX12_paper_124 : decode cX12_paper 124 = .ok (.ireturn, 1) := by decide +kernel
theorem dX12_scheme_0 : decode cX12_scheme 0 = .ok (.aload_n 0, 1) := by decide +kernel
theorem dX12_scheme_1 : decode cX12_scheme 1 = .ok (.iload_n 1, 1) := by decide +kernel
theorem dX12_scheme_2 : decode cX12_scheme 2 = .ok (.invokevirtual 155, 3) := by decide +kernel
theorem dX12_scheme_5 : decode cX12_scheme 5 = .ok (.ifCond .eq 11, 3) := by decide +kernel
theorem dX12_scheme_8 : decode cX12_scheme 8 = .ok (.aload_n 0, 1) := by decide +kernel
theorem dX12_scheme_9 : decode cX12_scheme 9 = .ok (.iload_n 2, 1) := by decide +kernel
theorem dX12_scheme_10 : decode cX12_scheme 10 = .ok (.invokevirtual 155, 3) := by decide +kernel
theorem dX12_scheme_13 : decode cX12_scheme 13 = .ok (.ifCond .ne 5, 3) := by decide +kernel
theorem dX12_scheme_16 : decode cX12_scheme 16 = .ok (.iconst (-1), 1) := by decide +kernel
theorem dX12_scheme_17 : decode cX12_scheme 17 = .ok (.ireturn, 1) := by decide +kernel
theorem dX12_scheme_18 : decode cX12_scheme 18 = .ok (.iload_n 1, 1) := by decide +kernel
theorem dX12_scheme_19 : decode cX12_scheme 19 = .ok (.iload_n 2, 1) := by decide +kernel
theorem dX12_scheme_20 : decode cX12_scheme 20 = .ok (.if_icmp .eq 23, 3) := by decide +kernel
theorem dX12_scheme_23 : decode cX12_scheme 23 = .ok (.iload_n 3, 1) := by decide +kernel
theorem dX12_scheme_24 : decode cX12_scheme 24 = .ok (.iconst 0, 1) := by decide +kernel
theorem dX12_scheme_25 : decode cX12_scheme 25 = .ok (.iconst 1, 1) := by decide +kernel
theorem dX12_scheme_26 : decode cX12_scheme 26 = .ok (.invokestatic 58, 3) := by decide +kernel
theorem dX12_scheme_29 : decode cX12_scheme 29 = .ok (.ifCond .eq 14, 3) := by decide +kernel
theorem dX12_scheme_32 : decode cX12_scheme 32 = .ok (.iload 4, 2) := by decide +kernel
theorem dX12_scheme_34 : decode cX12_scheme 34 = .ok (.iconst 1, 1) := by decide +kernel
theorem dX12_scheme_35 : decode cX12_scheme 35 = .ok (.bipush 99, 2) := by decide +kernel
theorem dX12_scheme_37 : decode cX12_scheme 37 = .ok (.invokestatic 58, 3) := by decide +kernel
theorem dX12_scheme_40 : decode cX12_scheme 40 = .ok (.ifCond .ne 6, 3) := by decide +kernel
theorem dX12_scheme_43 : decode cX12_scheme 43 = .ok (.bipush (-2), 2) := by decide +kernel
theorem dX12_scheme_45 : decode cX12_scheme 45 = .ok (.ireturn, 1) := by decide +kernel
theorem dX12_scheme_46 : decode cX12_scheme 46 = .ok (.aload_n 0, 1) := by decide +kernel
theorem dX12_scheme_47 : decode cX12_scheme 47 = .ok (.getfield 8, 3) := by decide +kernel
theorem dX12_scheme_50 : decode cX12_scheme 50 = .ok (.iconst 2, 1) := by decide +kernel
theorem dX12_scheme_51 : decode cX12_scheme 51 = .ok (.iaload, 1) := by decide +kernel
theorem dX12_scheme_52 : decode cX12_scheme 52 = .ok (.bipush 60, 2) := by decide +kernel
theorem dX12_scheme_54 : decode cX12_scheme 54 = .ok (.if_icmp .eq 15, 3) := by decide +kernel
theorem dX12_scheme_57 : decode cX12_scheme 57 = .ok (.aload_n 0, 1) := by decide +kernel
theorem dX12_scheme_58 : decode cX12_scheme 58 = .ok (.getfield 8, 3) := by decide +kernel
theorem dX12_scheme_61 : decode cX12_scheme 61 = .ok (.bipush 9, 2) := by decide +kernel
theorem dX12_scheme_63 : decode cX12_scheme 63 = .ok (.iaload, 1) := by decide +kernel
theorem dX12_scheme_64 : decode cX12_scheme 64 = .ok (.bipush 12, 2) := by decide +kernel
theorem dX12_scheme_66 : decode cX12_scheme 66 = .ok (.if_icmp .ne 6, 3) := by decide +kernel
theorem dX12_scheme_69 : decode cX12_scheme 69 = .ok (.bipush (-4), 2) := by decide +kernel
theorem dX12_scheme_71 : decode cX12_scheme 71 = .ok (.ireturn, 1) := by decide +kernel
theorem dX12_scheme_72 : decode cX12_scheme 72 = .ok (.aload_n 0, 1) := by decide +kernel
theorem dX12_scheme_73 : decode cX12_scheme 73 = .ok (.getfield 8, 3) := by decide +kernel
theorem dX12_scheme_76 : decode cX12_scheme 76 = .ok (.bipush 9, 2) := by decide +kernel
theorem dX12_scheme_78 : decode cX12_scheme 78 = .ok (.iaload, 1) := by decide +kernel
theorem dX12_scheme_79 : decode cX12_scheme 79 = .ok (.istore 5, 2) := by decide +kernel
theorem dX12_scheme_81 : decode cX12_scheme 81 = .ok (.aload_n 0, 1) := by decide +kernel
theorem dX12_scheme_82 : decode cX12_scheme 82 = .ok (.getfield 8, 3) := by decide +kernel
theorem dX12_scheme_85 : decode cX12_scheme 85 = .ok (.bipush 9, 2) := by decide +kernel
theorem dX12_scheme_87 : decode cX12_scheme 87 = .ok (.dup2, 1) := by decide +kernel
theorem dX12_scheme_88 : decode cX12_scheme 88 = .ok (.iaload, 1) := by decide +kernel
theorem dX12_scheme_89 : decode cX12_scheme 89 = .ok (.iconst 1, 1) := by decide +kernel
theorem dX12_scheme_90 : decode cX12_scheme 90 = .ok (.iadd, 1) := by decide +kernel
theorem dX12_scheme_91 : decode cX12_scheme 91 = .ok (.iastore, 1) := by decide +kernel
theorem dX12_scheme_92 : decode cX12_scheme 92 = .ok (.aload_n 0, 1) := by decide +kernel
theorem dX12_scheme_93 : decode cX12_scheme 93 = .ok (.iconst 1, 1) := by decide +kernel
theorem dX12_scheme_94 : decode cX12_scheme 94 = .ok (.iconst (-1), 1) := by decide +kernel
theorem dX12_scheme_95 : decode cX12_scheme 95 = .ok (.iload_n 1, 1) := by decide +kernel
theorem dX12_scheme_96 : decode cX12_scheme 96 = .ok (.iload_n 2, 1) := by decide +kernel
theorem dX12_scheme_97 : decode cX12_scheme 97 = .ok (.iload_n 3, 1) := by decide +kernel
theorem dX12_scheme_98 : decode cX12_scheme 98 = .ok (.iload 4, 2) := by decide +kernel
theorem dX12_scheme_100 : decode cX12_scheme 100 = .ok (.invokevirtual 158, 3) := by decide +kernel
theorem dX12_scheme_103 : decode cX12_scheme 103 = .ok (.istore 6, 2) := by decide +kernel
theorem dX12_scheme_105 : decode cX12_scheme 105 = .ok (.aload_n 0, 1) := by decide +kernel
theorem dX12_scheme_106 : decode cX12_scheme 106 = .ok (.getfield 8, 3) := by decide +kernel
theorem dX12_scheme_109 : decode cX12_scheme 109 = .ok (.sipush 11490, 3) := by decide +kernel
theorem dX12_scheme_112 : decode cX12_scheme 112 = .ok (.iload 5, 2) := by decide +kernel
theorem dX12_scheme_114 : decode cX12_scheme 114 = .ok (.iadd, 1) := by decide +kernel
theorem dX12_scheme_115 : decode cX12_scheme 115 = .ok (.iload 6, 2) := by decide +kernel
theorem dX12_scheme_117 : decode cX12_scheme 117 = .ok (.iastore, 1) := by decide +kernel
theorem dX12_scheme_118 : decode cX12_scheme 118 = .ok (.aload_n 0, 1) := by decide +kernel
theorem dX12_scheme_119 : decode cX12_scheme 119 = .ok (.getfield 8, 3) := by decide +kernel
theorem dX12_scheme_122 : decode cX12_scheme 122 = .ok (.sipush 11502, 3) := by decide +kernel
theorem dX12_scheme_125 : decode cX12_scheme 125 = .ok (.iload 5, 2) := by decide +kernel
theorem dX12_scheme_127 : decode cX12_scheme 127 = .ok (.iadd, 1) := by decide +kernel
theorem dX12_scheme_128 : decode cX12_scheme 128 = .ok (.iconst 0, 1) := by decide +kernel
theorem dX12_scheme_129 : decode cX12_scheme 129 = .ok (.iastore, 1) := by decide +kernel
theorem dX12_scheme_130 : decode cX12_scheme 130 = .ok (.aload_n 0, 1) := by decide +kernel
theorem dX12_scheme_131 : decode cX12_scheme 131 = .ok (.getfield 8, 3) := by decide +kernel
theorem dX12_scheme_134 : decode cX12_scheme 134 = .ok (.sipush 11514, 3) := by decide +kernel
theorem dX12_scheme_137 : decode cX12_scheme 137 = .ok (.iload 5, 2) := by decide +kernel
theorem dX12_scheme_139 : decode cX12_scheme 139 = .ok (.iadd, 1) := by decide +kernel
theorem dX12_scheme_140 : decode cX12_scheme 140 = .ok (.bipush (-5), 2) := by decide +kernel
theorem dX12_scheme_142 : decode cX12_scheme 142 = .ok (.iastore, 1) := by decide +kernel
theorem dX12_scheme_143 : decode cX12_scheme 143 = .ok (.iconst 0, 1) := by decide +kernel
theorem dX12_scheme_144 : decode cX12_scheme 144 = .ok (.istore 7, 2) := by decide +kernel
theorem dX12_scheme_146 : decode cX12_scheme 146 = .ok (.iload 7, 2) := by decide +kernel
theorem dX12_scheme_148 : decode cX12_scheme 148 = .ok (.bipush 9, 2) := by decide +kernel
theorem dX12_scheme_150 : decode cX12_scheme 150 = .ok (.if_icmp .ge 39, 3) := by decide +kernel
theorem dX12_scheme_153 : decode cX12_scheme 153 = .ok (.aload_n 0, 1) := by decide +kernel
theorem dX12_scheme_154 : decode cX12_scheme 154 = .ok (.getfield 8, 3) := by decide +kernel
theorem dX12_scheme_157 : decode cX12_scheme 157 = .ok (.sipush 11530, 3) := by decide +kernel
theorem dX12_scheme_160 : decode cX12_scheme 160 = .ok (.bipush 9, 2) := by decide +kernel
theorem dX12_scheme_162 : decode cX12_scheme 162 = .ok (.iload 5, 2) := by decide +kernel
theorem dX12_scheme_164 : decode cX12_scheme 164 = .ok (.imul, 1) := by decide +kernel
theorem dX12_scheme_165 : decode cX12_scheme 165 = .ok (.iadd, 1) := by decide +kernel
theorem dX12_scheme_166 : decode cX12_scheme 166 = .ok (.iload 7, 2) := by decide +kernel
theorem dX12_scheme_168 : decode cX12_scheme 168 = .ok (.iadd, 1) := by decide +kernel
theorem dX12_scheme_169 : decode cX12_scheme 169 = .ok (.iload 7, 2) := by decide +kernel
theorem dX12_scheme_171 : decode cX12_scheme 171 = .ok (.bipush 8, 2) := by decide +kernel
theorem dX12_scheme_173 : decode cX12_scheme 173 = .ok (.if_icmp .ne 8, 3) := by decide +kernel
theorem dX12_scheme_176 : decode cX12_scheme 176 = .ok (.iload 4, 2) := by decide +kernel
theorem dX12_scheme_178 : decode cX12_scheme 178 = .ok (.goto 4, 3) := by decide +kernel
theorem dX12_scheme_181 : decode cX12_scheme 181 = .ok (.iconst 0, 1) := by decide +kernel
theorem dX12_scheme_182 : decode cX12_scheme 182 = .ok (.iastore, 1) := by decide +kernel
theorem dX12_scheme_183 : decode cX12_scheme 183 = .ok (.iinc 7 1, 3) := by decide +kernel
theorem dX12_scheme_186 : decode cX12_scheme 186 = .ok (.goto (-40), 3) := by decide +kernel
theorem dX12_scheme_189 : decode cX12_scheme 189 = .ok (.iload 6, 2) := by decide +kernel
theorem dX12_scheme_191 : decode cX12_scheme 191 = .ok (.ireturn, 1) := by decide +kernel
theorem dX12_indexOf_0 : decode cX12_indexOf 0 = .ok (.iconst 0, 1) := by decide +kernel
theorem dX12_indexOf_1 : decode cX12_indexOf 1 = .ok (.istore_n 2, 1) := by decide +kernel
theorem dX12_indexOf_2 : decode cX12_indexOf 2 = .ok (.aload_n 0, 1) := by decide +kernel
theorem dX12_indexOf_3 : decode cX12_indexOf 3 = .ok (.getfield 8, 3) := by decide +kernel
theorem dX12_indexOf_6 : decode cX12_indexOf 6 = .ok (.sipush 11490, 3) := by decide +kernel
theorem dX12_indexOf_9 : decode cX12_indexOf 9 = .ok (.iload_n 2, 1) := by decide +kernel
theorem dX12_indexOf_10 : decode cX12_indexOf 10 = .ok (.iadd, 1) := by decide +kernel
theorem dX12_indexOf_11 : decode cX12_indexOf 11 = .ok (.iaload, 1) := by decide +kernel
theorem dX12_indexOf_12 : decode cX12_indexOf 12 = .ok (.iload_n 1, 1) := by decide +kernel
theorem dX12_indexOf_13 : decode cX12_indexOf 13 = .ok (.if_icmp .eq 9, 3) := by decide +kernel
theorem dX12_indexOf_16 : decode cX12_indexOf 16 = .ok (.iinc 2 1, 3) := by decide +kernel
theorem dX12_indexOf_19 : decode cX12_indexOf 19 = .ok (.goto (-17), 3) := by decide +kernel
theorem dX12_indexOf_22 : decode cX12_indexOf 22 = .ok (.iload_n 2, 1) := by decide +kernel
theorem dX12_indexOf_23 : decode cX12_indexOf 23 = .ok (.ireturn, 1) := by decide +kernel
theorem dX12_isBeside_0 : decode cX12_isBeside 0 = .ok (.iload_n 0, 1) := by decide +kernel
theorem dX12_isBeside_1 : decode cX12_isBeside 1 = .ok (.bipush 10, 2) := by decide +kernel
theorem dX12_isBeside_3 : decode cX12_isBeside 3 = .ok (.irem, 1) := by decide +kernel
theorem dX12_isBeside_4 : decode cX12_isBeside 4 = .ok (.iload_n 1, 1) := by decide +kernel
theorem dX12_isBeside_5 : decode cX12_isBeside 5 = .ok (.bipush 10, 2) := by decide +kernel
theorem dX12_isBeside_7 : decode cX12_isBeside 7 = .ok (.irem, 1) := by decide +kernel
theorem dX12_isBeside_8 : decode cX12_isBeside 8 = .ok (.isub, 1) := by decide +kernel
theorem dX12_isBeside_9 : decode cX12_isBeside 9 = .ok (.istore_n 2, 1) := by decide +kernel
theorem dX12_isBeside_10 : decode cX12_isBeside 10 = .ok (.iload_n 0, 1) := by decide +kernel
theorem dX12_isBeside_11 : decode cX12_isBeside 11 = .ok (.bipush 10, 2) := by decide +kernel
theorem dX12_isBeside_13 : decode cX12_isBeside 13 = .ok (.idiv, 1) := by decide +kernel
theorem dX12_isBeside_14 : decode cX12_isBeside 14 = .ok (.iload_n 1, 1) := by decide +kernel
theorem dX12_isBeside_15 : decode cX12_isBeside 15 = .ok (.bipush 10, 2) := by decide +kernel
theorem dX12_isBeside_17 : decode cX12_isBeside 17 = .ok (.idiv, 1) := by decide +kernel
theorem dX12_isBeside_18 : decode cX12_isBeside 18 = .ok (.isub, 1) := by decide +kernel
theorem dX12_isBeside_19 : decode cX12_isBeside 19 = .ok (.istore_n 3, 1) := by decide +kernel
theorem dX12_isBeside_20 : decode cX12_isBeside 20 = .ok (.iload_n 2, 1) := by decide +kernel
theorem dX12_isBeside_21 : decode cX12_isBeside 21 = .ok (.iload_n 2, 1) := by decide +kernel
theorem dX12_isBeside_22 : decode cX12_isBeside 22 = .ok (.imul, 1) := by decide +kernel
theorem dX12_isBeside_23 : decode cX12_isBeside 23 = .ok (.iload_n 3, 1) := by decide +kernel
theorem dX12_isBeside_24 : decode cX12_isBeside 24 = .ok (.iload_n 3, 1) := by decide +kernel
theorem dX12_isBeside_25 : decode cX12_isBeside 25 = .ok (.imul, 1) := by decide +kernel
theorem dX12_isBeside_26 : decode cX12_isBeside 26 = .ok (.iadd, 1) := by decide +kernel
theorem dX12_isBeside_27 : decode cX12_isBeside 27 = .ok (.iconst 1, 1) := by decide +kernel
theorem dX12_isBeside_28 : decode cX12_isBeside 28 = .ok (.if_icmp .ne 7, 3) := by decide +kernel
theorem dX12_isBeside_31 : decode cX12_isBeside 31 = .ok (.iconst 1, 1) := by decide +kernel
theorem dX12_isBeside_32 : decode cX12_isBeside 32 = .ok (.goto 4, 3) := by decide +kernel
theorem dX12_isBeside_35 : decode cX12_isBeside 35 = .ok (.iconst 0, 1) := by decide +kernel
theorem dX12_isBeside_36 : decode cX12_isBeside 36 = .ok (.ireturn, 1) := by decide +kernel
theorem dX12_isSheet_0 : decode cX12_isSheet 0 = .ok (.iload_n 0, 1) := by decide +kernel
theorem dX12_isSheet_1 : decode cX12_isSheet 1 = .ok (.iconst 0, 1) := by decide +kernel
theorem dX12_isSheet_2 : decode cX12_isSheet 2 = .ok (.iconst 3, 1) := by decide +kernel
theorem dX12_isSheet_3 : decode cX12_isSheet 3 = .ok (.invokestatic 58, 3) := by decide +kernel
theorem dX12_isSheet_6 : decode cX12_isSheet 6 = .ok (.ireturn, 1) := by decide +kernel
theorem dX12_isInWay_0 : decode cX12_isInWay 0 = .ok (.aload_n 0, 1) := by decide +kernel
theorem dX12_isInWay_1 : decode cX12_isInWay 1 = .ok (.iload_n 1, 1) := by decide +kernel
theorem dX12_isInWay_2 : decode cX12_isInWay 2 = .ok (.iload_n 2, 1) := by decide +kernel
theorem dX12_isInWay_3 : decode cX12_isInWay 3 = .ok (.invokevirtual 162, 3) := by decide +kernel
theorem dX12_isInWay_6 : decode cX12_isInWay 6 = .ok (.iconst (-1), 1) := by decide +kernel
theorem dX12_isInWay_7 : decode cX12_isInWay 7 = .ok (.if_icmp .eq 7, 3) := by decide +kernel
theorem dX12_isInWay_10 : decode cX12_isInWay 10 = .ok (.iconst 1, 1) := by decide +kernel
theorem dX12_isInWay_11 : decode cX12_isInWay 11 = .ok (.goto 4, 3) := by decide +kernel
theorem dX12_isInWay_14 : decode cX12_isInWay 14 = .ok (.iconst 0, 1) := by decide +kernel
theorem dX12_isInWay_15 : decode cX12_isInWay 15 = .ok (.ireturn, 1) := by decide +kernel
theorem dX12_placeIn_0 : decode cX12_placeIn 0 = .ok (.iconst 0, 1) := by decide +kernel
theorem dX12_placeIn_1 : decode cX12_placeIn 1 = .ok (.istore_n 3, 1) := by decide +kernel
theorem dX12_placeIn_2 : decode cX12_placeIn 2 = .ok (.iload_n 3, 1) := by decide +kernel
theorem dX12_placeIn_3 : decode cX12_placeIn 3 = .ok (.aload_n 0, 1) := by decide +kernel
theorem dX12_placeIn_4 : decode cX12_placeIn 4 = .ok (.getfield 8, 3) := by decide +kernel
theorem dX12_placeIn_7 : decode cX12_placeIn 7 = .ok (.sipush 850, 3) := by decide +kernel
theorem dX12_placeIn_10 : decode cX12_placeIn 10 = .ok (.iload_n 1, 1) := by decide +kernel
theorem dX12_placeIn_11 : decode cX12_placeIn 11 = .ok (.iadd, 1) := by decide +kernel
theorem dX12_placeIn_12 : decode cX12_placeIn 12 = .ok (.iaload, 1) := by decide +kernel
theorem dX12_placeIn_13 : decode cX12_placeIn 13 = .ok (.if_icmp .ge 30, 3) := by decide +kernel
theorem dX12_placeIn_16 : decode cX12_placeIn 16 = .ok (.aload_n 0, 1) := by decide +kernel
theorem dX12_placeIn_17 : decode cX12_placeIn 17 = .ok (.getfield 8, 3) := by decide +kernel
theorem dX12_placeIn_20 : decode cX12_placeIn 20 = .ok (.sipush 4700, 3) := by decide +kernel
theorem dX12_placeIn_23 : decode cX12_placeIn 23 = .ok (.bipush 41, 2) := by decide +kernel
theorem dX12_placeIn_25 : decode cX12_placeIn 25 = .ok (.iload_n 1, 1) := by decide +kernel
theorem dX12_placeIn_26 : decode cX12_placeIn 26 = .ok (.imul, 1) := by decide +kernel
theorem dX12_placeIn_27 : decode cX12_placeIn 27 = .ok (.iadd, 1) := by decide +kernel
theorem dX12_placeIn_28 : decode cX12_placeIn 28 = .ok (.iload_n 3, 1) := by decide +kernel
theorem dX12_placeIn_29 : decode cX12_placeIn 29 = .ok (.iadd, 1) := by decide +kernel
theorem dX12_placeIn_30 : decode cX12_placeIn 30 = .ok (.iaload, 1) := by decide +kernel
theorem dX12_placeIn_31 : decode cX12_placeIn 31 = .ok (.iload_n 2, 1) := by decide +kernel
theorem dX12_placeIn_32 : decode cX12_placeIn 32 = .ok (.if_icmp .ne 5, 3) := by decide +kernel
theorem dX12_placeIn_35 : decode cX12_placeIn 35 = .ok (.iload_n 3, 1) := by decide +kernel
theorem dX12_placeIn_36 : decode cX12_placeIn 36 = .ok (.ireturn, 1) := by decide +kernel
theorem dX12_placeIn_37 : decode cX12_placeIn 37 = .ok (.iinc 3 1, 3) := by decide +kernel
theorem dX12_placeIn_40 : decode cX12_placeIn 40 = .ok (.goto (-38), 3) := by decide +kernel
theorem dX12_placeIn_43 : decode cX12_placeIn 43 = .ok (.iconst (-1), 1) := by decide +kernel
theorem dX12_placeIn_44 : decode cX12_placeIn 44 = .ok (.ireturn, 1) := by decide +kernel
theorem dX12_chain_0 : decode cX12_chain 0 = .ok (.aload_n 0, 1) := by decide +kernel
theorem dX12_chain_1 : decode cX12_chain 1 = .ok (.iload_n 1, 1) := by decide +kernel
theorem dX12_chain_2 : decode cX12_chain 2 = .ok (.iconst 1, 1) := by decide +kernel
theorem dX12_chain_3 : decode cX12_chain 3 = .ok (.invokevirtual 165, 3) := by decide +kernel
theorem dX12_chain_6 : decode cX12_chain 6 = .ok (.ifCond .eq 17, 3) := by decide +kernel
theorem dX12_chain_9 : decode cX12_chain 9 = .ok (.iload_n 2, 1) := by decide +kernel
theorem dX12_chain_10 : decode cX12_chain 10 = .ok (.invokestatic 168, 3) := by decide +kernel
theorem dX12_chain_13 : decode cX12_chain 13 = .ok (.ifCond .eq 10, 3) := by decide +kernel
theorem dX12_chain_16 : decode cX12_chain 16 = .ok (.iload_n 3, 1) := by decide +kernel
theorem dX12_chain_17 : decode cX12_chain 17 = .ok (.invokestatic 168, 3) := by decide +kernel
theorem dX12_chain_20 : decode cX12_chain 20 = .ok (.ifCond .ne 5, 3) := by decide +kernel
theorem dX12_chain_23 : decode cX12_chain 23 = .ok (.iconst (-1), 1) := by decide +kernel
theorem dX12_chain_24 : decode cX12_chain 24 = .ok (.ireturn, 1) := by decide +kernel
theorem dX12_chain_25 : decode cX12_chain 25 = .ok (.aload_n 0, 1) := by decide +kernel
theorem dX12_chain_26 : decode cX12_chain 26 = .ok (.getfield 8, 3) := by decide +kernel
theorem dX12_chain_29 : decode cX12_chain 29 = .ok (.sipush 200, 3) := by decide +kernel
theorem dX12_chain_32 : decode cX12_chain 32 = .ok (.iload_n 2, 1) := by decide +kernel
theorem dX12_chain_33 : decode cX12_chain 33 = .ok (.iadd, 1) := by decide +kernel
theorem dX12_chain_34 : decode cX12_chain 34 = .ok (.iaload, 1) := by decide +kernel
theorem dX12_chain_35 : decode cX12_chain 35 = .ok (.iconst (-1), 1) := by decide +kernel
theorem dX12_chain_36 : decode cX12_chain 36 = .ok (.if_icmp .ne 6, 3) := by decide +kernel
theorem dX12_chain_39 : decode cX12_chain 39 = .ok (.bipush (-11), 2) := by decide +kernel
theorem dX12_chain_41 : decode cX12_chain 41 = .ok (.ireturn, 1) := by decide +kernel
theorem dX12_chain_42 : decode cX12_chain 42 = .ok (.aload_n 0, 1) := by decide +kernel
theorem dX12_chain_43 : decode cX12_chain 43 = .ok (.getfield 8, 3) := by decide +kernel
theorem dX12_chain_46 : decode cX12_chain 46 = .ok (.sipush 200, 3) := by decide +kernel
theorem dX12_chain_49 : decode cX12_chain 49 = .ok (.iload_n 2, 1) := by decide +kernel
theorem dX12_chain_50 : decode cX12_chain 50 = .ok (.iadd, 1) := by decide +kernel
theorem dX12_chain_51 : decode cX12_chain 51 = .ok (.iaload, 1) := by decide +kernel
theorem dX12_chain_52 : decode cX12_chain 52 = .ok (.ifCond .eq 6, 3) := by decide +kernel
theorem dX12_chain_55 : decode cX12_chain 55 = .ok (.bipush (-13), 2) := by decide +kernel
theorem dX12_chain_57 : decode cX12_chain 57 = .ok (.ireturn, 1) := by decide +kernel
theorem dX12_chain_58 : decode cX12_chain 58 = .ok (.aload_n 0, 1) := by decide +kernel
theorem dX12_chain_59 : decode cX12_chain 59 = .ok (.getfield 8, 3) := by decide +kernel
theorem dX12_chain_62 : decode cX12_chain 62 = .ok (.iconst 2, 1) := by decide +kernel
theorem dX12_chain_63 : decode cX12_chain 63 = .ok (.iaload, 1) := by decide +kernel
theorem dX12_chain_64 : decode cX12_chain 64 = .ok (.bipush 60, 2) := by decide +kernel
theorem dX12_chain_66 : decode cX12_chain 66 = .ok (.if_icmp .ne 6, 3) := by decide +kernel
theorem dX12_chain_69 : decode cX12_chain 69 = .ok (.bipush (-4), 2) := by decide +kernel
theorem dX12_chain_71 : decode cX12_chain 71 = .ok (.ireturn, 1) := by decide +kernel
theorem dX12_chain_72 : decode cX12_chain 72 = .ok (.aload_n 0, 1) := by decide +kernel
theorem dX12_chain_73 : decode cX12_chain 73 = .ok (.getfield 8, 3) := by decide +kernel
theorem dX12_chain_76 : decode cX12_chain 76 = .ok (.sipush 180, 3) := by decide +kernel
theorem dX12_chain_79 : decode cX12_chain 79 = .ok (.aload_n 0, 1) := by decide +kernel
theorem dX12_chain_80 : decode cX12_chain 80 = .ok (.getfield 8, 3) := by decide +kernel
theorem dX12_chain_83 : decode cX12_chain 83 = .ok (.sipush 550, 3) := by decide +kernel
theorem dX12_chain_86 : decode cX12_chain 86 = .ok (.iload_n 1, 1) := by decide +kernel
theorem dX12_chain_87 : decode cX12_chain 87 = .ok (.iadd, 1) := by decide +kernel
theorem dX12_chain_88 : decode cX12_chain 88 = .ok (.iaload, 1) := by decide +kernel
theorem dX12_chain_89 : decode cX12_chain 89 = .ok (.iadd, 1) := by decide +kernel
theorem dX12_chain_90 : decode cX12_chain 90 = .ok (.iaload, 1) := by decide +kernel
theorem dX12_chain_91 : decode cX12_chain 91 = .ok (.istore 4, 2) := by decide +kernel
theorem dX12_chain_93 : decode cX12_chain 93 = .ok (.aload_n 0, 1) := by decide +kernel
theorem dX12_chain_94 : decode cX12_chain 94 = .ok (.getfield 8, 3) := by decide +kernel
theorem dX12_chain_97 : decode cX12_chain 97 = .ok (.sipush 180, 3) := by decide +kernel
theorem dX12_chain_100 : decode cX12_chain 100 = .ok (.aload_n 0, 1) := by decide +kernel
theorem dX12_chain_101 : decode cX12_chain 101 = .ok (.getfield 8, 3) := by decide +kernel
theorem dX12_chain_104 : decode cX12_chain 104 = .ok (.sipush 610, 3) := by decide +kernel
theorem dX12_chain_107 : decode cX12_chain 107 = .ok (.iload_n 1, 1) := by decide +kernel
theorem dX12_chain_108 : decode cX12_chain 108 = .ok (.iadd, 1) := by decide +kernel
theorem dX12_chain_109 : decode cX12_chain 109 = .ok (.iaload, 1) := by decide +kernel
theorem dX12_chain_110 : decode cX12_chain 110 = .ok (.iadd, 1) := by decide +kernel
theorem dX12_chain_111 : decode cX12_chain 111 = .ok (.iaload, 1) := by decide +kernel
theorem dX12_chain_112 : decode cX12_chain 112 = .ok (.istore 5, 2) := by decide +kernel
theorem dX12_chain_114 : decode cX12_chain 114 = .ok (.aload_n 0, 1) := by decide +kernel
theorem dX12_chain_115 : decode cX12_chain 115 = .ok (.iconst 2, 1) := by decide +kernel
theorem dX12_chain_116 : decode cX12_chain 116 = .ok (.iload_n 1, 1) := by decide +kernel
theorem dX12_chain_117 : decode cX12_chain 117 = .ok (.aload_n 0, 1) := by decide +kernel
theorem dX12_chain_118 : decode cX12_chain 118 = .ok (.getfield 8, 3) := by decide +kernel
theorem dX12_chain_121 : decode cX12_chain 121 = .ok (.sipush 550, 3) := by decide +kernel
theorem dX12_chain_124 : decode cX12_chain 124 = .ok (.iload_n 1, 1) := by decide +kernel
theorem dX12_chain_125 : decode cX12_chain 125 = .ok (.iadd, 1) := by decide +kernel
theorem dX12_chain_126 : decode cX12_chain 126 = .ok (.iaload, 1) := by decide +kernel
theorem dX12_chain_127 : decode cX12_chain 127 = .ok (.aload_n 0, 1) := by decide +kernel
theorem dX12_chain_128 : decode cX12_chain 128 = .ok (.getfield 8, 3) := by decide +kernel
theorem dX12_chain_131 : decode cX12_chain 131 = .ok (.sipush 610, 3) := by decide +kernel
theorem dX12_chain_134 : decode cX12_chain 134 = .ok (.iload_n 1, 1) := by decide +kernel
theorem dX12_chain_135 : decode cX12_chain 135 = .ok (.iadd, 1) := by decide +kernel
theorem dX12_chain_136 : decode cX12_chain 136 = .ok (.iaload, 1) := by decide +kernel
theorem dX12_chain_137 : decode cX12_chain 137 = .ok (.aload_n 0, 1) := by decide +kernel
theorem dX12_chain_138 : decode cX12_chain 138 = .ok (.getfield 8, 3) := by decide +kernel
theorem dX12_chain_141 : decode cX12_chain 141 = .ok (.sipush 670, 3) := by decide +kernel
theorem dX12_chain_144 : decode cX12_chain 144 = .ok (.iload_n 1, 1) := by decide +kernel
theorem dX12_chain_145 : decode cX12_chain 145 = .ok (.iadd, 1) := by decide +kernel
theorem dX12_chain_146 : decode cX12_chain 146 = .ok (.iaload, 1) := by decide +kernel
theorem dX12_chain_147 : decode cX12_chain 147 = .ok (.iconst (-1), 1) := by decide +kernel
theorem dX12_chain_148 : decode cX12_chain 148 = .ok (.invokevirtual 158, 3) := by decide +kernel
theorem dX12_chain_151 : decode cX12_chain 151 = .ok (.istore 6, 2) := by decide +kernel
theorem dX12_chain_153 : decode cX12_chain 153 = .ok (.aload_n 0, 1) := by decide +kernel
theorem dX12_chain_154 : decode cX12_chain 154 = .ok (.getfield 8, 3) := by decide +kernel
theorem dX12_chain_157 : decode cX12_chain 157 = .ok (.sipush 850, 3) := by decide +kernel
theorem dX12_chain_160 : decode cX12_chain 160 = .ok (.iload 6, 2) := by decide +kernel
theorem dX12_chain_162 : decode cX12_chain 162 = .ok (.iadd, 1) := by decide +kernel
theorem dX12_chain_163 : decode cX12_chain 163 = .ok (.iconst 0, 1) := by decide +kernel
theorem dX12_chain_164 : decode cX12_chain 164 = .ok (.iastore, 1) := by decide +kernel
theorem dX12_chain_165 : decode cX12_chain 165 = .ok (.iconst 0, 1) := by decide +kernel
theorem dX12_chain_166 : decode cX12_chain 166 = .ok (.istore 7, 2) := by decide +kernel
theorem dX12_chain_168 : decode cX12_chain 168 = .ok (.iconst 1, 1) := by decide +kernel
theorem dX12_chain_169 : decode cX12_chain 169 = .ok (.istore 8, 2) := by decide +kernel
theorem dX12_chain_171 : decode cX12_chain 171 = .ok (.iload 8, 2) := by decide +kernel
theorem dX12_chain_173 : decode cX12_chain 173 = .ok (.ifCond .eq 219, 3) := by decide +kernel
theorem dX12_chain_176 : decode cX12_chain 176 = .ok (.iload 7, 2) := by decide +kernel
theorem dX12_chain_178 : decode cX12_chain 178 = .ok (.aload_n 0, 1) := by decide +kernel
theorem dX12_chain_179 : decode cX12_chain 179 = .ok (.getfield 8, 3) := by decide +kernel
theorem dX12_chain_182 : decode cX12_chain 182 = .ok (.sipush 204, 3) := by decide +kernel
theorem dX12_chain_185 : decode cX12_chain 185 = .ok (.iload_n 2, 1) := by decide +kernel
theorem dX12_chain_186 : decode cX12_chain 186 = .ok (.iadd, 1) := by decide +kernel
theorem dX12_chain_187 : decode cX12_chain 187 = .ok (.iaload, 1) := by decide +kernel
theorem dX12_chain_188 : decode cX12_chain 188 = .ok (.if_icmp .ge 22, 3) := by decide +kernel
theorem dX12_chain_191 : decode cX12_chain 191 = .ok (.aload_n 0, 1) := by decide +kernel
theorem dX12_chain_192 : decode cX12_chain 192 = .ok (.getfield 8, 3) := by decide +kernel
theorem dX12_chain_195 : decode cX12_chain 195 = .ok (.sipush 208, 3) := by decide +kernel
theorem dX12_chain_198 : decode cX12_chain 198 = .ok (.bipush 40, 2) := by decide +kernel
theorem dX12_chain_200 : decode cX12_chain 200 = .ok (.iload_n 2, 1) := by decide +kernel
theorem dX12_chain_201 : decode cX12_chain 201 = .ok (.imul, 1) := by decide +kernel
theorem dX12_chain_202 : decode cX12_chain 202 = .ok (.iadd, 1) := by decide +kernel
theorem dX12_chain_203 : decode cX12_chain 203 = .ok (.iload 7, 2) := by decide +kernel
theorem dX12_chain_205 : decode cX12_chain 205 = .ok (.iadd, 1) := by decide +kernel
theorem dX12_chain_206 : decode cX12_chain 206 = .ok (.iaload, 1) := by decide +kernel
theorem dX12_chain_207 : decode cX12_chain 207 = .ok (.goto 4, 3) := by decide +kernel
theorem dX12_chain_210 : decode cX12_chain 210 = .ok (.iconst (-1), 1) := by decide +kernel
theorem dX12_chain_211 : decode cX12_chain 211 = .ok (.istore 9, 2) := by decide +kernel
theorem dX12_chain_213 : decode cX12_chain 213 = .ok (.iload 9, 2) := by decide +kernel
theorem dX12_chain_215 : decode cX12_chain 215 = .ok (.invokestatic 66, 3) := by decide +kernel
theorem dX12_chain_218 : decode cX12_chain 218 = .ok (.ifCond .eq 60, 3) := by decide +kernel
theorem dX12_chain_221 : decode cX12_chain 221 = .ok (.iload 7, 2) := by decide +kernel
theorem dX12_chain_223 : decode cX12_chain 223 = .ok (.ifCond .ne 13, 3) := by decide +kernel
theorem dX12_chain_226 : decode cX12_chain 226 = .ok (.iload 9, 2) := by decide +kernel
theorem dX12_chain_228 : decode cX12_chain 228 = .ok (.iload 4, 2) := by decide +kernel
theorem dX12_chain_230 : decode cX12_chain 230 = .ok (.if_icmp .ne 48, 3) := by decide +kernel
theorem dX12_chain_233 : decode cX12_chain 233 = .ok (.goto 41, 3) := by decide +kernel
theorem dX12_chain_236 : decode cX12_chain 236 = .ok (.iload 9, 2) := by decide +kernel
theorem dX12_chain_238 : decode cX12_chain 238 = .ok (.aload_n 0, 1) := by decide +kernel
theorem dX12_chain_239 : decode cX12_chain 239 = .ok (.getfield 8, 3) := by decide +kernel
theorem dX12_chain_242 : decode cX12_chain 242 = .ok (.sipush 4700, 3) := by decide +kernel
theorem dX12_chain_245 : decode cX12_chain 245 = .ok (.bipush 41, 2) := by decide +kernel
theorem dX12_chain_247 : decode cX12_chain 247 = .ok (.iload 6, 2) := by decide +kernel
theorem dX12_chain_249 : decode cX12_chain 249 = .ok (.imul, 1) := by decide +kernel
theorem dX12_chain_250 : decode cX12_chain 250 = .ok (.iadd, 1) := by decide +kernel
theorem dX12_chain_251 : decode cX12_chain 251 = .ok (.iload 7, 2) := by decide +kernel
theorem dX12_chain_253 : decode cX12_chain 253 = .ok (.iadd, 1) := by decide +kernel
theorem dX12_chain_254 : decode cX12_chain 254 = .ok (.iconst 1, 1) := by decide +kernel
theorem dX12_chain_255 : decode cX12_chain 255 = .ok (.isub, 1) := by decide +kernel
theorem dX12_chain_256 : decode cX12_chain 256 = .ok (.iaload, 1) := by decide +kernel
theorem dX12_chain_257 : decode cX12_chain 257 = .ok (.invokestatic 171, 3) := by decide +kernel
theorem dX12_chain_260 : decode cX12_chain 260 = .ok (.ifCond .eq 18, 3) := by decide +kernel
theorem dX12_chain_263 : decode cX12_chain 263 = .ok (.aload_n 0, 1) := by decide +kernel
theorem dX12_chain_264 : decode cX12_chain 264 = .ok (.iload 6, 2) := by decide +kernel
theorem dX12_chain_266 : decode cX12_chain 266 = .ok (.iload 9, 2) := by decide +kernel
theorem dX12_chain_268 : decode cX12_chain 268 = .ok (.invokevirtual 174, 3) := by decide +kernel
theorem dX12_chain_271 : decode cX12_chain 271 = .ok (.ifCond .ne 7, 3) := by decide +kernel
theorem dX12_chain_274 : decode cX12_chain 274 = .ok (.iconst 1, 1) := by decide +kernel
theorem dX12_chain_275 : decode cX12_chain 275 = .ok (.goto 4, 3) := by decide +kernel
theorem dX12_chain_278 : decode cX12_chain 278 = .ok (.iconst 0, 1) := by decide +kernel
theorem dX12_chain_279 : decode cX12_chain 279 = .ok (.istore 10, 2) := by decide +kernel
theorem dX12_chain_281 : decode cX12_chain 281 = .ok (.iload 10, 2) := by decide +kernel
theorem dX12_chain_283 : decode cX12_chain 283 = .ok (.ifCond .eq 64, 3) := by decide +kernel
theorem dX12_chain_286 : decode cX12_chain 286 = .ok (.aload_n 0, 1) := by decide +kernel
theorem dX12_chain_287 : decode cX12_chain 287 = .ok (.getfield 8, 3) := by decide +kernel
theorem dX12_chain_290 : decode cX12_chain 290 = .ok (.sipush 4700, 3) := by decide +kernel
theorem dX12_chain_293 : decode cX12_chain 293 = .ok (.bipush 41, 2) := by decide +kernel
theorem dX12_chain_295 : decode cX12_chain 295 = .ok (.iload 6, 2) := by decide +kernel
theorem dX12_chain_297 : decode cX12_chain 297 = .ok (.imul, 1) := by decide +kernel
theorem dX12_chain_298 : decode cX12_chain 298 = .ok (.iadd, 1) := by decide +kernel
theorem dX12_chain_299 : decode cX12_chain 299 = .ok (.iload 7, 2) := by decide +kernel
theorem dX12_chain_301 : decode cX12_chain 301 = .ok (.iadd, 1) := by decide +kernel
theorem dX12_chain_302 : decode cX12_chain 302 = .ok (.iload 9, 2) := by decide +kernel
theorem dX12_chain_304 : decode cX12_chain 304 = .ok (.iastore, 1) := by decide +kernel
theorem dX12_chain_305 : decode cX12_chain 305 = .ok (.aload_n 0, 1) := by decide +kernel
theorem dX12_chain_306 : decode cX12_chain 306 = .ok (.getfield 8, 3) := by decide +kernel
theorem dX12_chain_309 : decode cX12_chain 309 = .ok (.sipush 7160, 3) := by decide +kernel
theorem dX12_chain_312 : decode cX12_chain 312 = .ok (.bipush 41, 2) := by decide +kernel
theorem dX12_chain_314 : decode cX12_chain 314 = .ok (.iload 6, 2) := by decide +kernel
theorem dX12_chain_316 : decode cX12_chain 316 = .ok (.imul, 1) := by decide +kernel
theorem dX12_chain_317 : decode cX12_chain 317 = .ok (.iadd, 1) := by decide +kernel
theorem dX12_chain_318 : decode cX12_chain 318 = .ok (.iload 7, 2) := by decide +kernel
theorem dX12_chain_320 : decode cX12_chain 320 = .ok (.iadd, 1) := by decide +kernel
theorem dX12_chain_321 : decode cX12_chain 321 = .ok (.aload_n 0, 1) := by decide +kernel
theorem dX12_chain_322 : decode cX12_chain 322 = .ok (.iload 6, 2) := by decide +kernel
theorem dX12_chain_324 : decode cX12_chain 324 = .ok (.iload 7, 2) := by decide +kernel
theorem dX12_chain_326 : decode cX12_chain 326 = .ok (.iload_n 3, 1) := by decide +kernel
theorem dX12_chain_327 : decode cX12_chain 327 = .ok (.invokevirtual 177, 3) := by decide +kernel
theorem dX12_chain_330 : decode cX12_chain 330 = .ok (.iastore, 1) := by decide +kernel
theorem dX12_chain_331 : decode cX12_chain 331 = .ok (.iinc 7 1, 3) := by decide +kernel
theorem dX12_chain_334 : decode cX12_chain 334 = .ok (.aload_n 0, 1) := by decide +kernel
theorem dX12_chain_335 : decode cX12_chain 335 = .ok (.getfield 8, 3) := by decide +kernel
theorem dX12_chain_338 : decode cX12_chain 338 = .ok (.sipush 850, 3) := by decide +kernel
theorem dX12_chain_341 : decode cX12_chain 341 = .ok (.iload 6, 2) := by decide +kernel
theorem dX12_chain_343 : decode cX12_chain 343 = .ok (.iadd, 1) := by decide +kernel
theorem dX12_chain_344 : decode cX12_chain 344 = .ok (.iload 7, 2) := by decide +kernel
theorem dX12_chain_346 : decode cX12_chain 346 = .ok (.iastore, 1) := by decide +kernel
theorem dX12_chain_347 : decode cX12_chain 347 = .ok (.iload 10, 2) := by decide +kernel
theorem dX12_chain_349 : decode cX12_chain 349 = .ok (.ifCond .eq 14, 3) := by decide +kernel
theorem dX12_chain_352 : decode cX12_chain 352 = .ok (.iload 9, 2) := by decide +kernel
theorem dX12_chain_354 : decode cX12_chain 354 = .ok (.iload 5, 2) := by decide +kernel
theorem dX12_chain_356 : decode cX12_chain 356 = .ok (.if_icmp .eq 7, 3) := by decide +kernel
theorem dX12_chain_359 : decode cX12_chain 359 = .ok (.iconst 1, 1) := by decide +kernel
theorem dX12_chain_360 : decode cX12_chain 360 = .ok (.goto 4, 3) := by decide +kernel
theorem dX12_chain_363 : decode cX12_chain 363 = .ok (.iconst 0, 1) := by decide +kernel
theorem dX12_chain_364 : decode cX12_chain 364 = .ok (.istore 8, 2) := by decide +kernel
theorem dX12_chain_366 : decode cX12_chain 366 = .ok (.aload_n 0, 1) := by decide +kernel
theorem dX12_chain_367 : decode cX12_chain 367 = .ok (.getfield 8, 3) := by decide +kernel
theorem dX12_chain_370 : decode cX12_chain 370 = .ok (.sipush 910, 3) := by decide +kernel
theorem dX12_chain_373 : decode cX12_chain 373 = .ok (.iload 6, 2) := by decide +kernel
theorem dX12_chain_375 : decode cX12_chain 375 = .ok (.iadd, 1) := by decide +kernel
theorem dX12_chain_376 : decode cX12_chain 376 = .ok (.iload 10, 2) := by decide +kernel
theorem dX12_chain_378 : decode cX12_chain 378 = .ok (.ifCond .eq 8, 3) := by decide +kernel
theorem dX12_chain_381 : decode cX12_chain 381 = .ok (.bipush (-5), 2) := by decide +kernel
theorem dX12_chain_383 : decode cX12_chain 383 = .ok (.goto 5, 3) := by decide +kernel
theorem dX12_chain_386 : decode cX12_chain 386 = .ok (.iload 7, 2) := by decide +kernel
theorem dX12_chain_388 : decode cX12_chain 388 = .ok (.iastore, 1) := by decide +kernel
theorem dX12_chain_389 : decode cX12_chain 389 = .ok (.goto (-218), 3) := by decide +kernel
theorem dX12_chain_392 : decode cX12_chain 392 = .ok (.iload 6, 2) := by decide +kernel
theorem dX12_chain_394 : decode cX12_chain 394 = .ok (.ireturn, 1) := by decide +kernel
theorem dX12_levelOf_0 : decode cX12_levelOf 0 = .ok (.sipush 4700, 3) := by decide +kernel
theorem dX12_levelOf_3 : decode cX12_levelOf 3 = .ok (.bipush 41, 2) := by decide +kernel
theorem dX12_levelOf_5 : decode cX12_levelOf 5 = .ok (.iload_n 1, 1) := by decide +kernel
theorem dX12_levelOf_6 : decode cX12_levelOf 6 = .ok (.imul, 1) := by decide +kernel
theorem dX12_levelOf_7 : decode cX12_levelOf 7 = .ok (.iadd, 1) := by decide +kernel
theorem dX12_levelOf_8 : decode cX12_levelOf 8 = .ok (.iload_n 2, 1) := by decide +kernel
theorem dX12_levelOf_9 : decode cX12_levelOf 9 = .ok (.iadd, 1) := by decide +kernel
theorem dX12_levelOf_10 : decode cX12_levelOf 10 = .ok (.istore 4, 2) := by decide +kernel
theorem dX12_levelOf_12 : decode cX12_levelOf 12 = .ok (.iload_n 2, 1) := by decide +kernel
theorem dX12_levelOf_13 : decode cX12_levelOf 13 = .ok (.ifCond .ne 19, 3) := by decide +kernel
theorem dX12_levelOf_16 : decode cX12_levelOf 16 = .ok (.aload_n 0, 1) := by decide +kernel
theorem dX12_levelOf_17 : decode cX12_levelOf 17 = .ok (.getfield 8, 3) := by decide +kernel
theorem dX12_levelOf_20 : decode cX12_levelOf 20 = .ok (.bipush 20, 2) := by decide +kernel
theorem dX12_levelOf_22 : decode cX12_levelOf 22 = .ok (.aload_n 0, 1) := by decide +kernel
theorem dX12_levelOf_23 : decode cX12_levelOf 23 = .ok (.getfield 8, 3) := by decide +kernel
theorem dX12_levelOf_26 : decode cX12_levelOf 26 = .ok (.iload 4, 2) := by decide +kernel
theorem dX12_levelOf_28 : decode cX12_levelOf 28 = .ok (.iaload, 1) := by decide +kernel
theorem dX12_levelOf_29 : decode cX12_levelOf 29 = .ok (.iadd, 1) := by decide +kernel
theorem dX12_levelOf_30 : decode cX12_levelOf 30 = .ok (.iaload, 1) := by decide +kernel
theorem dX12_levelOf_31 : decode cX12_levelOf 31 = .ok (.ireturn, 1) := by decide +kernel
theorem dX12_levelOf_32 : decode cX12_levelOf 32 = .ok (.aload_n 0, 1) := by decide +kernel
theorem dX12_levelOf_33 : decode cX12_levelOf 33 = .ok (.getfield 8, 3) := by decide +kernel
theorem dX12_levelOf_36 : decode cX12_levelOf 36 = .ok (.sipush 7160, 3) := by decide +kernel
theorem dX12_levelOf_39 : decode cX12_levelOf 39 = .ok (.bipush 41, 2) := by decide +kernel
theorem dX12_levelOf_41 : decode cX12_levelOf 41 = .ok (.iload_n 1, 1) := by decide +kernel
theorem dX12_levelOf_42 : decode cX12_levelOf 42 = .ok (.imul, 1) := by decide +kernel
theorem dX12_levelOf_43 : decode cX12_levelOf 43 = .ok (.iadd, 1) := by decide +kernel
theorem dX12_levelOf_44 : decode cX12_levelOf 44 = .ok (.iload_n 2, 1) := by decide +kernel
theorem dX12_levelOf_45 : decode cX12_levelOf 45 = .ok (.iadd, 1) := by decide +kernel
theorem dX12_levelOf_46 : decode cX12_levelOf 46 = .ok (.iconst 1, 1) := by decide +kernel
theorem dX12_levelOf_47 : decode cX12_levelOf 47 = .ok (.isub, 1) := by decide +kernel
theorem dX12_levelOf_48 : decode cX12_levelOf 48 = .ok (.iaload, 1) := by decide +kernel
theorem dX12_levelOf_49 : decode cX12_levelOf 49 = .ok (.istore 5, 2) := by decide +kernel
theorem dX12_levelOf_51 : decode cX12_levelOf 51 = .ok (.iload 5, 2) := by decide +kernel
theorem dX12_levelOf_53 : decode cX12_levelOf 53 = .ok (.ldc 181, 2) := by decide +kernel
theorem dX12_levelOf_55 : decode cX12_levelOf 55 = .ok (.if_icmp .eq 33, 3) := by decide +kernel
theorem dX12_levelOf_58 : decode cX12_levelOf 58 = .ok (.aload_n 0, 1) := by decide +kernel
theorem dX12_levelOf_59 : decode cX12_levelOf 59 = .ok (.getfield 8, 3) := by decide +kernel
theorem dX12_levelOf_62 : decode cX12_levelOf 62 = .ok (.sipush 200, 3) := by decide +kernel
theorem dX12_levelOf_65 : decode cX12_levelOf 65 = .ok (.iload_n 3, 1) := by decide +kernel
theorem dX12_levelOf_66 : decode cX12_levelOf 66 = .ok (.iadd, 1) := by decide +kernel
theorem dX12_levelOf_67 : decode cX12_levelOf 67 = .ok (.iaload, 1) := by decide +kernel
theorem dX12_levelOf_68 : decode cX12_levelOf 68 = .ok (.iconst 2, 1) := by decide +kernel
theorem dX12_levelOf_69 : decode cX12_levelOf 69 = .ok (.if_icmp .ne 19, 3) := by decide +kernel
theorem dX12_levelOf_72 : decode cX12_levelOf 72 = .ok (.iload_n 2, 1) := by decide +kernel
theorem dX12_levelOf_73 : decode cX12_levelOf 73 = .ok (.iconst 1, 1) := by decide +kernel
theorem dX12_levelOf_74 : decode cX12_levelOf 74 = .ok (.isub, 1) := by decide +kernel
theorem dX12_levelOf_75 : decode cX12_levelOf 75 = .ok (.aload_n 0, 1) := by decide +kernel
theorem dX12_levelOf_76 : decode cX12_levelOf 76 = .ok (.getfield 8, 3) := by decide +kernel
theorem dX12_levelOf_79 : decode cX12_levelOf 79 = .ok (.sipush 204, 3) := by decide +kernel
theorem dX12_levelOf_82 : decode cX12_levelOf 82 = .ok (.iload_n 3, 1) := by decide +kernel
theorem dX12_levelOf_83 : decode cX12_levelOf 83 = .ok (.iadd, 1) := by decide +kernel
theorem dX12_levelOf_84 : decode cX12_levelOf 84 = .ok (.iaload, 1) := by decide +kernel
theorem dX12_levelOf_85 : decode cX12_levelOf 85 = .ok (.if_icmp .lt 6, 3) := by decide +kernel
theorem dX12_levelOf_88 : decode cX12_levelOf 88 = .ok (.ldc 181, 2) := by decide +kernel
theorem dX12_levelOf_90 : decode cX12_levelOf 90 = .ok (.ireturn, 1) := by decide +kernel
theorem dX12_levelOf_91 : decode cX12_levelOf 91 = .ok (.aload_n 0, 1) := by decide +kernel
theorem dX12_levelOf_92 : decode cX12_levelOf 92 = .ok (.getfield 8, 3) := by decide +kernel
theorem dX12_levelOf_95 : decode cX12_levelOf 95 = .ok (.sipush 208, 3) := by decide +kernel
theorem dX12_levelOf_98 : decode cX12_levelOf 98 = .ok (.bipush 40, 2) := by decide +kernel
theorem dX12_levelOf_100 : decode cX12_levelOf 100 = .ok (.iload_n 3, 1) := by decide +kernel
theorem dX12_levelOf_101 : decode cX12_levelOf 101 = .ok (.imul, 1) := by decide +kernel
theorem dX12_levelOf_102 : decode cX12_levelOf 102 = .ok (.iadd, 1) := by decide +kernel
theorem dX12_levelOf_103 : decode cX12_levelOf 103 = .ok (.iload_n 2, 1) := by decide +kernel
theorem dX12_levelOf_104 : decode cX12_levelOf 104 = .ok (.iadd, 1) := by decide +kernel
theorem dX12_levelOf_105 : decode cX12_levelOf 105 = .ok (.iconst 1, 1) := by decide +kernel
theorem dX12_levelOf_106 : decode cX12_levelOf 106 = .ok (.isub, 1) := by decide +kernel
theorem dX12_levelOf_107 : decode cX12_levelOf 107 = .ok (.iaload, 1) := by decide +kernel
theorem dX12_levelOf_108 : decode cX12_levelOf 108 = .ok (.istore 6, 2) := by decide +kernel
theorem dX12_levelOf_110 : decode cX12_levelOf 110 = .ok (.iload 6, 2) := by decide +kernel
theorem dX12_levelOf_112 : decode cX12_levelOf 112 = .ok (.ldc 182, 2) := by decide +kernel
theorem dX12_levelOf_114 : decode cX12_levelOf 114 = .ok (.if_icmp .ne 39, 3) := by decide +kernel
theorem dX12_levelOf_117 : decode cX12_levelOf 117 = .ok (.aload_n 0, 1) := by decide +kernel
theorem dX12_levelOf_118 : decode cX12_levelOf 118 = .ok (.getfield 8, 3) := by decide +kernel
theorem dX12_levelOf_121 : decode cX12_levelOf 121 = .ok (.bipush 20, 2) := by decide +kernel
theorem dX12_levelOf_123 : decode cX12_levelOf 123 = .ok (.aload_n 0, 1) := by decide +kernel
theorem dX12_levelOf_124 : decode cX12_levelOf 124 = .ok (.getfield 8, 3) := by decide +kernel
theorem dX12_levelOf_127 : decode cX12_levelOf 127 = .ok (.iload 4, 2) := by decide +kernel
theorem dX12_levelOf_129 : decode cX12_levelOf 129 = .ok (.iaload, 1) := by decide +kernel
theorem dX12_levelOf_130 : decode cX12_levelOf 130 = .ok (.iadd, 1) := by decide +kernel
theorem dX12_levelOf_131 : decode cX12_levelOf 131 = .ok (.iaload, 1) := by decide +kernel
theorem dX12_levelOf_132 : decode cX12_levelOf 132 = .ok (.aload_n 0, 1) := by decide +kernel
theorem dX12_levelOf_133 : decode cX12_levelOf 133 = .ok (.getfield 8, 3) := by decide +kernel
theorem dX12_levelOf_136 : decode cX12_levelOf 136 = .ok (.bipush 20, 2) := by decide +kernel
theorem dX12_levelOf_138 : decode cX12_levelOf 138 = .ok (.aload_n 0, 1) := by decide +kernel
theorem dX12_levelOf_139 : decode cX12_levelOf 139 = .ok (.getfield 8, 3) := by decide +kernel
theorem dX12_levelOf_142 : decode cX12_levelOf 142 = .ok (.iload 4, 2) := by decide +kernel
theorem dX12_levelOf_144 : decode cX12_levelOf 144 = .ok (.iconst 1, 1) := by decide +kernel
theorem dX12_levelOf_145 : decode cX12_levelOf 145 = .ok (.isub, 1) := by decide +kernel
theorem dX12_levelOf_146 : decode cX12_levelOf 146 = .ok (.iaload, 1) := by decide +kernel
theorem dX12_levelOf_147 : decode cX12_levelOf 147 = .ok (.iadd, 1) := by decide +kernel
theorem dX12_levelOf_148 : decode cX12_levelOf 148 = .ok (.iaload, 1) := by decide +kernel
theorem dX12_levelOf_149 : decode cX12_levelOf 149 = .ok (.isub, 1) := by decide +kernel
theorem dX12_levelOf_150 : decode cX12_levelOf 150 = .ok (.goto 33, 3) := by decide +kernel
theorem dX12_levelOf_153 : decode cX12_levelOf 153 = .ok (.iload 6, 2) := by decide +kernel
theorem dX12_levelOf_155 : decode cX12_levelOf 155 = .ok (.sipush 10000, 3) := by decide +kernel
theorem dX12_levelOf_158 : decode cX12_levelOf 158 = .ok (.if_icmp .le 9, 3) := by decide +kernel
theorem dX12_levelOf_161 : decode cX12_levelOf 161 = .ok (.sipush 10000, 3) := by decide +kernel
theorem dX12_levelOf_164 : decode cX12_levelOf 164 = .ok (.goto 19, 3) := by decide +kernel
theorem dX12_levelOf_167 : decode cX12_levelOf 167 = .ok (.iload 6, 2) := by decide +kernel
theorem dX12_levelOf_169 : decode cX12_levelOf 169 = .ok (.sipush (-10000), 3) := by decide +kernel
theorem dX12_levelOf_172 : decode cX12_levelOf 172 = .ok (.if_icmp .ge 9, 3) := by decide +kernel
theorem dX12_levelOf_175 : decode cX12_levelOf 175 = .ok (.sipush (-10000), 3) := by decide +kernel
theorem dX12_levelOf_178 : decode cX12_levelOf 178 = .ok (.goto 5, 3) := by decide +kernel
theorem dX12_levelOf_181 : decode cX12_levelOf 181 = .ok (.iload 6, 2) := by decide +kernel
theorem dX12_levelOf_183 : decode cX12_levelOf 183 = .ok (.istore 7, 2) := by decide +kernel
theorem dX12_levelOf_185 : decode cX12_levelOf 185 = .ok (.iload 5, 2) := by decide +kernel
theorem dX12_levelOf_187 : decode cX12_levelOf 187 = .ok (.iload 7, 2) := by decide +kernel
theorem dX12_levelOf_189 : decode cX12_levelOf 189 = .ok (.iadd, 1) := by decide +kernel
theorem dX12_levelOf_190 : decode cX12_levelOf 190 = .ok (.ireturn, 1) := by decide +kernel
theorem dX12_size_0 : decode cX12_size 0 = .ok (.iload_n 0, 1) := by decide +kernel
theorem dX12_size_1 : decode cX12_size 1 = .ok (.ifCond .ge 8, 3) := by decide +kernel
theorem dX12_size_4 : decode cX12_size 4 = .ok (.iload_n 0, 1) := by decide +kernel
theorem dX12_size_5 : decode cX12_size 5 = .ok (.ineg, 1) := by decide +kernel
theorem dX12_size_6 : decode cX12_size 6 = .ok (.goto 4, 3) := by decide +kernel
theorem dX12_size_9 : decode cX12_size 9 = .ok (.iload_n 0, 1) := by decide +kernel
theorem dX12_size_10 : decode cX12_size 10 = .ok (.ireturn, 1) := by decide +kernel
theorem dX12_step_0 : decode cX12_step 0 = .ok (.bipush 10, 2) := by decide +kernel
theorem dX12_step_2 : decode cX12_step 2 = .ok (.iconst 3, 1) := by decide +kernel
theorem dX12_step_3 : decode cX12_step 3 = .ok (.aload_n 0, 1) := by decide +kernel
theorem dX12_step_4 : decode cX12_step 4 = .ok (.getfield 8, 3) := by decide +kernel
theorem dX12_step_7 : decode cX12_step 7 = .ok (.bipush 20, 2) := by decide +kernel
theorem dX12_step_9 : decode cX12_step 9 = .ok (.iload_n 1, 1) := by decide +kernel
theorem dX12_step_10 : decode cX12_step 10 = .ok (.iadd, 1) := by decide +kernel
theorem dX12_step_11 : decode cX12_step 11 = .ok (.iaload, 1) := by decide +kernel
theorem dX12_step_12 : decode cX12_step 12 = .ok (.aload_n 0, 1) := by decide +kernel
theorem dX12_step_13 : decode cX12_step 13 = .ok (.getfield 8, 3) := by decide +kernel
theorem dX12_step_16 : decode cX12_step 16 = .ok (.bipush 20, 2) := by decide +kernel
theorem dX12_step_18 : decode cX12_step 18 = .ok (.iload_n 2, 1) := by decide +kernel
theorem dX12_step_19 : decode cX12_step 19 = .ok (.iadd, 1) := by decide +kernel
theorem dX12_step_20 : decode cX12_step 20 = .ok (.iaload, 1) := by decide +kernel
theorem dX12_step_21 : decode cX12_step 21 = .ok (.isub, 1) := by decide +kernel
theorem dX12_step_22 : decode cX12_step 22 = .ok (.invokestatic 183, 3) := by decide +kernel
theorem dX12_step_25 : decode cX12_step 25 = .ok (.imul, 1) := by decide +kernel
theorem dX12_step_26 : decode cX12_step 26 = .ok (.iadd, 1) := by decide +kernel
theorem dX12_step_27 : decode cX12_step 27 = .ok (.aload_n 0, 1) := by decide +kernel
theorem dX12_step_28 : decode cX12_step 28 = .ok (.getfield 8, 3) := by decide +kernel
theorem dX12_step_31 : decode cX12_step 31 = .ok (.bipush 100, 2) := by decide +kernel
theorem dX12_step_33 : decode cX12_step 33 = .ok (.iload_n 2, 1) := by decide +kernel
theorem dX12_step_34 : decode cX12_step 34 = .ok (.iadd, 1) := by decide +kernel
theorem dX12_step_35 : decode cX12_step 35 = .ok (.iaload, 1) := by decide +kernel
theorem dX12_step_36 : decode cX12_step 36 = .ok (.iconst 1, 1) := by decide +kernel
theorem dX12_step_37 : decode cX12_step 37 = .ok (.if_icmp .ne 8, 3) := by decide +kernel
theorem dX12_step_40 : decode cX12_step 40 = .ok (.bipush 20, 2) := by decide +kernel
theorem dX12_step_42 : decode cX12_step 42 = .ok (.goto 21, 3) := by decide +kernel
theorem dX12_step_45 : decode cX12_step 45 = .ok (.aload_n 0, 1) := by decide +kernel
theorem dX12_step_46 : decode cX12_step 46 = .ok (.getfield 8, 3) := by decide +kernel
theorem dX12_step_49 : decode cX12_step 49 = .ok (.bipush 100, 2) := by decide +kernel
theorem dX12_step_51 : decode cX12_step 51 = .ok (.iload_n 2, 1) := by decide +kernel
theorem dX12_step_52 : decode cX12_step 52 = .ok (.iadd, 1) := by decide +kernel
theorem dX12_step_53 : decode cX12_step 53 = .ok (.iaload, 1) := by decide +kernel
theorem dX12_step_54 : decode cX12_step 54 = .ok (.iconst 2, 1) := by decide +kernel
theorem dX12_step_55 : decode cX12_step 55 = .ok (.if_icmp .ne 7, 3) := by decide +kernel
theorem dX12_step_58 : decode cX12_step 58 = .ok (.iconst 5, 1) := by decide +kernel
theorem dX12_step_59 : decode cX12_step 59 = .ok (.goto 4, 3) := by decide +kernel
theorem dX12_step_62 : decode cX12_step 62 = .ok (.iconst 0, 1) := by decide +kernel
theorem dX12_step_63 : decode cX12_step 63 = .ok (.iadd, 1) := by decide +kernel
theorem dX12_step_64 : decode cX12_step 64 = .ok (.ireturn, 1) := by decide +kernel
theorem dX12_yardsOf_0 : decode cX12_yardsOf 0 = .ok (.iconst 0, 1) := by decide +kernel
theorem dX12_yardsOf_1 : decode cX12_yardsOf 1 = .ok (.istore_n 2, 1) := by decide +kernel
theorem dX12_yardsOf_2 : decode cX12_yardsOf 2 = .ok (.iconst 1, 1) := by decide +kernel
theorem dX12_yardsOf_3 : decode cX12_yardsOf 3 = .ok (.istore_n 3, 1) := by decide +kernel
theorem dX12_yardsOf_4 : decode cX12_yardsOf 4 = .ok (.iload_n 3, 1) := by decide +kernel
theorem dX12_yardsOf_5 : decode cX12_yardsOf 5 = .ok (.aload_n 0, 1) := by decide +kernel
theorem dX12_yardsOf_6 : decode cX12_yardsOf 6 = .ok (.getfield 8, 3) := by decide +kernel
theorem dX12_yardsOf_9 : decode cX12_yardsOf 9 = .ok (.sipush 850, 3) := by decide +kernel
theorem dX12_yardsOf_12 : decode cX12_yardsOf 12 = .ok (.iload_n 1, 1) := by decide +kernel
theorem dX12_yardsOf_13 : decode cX12_yardsOf 13 = .ok (.iadd, 1) := by decide +kernel
theorem dX12_yardsOf_14 : decode cX12_yardsOf 14 = .ok (.iaload, 1) := by decide +kernel
theorem dX12_yardsOf_15 : decode cX12_yardsOf 15 = .ok (.if_icmp .ge 48, 3) := by decide +kernel
theorem dX12_yardsOf_18 : decode cX12_yardsOf 18 = .ok (.iload_n 2, 1) := by decide +kernel
theorem dX12_yardsOf_19 : decode cX12_yardsOf 19 = .ok (.aload_n 0, 1) := by decide +kernel
theorem dX12_yardsOf_20 : decode cX12_yardsOf 20 = .ok (.aload_n 0, 1) := by decide +kernel
theorem dX12_yardsOf_21 : decode cX12_yardsOf 21 = .ok (.getfield 8, 3) := by decide +kernel
theorem dX12_yardsOf_24 : decode cX12_yardsOf 24 = .ok (.sipush 4700, 3) := by decide +kernel
theorem dX12_yardsOf_27 : decode cX12_yardsOf 27 = .ok (.bipush 41, 2) := by decide +kernel
theorem dX12_yardsOf_29 : decode cX12_yardsOf 29 = .ok (.iload_n 1, 1) := by decide +kernel
theorem dX12_yardsOf_30 : decode cX12_yardsOf 30 = .ok (.imul, 1) := by decide +kernel
theorem dX12_yardsOf_31 : decode cX12_yardsOf 31 = .ok (.iadd, 1) := by decide +kernel
theorem dX12_yardsOf_32 : decode cX12_yardsOf 32 = .ok (.iload_n 3, 1) := by decide +kernel
theorem dX12_yardsOf_33 : decode cX12_yardsOf 33 = .ok (.iadd, 1) := by decide +kernel
theorem dX12_yardsOf_34 : decode cX12_yardsOf 34 = .ok (.iconst 1, 1) := by decide +kernel
theorem dX12_yardsOf_35 : decode cX12_yardsOf 35 = .ok (.isub, 1) := by decide +kernel
theorem dX12_yardsOf_36 : decode cX12_yardsOf 36 = .ok (.iaload, 1) := by decide +kernel
theorem dX12_yardsOf_37 : decode cX12_yardsOf 37 = .ok (.aload_n 0, 1) := by decide +kernel
theorem dX12_yardsOf_38 : decode cX12_yardsOf 38 = .ok (.getfield 8, 3) := by decide +kernel
theorem dX12_yardsOf_41 : decode cX12_yardsOf 41 = .ok (.sipush 4700, 3) := by decide +kernel
theorem dX12_yardsOf_44 : decode cX12_yardsOf 44 = .ok (.bipush 41, 2) := by decide +kernel
theorem dX12_yardsOf_46 : decode cX12_yardsOf 46 = .ok (.iload_n 1, 1) := by decide +kernel
theorem dX12_yardsOf_47 : decode cX12_yardsOf 47 = .ok (.imul, 1) := by decide +kernel
theorem dX12_yardsOf_48 : decode cX12_yardsOf 48 = .ok (.iadd, 1) := by decide +kernel
theorem dX12_yardsOf_49 : decode cX12_yardsOf 49 = .ok (.iload_n 3, 1) := by decide +kernel
theorem dX12_yardsOf_50 : decode cX12_yardsOf 50 = .ok (.iadd, 1) := by decide +kernel
theorem dX12_yardsOf_51 : decode cX12_yardsOf 51 = .ok (.iaload, 1) := by decide +kernel
theorem dX12_yardsOf_52 : decode cX12_yardsOf 52 = .ok (.invokevirtual 187, 3) := by decide +kernel
theorem dX12_yardsOf_55 : decode cX12_yardsOf 55 = .ok (.iadd, 1) := by decide +kernel
theorem dX12_yardsOf_56 : decode cX12_yardsOf 56 = .ok (.istore_n 2, 1) := by decide +kernel
theorem dX12_yardsOf_57 : decode cX12_yardsOf 57 = .ok (.iinc 3 1, 3) := by decide +kernel
theorem dX12_yardsOf_60 : decode cX12_yardsOf 60 = .ok (.goto (-56), 3) := by decide +kernel
theorem dX12_yardsOf_63 : decode cX12_yardsOf 63 = .ok (.iload_n 2, 1) := by decide +kernel
theorem dX12_yardsOf_64 : decode cX12_yardsOf 64 = .ok (.ireturn, 1) := by decide +kernel
theorem dX12_way_0 : decode cX12_way 0 = .ok (.aload_n 0, 1) := by decide +kernel
theorem dX12_way_1 : decode cX12_way 1 = .ok (.iload_n 1, 1) := by decide +kernel
theorem dX12_way_2 : decode cX12_way 2 = .ok (.iconst 2, 1) := by decide +kernel
theorem dX12_way_3 : decode cX12_way 3 = .ok (.invokevirtual 165, 3) := by decide +kernel
theorem dX12_way_6 : decode cX12_way 6 = .ok (.ifCond .ne 5, 3) := by decide +kernel
theorem dX12_way_9 : decode cX12_way 9 = .ok (.iconst (-1), 1) := by decide +kernel
theorem dX12_way_10 : decode cX12_way 10 = .ok (.ireturn, 1) := by decide +kernel
theorem dX12_way_11 : decode cX12_way 11 = .ok (.iload_n 2, 1) := by decide +kernel
theorem dX12_way_12 : decode cX12_way 12 = .ok (.tableswitch 56 0 2 #[28, 39, 50], 28) := by decide +kernel
theorem dX12_way_40 : decode cX12_way 40 = .ok (.aload_n 0, 1) := by decide +kernel
theorem dX12_way_41 : decode cX12_way 41 = .ok (.getfield 8, 3) := by decide +kernel
theorem dX12_way_44 : decode cX12_way 44 = .ok (.sipush 850, 3) := by decide +kernel
theorem dX12_way_47 : decode cX12_way 47 = .ok (.iload_n 1, 1) := by decide +kernel
theorem dX12_way_48 : decode cX12_way 48 = .ok (.iadd, 1) := by decide +kernel
theorem dX12_way_49 : decode cX12_way 49 = .ok (.iaload, 1) := by decide +kernel
theorem dX12_way_50 : decode cX12_way 50 = .ok (.ireturn, 1) := by decide +kernel
theorem dX12_way_51 : decode cX12_way 51 = .ok (.aload_n 0, 1) := by decide +kernel
theorem dX12_way_52 : decode cX12_way 52 = .ok (.getfield 8, 3) := by decide +kernel
theorem dX12_way_55 : decode cX12_way 55 = .ok (.sipush 910, 3) := by decide +kernel
theorem dX12_way_58 : decode cX12_way 58 = .ok (.iload_n 1, 1) := by decide +kernel
theorem dX12_way_59 : decode cX12_way 59 = .ok (.iadd, 1) := by decide +kernel
theorem dX12_way_60 : decode cX12_way 60 = .ok (.iaload, 1) := by decide +kernel
theorem dX12_way_61 : decode cX12_way 61 = .ok (.ireturn, 1) := by decide +kernel
theorem dX12_way_62 : decode cX12_way 62 = .ok (.aload_n 0, 1) := by decide +kernel
theorem dX12_way_63 : decode cX12_way 63 = .ok (.iload_n 1, 1) := by decide +kernel
theorem dX12_way_64 : decode cX12_way 64 = .ok (.invokevirtual 190, 3) := by decide +kernel
theorem dX12_way_67 : decode cX12_way 67 = .ok (.ireturn, 1) := by decide +kernel
theorem dX12_way_68 : decode cX12_way 68 = .ok (.iload_n 2, 1) := by decide +kernel
theorem dX12_way_69 : decode cX12_way 69 = .ok (.bipush 10, 2) := by decide +kernel
theorem dX12_way_71 : decode cX12_way 71 = .ok (.isub, 1) := by decide +kernel
theorem dX12_way_72 : decode cX12_way 72 = .ok (.iconst 0, 1) := by decide +kernel
theorem dX12_way_73 : decode cX12_way 73 = .ok (.aload_n 0, 1) := by decide +kernel
theorem dX12_way_74 : decode cX12_way 74 = .ok (.getfield 8, 3) := by decide +kernel
theorem dX12_way_77 : decode cX12_way 77 = .ok (.sipush 850, 3) := by decide +kernel
theorem dX12_way_80 : decode cX12_way 80 = .ok (.iload_n 1, 1) := by decide +kernel
theorem dX12_way_81 : decode cX12_way 81 = .ok (.iadd, 1) := by decide +kernel
theorem dX12_way_82 : decode cX12_way 82 = .ok (.iaload, 1) := by decide +kernel
theorem dX12_way_83 : decode cX12_way 83 = .ok (.iconst 1, 1) := by decide +kernel
theorem dX12_way_84 : decode cX12_way 84 = .ok (.isub, 1) := by decide +kernel
theorem dX12_way_85 : decode cX12_way 85 = .ok (.invokestatic 58, 3) := by decide +kernel
theorem dX12_way_88 : decode cX12_way 88 = .ok (.ifCond .eq 24, 3) := by decide +kernel
theorem dX12_way_91 : decode cX12_way 91 = .ok (.aload_n 0, 1) := by decide +kernel
theorem dX12_way_92 : decode cX12_way 92 = .ok (.getfield 8, 3) := by decide +kernel
theorem dX12_way_95 : decode cX12_way 95 = .ok (.sipush 4700, 3) := by decide +kernel
theorem dX12_way_98 : decode cX12_way 98 = .ok (.bipush 41, 2) := by decide +kernel
theorem dX12_way_100 : decode cX12_way 100 = .ok (.iload_n 1, 1) := by decide +kernel
theorem dX12_way_101 : decode cX12_way 101 = .ok (.imul, 1) := by decide +kernel
theorem dX12_way_102 : decode cX12_way 102 = .ok (.iadd, 1) := by decide +kernel
theorem dX12_way_103 : decode cX12_way 103 = .ok (.iload_n 2, 1) := by decide +kernel
theorem dX12_way_104 : decode cX12_way 104 = .ok (.iadd, 1) := by decide +kernel
theorem dX12_way_105 : decode cX12_way 105 = .ok (.bipush 10, 2) := by decide +kernel
theorem dX12_way_107 : decode cX12_way 107 = .ok (.isub, 1) := by decide +kernel
theorem dX12_way_108 : decode cX12_way 108 = .ok (.iaload, 1) := by decide +kernel
theorem dX12_way_109 : decode cX12_way 109 = .ok (.goto 4, 3) := by decide +kernel
theorem dX12_way_112 : decode cX12_way 112 = .ok (.iconst (-1), 1) := by decide +kernel
theorem dX12_way_113 : decode cX12_way 113 = .ok (.ireturn, 1) := by decide +kernel
theorem dX12_level_0 : decode cX12_level 0 = .ok (.aload_n 0, 1) := by decide +kernel
theorem dX12_level_1 : decode cX12_level 1 = .ok (.iload_n 1, 1) := by decide +kernel
theorem dX12_level_2 : decode cX12_level 2 = .ok (.iconst 2, 1) := by decide +kernel
theorem dX12_level_3 : decode cX12_level 3 = .ok (.invokevirtual 165, 3) := by decide +kernel
theorem dX12_level_6 : decode cX12_level 6 = .ok (.ifCond .eq 41, 3) := by decide +kernel
theorem dX12_level_9 : decode cX12_level 9 = .ok (.iload_n 2, 1) := by decide +kernel
theorem dX12_level_10 : decode cX12_level 10 = .ok (.iconst 0, 1) := by decide +kernel
theorem dX12_level_11 : decode cX12_level 11 = .ok (.aload_n 0, 1) := by decide +kernel
theorem dX12_level_12 : decode cX12_level 12 = .ok (.getfield 8, 3) := by decide +kernel
theorem dX12_level_15 : decode cX12_level 15 = .ok (.sipush 850, 3) := by decide +kernel
theorem dX12_level_18 : decode cX12_level 18 = .ok (.iload_n 1, 1) := by decide +kernel
theorem dX12_level_19 : decode cX12_level 19 = .ok (.iadd, 1) := by decide +kernel
theorem dX12_level_20 : decode cX12_level 20 = .ok (.iaload, 1) := by decide +kernel
theorem dX12_level_21 : decode cX12_level 21 = .ok (.iconst 1, 1) := by decide +kernel
theorem dX12_level_22 : decode cX12_level 22 = .ok (.isub, 1) := by decide +kernel
theorem dX12_level_23 : decode cX12_level 23 = .ok (.invokestatic 58, 3) := by decide +kernel
theorem dX12_level_26 : decode cX12_level 26 = .ok (.ifCond .eq 21, 3) := by decide +kernel
theorem dX12_level_29 : decode cX12_level 29 = .ok (.aload_n 0, 1) := by decide +kernel
theorem dX12_level_30 : decode cX12_level 30 = .ok (.getfield 8, 3) := by decide +kernel
theorem dX12_level_33 : decode cX12_level 33 = .ok (.sipush 7160, 3) := by decide +kernel
theorem dX12_level_36 : decode cX12_level 36 = .ok (.bipush 41, 2) := by decide +kernel
theorem dX12_level_38 : decode cX12_level 38 = .ok (.iload_n 1, 1) := by decide +kernel
theorem dX12_level_39 : decode cX12_level 39 = .ok (.imul, 1) := by decide +kernel
theorem dX12_level_40 : decode cX12_level 40 = .ok (.iadd, 1) := by decide +kernel
theorem dX12_level_41 : decode cX12_level 41 = .ok (.iload_n 2, 1) := by decide +kernel
theorem dX12_level_42 : decode cX12_level 42 = .ok (.iadd, 1) := by decide +kernel
theorem dX12_level_43 : decode cX12_level 43 = .ok (.iaload, 1) := by decide +kernel
theorem dX12_level_44 : decode cX12_level 44 = .ok (.goto 4, 3) := by decide +kernel
theorem dX12_level_47 : decode cX12_level 47 = .ok (.iconst (-1), 1) := by decide +kernel
theorem dX12_level_48 : decode cX12_level 48 = .ok (.ireturn, 1) := by decide +kernel
theorem dX12_notClose_0 : decode cX12_notClose 0 = .ok (.iconst 0, 1) := by decide +kernel
theorem dX12_notClose_1 : decode cX12_notClose 1 = .ok (.istore_n 3, 1) := by decide +kernel
theorem dX12_notClose_2 : decode cX12_notClose 2 = .ok (.iload_n 3, 1) := by decide +kernel
theorem dX12_notClose_3 : decode cX12_notClose 3 = .ok (.aload_n 0, 1) := by decide +kernel
theorem dX12_notClose_4 : decode cX12_notClose 4 = .ok (.getfield 8, 3) := by decide +kernel
theorem dX12_notClose_7 : decode cX12_notClose 7 = .ok (.sipush 850, 3) := by decide +kernel
theorem dX12_notClose_10 : decode cX12_notClose 10 = .ok (.iload_n 1, 1) := by decide +kernel
theorem dX12_notClose_11 : decode cX12_notClose 11 = .ok (.iadd, 1) := by decide +kernel
theorem dX12_notClose_12 : decode cX12_notClose 12 = .ok (.iaload, 1) := by decide +kernel
theorem dX12_notClose_13 : decode cX12_notClose 13 = .ok (.if_icmp .ge 73, 3) := by decide +kernel
theorem dX12_notClose_16 : decode cX12_notClose 16 = .ok (.aload_n 0, 1) := by decide +kernel
theorem dX12_notClose_17 : decode cX12_notClose 17 = .ok (.getfield 8, 3) := by decide +kernel
theorem dX12_notClose_20 : decode cX12_notClose 20 = .ok (.sipush 7160, 3) := by decide +kernel
theorem dX12_notClose_23 : decode cX12_notClose 23 = .ok (.bipush 41, 2) := by decide +kernel
theorem dX12_notClose_25 : decode cX12_notClose 25 = .ok (.iload_n 1, 1) := by decide +kernel
theorem dX12_notClose_26 : decode cX12_notClose 26 = .ok (.imul, 1) := by decide +kernel
theorem dX12_notClose_27 : decode cX12_notClose 27 = .ok (.iadd, 1) := by decide +kernel
theorem dX12_notClose_28 : decode cX12_notClose 28 = .ok (.iload_n 3, 1) := by decide +kernel
theorem dX12_notClose_29 : decode cX12_notClose 29 = .ok (.iadd, 1) := by decide +kernel
theorem dX12_notClose_30 : decode cX12_notClose 30 = .ok (.iaload, 1) := by decide +kernel
theorem dX12_notClose_31 : decode cX12_notClose 31 = .ok (.istore 4, 2) := by decide +kernel
theorem dX12_notClose_33 : decode cX12_notClose 33 = .ok (.iload 4, 2) := by decide +kernel
theorem dX12_notClose_35 : decode cX12_notClose 35 = .ok (.ldc 181, 2) := by decide +kernel
theorem dX12_notClose_37 : decode cX12_notClose 37 = .ok (.if_icmp .eq 41, 3) := by decide +kernel
theorem dX12_notClose_40 : decode cX12_notClose 40 = .ok (.iload 4, 2) := by decide +kernel
theorem dX12_notClose_42 : decode cX12_notClose 42 = .ok (.aload_n 0, 1) := by decide +kernel
theorem dX12_notClose_43 : decode cX12_notClose 43 = .ok (.getfield 8, 3) := by decide +kernel
theorem dX12_notClose_46 : decode cX12_notClose 46 = .ok (.bipush 20, 2) := by decide +kernel
theorem dX12_notClose_48 : decode cX12_notClose 48 = .ok (.aload_n 0, 1) := by decide +kernel
theorem dX12_notClose_49 : decode cX12_notClose 49 = .ok (.getfield 8, 3) := by decide +kernel
theorem dX12_notClose_52 : decode cX12_notClose 52 = .ok (.sipush 4700, 3) := by decide +kernel
theorem dX12_notClose_55 : decode cX12_notClose 55 = .ok (.bipush 41, 2) := by decide +kernel
theorem dX12_notClose_57 : decode cX12_notClose 57 = .ok (.iload_n 1, 1) := by decide +kernel
theorem dX12_notClose_58 : decode cX12_notClose 58 = .ok (.imul, 1) := by decide +kernel
theorem dX12_notClose_59 : decode cX12_notClose 59 = .ok (.iadd, 1) := by decide +kernel
theorem dX12_notClose_60 : decode cX12_notClose 60 = .ok (.iload_n 3, 1) := by decide +kernel
theorem dX12_notClose_61 : decode cX12_notClose 61 = .ok (.iadd, 1) := by decide +kernel
theorem dX12_notClose_62 : decode cX12_notClose 62 = .ok (.iaload, 1) := by decide +kernel
theorem dX12_notClose_63 : decode cX12_notClose 63 = .ok (.iadd, 1) := by decide +kernel
theorem dX12_notClose_64 : decode cX12_notClose 64 = .ok (.iaload, 1) := by decide +kernel
theorem dX12_notClose_65 : decode cX12_notClose 65 = .ok (.isub, 1) := by decide +kernel
theorem dX12_notClose_66 : decode cX12_notClose 66 = .ok (.invokestatic 183, 3) := by decide +kernel
theorem dX12_notClose_69 : decode cX12_notClose 69 = .ok (.aload_n 0, 1) := by decide +kernel
theorem dX12_notClose_70 : decode cX12_notClose 70 = .ok (.iconst 1, 1) := by decide +kernel
theorem dX12_notClose_71 : decode cX12_notClose 71 = .ok (.iload_n 2, 1) := by decide +kernel
theorem dX12_notClose_72 : decode cX12_notClose 72 = .ok (.invokevirtual 152, 3) := by decide +kernel
theorem dX12_notClose_75 : decode cX12_notClose 75 = .ok (.if_icmp .le 5, 3) := by decide +kernel
theorem dX12_notClose_78 : decode cX12_notClose 78 = .ok (.iload_n 3, 1) := by decide +kernel
theorem dX12_notClose_79 : decode cX12_notClose 79 = .ok (.ireturn, 1) := by decide +kernel
theorem dX12_notClose_80 : decode cX12_notClose 80 = .ok (.iinc 3 1, 3) := by decide +kernel
theorem dX12_notClose_83 : decode cX12_notClose 83 = .ok (.goto (-81), 3) := by decide +kernel
theorem dX12_notClose_86 : decode cX12_notClose 86 = .ok (.bipush (-5), 2) := by decide +kernel
theorem dX12_notClose_88 : decode cX12_notClose 88 = .ok (.ireturn, 1) := by decide +kernel
theorem dX12_steep_0 : decode cX12_steep 0 = .ok (.iconst 1, 1) := by decide +kernel
theorem dX12_steep_1 : decode cX12_steep 1 = .ok (.istore_n 3, 1) := by decide +kernel
theorem dX12_steep_2 : decode cX12_steep 2 = .ok (.iload_n 3, 1) := by decide +kernel
theorem dX12_steep_3 : decode cX12_steep 3 = .ok (.aload_n 0, 1) := by decide +kernel
theorem dX12_steep_4 : decode cX12_steep 4 = .ok (.getfield 8, 3) := by decide +kernel
theorem dX12_steep_7 : decode cX12_steep 7 = .ok (.sipush 850, 3) := by decide +kernel
theorem dX12_steep_10 : decode cX12_steep 10 = .ok (.iload_n 1, 1) := by decide +kernel
theorem dX12_steep_11 : decode cX12_steep 11 = .ok (.iadd, 1) := by decide +kernel
theorem dX12_steep_12 : decode cX12_steep 12 = .ok (.iaload, 1) := by decide +kernel
theorem dX12_steep_13 : decode cX12_steep 13 = .ok (.if_icmp .ge 72, 3) := by decide +kernel
theorem dX12_steep_16 : decode cX12_steep 16 = .ok (.aload_n 0, 1) := by decide +kernel
theorem dX12_steep_17 : decode cX12_steep 17 = .ok (.getfield 8, 3) := by decide +kernel
theorem dX12_steep_20 : decode cX12_steep 20 = .ok (.bipush 20, 2) := by decide +kernel
theorem dX12_steep_22 : decode cX12_steep 22 = .ok (.aload_n 0, 1) := by decide +kernel
theorem dX12_steep_23 : decode cX12_steep 23 = .ok (.getfield 8, 3) := by decide +kernel
theorem dX12_steep_26 : decode cX12_steep 26 = .ok (.sipush 4700, 3) := by decide +kernel
theorem dX12_steep_29 : decode cX12_steep 29 = .ok (.bipush 41, 2) := by decide +kernel
theorem dX12_steep_31 : decode cX12_steep 31 = .ok (.iload_n 1, 1) := by decide +kernel
theorem dX12_steep_32 : decode cX12_steep 32 = .ok (.imul, 1) := by decide +kernel
theorem dX12_steep_33 : decode cX12_steep 33 = .ok (.iadd, 1) := by decide +kernel
theorem dX12_steep_34 : decode cX12_steep 34 = .ok (.iload_n 3, 1) := by decide +kernel
theorem dX12_steep_35 : decode cX12_steep 35 = .ok (.iadd, 1) := by decide +kernel
theorem dX12_steep_36 : decode cX12_steep 36 = .ok (.iaload, 1) := by decide +kernel
theorem dX12_steep_37 : decode cX12_steep 37 = .ok (.iadd, 1) := by decide +kernel
theorem dX12_steep_38 : decode cX12_steep 38 = .ok (.iaload, 1) := by decide +kernel
theorem dX12_steep_39 : decode cX12_steep 39 = .ok (.aload_n 0, 1) := by decide +kernel
theorem dX12_steep_40 : decode cX12_steep 40 = .ok (.getfield 8, 3) := by decide +kernel
theorem dX12_steep_43 : decode cX12_steep 43 = .ok (.bipush 20, 2) := by decide +kernel
theorem dX12_steep_45 : decode cX12_steep 45 = .ok (.aload_n 0, 1) := by decide +kernel
theorem dX12_steep_46 : decode cX12_steep 46 = .ok (.getfield 8, 3) := by decide +kernel
theorem dX12_steep_49 : decode cX12_steep 49 = .ok (.sipush 4700, 3) := by decide +kernel
theorem dX12_steep_52 : decode cX12_steep 52 = .ok (.bipush 41, 2) := by decide +kernel
theorem dX12_steep_54 : decode cX12_steep 54 = .ok (.iload_n 1, 1) := by decide +kernel
theorem dX12_steep_55 : decode cX12_steep 55 = .ok (.imul, 1) := by decide +kernel
theorem dX12_steep_56 : decode cX12_steep 56 = .ok (.iadd, 1) := by decide +kernel
theorem dX12_steep_57 : decode cX12_steep 57 = .ok (.iload_n 3, 1) := by decide +kernel
theorem dX12_steep_58 : decode cX12_steep 58 = .ok (.iadd, 1) := by decide +kernel
theorem dX12_steep_59 : decode cX12_steep 59 = .ok (.iconst 1, 1) := by decide +kernel
theorem dX12_steep_60 : decode cX12_steep 60 = .ok (.isub, 1) := by decide +kernel
theorem dX12_steep_61 : decode cX12_steep 61 = .ok (.iaload, 1) := by decide +kernel
theorem dX12_steep_62 : decode cX12_steep 62 = .ok (.iadd, 1) := by decide +kernel
theorem dX12_steep_63 : decode cX12_steep 63 = .ok (.iaload, 1) := by decide +kernel
theorem dX12_steep_64 : decode cX12_steep 64 = .ok (.isub, 1) := by decide +kernel
theorem dX12_steep_65 : decode cX12_steep 65 = .ok (.invokestatic 183, 3) := by decide +kernel
theorem dX12_steep_68 : decode cX12_steep 68 = .ok (.aload_n 0, 1) := by decide +kernel
theorem dX12_steep_69 : decode cX12_steep 69 = .ok (.iconst 0, 1) := by decide +kernel
theorem dX12_steep_70 : decode cX12_steep 70 = .ok (.iload_n 2, 1) := by decide +kernel
theorem dX12_steep_71 : decode cX12_steep 71 = .ok (.invokevirtual 152, 3) := by decide +kernel
theorem dX12_steep_74 : decode cX12_steep 74 = .ok (.if_icmp .le 5, 3) := by decide +kernel
theorem dX12_steep_77 : decode cX12_steep 77 = .ok (.iload_n 3, 1) := by decide +kernel
theorem dX12_steep_78 : decode cX12_steep 78 = .ok (.ireturn, 1) := by decide +kernel
theorem dX12_steep_79 : decode cX12_steep 79 = .ok (.iinc 3 1, 3) := by decide +kernel
theorem dX12_steep_82 : decode cX12_steep 82 = .ok (.goto (-80), 3) := by decide +kernel
theorem dX12_steep_85 : decode cX12_steep 85 = .ok (.bipush (-5), 2) := by decide +kernel
theorem dX12_steep_87 : decode cX12_steep 87 = .ok (.ireturn, 1) := by decide +kernel
theorem dX12_close_0 : decode cX12_close 0 = .ok (.aload_n 0, 1) := by decide +kernel
theorem dX12_close_1 : decode cX12_close 1 = .ok (.iload_n 1, 1) := by decide +kernel
theorem dX12_close_2 : decode cX12_close 2 = .ok (.iconst 2, 1) := by decide +kernel
theorem dX12_close_3 : decode cX12_close 3 = .ok (.invokevirtual 165, 3) := by decide +kernel
theorem dX12_close_6 : decode cX12_close 6 = .ok (.ifCond .eq 12, 3) := by decide +kernel
theorem dX12_close_9 : decode cX12_close 9 = .ok (.iload_n 2, 1) := by decide +kernel
theorem dX12_close_10 : decode cX12_close 10 = .ok (.iconst 0, 1) := by decide +kernel
theorem dX12_close_11 : decode cX12_close 11 = .ok (.iconst 1, 1) := by decide +kernel
theorem dX12_close_12 : decode cX12_close 12 = .ok (.invokestatic 58, 3) := by decide +kernel
theorem dX12_close_15 : decode cX12_close 15 = .ok (.ifCond .ne 5, 3) := by decide +kernel
theorem dX12_close_18 : decode cX12_close 18 = .ok (.iconst (-1), 1) := by decide +kernel
theorem dX12_close_19 : decode cX12_close 19 = .ok (.ireturn, 1) := by decide +kernel
theorem dX12_close_20 : decode cX12_close 20 = .ok (.iload_n 3, 1) := by decide +kernel
theorem dX12_close_21 : decode cX12_close 21 = .ok (.invokestatic 141, 3) := by decide +kernel
theorem dX12_close_24 : decode cX12_close 24 = .ok (.ifCond .ne 8, 3) := by decide +kernel
theorem dX12_close_27 : decode cX12_close 27 = .ok (.bipush (-2), 2) := by decide +kernel
theorem dX12_close_29 : decode cX12_close 29 = .ok (.goto 22, 3) := by decide +kernel
theorem dX12_close_32 : decode cX12_close 32 = .ok (.iload_n 2, 1) := by decide +kernel
theorem dX12_close_33 : decode cX12_close 33 = .ok (.ifCond .ne 12, 3) := by decide +kernel
theorem dX12_close_36 : decode cX12_close 36 = .ok (.aload_n 0, 1) := by decide +kernel
theorem dX12_close_37 : decode cX12_close 37 = .ok (.iload_n 1, 1) := by decide +kernel
theorem dX12_close_38 : decode cX12_close 38 = .ok (.iload_n 3, 1) := by decide +kernel
theorem dX12_close_39 : decode cX12_close 39 = .ok (.invokevirtual 193, 3) := by decide +kernel
theorem dX12_close_42 : decode cX12_close 42 = .ok (.goto 9, 3) := by decide +kernel
theorem dX12_close_45 : decode cX12_close 45 = .ok (.aload_n 0, 1) := by decide +kernel
theorem dX12_close_46 : decode cX12_close 46 = .ok (.iload_n 1, 1) := by decide +kernel
theorem dX12_close_47 : decode cX12_close 47 = .ok (.iload_n 3, 1) := by decide +kernel
theorem dX12_close_48 : decode cX12_close 48 = .ok (.invokevirtual 196, 3) := by decide +kernel
theorem dX12_close_51 : decode cX12_close 51 = .ok (.ireturn, 1) := by decide +kernel
theorem dX12_quarrel_0 : decode cX12_quarrel 0 = .ok (.aload_n 0, 1) := by decide +kernel
theorem dX12_quarrel_1 : decode cX12_quarrel 1 = .ok (.iload_n 1, 1) := by decide +kernel
theorem dX12_quarrel_2 : decode cX12_quarrel 2 = .ok (.iconst 2, 1) := by decide +kernel
theorem dX12_quarrel_3 : decode cX12_quarrel 3 = .ok (.invokevirtual 165, 3) := by decide +kernel
theorem dX12_quarrel_6 : decode cX12_quarrel 6 = .ok (.ifCond .eq 12, 3) := by decide +kernel
theorem dX12_quarrel_9 : decode cX12_quarrel 9 = .ok (.aload_n 0, 1) := by decide +kernel
theorem dX12_quarrel_10 : decode cX12_quarrel 10 = .ok (.iload_n 2, 1) := by decide +kernel
theorem dX12_quarrel_11 : decode cX12_quarrel 11 = .ok (.iconst 2, 1) := by decide +kernel
theorem dX12_quarrel_12 : decode cX12_quarrel 12 = .ok (.invokevirtual 165, 3) := by decide +kernel
theorem dX12_quarrel_15 : decode cX12_quarrel 15 = .ok (.ifCond .ne 5, 3) := by decide +kernel
theorem dX12_quarrel_18 : decode cX12_quarrel 18 = .ok (.iconst (-1), 1) := by decide +kernel
theorem dX12_quarrel_19 : decode cX12_quarrel 19 = .ok (.ireturn, 1) := by decide +kernel
theorem dX12_quarrel_20 : decode cX12_quarrel 20 = .ok (.iload_n 1, 1) := by decide +kernel
theorem dX12_quarrel_21 : decode cX12_quarrel 21 = .ok (.iload_n 2, 1) := by decide +kernel
theorem dX12_quarrel_22 : decode cX12_quarrel 22 = .ok (.if_icmp .ne 6, 3) := by decide +kernel
theorem dX12_quarrel_25 : decode cX12_quarrel 25 = .ok (.bipush (-2), 2) := by decide +kernel
theorem dX12_quarrel_27 : decode cX12_quarrel 27 = .ok (.ireturn, 1) := by decide +kernel
theorem dX12_quarrel_28 : decode cX12_quarrel 28 = .ok (.iconst 0, 1) := by decide +kernel
theorem dX12_quarrel_29 : decode cX12_quarrel 29 = .ok (.istore_n 3, 1) := by decide +kernel
theorem dX12_quarrel_30 : decode cX12_quarrel 30 = .ok (.iload_n 3, 1) := by decide +kernel
theorem dX12_quarrel_31 : decode cX12_quarrel 31 = .ok (.aload_n 0, 1) := by decide +kernel
theorem dX12_quarrel_32 : decode cX12_quarrel 32 = .ok (.getfield 8, 3) := by decide +kernel
theorem dX12_quarrel_35 : decode cX12_quarrel 35 = .ok (.sipush 850, 3) := by decide +kernel
theorem dX12_quarrel_38 : decode cX12_quarrel 38 = .ok (.iload_n 1, 1) := by decide +kernel
theorem dX12_quarrel_39 : decode cX12_quarrel 39 = .ok (.iadd, 1) := by decide +kernel
theorem dX12_quarrel_40 : decode cX12_quarrel 40 = .ok (.iaload, 1) := by decide +kernel
theorem dX12_quarrel_41 : decode cX12_quarrel 41 = .ok (.if_icmp .ge 105, 3) := by decide +kernel
theorem dX12_quarrel_44 : decode cX12_quarrel 44 = .ok (.aload_n 0, 1) := by decide +kernel
theorem dX12_quarrel_45 : decode cX12_quarrel 45 = .ok (.getfield 8, 3) := by decide +kernel
theorem dX12_quarrel_48 : decode cX12_quarrel 48 = .ok (.sipush 4700, 3) := by decide +kernel
theorem dX12_quarrel_51 : decode cX12_quarrel 51 = .ok (.bipush 41, 2) := by decide +kernel
theorem dX12_quarrel_53 : decode cX12_quarrel 53 = .ok (.iload_n 1, 1) := by decide +kernel
theorem dX12_quarrel_54 : decode cX12_quarrel 54 = .ok (.imul, 1) := by decide +kernel
theorem dX12_quarrel_55 : decode cX12_quarrel 55 = .ok (.iadd, 1) := by decide +kernel
theorem dX12_quarrel_56 : decode cX12_quarrel 56 = .ok (.iload_n 3, 1) := by decide +kernel
theorem dX12_quarrel_57 : decode cX12_quarrel 57 = .ok (.iadd, 1) := by decide +kernel
theorem dX12_quarrel_58 : decode cX12_quarrel 58 = .ok (.iaload, 1) := by decide +kernel
theorem dX12_quarrel_59 : decode cX12_quarrel 59 = .ok (.istore 4, 2) := by decide +kernel
theorem dX12_quarrel_61 : decode cX12_quarrel 61 = .ok (.aload_n 0, 1) := by decide +kernel
theorem dX12_quarrel_62 : decode cX12_quarrel 62 = .ok (.iload_n 2, 1) := by decide +kernel
theorem dX12_quarrel_63 : decode cX12_quarrel 63 = .ok (.iload 4, 2) := by decide +kernel
theorem dX12_quarrel_65 : decode cX12_quarrel 65 = .ok (.invokevirtual 162, 3) := by decide +kernel
theorem dX12_quarrel_68 : decode cX12_quarrel 68 = .ok (.istore 5, 2) := by decide +kernel
theorem dX12_quarrel_70 : decode cX12_quarrel 70 = .ok (.aload_n 0, 1) := by decide +kernel
theorem dX12_quarrel_71 : decode cX12_quarrel 71 = .ok (.getfield 8, 3) := by decide +kernel
theorem dX12_quarrel_74 : decode cX12_quarrel 74 = .ok (.sipush 7160, 3) := by decide +kernel
theorem dX12_quarrel_77 : decode cX12_quarrel 77 = .ok (.bipush 41, 2) := by decide +kernel
theorem dX12_quarrel_79 : decode cX12_quarrel 79 = .ok (.iload_n 1, 1) := by decide +kernel
theorem dX12_quarrel_80 : decode cX12_quarrel 80 = .ok (.imul, 1) := by decide +kernel
theorem dX12_quarrel_81 : decode cX12_quarrel 81 = .ok (.iadd, 1) := by decide +kernel
theorem dX12_quarrel_82 : decode cX12_quarrel 82 = .ok (.iload_n 3, 1) := by decide +kernel
theorem dX12_quarrel_83 : decode cX12_quarrel 83 = .ok (.iadd, 1) := by decide +kernel
theorem dX12_quarrel_84 : decode cX12_quarrel 84 = .ok (.iaload, 1) := by decide +kernel
theorem dX12_quarrel_85 : decode cX12_quarrel 85 = .ok (.istore 6, 2) := by decide +kernel
theorem dX12_quarrel_87 : decode cX12_quarrel 87 = .ok (.iload 5, 2) := by decide +kernel
theorem dX12_quarrel_89 : decode cX12_quarrel 89 = .ok (.iconst (-1), 1) := by decide +kernel
theorem dX12_quarrel_90 : decode cX12_quarrel 90 = .ok (.if_icmp .ne 8, 3) := by decide +kernel
theorem dX12_quarrel_93 : decode cX12_quarrel 93 = .ok (.ldc 181, 2) := by decide +kernel
theorem dX12_quarrel_95 : decode cX12_quarrel 95 = .ok (.goto 19, 3) := by decide +kernel
theorem dX12_quarrel_98 : decode cX12_quarrel 98 = .ok (.aload_n 0, 1) := by decide +kernel
theorem dX12_quarrel_99 : decode cX12_quarrel 99 = .ok (.getfield 8, 3) := by decide +kernel
theorem dX12_quarrel_102 : decode cX12_quarrel 102 = .ok (.sipush 7160, 3) := by decide +kernel
theorem dX12_quarrel_105 : decode cX12_quarrel 105 = .ok (.bipush 41, 2) := by decide +kernel
theorem dX12_quarrel_107 : decode cX12_quarrel 107 = .ok (.iload_n 2, 1) := by decide +kernel
theorem dX12_quarrel_108 : decode cX12_quarrel 108 = .ok (.imul, 1) := by decide +kernel
theorem dX12_quarrel_109 : decode cX12_quarrel 109 = .ok (.iadd, 1) := by decide +kernel
theorem dX12_quarrel_110 : decode cX12_quarrel 110 = .ok (.iload 5, 2) := by decide +kernel
theorem dX12_quarrel_112 : decode cX12_quarrel 112 = .ok (.iadd, 1) := by decide +kernel
theorem dX12_quarrel_113 : decode cX12_quarrel 113 = .ok (.iaload, 1) := by decide +kernel
theorem dX12_quarrel_114 : decode cX12_quarrel 114 = .ok (.istore 7, 2) := by decide +kernel
theorem dX12_quarrel_116 : decode cX12_quarrel 116 = .ok (.iload 6, 2) := by decide +kernel
theorem dX12_quarrel_118 : decode cX12_quarrel 118 = .ok (.ldc 181, 2) := by decide +kernel
theorem dX12_quarrel_120 : decode cX12_quarrel 120 = .ok (.if_icmp .eq 20, 3) := by decide +kernel
theorem dX12_quarrel_123 : decode cX12_quarrel 123 = .ok (.iload 7, 2) := by decide +kernel
theorem dX12_quarrel_125 : decode cX12_quarrel 125 = .ok (.ldc 181, 2) := by decide +kernel
theorem dX12_quarrel_127 : decode cX12_quarrel 127 = .ok (.if_icmp .eq 13, 3) := by decide +kernel
theorem dX12_quarrel_130 : decode cX12_quarrel 130 = .ok (.iload 6, 2) := by decide +kernel
theorem dX12_quarrel_132 : decode cX12_quarrel 132 = .ok (.iload 7, 2) := by decide +kernel
theorem dX12_quarrel_134 : decode cX12_quarrel 134 = .ok (.if_icmp .eq 6, 3) := by decide +kernel
theorem dX12_quarrel_137 : decode cX12_quarrel 137 = .ok (.iload 4, 2) := by decide +kernel
theorem dX12_quarrel_139 : decode cX12_quarrel 139 = .ok (.ireturn, 1) := by decide +kernel
theorem dX12_quarrel_140 : decode cX12_quarrel 140 = .ok (.iinc 3 1, 3) := by decide +kernel
theorem dX12_quarrel_143 : decode cX12_quarrel 143 = .ok (.goto (-113), 3) := by decide +kernel
theorem dX12_quarrel_146 : decode cX12_quarrel 146 = .ok (.bipush (-5), 2) := by decide +kernel
theorem dX12_quarrel_148 : decode cX12_quarrel 148 = .ok (.ireturn, 1) := by decide +kernel
theorem dX12_canStep_0 : decode cX12_canStep 0 = .ok (.aload_n 0, 1) := by decide +kernel
theorem dX12_canStep_1 : decode cX12_canStep 1 = .ok (.iconst 5, 1) := by decide +kernel
theorem dX12_canStep_2 : decode cX12_canStep 2 = .ok (.iload 5, 2) := by decide +kernel
theorem dX12_canStep_4 : decode cX12_canStep 4 = .ok (.invokevirtual 152, 3) := by decide +kernel
theorem dX12_canStep_7 : decode cX12_canStep 7 = .ok (.ifCond .ne 31, 3) := by decide +kernel
theorem dX12_canStep_10 : decode cX12_canStep 10 = .ok (.aload_n 0, 1) := by decide +kernel
theorem dX12_canStep_11 : decode cX12_canStep 11 = .ok (.getfield 8, 3) := by decide +kernel
theorem dX12_canStep_14 : decode cX12_canStep 14 = .ok (.bipush 100, 2) := by decide +kernel
theorem dX12_canStep_16 : decode cX12_canStep 16 = .ok (.iload_n 2, 1) := by decide +kernel
theorem dX12_canStep_17 : decode cX12_canStep 17 = .ok (.iadd, 1) := by decide +kernel
theorem dX12_canStep_18 : decode cX12_canStep 18 = .ok (.iaload, 1) := by decide +kernel
theorem dX12_canStep_19 : decode cX12_canStep 19 = .ok (.iconst 2, 1) := by decide +kernel
theorem dX12_canStep_20 : decode cX12_canStep 20 = .ok (.if_icmp .ne 18, 3) := by decide +kernel
theorem dX12_canStep_23 : decode cX12_canStep 23 = .ok (.iload_n 2, 1) := by decide +kernel
theorem dX12_canStep_24 : decode cX12_canStep 24 = .ok (.iload_n 3, 1) := by decide +kernel
theorem dX12_canStep_25 : decode cX12_canStep 25 = .ok (.if_icmp .eq 13, 3) := by decide +kernel
theorem dX12_canStep_28 : decode cX12_canStep 28 = .ok (.iload_n 2, 1) := by decide +kernel
theorem dX12_canStep_29 : decode cX12_canStep 29 = .ok (.iload 4, 2) := by decide +kernel
theorem dX12_canStep_31 : decode cX12_canStep 31 = .ok (.if_icmp .eq 7, 3) := by decide +kernel
theorem dX12_canStep_34 : decode cX12_canStep 34 = .ok (.iconst 1, 1) := by decide +kernel
theorem dX12_canStep_35 : decode cX12_canStep 35 = .ok (.goto 4, 3) := by decide +kernel
theorem dX12_canStep_38 : decode cX12_canStep 38 = .ok (.iconst 0, 1) := by decide +kernel
theorem dX12_canStep_39 : decode cX12_canStep 39 = .ok (.istore 6, 2) := by decide +kernel
theorem dX12_canStep_41 : decode cX12_canStep 41 = .ok (.iload_n 1, 1) := by decide +kernel
theorem dX12_canStep_42 : decode cX12_canStep 42 = .ok (.iload_n 2, 1) := by decide +kernel
theorem dX12_canStep_43 : decode cX12_canStep 43 = .ok (.invokestatic 171, 3) := by decide +kernel
theorem dX12_canStep_46 : decode cX12_canStep 46 = .ok (.ifCond .eq 44, 3) := by decide +kernel
theorem dX12_canStep_49 : decode cX12_canStep 49 = .ok (.iload 6, 2) := by decide +kernel
theorem dX12_canStep_51 : decode cX12_canStep 51 = .ok (.ifCond .ne 39, 3) := by decide +kernel
theorem dX12_canStep_54 : decode cX12_canStep 54 = .ok (.aload_n 0, 1) := by decide +kernel
theorem dX12_canStep_55 : decode cX12_canStep 55 = .ok (.getfield 8, 3) := by decide +kernel
theorem dX12_canStep_58 : decode cX12_canStep 58 = .ok (.bipush 20, 2) := by decide +kernel
theorem dX12_canStep_60 : decode cX12_canStep 60 = .ok (.iload_n 1, 1) := by decide +kernel
theorem dX12_canStep_61 : decode cX12_canStep 61 = .ok (.iadd, 1) := by decide +kernel
theorem dX12_canStep_62 : decode cX12_canStep 62 = .ok (.iaload, 1) := by decide +kernel
theorem dX12_canStep_63 : decode cX12_canStep 63 = .ok (.aload_n 0, 1) := by decide +kernel
theorem dX12_canStep_64 : decode cX12_canStep 64 = .ok (.getfield 8, 3) := by decide +kernel
theorem dX12_canStep_67 : decode cX12_canStep 67 = .ok (.bipush 20, 2) := by decide +kernel
theorem dX12_canStep_69 : decode cX12_canStep 69 = .ok (.iload_n 2, 1) := by decide +kernel
theorem dX12_canStep_70 : decode cX12_canStep 70 = .ok (.iadd, 1) := by decide +kernel
theorem dX12_canStep_71 : decode cX12_canStep 71 = .ok (.iaload, 1) := by decide +kernel
theorem dX12_canStep_72 : decode cX12_canStep 72 = .ok (.isub, 1) := by decide +kernel
theorem dX12_canStep_73 : decode cX12_canStep 73 = .ok (.invokestatic 183, 3) := by decide +kernel
theorem dX12_canStep_76 : decode cX12_canStep 76 = .ok (.aload_n 0, 1) := by decide +kernel
theorem dX12_canStep_77 : decode cX12_canStep 77 = .ok (.iconst 0, 1) := by decide +kernel
theorem dX12_canStep_78 : decode cX12_canStep 78 = .ok (.iload 5, 2) := by decide +kernel
theorem dX12_canStep_80 : decode cX12_canStep 80 = .ok (.invokevirtual 152, 3) := by decide +kernel
theorem dX12_canStep_83 : decode cX12_canStep 83 = .ok (.if_icmp .gt 7, 3) := by decide +kernel
theorem dX12_canStep_86 : decode cX12_canStep 86 = .ok (.iconst 1, 1) := by decide +kernel
theorem dX12_canStep_87 : decode cX12_canStep 87 = .ok (.goto 4, 3) := by decide +kernel
theorem dX12_canStep_90 : decode cX12_canStep 90 = .ok (.iconst 0, 1) := by decide +kernel
theorem dX12_canStep_91 : decode cX12_canStep 91 = .ok (.ireturn, 1) := by decide +kernel
theorem dX12_works_0 : decode cX12_works 0 = .ok (.iconst 0, 1) := by decide +kernel
theorem dX12_works_1 : decode cX12_works 1 = .ok (.istore 4, 2) := by decide +kernel
theorem dX12_works_3 : decode cX12_works 3 = .ok (.iload 4, 2) := by decide +kernel
theorem dX12_works_5 : decode cX12_works 5 = .ok (.bipush 80, 2) := by decide +kernel
theorem dX12_works_7 : decode cX12_works 7 = .ok (.if_icmp .ge 27, 3) := by decide +kernel
theorem dX12_works_10 : decode cX12_works 10 = .ok (.aload_n 0, 1) := by decide +kernel
theorem dX12_works_11 : decode cX12_works 11 = .ok (.getfield 20, 3) := by decide +kernel
theorem dX12_works_14 : decode cX12_works 14 = .ok (.iload 4, 2) := by decide +kernel
theorem dX12_works_16 : decode cX12_works 16 = .ok (.iload 4, 2) := by decide +kernel
theorem dX12_works_18 : decode cX12_works 18 = .ok (.iload_n 2, 1) := by decide +kernel
theorem dX12_works_19 : decode cX12_works 19 = .ok (.if_icmp .ne 7, 3) := by decide +kernel
theorem dX12_works_22 : decode cX12_works 22 = .ok (.iconst 0, 1) := by decide +kernel
theorem dX12_works_23 : decode cX12_works 23 = .ok (.goto 4, 3) := by decide +kernel
theorem dX12_works_26 : decode cX12_works 26 = .ok (.iconst (-1), 1) := by decide +kernel
theorem dX12_works_27 : decode cX12_works 27 = .ok (.iastore, 1) := by decide +kernel
theorem dX12_works_28 : decode cX12_works 28 = .ok (.iinc 4 1, 3) := by decide +kernel
theorem dX12_works_31 : decode cX12_works 31 = .ok (.goto (-28), 3) := by decide +kernel
theorem dX12_works_34 : decode cX12_works 34 = .ok (.iconst 1, 1) := by decide +kernel
theorem dX12_works_35 : decode cX12_works 35 = .ok (.istore 4, 2) := by decide +kernel
theorem dX12_works_37 : decode cX12_works 37 = .ok (.iload 4, 2) := by decide +kernel
theorem dX12_works_39 : decode cX12_works 39 = .ok (.ifCond .eq 199, 3) := by decide +kernel
theorem dX12_works_42 : decode cX12_works 42 = .ok (.iconst 0, 1) := by decide +kernel
theorem dX12_works_43 : decode cX12_works 43 = .ok (.istore 4, 2) := by decide +kernel
theorem dX12_works_45 : decode cX12_works 45 = .ok (.iconst 0, 1) := by decide +kernel
theorem dX12_works_46 : decode cX12_works 46 = .ok (.istore 5, 2) := by decide +kernel
theorem dX12_works_48 : decode cX12_works 48 = .ok (.iload 5, 2) := by decide +kernel
theorem dX12_works_50 : decode cX12_works 50 = .ok (.bipush 80, 2) := by decide +kernel
theorem dX12_works_52 : decode cX12_works 52 = .ok (.if_icmp .ge 183, 3) := by decide +kernel
theorem dX12_works_55 : decode cX12_works 55 = .ok (.iconst 0, 1) := by decide +kernel
theorem dX12_works_56 : decode cX12_works 56 = .ok (.istore 6, 2) := by decide +kernel
theorem dX12_works_58 : decode cX12_works 58 = .ok (.iload 6, 2) := by decide +kernel
theorem dX12_works_60 : decode cX12_works 60 = .ok (.iconst 4, 1) := by decide +kernel
theorem dX12_works_61 : decode cX12_works 61 = .ok (.if_icmp .ge 168, 3) := by decide +kernel
theorem dX12_works_64 : decode cX12_works 64 = .ok (.iload 5, 2) := by decide +kernel
theorem dX12_works_66 : decode cX12_works 66 = .ok (.iload 6, 2) := by decide +kernel
theorem dX12_works_68 : decode cX12_works 68 = .ok (.ifCond .ne 7, 3) := by decide +kernel
theorem dX12_works_71 : decode cX12_works 71 = .ok (.iconst 1, 1) := by decide +kernel
theorem dX12_works_72 : decode cX12_works 72 = .ok (.goto 26, 3) := by decide +kernel
theorem dX12_works_75 : decode cX12_works 75 = .ok (.iload 6, 2) := by decide +kernel
theorem dX12_works_77 : decode cX12_works 77 = .ok (.iconst 1, 1) := by decide +kernel
theorem dX12_works_78 : decode cX12_works 78 = .ok (.if_icmp .ne 7, 3) := by decide +kernel
theorem dX12_works_81 : decode cX12_works 81 = .ok (.iconst (-1), 1) := by decide +kernel
theorem dX12_works_82 : decode cX12_works 82 = .ok (.goto 16, 3) := by decide +kernel
theorem dX12_works_85 : decode cX12_works 85 = .ok (.iload 6, 2) := by decide +kernel
theorem dX12_works_87 : decode cX12_works 87 = .ok (.iconst 2, 1) := by decide +kernel
theorem dX12_works_88 : decode cX12_works 88 = .ok (.if_icmp .ne 8, 3) := by decide +kernel
theorem dX12_works_91 : decode cX12_works 91 = .ok (.bipush 10, 2) := by decide +kernel
theorem dX12_works_93 : decode cX12_works 93 = .ok (.goto 5, 3) := by decide +kernel
theorem dX12_works_96 : decode cX12_works 96 = .ok (.bipush (-10), 2) := by decide +kernel
theorem dX12_works_98 : decode cX12_works 98 = .ok (.iadd, 1) := by decide +kernel
theorem dX12_works_99 : decode cX12_works 99 = .ok (.istore 7, 2) := by decide +kernel
theorem dX12_works_101 : decode cX12_works 101 = .ok (.iload 7, 2) := by decide +kernel
theorem dX12_works_103 : decode cX12_works 103 = .ok (.invokestatic 66, 3) := by decide +kernel
theorem dX12_works_106 : decode cX12_works 106 = .ok (.ifCond .eq 117, 3) := by decide +kernel
theorem dX12_works_109 : decode cX12_works 109 = .ok (.aload_n 0, 1) := by decide +kernel
theorem dX12_works_110 : decode cX12_works 110 = .ok (.getfield 20, 3) := by decide +kernel
theorem dX12_works_113 : decode cX12_works 113 = .ok (.iload 7, 2) := by decide +kernel
theorem dX12_works_115 : decode cX12_works 115 = .ok (.iaload, 1) := by decide +kernel
theorem dX12_works_116 : decode cX12_works 116 = .ok (.iconst (-1), 1) := by decide +kernel
theorem dX12_works_117 : decode cX12_works 117 = .ok (.if_icmp .eq 106, 3) := by decide +kernel
theorem dX12_works_120 : decode cX12_works 120 = .ok (.aload_n 0, 1) := by decide +kernel
theorem dX12_works_121 : decode cX12_works 121 = .ok (.iload 5, 2) := by decide +kernel
theorem dX12_works_123 : decode cX12_works 123 = .ok (.iload 7, 2) := by decide +kernel
theorem dX12_works_125 : decode cX12_works 125 = .ok (.iload_n 1, 1) := by decide +kernel
theorem dX12_works_126 : decode cX12_works 126 = .ok (.iload_n 2, 1) := by decide +kernel
theorem dX12_works_127 : decode cX12_works 127 = .ok (.iload_n 3, 1) := by decide +kernel
theorem dX12_works_128 : decode cX12_works 128 = .ok (.invokevirtual 199, 3) := by decide +kernel
theorem dX12_works_131 : decode cX12_works 131 = .ok (.ifCond .eq 92, 3) := by decide +kernel
theorem dX12_works_134 : decode cX12_works 134 = .ok (.aload_n 0, 1) := by decide +kernel
theorem dX12_works_135 : decode cX12_works 135 = .ok (.iload 5, 2) := by decide +kernel
theorem dX12_works_137 : decode cX12_works 137 = .ok (.iload 7, 2) := by decide +kernel
theorem dX12_works_139 : decode cX12_works 139 = .ok (.invokevirtual 187, 3) := by decide +kernel
theorem dX12_works_142 : decode cX12_works 142 = .ok (.aload_n 0, 1) := by decide +kernel
theorem dX12_works_143 : decode cX12_works 143 = .ok (.getfield 20, 3) := by decide +kernel
theorem dX12_works_146 : decode cX12_works 146 = .ok (.iload 7, 2) := by decide +kernel
theorem dX12_works_148 : decode cX12_works 148 = .ok (.iaload, 1) := by decide +kernel
theorem dX12_works_149 : decode cX12_works 149 = .ok (.iadd, 1) := by decide +kernel
theorem dX12_works_150 : decode cX12_works 150 = .ok (.istore 8, 2) := by decide +kernel
theorem dX12_works_152 : decode cX12_works 152 = .ok (.aload_n 0, 1) := by decide +kernel
theorem dX12_works_153 : decode cX12_works 153 = .ok (.getfield 20, 3) := by decide +kernel
theorem dX12_works_156 : decode cX12_works 156 = .ok (.iload 5, 2) := by decide +kernel
theorem dX12_works_158 : decode cX12_works 158 = .ok (.iaload, 1) := by decide +kernel
theorem dX12_works_159 : decode cX12_works 159 = .ok (.iconst (-1), 1) := by decide +kernel
theorem dX12_works_160 : decode cX12_works 160 = .ok (.if_icmp .eq 15, 3) := by decide +kernel
theorem dX12_works_163 : decode cX12_works 163 = .ok (.iload 8, 2) := by decide +kernel
theorem dX12_works_165 : decode cX12_works 165 = .ok (.aload_n 0, 1) := by decide +kernel
theorem dX12_works_166 : decode cX12_works 166 = .ok (.getfield 20, 3) := by decide +kernel
theorem dX12_works_169 : decode cX12_works 169 = .ok (.iload 5, 2) := by decide +kernel
theorem dX12_works_171 : decode cX12_works 171 = .ok (.iaload, 1) := by decide +kernel
theorem dX12_works_172 : decode cX12_works 172 = .ok (.if_icmp .ge 7, 3) := by decide +kernel
theorem dX12_works_175 : decode cX12_works 175 = .ok (.iconst 1, 1) := by decide +kernel
theorem dX12_works_176 : decode cX12_works 176 = .ok (.goto 4, 3) := by decide +kernel
theorem dX12_works_179 : decode cX12_works 179 = .ok (.iconst 0, 1) := by decide +kernel
theorem dX12_works_180 : decode cX12_works 180 = .ok (.istore 9, 2) := by decide +kernel
theorem dX12_works_182 : decode cX12_works 182 = .ok (.aload_n 0, 1) := by decide +kernel
theorem dX12_works_183 : decode cX12_works 183 = .ok (.getfield 20, 3) := by decide +kernel
theorem dX12_works_186 : decode cX12_works 186 = .ok (.iload 5, 2) := by decide +kernel
theorem dX12_works_188 : decode cX12_works 188 = .ok (.iload 9, 2) := by decide +kernel
theorem dX12_works_190 : decode cX12_works 190 = .ok (.ifCond .eq 8, 3) := by decide +kernel
theorem dX12_works_193 : decode cX12_works 193 = .ok (.iload 8, 2) := by decide +kernel
theorem dX12_works_195 : decode cX12_works 195 = .ok (.goto 10, 3) := by decide +kernel
theorem dX12_works_198 : decode cX12_works 198 = .ok (.aload_n 0, 1) := by decide +kernel
theorem dX12_works_199 : decode cX12_works 199 = .ok (.getfield 20, 3) := by decide +kernel
theorem dX12_works_202 : decode cX12_works 202 = .ok (.iload 5, 2) := by decide +kernel
theorem dX12_works_204 : decode cX12_works 204 = .ok (.iaload, 1) := by decide +kernel
theorem dX12_works_205 : decode cX12_works 205 = .ok (.iastore, 1) := by decide +kernel
theorem dX12_works_206 : decode cX12_works 206 = .ok (.iload 4, 2) := by decide +kernel
theorem dX12_works_208 : decode cX12_works 208 = .ok (.ifCond .ne 8, 3) := by decide +kernel
theorem dX12_works_211 : decode cX12_works 211 = .ok (.iload 9, 2) := by decide +kernel
theorem dX12_works_213 : decode cX12_works 213 = .ok (.ifCond .eq 7, 3) := by decide +kernel
theorem dX12_works_216 : decode cX12_works 216 = .ok (.iconst 1, 1) := by decide +kernel
theorem dX12_works_217 : decode cX12_works 217 = .ok (.goto 4, 3) := by decide +kernel
theorem dX12_works_220 : decode cX12_works 220 = .ok (.iconst 0, 1) := by decide +kernel
theorem dX12_works_221 : decode cX12_works 221 = .ok (.istore 4, 2) := by decide +kernel
theorem dX12_works_223 : decode cX12_works 223 = .ok (.iinc 6 1, 3) := by decide +kernel
theorem dX12_works_226 : decode cX12_works 226 = .ok (.goto (-168), 3) := by decide +kernel
theorem dX12_works_229 : decode cX12_works 229 = .ok (.iinc 5 1, 3) := by decide +kernel
theorem dX12_works_232 : decode cX12_works 232 = .ok (.goto (-184), 3) := by decide +kernel
theorem dX12_works_235 : decode cX12_works 235 = .ok (.goto (-198), 3) := by decide +kernel
theorem dX12_works_238 : decode cX12_works 238 = .ok (.return_, 1) := by decide +kernel
theorem dX12_slope_0 : decode cX12_slope 0 = .ok (.aload_n 0, 1) := by decide +kernel
theorem dX12_slope_1 : decode cX12_slope 1 = .ok (.iload_n 1, 1) := by decide +kernel
theorem dX12_slope_2 : decode cX12_slope 2 = .ok (.invokevirtual 155, 3) := by decide +kernel
theorem dX12_slope_5 : decode cX12_slope 5 = .ok (.ifCond .eq 27, 3) := by decide +kernel
theorem dX12_slope_8 : decode cX12_slope 8 = .ok (.aload_n 0, 1) := by decide +kernel
theorem dX12_slope_9 : decode cX12_slope 9 = .ok (.iload_n 2, 1) := by decide +kernel
theorem dX12_slope_10 : decode cX12_slope 10 = .ok (.invokevirtual 155, 3) := by decide +kernel
theorem dX12_slope_13 : decode cX12_slope 13 = .ok (.ifCond .eq 19, 3) := by decide +kernel
theorem dX12_slope_16 : decode cX12_slope 16 = .ok (.iload 4, 2) := by decide +kernel
theorem dX12_slope_18 : decode cX12_slope 18 = .ok (.ifCond .lt 14, 3) := by decide +kernel
theorem dX12_slope_21 : decode cX12_slope 21 = .ok (.iload 4, 2) := by decide +kernel
theorem dX12_slope_23 : decode cX12_slope 23 = .ok (.iconst 2, 1) := by decide +kernel
theorem dX12_slope_24 : decode cX12_slope 24 = .ok (.bipush 9, 2) := by decide +kernel
theorem dX12_slope_26 : decode cX12_slope 26 = .ok (.invokestatic 58, 3) := by decide +kernel
theorem dX12_slope_29 : decode cX12_slope 29 = .ok (.ifCond .eq 5, 3) := by decide +kernel
theorem dX12_slope_32 : decode cX12_slope 32 = .ok (.iconst (-1), 1) := by decide +kernel
theorem dX12_slope_33 : decode cX12_slope 33 = .ok (.ireturn, 1) := by decide +kernel
theorem dX12_slope_34 : decode cX12_slope 34 = .ok (.iload_n 1, 1) := by decide +kernel
theorem dX12_slope_35 : decode cX12_slope 35 = .ok (.iload_n 2, 1) := by decide +kernel
theorem dX12_slope_36 : decode cX12_slope 36 = .ok (.if_icmp .eq 10, 3) := by decide +kernel
theorem dX12_slope_39 : decode cX12_slope 39 = .ok (.iload_n 3, 1) := by decide +kernel
theorem dX12_slope_40 : decode cX12_slope 40 = .ok (.invokestatic 141, 3) := by decide +kernel
theorem dX12_slope_43 : decode cX12_slope 43 = .ok (.ifCond .ne 6, 3) := by decide +kernel
theorem dX12_slope_46 : decode cX12_slope 46 = .ok (.bipush (-2), 2) := by decide +kernel
theorem dX12_slope_48 : decode cX12_slope 48 = .ok (.ireturn, 1) := by decide +kernel
theorem dX12_slope_49 : decode cX12_slope 49 = .ok (.aload_n 0, 1) := by decide +kernel
theorem dX12_slope_50 : decode cX12_slope 50 = .ok (.getfield 8, 3) := by decide +kernel
theorem dX12_slope_53 : decode cX12_slope 53 = .ok (.sipush 180, 3) := by decide +kernel
theorem dX12_slope_56 : decode cX12_slope 56 = .ok (.iload_n 1, 1) := by decide +kernel
theorem dX12_slope_57 : decode cX12_slope 57 = .ok (.iadd, 1) := by decide +kernel
theorem dX12_slope_58 : decode cX12_slope 58 = .ok (.iaload, 1) := by decide +kernel
theorem dX12_slope_59 : decode cX12_slope 59 = .ok (.istore 5, 2) := by decide +kernel
theorem dX12_slope_61 : decode cX12_slope 61 = .ok (.aload_n 0, 1) := by decide +kernel
theorem dX12_slope_62 : decode cX12_slope 62 = .ok (.getfield 8, 3) := by decide +kernel
theorem dX12_slope_65 : decode cX12_slope 65 = .ok (.sipush 180, 3) := by decide +kernel
theorem dX12_slope_68 : decode cX12_slope 68 = .ok (.iload_n 2, 1) := by decide +kernel
theorem dX12_slope_69 : decode cX12_slope 69 = .ok (.iadd, 1) := by decide +kernel
theorem dX12_slope_70 : decode cX12_slope 70 = .ok (.iaload, 1) := by decide +kernel
theorem dX12_slope_71 : decode cX12_slope 71 = .ok (.istore 6, 2) := by decide +kernel
theorem dX12_slope_73 : decode cX12_slope 73 = .ok (.aload_n 0, 1) := by decide +kernel
theorem dX12_slope_74 : decode cX12_slope 74 = .ok (.iload 5, 2) := by decide +kernel
theorem dX12_slope_76 : decode cX12_slope 76 = .ok (.iload 6, 2) := by decide +kernel
theorem dX12_slope_78 : decode cX12_slope 78 = .ok (.iload_n 3, 1) := by decide +kernel
theorem dX12_slope_79 : decode cX12_slope 79 = .ok (.invokevirtual 203, 3) := by decide +kernel
theorem dX12_slope_82 : decode cX12_slope 82 = .ok (.aload_n 0, 1) := by decide +kernel
theorem dX12_slope_83 : decode cX12_slope 83 = .ok (.getfield 20, 3) := by decide +kernel
theorem dX12_slope_86 : decode cX12_slope 86 = .ok (.iload 5, 2) := by decide +kernel
theorem dX12_slope_88 : decode cX12_slope 88 = .ok (.iaload, 1) := by decide +kernel
theorem dX12_slope_89 : decode cX12_slope 89 = .ok (.iconst (-1), 1) := by decide +kernel
theorem dX12_slope_90 : decode cX12_slope 90 = .ok (.if_icmp .ne 6, 3) := by decide +kernel
theorem dX12_slope_93 : decode cX12_slope 93 = .ok (.bipush (-5), 2) := by decide +kernel
theorem dX12_slope_95 : decode cX12_slope 95 = .ok (.ireturn, 1) := by decide +kernel
theorem dX12_slope_96 : decode cX12_slope 96 = .ok (.iload 4, 2) := by decide +kernel
theorem dX12_slope_98 : decode cX12_slope 98 = .ok (.ifCond .ne 11, 3) := by decide +kernel
theorem dX12_slope_101 : decode cX12_slope 101 = .ok (.aload_n 0, 1) := by decide +kernel
theorem dX12_slope_102 : decode cX12_slope 102 = .ok (.getfield 20, 3) := by decide +kernel
theorem dX12_slope_105 : decode cX12_slope 105 = .ok (.iload 5, 2) := by decide +kernel
theorem dX12_slope_107 : decode cX12_slope 107 = .ok (.iaload, 1) := by decide +kernel
theorem dX12_slope_108 : decode cX12_slope 108 = .ok (.ireturn, 1) := by decide +kernel
theorem dX12_slope_109 : decode cX12_slope 109 = .ok (.iconst 1, 1) := by decide +kernel
theorem dX12_slope_110 : decode cX12_slope 110 = .ok (.istore 7, 2) := by decide +kernel
theorem dX12_slope_112 : decode cX12_slope 112 = .ok (.aload_n 0, 1) := by decide +kernel
theorem dX12_slope_113 : decode cX12_slope 113 = .ok (.getfield 23, 3) := by decide +kernel
theorem dX12_slope_116 : decode cX12_slope 116 = .ok (.iconst 0, 1) := by decide +kernel
theorem dX12_slope_117 : decode cX12_slope 117 = .ok (.iload 5, 2) := by decide +kernel
theorem dX12_slope_119 : decode cX12_slope 119 = .ok (.iastore, 1) := by decide +kernel
theorem dX12_slope_120 : decode cX12_slope 120 = .ok (.aload_n 0, 1) := by decide +kernel
theorem dX12_slope_121 : decode cX12_slope 121 = .ok (.getfield 23, 3) := by decide +kernel
theorem dX12_slope_124 : decode cX12_slope 124 = .ok (.iload 7, 2) := by decide +kernel
theorem dX12_slope_126 : decode cX12_slope 126 = .ok (.iconst 1, 1) := by decide +kernel
theorem dX12_slope_127 : decode cX12_slope 127 = .ok (.isub, 1) := by decide +kernel
theorem dX12_slope_128 : decode cX12_slope 128 = .ok (.iaload, 1) := by decide +kernel
theorem dX12_slope_129 : decode cX12_slope 129 = .ok (.iload 6, 2) := by decide +kernel
theorem dX12_slope_131 : decode cX12_slope 131 = .ok (.if_icmp .eq 101, 3) := by decide +kernel
theorem dX12_slope_134 : decode cX12_slope 134 = .ok (.aload_n 0, 1) := by decide +kernel
theorem dX12_slope_135 : decode cX12_slope 135 = .ok (.getfield 23, 3) := by decide +kernel
theorem dX12_slope_138 : decode cX12_slope 138 = .ok (.iload 7, 2) := by decide +kernel
theorem dX12_slope_140 : decode cX12_slope 140 = .ok (.iconst 1, 1) := by decide +kernel
theorem dX12_slope_141 : decode cX12_slope 141 = .ok (.isub, 1) := by decide +kernel
theorem dX12_slope_142 : decode cX12_slope 142 = .ok (.iaload, 1) := by decide +kernel
theorem dX12_slope_143 : decode cX12_slope 143 = .ok (.istore 8, 2) := by decide +kernel
theorem dX12_slope_145 : decode cX12_slope 145 = .ok (.iconst 0, 1) := by decide +kernel
theorem dX12_slope_146 : decode cX12_slope 146 = .ok (.istore 9, 2) := by decide +kernel
theorem dX12_slope_148 : decode cX12_slope 148 = .ok (.iload 8, 2) := by decide +kernel
theorem dX12_slope_150 : decode cX12_slope 150 = .ok (.iload 9, 2) := by decide +kernel
theorem dX12_slope_152 : decode cX12_slope 152 = .ok (.invokestatic 171, 3) := by decide +kernel
theorem dX12_slope_155 : decode cX12_slope 155 = .ok (.ifCond .eq 56, 3) := by decide +kernel
theorem dX12_slope_158 : decode cX12_slope 158 = .ok (.aload_n 0, 1) := by decide +kernel
theorem dX12_slope_159 : decode cX12_slope 159 = .ok (.getfield 20, 3) := by decide +kernel
theorem dX12_slope_162 : decode cX12_slope 162 = .ok (.iload 9, 2) := by decide +kernel
theorem dX12_slope_164 : decode cX12_slope 164 = .ok (.iaload, 1) := by decide +kernel
theorem dX12_slope_165 : decode cX12_slope 165 = .ok (.iconst (-1), 1) := by decide +kernel
theorem dX12_slope_166 : decode cX12_slope 166 = .ok (.if_icmp .eq 45, 3) := by decide +kernel
theorem dX12_slope_169 : decode cX12_slope 169 = .ok (.aload_n 0, 1) := by decide +kernel
theorem dX12_slope_170 : decode cX12_slope 170 = .ok (.iload 8, 2) := by decide +kernel
theorem dX12_slope_172 : decode cX12_slope 172 = .ok (.iload 9, 2) := by decide +kernel
theorem dX12_slope_174 : decode cX12_slope 174 = .ok (.iload 5, 2) := by decide +kernel
theorem dX12_slope_176 : decode cX12_slope 176 = .ok (.iload 6, 2) := by decide +kernel
theorem dX12_slope_178 : decode cX12_slope 178 = .ok (.iload_n 3, 1) := by decide +kernel
theorem dX12_slope_179 : decode cX12_slope 179 = .ok (.invokevirtual 199, 3) := by decide +kernel
theorem dX12_slope_182 : decode cX12_slope 182 = .ok (.ifCond .eq 29, 3) := by decide +kernel
theorem dX12_slope_185 : decode cX12_slope 185 = .ok (.aload_n 0, 1) := by decide +kernel
theorem dX12_slope_186 : decode cX12_slope 186 = .ok (.iload 8, 2) := by decide +kernel
theorem dX12_slope_188 : decode cX12_slope 188 = .ok (.iload 9, 2) := by decide +kernel
theorem dX12_slope_190 : decode cX12_slope 190 = .ok (.invokevirtual 187, 3) := by decide +kernel
theorem dX12_slope_193 : decode cX12_slope 193 = .ok (.aload_n 0, 1) := by decide +kernel
theorem dX12_slope_194 : decode cX12_slope 194 = .ok (.getfield 20, 3) := by decide +kernel
theorem dX12_slope_197 : decode cX12_slope 197 = .ok (.iload 9, 2) := by decide +kernel
theorem dX12_slope_199 : decode cX12_slope 199 = .ok (.iaload, 1) := by decide +kernel
theorem dX12_slope_200 : decode cX12_slope 200 = .ok (.iadd, 1) := by decide +kernel
theorem dX12_slope_201 : decode cX12_slope 201 = .ok (.aload_n 0, 1) := by decide +kernel
theorem dX12_slope_202 : decode cX12_slope 202 = .ok (.getfield 20, 3) := by decide +kernel
theorem dX12_slope_205 : decode cX12_slope 205 = .ok (.iload 8, 2) := by decide +kernel
theorem dX12_slope_207 : decode cX12_slope 207 = .ok (.iaload, 1) := by decide +kernel
theorem dX12_slope_208 : decode cX12_slope 208 = .ok (.if_icmp .eq 9, 3) := by decide +kernel
theorem dX12_slope_211 : decode cX12_slope 211 = .ok (.iinc 9 1, 3) := by decide +kernel
theorem dX12_slope_214 : decode cX12_slope 214 = .ok (.goto (-66), 3) := by decide +kernel
theorem dX12_slope_217 : decode cX12_slope 217 = .ok (.aload_n 0, 1) := by decide +kernel
theorem dX12_slope_218 : decode cX12_slope 218 = .ok (.getfield 23, 3) := by decide +kernel
theorem dX12_slope_221 : decode cX12_slope 221 = .ok (.iload 7, 2) := by decide +kernel
theorem dX12_slope_223 : decode cX12_slope 223 = .ok (.iload 9, 2) := by decide +kernel
theorem dX12_slope_225 : decode cX12_slope 225 = .ok (.iastore, 1) := by decide +kernel
theorem dX12_slope_226 : decode cX12_slope 226 = .ok (.iinc 7 1, 3) := by decide +kernel
theorem dX12_slope_229 : decode cX12_slope 229 = .ok (.goto (-109), 3) := by decide +kernel
theorem dX12_slope_232 : decode cX12_slope 232 = .ok (.iload 4, 2) := by decide +kernel
theorem dX12_slope_234 : decode cX12_slope 234 = .ok (.iconst 1, 1) := by decide +kernel
theorem dX12_slope_235 : decode cX12_slope 235 = .ok (.if_icmp .ne 8, 3) := by decide +kernel
theorem dX12_slope_238 : decode cX12_slope 238 = .ok (.iload 7, 2) := by decide +kernel
theorem dX12_slope_240 : decode cX12_slope 240 = .ok (.goto 27, 3) := by decide +kernel
theorem dX12_slope_243 : decode cX12_slope 243 = .ok (.iload 4, 2) := by decide +kernel
theorem dX12_slope_245 : decode cX12_slope 245 = .ok (.bipush 10, 2) := by decide +kernel
theorem dX12_slope_247 : decode cX12_slope 247 = .ok (.isub, 1) := by decide +kernel
theorem dX12_slope_248 : decode cX12_slope 248 = .ok (.iload 7, 2) := by decide +kernel
theorem dX12_slope_250 : decode cX12_slope 250 = .ok (.if_icmp .ge 16, 3) := by decide +kernel
theorem dX12_slope_253 : decode cX12_slope 253 = .ok (.aload_n 0, 1) := by decide +kernel
theorem dX12_slope_254 : decode cX12_slope 254 = .ok (.getfield 23, 3) := by decide +kernel
theorem dX12_slope_257 : decode cX12_slope 257 = .ok (.iload 4, 2) := by decide +kernel
theorem dX12_slope_259 : decode cX12_slope 259 = .ok (.bipush 10, 2) := by decide +kernel
theorem dX12_slope_261 : decode cX12_slope 261 = .ok (.isub, 1) := by decide +kernel
theorem dX12_slope_262 : decode cX12_slope 262 = .ok (.iaload, 1) := by decide +kernel
theorem dX12_slope_263 : decode cX12_slope 263 = .ok (.goto 4, 3) := by decide +kernel
theorem dX12_slope_266 : decode cX12_slope 266 = .ok (.iconst (-1), 1) := by decide +kernel
theorem dX12_slope_267 : decode cX12_slope 267 = .ok (.ireturn, 1) := by decide +kernel
theorem dX12_claim_0 : decode cX12_claim 0 = .ok (.iload_n 1, 1) := by decide +kernel
theorem dX12_claim_1 : decode cX12_claim 1 = .ok (.invokestatic 66, 3) := by decide +kernel
theorem dX12_claim_4 : decode cX12_claim 4 = .ok (.ifCond .ne 5, 3) := by decide +kernel
theorem dX12_claim_7 : decode cX12_claim 7 = .ok (.iconst (-1), 1) := by decide +kernel
theorem dX12_claim_8 : decode cX12_claim 8 = .ok (.ireturn, 1) := by decide +kernel
theorem dX12_claim_9 : decode cX12_claim 9 = .ok (.iload_n 2, 1) := by decide +kernel
theorem dX12_claim_10 : decode cX12_claim 10 = .ok (.iconst 1, 1) := by decide +kernel
theorem dX12_claim_11 : decode cX12_claim 11 = .ok (.sipush 9999, 3) := by decide +kernel
theorem dX12_claim_14 : decode cX12_claim 14 = .ok (.invokestatic 58, 3) := by decide +kernel
theorem dX12_claim_17 : decode cX12_claim 17 = .ok (.ifCond .ne 6, 3) := by decide +kernel
theorem dX12_claim_20 : decode cX12_claim 20 = .ok (.bipush (-2), 2) := by decide +kernel
theorem dX12_claim_22 : decode cX12_claim 22 = .ok (.ireturn, 1) := by decide +kernel
theorem dX12_claim_23 : decode cX12_claim 23 = .ok (.aload_n 0, 1) := by decide +kernel
theorem dX12_claim_24 : decode cX12_claim 24 = .ok (.getfield 8, 3) := by decide +kernel
theorem dX12_claim_27 : decode cX12_claim 27 = .ok (.iconst 2, 1) := by decide +kernel
theorem dX12_claim_28 : decode cX12_claim 28 = .ok (.iaload, 1) := by decide +kernel
theorem dX12_claim_29 : decode cX12_claim 29 = .ok (.bipush 60, 2) := by decide +kernel
theorem dX12_claim_31 : decode cX12_claim 31 = .ok (.if_icmp .ne 8, 3) := by decide +kernel
theorem dX12_claim_34 : decode cX12_claim 34 = .ok (.bipush (-4), 2) := by decide +kernel
theorem dX12_claim_36 : decode cX12_claim 36 = .ok (.goto 14, 3) := by decide +kernel
theorem dX12_claim_39 : decode cX12_claim 39 = .ok (.aload_n 0, 1) := by decide +kernel
theorem dX12_claim_40 : decode cX12_claim 40 = .ok (.bipush 6, 2) := by decide +kernel
theorem dX12_claim_42 : decode cX12_claim 42 = .ok (.iconst (-1), 1) := by decide +kernel
theorem dX12_claim_43 : decode cX12_claim 43 = .ok (.iload_n 1, 1) := by decide +kernel
theorem dX12_claim_44 : decode cX12_claim 44 = .ok (.iconst (-1), 1) := by decide +kernel
theorem dX12_claim_45 : decode cX12_claim 45 = .ok (.iconst (-1), 1) := by decide +kernel
theorem dX12_claim_46 : decode cX12_claim 46 = .ok (.iload_n 2, 1) := by decide +kernel
theorem dX12_claim_47 : decode cX12_claim 47 = .ok (.invokevirtual 158, 3) := by decide +kernel
theorem dX12_claim_50 : decode cX12_claim 50 = .ok (.ireturn, 1) := by decide +kernel
theorem dX12_bill_0 : decode cX12_bill 0 = .ok (.aload_n 0, 1) := by decide +kernel
theorem dX12_bill_1 : decode cX12_bill 1 = .ok (.iload_n 1, 1) := by decide +kernel
theorem dX12_bill_2 : decode cX12_bill 2 = .ok (.iconst 2, 1) := by decide +kernel
theorem dX12_bill_3 : decode cX12_bill 3 = .ok (.invokevirtual 165, 3) := by decide +kernel
theorem dX12_bill_6 : decode cX12_bill 6 = .ok (.ifCond .ne 5, 3) := by decide +kernel
theorem dX12_bill_9 : decode cX12_bill 9 = .ok (.iconst (-1), 1) := by decide +kernel
theorem dX12_bill_10 : decode cX12_bill 10 = .ok (.ireturn, 1) := by decide +kernel
theorem dX12_bill_11 : decode cX12_bill 11 = .ok (.aload_n 0, 1) := by decide +kernel
theorem dX12_bill_12 : decode cX12_bill 12 = .ok (.getfield 8, 3) := by decide +kernel
theorem dX12_bill_15 : decode cX12_bill 15 = .ok (.sipush 910, 3) := by decide +kernel
theorem dX12_bill_18 : decode cX12_bill 18 = .ok (.iload_n 1, 1) := by decide +kernel
theorem dX12_bill_19 : decode cX12_bill 19 = .ok (.iadd, 1) := by decide +kernel
theorem dX12_bill_20 : decode cX12_bill 20 = .ok (.iaload, 1) := by decide +kernel
theorem dX12_bill_21 : decode cX12_bill 21 = .ok (.bipush (-5), 2) := by decide +kernel
theorem dX12_bill_23 : decode cX12_bill 23 = .ok (.if_icmp .ne 59, 3) := by decide +kernel
theorem dX12_bill_26 : decode cX12_bill 26 = .ok (.aload_n 0, 1) := by decide +kernel
theorem dX12_bill_27 : decode cX12_bill 27 = .ok (.iload_n 1, 1) := by decide +kernel
theorem dX12_bill_28 : decode cX12_bill 28 = .ok (.aload_n 0, 1) := by decide +kernel
theorem dX12_bill_29 : decode cX12_bill 29 = .ok (.getfield 8, 3) := by decide +kernel
theorem dX12_bill_32 : decode cX12_bill 32 = .ok (.iconst 0, 1) := by decide +kernel
theorem dX12_bill_33 : decode cX12_bill 33 = .ok (.iaload, 1) := by decide +kernel
theorem dX12_bill_34 : decode cX12_bill 34 = .ok (.invokevirtual 193, 3) := by decide +kernel
theorem dX12_bill_37 : decode cX12_bill 37 = .ok (.bipush (-5), 2) := by decide +kernel
theorem dX12_bill_39 : decode cX12_bill 39 = .ok (.if_icmp .ne 43, 3) := by decide +kernel
theorem dX12_bill_42 : decode cX12_bill 42 = .ok (.aload_n 0, 1) := by decide +kernel
theorem dX12_bill_43 : decode cX12_bill 43 = .ok (.iload_n 1, 1) := by decide +kernel
theorem dX12_bill_44 : decode cX12_bill 44 = .ok (.aload_n 0, 1) := by decide +kernel
theorem dX12_bill_45 : decode cX12_bill 45 = .ok (.getfield 8, 3) := by decide +kernel
theorem dX12_bill_48 : decode cX12_bill 48 = .ok (.iconst 0, 1) := by decide +kernel
theorem dX12_bill_49 : decode cX12_bill 49 = .ok (.iaload, 1) := by decide +kernel
theorem dX12_bill_50 : decode cX12_bill 50 = .ok (.invokevirtual 196, 3) := by decide +kernel
theorem dX12_bill_53 : decode cX12_bill 53 = .ok (.bipush (-5), 2) := by decide +kernel
theorem dX12_bill_55 : decode cX12_bill 55 = .ok (.if_icmp .ne 27, 3) := by decide +kernel
theorem dX12_bill_58 : decode cX12_bill 58 = .ok (.aload_n 0, 1) := by decide +kernel
theorem dX12_bill_59 : decode cX12_bill 59 = .ok (.getfield 8, 3) := by decide +kernel
theorem dX12_bill_62 : decode cX12_bill 62 = .ok (.iconst 0, 1) := by decide +kernel
theorem dX12_bill_63 : decode cX12_bill 63 = .ok (.iaload, 1) := by decide +kernel
theorem dX12_bill_64 : decode cX12_bill 64 = .ok (.aload_n 0, 1) := by decide +kernel
theorem dX12_bill_65 : decode cX12_bill 65 = .ok (.iconst 2, 1) := by decide +kernel
theorem dX12_bill_66 : decode cX12_bill 66 = .ok (.aload_n 0, 1) := by decide +kernel
theorem dX12_bill_67 : decode cX12_bill 67 = .ok (.getfield 8, 3) := by decide +kernel
theorem dX12_bill_70 : decode cX12_bill 70 = .ok (.iconst 0, 1) := by decide +kernel
theorem dX12_bill_71 : decode cX12_bill 71 = .ok (.iaload, 1) := by decide +kernel
theorem dX12_bill_72 : decode cX12_bill 72 = .ok (.invokevirtual 152, 3) := by decide +kernel
theorem dX12_bill_75 : decode cX12_bill 75 = .ok (.if_icmp .gt 7, 3) := by decide +kernel
theorem dX12_bill_78 : decode cX12_bill 78 = .ok (.iconst 1, 1) := by decide +kernel
theorem dX12_bill_79 : decode cX12_bill 79 = .ok (.goto 4, 3) := by decide +kernel
theorem dX12_bill_82 : decode cX12_bill 82 = .ok (.iconst 0, 1) := by decide +kernel
theorem dX12_bill_83 : decode cX12_bill 83 = .ok (.istore_n 2, 1) := by decide +kernel
theorem dX12_bill_84 : decode cX12_bill 84 = .ok (.iconst 0, 1) := by decide +kernel
theorem dX12_bill_85 : decode cX12_bill 85 = .ok (.istore_n 3, 1) := by decide +kernel
theorem dX12_bill_86 : decode cX12_bill 86 = .ok (.iload_n 3, 1) := by decide +kernel
theorem dX12_bill_87 : decode cX12_bill 87 = .ok (.aload_n 0, 1) := by decide +kernel
theorem dX12_bill_88 : decode cX12_bill 88 = .ok (.getfield 8, 3) := by decide +kernel
theorem dX12_bill_91 : decode cX12_bill 91 = .ok (.iconst 2, 1) := by decide +kernel
theorem dX12_bill_92 : decode cX12_bill 92 = .ok (.iaload, 1) := by decide +kernel
theorem dX12_bill_93 : decode cX12_bill 93 = .ok (.if_icmp .ge 47, 3) := by decide +kernel
theorem dX12_bill_96 : decode cX12_bill 96 = .ok (.iload_n 2, 1) := by decide +kernel
theorem dX12_bill_97 : decode cX12_bill 97 = .ok (.ifCond .eq 35, 3) := by decide +kernel
theorem dX12_bill_100 : decode cX12_bill 100 = .ok (.aload_n 0, 1) := by decide +kernel
theorem dX12_bill_101 : decode cX12_bill 101 = .ok (.getfield 8, 3) := by decide +kernel
theorem dX12_bill_104 : decode cX12_bill 104 = .ok (.sipush 370, 3) := by decide +kernel
theorem dX12_bill_107 : decode cX12_bill 107 = .ok (.iload_n 3, 1) := by decide +kernel
theorem dX12_bill_108 : decode cX12_bill 108 = .ok (.iadd, 1) := by decide +kernel
theorem dX12_bill_109 : decode cX12_bill 109 = .ok (.iaload, 1) := by decide +kernel
theorem dX12_bill_110 : decode cX12_bill 110 = .ok (.iconst 3, 1) := by decide +kernel
theorem dX12_bill_111 : decode cX12_bill 111 = .ok (.if_icmp .ne 17, 3) := by decide +kernel
theorem dX12_bill_114 : decode cX12_bill 114 = .ok (.aload_n 0, 1) := by decide +kernel
theorem dX12_bill_115 : decode cX12_bill 115 = .ok (.getfield 8, 3) := by decide +kernel
theorem dX12_bill_118 : decode cX12_bill 118 = .ok (.sipush 430, 3) := by decide +kernel
theorem dX12_bill_121 : decode cX12_bill 121 = .ok (.iload_n 3, 1) := by decide +kernel
theorem dX12_bill_122 : decode cX12_bill 122 = .ok (.iadd, 1) := by decide +kernel
theorem dX12_bill_123 : decode cX12_bill 123 = .ok (.iaload, 1) := by decide +kernel
theorem dX12_bill_124 : decode cX12_bill 124 = .ok (.iload_n 1, 1) := by decide +kernel
theorem dX12_bill_125 : decode cX12_bill 125 = .ok (.if_icmp .eq 7, 3) := by decide +kernel
theorem dX12_bill_128 : decode cX12_bill 128 = .ok (.iconst 1, 1) := by decide +kernel
theorem dX12_bill_129 : decode cX12_bill 129 = .ok (.goto 4, 3) := by decide +kernel
theorem dX12_bill_132 : decode cX12_bill 132 = .ok (.iconst 0, 1) := by decide +kernel
theorem dX12_bill_133 : decode cX12_bill 133 = .ok (.istore_n 2, 1) := by decide +kernel
theorem dX12_bill_134 : decode cX12_bill 134 = .ok (.iinc 3 1, 3) := by decide +kernel
theorem dX12_bill_137 : decode cX12_bill 137 = .ok (.goto (-51), 3) := by decide +kernel
theorem dX12_bill_140 : decode cX12_bill 140 = .ok (.iload_n 2, 1) := by decide +kernel
theorem dX12_bill_141 : decode cX12_bill 141 = .ok (.ifCond .ne 6, 3) := by decide +kernel
theorem dX12_bill_144 : decode cX12_bill 144 = .ok (.bipush (-3), 2) := by decide +kernel
theorem dX12_bill_146 : decode cX12_bill 146 = .ok (.ireturn, 1) := by decide +kernel
theorem dX12_bill_147 : decode cX12_bill 147 = .ok (.aload_n 0, 1) := by decide +kernel
theorem dX12_bill_148 : decode cX12_bill 148 = .ok (.getfield 8, 3) := by decide +kernel
theorem dX12_bill_151 : decode cX12_bill 151 = .ok (.iconst 2, 1) := by decide +kernel
theorem dX12_bill_152 : decode cX12_bill 152 = .ok (.iaload, 1) := by decide +kernel
theorem dX12_bill_153 : decode cX12_bill 153 = .ok (.bipush 60, 2) := by decide +kernel
theorem dX12_bill_155 : decode cX12_bill 155 = .ok (.if_icmp .ne 8, 3) := by decide +kernel
theorem dX12_bill_158 : decode cX12_bill 158 = .ok (.bipush (-4), 2) := by decide +kernel
theorem dX12_bill_160 : decode cX12_bill 160 = .ok (.goto 40, 3) := by decide +kernel
theorem dX12_bill_163 : decode cX12_bill 163 = .ok (.aload_n 0, 1) := by decide +kernel
theorem dX12_bill_164 : decode cX12_bill 164 = .ok (.iconst 3, 1) := by decide +kernel
theorem dX12_bill_165 : decode cX12_bill 165 = .ok (.iload_n 1, 1) := by decide +kernel
theorem dX12_bill_166 : decode cX12_bill 166 = .ok (.aload_n 0, 1) := by decide +kernel
theorem dX12_bill_167 : decode cX12_bill 167 = .ok (.getfield 8, 3) := by decide +kernel
theorem dX12_bill_170 : decode cX12_bill 170 = .ok (.sipush 550, 3) := by decide +kernel
theorem dX12_bill_173 : decode cX12_bill 173 = .ok (.iload_n 1, 1) := by decide +kernel
theorem dX12_bill_174 : decode cX12_bill 174 = .ok (.iadd, 1) := by decide +kernel
theorem dX12_bill_175 : decode cX12_bill 175 = .ok (.iaload, 1) := by decide +kernel
theorem dX12_bill_176 : decode cX12_bill 176 = .ok (.aload_n 0, 1) := by decide +kernel
theorem dX12_bill_177 : decode cX12_bill 177 = .ok (.getfield 8, 3) := by decide +kernel
theorem dX12_bill_180 : decode cX12_bill 180 = .ok (.sipush 610, 3) := by decide +kernel
theorem dX12_bill_183 : decode cX12_bill 183 = .ok (.iload_n 1, 1) := by decide +kernel
theorem dX12_bill_184 : decode cX12_bill 184 = .ok (.iadd, 1) := by decide +kernel
theorem dX12_bill_185 : decode cX12_bill 185 = .ok (.iaload, 1) := by decide +kernel
theorem dX12_bill_186 : decode cX12_bill 186 = .ok (.aload_n 0, 1) := by decide +kernel
theorem dX12_bill_187 : decode cX12_bill 187 = .ok (.getfield 8, 3) := by decide +kernel
theorem dX12_bill_190 : decode cX12_bill 190 = .ok (.sipush 670, 3) := by decide +kernel
theorem dX12_bill_193 : decode cX12_bill 193 = .ok (.iload_n 1, 1) := by decide +kernel
theorem dX12_bill_194 : decode cX12_bill 194 = .ok (.iadd, 1) := by decide +kernel
theorem dX12_bill_195 : decode cX12_bill 195 = .ok (.iaload, 1) := by decide +kernel
theorem dX12_bill_196 : decode cX12_bill 196 = .ok (.iconst (-1), 1) := by decide +kernel
theorem dX12_bill_197 : decode cX12_bill 197 = .ok (.invokevirtual 158, 3) := by decide +kernel
theorem dX12_bill_200 : decode cX12_bill 200 = .ok (.ireturn, 1) := by decide +kernel
theorem dX12_claims_0 : decode cX12_claims 0 = .ok (.aload_n 0, 1) := by decide +kernel
theorem dX12_claims_1 : decode cX12_claims 1 = .ok (.getfield 8, 3) := by decide +kernel
theorem dX12_claims_4 : decode cX12_claims 4 = .ok (.sipush 430, 3) := by decide +kernel
theorem dX12_claims_7 : decode cX12_claims 7 = .ok (.iload_n 1, 1) := by decide +kernel
theorem dX12_claims_8 : decode cX12_claims 8 = .ok (.iadd, 1) := by decide +kernel
theorem dX12_claims_9 : decode cX12_claims 9 = .ok (.iaload, 1) := by decide +kernel
theorem dX12_claims_10 : decode cX12_claims 10 = .ok (.istore_n 2, 1) := by decide +kernel
theorem dX12_claims_11 : decode cX12_claims 11 = .ok (.iconst 0, 1) := by decide +kernel
theorem dX12_claims_12 : decode cX12_claims 12 = .ok (.istore_n 3, 1) := by decide +kernel
theorem dX12_claims_13 : decode cX12_claims 13 = .ok (.iconst 0, 1) := by decide +kernel
theorem dX12_claims_14 : decode cX12_claims 14 = .ok (.istore 4, 2) := by decide +kernel
theorem dX12_claims_16 : decode cX12_claims 16 = .ok (.iload 4, 2) := by decide +kernel
theorem dX12_claims_18 : decode cX12_claims 18 = .ok (.aload_n 0, 1) := by decide +kernel
theorem dX12_claims_19 : decode cX12_claims 19 = .ok (.getfield 8, 3) := by decide +kernel
theorem dX12_claims_22 : decode cX12_claims 22 = .ok (.iconst 2, 1) := by decide +kernel
theorem dX12_claims_23 : decode cX12_claims 23 = .ok (.iaload, 1) := by decide +kernel
theorem dX12_claims_24 : decode cX12_claims 24 = .ok (.if_icmp .ge 62, 3) := by decide +kernel
theorem dX12_claims_27 : decode cX12_claims 27 = .ok (.iload_n 3, 1) := by decide +kernel
theorem dX12_claims_28 : decode cX12_claims 28 = .ok (.aload_n 0, 1) := by decide +kernel
theorem dX12_claims_29 : decode cX12_claims 29 = .ok (.getfield 8, 3) := by decide +kernel
theorem dX12_claims_32 : decode cX12_claims 32 = .ok (.sipush 370, 3) := by decide +kernel
theorem dX12_claims_35 : decode cX12_claims 35 = .ok (.iload 4, 2) := by decide +kernel
theorem dX12_claims_37 : decode cX12_claims 37 = .ok (.iadd, 1) := by decide +kernel
theorem dX12_claims_38 : decode cX12_claims 38 = .ok (.iaload, 1) := by decide +kernel
theorem dX12_claims_39 : decode cX12_claims 39 = .ok (.bipush 6, 2) := by decide +kernel
theorem dX12_claims_41 : decode cX12_claims 41 = .ok (.if_icmp .ne 36, 3) := by decide +kernel
theorem dX12_claims_44 : decode cX12_claims 44 = .ok (.aload_n 0, 1) := by decide +kernel
theorem dX12_claims_45 : decode cX12_claims 45 = .ok (.iload_n 2, 1) := by decide +kernel
theorem dX12_claims_46 : decode cX12_claims 46 = .ok (.aload_n 0, 1) := by decide +kernel
theorem dX12_claims_47 : decode cX12_claims 47 = .ok (.getfield 8, 3) := by decide +kernel
theorem dX12_claims_50 : decode cX12_claims 50 = .ok (.sipush 550, 3) := by decide +kernel
theorem dX12_claims_53 : decode cX12_claims 53 = .ok (.iload 4, 2) := by decide +kernel
theorem dX12_claims_55 : decode cX12_claims 55 = .ok (.iadd, 1) := by decide +kernel
theorem dX12_claims_56 : decode cX12_claims 56 = .ok (.iaload, 1) := by decide +kernel
theorem dX12_claims_57 : decode cX12_claims 57 = .ok (.invokevirtual 174, 3) := by decide +kernel
theorem dX12_claims_60 : decode cX12_claims 60 = .ok (.ifCond .eq 17, 3) := by decide +kernel
theorem dX12_claims_63 : decode cX12_claims 63 = .ok (.aload_n 0, 1) := by decide +kernel
theorem dX12_claims_64 : decode cX12_claims 64 = .ok (.getfield 8, 3) := by decide +kernel
theorem dX12_claims_67 : decode cX12_claims 67 = .ok (.sipush 730, 3) := by decide +kernel
theorem dX12_claims_70 : decode cX12_claims 70 = .ok (.iload 4, 2) := by decide +kernel
theorem dX12_claims_72 : decode cX12_claims 72 = .ok (.iadd, 1) := by decide +kernel
theorem dX12_claims_73 : decode cX12_claims 73 = .ok (.iaload, 1) := by decide +kernel
theorem dX12_claims_74 : decode cX12_claims 74 = .ok (.goto 4, 3) := by decide +kernel
theorem dX12_claims_77 : decode cX12_claims 77 = .ok (.iconst 0, 1) := by decide +kernel
theorem dX12_claims_78 : decode cX12_claims 78 = .ok (.iadd, 1) := by decide +kernel
theorem dX12_claims_79 : decode cX12_claims 79 = .ok (.istore_n 3, 1) := by decide +kernel
theorem dX12_claims_80 : decode cX12_claims 80 = .ok (.iinc 4 1, 3) := by decide +kernel
theorem dX12_claims_83 : decode cX12_claims 83 = .ok (.goto (-67), 3) := by decide +kernel
theorem dX12_claims_86 : decode cX12_claims 86 = .ok (.iload_n 3, 1) := by decide +kernel
theorem dX12_claims_87 : decode cX12_claims 87 = .ok (.ireturn, 1) := by decide +kernel
theorem dX12_inWay_0 : decode cX12_inWay 0 = .ok (.aload_n 0, 1) := by decide +kernel
theorem dX12_inWay_1 : decode cX12_inWay 1 = .ok (.getfield 8, 3) := by decide +kernel
theorem dX12_inWay_4 : decode cX12_inWay 4 = .ok (.sipush 430, 3) := by decide +kernel
theorem dX12_inWay_7 : decode cX12_inWay 7 = .ok (.iload_n 1, 1) := by decide +kernel
theorem dX12_inWay_8 : decode cX12_inWay 8 = .ok (.iadd, 1) := by decide +kernel
theorem dX12_inWay_9 : decode cX12_inWay 9 = .ok (.iaload, 1) := by decide +kernel
theorem dX12_inWay_10 : decode cX12_inWay 10 = .ok (.istore_n 3, 1) := by decide +kernel
theorem dX12_inWay_11 : decode cX12_inWay 11 = .ok (.iconst 0, 1) := by decide +kernel
theorem dX12_inWay_12 : decode cX12_inWay 12 = .ok (.istore 4, 2) := by decide +kernel
theorem dX12_inWay_14 : decode cX12_inWay 14 = .ok (.iconst 0, 1) := by decide +kernel
theorem dX12_inWay_15 : decode cX12_inWay 15 = .ok (.istore 5, 2) := by decide +kernel
theorem dX12_inWay_17 : decode cX12_inWay 17 = .ok (.iload 5, 2) := by decide +kernel
theorem dX12_inWay_19 : decode cX12_inWay 19 = .ok (.aload_n 0, 1) := by decide +kernel
theorem dX12_inWay_20 : decode cX12_inWay 20 = .ok (.getfield 8, 3) := by decide +kernel
theorem dX12_inWay_23 : decode cX12_inWay 23 = .ok (.sipush 850, 3) := by decide +kernel
theorem dX12_inWay_26 : decode cX12_inWay 26 = .ok (.iload_n 3, 1) := by decide +kernel
theorem dX12_inWay_27 : decode cX12_inWay 27 = .ok (.iadd, 1) := by decide +kernel
theorem dX12_inWay_28 : decode cX12_inWay 28 = .ok (.iaload, 1) := by decide +kernel
theorem dX12_inWay_29 : decode cX12_inWay 29 = .ok (.if_icmp .ge 47, 3) := by decide +kernel
theorem dX12_inWay_32 : decode cX12_inWay 32 = .ok (.iload 4, 2) := by decide +kernel
theorem dX12_inWay_34 : decode cX12_inWay 34 = .ok (.aload_n 0, 1) := by decide +kernel
theorem dX12_inWay_35 : decode cX12_inWay 35 = .ok (.getfield 8, 3) := by decide +kernel
theorem dX12_inWay_38 : decode cX12_inWay 38 = .ok (.bipush 100, 2) := by decide +kernel
theorem dX12_inWay_40 : decode cX12_inWay 40 = .ok (.aload_n 0, 1) := by decide +kernel
theorem dX12_inWay_41 : decode cX12_inWay 41 = .ok (.getfield 8, 3) := by decide +kernel
theorem dX12_inWay_44 : decode cX12_inWay 44 = .ok (.sipush 4700, 3) := by decide +kernel
theorem dX12_inWay_47 : decode cX12_inWay 47 = .ok (.bipush 41, 2) := by decide +kernel
theorem dX12_inWay_49 : decode cX12_inWay 49 = .ok (.iload_n 3, 1) := by decide +kernel
theorem dX12_inWay_50 : decode cX12_inWay 50 = .ok (.imul, 1) := by decide +kernel
theorem dX12_inWay_51 : decode cX12_inWay 51 = .ok (.iadd, 1) := by decide +kernel
theorem dX12_inWay_52 : decode cX12_inWay 52 = .ok (.iload 5, 2) := by decide +kernel
theorem dX12_inWay_54 : decode cX12_inWay 54 = .ok (.iadd, 1) := by decide +kernel
theorem dX12_inWay_55 : decode cX12_inWay 55 = .ok (.iaload, 1) := by decide +kernel
theorem dX12_inWay_56 : decode cX12_inWay 56 = .ok (.iadd, 1) := by decide +kernel
theorem dX12_inWay_57 : decode cX12_inWay 57 = .ok (.iaload, 1) := by decide +kernel
theorem dX12_inWay_58 : decode cX12_inWay 58 = .ok (.iload_n 2, 1) := by decide +kernel
theorem dX12_inWay_59 : decode cX12_inWay 59 = .ok (.if_icmp .ne 7, 3) := by decide +kernel
theorem dX12_inWay_62 : decode cX12_inWay 62 = .ok (.iconst 1, 1) := by decide +kernel
theorem dX12_inWay_63 : decode cX12_inWay 63 = .ok (.goto 4, 3) := by decide +kernel
theorem dX12_inWay_66 : decode cX12_inWay 66 = .ok (.iconst 0, 1) := by decide +kernel
theorem dX12_inWay_67 : decode cX12_inWay 67 = .ok (.iadd, 1) := by decide +kernel
theorem dX12_inWay_68 : decode cX12_inWay 68 = .ok (.istore 4, 2) := by decide +kernel
theorem dX12_inWay_70 : decode cX12_inWay 70 = .ok (.iinc 5 1, 3) := by decide +kernel
theorem dX12_inWay_73 : decode cX12_inWay 73 = .ok (.goto (-56), 3) := by decide +kernel
theorem dX12_inWay_76 : decode cX12_inWay 76 = .ok (.iload 4, 2) := by decide +kernel
theorem dX12_inWay_78 : decode cX12_inWay 78 = .ok (.ireturn, 1) := by decide +kernel
theorem dX12_canBeLet_0 : decode cX12_canBeLet 0 = .ok (.aload_n 0, 1) := by decide +kernel
theorem dX12_canBeLet_1 : decode cX12_canBeLet 1 = .ok (.bipush 6, 2) := by decide +kernel
theorem dX12_canBeLet_3 : decode cX12_canBeLet 3 = .ok (.iload_n 2, 1) := by decide +kernel
theorem dX12_canBeLet_4 : decode cX12_canBeLet 4 = .ok (.invokevirtual 148, 3) := by decide +kernel
theorem dX12_canBeLet_7 : decode cX12_canBeLet 7 = .ok (.istore_n 3, 1) := by decide +kernel
theorem dX12_canBeLet_8 : decode cX12_canBeLet 8 = .ok (.iload_n 3, 1) := by decide +kernel
theorem dX12_canBeLet_9 : decode cX12_canBeLet 9 = .ok (.iconst (-1), 1) := by decide +kernel
theorem dX12_canBeLet_10 : decode cX12_canBeLet 10 = .ok (.if_icmp .ne 5, 3) := by decide +kernel
theorem dX12_canBeLet_13 : decode cX12_canBeLet 13 = .ok (.iconst 1, 1) := by decide +kernel
theorem dX12_canBeLet_14 : decode cX12_canBeLet 14 = .ok (.ireturn, 1) := by decide +kernel
theorem dX12_canBeLet_15 : decode cX12_canBeLet 15 = .ok (.aload_n 0, 1) := by decide +kernel
theorem dX12_canBeLet_16 : decode cX12_canBeLet 16 = .ok (.getfield 17, 3) := by decide +kernel
theorem dX12_canBeLet_19 : decode cX12_canBeLet 19 = .ok (.iconst 0, 1) := by decide +kernel
theorem dX12_canBeLet_20 : decode cX12_canBeLet 20 = .ok (.aload_n 0, 1) := by decide +kernel
theorem dX12_canBeLet_21 : decode cX12_canBeLet 21 = .ok (.aload_n 0, 1) := by decide +kernel
theorem dX12_canBeLet_22 : decode cX12_canBeLet 22 = .ok (.getfield 8, 3) := by decide +kernel
theorem dX12_canBeLet_25 : decode cX12_canBeLet 25 = .ok (.sipush 430, 3) := by decide +kernel
theorem dX12_canBeLet_28 : decode cX12_canBeLet 28 = .ok (.iload_n 1, 1) := by decide +kernel
theorem dX12_canBeLet_29 : decode cX12_canBeLet 29 = .ok (.iadd, 1) := by decide +kernel
theorem dX12_canBeLet_30 : decode cX12_canBeLet 30 = .ok (.iaload, 1) := by decide +kernel
theorem dX12_canBeLet_31 : decode cX12_canBeLet 31 = .ok (.invokevirtual 190, 3) := by decide +kernel
theorem dX12_canBeLet_34 : decode cX12_canBeLet 34 = .ok (.bipush 10, 2) := by decide +kernel
theorem dX12_canBeLet_36 : decode cX12_canBeLet 36 = .ok (.idiv, 1) := by decide +kernel
theorem dX12_canBeLet_37 : decode cX12_canBeLet 37 = .ok (.iastore, 1) := by decide +kernel
theorem dX12_canBeLet_38 : decode cX12_canBeLet 38 = .ok (.aload_n 0, 1) := by decide +kernel
theorem dX12_canBeLet_39 : decode cX12_canBeLet 39 = .ok (.getfield 17, 3) := by decide +kernel
theorem dX12_canBeLet_42 : decode cX12_canBeLet 42 = .ok (.iconst 1, 1) := by decide +kernel
theorem dX12_canBeLet_43 : decode cX12_canBeLet 43 = .ok (.aload_n 0, 1) := by decide +kernel
theorem dX12_canBeLet_44 : decode cX12_canBeLet 44 = .ok (.getfield 8, 3) := by decide +kernel
theorem dX12_canBeLet_47 : decode cX12_canBeLet 47 = .ok (.sipush 186, 3) := by decide +kernel
theorem dX12_canBeLet_50 : decode cX12_canBeLet 50 = .ok (.aload_n 0, 1) := by decide +kernel
theorem dX12_canBeLet_51 : decode cX12_canBeLet 51 = .ok (.getfield 8, 3) := by decide +kernel
theorem dX12_canBeLet_54 : decode cX12_canBeLet 54 = .ok (.sipush 550, 3) := by decide +kernel
theorem dX12_canBeLet_57 : decode cX12_canBeLet 57 = .ok (.iload_n 1, 1) := by decide +kernel
theorem dX12_canBeLet_58 : decode cX12_canBeLet 58 = .ok (.iadd, 1) := by decide +kernel
theorem dX12_canBeLet_59 : decode cX12_canBeLet 59 = .ok (.iaload, 1) := by decide +kernel
theorem dX12_canBeLet_60 : decode cX12_canBeLet 60 = .ok (.iadd, 1) := by decide +kernel
theorem dX12_canBeLet_61 : decode cX12_canBeLet 61 = .ok (.iaload, 1) := by decide +kernel
theorem dX12_canBeLet_62 : decode cX12_canBeLet 62 = .ok (.aload_n 0, 1) := by decide +kernel
theorem dX12_canBeLet_63 : decode cX12_canBeLet 63 = .ok (.getfield 8, 3) := by decide +kernel
theorem dX12_canBeLet_66 : decode cX12_canBeLet 66 = .ok (.sipush 186, 3) := by decide +kernel
theorem dX12_canBeLet_69 : decode cX12_canBeLet 69 = .ok (.aload_n 0, 1) := by decide +kernel
theorem dX12_canBeLet_70 : decode cX12_canBeLet 70 = .ok (.getfield 8, 3) := by decide +kernel
theorem dX12_canBeLet_73 : decode cX12_canBeLet 73 = .ok (.sipush 610, 3) := by decide +kernel
theorem dX12_canBeLet_76 : decode cX12_canBeLet 76 = .ok (.iload_n 1, 1) := by decide +kernel
theorem dX12_canBeLet_77 : decode cX12_canBeLet 77 = .ok (.iadd, 1) := by decide +kernel
theorem dX12_canBeLet_78 : decode cX12_canBeLet 78 = .ok (.iaload, 1) := by decide +kernel
theorem dX12_canBeLet_79 : decode cX12_canBeLet 79 = .ok (.iadd, 1) := by decide +kernel
theorem dX12_canBeLet_80 : decode cX12_canBeLet 80 = .ok (.iaload, 1) := by decide +kernel
theorem dX12_canBeLet_81 : decode cX12_canBeLet 81 = .ok (.iadd, 1) := by decide +kernel
theorem dX12_canBeLet_82 : decode cX12_canBeLet 82 = .ok (.iastore, 1) := by decide +kernel
theorem dX12_canBeLet_83 : decode cX12_canBeLet 83 = .ok (.aload_n 0, 1) := by decide +kernel
theorem dX12_canBeLet_84 : decode cX12_canBeLet 84 = .ok (.getfield 17, 3) := by decide +kernel
theorem dX12_canBeLet_87 : decode cX12_canBeLet 87 = .ok (.iconst 2, 1) := by decide +kernel
theorem dX12_canBeLet_88 : decode cX12_canBeLet 88 = .ok (.aload_n 0, 1) := by decide +kernel
theorem dX12_canBeLet_89 : decode cX12_canBeLet 89 = .ok (.iload_n 1, 1) := by decide +kernel
theorem dX12_canBeLet_90 : decode cX12_canBeLet 90 = .ok (.iconst 2, 1) := by decide +kernel
theorem dX12_canBeLet_91 : decode cX12_canBeLet 91 = .ok (.invokevirtual 207, 3) := by decide +kernel
theorem dX12_canBeLet_94 : decode cX12_canBeLet 94 = .ok (.iastore, 1) := by decide +kernel
theorem dX12_canBeLet_95 : decode cX12_canBeLet 95 = .ok (.aload_n 0, 1) := by decide +kernel
theorem dX12_canBeLet_96 : decode cX12_canBeLet 96 = .ok (.getfield 17, 3) := by decide +kernel
theorem dX12_canBeLet_99 : decode cX12_canBeLet 99 = .ok (.iconst 3, 1) := by decide +kernel
theorem dX12_canBeLet_100 : decode cX12_canBeLet 100 = .ok (.aload_n 0, 1) := by decide +kernel
theorem dX12_canBeLet_101 : decode cX12_canBeLet 101 = .ok (.iload_n 1, 1) := by decide +kernel
theorem dX12_canBeLet_102 : decode cX12_canBeLet 102 = .ok (.iconst 1, 1) := by decide +kernel
theorem dX12_canBeLet_103 : decode cX12_canBeLet 103 = .ok (.invokevirtual 207, 3) := by decide +kernel
theorem dX12_canBeLet_106 : decode cX12_canBeLet 106 = .ok (.iastore, 1) := by decide +kernel
theorem dX12_canBeLet_107 : decode cX12_canBeLet 107 = .ok (.aload_n 0, 1) := by decide +kernel
theorem dX12_canBeLet_108 : decode cX12_canBeLet 108 = .ok (.getfield 17, 3) := by decide +kernel
theorem dX12_canBeLet_111 : decode cX12_canBeLet 111 = .ok (.iconst 4, 1) := by decide +kernel
theorem dX12_canBeLet_112 : decode cX12_canBeLet 112 = .ok (.aload_n 0, 1) := by decide +kernel
theorem dX12_canBeLet_113 : decode cX12_canBeLet 113 = .ok (.iload_n 1, 1) := by decide +kernel
theorem dX12_canBeLet_114 : decode cX12_canBeLet 114 = .ok (.invokevirtual 210, 3) := by decide +kernel
theorem dX12_canBeLet_117 : decode cX12_canBeLet 117 = .ok (.iastore, 1) := by decide +kernel
theorem dX12_canBeLet_118 : decode cX12_canBeLet 118 = .ok (.aload_n 0, 1) := by decide +kernel
theorem dX12_canBeLet_119 : decode cX12_canBeLet 119 = .ok (.getfield 17, 3) := by decide +kernel
theorem dX12_canBeLet_122 : decode cX12_canBeLet 122 = .ok (.iconst 5, 1) := by decide +kernel
theorem dX12_canBeLet_123 : decode cX12_canBeLet 123 = .ok (.aload_n 0, 1) := by decide +kernel
theorem dX12_canBeLet_124 : decode cX12_canBeLet 124 = .ok (.getfield 8, 3) := by decide +kernel
theorem dX12_canBeLet_127 : decode cX12_canBeLet 127 = .ok (.sipush 670, 3) := by decide +kernel
theorem dX12_canBeLet_130 : decode cX12_canBeLet 130 = .ok (.iload_n 1, 1) := by decide +kernel
theorem dX12_canBeLet_131 : decode cX12_canBeLet 131 = .ok (.iadd, 1) := by decide +kernel
theorem dX12_canBeLet_132 : decode cX12_canBeLet 132 = .ok (.iaload, 1) := by decide +kernel
theorem dX12_canBeLet_133 : decode cX12_canBeLet 133 = .ok (.iastore, 1) := by decide +kernel
theorem dX12_canBeLet_134 : decode cX12_canBeLet 134 = .ok (.aload_n 0, 1) := by decide +kernel
theorem dX12_canBeLet_135 : decode cX12_canBeLet 135 = .ok (.iload_n 3, 1) := by decide +kernel
theorem dX12_canBeLet_136 : decode cX12_canBeLet 136 = .ok (.bipush 8, 2) := by decide +kernel
theorem dX12_canBeLet_138 : decode cX12_canBeLet 138 = .ok (.idiv, 1) := by decide +kernel
theorem dX12_canBeLet_139 : decode cX12_canBeLet 139 = .ok (.putfield 78, 3) := by decide +kernel
theorem dX12_canBeLet_142 : decode cX12_canBeLet 142 = .ok (.aload_n 0, 1) := by decide +kernel
theorem dX12_canBeLet_143 : decode cX12_canBeLet 143 = .ok (.aload_n 0, 1) := by decide +kernel
theorem dX12_canBeLet_144 : decode cX12_canBeLet 144 = .ok (.getfield 8, 3) := by decide +kernel
theorem dX12_canBeLet_147 : decode cX12_canBeLet 147 = .ok (.sipush 11070, 3) := by decide +kernel
theorem dX12_canBeLet_150 : decode cX12_canBeLet 150 = .ok (.iload_n 3, 1) := by decide +kernel
theorem dX12_canBeLet_151 : decode cX12_canBeLet 151 = .ok (.iadd, 1) := by decide +kernel
theorem dX12_canBeLet_152 : decode cX12_canBeLet 152 = .ok (.iaload, 1) := by decide +kernel
theorem dX12_canBeLet_153 : decode cX12_canBeLet 153 = .ok (.putfield 75, 3) := by decide +kernel
theorem dX12_canBeLet_156 : decode cX12_canBeLet 156 = .ok (.aload_n 0, 1) := by decide +kernel
theorem dX12_canBeLet_157 : decode cX12_canBeLet 157 = .ok (.iconst 0, 1) := by decide +kernel
theorem dX12_canBeLet_158 : decode cX12_canBeLet 158 = .ok (.putfield 116, 3) := by decide +kernel
theorem dX12_canBeLet_161 : decode cX12_canBeLet 161 = .ok (.aload_n 0, 1) := by decide +kernel
theorem dX12_canBeLet_162 : decode cX12_canBeLet 162 = .ok (.iconst 0, 1) := by decide +kernel
theorem dX12_canBeLet_163 : decode cX12_canBeLet 163 = .ok (.putfield 81, 3) := by decide +kernel
theorem dX12_canBeLet_166 : decode cX12_canBeLet 166 = .ok (.aload_n 0, 1) := by decide +kernel
theorem dX12_canBeLet_167 : decode cX12_canBeLet 167 = .ok (.invokevirtual 123, 3) := by decide +kernel
theorem dX12_canBeLet_170 : decode cX12_canBeLet 170 = .ok (.ireturn, 1) := by decide +kernel
theorem dX12_hear_0 : decode cX12_hear 0 = .ok (.aload_n 0, 1) := by decide +kernel
theorem dX12_hear_1 : decode cX12_hear 1 = .ok (.iload_n 1, 1) := by decide +kernel
theorem dX12_hear_2 : decode cX12_hear 2 = .ok (.iconst 3, 1) := by decide +kernel
theorem dX12_hear_3 : decode cX12_hear 3 = .ok (.invokevirtual 165, 3) := by decide +kernel
theorem dX12_hear_6 : decode cX12_hear 6 = .ok (.ifCond .ne 7, 3) := by decide +kernel
theorem dX12_hear_9 : decode cX12_hear 9 = .ok (.iconst (-1), 1) := by decide +kernel
theorem dX12_hear_10 : decode cX12_hear 10 = .ok (.goto 29, 3) := by decide +kernel
theorem dX12_hear_13 : decode cX12_hear 13 = .ok (.iload_n 2, 1) := by decide +kernel
theorem dX12_hear_14 : decode cX12_hear 14 = .ok (.invokestatic 141, 3) := by decide +kernel
theorem dX12_hear_17 : decode cX12_hear 17 = .ok (.ifCond .ne 8, 3) := by decide +kernel
theorem dX12_hear_20 : decode cX12_hear 20 = .ok (.bipush (-2), 2) := by decide +kernel
theorem dX12_hear_22 : decode cX12_hear 22 = .ok (.goto 17, 3) := by decide +kernel
theorem dX12_hear_25 : decode cX12_hear 25 = .ok (.aload_n 0, 1) := by decide +kernel
theorem dX12_hear_26 : decode cX12_hear 26 = .ok (.iload_n 1, 1) := by decide +kernel
theorem dX12_hear_27 : decode cX12_hear 27 = .ok (.iload_n 2, 1) := by decide +kernel
theorem dX12_hear_28 : decode cX12_hear 28 = .ok (.invokevirtual 213, 3) := by decide +kernel
theorem dX12_hear_31 : decode cX12_hear 31 = .ok (.ifCond .eq 7, 3) := by decide +kernel
theorem dX12_hear_34 : decode cX12_hear 34 = .ok (.iconst 1, 1) := by decide +kernel
theorem dX12_hear_35 : decode cX12_hear 35 = .ok (.goto 4, 3) := by decide +kernel
theorem dX12_hear_38 : decode cX12_hear 38 = .ok (.iconst 0, 1) := by decide +kernel
theorem dX12_hear_39 : decode cX12_hear 39 = .ok (.ireturn, 1) := by decide +kernel
theorem dX12_isBarred_0 : decode cX12_isBarred 0 = .ok (.aload_n 0, 1) := by decide +kernel
theorem dX12_isBarred_1 : decode cX12_isBarred 1 = .ok (.getfield 8, 3) := by decide +kernel
theorem dX12_isBarred_4 : decode cX12_isBarred 4 = .ok (.sipush 1100, 3) := by decide +kernel
theorem dX12_isBarred_7 : decode cX12_isBarred 7 = .ok (.bipush 60, 2) := by decide +kernel
theorem dX12_isBarred_9 : decode cX12_isBarred 9 = .ok (.iload_n 1, 1) := by decide +kernel
theorem dX12_isBarred_10 : decode cX12_isBarred 10 = .ok (.imul, 1) := by decide +kernel
theorem dX12_isBarred_11 : decode cX12_isBarred 11 = .ok (.iadd, 1) := by decide +kernel
theorem dX12_isBarred_12 : decode cX12_isBarred 12 = .ok (.iload_n 2, 1) := by decide +kernel
theorem dX12_isBarred_13 : decode cX12_isBarred 13 = .ok (.iadd, 1) := by decide +kernel
theorem dX12_isBarred_14 : decode cX12_isBarred 14 = .ok (.iaload, 1) := by decide +kernel
theorem dX12_isBarred_15 : decode cX12_isBarred 15 = .ok (.iconst 1, 1) := by decide +kernel
theorem dX12_isBarred_16 : decode cX12_isBarred 16 = .ok (.if_icmp .ne 7, 3) := by decide +kernel
theorem dX12_isBarred_19 : decode cX12_isBarred 19 = .ok (.iconst 1, 1) := by decide +kernel
theorem dX12_isBarred_20 : decode cX12_isBarred 20 = .ok (.goto 4, 3) := by decide +kernel
theorem dX12_isBarred_23 : decode cX12_isBarred 23 = .ok (.iconst 0, 1) := by decide +kernel
theorem dX12_isBarred_24 : decode cX12_isBarred 24 = .ok (.ireturn, 1) := by decide +kernel
theorem dX12_bar_0 : decode cX12_bar 0 = .ok (.aload_n 0, 1) := by decide +kernel
theorem dX12_bar_1 : decode cX12_bar 1 = .ok (.iload_n 1, 1) := by decide +kernel
theorem dX12_bar_2 : decode cX12_bar 2 = .ok (.iconst 3, 1) := by decide +kernel
theorem dX12_bar_3 : decode cX12_bar 3 = .ok (.invokevirtual 165, 3) := by decide +kernel
theorem dX12_bar_6 : decode cX12_bar 6 = .ok (.ifCond .eq 12, 3) := by decide +kernel
theorem dX12_bar_9 : decode cX12_bar 9 = .ok (.aload_n 0, 1) := by decide +kernel
theorem dX12_bar_10 : decode cX12_bar 10 = .ok (.iload_n 2, 1) := by decide +kernel
theorem dX12_bar_11 : decode cX12_bar 11 = .ok (.iconst 3, 1) := by decide +kernel
theorem dX12_bar_12 : decode cX12_bar 12 = .ok (.invokevirtual 165, 3) := by decide +kernel
theorem dX12_bar_15 : decode cX12_bar 15 = .ok (.ifCond .ne 5, 3) := by decide +kernel
theorem dX12_bar_18 : decode cX12_bar 18 = .ok (.iconst (-1), 1) := by decide +kernel
theorem dX12_bar_19 : decode cX12_bar 19 = .ok (.ireturn, 1) := by decide +kernel
theorem dX12_bar_20 : decode cX12_bar 20 = .ok (.iload_n 1, 1) := by decide +kernel
theorem dX12_bar_21 : decode cX12_bar 21 = .ok (.iload_n 2, 1) := by decide +kernel
theorem dX12_bar_22 : decode cX12_bar 22 = .ok (.if_icmp .ne 6, 3) := by decide +kernel
theorem dX12_bar_25 : decode cX12_bar 25 = .ok (.bipush (-2), 2) := by decide +kernel
theorem dX12_bar_27 : decode cX12_bar 27 = .ok (.ireturn, 1) := by decide +kernel
theorem dX12_bar_28 : decode cX12_bar 28 = .ok (.aload_n 0, 1) := by decide +kernel
theorem dX12_bar_29 : decode cX12_bar 29 = .ok (.iload_n 1, 1) := by decide +kernel
theorem dX12_bar_30 : decode cX12_bar 30 = .ok (.iload_n 2, 1) := by decide +kernel
theorem dX12_bar_31 : decode cX12_bar 31 = .ok (.invokevirtual 216, 3) := by decide +kernel
theorem dX12_bar_34 : decode cX12_bar 34 = .ok (.ifCond .eq 7, 3) := by decide +kernel
theorem dX12_bar_37 : decode cX12_bar 37 = .ok (.iconst 0, 1) := by decide +kernel
theorem dX12_bar_38 : decode cX12_bar 38 = .ok (.goto 4, 3) := by decide +kernel
theorem dX12_bar_41 : decode cX12_bar 41 = .ok (.iconst 1, 1) := by decide +kernel
theorem dX12_bar_42 : decode cX12_bar 42 = .ok (.istore_n 3, 1) := by decide +kernel
theorem dX12_bar_43 : decode cX12_bar 43 = .ok (.aload_n 0, 1) := by decide +kernel
theorem dX12_bar_44 : decode cX12_bar 44 = .ok (.getfield 8, 3) := by decide +kernel
theorem dX12_bar_47 : decode cX12_bar 47 = .ok (.sipush 1100, 3) := by decide +kernel
theorem dX12_bar_50 : decode cX12_bar 50 = .ok (.bipush 60, 2) := by decide +kernel
theorem dX12_bar_52 : decode cX12_bar 52 = .ok (.iload_n 1, 1) := by decide +kernel
theorem dX12_bar_53 : decode cX12_bar 53 = .ok (.imul, 1) := by decide +kernel
theorem dX12_bar_54 : decode cX12_bar 54 = .ok (.iadd, 1) := by decide +kernel
theorem dX12_bar_55 : decode cX12_bar 55 = .ok (.iload_n 2, 1) := by decide +kernel
theorem dX12_bar_56 : decode cX12_bar 56 = .ok (.iadd, 1) := by decide +kernel
theorem dX12_bar_57 : decode cX12_bar 57 = .ok (.iconst 1, 1) := by decide +kernel
theorem dX12_bar_58 : decode cX12_bar 58 = .ok (.iastore, 1) := by decide +kernel
theorem dX12_bar_59 : decode cX12_bar 59 = .ok (.aload_n 0, 1) := by decide +kernel
theorem dX12_bar_60 : decode cX12_bar 60 = .ok (.getfield 8, 3) := by decide +kernel
theorem dX12_bar_63 : decode cX12_bar 63 = .ok (.sipush 1100, 3) := by decide +kernel
theorem dX12_bar_66 : decode cX12_bar 66 = .ok (.bipush 60, 2) := by decide +kernel
theorem dX12_bar_68 : decode cX12_bar 68 = .ok (.iload_n 2, 1) := by decide +kernel
theorem dX12_bar_69 : decode cX12_bar 69 = .ok (.imul, 1) := by decide +kernel
theorem dX12_bar_70 : decode cX12_bar 70 = .ok (.iadd, 1) := by decide +kernel
theorem dX12_bar_71 : decode cX12_bar 71 = .ok (.iload_n 1, 1) := by decide +kernel
theorem dX12_bar_72 : decode cX12_bar 72 = .ok (.iadd, 1) := by decide +kernel
theorem dX12_bar_73 : decode cX12_bar 73 = .ok (.iconst 1, 1) := by decide +kernel
theorem dX12_bar_74 : decode cX12_bar 74 = .ok (.iastore, 1) := by decide +kernel
theorem dX12_bar_75 : decode cX12_bar 75 = .ok (.iload_n 3, 1) := by decide +kernel
theorem dX12_bar_76 : decode cX12_bar 76 = .ok (.ireturn, 1) := by decide +kernel
theorem dX12_isGranted_0 : decode cX12_isGranted 0 = .ok (.aload_n 0, 1) := by decide +kernel
theorem dX12_isGranted_1 : decode cX12_isGranted 1 = .ok (.getfield 8, 3) := by decide +kernel
theorem dX12_isGranted_4 : decode cX12_isGranted 4 = .ok (.sipush 370, 3) := by decide +kernel
theorem dX12_isGranted_7 : decode cX12_isGranted 7 = .ok (.iload_n 1, 1) := by decide +kernel
theorem dX12_isGranted_8 : decode cX12_isGranted 8 = .ok (.iadd, 1) := by decide +kernel
theorem dX12_isGranted_9 : decode cX12_isGranted 9 = .ok (.iaload, 1) := by decide +kernel
theorem dX12_isGranted_10 : decode cX12_isGranted 10 = .ok (.iconst 3, 1) := by decide +kernel
theorem dX12_isGranted_11 : decode cX12_isGranted 11 = .ok (.if_icmp .ne 21, 3) := by decide +kernel
theorem dX12_isGranted_14 : decode cX12_isGranted 14 = .ok (.aload_n 0, 1) := by decide +kernel
theorem dX12_isGranted_15 : decode cX12_isGranted 15 = .ok (.getfield 8, 3) := by decide +kernel
theorem dX12_isGranted_18 : decode cX12_isGranted 18 = .ok (.sipush 790, 3) := by decide +kernel
theorem dX12_isGranted_21 : decode cX12_isGranted 21 = .ok (.iload_n 1, 1) := by decide +kernel
theorem dX12_isGranted_22 : decode cX12_isGranted 22 = .ok (.iadd, 1) := by decide +kernel
theorem dX12_isGranted_23 : decode cX12_isGranted 23 = .ok (.iaload, 1) := by decide +kernel
theorem dX12_isGranted_24 : decode cX12_isGranted 24 = .ok (.iconst 1, 1) := by decide +kernel
theorem dX12_isGranted_25 : decode cX12_isGranted 25 = .ok (.if_icmp .ne 7, 3) := by decide +kernel
theorem dX12_isGranted_28 : decode cX12_isGranted 28 = .ok (.iconst 1, 1) := by decide +kernel
theorem dX12_isGranted_29 : decode cX12_isGranted 29 = .ok (.goto 4, 3) := by decide +kernel
theorem dX12_isGranted_32 : decode cX12_isGranted 32 = .ok (.iconst 0, 1) := by decide +kernel
theorem dX12_isGranted_33 : decode cX12_isGranted 33 = .ok (.ireturn, 1) := by decide +kernel
theorem dX12_granted_0 : decode cX12_granted 0 = .ok (.iconst 0, 1) := by decide +kernel
theorem dX12_granted_1 : decode cX12_granted 1 = .ok (.istore_n 1, 1) := by decide +kernel
theorem dX12_granted_2 : decode cX12_granted 2 = .ok (.iconst 0, 1) := by decide +kernel
theorem dX12_granted_3 : decode cX12_granted 3 = .ok (.istore_n 2, 1) := by decide +kernel
theorem dX12_granted_4 : decode cX12_granted 4 = .ok (.iload_n 2, 1) := by decide +kernel
theorem dX12_granted_5 : decode cX12_granted 5 = .ok (.aload_n 0, 1) := by decide +kernel
theorem dX12_granted_6 : decode cX12_granted 6 = .ok (.getfield 8, 3) := by decide +kernel
theorem dX12_granted_9 : decode cX12_granted 9 = .ok (.iconst 2, 1) := by decide +kernel
theorem dX12_granted_10 : decode cX12_granted 10 = .ok (.iaload, 1) := by decide +kernel
theorem dX12_granted_11 : decode cX12_granted 11 = .ok (.if_icmp .ge 25, 3) := by decide +kernel
theorem dX12_granted_14 : decode cX12_granted 14 = .ok (.iload_n 1, 1) := by decide +kernel
theorem dX12_granted_15 : decode cX12_granted 15 = .ok (.aload_n 0, 1) := by decide +kernel
theorem dX12_granted_16 : decode cX12_granted 16 = .ok (.iload_n 2, 1) := by decide +kernel
theorem dX12_granted_17 : decode cX12_granted 17 = .ok (.invokevirtual 219, 3) := by decide +kernel
theorem dX12_granted_20 : decode cX12_granted 20 = .ok (.ifCond .eq 7, 3) := by decide +kernel
theorem dX12_granted_23 : decode cX12_granted 23 = .ok (.iconst 1, 1) := by decide +kernel
theorem dX12_granted_24 : decode cX12_granted 24 = .ok (.goto 4, 3) := by decide +kernel
theorem dX12_granted_27 : decode cX12_granted 27 = .ok (.iconst 0, 1) := by decide +kernel
theorem dX12_granted_28 : decode cX12_granted 28 = .ok (.iadd, 1) := by decide +kernel
theorem dX12_granted_29 : decode cX12_granted 29 = .ok (.istore_n 1, 1) := by decide +kernel
theorem dX12_granted_30 : decode cX12_granted 30 = .ok (.iinc 2 1, 3) := by decide +kernel
theorem dX12_granted_33 : decode cX12_granted 33 = .ok (.goto (-29), 3) := by decide +kernel
theorem dX12_granted_36 : decode cX12_granted 36 = .ok (.iload_n 1, 1) := by decide +kernel
theorem dX12_granted_37 : decode cX12_granted 37 = .ok (.ireturn, 1) := by decide +kernel
theorem dX12_grant_0 : decode cX12_grant 0 = .ok (.aload_n 0, 1) := by decide +kernel
theorem dX12_grant_1 : decode cX12_grant 1 = .ok (.iload_n 1, 1) := by decide +kernel
theorem dX12_grant_2 : decode cX12_grant 2 = .ok (.iconst 3, 1) := by decide +kernel
theorem dX12_grant_3 : decode cX12_grant 3 = .ok (.invokevirtual 165, 3) := by decide +kernel
theorem dX12_grant_6 : decode cX12_grant 6 = .ok (.ifCond .ne 5, 3) := by decide +kernel
theorem dX12_grant_9 : decode cX12_grant 9 = .ok (.iconst (-1), 1) := by decide +kernel
theorem dX12_grant_10 : decode cX12_grant 10 = .ok (.ireturn, 1) := by decide +kernel
theorem dX12_grant_11 : decode cX12_grant 11 = .ok (.aload_n 0, 1) := by decide +kernel
theorem dX12_grant_12 : decode cX12_grant 12 = .ok (.getfield 8, 3) := by decide +kernel
theorem dX12_grant_15 : decode cX12_grant 15 = .ok (.sipush 790, 3) := by decide +kernel
theorem dX12_grant_18 : decode cX12_grant 18 = .ok (.iload_n 1, 1) := by decide +kernel
theorem dX12_grant_19 : decode cX12_grant 19 = .ok (.iadd, 1) := by decide +kernel
theorem dX12_grant_20 : decode cX12_grant 20 = .ok (.iaload, 1) := by decide +kernel
theorem dX12_grant_21 : decode cX12_grant 21 = .ok (.ifCond .ne 21, 3) := by decide +kernel
theorem dX12_grant_24 : decode cX12_grant 24 = .ok (.aload_n 0, 1) := by decide +kernel
theorem dX12_grant_25 : decode cX12_grant 25 = .ok (.iload_n 1, 1) := by decide +kernel
theorem dX12_grant_26 : decode cX12_grant 26 = .ok (.aload_n 0, 1) := by decide +kernel
theorem dX12_grant_27 : decode cX12_grant 27 = .ok (.getfield 8, 3) := by decide +kernel
theorem dX12_grant_30 : decode cX12_grant 30 = .ok (.iconst 0, 1) := by decide +kernel
theorem dX12_grant_31 : decode cX12_grant 31 = .ok (.iaload, 1) := by decide +kernel
theorem dX12_grant_32 : decode cX12_grant 32 = .ok (.invokevirtual 213, 3) := by decide +kernel
theorem dX12_grant_35 : decode cX12_grant 35 = .ok (.ifCond .eq 7, 3) := by decide +kernel
theorem dX12_grant_38 : decode cX12_grant 38 = .ok (.iconst 1, 1) := by decide +kernel
theorem dX12_grant_39 : decode cX12_grant 39 = .ok (.goto 4, 3) := by decide +kernel
theorem dX12_grant_42 : decode cX12_grant 42 = .ok (.iconst 0, 1) := by decide +kernel
theorem dX12_grant_43 : decode cX12_grant 43 = .ok (.istore_n 2, 1) := by decide +kernel
theorem dX12_grant_44 : decode cX12_grant 44 = .ok (.iconst 0, 1) := by decide +kernel
theorem dX12_grant_45 : decode cX12_grant 45 = .ok (.istore_n 3, 1) := by decide +kernel
theorem dX12_grant_46 : decode cX12_grant 46 = .ok (.iload_n 3, 1) := by decide +kernel
theorem dX12_grant_47 : decode cX12_grant 47 = .ok (.aload_n 0, 1) := by decide +kernel
theorem dX12_grant_48 : decode cX12_grant 48 = .ok (.getfield 8, 3) := by decide +kernel
theorem dX12_grant_51 : decode cX12_grant 51 = .ok (.iconst 2, 1) := by decide +kernel
theorem dX12_grant_52 : decode cX12_grant 52 = .ok (.iaload, 1) := by decide +kernel
theorem dX12_grant_53 : decode cX12_grant 53 = .ok (.if_icmp .ge 36, 3) := by decide +kernel
theorem dX12_grant_56 : decode cX12_grant 56 = .ok (.iload_n 2, 1) := by decide +kernel
theorem dX12_grant_57 : decode cX12_grant 57 = .ok (.ifCond .eq 24, 3) := by decide +kernel
theorem dX12_grant_60 : decode cX12_grant 60 = .ok (.aload_n 0, 1) := by decide +kernel
theorem dX12_grant_61 : decode cX12_grant 61 = .ok (.iload_n 3, 1) := by decide +kernel
theorem dX12_grant_62 : decode cX12_grant 62 = .ok (.invokevirtual 219, 3) := by decide +kernel
theorem dX12_grant_65 : decode cX12_grant 65 = .ok (.ifCond .eq 12, 3) := by decide +kernel
theorem dX12_grant_68 : decode cX12_grant 68 = .ok (.aload_n 0, 1) := by decide +kernel
theorem dX12_grant_69 : decode cX12_grant 69 = .ok (.iload_n 3, 1) := by decide +kernel
theorem dX12_grant_70 : decode cX12_grant 70 = .ok (.iload_n 1, 1) := by decide +kernel
theorem dX12_grant_71 : decode cX12_grant 71 = .ok (.invokevirtual 216, 3) := by decide +kernel
theorem dX12_grant_74 : decode cX12_grant 74 = .ok (.ifCond .ne 7, 3) := by decide +kernel
theorem dX12_grant_77 : decode cX12_grant 77 = .ok (.iconst 1, 1) := by decide +kernel
theorem dX12_grant_78 : decode cX12_grant 78 = .ok (.goto 4, 3) := by decide +kernel
theorem dX12_grant_81 : decode cX12_grant 81 = .ok (.iconst 0, 1) := by decide +kernel
theorem dX12_grant_82 : decode cX12_grant 82 = .ok (.istore_n 2, 1) := by decide +kernel
theorem dX12_grant_83 : decode cX12_grant 83 = .ok (.iinc 3 1, 3) := by decide +kernel
theorem dX12_grant_86 : decode cX12_grant 86 = .ok (.goto (-40), 3) := by decide +kernel
theorem dX12_grant_89 : decode cX12_grant 89 = .ok (.iload_n 2, 1) := by decide +kernel
theorem dX12_grant_90 : decode cX12_grant 90 = .ok (.ifCond .ne 6, 3) := by decide +kernel
theorem dX12_grant_93 : decode cX12_grant 93 = .ok (.bipush (-3), 2) := by decide +kernel
theorem dX12_grant_95 : decode cX12_grant 95 = .ok (.ireturn, 1) := by decide +kernel
theorem dX12_grant_96 : decode cX12_grant 96 = .ok (.aload_n 0, 1) := by decide +kernel
theorem dX12_grant_97 : decode cX12_grant 97 = .ok (.getfield 8, 3) := by decide +kernel
theorem dX12_grant_100 : decode cX12_grant 100 = .ok (.sipush 790, 3) := by decide +kernel
theorem dX12_grant_103 : decode cX12_grant 103 = .ok (.iload_n 1, 1) := by decide +kernel
theorem dX12_grant_104 : decode cX12_grant 104 = .ok (.iadd, 1) := by decide +kernel
theorem dX12_grant_105 : decode cX12_grant 105 = .ok (.iconst 1, 1) := by decide +kernel
theorem dX12_grant_106 : decode cX12_grant 106 = .ok (.iastore, 1) := by decide +kernel
theorem dX12_grant_107 : decode cX12_grant 107 = .ok (.aload_n 0, 1) := by decide +kernel
theorem dX12_grant_108 : decode cX12_grant 108 = .ok (.getfield 8, 3) := by decide +kernel
theorem dX12_grant_111 : decode cX12_grant 111 = .ok (.sipush 970, 3) := by decide +kernel
theorem dX12_grant_114 : decode cX12_grant 114 = .ok (.iload_n 1, 1) := by decide +kernel
theorem dX12_grant_115 : decode cX12_grant 115 = .ok (.iadd, 1) := by decide +kernel
theorem dX12_grant_116 : decode cX12_grant 116 = .ok (.aload_n 0, 1) := by decide +kernel
theorem dX12_grant_117 : decode cX12_grant 117 = .ok (.aload_n 0, 1) := by decide +kernel
theorem dX12_grant_118 : decode cX12_grant 118 = .ok (.getfield 8, 3) := by decide +kernel
theorem dX12_grant_121 : decode cX12_grant 121 = .ok (.sipush 430, 3) := by decide +kernel
theorem dX12_grant_124 : decode cX12_grant 124 = .ok (.iload_n 1, 1) := by decide +kernel
theorem dX12_grant_125 : decode cX12_grant 125 = .ok (.iadd, 1) := by decide +kernel
theorem dX12_grant_126 : decode cX12_grant 126 = .ok (.iaload, 1) := by decide +kernel
theorem dX12_grant_127 : decode cX12_grant 127 = .ok (.invokevirtual 190, 3) := by decide +kernel
theorem dX12_grant_130 : decode cX12_grant 130 = .ok (.iastore, 1) := by decide +kernel
theorem dX12_grant_131 : decode cX12_grant 131 = .ok (.aload_n 0, 1) := by decide +kernel
theorem dX12_grant_132 : decode cX12_grant 132 = .ok (.getfield 8, 3) := by decide +kernel
theorem dX12_grant_135 : decode cX12_grant 135 = .ok (.sipush 1030, 3) := by decide +kernel
theorem dX12_grant_138 : decode cX12_grant 138 = .ok (.iload_n 1, 1) := by decide +kernel
theorem dX12_grant_139 : decode cX12_grant 139 = .ok (.iadd, 1) := by decide +kernel
theorem dX12_grant_140 : decode cX12_grant 140 = .ok (.bipush (-5), 2) := by decide +kernel
theorem dX12_grant_142 : decode cX12_grant 142 = .ok (.iastore, 1) := by decide +kernel
theorem dX12_grant_143 : decode cX12_grant 143 = .ok (.aload_n 0, 1) := by decide +kernel
theorem dX12_grant_144 : decode cX12_grant 144 = .ok (.invokevirtual 222, 3) := by decide +kernel
theorem dX12_grant_147 : decode cX12_grant 147 = .ok (.ireturn, 1) := by decide +kernel
theorem dX12_worth_0 : decode cX12_worth 0 = .ok (.aload_n 0, 1) := by decide +kernel
theorem dX12_worth_1 : decode cX12_worth 1 = .ok (.getfield 8, 3) := by decide +kernel
theorem dX12_worth_4 : decode cX12_worth 4 = .ok (.sipush 370, 3) := by decide +kernel
theorem dX12_worth_7 : decode cX12_worth 7 = .ok (.iload_n 1, 1) := by decide +kernel
theorem dX12_worth_8 : decode cX12_worth 8 = .ok (.iadd, 1) := by decide +kernel
theorem dX12_worth_9 : decode cX12_worth 9 = .ok (.iaload, 1) := by decide +kernel
theorem dX12_worth_10 : decode cX12_worth 10 = .ok (.tableswitch 129 1 5 #[34, 48, 82, 99, 112], 34) := by decide +kernel
theorem dX12_worth_44 : decode cX12_worth 44 = .ok (.bipush 10, 2) := by decide +kernel
theorem dX12_worth_46 : decode cX12_worth 46 = .ok (.aload_n 0, 1) := by decide +kernel
theorem dX12_worth_47 : decode cX12_worth 47 = .ok (.getfield 8, 3) := by decide +kernel
theorem dX12_worth_50 : decode cX12_worth 50 = .ok (.sipush 730, 3) := by decide +kernel
theorem dX12_worth_53 : decode cX12_worth 53 = .ok (.iload_n 1, 1) := by decide +kernel
theorem dX12_worth_54 : decode cX12_worth 54 = .ok (.iadd, 1) := by decide +kernel
theorem dX12_worth_55 : decode cX12_worth 55 = .ok (.iaload, 1) := by decide +kernel
theorem dX12_worth_56 : decode cX12_worth 56 = .ok (.iadd, 1) := by decide +kernel
theorem dX12_worth_57 : decode cX12_worth 57 = .ok (.ireturn, 1) := by decide +kernel
theorem dX12_worth_58 : decode cX12_worth 58 = .ok (.bipush 10, 2) := by decide +kernel
theorem dX12_worth_60 : decode cX12_worth 60 = .ok (.aload_n 0, 1) := by decide +kernel
theorem dX12_worth_61 : decode cX12_worth 61 = .ok (.getfield 8, 3) := by decide +kernel
theorem dX12_worth_64 : decode cX12_worth 64 = .ok (.sipush 730, 3) := by decide +kernel
theorem dX12_worth_67 : decode cX12_worth 67 = .ok (.aload_n 0, 1) := by decide +kernel
theorem dX12_worth_68 : decode cX12_worth 68 = .ok (.getfield 8, 3) := by decide +kernel
theorem dX12_worth_71 : decode cX12_worth 71 = .ok (.sipush 430, 3) := by decide +kernel
theorem dX12_worth_74 : decode cX12_worth 74 = .ok (.iload_n 1, 1) := by decide +kernel
theorem dX12_worth_75 : decode cX12_worth 75 = .ok (.iadd, 1) := by decide +kernel
theorem dX12_worth_76 : decode cX12_worth 76 = .ok (.iaload, 1) := by decide +kernel
theorem dX12_worth_77 : decode cX12_worth 77 = .ok (.iadd, 1) := by decide +kernel
theorem dX12_worth_78 : decode cX12_worth 78 = .ok (.iaload, 1) := by decide +kernel
theorem dX12_worth_79 : decode cX12_worth 79 = .ok (.iadd, 1) := by decide +kernel
theorem dX12_worth_80 : decode cX12_worth 80 = .ok (.aload_n 0, 1) := by decide +kernel
theorem dX12_worth_81 : decode cX12_worth 81 = .ok (.getfield 8, 3) := by decide +kernel
theorem dX12_worth_84 : decode cX12_worth 84 = .ok (.sipush 850, 3) := by decide +kernel
theorem dX12_worth_87 : decode cX12_worth 87 = .ok (.iload_n 1, 1) := by decide +kernel
theorem dX12_worth_88 : decode cX12_worth 88 = .ok (.iadd, 1) := by decide +kernel
theorem dX12_worth_89 : decode cX12_worth 89 = .ok (.iaload, 1) := by decide +kernel
theorem dX12_worth_90 : decode cX12_worth 90 = .ok (.iadd, 1) := by decide +kernel
theorem dX12_worth_91 : decode cX12_worth 91 = .ok (.ireturn, 1) := by decide +kernel
theorem dX12_worth_92 : decode cX12_worth 92 = .ok (.iconst 2, 1) := by decide +kernel
theorem dX12_worth_93 : decode cX12_worth 93 = .ok (.aload_n 0, 1) := by decide +kernel
theorem dX12_worth_94 : decode cX12_worth 94 = .ok (.aload_n 0, 1) := by decide +kernel
theorem dX12_worth_95 : decode cX12_worth 95 = .ok (.getfield 8, 3) := by decide +kernel
theorem dX12_worth_98 : decode cX12_worth 98 = .ok (.sipush 430, 3) := by decide +kernel
theorem dX12_worth_101 : decode cX12_worth 101 = .ok (.iload_n 1, 1) := by decide +kernel
theorem dX12_worth_102 : decode cX12_worth 102 = .ok (.iadd, 1) := by decide +kernel
theorem dX12_worth_103 : decode cX12_worth 103 = .ok (.iaload, 1) := by decide +kernel
theorem dX12_worth_104 : decode cX12_worth 104 = .ok (.invokevirtual 225, 3) := by decide +kernel
theorem dX12_worth_107 : decode cX12_worth 107 = .ok (.imul, 1) := by decide +kernel
theorem dX12_worth_108 : decode cX12_worth 108 = .ok (.ireturn, 1) := by decide +kernel
theorem dX12_worth_109 : decode cX12_worth 109 = .ok (.iconst 4, 1) := by decide +kernel
theorem dX12_worth_110 : decode cX12_worth 110 = .ok (.aload_n 0, 1) := by decide +kernel
theorem dX12_worth_111 : decode cX12_worth 111 = .ok (.getfield 8, 3) := by decide +kernel
theorem dX12_worth_114 : decode cX12_worth 114 = .ok (.sipush 730, 3) := by decide +kernel
theorem dX12_worth_117 : decode cX12_worth 117 = .ok (.iload_n 1, 1) := by decide +kernel
theorem dX12_worth_118 : decode cX12_worth 118 = .ok (.iadd, 1) := by decide +kernel
theorem dX12_worth_119 : decode cX12_worth 119 = .ok (.iaload, 1) := by decide +kernel
theorem dX12_worth_120 : decode cX12_worth 120 = .ok (.iadd, 1) := by decide +kernel
theorem dX12_worth_121 : decode cX12_worth 121 = .ok (.ireturn, 1) := by decide +kernel
theorem dX12_worth_122 : decode cX12_worth 122 = .ok (.iconst 2, 1) := by decide +kernel
theorem dX12_worth_123 : decode cX12_worth 123 = .ok (.iconst 4, 1) := by decide +kernel
theorem dX12_worth_124 : decode cX12_worth 124 = .ok (.aload_n 0, 1) := by decide +kernel
theorem dX12_worth_125 : decode cX12_worth 125 = .ok (.getfield 8, 3) := by decide +kernel
theorem dX12_worth_128 : decode cX12_worth 128 = .ok (.sipush 730, 3) := by decide +kernel
theorem dX12_worth_131 : decode cX12_worth 131 = .ok (.iload_n 1, 1) := by decide +kernel
theorem dX12_worth_132 : decode cX12_worth 132 = .ok (.iadd, 1) := by decide +kernel
theorem dX12_worth_133 : decode cX12_worth 133 = .ok (.iaload, 1) := by decide +kernel
theorem dX12_worth_134 : decode cX12_worth 134 = .ok (.iadd, 1) := by decide +kernel
theorem dX12_worth_135 : decode cX12_worth 135 = .ok (.imul, 1) := by decide +kernel
theorem dX12_worth_136 : decode cX12_worth 136 = .ok (.iconst 1, 1) := by decide +kernel
theorem dX12_worth_137 : decode cX12_worth 137 = .ok (.isub, 1) := by decide +kernel
theorem dX12_worth_138 : decode cX12_worth 138 = .ok (.ireturn, 1) := by decide +kernel
theorem dX12_worth_139 : decode cX12_worth 139 = .ok (.iconst 1, 1) := by decide +kernel
theorem dX12_worth_140 : decode cX12_worth 140 = .ok (.aload_n 0, 1) := by decide +kernel
theorem dX12_worth_141 : decode cX12_worth 141 = .ok (.getfield 8, 3) := by decide +kernel
theorem dX12_worth_144 : decode cX12_worth 144 = .ok (.sipush 730, 3) := by decide +kernel
theorem dX12_worth_147 : decode cX12_worth 147 = .ok (.iload_n 1, 1) := by decide +kernel
theorem dX12_worth_148 : decode cX12_worth 148 = .ok (.iadd, 1) := by decide +kernel
theorem dX12_worth_149 : decode cX12_worth 149 = .ok (.iaload, 1) := by decide +kernel
theorem dX12_worth_150 : decode cX12_worth 150 = .ok (.iadd, 1) := by decide +kernel
theorem dX12_worth_151 : decode cX12_worth 151 = .ok (.ireturn, 1) := by decide +kernel
theorem dX12_isUnder_0 : decode cX12_isUnder 0 = .ok (.iload_n 1, 1) := by decide +kernel
theorem dX12_isUnder_1 : decode cX12_isUnder 1 = .ok (.ifCond .eq 28, 3) := by decide +kernel
theorem dX12_isUnder_4 : decode cX12_isUnder 4 = .ok (.iload_n 0, 1) := by decide +kernel
theorem dX12_isUnder_5 : decode cX12_isUnder 5 = .ok (.iload_n 1, 1) := by decide +kernel
theorem dX12_isUnder_6 : decode cX12_isUnder 6 = .ok (.if_icmp .eq 23, 3) := by decide +kernel
theorem dX12_isUnder_9 : decode cX12_isUnder 9 = .ok (.iload_n 1, 1) := by decide +kernel
theorem dX12_isUnder_10 : decode cX12_isUnder 10 = .ok (.iconst 1, 1) := by decide +kernel
theorem dX12_isUnder_11 : decode cX12_isUnder 11 = .ok (.if_icmp .ne 8, 3) := by decide +kernel
theorem dX12_isUnder_14 : decode cX12_isUnder 14 = .ok (.iload_n 0, 1) := by decide +kernel
theorem dX12_isUnder_15 : decode cX12_isUnder 15 = .ok (.iconst 4, 1) := by decide +kernel
theorem dX12_isUnder_16 : decode cX12_isUnder 16 = .ok (.if_icmp .lt 13, 3) := by decide +kernel
theorem dX12_isUnder_19 : decode cX12_isUnder 19 = .ok (.iload_n 1, 1) := by decide +kernel
theorem dX12_isUnder_20 : decode cX12_isUnder 20 = .ok (.iconst 4, 1) := by decide +kernel
theorem dX12_isUnder_21 : decode cX12_isUnder 21 = .ok (.if_icmp .ne 12, 3) := by decide +kernel
theorem dX12_isUnder_24 : decode cX12_isUnder 24 = .ok (.iload_n 0, 1) := by decide +kernel
theorem dX12_isUnder_25 : decode cX12_isUnder 25 = .ok (.iconst 5, 1) := by decide +kernel
theorem dX12_isUnder_26 : decode cX12_isUnder 26 = .ok (.if_icmp .ne 7, 3) := by decide +kernel
theorem dX12_isUnder_29 : decode cX12_isUnder 29 = .ok (.iconst 1, 1) := by decide +kernel
theorem dX12_isUnder_30 : decode cX12_isUnder 30 = .ok (.goto 4, 3) := by decide +kernel
theorem dX12_isUnder_33 : decode cX12_isUnder 33 = .ok (.iconst 0, 1) := by decide +kernel
theorem dX12_isUnder_34 : decode cX12_isUnder 34 = .ok (.ireturn, 1) := by decide +kernel
theorem dX12_cast_0 : decode cX12_cast 0 = .ok (.aload_n 0, 1) := by decide +kernel
theorem dX12_cast_1 : decode cX12_cast 1 = .ok (.iload_n 1, 1) := by decide +kernel
theorem dX12_cast_2 : decode cX12_cast 2 = .ok (.invokevirtual 62, 3) := by decide +kernel
theorem dX12_cast_5 : decode cX12_cast 5 = .ok (.ifCond .eq 13, 3) := by decide +kernel
theorem dX12_cast_8 : decode cX12_cast 8 = .ok (.iload_n 2, 1) := by decide +kernel
theorem dX12_cast_9 : decode cX12_cast 9 = .ok (.iconst 0, 1) := by decide +kernel
theorem dX12_cast_10 : decode cX12_cast 10 = .ok (.bipush 6, 2) := by decide +kernel
theorem dX12_cast_12 : decode cX12_cast 12 = .ok (.invokestatic 58, 3) := by decide +kernel
theorem dX12_cast_15 : decode cX12_cast 15 = .ok (.ifCond .ne 5, 3) := by decide +kernel
theorem dX12_cast_18 : decode cX12_cast 18 = .ok (.iconst (-1), 1) := by decide +kernel
theorem dX12_cast_19 : decode cX12_cast 19 = .ok (.ireturn, 1) := by decide +kernel
theorem dX12_cast_20 : decode cX12_cast 20 = .ok (.aload_n 0, 1) := by decide +kernel
theorem dX12_cast_21 : decode cX12_cast 21 = .ok (.getfield 8, 3) := by decide +kernel
theorem dX12_cast_24 : decode cX12_cast 24 = .ok (.sipush 370, 3) := by decide +kernel
theorem dX12_cast_27 : decode cX12_cast 27 = .ok (.iload_n 1, 1) := by decide +kernel
theorem dX12_cast_28 : decode cX12_cast 28 = .ok (.iadd, 1) := by decide +kernel
theorem dX12_cast_29 : decode cX12_cast 29 = .ok (.iaload, 1) := by decide +kernel
theorem dX12_cast_30 : decode cX12_cast 30 = .ok (.iload_n 2, 1) := by decide +kernel
theorem dX12_cast_31 : decode cX12_cast 31 = .ok (.invokestatic 228, 3) := by decide +kernel
theorem dX12_cast_34 : decode cX12_cast 34 = .ok (.ifCond .eq 11, 3) := by decide +kernel
theorem dX12_cast_37 : decode cX12_cast 37 = .ok (.aload_n 0, 1) := by decide +kernel
theorem dX12_cast_38 : decode cX12_cast 38 = .ok (.iload_n 1, 1) := by decide +kernel
theorem dX12_cast_39 : decode cX12_cast 39 = .ok (.invokevirtual 225, 3) := by decide +kernel
theorem dX12_cast_42 : decode cX12_cast 42 = .ok (.goto 5, 3) := by decide +kernel
theorem dX12_cast_45 : decode cX12_cast 45 = .ok (.bipush (-13), 2) := by decide +kernel
theorem dX12_cast_47 : decode cX12_cast 47 = .ok (.ireturn, 1) := by decide +kernel
theorem dX12_about_0 : decode cX12_about 0 = .ok (.aload_n 0, 1) := by decide +kernel
theorem dX12_about_1 : decode cX12_about 1 = .ok (.iload_n 1, 1) := by decide +kernel
theorem dX12_about_2 : decode cX12_about 2 = .ok (.invokevirtual 62, 3) := by decide +kernel
theorem dX12_about_5 : decode cX12_about 5 = .ok (.ifCond .eq 13, 3) := by decide +kernel
theorem dX12_about_8 : decode cX12_about 8 = .ok (.iload_n 2, 1) := by decide +kernel
theorem dX12_about_9 : decode cX12_about 9 = .ok (.iconst 0, 1) := by decide +kernel
theorem dX12_about_10 : decode cX12_about 10 = .ok (.bipush 7, 2) := by decide +kernel
theorem dX12_about_12 : decode cX12_about 12 = .ok (.invokestatic 58, 3) := by decide +kernel
theorem dX12_about_15 : decode cX12_about 15 = .ok (.ifCond .ne 5, 3) := by decide +kernel
theorem dX12_about_18 : decode cX12_about 18 = .ok (.iconst (-1), 1) := by decide +kernel
theorem dX12_about_19 : decode cX12_about 19 = .ok (.ireturn, 1) := by decide +kernel
theorem dX12_about_20 : decode cX12_about 20 = .ok (.aload_n 0, 1) := by decide +kernel
theorem dX12_about_21 : decode cX12_about 21 = .ok (.getfield 8, 3) := by decide +kernel
theorem dX12_about_24 : decode cX12_about 24 = .ok (.sipush 370, 3) := by decide +kernel
theorem dX12_about_27 : decode cX12_about 27 = .ok (.iload_n 1, 1) := by decide +kernel
theorem dX12_about_28 : decode cX12_about 28 = .ok (.iadd, 1) := by decide +kernel
theorem dX12_about_29 : decode cX12_about 29 = .ok (.iaload, 1) := by decide +kernel
theorem dX12_about_30 : decode cX12_about 30 = .ok (.istore_n 3, 1) := by decide +kernel
theorem dX12_about_31 : decode cX12_about 31 = .ok (.iload_n 2, 1) := by decide +kernel
theorem dX12_about_32 : decode cX12_about 32 = .ok (.tableswitch 112 0 6 #[44, 46, 57, 68, 79, 90, 101], 44) := by decide +kernel
theorem dX12_about_76 : decode cX12_about 76 = .ok (.iload_n 3, 1) := by decide +kernel
theorem dX12_about_77 : decode cX12_about 77 = .ok (.ireturn, 1) := by decide +kernel
theorem dX12_about_78 : decode cX12_about 78 = .ok (.aload_n 0, 1) := by decide +kernel
theorem dX12_about_79 : decode cX12_about 79 = .ok (.getfield 8, 3) := by decide +kernel
theorem dX12_about_82 : decode cX12_about 82 = .ok (.sipush 430, 3) := by decide +kernel
theorem dX12_about_85 : decode cX12_about 85 = .ok (.iload_n 1, 1) := by decide +kernel
theorem dX12_about_86 : decode cX12_about 86 = .ok (.iadd, 1) := by decide +kernel
theorem dX12_about_87 : decode cX12_about 87 = .ok (.iaload, 1) := by decide +kernel
theorem dX12_about_88 : decode cX12_about 88 = .ok (.ireturn, 1) := by decide +kernel
theorem dX12_about_89 : decode cX12_about 89 = .ok (.aload_n 0, 1) := by decide +kernel
theorem dX12_about_90 : decode cX12_about 90 = .ok (.getfield 8, 3) := by decide +kernel
theorem dX12_about_93 : decode cX12_about 93 = .ok (.sipush 490, 3) := by decide +kernel
theorem dX12_about_96 : decode cX12_about 96 = .ok (.iload_n 1, 1) := by decide +kernel
theorem dX12_about_97 : decode cX12_about 97 = .ok (.iadd, 1) := by decide +kernel
theorem dX12_about_98 : decode cX12_about 98 = .ok (.iaload, 1) := by decide +kernel
theorem dX12_about_99 : decode cX12_about 99 = .ok (.ireturn, 1) := by decide +kernel
theorem dX12_about_100 : decode cX12_about 100 = .ok (.aload_n 0, 1) := by decide +kernel
theorem dX12_about_101 : decode cX12_about 101 = .ok (.getfield 8, 3) := by decide +kernel
theorem dX12_about_104 : decode cX12_about 104 = .ok (.sipush 550, 3) := by decide +kernel
theorem dX12_about_107 : decode cX12_about 107 = .ok (.iload_n 1, 1) := by decide +kernel
theorem dX12_about_108 : decode cX12_about 108 = .ok (.iadd, 1) := by decide +kernel
theorem dX12_about_109 : decode cX12_about 109 = .ok (.iaload, 1) := by decide +kernel
theorem dX12_about_110 : decode cX12_about 110 = .ok (.ireturn, 1) := by decide +kernel
theorem dX12_about_111 : decode cX12_about 111 = .ok (.aload_n 0, 1) := by decide +kernel
theorem dX12_about_112 : decode cX12_about 112 = .ok (.getfield 8, 3) := by decide +kernel
theorem dX12_about_115 : decode cX12_about 115 = .ok (.sipush 610, 3) := by decide +kernel
theorem dX12_about_118 : decode cX12_about 118 = .ok (.iload_n 1, 1) := by decide +kernel
theorem dX12_about_119 : decode cX12_about 119 = .ok (.iadd, 1) := by decide +kernel
theorem dX12_about_120 : decode cX12_about 120 = .ok (.iaload, 1) := by decide +kernel
theorem dX12_about_121 : decode cX12_about 121 = .ok (.ireturn, 1) := by decide +kernel
theorem dX12_about_122 : decode cX12_about 122 = .ok (.aload_n 0, 1) := by decide +kernel
theorem dX12_about_123 : decode cX12_about 123 = .ok (.getfield 8, 3) := by decide +kernel
theorem dX12_about_126 : decode cX12_about 126 = .ok (.sipush 670, 3) := by decide +kernel
theorem dX12_about_129 : decode cX12_about 129 = .ok (.iload_n 1, 1) := by decide +kernel
theorem dX12_about_130 : decode cX12_about 130 = .ok (.iadd, 1) := by decide +kernel
theorem dX12_about_131 : decode cX12_about 131 = .ok (.iaload, 1) := by decide +kernel
theorem dX12_about_132 : decode cX12_about 132 = .ok (.ireturn, 1) := by decide +kernel
theorem dX12_about_133 : decode cX12_about 133 = .ok (.aload_n 0, 1) := by decide +kernel
theorem dX12_about_134 : decode cX12_about 134 = .ok (.getfield 8, 3) := by decide +kernel
theorem dX12_about_137 : decode cX12_about 137 = .ok (.sipush 730, 3) := by decide +kernel
theorem dX12_about_140 : decode cX12_about 140 = .ok (.iload_n 1, 1) := by decide +kernel
theorem dX12_about_141 : decode cX12_about 141 = .ok (.iadd, 1) := by decide +kernel
theorem dX12_about_142 : decode cX12_about 142 = .ok (.iaload, 1) := by decide +kernel
theorem dX12_about_143 : decode cX12_about 143 = .ok (.ireturn, 1) := by decide +kernel
theorem dX12_about_144 : decode cX12_about 144 = .ok (.aload_n 0, 1) := by decide +kernel
theorem dX12_about_145 : decode cX12_about 145 = .ok (.getfield 8, 3) := by decide +kernel
theorem dX12_about_148 : decode cX12_about 148 = .ok (.sipush 790, 3) := by decide +kernel
theorem dX12_about_151 : decode cX12_about 151 = .ok (.iload_n 1, 1) := by decide +kernel
theorem dX12_about_152 : decode cX12_about 152 = .ok (.iadd, 1) := by decide +kernel
theorem dX12_about_153 : decode cX12_about 153 = .ok (.iaload, 1) := by decide +kernel
theorem dX12_about_154 : decode cX12_about 154 = .ok (.ireturn, 1) := by decide +kernel
theorem dX12_board_0 : decode cX12_board 0 = .ok (.iload_n 1, 1) := by decide +kernel
theorem dX12_board_1 : decode cX12_board 1 = .ok (.invokestatic 69, 3) := by decide +kernel
theorem dX12_board_4 : decode cX12_board 4 = .ok (.ifCond .eq 12, 3) := by decide +kernel
theorem dX12_board_7 : decode cX12_board 7 = .ok (.aload_n 0, 1) := by decide +kernel
theorem dX12_board_8 : decode cX12_board 8 = .ok (.iload_n 2, 1) := by decide +kernel
theorem dX12_board_9 : decode cX12_board 9 = .ok (.iconst 3, 1) := by decide +kernel
theorem dX12_board_10 : decode cX12_board 10 = .ok (.invokevirtual 165, 3) := by decide +kernel
theorem dX12_board_13 : decode cX12_board 13 = .ok (.ifCond .ne 5, 3) := by decide +kernel
theorem dX12_board_16 : decode cX12_board 16 = .ok (.iconst (-1), 1) := by decide +kernel
theorem dX12_board_17 : decode cX12_board 17 = .ok (.ireturn, 1) := by decide +kernel
theorem dX12_board_18 : decode cX12_board 18 = .ok (.aload_n 0, 1) := by decide +kernel
theorem dX12_board_19 : decode cX12_board 19 = .ok (.getfield 8, 3) := by decide +kernel
theorem dX12_board_22 : decode cX12_board 22 = .ok (.bipush 6, 2) := by decide +kernel
theorem dX12_board_24 : decode cX12_board 24 = .ok (.iaload, 1) := by decide +kernel
theorem dX12_board_25 : decode cX12_board 25 = .ok (.bipush 60, 2) := by decide +kernel
theorem dX12_board_27 : decode cX12_board 27 = .ok (.if_icmp .ne 6, 3) := by decide +kernel
theorem dX12_board_30 : decode cX12_board 30 = .ok (.bipush (-4), 2) := by decide +kernel
theorem dX12_board_32 : decode cX12_board 32 = .ok (.ireturn, 1) := by decide +kernel
theorem dX12_board_33 : decode cX12_board 33 = .ok (.aload_n 0, 1) := by decide +kernel
theorem dX12_board_34 : decode cX12_board 34 = .ok (.getfield 8, 3) := by decide +kernel
theorem dX12_board_37 : decode cX12_board 37 = .ok (.sipush 11290, 3) := by decide +kernel
theorem dX12_board_40 : decode cX12_board 40 = .ok (.aload_n 0, 1) := by decide +kernel
theorem dX12_board_41 : decode cX12_board 41 = .ok (.getfield 8, 3) := by decide +kernel
theorem dX12_board_44 : decode cX12_board 44 = .ok (.bipush 6, 2) := by decide +kernel
theorem dX12_board_46 : decode cX12_board 46 = .ok (.iaload, 1) := by decide +kernel
theorem dX12_board_47 : decode cX12_board 47 = .ok (.iadd, 1) := by decide +kernel
theorem dX12_board_48 : decode cX12_board 48 = .ok (.iload_n 1, 1) := by decide +kernel
theorem dX12_board_49 : decode cX12_board 49 = .ok (.iastore, 1) := by decide +kernel
theorem dX12_board_50 : decode cX12_board 50 = .ok (.aload_n 0, 1) := by decide +kernel
theorem dX12_board_51 : decode cX12_board 51 = .ok (.getfield 8, 3) := by decide +kernel
theorem dX12_board_54 : decode cX12_board 54 = .ok (.sipush 11350, 3) := by decide +kernel
theorem dX12_board_57 : decode cX12_board 57 = .ok (.aload_n 0, 1) := by decide +kernel
theorem dX12_board_58 : decode cX12_board 58 = .ok (.getfield 8, 3) := by decide +kernel
theorem dX12_board_61 : decode cX12_board 61 = .ok (.bipush 6, 2) := by decide +kernel
theorem dX12_board_63 : decode cX12_board 63 = .ok (.iaload, 1) := by decide +kernel
theorem dX12_board_64 : decode cX12_board 64 = .ok (.iadd, 1) := by decide +kernel
theorem dX12_board_65 : decode cX12_board 65 = .ok (.iload_n 2, 1) := by decide +kernel
theorem dX12_board_66 : decode cX12_board 66 = .ok (.iastore, 1) := by decide +kernel
theorem dX12_board_67 : decode cX12_board 67 = .ok (.aload_n 0, 1) := by decide +kernel
theorem dX12_board_68 : decode cX12_board 68 = .ok (.getfield 8, 3) := by decide +kernel
theorem dX12_board_71 : decode cX12_board 71 = .ok (.sipush 11410, 3) := by decide +kernel
theorem dX12_board_74 : decode cX12_board 74 = .ok (.aload_n 0, 1) := by decide +kernel
theorem dX12_board_75 : decode cX12_board 75 = .ok (.getfield 8, 3) := by decide +kernel
theorem dX12_board_78 : decode cX12_board 78 = .ok (.bipush 6, 2) := by decide +kernel
theorem dX12_board_80 : decode cX12_board 80 = .ok (.iaload, 1) := by decide +kernel
theorem dX12_board_81 : decode cX12_board 81 = .ok (.iadd, 1) := by decide +kernel
theorem dX12_board_82 : decode cX12_board 82 = .ok (.iload_n 3, 1) := by decide +kernel
theorem dX12_board_83 : decode cX12_board 83 = .ok (.ifCond .eq 7, 3) := by decide +kernel
theorem dX12_board_86 : decode cX12_board 86 = .ok (.iconst 1, 1) := by decide +kernel
theorem dX12_board_87 : decode cX12_board 87 = .ok (.goto 4, 3) := by decide +kernel
theorem dX12_board_90 : decode cX12_board 90 = .ok (.iconst 0, 1) := by decide +kernel
theorem dX12_board_91 : decode cX12_board 91 = .ok (.iastore, 1) := by decide +kernel
theorem dX12_board_92 : decode cX12_board 92 = .ok (.aload_n 0, 1) := by decide +kernel
theorem dX12_board_93 : decode cX12_board 93 = .ok (.getfield 8, 3) := by decide +kernel
theorem dX12_board_96 : decode cX12_board 96 = .ok (.bipush 6, 2) := by decide +kernel
theorem dX12_board_98 : decode cX12_board 98 = .ok (.dup2, 1) := by decide +kernel
theorem dX12_board_99 : decode cX12_board 99 = .ok (.iaload, 1) := by decide +kernel
theorem dX12_board_100 : decode cX12_board 100 = .ok (.iconst 1, 1) := by decide +kernel
theorem dX12_board_101 : decode cX12_board 101 = .ok (.iadd, 1) := by decide +kernel
theorem dX12_board_102 : decode cX12_board 102 = .ok (.iastore, 1) := by decide +kernel
theorem dX12_board_103 : decode cX12_board 103 = .ok (.aload_n 0, 1) := by decide +kernel
theorem dX12_board_104 : decode cX12_board 104 = .ok (.getfield 8, 3) := by decide +kernel
theorem dX12_board_107 : decode cX12_board 107 = .ok (.bipush 6, 2) := by decide +kernel
theorem dX12_board_109 : decode cX12_board 109 = .ok (.iaload, 1) := by decide +kernel
theorem dX12_board_110 : decode cX12_board 110 = .ok (.ireturn, 1) := by decide +kernel
theorem dX12_doubled_0 : decode cX12_doubled 0 = .ok (.iconst 0, 1) := by decide +kernel
theorem dX12_doubled_1 : decode cX12_doubled 1 = .ok (.istore_n 1, 1) := by decide +kernel
theorem dX12_doubled_2 : decode cX12_doubled 2 = .ok (.iconst 0, 1) := by decide +kernel
theorem dX12_doubled_3 : decode cX12_doubled 3 = .ok (.istore_n 2, 1) := by decide +kernel
theorem dX12_doubled_4 : decode cX12_doubled 4 = .ok (.iload_n 2, 1) := by decide +kernel
theorem dX12_doubled_5 : decode cX12_doubled 5 = .ok (.aload_n 0, 1) := by decide +kernel
theorem dX12_doubled_6 : decode cX12_doubled 6 = .ok (.getfield 8, 3) := by decide +kernel
theorem dX12_doubled_9 : decode cX12_doubled 9 = .ok (.bipush 6, 2) := by decide +kernel
theorem dX12_doubled_11 : decode cX12_doubled 11 = .ok (.iaload, 1) := by decide +kernel
theorem dX12_doubled_12 : decode cX12_doubled 12 = .ok (.if_icmp .ge 122, 3) := by decide +kernel
theorem dX12_doubled_15 : decode cX12_doubled 15 = .ok (.iconst 0, 1) := by decide +kernel
theorem dX12_doubled_16 : decode cX12_doubled 16 = .ok (.istore_n 3, 1) := by decide +kernel
theorem dX12_doubled_17 : decode cX12_doubled 17 = .ok (.iload_n 3, 1) := by decide +kernel
theorem dX12_doubled_18 : decode cX12_doubled 18 = .ok (.iload_n 2, 1) := by decide +kernel
theorem dX12_doubled_19 : decode cX12_doubled 19 = .ok (.if_icmp .ge 109, 3) := by decide +kernel
theorem dX12_doubled_22 : decode cX12_doubled 22 = .ok (.aload_n 0, 1) := by decide +kernel
theorem dX12_doubled_23 : decode cX12_doubled 23 = .ok (.getfield 8, 3) := by decide +kernel
theorem dX12_doubled_26 : decode cX12_doubled 26 = .ok (.sipush 11290, 3) := by decide +kernel
theorem dX12_doubled_29 : decode cX12_doubled 29 = .ok (.iload_n 2, 1) := by decide +kernel
theorem dX12_doubled_30 : decode cX12_doubled 30 = .ok (.iadd, 1) := by decide +kernel
theorem dX12_doubled_31 : decode cX12_doubled 31 = .ok (.iaload, 1) := by decide +kernel
theorem dX12_doubled_32 : decode cX12_doubled 32 = .ok (.aload_n 0, 1) := by decide +kernel
theorem dX12_doubled_33 : decode cX12_doubled 33 = .ok (.getfield 8, 3) := by decide +kernel
theorem dX12_doubled_36 : decode cX12_doubled 36 = .ok (.sipush 11290, 3) := by decide +kernel
theorem dX12_doubled_39 : decode cX12_doubled 39 = .ok (.iload_n 3, 1) := by decide +kernel
theorem dX12_doubled_40 : decode cX12_doubled 40 = .ok (.iadd, 1) := by decide +kernel
theorem dX12_doubled_41 : decode cX12_doubled 41 = .ok (.iaload, 1) := by decide +kernel
theorem dX12_doubled_42 : decode cX12_doubled 42 = .ok (.if_icmp .ne 53, 3) := by decide +kernel
theorem dX12_doubled_45 : decode cX12_doubled 45 = .ok (.aload_n 0, 1) := by decide +kernel
theorem dX12_doubled_46 : decode cX12_doubled 46 = .ok (.getfield 8, 3) := by decide +kernel
theorem dX12_doubled_49 : decode cX12_doubled 49 = .ok (.sipush 11350, 3) := by decide +kernel
theorem dX12_doubled_52 : decode cX12_doubled 52 = .ok (.iload_n 2, 1) := by decide +kernel
theorem dX12_doubled_53 : decode cX12_doubled 53 = .ok (.iadd, 1) := by decide +kernel
theorem dX12_doubled_54 : decode cX12_doubled 54 = .ok (.iaload, 1) := by decide +kernel
theorem dX12_doubled_55 : decode cX12_doubled 55 = .ok (.aload_n 0, 1) := by decide +kernel
theorem dX12_doubled_56 : decode cX12_doubled 56 = .ok (.getfield 8, 3) := by decide +kernel
theorem dX12_doubled_59 : decode cX12_doubled 59 = .ok (.sipush 11350, 3) := by decide +kernel
theorem dX12_doubled_62 : decode cX12_doubled 62 = .ok (.iload_n 3, 1) := by decide +kernel
theorem dX12_doubled_63 : decode cX12_doubled 63 = .ok (.iadd, 1) := by decide +kernel
theorem dX12_doubled_64 : decode cX12_doubled 64 = .ok (.iaload, 1) := by decide +kernel
theorem dX12_doubled_65 : decode cX12_doubled 65 = .ok (.if_icmp .ne 30, 3) := by decide +kernel
theorem dX12_doubled_68 : decode cX12_doubled 68 = .ok (.aload_n 0, 1) := by decide +kernel
theorem dX12_doubled_69 : decode cX12_doubled 69 = .ok (.getfield 8, 3) := by decide +kernel
theorem dX12_doubled_72 : decode cX12_doubled 72 = .ok (.sipush 11410, 3) := by decide +kernel
theorem dX12_doubled_75 : decode cX12_doubled 75 = .ok (.iload_n 2, 1) := by decide +kernel
theorem dX12_doubled_76 : decode cX12_doubled 76 = .ok (.iadd, 1) := by decide +kernel
theorem dX12_doubled_77 : decode cX12_doubled 77 = .ok (.iaload, 1) := by decide +kernel
theorem dX12_doubled_78 : decode cX12_doubled 78 = .ok (.aload_n 0, 1) := by decide +kernel
theorem dX12_doubled_79 : decode cX12_doubled 79 = .ok (.getfield 8, 3) := by decide +kernel
theorem dX12_doubled_82 : decode cX12_doubled 82 = .ok (.sipush 11410, 3) := by decide +kernel
theorem dX12_doubled_85 : decode cX12_doubled 85 = .ok (.iload_n 3, 1) := by decide +kernel
theorem dX12_doubled_86 : decode cX12_doubled 86 = .ok (.iadd, 1) := by decide +kernel
theorem dX12_doubled_87 : decode cX12_doubled 87 = .ok (.iaload, 1) := by decide +kernel
theorem dX12_doubled_88 : decode cX12_doubled 88 = .ok (.if_icmp .eq 7, 3) := by decide +kernel
theorem dX12_doubled_91 : decode cX12_doubled 91 = .ok (.iconst 1, 1) := by decide +kernel
theorem dX12_doubled_92 : decode cX12_doubled 92 = .ok (.goto 4, 3) := by decide +kernel
theorem dX12_doubled_95 : decode cX12_doubled 95 = .ok (.iconst 0, 1) := by decide +kernel
theorem dX12_doubled_96 : decode cX12_doubled 96 = .ok (.istore 4, 2) := by decide +kernel
theorem dX12_doubled_98 : decode cX12_doubled 98 = .ok (.iload_n 1, 1) := by decide +kernel
theorem dX12_doubled_99 : decode cX12_doubled 99 = .ok (.iload 4, 2) := by decide +kernel
theorem dX12_doubled_101 : decode cX12_doubled 101 = .ok (.ifCond .eq 18, 3) := by decide +kernel
theorem dX12_doubled_104 : decode cX12_doubled 104 = .ok (.iconst 1, 1) := by decide +kernel
theorem dX12_doubled_105 : decode cX12_doubled 105 = .ok (.aload_n 0, 1) := by decide +kernel
theorem dX12_doubled_106 : decode cX12_doubled 106 = .ok (.getfield 8, 3) := by decide +kernel
theorem dX12_doubled_109 : decode cX12_doubled 109 = .ok (.sipush 11290, 3) := by decide +kernel
theorem dX12_doubled_112 : decode cX12_doubled 112 = .ok (.iload_n 2, 1) := by decide +kernel
theorem dX12_doubled_113 : decode cX12_doubled 113 = .ok (.iadd, 1) := by decide +kernel
theorem dX12_doubled_114 : decode cX12_doubled 114 = .ok (.iaload, 1) := by decide +kernel
theorem dX12_doubled_115 : decode cX12_doubled 115 = .ok (.ishl, 1) := by decide +kernel
theorem dX12_doubled_116 : decode cX12_doubled 116 = .ok (.goto 4, 3) := by decide +kernel
theorem dX12_doubled_119 : decode cX12_doubled 119 = .ok (.iconst 0, 1) := by decide +kernel
theorem dX12_doubled_120 : decode cX12_doubled 120 = .ok (.ior, 1) := by decide +kernel
theorem dX12_doubled_121 : decode cX12_doubled 121 = .ok (.istore_n 1, 1) := by decide +kernel
theorem dX12_doubled_122 : decode cX12_doubled 122 = .ok (.iinc 3 1, 3) := by decide +kernel
theorem dX12_doubled_125 : decode cX12_doubled 125 = .ok (.goto (-108), 3) := by decide +kernel
theorem dX12_doubled_128 : decode cX12_doubled 128 = .ok (.iinc 2 1, 3) := by decide +kernel
theorem dX12_doubled_131 : decode cX12_doubled 131 = .ok (.goto (-127), 3) := by decide +kernel
theorem dX12_doubled_134 : decode cX12_doubled 134 = .ok (.iload_n 1, 1) := by decide +kernel
theorem dX12_doubled_135 : decode cX12_doubled 135 = .ok (.ireturn, 1) := by decide +kernel
theorem dX12_hand_0 : decode cX12_hand 0 = .ok (.iload_n 1, 1) := by decide +kernel
theorem dX12_hand_1 : decode cX12_hand 1 = .ok (.iconst 1, 1) := by decide +kernel
theorem dX12_hand_2 : decode cX12_hand 2 = .ok (.bipush 30, 2) := by decide +kernel
theorem dX12_hand_4 : decode cX12_hand 4 = .ok (.invokestatic 58, 3) := by decide +kernel
theorem dX12_hand_7 : decode cX12_hand 7 = .ok (.ifCond .eq 13, 3) := by decide +kernel
theorem dX12_hand_10 : decode cX12_hand 10 = .ok (.iload_n 2, 1) := by decide +kernel
theorem dX12_hand_11 : decode cX12_hand 11 = .ok (.iconst 1, 1) := by decide +kernel
theorem dX12_hand_12 : decode cX12_hand 12 = .ok (.bipush 30, 2) := by decide +kernel
theorem dX12_hand_14 : decode cX12_hand 14 = .ok (.invokestatic 58, 3) := by decide +kernel
theorem dX12_hand_17 : decode cX12_hand 17 = .ok (.ifCond .ne 6, 3) := by decide +kernel
theorem dX12_hand_20 : decode cX12_hand 20 = .ok (.bipush (-2), 2) := by decide +kernel
theorem dX12_hand_22 : decode cX12_hand 22 = .ok (.ireturn, 1) := by decide +kernel
theorem dX12_hand_23 : decode cX12_hand 23 = .ok (.aload_n 0, 1) := by decide +kernel
theorem dX12_hand_24 : decode cX12_hand 24 = .ok (.getfield 8, 3) := by decide +kernel
theorem dX12_hand_27 : decode cX12_hand 27 = .ok (.bipush 7, 2) := by decide +kernel
theorem dX12_hand_29 : decode cX12_hand 29 = .ok (.iaload, 1) := by decide +kernel
theorem dX12_hand_30 : decode cX12_hand 30 = .ok (.bipush 7, 2) := by decide +kernel
theorem dX12_hand_32 : decode cX12_hand 32 = .ok (.if_icmp .ne 6, 3) := by decide +kernel
theorem dX12_hand_35 : decode cX12_hand 35 = .ok (.bipush (-4), 2) := by decide +kernel
theorem dX12_hand_37 : decode cX12_hand 37 = .ok (.ireturn, 1) := by decide +kernel
theorem dX12_hand_38 : decode cX12_hand 38 = .ok (.aload_n 0, 1) := by decide +kernel
theorem dX12_hand_39 : decode cX12_hand 39 = .ok (.getfield 8, 3) := by decide +kernel
theorem dX12_hand_42 : decode cX12_hand 42 = .ok (.sipush 11470, 3) := by decide +kernel
theorem dX12_hand_45 : decode cX12_hand 45 = .ok (.aload_n 0, 1) := by decide +kernel
theorem dX12_hand_46 : decode cX12_hand 46 = .ok (.getfield 8, 3) := by decide +kernel
theorem dX12_hand_49 : decode cX12_hand 49 = .ok (.bipush 7, 2) := by decide +kernel
theorem dX12_hand_51 : decode cX12_hand 51 = .ok (.iaload, 1) := by decide +kernel
theorem dX12_hand_52 : decode cX12_hand 52 = .ok (.iadd, 1) := by decide +kernel
theorem dX12_hand_53 : decode cX12_hand 53 = .ok (.iload_n 1, 1) := by decide +kernel
theorem dX12_hand_54 : decode cX12_hand 54 = .ok (.iastore, 1) := by decide +kernel
theorem dX12_hand_55 : decode cX12_hand 55 = .ok (.aload_n 0, 1) := by decide +kernel
theorem dX12_hand_56 : decode cX12_hand 56 = .ok (.getfield 8, 3) := by decide +kernel
theorem dX12_hand_59 : decode cX12_hand 59 = .ok (.sipush 11480, 3) := by decide +kernel
theorem dX12_hand_62 : decode cX12_hand 62 = .ok (.aload_n 0, 1) := by decide +kernel
theorem dX12_hand_63 : decode cX12_hand 63 = .ok (.getfield 8, 3) := by decide +kernel
theorem dX12_hand_66 : decode cX12_hand 66 = .ok (.bipush 7, 2) := by decide +kernel
theorem dX12_hand_68 : decode cX12_hand 68 = .ok (.iaload, 1) := by decide +kernel
theorem dX12_hand_69 : decode cX12_hand 69 = .ok (.iadd, 1) := by decide +kernel
theorem dX12_hand_70 : decode cX12_hand 70 = .ok (.iload_n 2, 1) := by decide +kernel
theorem dX12_hand_71 : decode cX12_hand 71 = .ok (.iastore, 1) := by decide +kernel
theorem dX12_hand_72 : decode cX12_hand 72 = .ok (.aload_n 0, 1) := by decide +kernel
theorem dX12_hand_73 : decode cX12_hand 73 = .ok (.getfield 8, 3) := by decide +kernel
theorem dX12_hand_76 : decode cX12_hand 76 = .ok (.bipush 7, 2) := by decide +kernel
theorem dX12_hand_78 : decode cX12_hand 78 = .ok (.dup2, 1) := by decide +kernel
theorem dX12_hand_79 : decode cX12_hand 79 = .ok (.iaload, 1) := by decide +kernel
theorem dX12_hand_80 : decode cX12_hand 80 = .ok (.iconst 1, 1) := by decide +kernel
theorem dX12_hand_81 : decode cX12_hand 81 = .ok (.iadd, 1) := by decide +kernel
theorem dX12_hand_82 : decode cX12_hand 82 = .ok (.iastore, 1) := by decide +kernel
theorem dX12_hand_83 : decode cX12_hand 83 = .ok (.aload_n 0, 1) := by decide +kernel
theorem dX12_hand_84 : decode cX12_hand 84 = .ok (.getfield 8, 3) := by decide +kernel
theorem dX12_hand_87 : decode cX12_hand 87 = .ok (.bipush 7, 2) := by decide +kernel
theorem dX12_hand_89 : decode cX12_hand 89 = .ok (.iaload, 1) := by decide +kernel
theorem dX12_hand_90 : decode cX12_hand 90 = .ok (.ireturn, 1) := by decide +kernel
theorem dX12_does_0 : decode cX12_does 0 = .ok (.iload_n 1, 1) := by decide +kernel
theorem dX12_does_1 : decode cX12_does 1 = .ok (.aload_n 0, 1) := by decide +kernel
theorem dX12_does_2 : decode cX12_does 2 = .ok (.getfield 231, 3) := by decide +kernel
theorem dX12_does_5 : decode cX12_does 5 = .ok (.if_icmp .le 37, 3) := by decide +kernel
theorem dX12_does_8 : decode cX12_does 8 = .ok (.aload_n 0, 1) := by decide +kernel
theorem dX12_does_9 : decode cX12_does 9 = .ok (.iload_n 1, 1) := by decide +kernel
theorem dX12_does_10 : decode cX12_does 10 = .ok (.putfield 231, 3) := by decide +kernel
theorem dX12_does_13 : decode cX12_does 13 = .ok (.iconst 0, 1) := by decide +kernel
theorem dX12_does_14 : decode cX12_does 14 = .ok (.istore 6, 2) := by decide +kernel
theorem dX12_does_16 : decode cX12_does 16 = .ok (.iload 6, 2) := by decide +kernel
theorem dX12_does_18 : decode cX12_does 18 = .ok (.iload_n 1, 1) := by decide +kernel
theorem dX12_does_19 : decode cX12_does 19 = .ok (.if_icmp .ge 23, 3) := by decide +kernel
theorem dX12_does_22 : decode cX12_does 22 = .ok (.aload_n 0, 1) := by decide +kernel
theorem dX12_does_23 : decode cX12_does 23 = .ok (.getfield 29, 3) := by decide +kernel
theorem dX12_does_26 : decode cX12_does 26 = .ok (.iload 6, 2) := by decide +kernel
theorem dX12_does_28 : decode cX12_does 28 = .ok (.aload_n 0, 1) := by decide +kernel
theorem dX12_does_29 : decode cX12_does 29 = .ok (.getfield 26, 3) := by decide +kernel
theorem dX12_does_32 : decode cX12_does 32 = .ok (.iload 6, 2) := by decide +kernel
theorem dX12_does_34 : decode cX12_does 34 = .ok (.iaload, 1) := by decide +kernel
theorem dX12_does_35 : decode cX12_does 35 = .ok (.iastore, 1) := by decide +kernel
theorem dX12_does_36 : decode cX12_does 36 = .ok (.iinc 6 1, 3) := by decide +kernel
theorem dX12_does_39 : decode cX12_does 39 = .ok (.goto (-23), 3) := by decide +kernel
theorem dX12_does_42 : decode cX12_does 42 = .ok (.iconst 0, 1) := by decide +kernel
theorem dX12_does_43 : decode cX12_does 43 = .ok (.istore 6, 2) := by decide +kernel
theorem dX12_does_45 : decode cX12_does 45 = .ok (.iload 6, 2) := by decide +kernel
theorem dX12_does_47 : decode cX12_does 47 = .ok (.aload_n 0, 1) := by decide +kernel
theorem dX12_does_48 : decode cX12_does 48 = .ok (.getfield 8, 3) := by decide +kernel
theorem dX12_does_51 : decode cX12_does 51 = .ok (.bipush 7, 2) := by decide +kernel
theorem dX12_does_53 : decode cX12_does 53 = .ok (.iaload, 1) := by decide +kernel
theorem dX12_does_54 : decode cX12_does 54 = .ok (.if_icmp .ge 95, 3) := by decide +kernel
theorem dX12_does_57 : decode cX12_does 57 = .ok (.iload_n 3, 1) := by decide +kernel
theorem dX12_does_58 : decode cX12_does 58 = .ok (.aload_n 0, 1) := by decide +kernel
theorem dX12_does_59 : decode cX12_does 59 = .ok (.getfield 8, 3) := by decide +kernel
theorem dX12_does_62 : decode cX12_does 62 = .ok (.sipush 11470, 3) := by decide +kernel
theorem dX12_does_65 : decode cX12_does 65 = .ok (.iload 6, 2) := by decide +kernel
theorem dX12_does_67 : decode cX12_does 67 = .ok (.iadd, 1) := by decide +kernel
theorem dX12_does_68 : decode cX12_does 68 = .ok (.iaload, 1) := by decide +kernel
theorem dX12_does_69 : decode cX12_does 69 = .ok (.iadd, 1) := by decide +kernel
theorem dX12_does_70 : decode cX12_does 70 = .ok (.istore 7, 2) := by decide +kernel
theorem dX12_does_72 : decode cX12_does 72 = .ok (.iload 7, 2) := by decide +kernel
theorem dX12_does_74 : decode cX12_does 74 = .ok (.iload 4, 2) := by decide +kernel
theorem dX12_does_76 : decode cX12_does 76 = .ok (.if_icmp .le 8, 3) := by decide +kernel
theorem dX12_does_79 : decode cX12_does 79 = .ok (.iload 7, 2) := by decide +kernel
theorem dX12_does_81 : decode cX12_does 81 = .ok (.goto 5, 3) := by decide +kernel
theorem dX12_does_84 : decode cX12_does 84 = .ok (.iload 4, 2) := by decide +kernel
theorem dX12_does_86 : decode cX12_does 86 = .ok (.aload_n 0, 1) := by decide +kernel
theorem dX12_does_87 : decode cX12_does 87 = .ok (.getfield 8, 3) := by decide +kernel
theorem dX12_does_90 : decode cX12_does 90 = .ok (.sipush 11480, 3) := by decide +kernel
theorem dX12_does_93 : decode cX12_does 93 = .ok (.iload 6, 2) := by decide +kernel
theorem dX12_does_95 : decode cX12_does 95 = .ok (.iadd, 1) := by decide +kernel
theorem dX12_does_96 : decode cX12_does 96 = .ok (.iaload, 1) := by decide +kernel
theorem dX12_does_97 : decode cX12_does 97 = .ok (.iadd, 1) := by decide +kernel
theorem dX12_does_98 : decode cX12_does 98 = .ok (.istore 8, 2) := by decide +kernel
theorem dX12_does_100 : decode cX12_does 100 = .ok (.iload_n 2, 1) := by decide +kernel
theorem dX12_does_101 : decode cX12_does 101 = .ok (.iload 6, 2) := by decide +kernel
theorem dX12_does_103 : decode cX12_does 103 = .ok (.ishr, 1) := by decide +kernel
theorem dX12_does_104 : decode cX12_does 104 = .ok (.iconst 1, 1) := by decide +kernel
theorem dX12_does_105 : decode cX12_does 105 = .ok (.iand, 1) := by decide +kernel
theorem dX12_does_106 : decode cX12_does 106 = .ok (.ifCond .ne 37, 3) := by decide +kernel
theorem dX12_does_109 : decode cX12_does 109 = .ok (.iload 8, 2) := by decide +kernel
theorem dX12_does_111 : decode cX12_does 111 = .ok (.iload 5, 2) := by decide +kernel
theorem dX12_does_113 : decode cX12_does 113 = .ok (.if_icmp .gt 30, 3) := by decide +kernel
theorem dX12_does_116 : decode cX12_does 116 = .ok (.aload_n 0, 1) := by decide +kernel
theorem dX12_does_117 : decode cX12_does 117 = .ok (.getfield 26, 3) := by decide +kernel
theorem dX12_does_120 : decode cX12_does 120 = .ok (.iload_n 1, 1) := by decide +kernel
theorem dX12_does_121 : decode cX12_does 121 = .ok (.iload 6, 2) := by decide +kernel
theorem dX12_does_123 : decode cX12_does 123 = .ok (.iastore, 1) := by decide +kernel
theorem dX12_does_124 : decode cX12_does 124 = .ok (.aload_n 0, 1) := by decide +kernel
theorem dX12_does_125 : decode cX12_does 125 = .ok (.iload_n 1, 1) := by decide +kernel
theorem dX12_does_126 : decode cX12_does 126 = .ok (.iconst 1, 1) := by decide +kernel
theorem dX12_does_127 : decode cX12_does 127 = .ok (.iadd, 1) := by decide +kernel
theorem dX12_does_128 : decode cX12_does 128 = .ok (.iload_n 2, 1) := by decide +kernel
theorem dX12_does_129 : decode cX12_does 129 = .ok (.iconst 1, 1) := by decide +kernel
theorem dX12_does_130 : decode cX12_does 130 = .ok (.iload 6, 2) := by decide +kernel
theorem dX12_does_132 : decode cX12_does 132 = .ok (.ishl, 1) := by decide +kernel
theorem dX12_does_133 : decode cX12_does 133 = .ok (.ior, 1) := by decide +kernel
theorem dX12_does_134 : decode cX12_does 134 = .ok (.iload 7, 2) := by decide +kernel
theorem dX12_does_136 : decode cX12_does 136 = .ok (.iload 8, 2) := by decide +kernel
theorem dX12_does_138 : decode cX12_does 138 = .ok (.iload 5, 2) := by decide +kernel
theorem dX12_does_140 : decode cX12_does 140 = .ok (.invokevirtual 234, 3) := by decide +kernel
theorem dX12_does_143 : decode cX12_does 143 = .ok (.iinc 6 1, 3) := by decide +kernel
theorem dX12_does_146 : decode cX12_does 146 = .ok (.goto (-101), 3) := by decide +kernel
theorem dX12_does_149 : decode cX12_does 149 = .ok (.return_, 1) := by decide +kernel
theorem dX12_midnight_0 : decode cX12_midnight 0 = .ok (.iload_n 2, 1) := by decide +kernel
theorem dX12_midnight_1 : decode cX12_midnight 1 = .ok (.iconst (-1), 1) := by decide +kernel
theorem dX12_midnight_2 : decode cX12_midnight 2 = .ok (.if_icmp .ge 5, 3) := by decide +kernel
theorem dX12_midnight_5 : decode cX12_midnight 5 = .ok (.iconst (-1), 1) := by decide +kernel
theorem dX12_midnight_6 : decode cX12_midnight 6 = .ok (.ireturn, 1) := by decide +kernel
theorem dX12_midnight_7 : decode cX12_midnight 7 = .ok (.iload_n 1, 1) := by decide +kernel
theorem dX12_midnight_8 : decode cX12_midnight 8 = .ok (.iconst 1, 1) := by decide +kernel
theorem dX12_midnight_9 : decode cX12_midnight 9 = .ok (.sipush 999, 3) := by decide +kernel
theorem dX12_midnight_12 : decode cX12_midnight 12 = .ok (.invokestatic 58, 3) := by decide +kernel
theorem dX12_midnight_15 : decode cX12_midnight 15 = .ok (.ifCond .ne 6, 3) := by decide +kernel
theorem dX12_midnight_18 : decode cX12_midnight 18 = .ok (.bipush (-2), 2) := by decide +kernel
theorem dX12_midnight_20 : decode cX12_midnight 20 = .ok (.ireturn, 1) := by decide +kernel
theorem dX12_midnight_21 : decode cX12_midnight 21 = .ok (.aload_n 0, 1) := by decide +kernel
theorem dX12_midnight_22 : decode cX12_midnight 22 = .ok (.iconst 0, 1) := by decide +kernel
theorem dX12_midnight_23 : decode cX12_midnight 23 = .ok (.putfield 231, 3) := by decide +kernel
theorem dX12_midnight_26 : decode cX12_midnight 26 = .ok (.aload_n 0, 1) := by decide +kernel
theorem dX12_midnight_27 : decode cX12_midnight 27 = .ok (.iconst 0, 1) := by decide +kernel
theorem dX12_midnight_28 : decode cX12_midnight 28 = .ok (.iconst 0, 1) := by decide +kernel
theorem dX12_midnight_29 : decode cX12_midnight 29 = .ok (.iconst 0, 1) := by decide +kernel
theorem dX12_midnight_30 : decode cX12_midnight 30 = .ok (.iconst 0, 1) := by decide +kernel
theorem dX12_midnight_31 : decode cX12_midnight 31 = .ok (.iload_n 1, 1) := by decide +kernel
theorem dX12_midnight_32 : decode cX12_midnight 32 = .ok (.invokevirtual 234, 3) := by decide +kernel
theorem dX12_midnight_35 : decode cX12_midnight 35 = .ok (.iload_n 2, 1) := by decide +kernel
theorem dX12_midnight_36 : decode cX12_midnight 36 = .ok (.iconst (-1), 1) := by decide +kernel
theorem dX12_midnight_37 : decode cX12_midnight 37 = .ok (.if_icmp .ne 10, 3) := by decide +kernel
theorem dX12_midnight_40 : decode cX12_midnight 40 = .ok (.aload_n 0, 1) := by decide +kernel
theorem dX12_midnight_41 : decode cX12_midnight 41 = .ok (.getfield 231, 3) := by decide +kernel
theorem dX12_midnight_44 : decode cX12_midnight 44 = .ok (.goto 21, 3) := by decide +kernel
theorem dX12_midnight_47 : decode cX12_midnight 47 = .ok (.iload_n 2, 1) := by decide +kernel
theorem dX12_midnight_48 : decode cX12_midnight 48 = .ok (.aload_n 0, 1) := by decide +kernel
theorem dX12_midnight_49 : decode cX12_midnight 49 = .ok (.getfield 231, 3) := by decide +kernel
theorem dX12_midnight_52 : decode cX12_midnight 52 = .ok (.if_icmp .ge 12, 3) := by decide +kernel
theorem dX12_midnight_55 : decode cX12_midnight 55 = .ok (.aload_n 0, 1) := by decide +kernel
theorem dX12_midnight_56 : decode cX12_midnight 56 = .ok (.getfield 29, 3) := by decide +kernel
theorem dX12_midnight_59 : decode cX12_midnight 59 = .ok (.iload_n 2, 1) := by decide +kernel
theorem dX12_midnight_60 : decode cX12_midnight 60 = .ok (.iaload, 1) := by decide +kernel
theorem dX12_midnight_61 : decode cX12_midnight 61 = .ok (.goto 4, 3) := by decide +kernel
theorem dX12_midnight_64 : decode cX12_midnight 64 = .ok (.iconst (-1), 1) := by decide +kernel
theorem dX12_midnight_65 : decode cX12_midnight 65 = .ok (.ireturn, 1) := by decide +kernel
theorem dX12_isScheme_0 : decode cX12_isScheme 0 = .ok (.aload_n 0, 1) := by decide +kernel
theorem dX12_isScheme_1 : decode cX12_isScheme 1 = .ok (.iload_n 1, 1) := by decide +kernel
theorem dX12_isScheme_2 : decode cX12_isScheme 2 = .ok (.iconst 1, 1) := by decide +kernel
theorem dX12_isScheme_3 : decode cX12_isScheme 3 = .ok (.invokevirtual 165, 3) := by decide +kernel
theorem dX12_isScheme_6 : decode cX12_isScheme 6 = .ok (.ireturn, 1) := by decide +kernel
theorem dX12_isFallen_0 : decode cX12_isFallen 0 = .ok (.aload_n 0, 1) := by decide +kernel
theorem dX12_isFallen_1 : decode cX12_isFallen 1 = .ok (.getfield 8, 3) := by decide +kernel
theorem dX12_isFallen_4 : decode cX12_isFallen 4 = .ok (.sipush 790, 3) := by decide +kernel
theorem dX12_isFallen_7 : decode cX12_isFallen 7 = .ok (.iload_n 1, 1) := by decide +kernel
theorem dX12_isFallen_8 : decode cX12_isFallen 8 = .ok (.iadd, 1) := by decide +kernel
theorem dX12_isFallen_9 : decode cX12_isFallen 9 = .ok (.iaload, 1) := by decide +kernel
theorem dX12_isFallen_10 : decode cX12_isFallen 10 = .ok (.iconst 1, 1) := by decide +kernel
theorem dX12_isFallen_11 : decode cX12_isFallen 11 = .ok (.if_icmp .ne 7, 3) := by decide +kernel
theorem dX12_isFallen_14 : decode cX12_isFallen 14 = .ok (.iconst 1, 1) := by decide +kernel
theorem dX12_isFallen_15 : decode cX12_isFallen 15 = .ok (.goto 4, 3) := by decide +kernel
theorem dX12_isFallen_18 : decode cX12_isFallen 18 = .ok (.iconst 0, 1) := by decide +kernel
theorem dX12_isFallen_19 : decode cX12_isFallen 19 = .ok (.ireturn, 1) := by decide +kernel
theorem dX12_sharesAt_0 : decode cX12_sharesAt 0 = .ok (.sipush 11530, 3) := by decide +kernel
theorem dX12_sharesAt_3 : decode cX12_sharesAt 3 = .ok (.bipush 9, 2) := by decide +kernel
theorem dX12_sharesAt_5 : decode cX12_sharesAt 5 = .ok (.aload_n 0, 1) := by decide +kernel
theorem dX12_sharesAt_6 : decode cX12_sharesAt 6 = .ok (.iload_n 1, 1) := by decide +kernel
theorem dX12_sharesAt_7 : decode cX12_sharesAt 7 = .ok (.invokevirtual 238, 3) := by decide +kernel
theorem dX12_sharesAt_10 : decode cX12_sharesAt 10 = .ok (.imul, 1) := by decide +kernel
theorem dX12_sharesAt_11 : decode cX12_sharesAt 11 = .ok (.iadd, 1) := by decide +kernel
theorem dX12_sharesAt_12 : decode cX12_sharesAt 12 = .ok (.iload_n 2, 1) := by decide +kernel
theorem dX12_sharesAt_13 : decode cX12_sharesAt 13 = .ok (.iadd, 1) := by decide +kernel
theorem dX12_sharesAt_14 : decode cX12_sharesAt 14 = .ok (.ireturn, 1) := by decide +kernel
theorem dX12_scrip_0 : decode cX12_scrip 0 = .ok (.aload_n 0, 1) := by decide +kernel
theorem dX12_scrip_1 : decode cX12_scrip 1 = .ok (.iload_n 1, 1) := by decide +kernel
theorem dX12_scrip_2 : decode cX12_scrip 2 = .ok (.invokevirtual 241, 3) := by decide +kernel
theorem dX12_scrip_5 : decode cX12_scrip 5 = .ok (.ifCond .eq 10, 3) := by decide +kernel
theorem dX12_scrip_8 : decode cX12_scrip 8 = .ok (.iload_n 2, 1) := by decide +kernel
theorem dX12_scrip_9 : decode cX12_scrip 9 = .ok (.invokestatic 69, 3) := by decide +kernel
theorem dX12_scrip_12 : decode cX12_scrip 12 = .ok (.ifCond .ne 5, 3) := by decide +kernel
theorem dX12_scrip_15 : decode cX12_scrip 15 = .ok (.iconst (-1), 1) := by decide +kernel
theorem dX12_scrip_16 : decode cX12_scrip 16 = .ok (.ireturn, 1) := by decide +kernel
theorem dX12_scrip_17 : decode cX12_scrip 17 = .ok (.iload_n 3, 1) := by decide +kernel
theorem dX12_scrip_18 : decode cX12_scrip 18 = .ok (.iconst 1, 1) := by decide +kernel
theorem dX12_scrip_19 : decode cX12_scrip 19 = .ok (.bipush 99, 2) := by decide +kernel
theorem dX12_scrip_21 : decode cX12_scrip 21 = .ok (.invokestatic 58, 3) := by decide +kernel
theorem dX12_scrip_24 : decode cX12_scrip 24 = .ok (.ifCond .ne 6, 3) := by decide +kernel
theorem dX12_scrip_27 : decode cX12_scrip 27 = .ok (.bipush (-2), 2) := by decide +kernel
theorem dX12_scrip_29 : decode cX12_scrip 29 = .ok (.ireturn, 1) := by decide +kernel
theorem dX12_scrip_30 : decode cX12_scrip 30 = .ok (.aload_n 0, 1) := by decide +kernel
theorem dX12_scrip_31 : decode cX12_scrip 31 = .ok (.iload_n 1, 1) := by decide +kernel
theorem dX12_scrip_32 : decode cX12_scrip 32 = .ok (.invokevirtual 244, 3) := by decide +kernel
theorem dX12_scrip_35 : decode cX12_scrip 35 = .ok (.ifCond .ne 19, 3) := by decide +kernel
theorem dX12_scrip_38 : decode cX12_scrip 38 = .ok (.aload_n 0, 1) := by decide +kernel
theorem dX12_scrip_39 : decode cX12_scrip 39 = .ok (.getfield 8, 3) := by decide +kernel
theorem dX12_scrip_42 : decode cX12_scrip 42 = .ok (.aload_n 0, 1) := by decide +kernel
theorem dX12_scrip_43 : decode cX12_scrip 43 = .ok (.iload_n 1, 1) := by decide +kernel
theorem dX12_scrip_44 : decode cX12_scrip 44 = .ok (.bipush 8, 2) := by decide +kernel
theorem dX12_scrip_46 : decode cX12_scrip 46 = .ok (.invokevirtual 247, 3) := by decide +kernel
theorem dX12_scrip_49 : decode cX12_scrip 49 = .ok (.iaload, 1) := by decide +kernel
theorem dX12_scrip_50 : decode cX12_scrip 50 = .ok (.iload_n 3, 1) := by decide +kernel
theorem dX12_scrip_51 : decode cX12_scrip 51 = .ok (.if_icmp .ge 6, 3) := by decide +kernel
theorem dX12_scrip_54 : decode cX12_scrip 54 = .ok (.bipush (-3), 2) := by decide +kernel
theorem dX12_scrip_56 : decode cX12_scrip 56 = .ok (.ireturn, 1) := by decide +kernel
theorem dX12_scrip_57 : decode cX12_scrip 57 = .ok (.aload_n 0, 1) := by decide +kernel
theorem dX12_scrip_58 : decode cX12_scrip 58 = .ok (.getfield 8, 3) := by decide +kernel
theorem dX12_scrip_61 : decode cX12_scrip 61 = .ok (.aload_n 0, 1) := by decide +kernel
theorem dX12_scrip_62 : decode cX12_scrip 62 = .ok (.iload_n 1, 1) := by decide +kernel
theorem dX12_scrip_63 : decode cX12_scrip 63 = .ok (.bipush 8, 2) := by decide +kernel
theorem dX12_scrip_65 : decode cX12_scrip 65 = .ok (.invokevirtual 247, 3) := by decide +kernel
theorem dX12_scrip_68 : decode cX12_scrip 68 = .ok (.dup2, 1) := by decide +kernel
theorem dX12_scrip_69 : decode cX12_scrip 69 = .ok (.iaload, 1) := by decide +kernel
theorem dX12_scrip_70 : decode cX12_scrip 70 = .ok (.iload_n 3, 1) := by decide +kernel
theorem dX12_scrip_71 : decode cX12_scrip 71 = .ok (.isub, 1) := by decide +kernel
theorem dX12_scrip_72 : decode cX12_scrip 72 = .ok (.iastore, 1) := by decide +kernel
theorem dX12_scrip_73 : decode cX12_scrip 73 = .ok (.aload_n 0, 1) := by decide +kernel
theorem dX12_scrip_74 : decode cX12_scrip 74 = .ok (.getfield 8, 3) := by decide +kernel
theorem dX12_scrip_77 : decode cX12_scrip 77 = .ok (.aload_n 0, 1) := by decide +kernel
theorem dX12_scrip_78 : decode cX12_scrip 78 = .ok (.iload_n 1, 1) := by decide +kernel
theorem dX12_scrip_79 : decode cX12_scrip 79 = .ok (.iload_n 2, 1) := by decide +kernel
theorem dX12_scrip_80 : decode cX12_scrip 80 = .ok (.invokevirtual 247, 3) := by decide +kernel
theorem dX12_scrip_83 : decode cX12_scrip 83 = .ok (.dup2, 1) := by decide +kernel
theorem dX12_scrip_84 : decode cX12_scrip 84 = .ok (.iaload, 1) := by decide +kernel
theorem dX12_scrip_85 : decode cX12_scrip 85 = .ok (.iload_n 3, 1) := by decide +kernel
theorem dX12_scrip_86 : decode cX12_scrip 86 = .ok (.iadd, 1) := by decide +kernel
theorem dX12_scrip_87 : decode cX12_scrip 87 = .ok (.iastore, 1) := by decide +kernel
theorem dX12_scrip_88 : decode cX12_scrip 88 = .ok (.aload_n 0, 1) := by decide +kernel
theorem dX12_scrip_89 : decode cX12_scrip 89 = .ok (.getfield 8, 3) := by decide +kernel
theorem dX12_scrip_92 : decode cX12_scrip 92 = .ok (.aload_n 0, 1) := by decide +kernel
theorem dX12_scrip_93 : decode cX12_scrip 93 = .ok (.iload_n 1, 1) := by decide +kernel
theorem dX12_scrip_94 : decode cX12_scrip 94 = .ok (.iload_n 2, 1) := by decide +kernel
theorem dX12_scrip_95 : decode cX12_scrip 95 = .ok (.invokevirtual 247, 3) := by decide +kernel
theorem dX12_scrip_98 : decode cX12_scrip 98 = .ok (.iaload, 1) := by decide +kernel
theorem dX12_scrip_99 : decode cX12_scrip 99 = .ok (.ireturn, 1) := by decide +kernel
theorem dX12_held_0 : decode cX12_held 0 = .ok (.aload_n 0, 1) := by decide +kernel
theorem dX12_held_1 : decode cX12_held 1 = .ok (.iload_n 1, 1) := by decide +kernel
theorem dX12_held_2 : decode cX12_held 2 = .ok (.invokevirtual 241, 3) := by decide +kernel
theorem dX12_held_5 : decode cX12_held 5 = .ok (.ifCond .eq 27, 3) := by decide +kernel
theorem dX12_held_8 : decode cX12_held 8 = .ok (.iload_n 2, 1) := by decide +kernel
theorem dX12_held_9 : decode cX12_held 9 = .ok (.iconst 0, 1) := by decide +kernel
theorem dX12_held_10 : decode cX12_held 10 = .ok (.bipush 8, 2) := by decide +kernel
theorem dX12_held_12 : decode cX12_held 12 = .ok (.invokestatic 58, 3) := by decide +kernel
theorem dX12_held_15 : decode cX12_held 15 = .ok (.ifCond .eq 17, 3) := by decide +kernel
theorem dX12_held_18 : decode cX12_held 18 = .ok (.aload_n 0, 1) := by decide +kernel
theorem dX12_held_19 : decode cX12_held 19 = .ok (.getfield 8, 3) := by decide +kernel
theorem dX12_held_22 : decode cX12_held 22 = .ok (.aload_n 0, 1) := by decide +kernel
theorem dX12_held_23 : decode cX12_held 23 = .ok (.iload_n 1, 1) := by decide +kernel
theorem dX12_held_24 : decode cX12_held 24 = .ok (.iload_n 2, 1) := by decide +kernel
theorem dX12_held_25 : decode cX12_held 25 = .ok (.invokevirtual 247, 3) := by decide +kernel
theorem dX12_held_28 : decode cX12_held 28 = .ok (.iaload, 1) := by decide +kernel
theorem dX12_held_29 : decode cX12_held 29 = .ok (.goto 4, 3) := by decide +kernel
theorem dX12_held_32 : decode cX12_held 32 = .ok (.iconst (-1), 1) := by decide +kernel
theorem dX12_held_33 : decode cX12_held 33 = .ok (.ireturn, 1) := by decide +kernel
theorem dX12_purse_0 : decode cX12_purse 0 = .ok (.iload_n 1, 1) := by decide +kernel
theorem dX12_purse_1 : decode cX12_purse 1 = .ok (.ifCond .ne 25, 3) := by decide +kernel
theorem dX12_purse_4 : decode cX12_purse 4 = .ok (.iload_n 2, 1) := by decide +kernel
theorem dX12_purse_5 : decode cX12_purse 5 = .ok (.invokestatic 69, 3) := by decide +kernel
theorem dX12_purse_8 : decode cX12_purse 8 = .ok (.ifCond .eq 16, 3) := by decide +kernel
theorem dX12_purse_11 : decode cX12_purse 11 = .ok (.aload_n 0, 1) := by decide +kernel
theorem dX12_purse_12 : decode cX12_purse 12 = .ok (.getfield 8, 3) := by decide +kernel
theorem dX12_purse_15 : decode cX12_purse 15 = .ok (.sipush 192, 3) := by decide +kernel
theorem dX12_purse_18 : decode cX12_purse 18 = .ok (.iload_n 2, 1) := by decide +kernel
theorem dX12_purse_19 : decode cX12_purse 19 = .ok (.iadd, 1) := by decide +kernel
theorem dX12_purse_20 : decode cX12_purse 20 = .ok (.iaload, 1) := by decide +kernel
theorem dX12_purse_21 : decode cX12_purse 21 = .ok (.goto 4, 3) := by decide +kernel
theorem dX12_purse_24 : decode cX12_purse 24 = .ok (.iconst (-1), 1) := by decide +kernel
theorem dX12_purse_25 : decode cX12_purse 25 = .ok (.ireturn, 1) := by decide +kernel
theorem dX12_purse_26 : decode cX12_purse 26 = .ok (.iload_n 1, 1) := by decide +kernel
theorem dX12_purse_27 : decode cX12_purse 27 = .ok (.iconst 1, 1) := by decide +kernel
theorem dX12_purse_28 : decode cX12_purse 28 = .ok (.if_icmp .ne 28, 3) := by decide +kernel
theorem dX12_purse_31 : decode cX12_purse 31 = .ok (.aload_n 0, 1) := by decide +kernel
theorem dX12_purse_32 : decode cX12_purse 32 = .ok (.iload_n 2, 1) := by decide +kernel
theorem dX12_purse_33 : decode cX12_purse 33 = .ok (.invokevirtual 241, 3) := by decide +kernel
theorem dX12_purse_36 : decode cX12_purse 36 = .ok (.ifCond .eq 20, 3) := by decide +kernel
theorem dX12_purse_39 : decode cX12_purse 39 = .ok (.aload_n 0, 1) := by decide +kernel
theorem dX12_purse_40 : decode cX12_purse 40 = .ok (.getfield 8, 3) := by decide +kernel
theorem dX12_purse_43 : decode cX12_purse 43 = .ok (.sipush 11502, 3) := by decide +kernel
theorem dX12_purse_46 : decode cX12_purse 46 = .ok (.aload_n 0, 1) := by decide +kernel
theorem dX12_purse_47 : decode cX12_purse 47 = .ok (.iload_n 2, 1) := by decide +kernel
theorem dX12_purse_48 : decode cX12_purse 48 = .ok (.invokevirtual 238, 3) := by decide +kernel
theorem dX12_purse_51 : decode cX12_purse 51 = .ok (.iadd, 1) := by decide +kernel
theorem dX12_purse_52 : decode cX12_purse 52 = .ok (.iaload, 1) := by decide +kernel
theorem dX12_purse_53 : decode cX12_purse 53 = .ok (.goto 4, 3) := by decide +kernel
theorem dX12_purse_56 : decode cX12_purse 56 = .ok (.iconst (-1), 1) := by decide +kernel
theorem dX12_purse_57 : decode cX12_purse 57 = .ok (.ireturn, 1) := by decide +kernel
theorem dX12_ask_0 : decode cX12_ask 0 = .ok (.aload_n 0, 1) := by decide +kernel
theorem dX12_ask_1 : decode cX12_ask 1 = .ok (.iload_n 1, 1) := by decide +kernel
theorem dX12_ask_2 : decode cX12_ask 2 = .ok (.invokevirtual 241, 3) := by decide +kernel
theorem dX12_ask_5 : decode cX12_ask 5 = .ok (.ifCond .eq 10, 3) := by decide +kernel
