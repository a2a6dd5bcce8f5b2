theorem dX6_order_2 : decode cX6_order 2 = .ok (.getfield 30, 3) := by decide +kernel
theorem dX6_order_5 : decode cX6_order 5 = .ok (.ishl, 1) := by decide +kernel
theorem dX6_order_6 : decode cX6_order 6 = .ok (.iconst 1, 1) := by decide +kernel
theorem dX6_order_7 : decode cX6_order 7 = .ok (.isub, 1) := by decide +kernel
theorem dX6_order_8 : decode cX6_order 8 = .ok (.istore_n 2, 1) := by decide +kernel
theorem dX6_order_9 : decode cX6_order 9 = .ok (.aload_n 0, 1) := by decide +kernel
theorem dX6_order_10 : decode cX6_order 10 = .ok (.iload_n 2, 1) := by decide +kernel
theorem dX6_order_11 : decode cX6_order 11 = .ok (.iconst 0, 1) := by decide +kernel
theorem dX6_order_12 : decode cX6_order 12 = .ok (.iconst 0, 1) := by decide +kernel
theorem dX6_order_13 : decode cX6_order 13 = .ok (.iload_n 1, 1) := by decide +kernel
theorem dX6_order_14 : decode cX6_order 14 = .ok (.invokevirtual 34, 3) := by decide +kernel
theorem dX6_order_17 : decode cX6_order 17 = .ok (.istore_n 3, 1) := by decide +kernel
theorem dX6_order_18 : decode cX6_order 18 = .ok (.iconst 0, 1) := by decide +kernel
theorem dX6_order_19 : decode cX6_order 19 = .ok (.istore 4, 2) := by decide +kernel
theorem dX6_order_21 : decode cX6_order 21 = .ok (.iconst 0, 1) := by decide +kernel
theorem dX6_order_22 : decode cX6_order 22 = .ok (.istore 5, 2) := by decide +kernel
theorem dX6_order_24 : decode cX6_order 24 = .ok (.iconst 0, 1) := by decide +kernel
theorem dX6_order_25 : decode cX6_order 25 = .ok (.istore 6, 2) := by decide +kernel
theorem dX6_order_27 : decode cX6_order 27 = .ok (.iload 6, 2) := by decide +kernel
theorem dX6_order_29 : decode cX6_order 29 = .ok (.iload_n 3, 1) := by decide +kernel
theorem dX6_order_30 : decode cX6_order 30 = .ok (.if_icmp .ge 81, 3) := by decide +kernel
theorem dX6_order_33 : decode cX6_order 33 = .ok (.aload_n 0, 1) := by decide +kernel
theorem dX6_order_34 : decode cX6_order 34 = .ok (.iload_n 2, 1) := by decide +kernel
theorem dX6_order_35 : decode cX6_order 35 = .ok (.iload 4, 2) := by decide +kernel
theorem dX6_order_37 : decode cX6_order 37 = .ok (.iload 5, 2) := by decide +kernel
theorem dX6_order_39 : decode cX6_order 39 = .ok (.iload_n 1, 1) := by decide +kernel
theorem dX6_order_40 : decode cX6_order 40 = .ok (.iload_n 3, 1) := by decide +kernel
theorem dX6_order_41 : decode cX6_order 41 = .ok (.iload 6, 2) := by decide +kernel
theorem dX6_order_43 : decode cX6_order 43 = .ok (.isub, 1) := by decide +kernel
theorem dX6_order_44 : decode cX6_order 44 = .ok (.invokevirtual 38, 3) := by decide +kernel
theorem dX6_order_47 : decode cX6_order 47 = .ok (.istore 7, 2) := by decide +kernel
theorem dX6_order_49 : decode cX6_order 49 = .ok (.iload 7, 2) := by decide +kernel
theorem dX6_order_51 : decode cX6_order 51 = .ok (.iconst (-1), 1) := by decide +kernel
theorem dX6_order_52 : decode cX6_order 52 = .ok (.if_icmp .ne 6, 3) := by decide +kernel
theorem dX6_order_55 : decode cX6_order 55 = .ok (.iload 6, 2) := by decide +kernel
theorem dX6_order_57 : decode cX6_order 57 = .ok (.ireturn, 1) := by decide +kernel
theorem dX6_order_58 : decode cX6_order 58 = .ok (.aload_n 0, 1) := by decide +kernel
theorem dX6_order_59 : decode cX6_order 59 = .ok (.getfield 18, 3) := by decide +kernel
theorem dX6_order_62 : decode cX6_order 62 = .ok (.iload 6, 2) := by decide +kernel
theorem dX6_order_64 : decode cX6_order 64 = .ok (.iload 7, 2) := by decide +kernel
theorem dX6_order_66 : decode cX6_order 66 = .ok (.iastore, 1) := by decide +kernel
theorem dX6_order_67 : decode cX6_order 67 = .ok (.iload_n 2, 1) := by decide +kernel
theorem dX6_order_68 : decode cX6_order 68 = .ok (.iconst 1, 1) := by decide +kernel
theorem dX6_order_69 : decode cX6_order 69 = .ok (.iload 7, 2) := by decide +kernel
theorem dX6_order_71 : decode cX6_order 71 = .ok (.ishl, 1) := by decide +kernel
theorem dX6_order_72 : decode cX6_order 72 = .ok (.iconst (-1), 1) := by decide +kernel
theorem dX6_order_73 : decode cX6_order 73 = .ok (.ixor, 1) := by decide +kernel
theorem dX6_order_74 : decode cX6_order 74 = .ok (.iand, 1) := by decide +kernel
theorem dX6_order_75 : decode cX6_order 75 = .ok (.istore_n 2, 1) := by decide +kernel
theorem dX6_order_76 : decode cX6_order 76 = .ok (.iload 4, 2) := by decide +kernel
theorem dX6_order_78 : decode cX6_order 78 = .ok (.aload_n 0, 1) := by decide +kernel
theorem dX6_order_79 : decode cX6_order 79 = .ok (.getfield 9, 3) := by decide +kernel
theorem dX6_order_82 : decode cX6_order 82 = .ok (.iload 7, 2) := by decide +kernel
theorem dX6_order_84 : decode cX6_order 84 = .ok (.iaload, 1) := by decide +kernel
theorem dX6_order_85 : decode cX6_order 85 = .ok (.iadd, 1) := by decide +kernel
theorem dX6_order_86 : decode cX6_order 86 = .ok (.istore 4, 2) := by decide +kernel
theorem dX6_order_88 : decode cX6_order 88 = .ok (.iload 4, 2) := by decide +kernel
theorem dX6_order_90 : decode cX6_order 90 = .ok (.iload 5, 2) := by decide +kernel
theorem dX6_order_92 : decode cX6_order 92 = .ok (.invokestatic 42, 3) := by decide +kernel
theorem dX6_order_95 : decode cX6_order 95 = .ok (.aload_n 0, 1) := by decide +kernel
theorem dX6_order_96 : decode cX6_order 96 = .ok (.getfield 15, 3) := by decide +kernel
theorem dX6_order_99 : decode cX6_order 99 = .ok (.iload 7, 2) := by decide +kernel
theorem dX6_order_101 : decode cX6_order 101 = .ok (.iaload, 1) := by decide +kernel
theorem dX6_order_102 : decode cX6_order 102 = .ok (.iadd, 1) := by decide +kernel
theorem dX6_order_103 : decode cX6_order 103 = .ok (.istore 5, 2) := by decide +kernel
theorem dX6_order_105 : decode cX6_order 105 = .ok (.iinc 6 1, 3) := by decide +kernel
theorem dX6_order_108 : decode cX6_order 108 = .ok (.goto (-81), 3) := by decide +kernel
theorem dX6_order_111 : decode cX6_order 111 = .ok (.iload_n 3, 1) := by decide +kernel
theorem dX6_order_112 : decode cX6_order 112 = .ok (.ireturn, 1) := by decide +kernel
theorem dX6_leastNext_0 : decode cX6_leastNext 0 = .ok (.iconst 0, 1) := by decide +kernel
theorem dX6_leastNext_1 : decode cX6_leastNext 1 = .ok (.istore 6, 2) := by decide +kernel
theorem dX6_leastNext_3 : decode cX6_leastNext 3 = .ok (.iload 6, 2) := by decide +kernel
theorem dX6_leastNext_5 : decode cX6_leastNext 5 = .ok (.aload_n 0, 1) := by decide +kernel
theorem dX6_leastNext_6 : decode cX6_leastNext 6 = .ok (.getfield 30, 3) := by decide +kernel
theorem dX6_leastNext_9 : decode cX6_leastNext 9 = .ok (.if_icmp .ge 83, 3) := by decide +kernel
theorem dX6_leastNext_12 : decode cX6_leastNext 12 = .ok (.iload_n 1, 1) := by decide +kernel
theorem dX6_leastNext_13 : decode cX6_leastNext 13 = .ok (.iload 6, 2) := by decide +kernel
theorem dX6_leastNext_15 : decode cX6_leastNext 15 = .ok (.ishr, 1) := by decide +kernel
theorem dX6_leastNext_16 : decode cX6_leastNext 16 = .ok (.iconst 1, 1) := by decide +kernel
theorem dX6_leastNext_17 : decode cX6_leastNext 17 = .ok (.iand, 1) := by decide +kernel
theorem dX6_leastNext_18 : decode cX6_leastNext 18 = .ok (.ifCond .ne 6, 3) := by decide +kernel
theorem dX6_leastNext_21 : decode cX6_leastNext 21 = .ok (.goto 65, 3) := by decide +kernel
theorem dX6_leastNext_24 : decode cX6_leastNext 24 = .ok (.iload_n 2, 1) := by decide +kernel
theorem dX6_leastNext_25 : decode cX6_leastNext 25 = .ok (.aload_n 0, 1) := by decide +kernel
theorem dX6_leastNext_26 : decode cX6_leastNext 26 = .ok (.getfield 9, 3) := by decide +kernel
theorem dX6_leastNext_29 : decode cX6_leastNext 29 = .ok (.iload 6, 2) := by decide +kernel
theorem dX6_leastNext_31 : decode cX6_leastNext 31 = .ok (.iaload, 1) := by decide +kernel
theorem dX6_leastNext_32 : decode cX6_leastNext 32 = .ok (.iadd, 1) := by decide +kernel
theorem dX6_leastNext_33 : decode cX6_leastNext 33 = .ok (.istore 7, 2) := by decide +kernel
theorem dX6_leastNext_35 : decode cX6_leastNext 35 = .ok (.iload 7, 2) := by decide +kernel
theorem dX6_leastNext_37 : decode cX6_leastNext 37 = .ok (.iload_n 3, 1) := by decide +kernel
theorem dX6_leastNext_38 : decode cX6_leastNext 38 = .ok (.invokestatic 42, 3) := by decide +kernel
theorem dX6_leastNext_41 : decode cX6_leastNext 41 = .ok (.aload_n 0, 1) := by decide +kernel
theorem dX6_leastNext_42 : decode cX6_leastNext 42 = .ok (.getfield 15, 3) := by decide +kernel
theorem dX6_leastNext_45 : decode cX6_leastNext 45 = .ok (.iload 6, 2) := by decide +kernel
theorem dX6_leastNext_47 : decode cX6_leastNext 47 = .ok (.iaload, 1) := by decide +kernel
theorem dX6_leastNext_48 : decode cX6_leastNext 48 = .ok (.iadd, 1) := by decide +kernel
theorem dX6_leastNext_49 : decode cX6_leastNext 49 = .ok (.istore 8, 2) := by decide +kernel
theorem dX6_leastNext_51 : decode cX6_leastNext 51 = .ok (.iload 8, 2) := by decide +kernel
theorem dX6_leastNext_53 : decode cX6_leastNext 53 = .ok (.iload 4, 2) := by decide +kernel
theorem dX6_leastNext_55 : decode cX6_leastNext 55 = .ok (.if_icmp .gt 31, 3) := by decide +kernel
theorem dX6_leastNext_58 : decode cX6_leastNext 58 = .ok (.aload_n 0, 1) := by decide +kernel
theorem dX6_leastNext_59 : decode cX6_leastNext 59 = .ok (.iload_n 1, 1) := by decide +kernel
theorem dX6_leastNext_60 : decode cX6_leastNext 60 = .ok (.iconst 1, 1) := by decide +kernel
theorem dX6_leastNext_61 : decode cX6_leastNext 61 = .ok (.iload 6, 2) := by decide +kernel
theorem dX6_leastNext_63 : decode cX6_leastNext 63 = .ok (.ishl, 1) := by decide +kernel
theorem dX6_leastNext_64 : decode cX6_leastNext 64 = .ok (.iconst (-1), 1) := by decide +kernel
theorem dX6_leastNext_65 : decode cX6_leastNext 65 = .ok (.ixor, 1) := by decide +kernel
theorem dX6_leastNext_66 : decode cX6_leastNext 66 = .ok (.iand, 1) := by decide +kernel
theorem dX6_leastNext_67 : decode cX6_leastNext 67 = .ok (.iload 7, 2) := by decide +kernel
theorem dX6_leastNext_69 : decode cX6_leastNext 69 = .ok (.iload 8, 2) := by decide +kernel
theorem dX6_leastNext_71 : decode cX6_leastNext 71 = .ok (.iload 4, 2) := by decide +kernel
theorem dX6_leastNext_73 : decode cX6_leastNext 73 = .ok (.invokevirtual 34, 3) := by decide +kernel
theorem dX6_leastNext_76 : decode cX6_leastNext 76 = .ok (.iload 5, 2) := by decide +kernel
theorem dX6_leastNext_78 : decode cX6_leastNext 78 = .ok (.iconst 1, 1) := by decide +kernel
theorem dX6_leastNext_79 : decode cX6_leastNext 79 = .ok (.isub, 1) := by decide +kernel
theorem dX6_leastNext_80 : decode cX6_leastNext 80 = .ok (.if_icmp .lt 6, 3) := by decide +kernel
theorem dX6_leastNext_83 : decode cX6_leastNext 83 = .ok (.iload 6, 2) := by decide +kernel
theorem dX6_leastNext_85 : decode cX6_leastNext 85 = .ok (.ireturn, 1) := by decide +kernel
theorem dX6_leastNext_86 : decode cX6_leastNext 86 = .ok (.iinc 6 1, 3) := by decide +kernel
theorem dX6_leastNext_89 : decode cX6_leastNext 89 = .ok (.goto (-86), 3) := by decide +kernel
theorem dX6_leastNext_92 : decode cX6_leastNext 92 = .ok (.iconst (-1), 1) := by decide +kernel
theorem dX6_leastNext_93 : decode cX6_leastNext 93 = .ok (.ireturn, 1) := by decide +kernel
theorem dX6_most_0 : decode cX6_most 0 = .ok (.iconst 0, 1) := by decide +kernel
theorem dX6_most_1 : decode cX6_most 1 = .ok (.istore 5, 2) := by decide +kernel
theorem dX6_most_3 : decode cX6_most 3 = .ok (.aload_n 0, 1) := by decide +kernel
theorem dX6_most_4 : decode cX6_most 4 = .ok (.getfield 21, 3) := by decide +kernel
theorem dX6_most_7 : decode cX6_most 7 = .ok (.iconst 0, 1) := by decide +kernel
theorem dX6_most_8 : decode cX6_most 8 = .ok (.iload_n 3, 1) := by decide +kernel
theorem dX6_most_9 : decode cX6_most 9 = .ok (.iastore, 1) := by decide +kernel
theorem dX6_most_10 : decode cX6_most 10 = .ok (.iconst 1, 1) := by decide +kernel
theorem dX6_most_11 : decode cX6_most 11 = .ok (.istore 6, 2) := by decide +kernel
theorem dX6_most_13 : decode cX6_most 13 = .ok (.iload 6, 2) := by decide +kernel
theorem dX6_most_15 : decode cX6_most 15 = .ok (.iconst 1, 1) := by decide +kernel
theorem dX6_most_16 : decode cX6_most 16 = .ok (.aload_n 0, 1) := by decide +kernel
theorem dX6_most_17 : decode cX6_most 17 = .ok (.getfield 30, 3) := by decide +kernel
theorem dX6_most_20 : decode cX6_most 20 = .ok (.ishl, 1) := by decide +kernel
theorem dX6_most_21 : decode cX6_most 21 = .ok (.if_icmp .ge 59, 3) := by decide +kernel
theorem dX6_most_24 : decode cX6_most 24 = .ok (.iload 6, 2) := by decide +kernel
theorem dX6_most_26 : decode cX6_most 26 = .ok (.iload_n 1, 1) := by decide +kernel
theorem dX6_most_27 : decode cX6_most 27 = .ok (.iconst (-1), 1) := by decide +kernel
theorem dX6_most_28 : decode cX6_most 28 = .ok (.ixor, 1) := by decide +kernel
theorem dX6_most_29 : decode cX6_most 29 = .ok (.iand, 1) := by decide +kernel
theorem dX6_most_30 : decode cX6_most 30 = .ok (.ifCond .eq 6, 3) := by decide +kernel
theorem dX6_most_33 : decode cX6_most 33 = .ok (.goto 41, 3) := by decide +kernel
theorem dX6_most_36 : decode cX6_most 36 = .ok (.aload_n 0, 1) := by decide +kernel
theorem dX6_most_37 : decode cX6_most 37 = .ok (.getfield 21, 3) := by decide +kernel
theorem dX6_most_40 : decode cX6_most 40 = .ok (.iload 6, 2) := by decide +kernel
theorem dX6_most_42 : decode cX6_most 42 = .ok (.aload_n 0, 1) := by decide +kernel
theorem dX6_most_43 : decode cX6_most 43 = .ok (.iload 6, 2) := by decide +kernel
theorem dX6_most_45 : decode cX6_most 45 = .ok (.iload_n 2, 1) := by decide +kernel
theorem dX6_most_46 : decode cX6_most 46 = .ok (.invokevirtual 48, 3) := by decide +kernel
theorem dX6_most_49 : decode cX6_most 49 = .ok (.iastore, 1) := by decide +kernel
theorem dX6_most_50 : decode cX6_most 50 = .ok (.aload_n 0, 1) := by decide +kernel
theorem dX6_most_51 : decode cX6_most 51 = .ok (.getfield 21, 3) := by decide +kernel
theorem dX6_most_54 : decode cX6_most 54 = .ok (.iload 6, 2) := by decide +kernel
theorem dX6_most_56 : decode cX6_most 56 = .ok (.iaload, 1) := by decide +kernel
theorem dX6_most_57 : decode cX6_most 57 = .ok (.iload 4, 2) := by decide +kernel
theorem dX6_most_59 : decode cX6_most 59 = .ok (.if_icmp .gt 15, 3) := by decide +kernel
theorem dX6_most_62 : decode cX6_most 62 = .ok (.iload 5, 2) := by decide +kernel
theorem dX6_most_64 : decode cX6_most 64 = .ok (.iload 6, 2) := by decide +kernel
theorem dX6_most_66 : decode cX6_most 66 = .ok (.invokestatic 51, 3) := by decide +kernel
theorem dX6_most_69 : decode cX6_most 69 = .ok (.invokestatic 42, 3) := by decide +kernel
theorem dX6_most_72 : decode cX6_most 72 = .ok (.istore 5, 2) := by decide +kernel
theorem dX6_most_74 : decode cX6_most 74 = .ok (.iinc 6 1, 3) := by decide +kernel
theorem dX6_most_77 : decode cX6_most 77 = .ok (.goto (-64), 3) := by decide +kernel
theorem dX6_most_80 : decode cX6_most 80 = .ok (.iload 5, 2) := by decide +kernel
theorem dX6_most_82 : decode cX6_most 82 = .ok (.ireturn, 1) := by decide +kernel
theorem dX6_readyHour_0 : decode cX6_readyHour 0 = .ok (.iload_n 2, 1) := by decide +kernel
theorem dX6_readyHour_1 : decode cX6_readyHour 1 = .ok (.istore_n 3, 1) := by decide +kernel
theorem dX6_readyHour_2 : decode cX6_readyHour 2 = .ok (.iconst 0, 1) := by decide +kernel
theorem dX6_readyHour_3 : decode cX6_readyHour 3 = .ok (.istore 4, 2) := by decide +kernel
theorem dX6_readyHour_5 : decode cX6_readyHour 5 = .ok (.iload 4, 2) := by decide +kernel
theorem dX6_readyHour_7 : decode cX6_readyHour 7 = .ok (.aload_n 0, 1) := by decide +kernel
theorem dX6_readyHour_8 : decode cX6_readyHour 8 = .ok (.getfield 30, 3) := by decide +kernel
theorem dX6_readyHour_11 : decode cX6_readyHour 11 = .ok (.if_icmp .ge 28, 3) := by decide +kernel
theorem dX6_readyHour_14 : decode cX6_readyHour 14 = .ok (.iload_n 1, 1) := by decide +kernel
theorem dX6_readyHour_15 : decode cX6_readyHour 15 = .ok (.iload 4, 2) := by decide +kernel
theorem dX6_readyHour_17 : decode cX6_readyHour 17 = .ok (.ishr, 1) := by decide +kernel
theorem dX6_readyHour_18 : decode cX6_readyHour 18 = .ok (.iconst 1, 1) := by decide +kernel
theorem dX6_readyHour_19 : decode cX6_readyHour 19 = .ok (.iand, 1) := by decide +kernel
theorem dX6_readyHour_20 : decode cX6_readyHour 20 = .ok (.ifCond .eq 13, 3) := by decide +kernel
theorem dX6_readyHour_23 : decode cX6_readyHour 23 = .ok (.iload_n 3, 1) := by decide +kernel
theorem dX6_readyHour_24 : decode cX6_readyHour 24 = .ok (.aload_n 0, 1) := by decide +kernel
theorem dX6_readyHour_25 : decode cX6_readyHour 25 = .ok (.getfield 9, 3) := by decide +kernel
theorem dX6_readyHour_28 : decode cX6_readyHour 28 = .ok (.iload 4, 2) := by decide +kernel
theorem dX6_readyHour_30 : decode cX6_readyHour 30 = .ok (.iaload, 1) := by decide +kernel
theorem dX6_readyHour_31 : decode cX6_readyHour 31 = .ok (.iadd, 1) := by decide +kernel
theorem dX6_readyHour_32 : decode cX6_readyHour 32 = .ok (.istore_n 3, 1) := by decide +kernel
theorem dX6_readyHour_33 : decode cX6_readyHour 33 = .ok (.iinc 4 1, 3) := by decide +kernel
theorem dX6_readyHour_36 : decode cX6_readyHour 36 = .ok (.goto (-31), 3) := by decide +kernel
theorem dX6_readyHour_39 : decode cX6_readyHour 39 = .ok (.ldc 57, 2) := by decide +kernel
theorem dX6_readyHour_41 : decode cX6_readyHour 41 = .ok (.istore 4, 2) := by decide +kernel
theorem dX6_readyHour_43 : decode cX6_readyHour 43 = .ok (.iconst 0, 1) := by decide +kernel
theorem dX6_readyHour_44 : decode cX6_readyHour 44 = .ok (.istore 5, 2) := by decide +kernel
theorem dX6_readyHour_46 : decode cX6_readyHour 46 = .ok (.iload 5, 2) := by decide +kernel
theorem dX6_readyHour_48 : decode cX6_readyHour 48 = .ok (.aload_n 0, 1) := by decide +kernel
theorem dX6_readyHour_49 : decode cX6_readyHour 49 = .ok (.getfield 30, 3) := by decide +kernel
theorem dX6_readyHour_52 : decode cX6_readyHour 52 = .ok (.if_icmp .ge 53, 3) := by decide +kernel
theorem dX6_readyHour_55 : decode cX6_readyHour 55 = .ok (.iload_n 1, 1) := by decide +kernel
theorem dX6_readyHour_56 : decode cX6_readyHour 56 = .ok (.iload 5, 2) := by decide +kernel
theorem dX6_readyHour_58 : decode cX6_readyHour 58 = .ok (.ishr, 1) := by decide +kernel
theorem dX6_readyHour_59 : decode cX6_readyHour 59 = .ok (.iconst 1, 1) := by decide +kernel
theorem dX6_readyHour_60 : decode cX6_readyHour 60 = .ok (.iand, 1) := by decide +kernel
theorem dX6_readyHour_61 : decode cX6_readyHour 61 = .ok (.ifCond .ne 6, 3) := by decide +kernel
theorem dX6_readyHour_64 : decode cX6_readyHour 64 = .ok (.goto 35, 3) := by decide +kernel
theorem dX6_readyHour_67 : decode cX6_readyHour 67 = .ok (.iload 4, 2) := by decide +kernel
theorem dX6_readyHour_69 : decode cX6_readyHour 69 = .ok (.iload_n 3, 1) := by decide +kernel
theorem dX6_readyHour_70 : decode cX6_readyHour 70 = .ok (.aload_n 0, 1) := by decide +kernel
theorem dX6_readyHour_71 : decode cX6_readyHour 71 = .ok (.getfield 21, 3) := by decide +kernel
theorem dX6_readyHour_74 : decode cX6_readyHour 74 = .ok (.iload_n 1, 1) := by decide +kernel
theorem dX6_readyHour_75 : decode cX6_readyHour 75 = .ok (.iconst 1, 1) := by decide +kernel
theorem dX6_readyHour_76 : decode cX6_readyHour 76 = .ok (.iload 5, 2) := by decide +kernel
theorem dX6_readyHour_78 : decode cX6_readyHour 78 = .ok (.ishl, 1) := by decide +kernel
theorem dX6_readyHour_79 : decode cX6_readyHour 79 = .ok (.iconst (-1), 1) := by decide +kernel
theorem dX6_readyHour_80 : decode cX6_readyHour 80 = .ok (.ixor, 1) := by decide +kernel
theorem dX6_readyHour_81 : decode cX6_readyHour 81 = .ok (.iand, 1) := by decide +kernel
theorem dX6_readyHour_82 : decode cX6_readyHour 82 = .ok (.iaload, 1) := by decide +kernel
theorem dX6_readyHour_83 : decode cX6_readyHour 83 = .ok (.invokestatic 42, 3) := by decide +kernel
theorem dX6_readyHour_86 : decode cX6_readyHour 86 = .ok (.aload_n 0, 1) := by decide +kernel
theorem dX6_readyHour_87 : decode cX6_readyHour 87 = .ok (.getfield 15, 3) := by decide +kernel
theorem dX6_readyHour_90 : decode cX6_readyHour 90 = .ok (.iload 5, 2) := by decide +kernel
theorem dX6_readyHour_92 : decode cX6_readyHour 92 = .ok (.iaload, 1) := by decide +kernel
theorem dX6_readyHour_93 : decode cX6_readyHour 93 = .ok (.iadd, 1) := by decide +kernel
theorem dX6_readyHour_94 : decode cX6_readyHour 94 = .ok (.invokestatic 58, 3) := by decide +kernel
theorem dX6_readyHour_97 : decode cX6_readyHour 97 = .ok (.istore 4, 2) := by decide +kernel
theorem dX6_readyHour_99 : decode cX6_readyHour 99 = .ok (.iinc 5 1, 3) := by decide +kernel
theorem dX6_readyHour_102 : decode cX6_readyHour 102 = .ok (.goto (-56), 3) := by decide +kernel
theorem dX6_readyHour_105 : decode cX6_readyHour 105 = .ok (.iload 4, 2) := by decide +kernel
theorem dX6_readyHour_107 : decode cX6_readyHour 107 = .ok (.ireturn, 1) := by decide +kernel
theorem dX7_init_0 : decode cX7_init 0 = .ok (.aload_n 0, 1) := by decide +kernel
theorem dX7_init_1 : decode cX7_init 1 = .ok (.invokespecial 3, 3) := by decide +kernel
theorem dX7_init_4 : decode cX7_init 4 = .ok (.aload_n 0, 1) := by decide +kernel
theorem dX7_init_5 : decode cX7_init 5 = .ok (.bipush 80, 2) := by decide +kernel
theorem dX7_init_7 : decode cX7_init 7 = .ok (.newarray .int, 2) := by decide +kernel
theorem dX7_init_9 : decode cX7_init 9 = .ok (.putfield 9, 3) := by decide +kernel
theorem dX7_init_12 : decode cX7_init 12 = .ok (.aload_n 0, 1) := by decide +kernel
theorem dX7_init_13 : decode cX7_init 13 = .ok (.bipush 80, 2) := by decide +kernel
theorem dX7_init_15 : decode cX7_init 15 = .ok (.newarray .int, 2) := by decide +kernel
theorem dX7_init_17 : decode cX7_init 17 = .ok (.putfield 15, 3) := by decide +kernel
theorem dX7_init_20 : decode cX7_init 20 = .ok (.aload_n 0, 1) := by decide +kernel
theorem dX7_init_21 : decode cX7_init 21 = .ok (.bipush 80, 2) := by decide +kernel
theorem dX7_init_23 : decode cX7_init 23 = .ok (.newarray .boolean, 2) := by decide +kernel
theorem dX7_init_25 : decode cX7_init 25 = .ok (.putfield 18, 3) := by decide +kernel
theorem dX7_init_28 : decode cX7_init 28 = .ok (.return_, 1) := by decide +kernel
theorem dX7_seek_0 : decode cX7_seek 0 = .ok (.aload_n 0, 1) := by decide +kernel
theorem dX7_seek_1 : decode cX7_seek 1 = .ok (.aload_n 1, 1) := by decide +kernel
theorem dX7_seek_2 : decode cX7_seek 2 = .ok (.getfield 22, 3) := by decide +kernel
theorem dX7_seek_5 : decode cX7_seek 5 = .ok (.getfield 28, 3) := by decide +kernel
theorem dX7_seek_8 : decode cX7_seek 8 = .ok (.iload_n 2, 1) := by decide +kernel
theorem dX7_seek_9 : decode cX7_seek 9 = .ok (.iaload, 1) := by decide +kernel
theorem dX7_seek_10 : decode cX7_seek 10 = .ok (.putfield 33, 3) := by decide +kernel
theorem dX7_seek_13 : decode cX7_seek 13 = .ok (.aload_n 0, 1) := by decide +kernel
theorem dX7_seek_14 : decode cX7_seek 14 = .ok (.aload_n 1, 1) := by decide +kernel
theorem dX7_seek_15 : decode cX7_seek 15 = .ok (.getfield 22, 3) := by decide +kernel
theorem dX7_seek_18 : decode cX7_seek 18 = .ok (.getfield 28, 3) := by decide +kernel
theorem dX7_seek_21 : decode cX7_seek 21 = .ok (.iload_n 3, 1) := by decide +kernel
theorem dX7_seek_22 : decode cX7_seek 22 = .ok (.iaload, 1) := by decide +kernel
theorem dX7_seek_23 : decode cX7_seek 23 = .ok (.putfield 37, 3) := by decide +kernel
theorem dX7_seek_26 : decode cX7_seek 26 = .ok (.aload_n 0, 1) := by decide +kernel
theorem dX7_seek_27 : decode cX7_seek 27 = .ok (.aload_n 1, 1) := by decide +kernel
theorem dX7_seek_28 : decode cX7_seek 28 = .ok (.iconst 0, 1) := by decide +kernel
theorem dX7_seek_29 : decode cX7_seek 29 = .ok (.iload 4, 2) := by decide +kernel
theorem dX7_seek_31 : decode cX7_seek 31 = .ok (.invokevirtual 40, 3) := by decide +kernel
theorem dX7_seek_34 : decode cX7_seek 34 = .ok (.putfield 44, 3) := by decide +kernel
theorem dX7_seek_37 : decode cX7_seek 37 = .ok (.aload_n 0, 1) := by decide +kernel
theorem dX7_seek_38 : decode cX7_seek 38 = .ok (.aload_n 1, 1) := by decide +kernel
theorem dX7_seek_39 : decode cX7_seek 39 = .ok (.iconst 5, 1) := by decide +kernel
theorem dX7_seek_40 : decode cX7_seek 40 = .ok (.iload 4, 2) := by decide +kernel
theorem dX7_seek_42 : decode cX7_seek 42 = .ok (.invokevirtual 40, 3) := by decide +kernel
theorem dX7_seek_45 : decode cX7_seek 45 = .ok (.iconst 1, 1) := by decide +kernel
theorem dX7_seek_46 : decode cX7_seek 46 = .ok (.if_icmp .ne 7, 3) := by decide +kernel
theorem dX7_seek_49 : decode cX7_seek 49 = .ok (.iconst 1, 1) := by decide +kernel
theorem dX7_seek_50 : decode cX7_seek 50 = .ok (.goto 4, 3) := by decide +kernel
theorem dX7_seek_53 : decode cX7_seek 53 = .ok (.iconst 0, 1) := by decide +kernel
theorem dX7_seek_54 : decode cX7_seek 54 = .ok (.putfield 47, 3) := by decide +kernel
theorem dX7_seek_57 : decode cX7_seek 57 = .ok (.aload_n 0, 1) := by decide +kernel
theorem dX7_seek_58 : decode cX7_seek 58 = .ok (.aload_n 1, 1) := by decide +kernel
theorem dX7_seek_59 : decode cX7_seek 59 = .ok (.getfield 22, 3) := by decide +kernel
theorem dX7_seek_62 : decode cX7_seek 62 = .ok (.invokevirtual 51, 3) := by decide +kernel
theorem dX7_seek_65 : decode cX7_seek 65 = .ok (.aload_n 0, 1) := by decide +kernel
theorem dX7_seek_66 : decode cX7_seek 66 = .ok (.aload_n 0, 1) := by decide +kernel
theorem dX7_seek_67 : decode cX7_seek 67 = .ok (.getfield 15, 3) := by decide +kernel
theorem dX7_seek_70 : decode cX7_seek 70 = .ok (.aload_n 0, 1) := by decide +kernel
theorem dX7_seek_71 : decode cX7_seek 71 = .ok (.getfield 33, 3) := by decide +kernel
theorem dX7_seek_74 : decode cX7_seek 74 = .ok (.iaload, 1) := by decide +kernel
theorem dX7_seek_75 : decode cX7_seek 75 = .ok (.putfield 55, 3) := by decide +kernel
theorem dX7_seek_78 : decode cX7_seek 78 = .ok (.aload_n 0, 1) := by decide +kernel
theorem dX7_seek_79 : decode cX7_seek 79 = .ok (.getfield 55, 3) := by decide +kernel
theorem dX7_seek_82 : decode cX7_seek 82 = .ok (.ldc 58, 2) := by decide +kernel
theorem dX7_seek_84 : decode cX7_seek 84 = .ok (.if_icmp .lt 5, 3) := by decide +kernel
theorem dX7_seek_87 : decode cX7_seek 87 = .ok (.iconst 0, 1) := by decide +kernel
theorem dX7_seek_88 : decode cX7_seek 88 = .ok (.ireturn, 1) := by decide +kernel
theorem dX7_seek_89 : decode cX7_seek 89 = .ok (.aload_n 0, 1) := by decide +kernel
theorem dX7_seek_90 : decode cX7_seek 90 = .ok (.aload_n 1, 1) := by decide +kernel
theorem dX7_seek_91 : decode cX7_seek 91 = .ok (.getfield 22, 3) := by decide +kernel
theorem dX7_seek_94 : decode cX7_seek 94 = .ok (.invokevirtual 59, 3) := by decide +kernel
theorem dX7_seek_97 : decode cX7_seek 97 = .ok (.iconst 1, 1) := by decide +kernel
theorem dX7_seek_98 : decode cX7_seek 98 = .ok (.ireturn, 1) := by decide +kernel
theorem dX7_measure_0 : decode cX7_measure 0 = .ok (.aload_n 0, 1) := by decide +kernel
theorem dX7_measure_1 : decode cX7_measure 1 = .ok (.getfield 15, 3) := by decide +kernel
theorem dX7_measure_4 : decode cX7_measure 4 = .ok (.ldc 58, 2) := by decide +kernel
theorem dX7_measure_6 : decode cX7_measure 6 = .ok (.invokestatic 62, 3) := by decide +kernel
theorem dX7_measure_9 : decode cX7_measure 9 = .ok (.iconst 0, 1) := by decide +kernel
theorem dX7_measure_10 : decode cX7_measure 10 = .ok (.istore_n 2, 1) := by decide +kernel
theorem dX7_measure_11 : decode cX7_measure 11 = .ok (.iload_n 2, 1) := by decide +kernel
theorem dX7_measure_12 : decode cX7_measure 12 = .ok (.bipush 80, 2) := by decide +kernel
theorem dX7_measure_14 : decode cX7_measure 14 = .ok (.if_icmp .ge 16, 3) := by decide +kernel
theorem dX7_measure_17 : decode cX7_measure 17 = .ok (.aload_n 0, 1) := by decide +kernel
theorem dX7_measure_18 : decode cX7_measure 18 = .ok (.getfield 18, 3) := by decide +kernel
theorem dX7_measure_21 : decode cX7_measure 21 = .ok (.iload_n 2, 1) := by decide +kernel
theorem dX7_measure_22 : decode cX7_measure 22 = .ok (.iconst 0, 1) := by decide +kernel
theorem dX7_measure_23 : decode cX7_measure 23 = .ok (.bastore, 1) := by decide +kernel
theorem dX7_measure_24 : decode cX7_measure 24 = .ok (.iinc 2 1, 3) := by decide +kernel
theorem dX7_measure_27 : decode cX7_measure 27 = .ok (.goto (-16), 3) := by decide +kernel
theorem dX7_measure_30 : decode cX7_measure 30 = .ok (.aload_n 0, 1) := by decide +kernel
theorem dX7_measure_31 : decode cX7_measure 31 = .ok (.getfield 15, 3) := by decide +kernel
theorem dX7_measure_34 : decode cX7_measure 34 = .ok (.aload_n 0, 1) := by decide +kernel
theorem dX7_measure_35 : decode cX7_measure 35 = .ok (.getfield 37, 3) := by decide +kernel
theorem dX7_measure_38 : decode cX7_measure 38 = .ok (.iconst 0, 1) := by decide +kernel
theorem dX7_measure_39 : decode cX7_measure 39 = .ok (.iastore, 1) := by decide +kernel
theorem dX7_measure_40 : decode cX7_measure 40 = .ok (.iconst 0, 1) := by decide +kernel
theorem dX7_measure_41 : decode cX7_measure 41 = .ok (.istore_n 2, 1) := by decide +kernel
theorem dX7_measure_42 : decode cX7_measure 42 = .ok (.iload_n 2, 1) := by decide +kernel
theorem dX7_measure_43 : decode cX7_measure 43 = .ok (.bipush 80, 2) := by decide +kernel
theorem dX7_measure_45 : decode cX7_measure 45 = .ok (.if_icmp .ge 98, 3) := by decide +kernel
theorem dX7_measure_48 : decode cX7_measure 48 = .ok (.aload_n 0, 1) := by decide +kernel
theorem dX7_measure_49 : decode cX7_measure 49 = .ok (.invokevirtual 68, 3) := by decide +kernel
theorem dX7_measure_52 : decode cX7_measure 52 = .ok (.istore_n 3, 1) := by decide +kernel
theorem dX7_measure_53 : decode cX7_measure 53 = .ok (.iload_n 3, 1) := by decide +kernel
theorem dX7_measure_54 : decode cX7_measure 54 = .ok (.iconst (-1), 1) := by decide +kernel
theorem dX7_measure_55 : decode cX7_measure 55 = .ok (.if_icmp .ne 4, 3) := by decide +kernel
theorem dX7_measure_58 : decode cX7_measure 58 = .ok (.return_, 1) := by decide +kernel
theorem dX7_measure_59 : decode cX7_measure 59 = .ok (.aload_n 0, 1) := by decide +kernel
theorem dX7_measure_60 : decode cX7_measure 60 = .ok (.getfield 18, 3) := by decide +kernel
theorem dX7_measure_63 : decode cX7_measure 63 = .ok (.iload_n 3, 1) := by decide +kernel
theorem dX7_measure_64 : decode cX7_measure 64 = .ok (.iconst 1, 1) := by decide +kernel
theorem dX7_measure_65 : decode cX7_measure 65 = .ok (.bastore, 1) := by decide +kernel
theorem dX7_measure_66 : decode cX7_measure 66 = .ok (.iconst 0, 1) := by decide +kernel
theorem dX7_measure_67 : decode cX7_measure 67 = .ok (.istore 4, 2) := by decide +kernel
theorem dX7_measure_69 : decode cX7_measure 69 = .ok (.iload 4, 2) := by decide +kernel
theorem dX7_measure_71 : decode cX7_measure 71 = .ok (.iconst 4, 1) := by decide +kernel
theorem dX7_measure_72 : decode cX7_measure 72 = .ok (.if_icmp .ge 65, 3) := by decide +kernel
theorem dX7_measure_75 : decode cX7_measure 75 = .ok (.iload_n 3, 1) := by decide +kernel
theorem dX7_measure_76 : decode cX7_measure 76 = .ok (.iload 4, 2) := by decide +kernel
theorem dX7_measure_78 : decode cX7_measure 78 = .ok (.invokestatic 72, 3) := by decide +kernel
theorem dX7_measure_81 : decode cX7_measure 81 = .ok (.istore 5, 2) := by decide +kernel
theorem dX7_measure_83 : decode cX7_measure 83 = .ok (.iload 5, 2) := by decide +kernel
theorem dX7_measure_85 : decode cX7_measure 85 = .ok (.iconst (-1), 1) := by decide +kernel
theorem dX7_measure_86 : decode cX7_measure 86 = .ok (.if_icmp .eq 45, 3) := by decide +kernel
theorem dX7_measure_89 : decode cX7_measure 89 = .ok (.aload_n 0, 1) := by decide +kernel
theorem dX7_measure_90 : decode cX7_measure 90 = .ok (.aload_n 1, 1) := by decide +kernel
theorem dX7_measure_91 : decode cX7_measure 91 = .ok (.iload 5, 2) := by decide +kernel
theorem dX7_measure_93 : decode cX7_measure 93 = .ok (.iload_n 3, 1) := by decide +kernel
theorem dX7_measure_94 : decode cX7_measure 94 = .ok (.invokevirtual 75, 3) := by decide +kernel
theorem dX7_measure_97 : decode cX7_measure 97 = .ok (.ifCond .eq 34, 3) := by decide +kernel
theorem dX7_measure_100 : decode cX7_measure 100 = .ok (.aload_n 0, 1) := by decide +kernel
theorem dX7_measure_101 : decode cX7_measure 101 = .ok (.getfield 15, 3) := by decide +kernel
theorem dX7_measure_104 : decode cX7_measure 104 = .ok (.iload 5, 2) := by decide +kernel
theorem dX7_measure_106 : decode cX7_measure 106 = .ok (.aload_n 0, 1) := by decide +kernel
theorem dX7_measure_107 : decode cX7_measure 107 = .ok (.getfield 15, 3) := by decide +kernel
theorem dX7_measure_110 : decode cX7_measure 110 = .ok (.iload 5, 2) := by decide +kernel
theorem dX7_measure_112 : decode cX7_measure 112 = .ok (.iaload, 1) := by decide +kernel
theorem dX7_measure_113 : decode cX7_measure 113 = .ok (.aload_n 0, 1) := by decide +kernel
theorem dX7_measure_114 : decode cX7_measure 114 = .ok (.getfield 15, 3) := by decide +kernel
theorem dX7_measure_117 : decode cX7_measure 117 = .ok (.iload_n 3, 1) := by decide +kernel
theorem dX7_measure_118 : decode cX7_measure 118 = .ok (.iaload, 1) := by decide +kernel
theorem dX7_measure_119 : decode cX7_measure 119 = .ok (.aload_n 1, 1) := by decide +kernel
theorem dX7_measure_120 : decode cX7_measure 120 = .ok (.iload 5, 2) := by decide +kernel
theorem dX7_measure_122 : decode cX7_measure 122 = .ok (.iload_n 3, 1) := by decide +kernel
theorem dX7_measure_123 : decode cX7_measure 123 = .ok (.invokevirtual 79, 3) := by decide +kernel
theorem dX7_measure_126 : decode cX7_measure 126 = .ok (.iadd, 1) := by decide +kernel
theorem dX7_measure_127 : decode cX7_measure 127 = .ok (.invokestatic 82, 3) := by decide +kernel
theorem dX7_measure_130 : decode cX7_measure 130 = .ok (.iastore, 1) := by decide +kernel
theorem dX7_measure_131 : decode cX7_measure 131 = .ok (.iinc 4 1, 3) := by decide +kernel
theorem dX7_measure_134 : decode cX7_measure 134 = .ok (.goto (-65), 3) := by decide +kernel
theorem dX7_measure_137 : decode cX7_measure 137 = .ok (.iinc 2 1, 3) := by decide +kernel
theorem dX7_measure_140 : decode cX7_measure 140 = .ok (.goto (-98), 3) := by decide +kernel
theorem dX7_measure_143 : decode cX7_measure 143 = .ok (.return_, 1) := by decide +kernel
theorem dX7_nearest_0 : decode cX7_nearest 0 = .ok (.iconst (-1), 1) := by decide +kernel
theorem dX7_nearest_1 : decode cX7_nearest 1 = .ok (.istore_n 1, 1) := by decide +kernel
theorem dX7_nearest_2 : decode cX7_nearest 2 = .ok (.iconst 0, 1) := by decide +kernel
theorem dX7_nearest_3 : decode cX7_nearest 3 = .ok (.istore_n 2, 1) := by decide +kernel
theorem dX7_nearest_4 : decode cX7_nearest 4 = .ok (.iload_n 2, 1) := by decide +kernel
theorem dX7_nearest_5 : decode cX7_nearest 5 = .ok (.bipush 80, 2) := by decide +kernel
theorem dX7_nearest_7 : decode cX7_nearest 7 = .ok (.if_icmp .ge 45, 3) := by decide +kernel
theorem dX7_nearest_10 : decode cX7_nearest 10 = .ok (.aload_n 0, 1) := by decide +kernel
theorem dX7_nearest_11 : decode cX7_nearest 11 = .ok (.getfield 18, 3) := by decide +kernel
theorem dX7_nearest_14 : decode cX7_nearest 14 = .ok (.iload_n 2, 1) := by decide +kernel
theorem dX7_nearest_15 : decode cX7_nearest 15 = .ok (.baload, 1) := by decide +kernel
theorem dX7_nearest_16 : decode cX7_nearest 16 = .ok (.ifCond .ne 30, 3) := by decide +kernel
theorem dX7_nearest_19 : decode cX7_nearest 19 = .ok (.aload_n 0, 1) := by decide +kernel
theorem dX7_nearest_20 : decode cX7_nearest 20 = .ok (.getfield 15, 3) := by decide +kernel
theorem dX7_nearest_23 : decode cX7_nearest 23 = .ok (.iload_n 2, 1) := by decide +kernel
theorem dX7_nearest_24 : decode cX7_nearest 24 = .ok (.iaload, 1) := by decide +kernel
theorem dX7_nearest_25 : decode cX7_nearest 25 = .ok (.iload_n 1, 1) := by decide +kernel
theorem dX7_nearest_26 : decode cX7_nearest 26 = .ok (.iconst (-1), 1) := by decide +kernel
theorem dX7_nearest_27 : decode cX7_nearest 27 = .ok (.if_icmp .ne 8, 3) := by decide +kernel
theorem dX7_nearest_30 : decode cX7_nearest 30 = .ok (.ldc 58, 2) := by decide +kernel
theorem dX7_nearest_32 : decode cX7_nearest 32 = .ok (.goto 9, 3) := by decide +kernel
theorem dX7_nearest_35 : decode cX7_nearest 35 = .ok (.aload_n 0, 1) := by decide +kernel
theorem dX7_nearest_36 : decode cX7_nearest 36 = .ok (.getfield 15, 3) := by decide +kernel
theorem dX7_nearest_39 : decode cX7_nearest 39 = .ok (.iload_n 1, 1) := by decide +kernel
theorem dX7_nearest_40 : decode cX7_nearest 40 = .ok (.iaload, 1) := by decide +kernel
theorem dX7_nearest_41 : decode cX7_nearest 41 = .ok (.if_icmp .ge 5, 3) := by decide +kernel
theorem dX7_nearest_44 : decode cX7_nearest 44 = .ok (.iload_n 2, 1) := by decide +kernel
theorem dX7_nearest_45 : decode cX7_nearest 45 = .ok (.istore_n 1, 1) := by decide +kernel
theorem dX7_nearest_46 : decode cX7_nearest 46 = .ok (.iinc 2 1, 3) := by decide +kernel
theorem dX7_nearest_49 : decode cX7_nearest 49 = .ok (.goto (-45), 3) := by decide +kernel
theorem dX7_nearest_52 : decode cX7_nearest 52 = .ok (.iload_n 1, 1) := by decide +kernel
theorem dX7_nearest_53 : decode cX7_nearest 53 = .ok (.ireturn, 1) := by decide +kernel
theorem dX7_canStep_0 : decode cX7_canStep 0 = .ok (.aload_n 0, 1) := by decide +kernel
theorem dX7_canStep_1 : decode cX7_canStep 1 = .ok (.aload_n 1, 1) := by decide +kernel
theorem dX7_canStep_2 : decode cX7_canStep 2 = .ok (.iload_n 2, 1) := by decide +kernel
theorem dX7_canStep_3 : decode cX7_canStep 3 = .ok (.invokevirtual 87, 3) := by decide +kernel
theorem dX7_canStep_6 : decode cX7_canStep 6 = .ok (.ifCond .eq 29, 3) := by decide +kernel
theorem dX7_canStep_9 : decode cX7_canStep 9 = .ok (.aload_n 0, 1) := by decide +kernel
theorem dX7_canStep_10 : decode cX7_canStep 10 = .ok (.aload_n 1, 1) := by decide +kernel
theorem dX7_canStep_11 : decode cX7_canStep 11 = .ok (.iload_n 3, 1) := by decide +kernel
theorem dX7_canStep_12 : decode cX7_canStep 12 = .ok (.invokevirtual 87, 3) := by decide +kernel
theorem dX7_canStep_15 : decode cX7_canStep 15 = .ok (.ifCond .eq 20, 3) := by decide +kernel
theorem dX7_canStep_18 : decode cX7_canStep 18 = .ok (.aload_n 1, 1) := by decide +kernel
theorem dX7_canStep_19 : decode cX7_canStep 19 = .ok (.iload_n 2, 1) := by decide +kernel
theorem dX7_canStep_20 : decode cX7_canStep 20 = .ok (.iload_n 3, 1) := by decide +kernel
theorem dX7_canStep_21 : decode cX7_canStep 21 = .ok (.invokevirtual 91, 3) := by decide +kernel
theorem dX7_canStep_24 : decode cX7_canStep 24 = .ok (.aload_n 0, 1) := by decide +kernel
theorem dX7_canStep_25 : decode cX7_canStep 25 = .ok (.getfield 44, 3) := by decide +kernel
theorem dX7_canStep_28 : decode cX7_canStep 28 = .ok (.if_icmp .gt 7, 3) := by decide +kernel
theorem dX7_canStep_31 : decode cX7_canStep 31 = .ok (.iconst 1, 1) := by decide +kernel
theorem dX7_canStep_32 : decode cX7_canStep 32 = .ok (.goto 4, 3) := by decide +kernel
theorem dX7_canStep_35 : decode cX7_canStep 35 = .ok (.iconst 0, 1) := by decide +kernel
theorem dX7_canStep_36 : decode cX7_canStep 36 = .ok (.ireturn, 1) := by decide +kernel
theorem dX7_isOpen_0 : decode cX7_isOpen 0 = .ok (.aload_n 0, 1) := by decide +kernel
theorem dX7_isOpen_1 : decode cX7_isOpen 1 = .ok (.getfield 47, 3) := by decide +kernel
theorem dX7_isOpen_4 : decode cX7_isOpen 4 = .ok (.ifCond .ne 29, 3) := by decide +kernel
theorem dX7_isOpen_7 : decode cX7_isOpen 7 = .ok (.aload_n 1, 1) := by decide +kernel
theorem dX7_isOpen_8 : decode cX7_isOpen 8 = .ok (.getfield 94, 3) := by decide +kernel
theorem dX7_isOpen_11 : decode cX7_isOpen 11 = .ok (.iload_n 2, 1) := by decide +kernel
theorem dX7_isOpen_12 : decode cX7_isOpen 12 = .ok (.iaload, 1) := by decide +kernel
theorem dX7_isOpen_13 : decode cX7_isOpen 13 = .ok (.iconst 2, 1) := by decide +kernel
theorem dX7_isOpen_14 : decode cX7_isOpen 14 = .ok (.if_icmp .ne 19, 3) := by decide +kernel
theorem dX7_isOpen_17 : decode cX7_isOpen 17 = .ok (.iload_n 2, 1) := by decide +kernel
theorem dX7_isOpen_18 : decode cX7_isOpen 18 = .ok (.aload_n 0, 1) := by decide +kernel
theorem dX7_isOpen_19 : decode cX7_isOpen 19 = .ok (.getfield 33, 3) := by decide +kernel
theorem dX7_isOpen_22 : decode cX7_isOpen 22 = .ok (.if_icmp .eq 11, 3) := by decide +kernel
theorem dX7_isOpen_25 : decode cX7_isOpen 25 = .ok (.iload_n 2, 1) := by decide +kernel
theorem dX7_isOpen_26 : decode cX7_isOpen 26 = .ok (.aload_n 0, 1) := by decide +kernel
theorem dX7_isOpen_27 : decode cX7_isOpen 27 = .ok (.getfield 37, 3) := by decide +kernel
theorem dX7_isOpen_30 : decode cX7_isOpen 30 = .ok (.if_icmp .ne 7, 3) := by decide +kernel
theorem dX7_isOpen_33 : decode cX7_isOpen 33 = .ok (.iconst 1, 1) := by decide +kernel
theorem dX7_isOpen_34 : decode cX7_isOpen 34 = .ok (.goto 4, 3) := by decide +kernel
theorem dX7_isOpen_37 : decode cX7_isOpen 37 = .ok (.iconst 0, 1) := by decide +kernel
theorem dX7_isOpen_38 : decode cX7_isOpen 38 = .ok (.ireturn, 1) := by decide +kernel
theorem dX7_walk_0 : decode cX7_walk 0 = .ok (.aload_n 0, 1) := by decide +kernel
theorem dX7_walk_1 : decode cX7_walk 1 = .ok (.getfield 9, 3) := by decide +kernel
theorem dX7_walk_4 : decode cX7_walk 4 = .ok (.iconst 0, 1) := by decide +kernel
theorem dX7_walk_5 : decode cX7_walk 5 = .ok (.aload_n 0, 1) := by decide +kernel
theorem dX7_walk_6 : decode cX7_walk 6 = .ok (.getfield 33, 3) := by decide +kernel
theorem dX7_walk_9 : decode cX7_walk 9 = .ok (.iastore, 1) := by decide +kernel
theorem dX7_walk_10 : decode cX7_walk 10 = .ok (.aload_n 0, 1) := by decide +kernel
theorem dX7_walk_11 : decode cX7_walk 11 = .ok (.iconst 1, 1) := by decide +kernel
theorem dX7_walk_12 : decode cX7_walk 12 = .ok (.putfield 97, 3) := by decide +kernel
theorem dX7_walk_15 : decode cX7_walk 15 = .ok (.iconst 1, 1) := by decide +kernel
theorem dX7_walk_16 : decode cX7_walk 16 = .ok (.istore_n 2, 1) := by decide +kernel
theorem dX7_walk_17 : decode cX7_walk 17 = .ok (.iload_n 2, 1) := by decide +kernel
theorem dX7_walk_18 : decode cX7_walk 18 = .ok (.bipush 80, 2) := by decide +kernel
theorem dX7_walk_20 : decode cX7_walk 20 = .ok (.if_icmp .ge 58, 3) := by decide +kernel
theorem dX7_walk_23 : decode cX7_walk 23 = .ok (.aload_n 0, 1) := by decide +kernel
theorem dX7_walk_24 : decode cX7_walk 24 = .ok (.getfield 9, 3) := by decide +kernel
theorem dX7_walk_27 : decode cX7_walk 27 = .ok (.iload_n 2, 1) := by decide +kernel
theorem dX7_walk_28 : decode cX7_walk 28 = .ok (.iconst 1, 1) := by decide +kernel
theorem dX7_walk_29 : decode cX7_walk 29 = .ok (.isub, 1) := by decide +kernel
theorem dX7_walk_30 : decode cX7_walk 30 = .ok (.iaload, 1) := by decide +kernel
theorem dX7_walk_31 : decode cX7_walk 31 = .ok (.aload_n 0, 1) := by decide +kernel
theorem dX7_walk_32 : decode cX7_walk 32 = .ok (.getfield 37, 3) := by decide +kernel
theorem dX7_walk_35 : decode cX7_walk 35 = .ok (.if_icmp .eq 43, 3) := by decide +kernel
theorem dX7_walk_38 : decode cX7_walk 38 = .ok (.aload_n 0, 1) := by decide +kernel
theorem dX7_walk_39 : decode cX7_walk 39 = .ok (.aload_n 1, 1) := by decide +kernel
theorem dX7_walk_40 : decode cX7_walk 40 = .ok (.aload_n 0, 1) := by decide +kernel
theorem dX7_walk_41 : decode cX7_walk 41 = .ok (.getfield 9, 3) := by decide +kernel
theorem dX7_walk_44 : decode cX7_walk 44 = .ok (.iload_n 2, 1) := by decide +kernel
theorem dX7_walk_45 : decode cX7_walk 45 = .ok (.iconst 1, 1) := by decide +kernel
theorem dX7_walk_46 : decode cX7_walk 46 = .ok (.isub, 1) := by decide +kernel
theorem dX7_walk_47 : decode cX7_walk 47 = .ok (.iaload, 1) := by decide +kernel
theorem dX7_walk_48 : decode cX7_walk 48 = .ok (.invokevirtual 100, 3) := by decide +kernel
theorem dX7_walk_51 : decode cX7_walk 51 = .ok (.istore_n 3, 1) := by decide +kernel
theorem dX7_walk_52 : decode cX7_walk 52 = .ok (.iload_n 3, 1) := by decide +kernel
theorem dX7_walk_53 : decode cX7_walk 53 = .ok (.iconst (-1), 1) := by decide +kernel
theorem dX7_walk_54 : decode cX7_walk 54 = .ok (.if_icmp .ne 4, 3) := by decide +kernel
theorem dX7_walk_57 : decode cX7_walk 57 = .ok (.return_, 1) := by decide +kernel
theorem dX7_walk_58 : decode cX7_walk 58 = .ok (.aload_n 0, 1) := by decide +kernel
theorem dX7_walk_59 : decode cX7_walk 59 = .ok (.getfield 9, 3) := by decide +kernel
theorem dX7_walk_62 : decode cX7_walk 62 = .ok (.iload_n 2, 1) := by decide +kernel
theorem dX7_walk_63 : decode cX7_walk 63 = .ok (.iload_n 3, 1) := by decide +kernel
theorem dX7_walk_64 : decode cX7_walk 64 = .ok (.iastore, 1) := by decide +kernel
theorem dX7_walk_65 : decode cX7_walk 65 = .ok (.aload_n 0, 1) := by decide +kernel
theorem dX7_walk_66 : decode cX7_walk 66 = .ok (.iload_n 2, 1) := by decide +kernel
theorem dX7_walk_67 : decode cX7_walk 67 = .ok (.iconst 1, 1) := by decide +kernel
theorem dX7_walk_68 : decode cX7_walk 68 = .ok (.iadd, 1) := by decide +kernel
theorem dX7_walk_69 : decode cX7_walk 69 = .ok (.putfield 97, 3) := by decide +kernel
theorem dX7_walk_72 : decode cX7_walk 72 = .ok (.iinc 2 1, 3) := by decide +kernel
theorem dX7_walk_75 : decode cX7_walk 75 = .ok (.goto (-58), 3) := by decide +kernel
theorem dX7_walk_78 : decode cX7_walk 78 = .ok (.return_, 1) := by decide +kernel
theorem dX7_leastNext_0 : decode cX7_leastNext 0 = .ok (.iconst 0, 1) := by decide +kernel
theorem dX7_leastNext_1 : decode cX7_leastNext 1 = .ok (.istore_n 3, 1) := by decide +kernel
theorem dX7_leastNext_2 : decode cX7_leastNext 2 = .ok (.iload_n 3, 1) := by decide +kernel
theorem dX7_leastNext_3 : decode cX7_leastNext 3 = .ok (.iconst 4, 1) := by decide +kernel
theorem dX7_leastNext_4 : decode cX7_leastNext 4 = .ok (.if_icmp .ge 63, 3) := by decide +kernel
theorem dX7_leastNext_7 : decode cX7_leastNext 7 = .ok (.iload_n 2, 1) := by decide +kernel
theorem dX7_leastNext_8 : decode cX7_leastNext 8 = .ok (.iload_n 3, 1) := by decide +kernel
theorem dX7_leastNext_9 : decode cX7_leastNext 9 = .ok (.invokestatic 72, 3) := by decide +kernel
theorem dX7_leastNext_12 : decode cX7_leastNext 12 = .ok (.istore 4, 2) := by decide +kernel
theorem dX7_leastNext_14 : decode cX7_leastNext 14 = .ok (.iload 4, 2) := by decide +kernel
theorem dX7_leastNext_16 : decode cX7_leastNext 16 = .ok (.iconst (-1), 1) := by decide +kernel
theorem dX7_leastNext_17 : decode cX7_leastNext 17 = .ok (.if_icmp .eq 44, 3) := by decide +kernel
theorem dX7_leastNext_20 : decode cX7_leastNext 20 = .ok (.aload_n 0, 1) := by decide +kernel
theorem dX7_leastNext_21 : decode cX7_leastNext 21 = .ok (.aload_n 1, 1) := by decide +kernel
theorem dX7_leastNext_22 : decode cX7_leastNext 22 = .ok (.iload_n 2, 1) := by decide +kernel
theorem dX7_leastNext_23 : decode cX7_leastNext 23 = .ok (.iload 4, 2) := by decide +kernel
theorem dX7_leastNext_25 : decode cX7_leastNext 25 = .ok (.invokevirtual 75, 3) := by decide +kernel
theorem dX7_leastNext_28 : decode cX7_leastNext 28 = .ok (.ifCond .ne 6, 3) := by decide +kernel
theorem dX7_leastNext_31 : decode cX7_leastNext 31 = .ok (.goto 30, 3) := by decide +kernel
theorem dX7_leastNext_34 : decode cX7_leastNext 34 = .ok (.aload_n 0, 1) := by decide +kernel
theorem dX7_leastNext_35 : decode cX7_leastNext 35 = .ok (.getfield 15, 3) := by decide +kernel
theorem dX7_leastNext_38 : decode cX7_leastNext 38 = .ok (.iload 4, 2) := by decide +kernel
theorem dX7_leastNext_40 : decode cX7_leastNext 40 = .ok (.iaload, 1) := by decide +kernel
theorem dX7_leastNext_41 : decode cX7_leastNext 41 = .ok (.aload_n 1, 1) := by decide +kernel
theorem dX7_leastNext_42 : decode cX7_leastNext 42 = .ok (.iload_n 2, 1) := by decide +kernel
theorem dX7_leastNext_43 : decode cX7_leastNext 43 = .ok (.iload 4, 2) := by decide +kernel
theorem dX7_leastNext_45 : decode cX7_leastNext 45 = .ok (.invokevirtual 79, 3) := by decide +kernel
theorem dX7_leastNext_48 : decode cX7_leastNext 48 = .ok (.iadd, 1) := by decide +kernel
theorem dX7_leastNext_49 : decode cX7_leastNext 49 = .ok (.aload_n 0, 1) := by decide +kernel
theorem dX7_leastNext_50 : decode cX7_leastNext 50 = .ok (.getfield 15, 3) := by decide +kernel
theorem dX7_leastNext_53 : decode cX7_leastNext 53 = .ok (.iload_n 2, 1) := by decide +kernel
theorem dX7_leastNext_54 : decode cX7_leastNext 54 = .ok (.iaload, 1) := by decide +kernel
theorem dX7_leastNext_55 : decode cX7_leastNext 55 = .ok (.if_icmp .ne 6, 3) := by decide +kernel
theorem dX7_leastNext_58 : decode cX7_leastNext 58 = .ok (.iload 4, 2) := by decide +kernel
theorem dX7_leastNext_60 : decode cX7_leastNext 60 = .ok (.ireturn, 1) := by decide +kernel
theorem dX7_leastNext_61 : decode cX7_leastNext 61 = .ok (.iinc 3 1, 3) := by decide +kernel
theorem dX7_leastNext_64 : decode cX7_leastNext 64 = .ok (.goto (-62), 3) := by decide +kernel
theorem dX7_leastNext_67 : decode cX7_leastNext 67 = .ok (.iconst (-1), 1) := by decide +kernel
theorem dX7_leastNext_68 : decode cX7_leastNext 68 = .ok (.ireturn, 1) := by decide +kernel
theorem dX8_init_0 : decode cX8_init 0 = .ok (.aload_n 0, 1) := by decide +kernel
theorem dX8_init_1 : decode cX8_init 1 = .ok (.invokespecial 3, 3) := by decide +kernel
theorem dX8_init_4 : decode cX8_init 4 = .ok (.aload_n 0, 1) := by decide +kernel
theorem dX8_init_5 : decode cX8_init 5 = .ok (.bipush 20, 2) := by decide +kernel
theorem dX8_init_7 : decode cX8_init 7 = .ok (.newarray .int, 2) := by decide +kernel
theorem dX8_init_9 : decode cX8_init 9 = .ok (.putfield 9, 3) := by decide +kernel
theorem dX8_init_12 : decode cX8_init 12 = .ok (.aload_n 0, 1) := by decide +kernel
theorem dX8_init_13 : decode cX8_init 13 = .ok (.bipush 108, 2) := by decide +kernel
theorem dX8_init_15 : decode cX8_init 15 = .ok (.newarray .int, 2) := by decide +kernel
theorem dX8_init_17 : decode cX8_init 17 = .ok (.putfield 15, 3) := by decide +kernel
theorem dX8_init_20 : decode cX8_init 20 = .ok (.aload_n 0, 1) := by decide +kernel
theorem dX8_init_21 : decode cX8_init 21 = .ok (.bipush 12, 2) := by decide +kernel
theorem dX8_init_23 : decode cX8_init 23 = .ok (.newarray .int, 2) := by decide +kernel
theorem dX8_init_25 : decode cX8_init 25 = .ok (.putfield 18, 3) := by decide +kernel
theorem dX8_init_28 : decode cX8_init 28 = .ok (.aload_n 0, 1) := by decide +kernel
theorem dX8_init_29 : decode cX8_init 29 = .ok (.bipush 40, 2) := by decide +kernel
theorem dX8_init_31 : decode cX8_init 31 = .ok (.newarray .int, 2) := by decide +kernel
theorem dX8_init_33 : decode cX8_init 33 = .ok (.putfield 21, 3) := by decide +kernel
theorem dX8_init_36 : decode cX8_init 36 = .ok (.aload_n 0, 1) := by decide +kernel
theorem dX8_init_37 : decode cX8_init 37 = .ok (.bipush 40, 2) := by decide +kernel
theorem dX8_init_39 : decode cX8_init 39 = .ok (.newarray .int, 2) := by decide +kernel
theorem dX8_init_41 : decode cX8_init 41 = .ok (.putfield 24, 3) := by decide +kernel
theorem dX8_init_44 : decode cX8_init 44 = .ok (.aload_n 0, 1) := by decide +kernel
theorem dX8_init_45 : decode cX8_init 45 = .ok (.bipush 40, 2) := by decide +kernel
theorem dX8_init_47 : decode cX8_init 47 = .ok (.newarray .int, 2) := by decide +kernel
theorem dX8_init_49 : decode cX8_init 49 = .ok (.putfield 27, 3) := by decide +kernel
theorem dX8_init_52 : decode cX8_init 52 = .ok (.aload_n 0, 1) := by decide +kernel
theorem dX8_init_53 : decode cX8_init 53 = .ok (.bipush 40, 2) := by decide +kernel
theorem dX8_init_55 : decode cX8_init 55 = .ok (.newarray .int, 2) := by decide +kernel
theorem dX8_init_57 : decode cX8_init 57 = .ok (.putfield 30, 3) := by decide +kernel
theorem dX8_init_60 : decode cX8_init 60 = .ok (.aload_n 0, 1) := by decide +kernel
theorem dX8_init_61 : decode cX8_init 61 = .ok (.bipush 40, 2) := by decide +kernel
theorem dX8_init_63 : decode cX8_init 63 = .ok (.newarray .int, 2) := by decide +kernel
theorem dX8_init_65 : decode cX8_init 65 = .ok (.putfield 33, 3) := by decide +kernel
theorem dX8_init_68 : decode cX8_init 68 = .ok (.return_, 1) := by decide +kernel
theorem dX8_become_0 : decode cX8_become 0 = .ok (.aload_n 1, 1) := by decide +kernel
theorem dX8_become_1 : decode cX8_become 1 = .ok (.getfield 9, 3) := by decide +kernel
theorem dX8_become_4 : decode cX8_become 4 = .ok (.iconst 0, 1) := by decide +kernel
theorem dX8_become_5 : decode cX8_become 5 = .ok (.aload_n 0, 1) := by decide +kernel
theorem dX8_become_6 : decode cX8_become 6 = .ok (.getfield 9, 3) := by decide +kernel
theorem dX8_become_9 : decode cX8_become 9 = .ok (.iconst 0, 1) := by decide +kernel
theorem dX8_become_10 : decode cX8_become 10 = .ok (.aload_n 0, 1) := by decide +kernel
theorem dX8_become_11 : decode cX8_become 11 = .ok (.getfield 9, 3) := by decide +kernel
theorem dX8_become_14 : decode cX8_become 14 = .ok (.arraylength, 1) := by decide +kernel
theorem dX8_become_15 : decode cX8_become 15 = .ok (.invokestatic 36, 3) := by decide +kernel
theorem dX8_become_18 : decode cX8_become 18 = .ok (.aload_n 1, 1) := by decide +kernel
theorem dX8_become_19 : decode cX8_become 19 = .ok (.getfield 15, 3) := by decide +kernel
theorem dX8_become_22 : decode cX8_become 22 = .ok (.iconst 0, 1) := by decide +kernel
theorem dX8_become_23 : decode cX8_become 23 = .ok (.aload_n 0, 1) := by decide +kernel
theorem dX8_become_24 : decode cX8_become 24 = .ok (.getfield 15, 3) := by decide +kernel
theorem dX8_become_27 : decode cX8_become 27 = .ok (.iconst 0, 1) := by decide +kernel
theorem dX8_become_28 : decode cX8_become 28 = .ok (.aload_n 0, 1) := by decide +kernel
theorem dX8_become_29 : decode cX8_become 29 = .ok (.getfield 15, 3) := by decide +kernel
theorem dX8_become_32 : decode cX8_become 32 = .ok (.arraylength, 1) := by decide +kernel
theorem dX8_become_33 : decode cX8_become 33 = .ok (.invokestatic 36, 3) := by decide +kernel
theorem dX8_become_36 : decode cX8_become 36 = .ok (.aload_n 1, 1) := by decide +kernel
theorem dX8_become_37 : decode cX8_become 37 = .ok (.getfield 18, 3) := by decide +kernel
theorem dX8_become_40 : decode cX8_become 40 = .ok (.iconst 0, 1) := by decide +kernel
theorem dX8_become_41 : decode cX8_become 41 = .ok (.aload_n 0, 1) := by decide +kernel
theorem dX8_become_42 : decode cX8_become 42 = .ok (.getfield 18, 3) := by decide +kernel
theorem dX8_become_45 : decode cX8_become 45 = .ok (.iconst 0, 1) := by decide +kernel
theorem dX8_become_46 : decode cX8_become 46 = .ok (.bipush 12, 2) := by decide +kernel
theorem dX8_become_48 : decode cX8_become 48 = .ok (.invokestatic 36, 3) := by decide +kernel
theorem dX8_become_51 : decode cX8_become 51 = .ok (.aload_n 1, 1) := by decide +kernel
theorem dX8_become_52 : decode cX8_become 52 = .ok (.getfield 21, 3) := by decide +kernel
theorem dX8_become_55 : decode cX8_become 55 = .ok (.iconst 0, 1) := by decide +kernel
theorem dX8_become_56 : decode cX8_become 56 = .ok (.aload_n 0, 1) := by decide +kernel
theorem dX8_become_57 : decode cX8_become 57 = .ok (.getfield 21, 3) := by decide +kernel
theorem dX8_become_60 : decode cX8_become 60 = .ok (.iconst 0, 1) := by decide +kernel
theorem dX8_become_61 : decode cX8_become 61 = .ok (.bipush 40, 2) := by decide +kernel
theorem dX8_become_63 : decode cX8_become 63 = .ok (.invokestatic 36, 3) := by decide +kernel
theorem dX8_become_66 : decode cX8_become 66 = .ok (.aload_n 1, 1) := by decide +kernel
theorem dX8_become_67 : decode cX8_become 67 = .ok (.getfield 24, 3) := by decide +kernel
theorem dX8_become_70 : decode cX8_become 70 = .ok (.iconst 0, 1) := by decide +kernel
theorem dX8_become_71 : decode cX8_become 71 = .ok (.aload_n 0, 1) := by decide +kernel
theorem dX8_become_72 : decode cX8_become 72 = .ok (.getfield 24, 3) := by decide +kernel
theorem dX8_become_75 : decode cX8_become 75 = .ok (.iconst 0, 1) := by decide +kernel
theorem dX8_become_76 : decode cX8_become 76 = .ok (.bipush 40, 2) := by decide +kernel
theorem dX8_become_78 : decode cX8_become 78 = .ok (.invokestatic 36, 3) := by decide +kernel
theorem dX8_become_81 : decode cX8_become 81 = .ok (.aload_n 1, 1) := by decide +kernel
theorem dX8_become_82 : decode cX8_become 82 = .ok (.getfield 27, 3) := by decide +kernel
theorem dX8_become_85 : decode cX8_become 85 = .ok (.iconst 0, 1) := by decide +kernel
theorem dX8_become_86 : decode cX8_become 86 = .ok (.aload_n 0, 1) := by decide +kernel
theorem dX8_become_87 : decode cX8_become 87 = .ok (.getfield 27, 3) := by decide +kernel
theorem dX8_become_90 : decode cX8_become 90 = .ok (.iconst 0, 1) := by decide +kernel
theorem dX8_become_91 : decode cX8_become 91 = .ok (.bipush 40, 2) := by decide +kernel
theorem dX8_become_93 : decode cX8_become 93 = .ok (.invokestatic 36, 3) := by decide +kernel
theorem dX8_become_96 : decode cX8_become 96 = .ok (.aload_n 1, 1) := by decide +kernel
theorem dX8_become_97 : decode cX8_become 97 = .ok (.getfield 30, 3) := by decide +kernel
theorem dX8_become_100 : decode cX8_become 100 = .ok (.iconst 0, 1) := by decide +kernel
theorem dX8_become_101 : decode cX8_become 101 = .ok (.aload_n 0, 1) := by decide +kernel
theorem dX8_become_102 : decode cX8_become 102 = .ok (.getfield 30, 3) := by decide +kernel
theorem dX8_become_105 : decode cX8_become 105 = .ok (.iconst 0, 1) := by decide +kernel
theorem dX8_become_106 : decode cX8_become 106 = .ok (.bipush 40, 2) := by decide +kernel
theorem dX8_become_108 : decode cX8_become 108 = .ok (.invokestatic 36, 3) := by decide +kernel
theorem dX8_become_111 : decode cX8_become 111 = .ok (.aload_n 1, 1) := by decide +kernel
theorem dX8_become_112 : decode cX8_become 112 = .ok (.getfield 33, 3) := by decide +kernel
theorem dX8_become_115 : decode cX8_become 115 = .ok (.iconst 0, 1) := by decide +kernel
theorem dX8_become_116 : decode cX8_become 116 = .ok (.aload_n 0, 1) := by decide +kernel
theorem dX8_become_117 : decode cX8_become 117 = .ok (.getfield 33, 3) := by decide +kernel
theorem dX8_become_120 : decode cX8_become 120 = .ok (.iconst 0, 1) := by decide +kernel
theorem dX8_become_121 : decode cX8_become 121 = .ok (.bipush 40, 2) := by decide +kernel
theorem dX8_become_123 : decode cX8_become 123 = .ok (.invokestatic 36, 3) := by decide +kernel
theorem dX8_become_126 : decode cX8_become 126 = .ok (.aload_n 0, 1) := by decide +kernel
theorem dX8_become_127 : decode cX8_become 127 = .ok (.aload_n 1, 1) := by decide +kernel
theorem dX8_become_128 : decode cX8_become 128 = .ok (.getfield 42, 3) := by decide +kernel
theorem dX8_become_131 : decode cX8_become 131 = .ok (.putfield 42, 3) := by decide +kernel
theorem dX8_become_134 : decode cX8_become 134 = .ok (.return_, 1) := by decide +kernel
theorem dX8_begin_0 : decode cX8_begin 0 = .ok (.aload_n 0, 1) := by decide +kernel
theorem dX8_begin_1 : decode cX8_begin 1 = .ok (.getfield 9, 3) := by decide +kernel
theorem dX8_begin_4 : decode cX8_begin 4 = .ok (.bipush 8, 2) := by decide +kernel
theorem dX8_begin_6 : decode cX8_begin 6 = .ok (.iload_n 1, 1) := by decide +kernel
theorem dX8_begin_7 : decode cX8_begin 7 = .ok (.iadd, 1) := by decide +kernel
theorem dX8_begin_8 : decode cX8_begin 8 = .ok (.iconst 0, 1) := by decide +kernel
theorem dX8_begin_9 : decode cX8_begin 9 = .ok (.iastore, 1) := by decide +kernel
theorem dX8_begin_10 : decode cX8_begin 10 = .ok (.aload_n 0, 1) := by decide +kernel
theorem dX8_begin_11 : decode cX8_begin 11 = .ok (.getfield 18, 3) := by decide +kernel
theorem dX8_begin_14 : decode cX8_begin 14 = .ok (.iload_n 1, 1) := by decide +kernel
theorem dX8_begin_15 : decode cX8_begin 15 = .ok (.bipush (-5), 2) := by decide +kernel
theorem dX8_begin_17 : decode cX8_begin 17 = .ok (.iastore, 1) := by decide +kernel
theorem dX8_begin_18 : decode cX8_begin 18 = .ok (.iconst 0, 1) := by decide +kernel
theorem dX8_begin_19 : decode cX8_begin 19 = .ok (.istore_n 3, 1) := by decide +kernel
theorem dX8_begin_20 : decode cX8_begin 20 = .ok (.iload_n 3, 1) := by decide +kernel
theorem dX8_begin_21 : decode cX8_begin 21 = .ok (.bipush 8, 2) := by decide +kernel
theorem dX8_begin_23 : decode cX8_begin 23 = .ok (.if_icmp .ge 21, 3) := by decide +kernel
theorem dX8_begin_26 : decode cX8_begin 26 = .ok (.aload_n 0, 1) := by decide +kernel
theorem dX8_begin_27 : decode cX8_begin 27 = .ok (.getfield 15, 3) := by decide +kernel
theorem dX8_begin_30 : decode cX8_begin 30 = .ok (.iload_n 1, 1) := by decide +kernel
theorem dX8_begin_31 : decode cX8_begin 31 = .ok (.bipush 9, 2) := by decide +kernel
theorem dX8_begin_33 : decode cX8_begin 33 = .ok (.imul, 1) := by decide +kernel
theorem dX8_begin_34 : decode cX8_begin 34 = .ok (.iload_n 3, 1) := by decide +kernel
theorem dX8_begin_35 : decode cX8_begin 35 = .ok (.iadd, 1) := by decide +kernel
theorem dX8_begin_36 : decode cX8_begin 36 = .ok (.iconst 0, 1) := by decide +kernel
theorem dX8_begin_37 : decode cX8_begin 37 = .ok (.iastore, 1) := by decide +kernel
theorem dX8_begin_38 : decode cX8_begin 38 = .ok (.iinc 3 1, 3) := by decide +kernel
theorem dX8_begin_41 : decode cX8_begin 41 = .ok (.goto (-21), 3) := by decide +kernel
theorem dX8_begin_44 : decode cX8_begin 44 = .ok (.aload_n 0, 1) := by decide +kernel
theorem dX8_begin_45 : decode cX8_begin 45 = .ok (.getfield 15, 3) := by decide +kernel
theorem dX8_begin_48 : decode cX8_begin 48 = .ok (.iload_n 1, 1) := by decide +kernel
theorem dX8_begin_49 : decode cX8_begin 49 = .ok (.bipush 9, 2) := by decide +kernel
theorem dX8_begin_51 : decode cX8_begin 51 = .ok (.imul, 1) := by decide +kernel
theorem dX8_begin_52 : decode cX8_begin 52 = .ok (.bipush 8, 2) := by decide +kernel
theorem dX8_begin_54 : decode cX8_begin 54 = .ok (.iadd, 1) := by decide +kernel
theorem dX8_begin_55 : decode cX8_begin 55 = .ok (.iload_n 2, 1) := by decide +kernel
theorem dX8_begin_56 : decode cX8_begin 56 = .ok (.iastore, 1) := by decide +kernel
theorem dX8_begin_57 : decode cX8_begin 57 = .ok (.return_, 1) := by decide +kernel
theorem dX8_sharesOf_0 : decode cX8_sharesOf 0 = .ok (.aload_n 0, 1) := by decide +kernel
theorem dX8_sharesOf_1 : decode cX8_sharesOf 1 = .ok (.getfield 15, 3) := by decide +kernel
theorem dX8_sharesOf_4 : decode cX8_sharesOf 4 = .ok (.iload_n 1, 1) := by decide +kernel
theorem dX8_sharesOf_5 : decode cX8_sharesOf 5 = .ok (.bipush 9, 2) := by decide +kernel
theorem dX8_sharesOf_7 : decode cX8_sharesOf 7 = .ok (.imul, 1) := by decide +kernel
theorem dX8_sharesOf_8 : decode cX8_sharesOf 8 = .ok (.iload_n 2, 1) := by decide +kernel
theorem dX8_sharesOf_9 : decode cX8_sharesOf 9 = .ok (.iadd, 1) := by decide +kernel
theorem dX8_sharesOf_10 : decode cX8_sharesOf 10 = .ok (.iaload, 1) := by decide +kernel
theorem dX8_sharesOf_11 : decode cX8_sharesOf 11 = .ok (.ireturn, 1) := by decide +kernel
theorem dX8_pass_0 : decode cX8_pass 0 = .ok (.aload_n 0, 1) := by decide +kernel
theorem dX8_pass_1 : decode cX8_pass 1 = .ok (.getfield 15, 3) := by decide +kernel
theorem dX8_pass_4 : decode cX8_pass 4 = .ok (.iload_n 1, 1) := by decide +kernel
theorem dX8_pass_5 : decode cX8_pass 5 = .ok (.bipush 9, 2) := by decide +kernel
theorem dX8_pass_7 : decode cX8_pass 7 = .ok (.imul, 1) := by decide +kernel
theorem dX8_pass_8 : decode cX8_pass 8 = .ok (.iload_n 2, 1) := by decide +kernel
theorem dX8_pass_9 : decode cX8_pass 9 = .ok (.iadd, 1) := by decide +kernel
theorem dX8_pass_10 : decode cX8_pass 10 = .ok (.dup2, 1) := by decide +kernel
theorem dX8_pass_11 : decode cX8_pass 11 = .ok (.iaload, 1) := by decide +kernel
theorem dX8_pass_12 : decode cX8_pass 12 = .ok (.iload 4, 2) := by decide +kernel
theorem dX8_pass_14 : decode cX8_pass 14 = .ok (.isub, 1) := by decide +kernel
theorem dX8_pass_15 : decode cX8_pass 15 = .ok (.iastore, 1) := by decide +kernel
theorem dX8_pass_16 : decode cX8_pass 16 = .ok (.aload_n 0, 1) := by decide +kernel
theorem dX8_pass_17 : decode cX8_pass 17 = .ok (.getfield 15, 3) := by decide +kernel
theorem dX8_pass_20 : decode cX8_pass 20 = .ok (.iload_n 1, 1) := by decide +kernel
theorem dX8_pass_21 : decode cX8_pass 21 = .ok (.bipush 9, 2) := by decide +kernel
theorem dX8_pass_23 : decode cX8_pass 23 = .ok (.imul, 1) := by decide +kernel
theorem dX8_pass_24 : decode cX8_pass 24 = .ok (.iload_n 3, 1) := by decide +kernel
theorem dX8_pass_25 : decode cX8_pass 25 = .ok (.iadd, 1) := by decide +kernel
theorem dX8_pass_26 : decode cX8_pass 26 = .ok (.dup2, 1) := by decide +kernel
theorem dX8_pass_27 : decode cX8_pass 27 = .ok (.iaload, 1) := by decide +kernel
theorem dX8_pass_28 : decode cX8_pass 28 = .ok (.iload 4, 2) := by decide +kernel
theorem dX8_pass_30 : decode cX8_pass 30 = .ok (.iadd, 1) := by decide +kernel
theorem dX8_pass_31 : decode cX8_pass 31 = .ok (.iastore, 1) := by decide +kernel
theorem dX8_pass_32 : decode cX8_pass 32 = .ok (.return_, 1) := by decide +kernel
theorem dX8_stand_0 : decode cX8_stand 0 = .ok (.aload_n 0, 1) := by decide +kernel
theorem dX8_stand_1 : decode cX8_stand 1 = .ok (.getfield 21, 3) := by decide +kernel
theorem dX8_stand_4 : decode cX8_stand 4 = .ok (.aload_n 0, 1) := by decide +kernel
theorem dX8_stand_5 : decode cX8_stand 5 = .ok (.getfield 42, 3) := by decide +kernel
theorem dX8_stand_8 : decode cX8_stand 8 = .ok (.iload_n 1, 1) := by decide +kernel
theorem dX8_stand_9 : decode cX8_stand 9 = .ok (.iastore, 1) := by decide +kernel
theorem dX8_stand_10 : decode cX8_stand 10 = .ok (.aload_n 0, 1) := by decide +kernel
theorem dX8_stand_11 : decode cX8_stand 11 = .ok (.getfield 24, 3) := by decide +kernel
theorem dX8_stand_14 : decode cX8_stand 14 = .ok (.aload_n 0, 1) := by decide +kernel
theorem dX8_stand_15 : decode cX8_stand 15 = .ok (.getfield 42, 3) := by decide +kernel
theorem dX8_stand_18 : decode cX8_stand 18 = .ok (.iload_n 2, 1) := by decide +kernel
theorem dX8_stand_19 : decode cX8_stand 19 = .ok (.iastore, 1) := by decide +kernel
theorem dX8_stand_20 : decode cX8_stand 20 = .ok (.aload_n 0, 1) := by decide +kernel
theorem dX8_stand_21 : decode cX8_stand 21 = .ok (.getfield 27, 3) := by decide +kernel
theorem dX8_stand_24 : decode cX8_stand 24 = .ok (.aload_n 0, 1) := by decide +kernel
theorem dX8_stand_25 : decode cX8_stand 25 = .ok (.getfield 42, 3) := by decide +kernel
theorem dX8_stand_28 : decode cX8_stand 28 = .ok (.iload_n 3, 1) := by decide +kernel
theorem dX8_stand_29 : decode cX8_stand 29 = .ok (.iastore, 1) := by decide +kernel
theorem dX8_stand_30 : decode cX8_stand 30 = .ok (.aload_n 0, 1) := by decide +kernel
theorem dX8_stand_31 : decode cX8_stand 31 = .ok (.getfield 30, 3) := by decide +kernel
theorem dX8_stand_34 : decode cX8_stand 34 = .ok (.aload_n 0, 1) := by decide +kernel
theorem dX8_stand_35 : decode cX8_stand 35 = .ok (.getfield 42, 3) := by decide +kernel
theorem dX8_stand_38 : decode cX8_stand 38 = .ok (.iload 4, 2) := by decide +kernel
theorem dX8_stand_40 : decode cX8_stand 40 = .ok (.iastore, 1) := by decide +kernel
theorem dX8_stand_41 : decode cX8_stand 41 = .ok (.aload_n 0, 1) := by decide +kernel
theorem dX8_stand_42 : decode cX8_stand 42 = .ok (.getfield 33, 3) := by decide +kernel
theorem dX8_stand_45 : decode cX8_stand 45 = .ok (.aload_n 0, 1) := by decide +kernel
theorem dX8_stand_46 : decode cX8_stand 46 = .ok (.getfield 42, 3) := by decide +kernel
theorem dX8_stand_49 : decode cX8_stand 49 = .ok (.iload 5, 2) := by decide +kernel
theorem dX8_stand_51 : decode cX8_stand 51 = .ok (.ifCond .eq 7, 3) := by decide +kernel
theorem dX8_stand_54 : decode cX8_stand 54 = .ok (.iconst 1, 1) := by decide +kernel
theorem dX8_stand_55 : decode cX8_stand 55 = .ok (.goto 4, 3) := by decide +kernel
theorem dX8_stand_58 : decode cX8_stand 58 = .ok (.iconst 0, 1) := by decide +kernel
theorem dX8_stand_59 : decode cX8_stand 59 = .ok (.iastore, 1) := by decide +kernel
theorem dX8_stand_60 : decode cX8_stand 60 = .ok (.aload_n 0, 1) := by decide +kernel
theorem dX8_stand_61 : decode cX8_stand 61 = .ok (.dup, 1) := by decide +kernel
theorem dX8_stand_62 : decode cX8_stand 62 = .ok (.getfield 42, 3) := by decide +kernel
theorem dX8_stand_65 : decode cX8_stand 65 = .ok (.iconst 1, 1) := by decide +kernel
theorem dX8_stand_66 : decode cX8_stand 66 = .ok (.iadd, 1) := by decide +kernel
theorem dX8_stand_67 : decode cX8_stand 67 = .ok (.putfield 42, 3) := by decide +kernel
theorem dX8_stand_70 : decode cX8_stand 70 = .ok (.aload_n 0, 1) := by decide +kernel
theorem dX8_stand_71 : decode cX8_stand 71 = .ok (.getfield 42, 3) := by decide +kernel
theorem dX8_stand_74 : decode cX8_stand 74 = .ok (.ireturn, 1) := by decide +kernel
theorem dX8_tradeIn_0 : decode cX8_tradeIn 0 = .ok (.iconst 0, 1) := by decide +kernel
theorem dX8_tradeIn_1 : decode cX8_tradeIn 1 = .ok (.istore_n 2, 1) := by decide +kernel
theorem dX8_tradeIn_2 : decode cX8_tradeIn 2 = .ok (.iconst 0, 1) := by decide +kernel
theorem dX8_tradeIn_3 : decode cX8_tradeIn 3 = .ok (.istore_n 3, 1) := by decide +kernel
theorem dX8_tradeIn_4 : decode cX8_tradeIn 4 = .ok (.iload_n 3, 1) := by decide +kernel
theorem dX8_tradeIn_5 : decode cX8_tradeIn 5 = .ok (.sipush 4000, 3) := by decide +kernel
theorem dX8_tradeIn_8 : decode cX8_tradeIn 8 = .ok (.if_icmp .ge 120, 3) := by decide +kernel
theorem dX8_tradeIn_11 : decode cX8_tradeIn 11 = .ok (.aload_n 0, 1) := by decide +kernel
theorem dX8_tradeIn_12 : decode cX8_tradeIn 12 = .ok (.iload_n 1, 1) := by decide +kernel
theorem dX8_tradeIn_13 : decode cX8_tradeIn 13 = .ok (.iconst 0, 1) := by decide +kernel
theorem dX8_tradeIn_14 : decode cX8_tradeIn 14 = .ok (.invokevirtual 46, 3) := by decide +kernel
theorem dX8_tradeIn_17 : decode cX8_tradeIn 17 = .ok (.istore 4, 2) := by decide +kernel
theorem dX8_tradeIn_19 : decode cX8_tradeIn 19 = .ok (.aload_n 0, 1) := by decide +kernel
theorem dX8_tradeIn_20 : decode cX8_tradeIn 20 = .ok (.iload_n 1, 1) := by decide +kernel
theorem dX8_tradeIn_21 : decode cX8_tradeIn 21 = .ok (.iconst 1, 1) := by decide +kernel
theorem dX8_tradeIn_22 : decode cX8_tradeIn 22 = .ok (.invokevirtual 46, 3) := by decide +kernel
theorem dX8_tradeIn_25 : decode cX8_tradeIn 25 = .ok (.istore 5, 2) := by decide +kernel
theorem dX8_tradeIn_27 : decode cX8_tradeIn 27 = .ok (.iload 4, 2) := by decide +kernel
theorem dX8_tradeIn_29 : decode cX8_tradeIn 29 = .ok (.iconst (-1), 1) := by decide +kernel
theorem dX8_tradeIn_30 : decode cX8_tradeIn 30 = .ok (.if_icmp .eq 98, 3) := by decide +kernel
theorem dX8_tradeIn_33 : decode cX8_tradeIn 33 = .ok (.iload 5, 2) := by decide +kernel
theorem dX8_tradeIn_35 : decode cX8_tradeIn 35 = .ok (.iconst (-1), 1) := by decide +kernel
theorem dX8_tradeIn_36 : decode cX8_tradeIn 36 = .ok (.if_icmp .eq 92, 3) := by decide +kernel
theorem dX8_tradeIn_39 : decode cX8_tradeIn 39 = .ok (.aload_n 0, 1) := by decide +kernel
theorem dX8_tradeIn_40 : decode cX8_tradeIn 40 = .ok (.getfield 30, 3) := by decide +kernel
theorem dX8_tradeIn_43 : decode cX8_tradeIn 43 = .ok (.iload 5, 2) := by decide +kernel
theorem dX8_tradeIn_45 : decode cX8_tradeIn 45 = .ok (.iaload, 1) := by decide +kernel
theorem dX8_tradeIn_46 : decode cX8_tradeIn 46 = .ok (.aload_n 0, 1) := by decide +kernel
theorem dX8_tradeIn_47 : decode cX8_tradeIn 47 = .ok (.getfield 30, 3) := by decide +kernel
theorem dX8_tradeIn_50 : decode cX8_tradeIn 50 = .ok (.iload 4, 2) := by decide +kernel
theorem dX8_tradeIn_52 : decode cX8_tradeIn 52 = .ok (.iaload, 1) := by decide +kernel
theorem dX8_tradeIn_53 : decode cX8_tradeIn 53 = .ok (.if_icmp .ge 6, 3) := by decide +kernel
theorem dX8_tradeIn_56 : decode cX8_tradeIn 56 = .ok (.goto 72, 3) := by decide +kernel
theorem dX8_tradeIn_59 : decode cX8_tradeIn 59 = .ok (.aload_n 0, 1) := by decide +kernel
theorem dX8_tradeIn_60 : decode cX8_tradeIn 60 = .ok (.iload_n 1, 1) := by decide +kernel
theorem dX8_tradeIn_61 : decode cX8_tradeIn 61 = .ok (.iload 4, 2) := by decide +kernel
theorem dX8_tradeIn_63 : decode cX8_tradeIn 63 = .ok (.iload 5, 2) := by decide +kernel
theorem dX8_tradeIn_65 : decode cX8_tradeIn 65 = .ok (.invokevirtual 50, 3) := by decide +kernel
theorem dX8_tradeIn_68 : decode cX8_tradeIn 68 = .ok (.istore 6, 2) := by decide +kernel
theorem dX8_tradeIn_70 : decode cX8_tradeIn 70 = .ok (.iload 6, 2) := by decide +kernel
theorem dX8_tradeIn_72 : decode cX8_tradeIn 72 = .ok (.ifCond .le 22, 3) := by decide +kernel
theorem dX8_tradeIn_75 : decode cX8_tradeIn 75 = .ok (.aload_n 0, 1) := by decide +kernel
theorem dX8_tradeIn_76 : decode cX8_tradeIn 76 = .ok (.iload_n 1, 1) := by decide +kernel
theorem dX8_tradeIn_77 : decode cX8_tradeIn 77 = .ok (.iload 4, 2) := by decide +kernel
theorem dX8_tradeIn_79 : decode cX8_tradeIn 79 = .ok (.iload 5, 2) := by decide +kernel
theorem dX8_tradeIn_81 : decode cX8_tradeIn 81 = .ok (.iload 6, 2) := by decide +kernel
theorem dX8_tradeIn_83 : decode cX8_tradeIn 83 = .ok (.invokevirtual 54, 3) := by decide +kernel
theorem dX8_tradeIn_86 : decode cX8_tradeIn 86 = .ok (.iload_n 2, 1) := by decide +kernel
theorem dX8_tradeIn_87 : decode cX8_tradeIn 87 = .ok (.iload 6, 2) := by decide +kernel
theorem dX8_tradeIn_89 : decode cX8_tradeIn 89 = .ok (.iadd, 1) := by decide +kernel
theorem dX8_tradeIn_90 : decode cX8_tradeIn 90 = .ok (.istore_n 2, 1) := by decide +kernel
theorem dX8_tradeIn_91 : decode cX8_tradeIn 91 = .ok (.goto 31, 3) := by decide +kernel
theorem dX8_tradeIn_94 : decode cX8_tradeIn 94 = .ok (.aload_n 0, 1) := by decide +kernel
theorem dX8_tradeIn_95 : decode cX8_tradeIn 95 = .ok (.getfield 27, 3) := by decide +kernel
theorem dX8_tradeIn_98 : decode cX8_tradeIn 98 = .ok (.aload_n 0, 1) := by decide +kernel
theorem dX8_tradeIn_99 : decode cX8_tradeIn 99 = .ok (.iload_n 1, 1) := by decide +kernel
theorem dX8_tradeIn_100 : decode cX8_tradeIn 100 = .ok (.aload_n 0, 1) := by decide +kernel
theorem dX8_tradeIn_101 : decode cX8_tradeIn 101 = .ok (.getfield 24, 3) := by decide +kernel
theorem dX8_tradeIn_104 : decode cX8_tradeIn 104 = .ok (.iload 4, 2) := by decide +kernel
theorem dX8_tradeIn_106 : decode cX8_tradeIn 106 = .ok (.iaload, 1) := by decide +kernel
theorem dX8_tradeIn_107 : decode cX8_tradeIn 107 = .ok (.invokevirtual 58, 3) := by decide +kernel
theorem dX8_tradeIn_110 : decode cX8_tradeIn 110 = .ok (.ifCond .ne 8, 3) := by decide +kernel
theorem dX8_tradeIn_113 : decode cX8_tradeIn 113 = .ok (.iload 4, 2) := by decide +kernel
theorem dX8_tradeIn_115 : decode cX8_tradeIn 115 = .ok (.goto 5, 3) := by decide +kernel
theorem dX8_tradeIn_118 : decode cX8_tradeIn 118 = .ok (.iload 5, 2) := by decide +kernel
theorem dX8_tradeIn_120 : decode cX8_tradeIn 120 = .ok (.iconst 0, 1) := by decide +kernel
theorem dX8_tradeIn_121 : decode cX8_tradeIn 121 = .ok (.iastore, 1) := by decide +kernel
theorem dX8_tradeIn_122 : decode cX8_tradeIn 122 = .ok (.iinc 3 1, 3) := by decide +kernel
theorem dX8_tradeIn_125 : decode cX8_tradeIn 125 = .ok (.goto (-121), 3) := by decide +kernel
theorem dX8_tradeIn_128 : decode cX8_tradeIn 128 = .ok (.aload_n 0, 1) := by decide +kernel
theorem dX8_tradeIn_129 : decode cX8_tradeIn 129 = .ok (.iload_n 1, 1) := by decide +kernel
theorem dX8_tradeIn_130 : decode cX8_tradeIn 130 = .ok (.invokevirtual 61, 3) := by decide +kernel
theorem dX8_tradeIn_133 : decode cX8_tradeIn 133 = .ok (.iload_n 2, 1) := by decide +kernel
theorem dX8_tradeIn_134 : decode cX8_tradeIn 134 = .ok (.ireturn, 1) := by decide +kernel
theorem dX8_best_0 : decode cX8_best 0 = .ok (.iconst (-1), 1) := by decide +kernel
theorem dX8_best_1 : decode cX8_best 1 = .ok (.istore_n 3, 1) := by decide +kernel
theorem dX8_best_2 : decode cX8_best 2 = .ok (.iconst 0, 1) := by decide +kernel
theorem dX8_best_3 : decode cX8_best 3 = .ok (.istore 4, 2) := by decide +kernel
theorem dX8_best_5 : decode cX8_best 5 = .ok (.iload 4, 2) := by decide +kernel
theorem dX8_best_7 : decode cX8_best 7 = .ok (.aload_n 0, 1) := by decide +kernel
theorem dX8_best_8 : decode cX8_best 8 = .ok (.getfield 42, 3) := by decide +kernel
theorem dX8_best_11 : decode cX8_best 11 = .ok (.if_icmp .ge 91, 3) := by decide +kernel
theorem dX8_best_14 : decode cX8_best 14 = .ok (.aload_n 0, 1) := by decide +kernel
theorem dX8_best_15 : decode cX8_best 15 = .ok (.getfield 21, 3) := by decide +kernel
theorem dX8_best_18 : decode cX8_best 18 = .ok (.iload 4, 2) := by decide +kernel
theorem dX8_best_20 : decode cX8_best 20 = .ok (.iaload, 1) := by decide +kernel
theorem dX8_best_21 : decode cX8_best 21 = .ok (.iload_n 1, 1) := by decide +kernel
theorem dX8_best_22 : decode cX8_best 22 = .ok (.if_icmp .ne 74, 3) := by decide +kernel
theorem dX8_best_25 : decode cX8_best 25 = .ok (.aload_n 0, 1) := by decide +kernel
theorem dX8_best_26 : decode cX8_best 26 = .ok (.getfield 33, 3) := by decide +kernel
theorem dX8_best_29 : decode cX8_best 29 = .ok (.iload 4, 2) := by decide +kernel
theorem dX8_best_31 : decode cX8_best 31 = .ok (.iaload, 1) := by decide +kernel
theorem dX8_best_32 : decode cX8_best 32 = .ok (.iload_n 2, 1) := by decide +kernel
theorem dX8_best_33 : decode cX8_best 33 = .ok (.if_icmp .ne 63, 3) := by decide +kernel
theorem dX8_best_36 : decode cX8_best 36 = .ok (.aload_n 0, 1) := by decide +kernel
theorem dX8_best_37 : decode cX8_best 37 = .ok (.getfield 27, 3) := by decide +kernel
theorem dX8_best_40 : decode cX8_best 40 = .ok (.iload 4, 2) := by decide +kernel
theorem dX8_best_42 : decode cX8_best 42 = .ok (.iaload, 1) := by decide +kernel
theorem dX8_best_43 : decode cX8_best 43 = .ok (.ifCond .ne 6, 3) := by decide +kernel
theorem dX8_best_46 : decode cX8_best 46 = .ok (.goto 50, 3) := by decide +kernel
theorem dX8_best_49 : decode cX8_best 49 = .ok (.iload_n 3, 1) := by decide +kernel
theorem dX8_best_50 : decode cX8_best 50 = .ok (.iconst (-1), 1) := by decide +kernel
theorem dX8_best_51 : decode cX8_best 51 = .ok (.if_icmp .eq 42, 3) := by decide +kernel
theorem dX8_best_54 : decode cX8_best 54 = .ok (.iload_n 2, 1) := by decide +kernel
theorem dX8_best_55 : decode cX8_best 55 = .ok (.ifCond .ne 22, 3) := by decide +kernel
theorem dX8_best_58 : decode cX8_best 58 = .ok (.aload_n 0, 1) := by decide +kernel
theorem dX8_best_59 : decode cX8_best 59 = .ok (.getfield 30, 3) := by decide +kernel
theorem dX8_best_62 : decode cX8_best 62 = .ok (.iload 4, 2) := by decide +kernel
theorem dX8_best_64 : decode cX8_best 64 = .ok (.iaload, 1) := by decide +kernel
theorem dX8_best_65 : decode cX8_best 65 = .ok (.aload_n 0, 1) := by decide +kernel
theorem dX8_best_66 : decode cX8_best 66 = .ok (.getfield 30, 3) := by decide +kernel
theorem dX8_best_69 : decode cX8_best 69 = .ok (.iload_n 3, 1) := by decide +kernel
theorem dX8_best_70 : decode cX8_best 70 = .ok (.iaload, 1) := by decide +kernel
theorem dX8_best_71 : decode cX8_best 71 = .ok (.if_icmp .ge 25, 3) := by decide +kernel
theorem dX8_best_74 : decode cX8_best 74 = .ok (.goto 19, 3) := by decide +kernel
theorem dX8_best_77 : decode cX8_best 77 = .ok (.aload_n 0, 1) := by decide +kernel
theorem dX8_best_78 : decode cX8_best 78 = .ok (.getfield 30, 3) := by decide +kernel
theorem dX8_best_81 : decode cX8_best 81 = .ok (.iload 4, 2) := by decide +kernel
theorem dX8_best_83 : decode cX8_best 83 = .ok (.iaload, 1) := by decide +kernel
theorem dX8_best_84 : decode cX8_best 84 = .ok (.aload_n 0, 1) := by decide +kernel
theorem dX8_best_85 : decode cX8_best 85 = .ok (.getfield 30, 3) := by decide +kernel
theorem dX8_best_88 : decode cX8_best 88 = .ok (.iload_n 3, 1) := by decide +kernel
theorem dX8_best_89 : decode cX8_best 89 = .ok (.iaload, 1) := by decide +kernel
theorem dX8_best_90 : decode cX8_best 90 = .ok (.if_icmp .le 6, 3) := by decide +kernel
theorem dX8_best_93 : decode cX8_best 93 = .ok (.iload 4, 2) := by decide +kernel
theorem dX8_best_95 : decode cX8_best 95 = .ok (.istore_n 3, 1) := by decide +kernel
theorem dX8_best_96 : decode cX8_best 96 = .ok (.iinc 4 1, 3) := by decide +kernel
theorem dX8_best_99 : decode cX8_best 99 = .ok (.goto (-94), 3) := by decide +kernel
theorem dX8_best_102 : decode cX8_best 102 = .ok (.iload_n 3, 1) := by decide +kernel
theorem dX8_best_103 : decode cX8_best 103 = .ok (.ireturn, 1) := by decide +kernel
theorem dX8_goes_0 : decode cX8_goes 0 = .ok (.aload_n 0, 1) := by decide +kernel
theorem dX8_goes_1 : decode cX8_goes 1 = .ok (.getfield 30, 3) := by decide +kernel
theorem dX8_goes_4 : decode cX8_goes 4 = .ok (.iload_n 2, 1) := by decide +kernel
theorem dX8_goes_5 : decode cX8_goes 5 = .ok (.iaload, 1) := by decide +kernel
theorem dX8_goes_6 : decode cX8_goes 6 = .ok (.istore 4, 2) := by decide +kernel
theorem dX8_goes_8 : decode cX8_goes 8 = .ok (.iload 4, 2) := by decide +kernel
theorem dX8_goes_10 : decode cX8_goes 10 = .ok (.ifCond .gt 5, 3) := by decide +kernel
theorem dX8_goes_13 : decode cX8_goes 13 = .ok (.iconst 0, 1) := by decide +kernel
theorem dX8_goes_14 : decode cX8_goes 14 = .ok (.ireturn, 1) := by decide +kernel
theorem dX8_goes_15 : decode cX8_goes 15 = .ok (.aload_n 0, 1) := by decide +kernel
theorem dX8_goes_16 : decode cX8_goes 16 = .ok (.getfield 27, 3) := by decide +kernel
theorem dX8_goes_19 : decode cX8_goes 19 = .ok (.iload_n 2, 1) := by decide +kernel
theorem dX8_goes_20 : decode cX8_goes 20 = .ok (.iaload, 1) := by decide +kernel
theorem dX8_goes_21 : decode cX8_goes 21 = .ok (.aload_n 0, 1) := by decide +kernel
theorem dX8_goes_22 : decode cX8_goes 22 = .ok (.getfield 27, 3) := by decide +kernel
theorem dX8_goes_25 : decode cX8_goes 25 = .ok (.iload_n 3, 1) := by decide +kernel
theorem dX8_goes_26 : decode cX8_goes 26 = .ok (.iaload, 1) := by decide +kernel
theorem dX8_goes_27 : decode cX8_goes 27 = .ok (.invokestatic 65, 3) := by decide +kernel
theorem dX8_goes_30 : decode cX8_goes 30 = .ok (.istore 5, 2) := by decide +kernel
theorem dX8_goes_32 : decode cX8_goes 32 = .ok (.iload 5, 2) := by decide +kernel
theorem dX8_goes_34 : decode cX8_goes 34 = .ok (.aload_n 0, 1) := by decide +kernel
theorem dX8_goes_35 : decode cX8_goes 35 = .ok (.iload_n 1, 1) := by decide +kernel
theorem dX8_goes_36 : decode cX8_goes 36 = .ok (.aload_n 0, 1) := by decide +kernel
theorem dX8_goes_37 : decode cX8_goes 37 = .ok (.getfield 24, 3) := by decide +kernel
theorem dX8_goes_40 : decode cX8_goes 40 = .ok (.iload_n 2, 1) := by decide +kernel
theorem dX8_goes_41 : decode cX8_goes 41 = .ok (.iaload, 1) := by decide +kernel
theorem dX8_goes_42 : decode cX8_goes 42 = .ok (.invokevirtual 58, 3) := by decide +kernel
theorem dX8_goes_45 : decode cX8_goes 45 = .ok (.aload_n 0, 1) := by decide +kernel
theorem dX8_goes_46 : decode cX8_goes 46 = .ok (.getfield 9, 3) := by decide +kernel
theorem dX8_goes_49 : decode cX8_goes 49 = .ok (.aload_n 0, 1) := by decide +kernel
theorem dX8_goes_50 : decode cX8_goes 50 = .ok (.getfield 24, 3) := by decide +kernel
theorem dX8_goes_53 : decode cX8_goes 53 = .ok (.iload_n 3, 1) := by decide +kernel
theorem dX8_goes_54 : decode cX8_goes 54 = .ok (.iaload, 1) := by decide +kernel
theorem dX8_goes_55 : decode cX8_goes 55 = .ok (.iaload, 1) := by decide +kernel
theorem dX8_goes_56 : decode cX8_goes 56 = .ok (.iload 4, 2) := by decide +kernel
theorem dX8_goes_58 : decode cX8_goes 58 = .ok (.idiv, 1) := by decide +kernel
theorem dX8_goes_59 : decode cX8_goes 59 = .ok (.invokestatic 65, 3) := by decide +kernel
theorem dX8_goes_62 : decode cX8_goes 62 = .ok (.invokestatic 65, 3) := by decide +kernel
theorem dX8_goes_65 : decode cX8_goes 65 = .ok (.ireturn, 1) := by decide +kernel
theorem dX8_sell_0 : decode cX8_sell 0 = .ok (.aload_n 0, 1) := by decide +kernel
theorem dX8_sell_1 : decode cX8_sell 1 = .ok (.iload_n 1, 1) := by decide +kernel
theorem dX8_sell_2 : decode cX8_sell 2 = .ok (.aload_n 0, 1) := by decide +kernel
theorem dX8_sell_3 : decode cX8_sell 3 = .ok (.getfield 24, 3) := by decide +kernel
theorem dX8_sell_6 : decode cX8_sell 6 = .ok (.iload_n 2, 1) := by decide +kernel
theorem dX8_sell_7 : decode cX8_sell 7 = .ok (.iaload, 1) := by decide +kernel
theorem dX8_sell_8 : decode cX8_sell 8 = .ok (.aload_n 0, 1) := by decide +kernel
theorem dX8_sell_9 : decode cX8_sell 9 = .ok (.getfield 24, 3) := by decide +kernel
theorem dX8_sell_12 : decode cX8_sell 12 = .ok (.iload_n 3, 1) := by decide +kernel
theorem dX8_sell_13 : decode cX8_sell 13 = .ok (.iaload, 1) := by decide +kernel
theorem dX8_sell_14 : decode cX8_sell 14 = .ok (.iload 4, 2) := by decide +kernel
theorem dX8_sell_16 : decode cX8_sell 16 = .ok (.invokevirtual 70, 3) := by decide +kernel
theorem dX8_sell_19 : decode cX8_sell 19 = .ok (.aload_n 0, 1) := by decide +kernel
theorem dX8_sell_20 : decode cX8_sell 20 = .ok (.getfield 9, 3) := by decide +kernel
theorem dX8_sell_23 : decode cX8_sell 23 = .ok (.aload_n 0, 1) := by decide +kernel
theorem dX8_sell_24 : decode cX8_sell 24 = .ok (.getfield 24, 3) := by decide +kernel
theorem dX8_sell_27 : decode cX8_sell 27 = .ok (.iload_n 3, 1) := by decide +kernel
theorem dX8_sell_28 : decode cX8_sell 28 = .ok (.iaload, 1) := by decide +kernel
theorem dX8_sell_29 : decode cX8_sell 29 = .ok (.dup2, 1) := by decide +kernel
theorem dX8_sell_30 : decode cX8_sell 30 = .ok (.iaload, 1) := by decide +kernel
theorem dX8_sell_31 : decode cX8_sell 31 = .ok (.iload 4, 2) := by decide +kernel
theorem dX8_sell_33 : decode cX8_sell 33 = .ok (.aload_n 0, 1) := by decide +kernel
theorem dX8_sell_34 : decode cX8_sell 34 = .ok (.getfield 30, 3) := by decide +kernel
theorem dX8_sell_37 : decode cX8_sell 37 = .ok (.iload_n 2, 1) := by decide +kernel
theorem dX8_sell_38 : decode cX8_sell 38 = .ok (.iaload, 1) := by decide +kernel
theorem dX8_sell_39 : decode cX8_sell 39 = .ok (.imul, 1) := by decide +kernel
theorem dX8_sell_40 : decode cX8_sell 40 = .ok (.isub, 1) := by decide +kernel
theorem dX8_sell_41 : decode cX8_sell 41 = .ok (.iastore, 1) := by decide +kernel
theorem dX8_sell_42 : decode cX8_sell 42 = .ok (.aload_n 0, 1) := by decide +kernel
theorem dX8_sell_43 : decode cX8_sell 43 = .ok (.getfield 9, 3) := by decide +kernel
theorem dX8_sell_46 : decode cX8_sell 46 = .ok (.aload_n 0, 1) := by decide +kernel
theorem dX8_sell_47 : decode cX8_sell 47 = .ok (.getfield 24, 3) := by decide +kernel
theorem dX8_sell_50 : decode cX8_sell 50 = .ok (.iload_n 2, 1) := by decide +kernel
theorem dX8_sell_51 : decode cX8_sell 51 = .ok (.iaload, 1) := by decide +kernel
theorem dX8_sell_52 : decode cX8_sell 52 = .ok (.dup2, 1) := by decide +kernel
theorem dX8_sell_53 : decode cX8_sell 53 = .ok (.iaload, 1) := by decide +kernel
theorem dX8_sell_54 : decode cX8_sell 54 = .ok (.iload 4, 2) := by decide +kernel
theorem dX8_sell_56 : decode cX8_sell 56 = .ok (.aload_n 0, 1) := by decide +kernel
theorem dX8_sell_57 : decode cX8_sell 57 = .ok (.getfield 30, 3) := by decide +kernel
theorem dX8_sell_60 : decode cX8_sell 60 = .ok (.iload_n 2, 1) := by decide +kernel
theorem dX8_sell_61 : decode cX8_sell 61 = .ok (.iaload, 1) := by decide +kernel
theorem dX8_sell_62 : decode cX8_sell 62 = .ok (.imul, 1) := by decide +kernel
theorem dX8_sell_63 : decode cX8_sell 63 = .ok (.iadd, 1) := by decide +kernel
theorem dX8_sell_64 : decode cX8_sell 64 = .ok (.iastore, 1) := by decide +kernel
theorem dX8_sell_65 : decode cX8_sell 65 = .ok (.aload_n 0, 1) := by decide +kernel
theorem dX8_sell_66 : decode cX8_sell 66 = .ok (.getfield 27, 3) := by decide +kernel
theorem dX8_sell_69 : decode cX8_sell 69 = .ok (.iload_n 2, 1) := by decide +kernel
theorem dX8_sell_70 : decode cX8_sell 70 = .ok (.dup2, 1) := by decide +kernel
theorem dX8_sell_71 : decode cX8_sell 71 = .ok (.iaload, 1) := by decide +kernel
theorem dX8_sell_72 : decode cX8_sell 72 = .ok (.iload 4, 2) := by decide +kernel
theorem dX8_sell_74 : decode cX8_sell 74 = .ok (.isub, 1) := by decide +kernel
theorem dX8_sell_75 : decode cX8_sell 75 = .ok (.iastore, 1) := by decide +kernel
theorem dX8_sell_76 : decode cX8_sell 76 = .ok (.aload_n 0, 1) := by decide +kernel
theorem dX8_sell_77 : decode cX8_sell 77 = .ok (.getfield 27, 3) := by decide +kernel
theorem dX8_sell_80 : decode cX8_sell 80 = .ok (.iload_n 3, 1) := by decide +kernel
theorem dX8_sell_81 : decode cX8_sell 81 = .ok (.dup2, 1) := by decide +kernel
theorem dX8_sell_82 : decode cX8_sell 82 = .ok (.iaload, 1) := by decide +kernel
theorem dX8_sell_83 : decode cX8_sell 83 = .ok (.iload 4, 2) := by decide +kernel
theorem dX8_sell_85 : decode cX8_sell 85 = .ok (.isub, 1) := by decide +kernel
theorem dX8_sell_86 : decode cX8_sell 86 = .ok (.iastore, 1) := by decide +kernel
theorem dX8_sell_87 : decode cX8_sell 87 = .ok (.aload_n 0, 1) := by decide +kernel
theorem dX8_sell_88 : decode cX8_sell 88 = .ok (.getfield 18, 3) := by decide +kernel
theorem dX8_sell_91 : decode cX8_sell 91 = .ok (.iload_n 1, 1) := by decide +kernel
theorem dX8_sell_92 : decode cX8_sell 92 = .ok (.aload_n 0, 1) := by decide +kernel
theorem dX8_sell_93 : decode cX8_sell 93 = .ok (.getfield 30, 3) := by decide +kernel
theorem dX8_sell_96 : decode cX8_sell 96 = .ok (.iload_n 2, 1) := by decide +kernel
theorem dX8_sell_97 : decode cX8_sell 97 = .ok (.iaload, 1) := by decide +kernel
theorem dX8_sell_98 : decode cX8_sell 98 = .ok (.iastore, 1) := by decide +kernel
theorem dX8_sell_99 : decode cX8_sell 99 = .ok (.return_, 1) := by decide +kernel
theorem dX8_clearStanding_0 : decode cX8_clearStanding 0 = .ok (.iconst 0, 1) := by decide +kernel
theorem dX8_clearStanding_1 : decode cX8_clearStanding 1 = .ok (.istore_n 2, 1) := by decide +kernel
theorem dX8_clearStanding_2 : decode cX8_clearStanding 2 = .ok (.iconst 0, 1) := by decide +kernel
theorem dX8_clearStanding_3 : decode cX8_clearStanding 3 = .ok (.istore_n 3, 1) := by decide +kernel
theorem dX8_clearStanding_4 : decode cX8_clearStanding 4 = .ok (.iload_n 3, 1) := by decide +kernel
theorem dX8_clearStanding_5 : decode cX8_clearStanding 5 = .ok (.aload_n 0, 1) := by decide +kernel
theorem dX8_clearStanding_6 : decode cX8_clearStanding 6 = .ok (.getfield 42, 3) := by decide +kernel
theorem dX8_clearStanding_9 : decode cX8_clearStanding 9 = .ok (.if_icmp .ge 85, 3) := by decide +kernel
theorem dX8_clearStanding_12 : decode cX8_clearStanding 12 = .ok (.aload_n 0, 1) := by decide +kernel
theorem dX8_clearStanding_13 : decode cX8_clearStanding 13 = .ok (.getfield 21, 3) := by decide +kernel
theorem dX8_clearStanding_16 : decode cX8_clearStanding 16 = .ok (.iload_n 3, 1) := by decide +kernel
theorem dX8_clearStanding_17 : decode cX8_clearStanding 17 = .ok (.iaload, 1) := by decide +kernel
theorem dX8_clearStanding_18 : decode cX8_clearStanding 18 = .ok (.iload_n 1, 1) := by decide +kernel
theorem dX8_clearStanding_19 : decode cX8_clearStanding 19 = .ok (.if_icmp .ne 6, 3) := by decide +kernel
theorem dX8_clearStanding_22 : decode cX8_clearStanding 22 = .ok (.goto 66, 3) := by decide +kernel
theorem dX8_clearStanding_25 : decode cX8_clearStanding 25 = .ok (.aload_n 0, 1) := by decide +kernel
theorem dX8_clearStanding_26 : decode cX8_clearStanding 26 = .ok (.getfield 21, 3) := by decide +kernel
theorem dX8_clearStanding_29 : decode cX8_clearStanding 29 = .ok (.iload_n 2, 1) := by decide +kernel
theorem dX8_clearStanding_30 : decode cX8_clearStanding 30 = .ok (.aload_n 0, 1) := by decide +kernel
theorem dX8_clearStanding_31 : decode cX8_clearStanding 31 = .ok (.getfield 21, 3) := by decide +kernel
theorem dX8_clearStanding_34 : decode cX8_clearStanding 34 = .ok (.iload_n 3, 1) := by decide +kernel
theorem dX8_clearStanding_35 : decode cX8_clearStanding 35 = .ok (.iaload, 1) := by decide +kernel
theorem dX8_clearStanding_36 : decode cX8_clearStanding 36 = .ok (.iastore, 1) := by decide +kernel
theorem dX8_clearStanding_37 : decode cX8_clearStanding 37 = .ok (.aload_n 0, 1) := by decide +kernel
theorem dX8_clearStanding_38 : decode cX8_clearStanding 38 = .ok (.getfield 24, 3) := by decide +kernel
theorem dX8_clearStanding_41 : decode cX8_clearStanding 41 = .ok (.iload_n 2, 1) := by decide +kernel
theorem dX8_clearStanding_42 : decode cX8_clearStanding 42 = .ok (.aload_n 0, 1) := by decide +kernel
theorem dX8_clearStanding_43 : decode cX8_clearStanding 43 = .ok (.getfield 24, 3) := by decide +kernel
theorem dX8_clearStanding_46 : decode cX8_clearStanding 46 = .ok (.iload_n 3, 1) := by decide +kernel
theorem dX8_clearStanding_47 : decode cX8_clearStanding 47 = .ok (.iaload, 1) := by decide +kernel
theorem dX8_clearStanding_48 : decode cX8_clearStanding 48 = .ok (.iastore, 1) := by decide +kernel
theorem dX8_clearStanding_49 : decode cX8_clearStanding 49 = .ok (.aload_n 0, 1) := by decide +kernel
theorem dX8_clearStanding_50 : decode cX8_clearStanding 50 = .ok (.getfield 27, 3) := by decide +kernel
theorem dX8_clearStanding_53 : decode cX8_clearStanding 53 = .ok (.iload_n 2, 1) := by decide +kernel
theorem dX8_clearStanding_54 : decode cX8_clearStanding 54 = .ok (.aload_n 0, 1) := by decide +kernel
theorem dX8_clearStanding_55 : decode cX8_clearStanding 55 = .ok (.getfield 27, 3) := by decide +kernel
theorem dX8_clearStanding_58 : decode cX8_clearStanding 58 = .ok (.iload_n 3, 1) := by decide +kernel
theorem dX8_clearStanding_59 : decode cX8_clearStanding 59 = .ok (.iaload, 1) := by decide +kernel
theorem dX8_clearStanding_60 : decode cX8_clearStanding 60 = .ok (.iastore, 1) := by decide +kernel
theorem dX8_clearStanding_61 : decode cX8_clearStanding 61 = .ok (.aload_n 0, 1) := by decide +kernel
theorem dX8_clearStanding_62 : decode cX8_clearStanding 62 = .ok (.getfield 30, 3) := by decide +kernel
theorem dX8_clearStanding_65 : decode cX8_clearStanding 65 = .ok (.iload_n 2, 1) := by decide +kernel
theorem dX8_clearStanding_66 : decode cX8_clearStanding 66 = .ok (.aload_n 0, 1) := by decide +kernel
theorem dX8_clearStanding_67 : decode cX8_clearStanding 67 = .ok (.getfield 30, 3) := by decide +kernel
theorem dX8_clearStanding_70 : decode cX8_clearStanding 70 = .ok (.iload_n 3, 1) := by decide +kernel
theorem dX8_clearStanding_71 : decode cX8_clearStanding 71 = .ok (.iaload, 1) := by decide +kernel
theorem dX8_clearStanding_72 : decode cX8_clearStanding 72 = .ok (.iastore, 1) := by decide +kernel
theorem dX8_clearStanding_73 : decode cX8_clearStanding 73 = .ok (.aload_n 0, 1) := by decide +kernel
theorem dX8_clearStanding_74 : decode cX8_clearStanding 74 = .ok (.getfield 33, 3) := by decide +kernel
theorem dX8_clearStanding_77 : decode cX8_clearStanding 77 = .ok (.iload_n 2, 1) := by decide +kernel
theorem dX8_clearStanding_78 : decode cX8_clearStanding 78 = .ok (.aload_n 0, 1) := by decide +kernel
theorem dX8_clearStanding_79 : decode cX8_clearStanding 79 = .ok (.getfield 33, 3) := by decide +kernel
theorem dX8_clearStanding_82 : decode cX8_clearStanding 82 = .ok (.iload_n 3, 1) := by decide +kernel
theorem dX8_clearStanding_83 : decode cX8_clearStanding 83 = .ok (.iaload, 1) := by decide +kernel
theorem dX8_clearStanding_84 : decode cX8_clearStanding 84 = .ok (.iastore, 1) := by decide +kernel
theorem dX8_clearStanding_85 : decode cX8_clearStanding 85 = .ok (.iinc 2 1, 3) := by decide +kernel
theorem dX8_clearStanding_88 : decode cX8_clearStanding 88 = .ok (.iinc 3 1, 3) := by decide +kernel
theorem dX8_clearStanding_91 : decode cX8_clearStanding 91 = .ok (.goto (-87), 3) := by decide +kernel
theorem dX8_clearStanding_94 : decode cX8_clearStanding 94 = .ok (.aload_n 0, 1) := by decide +kernel
theorem dX8_clearStanding_95 : decode cX8_clearStanding 95 = .ok (.iload_n 2, 1) := by decide +kernel
theorem dX8_clearStanding_96 : decode cX8_clearStanding 96 = .ok (.putfield 42, 3) := by decide +kernel
theorem dX8_clearStanding_99 : decode cX8_clearStanding 99 = .ok (.return_, 1) := by decide +kernel
theorem dX9_init_0 : decode cX9_init 0 = .ok (.aload_n 0, 1) := by decide +kernel
theorem dX9_init_1 : decode cX9_init 1 = .ok (.invokespecial 3, 3) := by decide +kernel
theorem dX9_init_4 : decode cX9_init 4 = .ok (.aload_n 0, 1) := by decide +kernel
theorem dX9_init_5 : decode cX9_init 5 = .ok (.bipush 40, 2) := by decide +kernel
theorem dX9_init_7 : decode cX9_init 7 = .ok (.newarray .int, 2) := by decide +kernel
theorem dX9_init_9 : decode cX9_init 9 = .ok (.putfield 9, 3) := by decide +kernel
theorem dX9_init_12 : decode cX9_init 12 = .ok (.aload_n 0, 1) := by decide +kernel
theorem dX9_init_13 : decode cX9_init 13 = .ok (.iconst (-1), 1) := by decide +kernel
theorem dX9_init_14 : decode cX9_init 14 = .ok (.putfield 15, 3) := by decide +kernel
theorem dX9_init_17 : decode cX9_init 17 = .ok (.return_, 1) := by decide +kernel
theorem dX9_become_0 : decode cX9_become 0 = .ok (.aload_n 1, 1) := by decide +kernel
theorem dX9_become_1 : decode cX9_become 1 = .ok (.getfield 9, 3) := by decide +kernel
theorem dX9_become_4 : decode cX9_become 4 = .ok (.iconst 0, 1) := by decide +kernel
theorem dX9_become_5 : decode cX9_become 5 = .ok (.aload_n 0, 1) := by decide +kernel
theorem dX9_become_6 : decode cX9_become 6 = .ok (.getfield 9, 3) := by decide +kernel
theorem dX9_become_9 : decode cX9_become 9 = .ok (.iconst 0, 1) := by decide +kernel
theorem dX9_become_10 : decode cX9_become 10 = .ok (.bipush 40, 2) := by decide +kernel
theorem dX9_become_12 : decode cX9_become 12 = .ok (.invokestatic 19, 3) := by decide +kernel
theorem dX9_become_15 : decode cX9_become 15 = .ok (.aload_n 0, 1) := by decide +kernel
theorem dX9_become_16 : decode cX9_become 16 = .ok (.aload_n 1, 1) := by decide +kernel
theorem dX9_become_17 : decode cX9_become 17 = .ok (.getfield 15, 3) := by decide +kernel
theorem dX9_become_20 : decode cX9_become 20 = .ok (.putfield 15, 3) := by decide +kernel
theorem dX9_become_23 : decode cX9_become 23 = .ok (.aload_n 0, 1) := by decide +kernel
theorem dX9_become_24 : decode cX9_become 24 = .ok (.aload_n 1, 1) := by decide +kernel
theorem dX9_become_25 : decode cX9_become 25 = .ok (.getfield 25, 3) := by decide +kernel
theorem dX9_become_28 : decode cX9_become 28 = .ok (.putfield 25, 3) := by decide +kernel
theorem dX9_become_31 : decode cX9_become 31 = .ok (.return_, 1) := by decide +kernel
theorem dX9_clear_0 : decode cX9_clear 0 = .ok (.aload_n 0, 1) := by decide +kernel
theorem dX9_clear_1 : decode cX9_clear 1 = .ok (.getfield 9, 3) := by decide +kernel
theorem dX9_clear_4 : decode cX9_clear 4 = .ok (.iconst 0, 1) := by decide +kernel
theorem dX9_clear_5 : decode cX9_clear 5 = .ok (.invokestatic 28, 3) := by decide +kernel
theorem dX9_clear_8 : decode cX9_clear 8 = .ok (.aload_n 0, 1) := by decide +kernel
theorem dX9_clear_9 : decode cX9_clear 9 = .ok (.iload_n 1, 1) := by decide +kernel
theorem dX9_clear_10 : decode cX9_clear 10 = .ok (.putfield 15, 3) := by decide +kernel
theorem dX9_clear_13 : decode cX9_clear 13 = .ok (.aload_n 0, 1) := by decide +kernel
theorem dX9_clear_14 : decode cX9_clear 14 = .ok (.iload_n 2, 1) := by decide +kernel
theorem dX9_clear_15 : decode cX9_clear 15 = .ok (.putfield 25, 3) := by decide +kernel
theorem dX9_clear_18 : decode cX9_clear 18 = .ok (.return_, 1) := by decide +kernel
theorem dX9_put_0 : decode cX9_put 0 = .ok (.aload_n 0, 1) := by decide +kernel
theorem dX9_put_1 : decode cX9_put 1 = .ok (.getfield 9, 3) := by decide +kernel
theorem dX9_put_4 : decode cX9_put 4 = .ok (.iload_n 1, 1) := by decide +kernel
theorem dX9_put_5 : decode cX9_put 5 = .ok (.aload_n 0, 1) := by decide +kernel
theorem dX9_put_6 : decode cX9_put 6 = .ok (.getfield 15, 3) := by decide +kernel
theorem dX9_put_9 : decode cX9_put 9 = .ok (.ifCond .ne 8, 3) := by decide +kernel
theorem dX9_put_12 : decode cX9_put 12 = .ok (.iload_n 2, 1) := by decide +kernel
theorem dX9_put_13 : decode cX9_put 13 = .ok (.i2b, 1) := by decide +kernel
theorem dX9_put_14 : decode cX9_put 14 = .ok (.goto 17, 3) := by decide +kernel
theorem dX9_put_17 : decode cX9_put 17 = .ok (.aload_n 0, 1) := by decide +kernel
theorem dX9_put_18 : decode cX9_put 18 = .ok (.getfield 15, 3) := by decide +kernel
theorem dX9_put_21 : decode cX9_put 21 = .ok (.iconst 1, 1) := by decide +kernel
theorem dX9_put_22 : decode cX9_put 22 = .ok (.if_icmp .ne 8, 3) := by decide +kernel
theorem dX9_put_25 : decode cX9_put 25 = .ok (.iload_n 2, 1) := by decide +kernel
theorem dX9_put_26 : decode cX9_put 26 = .ok (.i2s, 1) := by decide +kernel
theorem dX9_put_27 : decode cX9_put 27 = .ok (.goto 4, 3) := by decide +kernel
theorem dX9_put_30 : decode cX9_put 30 = .ok (.iload_n 2, 1) := by decide +kernel
theorem dX9_put_31 : decode cX9_put 31 = .ok (.iastore, 1) := by decide +kernel
theorem dX9_put_32 : decode cX9_put 32 = .ok (.return_, 1) := by decide +kernel
theorem dX9_has_0 : decode cX9_has 0 = .ok (.iload_n 1, 1) := by decide +kernel
theorem dX9_has_1 : decode cX9_has 1 = .ok (.ifCond .lt 29, 3) := by decide +kernel
theorem dX9_has_4 : decode cX9_has 4 = .ok (.iload_n 2, 1) := by decide +kernel
theorem dX9_has_5 : decode cX9_has 5 = .ok (.ifCond .lt 25, 3) := by decide +kernel
theorem dX9_has_8 : decode cX9_has 8 = .ok (.iload_n 2, 1) := by decide +kernel
theorem dX9_has_9 : decode cX9_has 9 = .ok (.aload_n 0, 1) := by decide +kernel
theorem dX9_has_10 : decode cX9_has 10 = .ok (.getfield 25, 3) := by decide +kernel
theorem dX9_has_13 : decode cX9_has 13 = .ok (.if_icmp .gt 17, 3) := by decide +kernel
theorem dX9_has_16 : decode cX9_has 16 = .ok (.iload_n 1, 1) := by decide +kernel
theorem dX9_has_17 : decode cX9_has 17 = .ok (.aload_n 0, 1) := by decide +kernel
theorem dX9_has_18 : decode cX9_has 18 = .ok (.getfield 25, 3) := by decide +kernel
theorem dX9_has_21 : decode cX9_has 21 = .ok (.iload_n 2, 1) := by decide +kernel
theorem dX9_has_22 : decode cX9_has 22 = .ok (.isub, 1) := by decide +kernel
theorem dX9_has_23 : decode cX9_has 23 = .ok (.if_icmp .gt 7, 3) := by decide +kernel
theorem dX9_has_26 : decode cX9_has 26 = .ok (.iconst 1, 1) := by decide +kernel
theorem dX9_has_27 : decode cX9_has 27 = .ok (.goto 4, 3) := by decide +kernel
theorem dX9_has_30 : decode cX9_has 30 = .ok (.iconst 0, 1) := by decide +kernel
theorem dX9_has_31 : decode cX9_has 31 = .ok (.ireturn, 1) := by decide +kernel
theorem dX10_init_0 : decode cX10_init 0 = .ok (.aload_n 0, 1) := by decide +kernel
theorem dX10_init_1 : decode cX10_init 1 = .ok (.invokespecial 3, 3) := by decide +kernel
theorem dX10_init_4 : decode cX10_init 4 = .ok (.aload_n 0, 1) := by decide +kernel
theorem dX10_init_5 : decode cX10_init 5 = .ok (.new 9, 3) := by decide +kernel
theorem dX10_init_8 : decode cX10_init 8 = .ok (.dup, 1) := by decide +kernel
theorem dX10_init_9 : decode cX10_init 9 = .ok (.invokespecial 11, 3) := by decide +kernel
theorem dX10_init_12 : decode cX10_init 12 = .ok (.putfield 12, 3) := by decide +kernel
theorem dX10_init_15 : decode cX10_init 15 = .ok (.aload_n 0, 1) := by decide +kernel
theorem dX10_init_16 : decode cX10_init 16 = .ok (.new 18, 3) := by decide +kernel
theorem dX10_init_19 : decode cX10_init 19 = .ok (.dup, 1) := by decide +kernel
theorem dX10_init_20 : decode cX10_init 20 = .ok (.invokespecial 20, 3) := by decide +kernel
theorem dX10_init_23 : decode cX10_init 23 = .ok (.putfield 21, 3) := by decide +kernel
theorem dX10_init_26 : decode cX10_init 26 = .ok (.aload_n 0, 1) := by decide +kernel
theorem dX10_init_27 : decode cX10_init 27 = .ok (.new 25, 3) := by decide +kernel
theorem dX10_init_30 : decode cX10_init 30 = .ok (.dup, 1) := by decide +kernel
theorem dX10_init_31 : decode cX10_init 31 = .ok (.invokespecial 27, 3) := by decide +kernel
theorem dX10_init_34 : decode cX10_init 34 = .ok (.putfield 28, 3) := by decide +kernel
theorem dX10_init_37 : decode cX10_init 37 = .ok (.aload_n 0, 1) := by decide +kernel
theorem dX10_init_38 : decode cX10_init 38 = .ok (.new 32, 3) := by decide +kernel
theorem dX10_init_41 : decode cX10_init 41 = .ok (.dup, 1) := by decide +kernel
theorem dX10_init_42 : decode cX10_init 42 = .ok (.invokespecial 34, 3) := by decide +kernel
theorem dX10_init_45 : decode cX10_init 45 = .ok (.putfield 35, 3) := by decide +kernel
theorem dX10_init_48 : decode cX10_init 48 = .ok (.aload_n 0, 1) := by decide +kernel
theorem dX10_init_49 : decode cX10_init 49 = .ok (.iconst 4, 1) := by decide +kernel
theorem dX10_init_50 : decode cX10_init 50 = .ok (.anewarray 39, 3) := by decide +kernel
theorem dX10_init_53 : decode cX10_init 53 = .ok (.putfield 41, 3) := by decide +kernel
theorem dX10_init_56 : decode cX10_init 56 = .ok (.aload_n 0, 1) := by decide +kernel
theorem dX10_init_57 : decode cX10_init 57 = .ok (.sipush 140, 3) := by decide +kernel
theorem dX10_init_60 : decode cX10_init 60 = .ok (.newarray .byte, 2) := by decide +kernel
theorem dX10_init_62 : decode cX10_init 62 = .ok (.putfield 45, 3) := by decide +kernel
theorem dX10_init_65 : decode cX10_init 65 = .ok (.aload_n 0, 1) := by decide +kernel
theorem dX10_init_66 : decode cX10_init 66 = .ok (.bipush 9, 2) := by decide +kernel
theorem dX10_init_68 : decode cX10_init 68 = .ok (.anewarray 49, 3) := by decide +kernel
theorem dX10_init_71 : decode cX10_init 71 = .ok (.putfield 51, 3) := by decide +kernel
theorem dX10_init_74 : decode cX10_init 74 = .ok (.iconst 0, 1) := by decide +kernel
theorem dX10_init_75 : decode cX10_init 75 = .ok (.istore_n 1, 1) := by decide +kernel
theorem dX10_init_76 : decode cX10_init 76 = .ok (.iload_n 1, 1) := by decide +kernel
theorem dX10_init_77 : decode cX10_init 77 = .ok (.iconst 4, 1) := by decide +kernel
theorem dX10_init_78 : decode cX10_init 78 = .ok (.if_icmp .ge 22, 3) := by decide +kernel
theorem dX10_init_81 : decode cX10_init 81 = .ok (.aload_n 0, 1) := by decide +kernel
theorem dX10_init_82 : decode cX10_init 82 = .ok (.getfield 41, 3) := by decide +kernel
theorem dX10_init_85 : decode cX10_init 85 = .ok (.iload_n 1, 1) := by decide +kernel
theorem dX10_init_86 : decode cX10_init 86 = .ok (.new 39, 3) := by decide +kernel
theorem dX10_init_89 : decode cX10_init 89 = .ok (.dup, 1) := by decide +kernel
theorem dX10_init_90 : decode cX10_init 90 = .ok (.invokespecial 55, 3) := by decide +kernel
theorem dX10_init_93 : decode cX10_init 93 = .ok (.aastore, 1) := by decide +kernel
theorem dX10_init_94 : decode cX10_init 94 = .ok (.iinc 1 1, 3) := by decide +kernel
theorem dX10_init_97 : decode cX10_init 97 = .ok (.goto (-21), 3) := by decide +kernel
theorem dX10_init_100 : decode cX10_init 100 = .ok (.return_, 1) := by decide +kernel
theorem dX10_become_0 : decode cX10_become 0 = .ok (.aload_n 0, 1) := by decide +kernel
theorem dX10_become_1 : decode cX10_become 1 = .ok (.getfield 12, 3) := by decide +kernel
theorem dX10_become_4 : decode cX10_become 4 = .ok (.aload_n 1, 1) := by decide +kernel
theorem dX10_become_5 : decode cX10_become 5 = .ok (.getfield 12, 3) := by decide +kernel
theorem dX10_become_8 : decode cX10_become 8 = .ok (.invokevirtual 56, 3) := by decide +kernel
theorem dX10_become_11 : decode cX10_become 11 = .ok (.aload_n 0, 1) := by decide +kernel
theorem dX10_become_12 : decode cX10_become 12 = .ok (.getfield 21, 3) := by decide +kernel
theorem dX10_become_15 : decode cX10_become 15 = .ok (.aload_n 1, 1) := by decide +kernel
theorem dX10_become_16 : decode cX10_become 16 = .ok (.getfield 21, 3) := by decide +kernel
theorem dX10_become_19 : decode cX10_become 19 = .ok (.invokevirtual 60, 3) := by decide +kernel
theorem dX10_become_22 : decode cX10_become 22 = .ok (.aload_n 0, 1) := by decide +kernel
theorem dX10_become_23 : decode cX10_become 23 = .ok (.getfield 28, 3) := by decide +kernel
theorem dX10_become_26 : decode cX10_become 26 = .ok (.aload_n 1, 1) := by decide +kernel
theorem dX10_become_27 : decode cX10_become 27 = .ok (.getfield 28, 3) := by decide +kernel
theorem dX10_become_30 : decode cX10_become 30 = .ok (.invokevirtual 63, 3) := by decide +kernel
theorem dX10_become_33 : decode cX10_become 33 = .ok (.aload_n 0, 1) := by decide +kernel
theorem dX10_become_34 : decode cX10_become 34 = .ok (.getfield 35, 3) := by decide +kernel
theorem dX10_become_37 : decode cX10_become 37 = .ok (.aload_n 1, 1) := by decide +kernel
theorem dX10_become_38 : decode cX10_become 38 = .ok (.getfield 35, 3) := by decide +kernel
theorem dX10_become_41 : decode cX10_become 41 = .ok (.invokevirtual 66, 3) := by decide +kernel
theorem dX10_become_44 : decode cX10_become 44 = .ok (.iconst 0, 1) := by decide +kernel
theorem dX10_become_45 : decode cX10_become 45 = .ok (.istore_n 2, 1) := by decide +kernel
theorem dX10_become_46 : decode cX10_become 46 = .ok (.iload_n 2, 1) := by decide +kernel
theorem dX10_become_47 : decode cX10_become 47 = .ok (.iconst 4, 1) := by decide +kernel
theorem dX10_become_48 : decode cX10_become 48 = .ok (.if_icmp .ge 24, 3) := by decide +kernel
theorem dX10_become_51 : decode cX10_become 51 = .ok (.aload_n 0, 1) := by decide +kernel
theorem dX10_become_52 : decode cX10_become 52 = .ok (.getfield 41, 3) := by decide +kernel
theorem dX10_become_55 : decode cX10_become 55 = .ok (.iload_n 2, 1) := by decide +kernel
theorem dX10_become_56 : decode cX10_become 56 = .ok (.aaload, 1) := by decide +kernel
theorem dX10_become_57 : decode cX10_become 57 = .ok (.aload_n 1, 1) := by decide +kernel
theorem dX10_become_58 : decode cX10_become 58 = .ok (.getfield 41, 3) := by decide +kernel
theorem dX10_become_61 : decode cX10_become 61 = .ok (.iload_n 2, 1) := by decide +kernel
theorem dX10_become_62 : decode cX10_become 62 = .ok (.aaload, 1) := by decide +kernel
theorem dX10_become_63 : decode cX10_become 63 = .ok (.invokevirtual 69, 3) := by decide +kernel
theorem dX10_become_66 : decode cX10_become 66 = .ok (.iinc 2 1, 3) := by decide +kernel
theorem dX10_become_69 : decode cX10_become 69 = .ok (.goto (-23), 3) := by decide +kernel
theorem dX10_become_72 : decode cX10_become 72 = .ok (.aload_n 1, 1) := by decide +kernel
theorem dX10_become_73 : decode cX10_become 73 = .ok (.getfield 45, 3) := by decide +kernel
theorem dX10_become_76 : decode cX10_become 76 = .ok (.iconst 0, 1) := by decide +kernel
theorem dX10_become_77 : decode cX10_become 77 = .ok (.aload_n 0, 1) := by decide +kernel
theorem dX10_become_78 : decode cX10_become 78 = .ok (.getfield 45, 3) := by decide +kernel
theorem dX10_become_81 : decode cX10_become 81 = .ok (.iconst 0, 1) := by decide +kernel
theorem dX10_become_82 : decode cX10_become 82 = .ok (.sipush 140, 3) := by decide +kernel
theorem dX10_become_85 : decode cX10_become 85 = .ok (.invokestatic 72, 3) := by decide +kernel
theorem dX10_become_88 : decode cX10_become 88 = .ok (.iconst 0, 1) := by decide +kernel
theorem dX10_become_89 : decode cX10_become 89 = .ok (.istore_n 2, 1) := by decide +kernel
theorem dX10_become_90 : decode cX10_become 90 = .ok (.iload_n 2, 1) := by decide +kernel
theorem dX10_become_91 : decode cX10_become 91 = .ok (.aload_n 0, 1) := by decide +kernel
theorem dX10_become_92 : decode cX10_become 92 = .ok (.getfield 51, 3) := by decide +kernel
theorem dX10_become_95 : decode cX10_become 95 = .ok (.arraylength, 1) := by decide +kernel
theorem dX10_become_96 : decode cX10_become 96 = .ok (.if_icmp .ge 21, 3) := by decide +kernel
theorem dX10_become_99 : decode cX10_become 99 = .ok (.aload_n 0, 1) := by decide +kernel
theorem dX10_become_100 : decode cX10_become 100 = .ok (.getfield 51, 3) := by decide +kernel
theorem dX10_become_103 : decode cX10_become 103 = .ok (.iload_n 2, 1) := by decide +kernel
theorem dX10_become_104 : decode cX10_become 104 = .ok (.aload_n 1, 1) := by decide +kernel
theorem dX10_become_105 : decode cX10_become 105 = .ok (.getfield 51, 3) := by decide +kernel
theorem dX10_become_108 : decode cX10_become 108 = .ok (.iload_n 2, 1) := by decide +kernel
theorem dX10_become_109 : decode cX10_become 109 = .ok (.aaload, 1) := by decide +kernel
theorem dX10_become_110 : decode cX10_become 110 = .ok (.aastore, 1) := by decide +kernel
theorem dX10_become_111 : decode cX10_become 111 = .ok (.iinc 2 1, 3) := by decide +kernel
theorem dX10_become_114 : decode cX10_become 114 = .ok (.goto (-24), 3) := by decide +kernel
theorem dX10_become_117 : decode cX10_become 117 = .ok (.aload_n 0, 1) := by decide +kernel
theorem dX10_become_118 : decode cX10_become 118 = .ok (.aload_n 1, 1) := by decide +kernel
theorem dX10_become_119 : decode cX10_become 119 = .ok (.getfield 78, 3) := by decide +kernel
theorem dX10_become_122 : decode cX10_become 122 = .ok (.putfield 78, 3) := by decide +kernel
theorem dX10_become_125 : decode cX10_become 125 = .ok (.aload_n 0, 1) := by decide +kernel
theorem dX10_become_126 : decode cX10_become 126 = .ok (.aload_n 1, 1) := by decide +kernel
theorem dX10_become_127 : decode cX10_become 127 = .ok (.getfield 82, 3) := by decide +kernel
theorem dX10_become_130 : decode cX10_become 130 = .ok (.putfield 82, 3) := by decide +kernel
theorem dX10_become_133 : decode cX10_become 133 = .ok (.aload_n 0, 1) := by decide +kernel
theorem dX10_become_134 : decode cX10_become 134 = .ok (.aload_n 1, 1) := by decide +kernel
theorem dX10_become_135 : decode cX10_become 135 = .ok (.getfield 85, 3) := by decide +kernel
theorem dX10_become_138 : decode cX10_become 138 = .ok (.putfield 85, 3) := by decide +kernel
theorem dX10_become_141 : decode cX10_become 141 = .ok (.aload_n 0, 1) := by decide +kernel
theorem dX10_become_142 : decode cX10_become 142 = .ok (.aload_n 1, 1) := by decide +kernel
theorem dX10_become_143 : decode cX10_become 143 = .ok (.getfield 88, 3) := by decide +kernel
theorem dX10_become_146 : decode cX10_become 146 = .ok (.putfield 88, 3) := by decide +kernel
theorem dX10_become_149 : decode cX10_become 149 = .ok (.return_, 1) := by decide +kernel
theorem dX10_takeTape_0 : decode cX10_takeTape 0 = .ok (.new 49, 3) := by decide +kernel
theorem dX10_takeTape_3 : decode cX10_takeTape 3 = .ok (.dup, 1) := by decide +kernel
theorem dX10_takeTape_4 : decode cX10_takeTape 4 = .ok (.iload_n 1, 1) := by decide +kernel
theorem dX10_takeTape_5 : decode cX10_takeTape 5 = .ok (.aload_n 0, 1) := by decide +kernel
theorem dX10_takeTape_6 : decode cX10_takeTape 6 = .ok (.getfield 45, 3) := by decide +kernel
theorem dX10_takeTape_9 : decode cX10_takeTape 9 = .ok (.aload_n 0, 1) := by decide +kernel
theorem dX10_takeTape_10 : decode cX10_takeTape 10 = .ok (.getfield 78, 3) := by decide +kernel
theorem dX10_takeTape_13 : decode cX10_takeTape 13 = .ok (.invokespecial 91, 3) := by decide +kernel
theorem dX10_takeTape_16 : decode cX10_takeTape 16 = .ok (.astore_n 2, 1) := by decide +kernel
theorem dX10_takeTape_17 : decode cX10_takeTape 17 = .ok (.aload_n 0, 1) := by decide +kernel
theorem dX10_takeTape_18 : decode cX10_takeTape 18 = .ok (.iconst 0, 1) := by decide +kernel
theorem dX10_takeTape_19 : decode cX10_takeTape 19 = .ok (.putfield 78, 3) := by decide +kernel
theorem dX10_takeTape_22 : decode cX10_takeTape 22 = .ok (.aload_n 2, 1) := by decide +kernel
theorem dX10_takeTape_23 : decode cX10_takeTape 23 = .ok (.areturn, 1) := by decide +kernel
theorem dX10_enforce_0 : decode cX10_enforce 0 = .ok (.aload_n 0, 1) := by decide +kernel
theorem dX10_enforce_1 : decode cX10_enforce 1 = .ok (.getfield 82, 3) := by decide +kernel
theorem dX10_enforce_4 : decode cX10_enforce 4 = .ok (.aload_n 0, 1) := by decide +kernel
theorem dX10_enforce_5 : decode cX10_enforce 5 = .ok (.getfield 51, 3) := by decide +kernel
theorem dX10_enforce_8 : decode cX10_enforce 8 = .ok (.arraylength, 1) := by decide +kernel
theorem dX10_enforce_9 : decode cX10_enforce 9 = .ok (.if_icmp .lt 6, 3) := by decide +kernel
theorem dX10_enforce_12 : decode cX10_enforce 12 = .ok (.bipush (-4), 2) := by decide +kernel
theorem dX10_enforce_14 : decode cX10_enforce 14 = .ok (.ireturn, 1) := by decide +kernel
theorem dX10_enforce_15 : decode cX10_enforce 15 = .ok (.aload_n 0, 1) := by decide +kernel
theorem dX10_enforce_16 : decode cX10_enforce 16 = .ok (.getfield 51, 3) := by decide +kernel
theorem dX10_enforce_19 : decode cX10_enforce 19 = .ok (.aload_n 0, 1) := by decide +kernel
theorem dX10_enforce_20 : decode cX10_enforce 20 = .ok (.getfield 82, 3) := by decide +kernel
theorem dX10_enforce_23 : decode cX10_enforce 23 = .ok (.aload_n 1, 1) := by decide +kernel
theorem dX10_enforce_24 : decode cX10_enforce 24 = .ok (.aastore, 1) := by decide +kernel
theorem dX10_enforce_25 : decode cX10_enforce 25 = .ok (.aload_n 0, 1) := by decide +kernel
theorem dX10_enforce_26 : decode cX10_enforce 26 = .ok (.dup, 1) := by decide +kernel
theorem dX10_enforce_27 : decode cX10_enforce 27 = .ok (.getfield 82, 3) := by decide +kernel
theorem dX10_enforce_30 : decode cX10_enforce 30 = .ok (.iconst 1, 1) := by decide +kernel
theorem dX10_enforce_31 : decode cX10_enforce 31 = .ok (.iadd, 1) := by decide +kernel
theorem dX10_enforce_32 : decode cX10_enforce 32 = .ok (.putfield 82, 3) := by decide +kernel
theorem dX10_enforce_35 : decode cX10_enforce 35 = .ok (.aload_n 0, 1) := by decide +kernel
theorem dX10_enforce_36 : decode cX10_enforce 36 = .ok (.getfield 82, 3) := by decide +kernel
theorem dX10_enforce_39 : decode cX10_enforce 39 = .ok (.iconst 1, 1) := by decide +kernel
theorem dX10_enforce_40 : decode cX10_enforce 40 = .ok (.isub, 1) := by decide +kernel
theorem dX10_enforce_41 : decode cX10_enforce 41 = .ok (.ireturn, 1) := by decide +kernel
theorem dX10_dropLatestOrder_0 : decode cX10_dropLatestOrder 0 = .ok (.aload_n 0, 1) := by decide +kernel
theorem dX10_dropLatestOrder_1 : decode cX10_dropLatestOrder 1 = .ok (.getfield 82, 3) := by decide +kernel
theorem dX10_dropLatestOrder_4 : decode cX10_dropLatestOrder 4 = .ok (.ifCond .ne 4, 3) := by decide +kernel
theorem dX10_dropLatestOrder_7 : decode cX10_dropLatestOrder 7 = .ok (.return_, 1) := by decide +kernel
theorem dX10_dropLatestOrder_8 : decode cX10_dropLatestOrder 8 = .ok (.aload_n 0, 1) := by decide +kernel
theorem dX10_dropLatestOrder_9 : decode cX10_dropLatestOrder 9 = .ok (.dup, 1) := by decide +kernel
theorem dX10_dropLatestOrder_10 : decode cX10_dropLatestOrder 10 = .ok (.getfield 82, 3) := by decide +kernel
theorem dX10_dropLatestOrder_13 : decode cX10_dropLatestOrder 13 = .ok (.iconst 1, 1) := by decide +kernel
theorem dX10_dropLatestOrder_14 : decode cX10_dropLatestOrder 14 = .ok (.isub, 1) := by decide +kernel
theorem dX10_dropLatestOrder_15 : decode cX10_dropLatestOrder 15 = .ok (.putfield 82, 3) := by decide +kernel
theorem dX10_dropLatestOrder_18 : decode cX10_dropLatestOrder 18 = .ok (.aload_n 0, 1) := by decide +kernel
theorem dX10_dropLatestOrder_19 : decode cX10_dropLatestOrder 19 = .ok (.getfield 51, 3) := by decide +kernel
theorem dX10_dropLatestOrder_22 : decode cX10_dropLatestOrder 22 = .ok (.aload_n 0, 1) := by decide +kernel
theorem dX10_dropLatestOrder_23 : decode cX10_dropLatestOrder 23 = .ok (.getfield 82, 3) := by decide +kernel
theorem dX10_dropLatestOrder_26 : decode cX10_dropLatestOrder 26 = .ok (.aconst_null, 1) := by decide +kernel
theorem dX10_dropLatestOrder_27 : decode cX10_dropLatestOrder 27 = .ok (.aastore, 1) := by decide +kernel
theorem dX10_dropLatestOrder_28 : decode cX10_dropLatestOrder 28 = .ok (.return_, 1) := by decide +kernel
theorem dX10_ordering_0 : decode cX10_ordering 0 = .ok (.iconst (-1), 1) := by decide +kernel
theorem dX10_ordering_1 : decode cX10_ordering 1 = .ok (.istore_n 3, 1) := by decide +kernel
theorem dX10_ordering_2 : decode cX10_ordering 2 = .ok (.iconst (-1), 1) := by decide +kernel
theorem dX10_ordering_3 : decode cX10_ordering 3 = .ok (.istore 4, 2) := by decide +kernel
theorem dX10_ordering_5 : decode cX10_ordering 5 = .ok (.iconst 0, 1) := by decide +kernel
theorem dX10_ordering_6 : decode cX10_ordering 6 = .ok (.istore 5, 2) := by decide +kernel
theorem dX10_ordering_8 : decode cX10_ordering 8 = .ok (.iload 5, 2) := by decide +kernel
theorem dX10_ordering_10 : decode cX10_ordering 10 = .ok (.aload_n 0, 1) := by decide +kernel
theorem dX10_ordering_11 : decode cX10_ordering 11 = .ok (.getfield 82, 3) := by decide +kernel
theorem dX10_ordering_14 : decode cX10_ordering 14 = .ok (.if_icmp .ge 63, 3) := by decide +kernel
theorem dX10_ordering_17 : decode cX10_ordering 17 = .ok (.aload_n 0, 1) := by decide +kernel
theorem dX10_ordering_18 : decode cX10_ordering 18 = .ok (.getfield 51, 3) := by decide +kernel
theorem dX10_ordering_21 : decode cX10_ordering 21 = .ok (.iload 5, 2) := by decide +kernel
theorem dX10_ordering_23 : decode cX10_ordering 23 = .ok (.aaload, 1) := by decide +kernel
theorem dX10_ordering_24 : decode cX10_ordering 24 = .ok (.astore 6, 2) := by decide +kernel
theorem dX10_ordering_26 : decode cX10_ordering 26 = .ok (.aload 6, 2) := by decide +kernel
theorem dX10_ordering_28 : decode cX10_ordering 28 = .ok (.ifnull 43, 3) := by decide +kernel
theorem dX10_ordering_31 : decode cX10_ordering 31 = .ok (.aload 6, 2) := by decide +kernel
theorem dX10_ordering_33 : decode cX10_ordering 33 = .ok (.getfield 94, 3) := by decide +kernel
theorem dX10_ordering_36 : decode cX10_ordering 36 = .ok (.iload_n 1, 1) := by decide +kernel
theorem dX10_ordering_37 : decode cX10_ordering 37 = .ok (.iaload, 1) := by decide +kernel
theorem dX10_ordering_38 : decode cX10_ordering 38 = .ok (.iconst (-1), 1) := by decide +kernel
theorem dX10_ordering_39 : decode cX10_ordering 39 = .ok (.if_icmp .eq 32, 3) := by decide +kernel
theorem dX10_ordering_42 : decode cX10_ordering 42 = .ok (.aload 6, 2) := by decide +kernel
theorem dX10_ordering_44 : decode cX10_ordering 44 = .ok (.getfield 98, 3) := by decide +kernel
theorem dX10_ordering_47 : decode cX10_ordering 47 = .ok (.iload_n 2, 1) := by decide +kernel
theorem dX10_ordering_48 : decode cX10_ordering 48 = .ok (.if_icmp .gt 23, 3) := by decide +kernel
theorem dX10_ordering_51 : decode cX10_ordering 51 = .ok (.aload 6, 2) := by decide +kernel
theorem dX10_ordering_53 : decode cX10_ordering 53 = .ok (.getfield 98, 3) := by decide +kernel
theorem dX10_ordering_56 : decode cX10_ordering 56 = .ok (.iload 4, 2) := by decide +kernel
theorem dX10_ordering_58 : decode cX10_ordering 58 = .ok (.if_icmp .lt 13, 3) := by decide +kernel
theorem dX10_ordering_61 : decode cX10_ordering 61 = .ok (.iload 5, 2) := by decide +kernel
theorem dX10_ordering_63 : decode cX10_ordering 63 = .ok (.istore_n 3, 1) := by decide +kernel
theorem dX10_ordering_64 : decode cX10_ordering 64 = .ok (.aload 6, 2) := by decide +kernel
theorem dX10_ordering_66 : decode cX10_ordering 66 = .ok (.getfield 98, 3) := by decide +kernel
theorem dX10_ordering_69 : decode cX10_ordering 69 = .ok (.istore 4, 2) := by decide +kernel
theorem dX10_ordering_71 : decode cX10_ordering 71 = .ok (.iinc 5 1, 3) := by decide +kernel
theorem dX10_ordering_74 : decode cX10_ordering 74 = .ok (.goto (-66), 3) := by decide +kernel
theorem dX10_ordering_77 : decode cX10_ordering 77 = .ok (.iload_n 3, 1) := by decide +kernel
theorem dX10_ordering_78 : decode cX10_ordering 78 = .ok (.ireturn, 1) := by decide +kernel
theorem dX10_ruling_0 : decode cX10_ruling 0 = .ok (.aload_n 0, 1) := by decide +kernel
theorem dX10_ruling_1 : decode cX10_ruling 1 = .ok (.iload_n 1, 1) := by decide +kernel
theorem dX10_ruling_2 : decode cX10_ruling 2 = .ok (.iload_n 2, 1) := by decide +kernel
theorem dX10_ruling_3 : decode cX10_ruling 3 = .ok (.invokevirtual 101, 3) := by decide +kernel
theorem dX10_ruling_6 : decode cX10_ruling 6 = .ok (.istore_n 3, 1) := by decide +kernel
theorem dX10_ruling_7 : decode cX10_ruling 7 = .ok (.iload_n 3, 1) := by decide +kernel
theorem dX10_ruling_8 : decode cX10_ruling 8 = .ok (.iconst (-1), 1) := by decide +kernel
theorem dX10_ruling_9 : decode cX10_ruling 9 = .ok (.if_icmp .ne 7, 3) := by decide +kernel
theorem dX10_ruling_12 : decode cX10_ruling 12 = .ok (.aconst_null, 1) := by decide +kernel
theorem dX10_ruling_13 : decode cX10_ruling 13 = .ok (.goto 9, 3) := by decide +kernel
theorem dX10_ruling_16 : decode cX10_ruling 16 = .ok (.aload_n 0, 1) := by decide +kernel
theorem dX10_ruling_17 : decode cX10_ruling 17 = .ok (.getfield 51, 3) := by decide +kernel
theorem dX10_ruling_20 : decode cX10_ruling 20 = .ok (.iload_n 3, 1) := by decide +kernel
theorem dX10_ruling_21 : decode cX10_ruling 21 = .ok (.aaload, 1) := by decide +kernel
theorem dX10_ruling_22 : decode cX10_ruling 22 = .ok (.areturn, 1) := by decide +kernel
theorem dX10_ruleOf_0 : decode cX10_ruleOf 0 = .ok (.aload_n 0, 1) := by decide +kernel
theorem dX10_ruleOf_1 : decode cX10_ruleOf 1 = .ok (.iload_n 1, 1) := by decide +kernel
theorem dX10_ruleOf_2 : decode cX10_ruleOf 2 = .ok (.iload_n 2, 1) := by decide +kernel
theorem dX10_ruleOf_3 : decode cX10_ruleOf 3 = .ok (.invokevirtual 105, 3) := by decide +kernel
theorem dX10_ruleOf_6 : decode cX10_ruleOf 6 = .ok (.astore_n 3, 1) := by decide +kernel
theorem dX10_ruleOf_7 : decode cX10_ruleOf 7 = .ok (.aload_n 3, 1) := by decide +kernel
theorem dX10_ruleOf_8 : decode cX10_ruleOf 8 = .ok (.ifnonnull 11, 3) := by decide +kernel
theorem dX10_ruleOf_11 : decode cX10_ruleOf 11 = .ok (.getstatic 109, 3) := by decide +kernel
theorem dX10_ruleOf_14 : decode cX10_ruleOf 14 = .ok (.iload_n 1, 1) := by decide +kernel
theorem dX10_ruleOf_15 : decode cX10_ruleOf 15 = .ok (.iaload, 1) := by decide +kernel
theorem dX10_ruleOf_16 : decode cX10_ruleOf 16 = .ok (.goto 9, 3) := by decide +kernel
theorem dX10_ruleOf_19 : decode cX10_ruleOf 19 = .ok (.aload_n 3, 1) := by decide +kernel
theorem dX10_ruleOf_20 : decode cX10_ruleOf 20 = .ok (.getfield 112, 3) := by decide +kernel
theorem dX10_ruleOf_23 : decode cX10_ruleOf 23 = .ok (.iload_n 1, 1) := by decide +kernel
theorem dX10_ruleOf_24 : decode cX10_ruleOf 24 = .ok (.iaload, 1) := by decide +kernel
theorem dX10_ruleOf_25 : decode cX10_ruleOf 25 = .ok (.ireturn, 1) := by decide +kernel
theorem dX10_survey_0 : decode cX10_survey 0 = .ok (.aload_n 0, 1) := by decide +kernel
theorem dX10_survey_1 : decode cX10_survey 1 = .ok (.getfield 12, 3) := by decide +kernel
theorem dX10_survey_4 : decode cX10_survey 4 = .ok (.getfield 115, 3) := by decide +kernel
theorem dX10_survey_7 : decode cX10_survey 7 = .ok (.aload_n 2, 1) := by decide +kernel
theorem dX10_survey_8 : decode cX10_survey 8 = .ok (.getfield 118, 3) := by decide +kernel
theorem dX10_survey_11 : decode cX10_survey 11 = .ok (.iaload, 1) := by decide +kernel
theorem dX10_survey_12 : decode cX10_survey 12 = .ok (.istore 5, 2) := by decide +kernel
theorem dX10_survey_14 : decode cX10_survey 14 = .ok (.aload_n 0, 1) := by decide +kernel
theorem dX10_survey_15 : decode cX10_survey 15 = .ok (.getfield 12, 3) := by decide +kernel
theorem dX10_survey_18 : decode cX10_survey 18 = .ok (.aload_n 3, 1) := by decide +kernel
theorem dX10_survey_19 : decode cX10_survey 19 = .ok (.aload_n 0, 1) := by decide +kernel
theorem dX10_survey_20 : decode cX10_survey 20 = .ok (.getfield 12, 3) := by decide +kernel
theorem dX10_survey_23 : decode cX10_survey 23 = .ok (.getfield 115, 3) := by decide +kernel
theorem dX10_survey_26 : decode cX10_survey 26 = .ok (.aload_n 2, 1) := by decide +kernel
theorem dX10_survey_27 : decode cX10_survey 27 = .ok (.getfield 123, 3) := by decide +kernel
theorem dX10_survey_30 : decode cX10_survey 30 = .ok (.iaload, 1) := by decide +kernel
theorem dX10_survey_31 : decode cX10_survey 31 = .ok (.iload 5, 2) := by decide +kernel
theorem dX10_survey_33 : decode cX10_survey 33 = .ok (.invokevirtual 126, 3) := by decide +kernel
theorem dX10_survey_36 : decode cX10_survey 36 = .ok (.istore 6, 2) := by decide +kernel
theorem dX10_survey_38 : decode cX10_survey 38 = .ok (.aload_n 3, 1) := by decide +kernel
theorem dX10_survey_39 : decode cX10_survey 39 = .ok (.getfield 130, 3) := by decide +kernel
theorem dX10_survey_42 : decode cX10_survey 42 = .ok (.iload 6, 2) := by decide +kernel
theorem dX10_survey_44 : decode cX10_survey 44 = .ok (.invokestatic 133, 3) := by decide +kernel
theorem dX10_survey_47 : decode cX10_survey 47 = .ok (.astore 7, 2) := by decide +kernel
theorem dX10_survey_49 : decode cX10_survey 49 = .ok (.new 119, 3) := by decide +kernel
theorem dX10_survey_52 : decode cX10_survey 52 = .ok (.dup, 1) := by decide +kernel
theorem dX10_survey_53 : decode cX10_survey 53 = .ok (.iconst 2, 1) := by decide +kernel
theorem dX10_survey_54 : decode cX10_survey 54 = .ok (.iload_n 1, 1) := by decide +kernel
theorem dX10_survey_55 : decode cX10_survey 55 = .ok (.aload_n 0, 1) := by decide +kernel
theorem dX10_survey_56 : decode cX10_survey 56 = .ok (.getfield 85, 3) := by decide +kernel
theorem dX10_survey_59 : decode cX10_survey 59 = .ok (.aload 7, 2) := by decide +kernel
theorem dX10_survey_61 : decode cX10_survey 61 = .ok (.aload_n 0, 1) := by decide +kernel
theorem dX10_survey_62 : decode cX10_survey 62 = .ok (.getfield 12, 3) := by decide +kernel
theorem dX10_survey_65 : decode cX10_survey 65 = .ok (.aload 7, 2) := by decide +kernel
theorem dX10_survey_67 : decode cX10_survey 67 = .ok (.aload 4, 2) := by decide +kernel
theorem dX10_survey_69 : decode cX10_survey 69 = .ok (.invokevirtual 139, 3) := by decide +kernel
theorem dX10_survey_72 : decode cX10_survey 72 = .ok (.invokespecial 143, 3) := by decide +kernel
theorem dX10_survey_75 : decode cX10_survey 75 = .ok (.astore 8, 2) := by decide +kernel
theorem dX10_survey_77 : decode cX10_survey 77 = .ok (.aload 8, 2) := by decide +kernel
theorem dX10_survey_79 : decode cX10_survey 79 = .ok (.aload_n 2, 1) := by decide +kernel
theorem dX10_survey_80 : decode cX10_survey 80 = .ok (.getfield 123, 3) := by decide +kernel
theorem dX10_survey_83 : decode cX10_survey 83 = .ok (.aload_n 2, 1) := by decide +kernel
theorem dX10_survey_84 : decode cX10_survey 84 = .ok (.getfield 118, 3) := by decide +kernel
theorem dX10_survey_87 : decode cX10_survey 87 = .ok (.aload_n 2, 1) := by decide +kernel
theorem dX10_survey_88 : decode cX10_survey 88 = .ok (.getfield 146, 3) := by decide +kernel
theorem dX10_survey_91 : decode cX10_survey 91 = .ok (.iconst (-1), 1) := by decide +kernel
theorem dX10_survey_92 : decode cX10_survey 92 = .ok (.invokevirtual 149, 3) := by decide +kernel
theorem dX10_survey_95 : decode cX10_survey 95 = .ok (.aload 8, 2) := by decide +kernel
theorem dX10_survey_97 : decode cX10_survey 97 = .ok (.aload_n 2, 1) := by decide +kernel
theorem dX10_survey_98 : decode cX10_survey 98 = .ok (.getfield 153, 3) := by decide +kernel
theorem dX10_survey_101 : decode cX10_survey 101 = .ok (.putfield 153, 3) := by decide +kernel
theorem dX10_survey_104 : decode cX10_survey 104 = .ok (.iload 6, 2) := by decide +kernel
theorem dX10_survey_106 : decode cX10_survey 106 = .ok (.ifCond .eq 15, 3) := by decide +kernel
theorem dX10_survey_109 : decode cX10_survey 109 = .ok (.aload 7, 2) := by decide +kernel
theorem dX10_survey_111 : decode cX10_survey 111 = .ok (.iload 6, 2) := by decide +kernel
theorem dX10_survey_113 : decode cX10_survey 113 = .ok (.iconst 1, 1) := by decide +kernel
theorem dX10_survey_114 : decode cX10_survey 114 = .ok (.isub, 1) := by decide +kernel
theorem dX10_survey_115 : decode cX10_survey 115 = .ok (.iaload, 1) := by decide +kernel
theorem dX10_survey_116 : decode cX10_survey 116 = .ok (.iload 5, 2) := by decide +kernel
theorem dX10_survey_118 : decode cX10_survey 118 = .ok (.if_icmp .eq 10, 3) := by decide +kernel
theorem dX10_survey_121 : decode cX10_survey 121 = .ok (.aload 8, 2) := by decide +kernel
theorem dX10_survey_123 : decode cX10_survey 123 = .ok (.iload 6, 2) := by decide +kernel
theorem dX10_survey_125 : decode cX10_survey 125 = .ok (.putfield 156, 3) := by decide +kernel
theorem dX10_survey_128 : decode cX10_survey 128 = .ok (.aload 8, 2) := by decide +kernel
theorem dX10_survey_130 : decode cX10_survey 130 = .ok (.areturn, 1) := by decide +kernel
theorem dX10_whereNotClose_0 : decode cX10_whereNotClose 0 = .ok (.aload_n 0, 1) := by decide +kernel
theorem dX10_whereNotClose_1 : decode cX10_whereNotClose 1 = .ok (.iconst 1, 1) := by decide +kernel
theorem dX10_whereNotClose_2 : decode cX10_whereNotClose 2 = .ok (.iload_n 2, 1) := by decide +kernel
theorem dX10_whereNotClose_3 : decode cX10_whereNotClose 3 = .ok (.invokevirtual 159, 3) := by decide +kernel
theorem dX10_whereNotClose_6 : decode cX10_whereNotClose 6 = .ok (.istore_n 3, 1) := by decide +kernel
theorem dX10_whereNotClose_7 : decode cX10_whereNotClose 7 = .ok (.iconst 0, 1) := by decide +kernel
theorem dX10_whereNotClose_8 : decode cX10_whereNotClose 8 = .ok (.istore 4, 2) := by decide +kernel
theorem dX10_whereNotClose_10 : decode cX10_whereNotClose 10 = .ok (.iload 4, 2) := by decide +kernel
theorem dX10_whereNotClose_12 : decode cX10_whereNotClose 12 = .ok (.aload_n 1, 1) := by decide +kernel
theorem dX10_whereNotClose_13 : decode cX10_whereNotClose 13 = .ok (.getfield 162, 3) := by decide +kernel
theorem dX10_whereNotClose_16 : decode cX10_whereNotClose 16 = .ok (.arraylength, 1) := by decide +kernel
theorem dX10_whereNotClose_17 : decode cX10_whereNotClose 17 = .ok (.if_icmp .ge 55, 3) := by decide +kernel
theorem dX10_whereNotClose_20 : decode cX10_whereNotClose 20 = .ok (.iload 4, 2) := by decide +kernel
theorem dX10_whereNotClose_22 : decode cX10_whereNotClose 22 = .ok (.aload_n 1, 1) := by decide +kernel
theorem dX10_whereNotClose_23 : decode cX10_whereNotClose 23 = .ok (.getfield 165, 3) := by decide +kernel
theorem dX10_whereNotClose_26 : decode cX10_whereNotClose 26 = .ok (.arraylength, 1) := by decide +kernel
theorem dX10_whereNotClose_27 : decode cX10_whereNotClose 27 = .ok (.if_icmp .lt 6, 3) := by decide +kernel
theorem dX10_whereNotClose_30 : decode cX10_whereNotClose 30 = .ok (.iload 4, 2) := by decide +kernel
theorem dX10_whereNotClose_32 : decode cX10_whereNotClose 32 = .ok (.ireturn, 1) := by decide +kernel
theorem dX10_whereNotClose_33 : decode cX10_whereNotClose 33 = .ok (.aload_n 1, 1) := by decide +kernel
theorem dX10_whereNotClose_34 : decode cX10_whereNotClose 34 = .ok (.getfield 165, 3) := by decide +kernel
theorem dX10_whereNotClose_37 : decode cX10_whereNotClose 37 = .ok (.iload 4, 2) := by decide +kernel
theorem dX10_whereNotClose_39 : decode cX10_whereNotClose 39 = .ok (.iaload, 1) := by decide +kernel
theorem dX10_whereNotClose_40 : decode cX10_whereNotClose 40 = .ok (.aload_n 0, 1) := by decide +kernel
theorem dX10_whereNotClose_41 : decode cX10_whereNotClose 41 = .ok (.getfield 12, 3) := by decide +kernel
theorem dX10_whereNotClose_44 : decode cX10_whereNotClose 44 = .ok (.getfield 168, 3) := by decide +kernel
theorem dX10_whereNotClose_47 : decode cX10_whereNotClose 47 = .ok (.aload_n 1, 1) := by decide +kernel
theorem dX10_whereNotClose_48 : decode cX10_whereNotClose 48 = .ok (.getfield 162, 3) := by decide +kernel
theorem dX10_whereNotClose_51 : decode cX10_whereNotClose 51 = .ok (.iload 4, 2) := by decide +kernel
theorem dX10_whereNotClose_53 : decode cX10_whereNotClose 53 = .ok (.iaload, 1) := by decide +kernel
theorem dX10_whereNotClose_54 : decode cX10_whereNotClose 54 = .ok (.iaload, 1) := by decide +kernel
theorem dX10_whereNotClose_55 : decode cX10_whereNotClose 55 = .ok (.isub, 1) := by decide +kernel
theorem dX10_whereNotClose_56 : decode cX10_whereNotClose 56 = .ok (.invokestatic 171, 3) := by decide +kernel
theorem dX10_whereNotClose_59 : decode cX10_whereNotClose 59 = .ok (.iload_n 3, 1) := by decide +kernel
theorem dX10_whereNotClose_60 : decode cX10_whereNotClose 60 = .ok (.if_icmp .le 6, 3) := by decide +kernel
theorem dX10_whereNotClose_63 : decode cX10_whereNotClose 63 = .ok (.iload 4, 2) := by decide +kernel
theorem dX10_whereNotClose_65 : decode cX10_whereNotClose 65 = .ok (.ireturn, 1) := by decide +kernel
theorem dX10_whereNotClose_66 : decode cX10_whereNotClose 66 = .ok (.iinc 4 1, 3) := by decide +kernel
theorem dX10_whereNotClose_69 : decode cX10_whereNotClose 69 = .ok (.goto (-59), 3) := by decide +kernel
theorem dX10_whereNotClose_72 : decode cX10_whereNotClose 72 = .ok (.bipush (-5), 2) := by decide +kernel
theorem dX10_whereNotClose_74 : decode cX10_whereNotClose 74 = .ok (.ireturn, 1) := by decide +kernel
theorem dX10_whereSteep_0 : decode cX10_whereSteep 0 = .ok (.aload_n 0, 1) := by decide +kernel
theorem dX10_whereSteep_1 : decode cX10_whereSteep 1 = .ok (.iconst 0, 1) := by decide +kernel
theorem dX10_whereSteep_2 : decode cX10_whereSteep 2 = .ok (.iload_n 2, 1) := by decide +kernel
theorem dX10_whereSteep_3 : decode cX10_whereSteep 3 = .ok (.invokevirtual 159, 3) := by decide +kernel
theorem dX10_whereSteep_6 : decode cX10_whereSteep 6 = .ok (.istore_n 3, 1) := by decide +kernel
theorem dX10_whereSteep_7 : decode cX10_whereSteep 7 = .ok (.iconst 1, 1) := by decide +kernel
theorem dX10_whereSteep_8 : decode cX10_whereSteep 8 = .ok (.istore 4, 2) := by decide +kernel
theorem dX10_whereSteep_10 : decode cX10_whereSteep 10 = .ok (.iload 4, 2) := by decide +kernel
theorem dX10_whereSteep_12 : decode cX10_whereSteep 12 = .ok (.aload_n 1, 1) := by decide +kernel
theorem dX10_whereSteep_13 : decode cX10_whereSteep 13 = .ok (.getfield 162, 3) := by decide +kernel
theorem dX10_whereSteep_16 : decode cX10_whereSteep 16 = .ok (.arraylength, 1) := by decide +kernel
theorem dX10_whereSteep_17 : decode cX10_whereSteep 17 = .ok (.if_icmp .ge 39, 3) := by decide +kernel
theorem dX10_whereSteep_20 : decode cX10_whereSteep 20 = .ok (.aload_n 0, 1) := by decide +kernel
theorem dX10_whereSteep_21 : decode cX10_whereSteep 21 = .ok (.getfield 12, 3) := by decide +kernel
theorem dX10_whereSteep_24 : decode cX10_whereSteep 24 = .ok (.aload_n 1, 1) := by decide +kernel
theorem dX10_whereSteep_25 : decode cX10_whereSteep 25 = .ok (.getfield 162, 3) := by decide +kernel
theorem dX10_whereSteep_28 : decode cX10_whereSteep 28 = .ok (.iload 4, 2) := by decide +kernel
theorem dX10_whereSteep_30 : decode cX10_whereSteep 30 = .ok (.iconst 1, 1) := by decide +kernel
theorem dX10_whereSteep_31 : decode cX10_whereSteep 31 = .ok (.isub, 1) := by decide +kernel
theorem dX10_whereSteep_32 : decode cX10_whereSteep 32 = .ok (.iaload, 1) := by decide +kernel
theorem dX10_whereSteep_33 : decode cX10_whereSteep 33 = .ok (.aload_n 1, 1) := by decide +kernel
theorem dX10_whereSteep_34 : decode cX10_whereSteep 34 = .ok (.getfield 162, 3) := by decide +kernel
theorem dX10_whereSteep_37 : decode cX10_whereSteep 37 = .ok (.iload 4, 2) := by decide +kernel
theorem dX10_whereSteep_39 : decode cX10_whereSteep 39 = .ok (.iaload, 1) := by decide +kernel
theorem dX10_whereSteep_40 : decode cX10_whereSteep 40 = .ok (.invokevirtual 177, 3) := by decide +kernel
theorem dX10_whereSteep_43 : decode cX10_whereSteep 43 = .ok (.iload_n 3, 1) := by decide +kernel
theorem dX10_whereSteep_44 : decode cX10_whereSteep 44 = .ok (.if_icmp .le 6, 3) := by decide +kernel
theorem dX10_whereSteep_47 : decode cX10_whereSteep 47 = .ok (.iload 4, 2) := by decide +kernel
theorem dX10_whereSteep_49 : decode cX10_whereSteep 49 = .ok (.ireturn, 1) := by decide +kernel
theorem dX10_whereSteep_50 : decode cX10_whereSteep 50 = .ok (.iinc 4 1, 3) := by decide +kernel
theorem dX10_whereSteep_53 : decode cX10_whereSteep 53 = .ok (.goto (-43), 3) := by decide +kernel
theorem dX10_whereSteep_56 : decode cX10_whereSteep 56 = .ok (.bipush (-5), 2) := by decide +kernel
theorem dX10_whereSteep_58 : decode cX10_whereSteep 58 = .ok (.ireturn, 1) := by decide +kernel
theorem dX10_isSound_0 : decode cX10_isSound 0 = .ok (.aload_n 0, 1) := by decide +kernel
theorem dX10_isSound_1 : decode cX10_isSound 1 = .ok (.aload_n 1, 1) := by decide +kernel
theorem dX10_isSound_2 : decode cX10_isSound 2 = .ok (.aload_n 0, 1) := by decide +kernel
theorem dX10_isSound_3 : decode cX10_isSound 3 = .ok (.getfield 85, 3) := by decide +kernel
theorem dX10_isSound_6 : decode cX10_isSound 6 = .ok (.invokevirtual 180, 3) := by decide +kernel
theorem dX10_isSound_9 : decode cX10_isSound 9 = .ok (.bipush (-5), 2) := by decide +kernel
theorem dX10_isSound_11 : decode cX10_isSound 11 = .ok (.if_icmp .ne 21, 3) := by decide +kernel
theorem dX10_isSound_14 : decode cX10_isSound 14 = .ok (.aload_n 0, 1) := by decide +kernel
theorem dX10_isSound_15 : decode cX10_isSound 15 = .ok (.aload_n 1, 1) := by decide +kernel
theorem dX10_isSound_16 : decode cX10_isSound 16 = .ok (.aload_n 0, 1) := by decide +kernel
theorem dX10_isSound_17 : decode cX10_isSound 17 = .ok (.getfield 85, 3) := by decide +kernel
theorem dX10_isSound_20 : decode cX10_isSound 20 = .ok (.invokevirtual 184, 3) := by decide +kernel
theorem dX10_isSound_23 : decode cX10_isSound 23 = .ok (.bipush (-5), 2) := by decide +kernel
theorem dX10_isSound_25 : decode cX10_isSound 25 = .ok (.if_icmp .ne 7, 3) := by decide +kernel
theorem dX10_isSound_28 : decode cX10_isSound 28 = .ok (.iconst 1, 1) := by decide +kernel
theorem dX10_isSound_29 : decode cX10_isSound 29 = .ok (.goto 4, 3) := by decide +kernel
theorem dX10_isSound_32 : decode cX10_isSound 32 = .ok (.iconst 0, 1) := by decide +kernel
theorem dX10_isSound_33 : decode cX10_isSound 33 = .ok (.ireturn, 1) := by decide +kernel
theorem dX10_canBeBrought_0 : decode cX10_canBeBrought 0 = .ok (.aload_n 1, 1) := by decide +kernel
theorem dX10_canBeBrought_1 : decode cX10_canBeBrought 1 = .ok (.getfield 156, 3) := by decide +kernel
theorem dX10_canBeBrought_4 : decode cX10_canBeBrought 4 = .ok (.bipush (-5), 2) := by decide +kernel
theorem dX10_canBeBrought_6 : decode cX10_canBeBrought 6 = .ok (.if_icmp .ne 31, 3) := by decide +kernel
theorem dX10_canBeBrought_9 : decode cX10_canBeBrought 9 = .ok (.aload_n 0, 1) := by decide +kernel
theorem dX10_canBeBrought_10 : decode cX10_canBeBrought 10 = .ok (.aload_n 1, 1) := by decide +kernel
theorem dX10_canBeBrought_11 : decode cX10_canBeBrought 11 = .ok (.invokevirtual 187, 3) := by decide +kernel
theorem dX10_canBeBrought_14 : decode cX10_canBeBrought 14 = .ok (.ifCond .eq 23, 3) := by decide +kernel
theorem dX10_canBeBrought_17 : decode cX10_canBeBrought 17 = .ok (.aload_n 0, 1) := by decide +kernel
theorem dX10_canBeBrought_18 : decode cX10_canBeBrought 18 = .ok (.getfield 85, 3) := by decide +kernel
theorem dX10_canBeBrought_21 : decode cX10_canBeBrought 21 = .ok (.aload_n 0, 1) := by decide +kernel
theorem dX10_canBeBrought_22 : decode cX10_canBeBrought 22 = .ok (.iconst 2, 1) := by decide +kernel
theorem dX10_canBeBrought_23 : decode cX10_canBeBrought 23 = .ok (.aload_n 0, 1) := by decide +kernel
theorem dX10_canBeBrought_24 : decode cX10_canBeBrought 24 = .ok (.getfield 85, 3) := by decide +kernel
theorem dX10_canBeBrought_27 : decode cX10_canBeBrought 27 = .ok (.invokevirtual 159, 3) := by decide +kernel
theorem dX10_canBeBrought_30 : decode cX10_canBeBrought 30 = .ok (.if_icmp .gt 7, 3) := by decide +kernel
theorem dX10_canBeBrought_33 : decode cX10_canBeBrought 33 = .ok (.iconst 1, 1) := by decide +kernel
theorem dX10_canBeBrought_34 : decode cX10_canBeBrought 34 = .ok (.goto 4, 3) := by decide +kernel
theorem dX10_canBeBrought_37 : decode cX10_canBeBrought 37 = .ok (.iconst 0, 1) := by decide +kernel
theorem dX10_canBeBrought_38 : decode cX10_canBeBrought 38 = .ok (.ireturn, 1) := by decide +kernel
theorem dX10_canBeLet_0 : decode cX10_canBeLet 0 = .ok (.aload_n 0, 1) := by decide +kernel
theorem dX10_canBeLet_1 : decode cX10_canBeLet 1 = .ok (.bipush 6, 2) := by decide +kernel
theorem dX10_canBeLet_3 : decode cX10_canBeLet 3 = .ok (.iload_n 2, 1) := by decide +kernel
theorem dX10_canBeLet_4 : decode cX10_canBeLet 4 = .ok (.invokevirtual 105, 3) := by decide +kernel
theorem dX10_canBeLet_7 : decode cX10_canBeLet 7 = .ok (.astore_n 3, 1) := by decide +kernel
theorem dX10_canBeLet_8 : decode cX10_canBeLet 8 = .ok (.aload_n 3, 1) := by decide +kernel
theorem dX10_canBeLet_9 : decode cX10_canBeLet 9 = .ok (.ifnonnull 5, 3) := by decide +kernel
theorem dX10_canBeLet_12 : decode cX10_canBeLet 12 = .ok (.iconst 1, 1) := by decide +kernel
theorem dX10_canBeLet_13 : decode cX10_canBeLet 13 = .ok (.ireturn, 1) := by decide +kernel
theorem dX10_canBeLet_14 : decode cX10_canBeLet 14 = .ok (.aload_n 3, 1) := by decide +kernel
theorem dX10_canBeLet_15 : decode cX10_canBeLet 15 = .ok (.getfield 191, 3) := by decide +kernel
theorem dX10_canBeLet_18 : decode cX10_canBeLet 18 = .ok (.iconst 0, 1) := by decide +kernel
theorem dX10_canBeLet_19 : decode cX10_canBeLet 19 = .ok (.aload_n 0, 1) := by decide +kernel
theorem dX10_canBeLet_20 : decode cX10_canBeLet 20 = .ok (.getfield 12, 3) := by decide +kernel
theorem dX10_canBeLet_23 : decode cX10_canBeLet 23 = .ok (.aload_n 1, 1) := by decide +kernel
theorem dX10_canBeLet_24 : decode cX10_canBeLet 24 = .ok (.getfield 162, 3) := by decide +kernel
theorem dX10_canBeLet_27 : decode cX10_canBeLet 27 = .ok (.invokevirtual 194, 3) := by decide +kernel
theorem dX10_canBeLet_30 : decode cX10_canBeLet 30 = .ok (.bipush 10, 2) := by decide +kernel
theorem dX10_canBeLet_32 : decode cX10_canBeLet 32 = .ok (.idiv, 1) := by decide +kernel
theorem dX10_canBeLet_33 : decode cX10_canBeLet 33 = .ok (.iastore, 1) := by decide +kernel
theorem dX10_canBeLet_34 : decode cX10_canBeLet 34 = .ok (.aload_n 3, 1) := by decide +kernel
theorem dX10_canBeLet_35 : decode cX10_canBeLet 35 = .ok (.getfield 191, 3) := by decide +kernel
theorem dX10_canBeLet_38 : decode cX10_canBeLet 38 = .ok (.iconst 1, 1) := by decide +kernel
theorem dX10_canBeLet_39 : decode cX10_canBeLet 39 = .ok (.aload_n 0, 1) := by decide +kernel
theorem dX10_canBeLet_40 : decode cX10_canBeLet 40 = .ok (.getfield 12, 3) := by decide +kernel
theorem dX10_canBeLet_43 : decode cX10_canBeLet 43 = .ok (.getfield 198, 3) := by decide +kernel
theorem dX10_canBeLet_46 : decode cX10_canBeLet 46 = .ok (.aload_n 1, 1) := by decide +kernel
theorem dX10_canBeLet_47 : decode cX10_canBeLet 47 = .ok (.getfield 123, 3) := by decide +kernel
theorem dX10_canBeLet_50 : decode cX10_canBeLet 50 = .ok (.iaload, 1) := by decide +kernel
theorem dX10_canBeLet_51 : decode cX10_canBeLet 51 = .ok (.aload_n 0, 1) := by decide +kernel
theorem dX10_canBeLet_52 : decode cX10_canBeLet 52 = .ok (.getfield 12, 3) := by decide +kernel
theorem dX10_canBeLet_55 : decode cX10_canBeLet 55 = .ok (.getfield 198, 3) := by decide +kernel
theorem dX10_canBeLet_58 : decode cX10_canBeLet 58 = .ok (.aload_n 1, 1) := by decide +kernel
theorem dX10_canBeLet_59 : decode cX10_canBeLet 59 = .ok (.getfield 118, 3) := by decide +kernel
theorem dX10_canBeLet_62 : decode cX10_canBeLet 62 = .ok (.iaload, 1) := by decide +kernel
theorem dX10_canBeLet_63 : decode cX10_canBeLet 63 = .ok (.iadd, 1) := by decide +kernel
theorem dX10_canBeLet_64 : decode cX10_canBeLet 64 = .ok (.iastore, 1) := by decide +kernel
theorem dX10_canBeLet_65 : decode cX10_canBeLet 65 = .ok (.aload_n 3, 1) := by decide +kernel
theorem dX10_canBeLet_66 : decode cX10_canBeLet 66 = .ok (.getfield 191, 3) := by decide +kernel
theorem dX10_canBeLet_69 : decode cX10_canBeLet 69 = .ok (.iconst 2, 1) := by decide +kernel
theorem dX10_canBeLet_70 : decode cX10_canBeLet 70 = .ok (.aload_n 0, 1) := by decide +kernel
theorem dX10_canBeLet_71 : decode cX10_canBeLet 71 = .ok (.getfield 12, 3) := by decide +kernel
theorem dX10_canBeLet_74 : decode cX10_canBeLet 74 = .ok (.aload_n 1, 1) := by decide +kernel
theorem dX10_canBeLet_75 : decode cX10_canBeLet 75 = .ok (.getfield 162, 3) := by decide +kernel
theorem dX10_canBeLet_78 : decode cX10_canBeLet 78 = .ok (.iconst 2, 1) := by decide +kernel
theorem dX10_canBeLet_79 : decode cX10_canBeLet 79 = .ok (.invokevirtual 201, 3) := by decide +kernel
theorem dX10_canBeLet_82 : decode cX10_canBeLet 82 = .ok (.iastore, 1) := by decide +kernel
theorem dX10_canBeLet_83 : decode cX10_canBeLet 83 = .ok (.aload_n 3, 1) := by decide +kernel
theorem dX10_canBeLet_84 : decode cX10_canBeLet 84 = .ok (.getfield 191, 3) := by decide +kernel
theorem dX10_canBeLet_87 : decode cX10_canBeLet 87 = .ok (.iconst 3, 1) := by decide +kernel
theorem dX10_canBeLet_88 : decode cX10_canBeLet 88 = .ok (.aload_n 0, 1) := by decide +kernel
theorem dX10_canBeLet_89 : decode cX10_canBeLet 89 = .ok (.getfield 12, 3) := by decide +kernel
theorem dX10_canBeLet_92 : decode cX10_canBeLet 92 = .ok (.aload_n 1, 1) := by decide +kernel
theorem dX10_canBeLet_93 : decode cX10_canBeLet 93 = .ok (.getfield 162, 3) := by decide +kernel
theorem dX10_canBeLet_96 : decode cX10_canBeLet 96 = .ok (.iconst 1, 1) := by decide +kernel
theorem dX10_canBeLet_97 : decode cX10_canBeLet 97 = .ok (.invokevirtual 201, 3) := by decide +kernel
theorem dX10_canBeLet_100 : decode cX10_canBeLet 100 = .ok (.iastore, 1) := by decide +kernel
theorem dX10_canBeLet_101 : decode cX10_canBeLet 101 = .ok (.aload_n 3, 1) := by decide +kernel
theorem dX10_canBeLet_102 : decode cX10_canBeLet 102 = .ok (.getfield 191, 3) := by decide +kernel
theorem dX10_canBeLet_105 : decode cX10_canBeLet 105 = .ok (.iconst 4, 1) := by decide +kernel
theorem dX10_canBeLet_106 : decode cX10_canBeLet 106 = .ok (.aload_n 0, 1) := by decide +kernel
theorem dX10_canBeLet_107 : decode cX10_canBeLet 107 = .ok (.getfield 12, 3) := by decide +kernel
theorem dX10_canBeLet_110 : decode cX10_canBeLet 110 = .ok (.aload_n 1, 1) := by decide +kernel
theorem dX10_canBeLet_111 : decode cX10_canBeLet 111 = .ok (.getfield 162, 3) := by decide +kernel
theorem dX10_canBeLet_114 : decode cX10_canBeLet 114 = .ok (.invokevirtual 205, 3) := by decide +kernel
theorem dX10_canBeLet_117 : decode cX10_canBeLet 117 = .ok (.iastore, 1) := by decide +kernel
theorem dX10_canBeLet_118 : decode cX10_canBeLet 118 = .ok (.aload_n 3, 1) := by decide +kernel
theorem dX10_canBeLet_119 : decode cX10_canBeLet 119 = .ok (.getfield 191, 3) := by decide +kernel
theorem dX10_canBeLet_122 : decode cX10_canBeLet 122 = .ok (.iconst 5, 1) := by decide +kernel
theorem dX10_canBeLet_123 : decode cX10_canBeLet 123 = .ok (.aload_n 1, 1) := by decide +kernel
theorem dX10_canBeLet_124 : decode cX10_canBeLet 124 = .ok (.getfield 146, 3) := by decide +kernel
theorem dX10_canBeLet_127 : decode cX10_canBeLet 127 = .ok (.iastore, 1) := by decide +kernel
theorem dX10_canBeLet_128 : decode cX10_canBeLet 128 = .ok (.aload_n 3, 1) := by decide +kernel
theorem dX10_canBeLet_129 : decode cX10_canBeLet 129 = .ok (.invokevirtual 208, 3) := by decide +kernel
theorem dX10_canBeLet_132 : decode cX10_canBeLet 132 = .ok (.ireturn, 1) := by decide +kernel
theorem dX10_isTooSoon_0 : decode cX10_isTooSoon 0 = .ok (.aload_n 0, 1) := by decide +kernel
theorem dX10_isTooSoon_1 : decode cX10_isTooSoon 1 = .ok (.getfield 21, 3) := by decide +kernel
theorem dX10_isTooSoon_4 : decode cX10_isTooSoon 4 = .ok (.iload_n 1, 1) := by decide +kernel
theorem dX10_isTooSoon_5 : decode cX10_isTooSoon 5 = .ok (.invokevirtual 212, 3) := by decide +kernel
theorem dX10_isTooSoon_8 : decode cX10_isTooSoon 8 = .ok (.istore_n 2, 1) := by decide +kernel
theorem dX10_isTooSoon_9 : decode cX10_isTooSoon 9 = .ok (.iload_n 2, 1) := by decide +kernel
theorem dX10_isTooSoon_10 : decode cX10_isTooSoon 10 = .ok (.iconst (-1), 1) := by decide +kernel
theorem dX10_isTooSoon_11 : decode cX10_isTooSoon 11 = .ok (.if_icmp .eq 25, 3) := by decide +kernel
theorem dX10_isTooSoon_14 : decode cX10_isTooSoon 14 = .ok (.aload_n 0, 1) := by decide +kernel
theorem dX10_isTooSoon_15 : decode cX10_isTooSoon 15 = .ok (.getfield 85, 3) := by decide +kernel
theorem dX10_isTooSoon_18 : decode cX10_isTooSoon 18 = .ok (.iload_n 2, 1) := by decide +kernel
theorem dX10_isTooSoon_19 : decode cX10_isTooSoon 19 = .ok (.isub, 1) := by decide +kernel
theorem dX10_isTooSoon_20 : decode cX10_isTooSoon 20 = .ok (.aload_n 0, 1) := by decide +kernel
theorem dX10_isTooSoon_21 : decode cX10_isTooSoon 21 = .ok (.iconst 4, 1) := by decide +kernel
theorem dX10_isTooSoon_22 : decode cX10_isTooSoon 22 = .ok (.aload_n 0, 1) := by decide +kernel
theorem dX10_isTooSoon_23 : decode cX10_isTooSoon 23 = .ok (.getfield 85, 3) := by decide +kernel
theorem dX10_isTooSoon_26 : decode cX10_isTooSoon 26 = .ok (.invokevirtual 159, 3) := by decide +kernel
theorem dX10_isTooSoon_29 : decode cX10_isTooSoon 29 = .ok (.if_icmp .ge 7, 3) := by decide +kernel
theorem dX10_isTooSoon_32 : decode cX10_isTooSoon 32 = .ok (.iconst 1, 1) := by decide +kernel
theorem dX10_isTooSoon_33 : decode cX10_isTooSoon 33 = .ok (.goto 4, 3) := by decide +kernel
theorem dX10_isTooSoon_36 : decode cX10_isTooSoon 36 = .ok (.iconst 0, 1) := by decide +kernel
theorem dX10_isTooSoon_37 : decode cX10_isTooSoon 37 = .ok (.ireturn, 1) := by decide +kernel
theorem dX10_digToday_0 : decode cX10_digToday 0 = .ok (.iconst 3, 1) := by decide +kernel
theorem dX10_digToday_1 : decode cX10_digToday 1 = .ok (.aload_n 0, 1) := by decide +kernel
theorem dX10_digToday_2 : decode cX10_digToday 2 = .ok (.getfield 88, 3) := by decide +kernel
theorem dX10_digToday_5 : decode cX10_digToday 5 = .ok (.imul, 1) := by decide +kernel
theorem dX10_digToday_6 : decode cX10_digToday 6 = .ok (.istore_n 1, 1) := by decide +kernel
theorem dX10_digToday_7 : decode cX10_digToday 7 = .ok (.iconst 0, 1) := by decide +kernel
theorem dX10_digToday_8 : decode cX10_digToday 8 = .ok (.istore_n 2, 1) := by decide +kernel
theorem dX10_digToday_9 : decode cX10_digToday 9 = .ok (.iload_n 2, 1) := by decide +kernel
theorem dX10_digToday_10 : decode cX10_digToday 10 = .ok (.aload_n 0, 1) := by decide +kernel
theorem dX10_digToday_11 : decode cX10_digToday 11 = .ok (.getfield 21, 3) := by decide +kernel
theorem dX10_digToday_14 : decode cX10_digToday 14 = .ok (.getfield 215, 3) := by decide +kernel
theorem dX10_digToday_17 : decode cX10_digToday 17 = .ok (.if_icmp .ge 47, 3) := by decide +kernel
theorem dX10_digToday_20 : decode cX10_digToday 20 = .ok (.aload_n 0, 1) := by decide +kernel
theorem dX10_digToday_21 : decode cX10_digToday 21 = .ok (.getfield 21, 3) := by decide +kernel
theorem dX10_digToday_24 : decode cX10_digToday 24 = .ok (.iload_n 2, 1) := by decide +kernel
theorem dX10_digToday_25 : decode cX10_digToday 25 = .ok (.iconst 3, 1) := by decide +kernel
theorem dX10_digToday_26 : decode cX10_digToday 26 = .ok (.invokevirtual 218, 3) := by decide +kernel
theorem dX10_digToday_29 : decode cX10_digToday 29 = .ok (.astore_n 3, 1) := by decide +kernel
theorem dX10_digToday_30 : decode cX10_digToday 30 = .ok (.aload_n 3, 1) := by decide +kernel
theorem dX10_digToday_31 : decode cX10_digToday 31 = .ok (.ifnull 27, 3) := by decide +kernel
theorem dX10_digToday_34 : decode cX10_digToday 34 = .ok (.aload_n 0, 1) := by decide +kernel
theorem dX10_digToday_35 : decode cX10_digToday 35 = .ok (.getfield 21, 3) := by decide +kernel
theorem dX10_digToday_38 : decode cX10_digToday 38 = .ok (.iload_n 2, 1) := by decide +kernel
theorem dX10_digToday_39 : decode cX10_digToday 39 = .ok (.invokevirtual 222, 3) := by decide +kernel
theorem dX10_digToday_42 : decode cX10_digToday 42 = .ok (.ifCond .eq 16, 3) := by decide +kernel
theorem dX10_digToday_45 : decode cX10_digToday 45 = .ok (.iload_n 1, 1) := by decide +kernel
theorem dX10_digToday_46 : decode cX10_digToday 46 = .ok (.aload_n 0, 1) := by decide +kernel
theorem dX10_digToday_47 : decode cX10_digToday 47 = .ok (.iload_n 2, 1) := by decide +kernel
theorem dX10_digToday_48 : decode cX10_digToday 48 = .ok (.aload_n 3, 1) := by decide +kernel
theorem dX10_digToday_49 : decode cX10_digToday 49 = .ok (.getfield 153, 3) := by decide +kernel
theorem dX10_digToday_52 : decode cX10_digToday 52 = .ok (.iload_n 1, 1) := by decide +kernel
theorem dX10_digToday_53 : decode cX10_digToday 53 = .ok (.invokevirtual 226, 3) := by decide +kernel
theorem dX10_digToday_56 : decode cX10_digToday 56 = .ok (.isub, 1) := by decide +kernel
theorem dX10_digToday_57 : decode cX10_digToday 57 = .ok (.istore_n 1, 1) := by decide +kernel
theorem dX10_digToday_58 : decode cX10_digToday 58 = .ok (.iinc 2 1, 3) := by decide +kernel
theorem dX10_digToday_61 : decode cX10_digToday 61 = .ok (.goto (-52), 3) := by decide +kernel
theorem dX10_digToday_64 : decode cX10_digToday 64 = .ok (.return_, 1) := by decide +kernel
theorem dX10_digLine_0 : decode cX10_digLine 0 = .ok (.aload_n 0, 1) := by decide +kernel
theorem dX10_digLine_1 : decode cX10_digLine 1 = .ok (.getfield 21, 3) := by decide +kernel
theorem dX10_digLine_4 : decode cX10_digLine 4 = .ok (.getfield 230, 3) := by decide +kernel
theorem dX10_digLine_7 : decode cX10_digLine 7 = .ok (.iload_n 1, 1) := by decide +kernel
theorem dX10_digLine_8 : decode cX10_digLine 8 = .ok (.iaload, 1) := by decide +kernel
theorem dX10_digLine_9 : decode cX10_digLine 9 = .ok (.ifCond .eq 14, 3) := by decide +kernel
theorem dX10_digLine_12 : decode cX10_digLine 12 = .ok (.aload_n 0, 1) := by decide +kernel
theorem dX10_digLine_13 : decode cX10_digLine 13 = .ok (.getfield 21, 3) := by decide +kernel
theorem dX10_digLine_16 : decode cX10_digLine 16 = .ok (.iload_n 2, 1) := by decide +kernel
theorem dX10_digLine_17 : decode cX10_digLine 17 = .ok (.invokevirtual 233, 3) := by decide +kernel
theorem dX10_digLine_20 : decode cX10_digLine 20 = .ok (.ifCond .eq 5, 3) := by decide +kernel
theorem dX10_digLine_23 : decode cX10_digLine 23 = .ok (.iconst 0, 1) := by decide +kernel
theorem dX10_digLine_24 : decode cX10_digLine 24 = .ok (.ireturn, 1) := by decide +kernel
theorem dX10_digLine_25 : decode cX10_digLine 25 = .ok (.bipush 8, 2) := by decide +kernel
theorem dX10_digLine_27 : decode cX10_digLine 27 = .ok (.iload_n 2, 1) := by decide +kernel
theorem dX10_digLine_28 : decode cX10_digLine 28 = .ok (.iadd, 1) := by decide +kernel
theorem dX10_digLine_29 : decode cX10_digLine 29 = .ok (.istore 4, 2) := by decide +kernel
theorem dX10_digLine_31 : decode cX10_digLine 31 = .ok (.aload_n 0, 1) := by decide +kernel
theorem dX10_digLine_32 : decode cX10_digLine 32 = .ok (.getfield 21, 3) := by decide +kernel
theorem dX10_digLine_35 : decode cX10_digLine 35 = .ok (.getfield 230, 3) := by decide +kernel
theorem dX10_digLine_38 : decode cX10_digLine 38 = .ok (.iload_n 1, 1) := by decide +kernel
theorem dX10_digLine_39 : decode cX10_digLine 39 = .ok (.iaload, 1) := by decide +kernel
theorem dX10_digLine_40 : decode cX10_digLine 40 = .ok (.iload_n 3, 1) := by decide +kernel
theorem dX10_digLine_41 : decode cX10_digLine 41 = .ok (.aload_n 0, 1) := by decide +kernel
theorem dX10_digLine_42 : decode cX10_digLine 42 = .ok (.getfield 28, 3) := by decide +kernel
theorem dX10_digLine_45 : decode cX10_digLine 45 = .ok (.getfield 236, 3) := by decide +kernel
theorem dX10_digLine_48 : decode cX10_digLine 48 = .ok (.iload 4, 2) := by decide +kernel
theorem dX10_digLine_50 : decode cX10_digLine 50 = .ok (.iaload, 1) := by decide +kernel
theorem dX10_digLine_51 : decode cX10_digLine 51 = .ok (.iconst 2, 1) := by decide +kernel
theorem dX10_digLine_52 : decode cX10_digLine 52 = .ok (.idiv, 1) := by decide +kernel
theorem dX10_digLine_53 : decode cX10_digLine 53 = .ok (.invokestatic 239, 3) := by decide +kernel
theorem dX10_digLine_56 : decode cX10_digLine 56 = .ok (.invokestatic 239, 3) := by decide +kernel
theorem dX10_digLine_59 : decode cX10_digLine 59 = .ok (.istore 5, 2) := by decide +kernel
theorem dX10_digLine_61 : decode cX10_digLine 61 = .ok (.aload_n 0, 1) := by decide +kernel
theorem dX10_digLine_62 : decode cX10_digLine 62 = .ok (.getfield 28, 3) := by decide +kernel
theorem dX10_digLine_65 : decode cX10_digLine 65 = .ok (.getfield 236, 3) := by decide +kernel
theorem dX10_digLine_68 : decode cX10_digLine 68 = .ok (.iload 4, 2) := by decide +kernel
theorem dX10_digLine_70 : decode cX10_digLine 70 = .ok (.dup2, 1) := by decide +kernel
theorem dX10_digLine_71 : decode cX10_digLine 71 = .ok (.iaload, 1) := by decide +kernel
theorem dX10_digLine_72 : decode cX10_digLine 72 = .ok (.iconst 2, 1) := by decide +kernel
theorem dX10_digLine_73 : decode cX10_digLine 73 = .ok (.iload 5, 2) := by decide +kernel
theorem dX10_digLine_75 : decode cX10_digLine 75 = .ok (.imul, 1) := by decide +kernel
theorem dX10_digLine_76 : decode cX10_digLine 76 = .ok (.isub, 1) := by decide +kernel
theorem dX10_digLine_77 : decode cX10_digLine 77 = .ok (.iastore, 1) := by decide +kernel
theorem dX10_digLine_78 : decode cX10_digLine 78 = .ok (.aload_n 0, 1) := by decide +kernel
theorem dX10_digLine_79 : decode cX10_digLine 79 = .ok (.getfield 21, 3) := by decide +kernel
theorem dX10_digLine_82 : decode cX10_digLine 82 = .ok (.getfield 230, 3) := by decide +kernel
theorem dX10_digLine_85 : decode cX10_digLine 85 = .ok (.iload_n 1, 1) := by decide +kernel
theorem dX10_digLine_86 : decode cX10_digLine 86 = .ok (.dup2, 1) := by decide +kernel
theorem dX10_digLine_87 : decode cX10_digLine 87 = .ok (.iaload, 1) := by decide +kernel
theorem dX10_digLine_88 : decode cX10_digLine 88 = .ok (.iload 5, 2) := by decide +kernel
theorem dX10_digLine_90 : decode cX10_digLine 90 = .ok (.isub, 1) := by decide +kernel
theorem dX10_digLine_91 : decode cX10_digLine 91 = .ok (.iastore, 1) := by decide +kernel
theorem dX10_digLine_92 : decode cX10_digLine 92 = .ok (.aload_n 0, 1) := by decide +kernel
theorem dX10_digLine_93 : decode cX10_digLine 93 = .ok (.getfield 21, 3) := by decide +kernel
theorem dX10_digLine_96 : decode cX10_digLine 96 = .ok (.getfield 230, 3) := by decide +kernel
theorem dX10_digLine_99 : decode cX10_digLine 99 = .ok (.iload_n 1, 1) := by decide +kernel
theorem dX10_digLine_100 : decode cX10_digLine 100 = .ok (.iaload, 1) := by decide +kernel
theorem dX10_digLine_101 : decode cX10_digLine 101 = .ok (.ifCond .ne 16, 3) := by decide +kernel
theorem dX10_digLine_104 : decode cX10_digLine 104 = .ok (.aload_n 0, 1) := by decide +kernel
theorem dX10_digLine_105 : decode cX10_digLine 105 = .ok (.getfield 21, 3) := by decide +kernel
theorem dX10_digLine_108 : decode cX10_digLine 108 = .ok (.getfield 242, 3) := by decide +kernel
theorem dX10_digLine_111 : decode cX10_digLine 111 = .ok (.iload_n 1, 1) := by decide +kernel
theorem dX10_digLine_112 : decode cX10_digLine 112 = .ok (.aload_n 0, 1) := by decide +kernel
theorem dX10_digLine_113 : decode cX10_digLine 113 = .ok (.getfield 85, 3) := by decide +kernel
theorem dX10_digLine_116 : decode cX10_digLine 116 = .ok (.iastore, 1) := by decide +kernel
theorem dX10_digLine_117 : decode cX10_digLine 117 = .ok (.iload 5, 2) := by decide +kernel
theorem dX10_digLine_119 : decode cX10_digLine 119 = .ok (.ireturn, 1) := by decide +kernel
theorem dX11_init_0 : decode cX11_init 0 = .ok (.aload_n 0, 1) := by decide +kernel
theorem dX11_init_1 : decode cX11_init 1 = .ok (.invokespecial 1, 3) := by decide +kernel
theorem dX11_init_4 : decode cX11_init 4 = .ok (.aload_n 0, 1) := by decide +kernel
theorem dX11_init_5 : decode cX11_init 5 = .ok (.new 7, 3) := by decide +kernel
theorem dX11_init_8 : decode cX11_init 8 = .ok (.dup, 1) := by decide +kernel
theorem dX11_init_9 : decode cX11_init 9 = .ok (.invokespecial 9, 3) := by decide +kernel
theorem dX11_init_12 : decode cX11_init 12 = .ok (.putfield 10, 3) := by decide +kernel
theorem dX11_init_15 : decode cX11_init 15 = .ok (.aload_n 0, 1) := by decide +kernel
theorem dX11_init_16 : decode cX11_init 16 = .ok (.new 7, 3) := by decide +kernel
theorem dX11_init_19 : decode cX11_init 19 = .ok (.dup, 1) := by decide +kernel
theorem dX11_init_20 : decode cX11_init 20 = .ok (.invokespecial 9, 3) := by decide +kernel
theorem dX11_init_23 : decode cX11_init 23 = .ok (.putfield 16, 3) := by decide +kernel
theorem dX11_init_26 : decode cX11_init 26 = .ok (.aload_n 0, 1) := by decide +kernel
theorem dX11_init_27 : decode cX11_init 27 = .ok (.sipush 1000, 3) := by decide +kernel
theorem dX11_init_30 : decode cX11_init 30 = .ok (.anewarray 19, 3) := by decide +kernel
theorem dX11_init_33 : decode cX11_init 33 = .ok (.putfield 21, 3) := by decide +kernel
theorem dX11_init_36 : decode cX11_init 36 = .ok (.aload_n 0, 1) := by decide +kernel
theorem dX11_init_37 : decode cX11_init 37 = .ok (.new 25, 3) := by decide +kernel
theorem dX11_init_40 : decode cX11_init 40 = .ok (.dup, 1) := by decide +kernel
theorem dX11_init_41 : decode cX11_init 41 = .ok (.invokespecial 27, 3) := by decide +kernel
theorem dX11_init_44 : decode cX11_init 44 = .ok (.putfield 28, 3) := by decide +kernel
theorem dX11_init_47 : decode cX11_init 47 = .ok (.aload_n 0, 1) := by decide +kernel
theorem dX11_init_48 : decode cX11_init 48 = .ok (.new 32, 3) := by decide +kernel
theorem dX11_init_51 : decode cX11_init 51 = .ok (.dup, 1) := by decide +kernel
theorem dX11_init_52 : decode cX11_init 52 = .ok (.invokespecial 34, 3) := by decide +kernel
theorem dX11_init_55 : decode cX11_init 55 = .ok (.putfield 35, 3) := by decide +kernel
theorem dX11_init_58 : decode cX11_init 58 = .ok (.aload_n 0, 1) := by decide +kernel
theorem dX11_init_59 : decode cX11_init 59 = .ok (.new 39, 3) := by decide +kernel
theorem dX11_init_62 : decode cX11_init 62 = .ok (.dup, 1) := by decide +kernel
theorem dX11_init_63 : decode cX11_init 63 = .ok (.invokespecial 41, 3) := by decide +kernel
theorem dX11_init_66 : decode cX11_init 66 = .ok (.putfield 42, 3) := by decide +kernel
theorem dX11_init_69 : decode cX11_init 69 = .ok (.return_, 1) := by decide +kernel
theorem dX11_land_0 : decode cX11_land 0 = .ok (.iload_n 1, 1) := by decide +kernel
theorem dX11_land_1 : decode cX11_land 1 = .ok (.i2l, 1) := by decide +kernel
theorem dX11_land_2 : decode cX11_land 2 = .ok (.iconst 0, 1) := by decide +kernel
theorem dX11_land_3 : decode cX11_land 3 = .ok (.bipush 79, 2) := by decide +kernel
theorem dX11_land_5 : decode cX11_land 5 = .ok (.invokestatic 46, 3) := by decide +kernel
theorem dX11_land_8 : decode cX11_land 8 = .ok (.ifCond .eq 13, 3) := by decide +kernel
theorem dX11_land_11 : decode cX11_land 11 = .ok (.iload_n 2, 1) := by decide +kernel
theorem dX11_land_12 : decode cX11_land 12 = .ok (.i2l, 1) := by decide +kernel
theorem dX11_land_13 : decode cX11_land 13 = .ok (.iconst 0, 1) := by decide +kernel
theorem dX11_land_14 : decode cX11_land 14 = .ok (.iconst 1, 1) := by decide +kernel
theorem dX11_land_15 : decode cX11_land 15 = .ok (.invokestatic 46, 3) := by decide +kernel
theorem dX11_land_18 : decode cX11_land 18 = .ok (.ifCond .ne 5, 3) := by decide +kernel
theorem dX11_land_21 : decode cX11_land 21 = .ok (.iconst (-1), 1) := by decide +kernel
theorem dX11_land_22 : decode cX11_land 22 = .ok (.ireturn, 1) := by decide +kernel
theorem dX11_land_23 : decode cX11_land 23 = .ok (.iload_n 3, 1) := by decide +kernel
theorem dX11_land_24 : decode cX11_land 24 = .ok (.i2l, 1) := by decide +kernel
theorem dX11_land_25 : decode cX11_land 25 = .ok (.iconst 0, 1) := by decide +kernel
theorem dX11_land_26 : decode cX11_land 26 = .ok (.iload_n 2, 1) := by decide +kernel
theorem dX11_land_27 : decode cX11_land 27 = .ok (.ifCond .ne 8, 3) := by decide +kernel
theorem dX11_land_30 : decode cX11_land 30 = .ok (.bipush 99, 2) := by decide +kernel
theorem dX11_land_32 : decode cX11_land 32 = .ok (.goto 4, 3) := by decide +kernel
theorem dX11_land_35 : decode cX11_land 35 = .ok (.iconst 2, 1) := by decide +kernel
theorem dX11_land_36 : decode cX11_land 36 = .ok (.invokestatic 46, 3) := by decide +kernel
theorem dX11_land_39 : decode cX11_land 39 = .ok (.ifCond .ne 6, 3) := by decide +kernel
theorem dX11_land_42 : decode cX11_land 42 = .ok (.bipush (-2), 2) := by decide +kernel
theorem dX11_land_44 : decode cX11_land 44 = .ok (.ireturn, 1) := by decide +kernel
theorem dX11_land_45 : decode cX11_land 45 = .ok (.iload_n 2, 1) := by decide +kernel
theorem dX11_land_46 : decode cX11_land 46 = .ok (.ifCond .ne 16, 3) := by decide +kernel
theorem dX11_land_49 : decode cX11_land 49 = .ok (.aload_n 0, 1) := by decide +kernel
theorem dX11_land_50 : decode cX11_land 50 = .ok (.getfield 10, 3) := by decide +kernel
theorem dX11_land_53 : decode cX11_land 53 = .ok (.getfield 50, 3) := by decide +kernel
theorem dX11_land_56 : decode cX11_land 56 = .ok (.getfield 54, 3) := by decide +kernel
theorem dX11_land_59 : decode cX11_land 59 = .ok (.goto 13, 3) := by decide +kernel
theorem dX11_land_62 : decode cX11_land 62 = .ok (.aload_n 0, 1) := by decide +kernel
theorem dX11_land_63 : decode cX11_land 63 = .ok (.getfield 10, 3) := by decide +kernel
theorem dX11_land_66 : decode cX11_land 66 = .ok (.getfield 50, 3) := by decide +kernel
theorem dX11_land_69 : decode cX11_land 69 = .ok (.getfield 59, 3) := by decide +kernel
theorem dX11_land_72 : decode cX11_land 72 = .ok (.astore 4, 2) := by decide +kernel
theorem dX11_land_74 : decode cX11_land 74 = .ok (.aload 4, 2) := by decide +kernel
theorem dX11_land_76 : decode cX11_land 76 = .ok (.iload_n 1, 1) := by decide +kernel
theorem dX11_land_77 : decode cX11_land 77 = .ok (.iaload, 1) := by decide +kernel
theorem dX11_land_78 : decode cX11_land 78 = .ok (.istore 5, 2) := by decide +kernel
theorem dX11_land_80 : decode cX11_land 80 = .ok (.aload 4, 2) := by decide +kernel
theorem dX11_land_82 : decode cX11_land 82 = .ok (.iload_n 1, 1) := by decide +kernel
theorem dX11_land_83 : decode cX11_land 83 = .ok (.iload_n 3, 1) := by decide +kernel
theorem dX11_land_84 : decode cX11_land 84 = .ok (.iastore, 1) := by decide +kernel
theorem dX11_land_85 : decode cX11_land 85 = .ok (.iload 5, 2) := by decide +kernel
theorem dX11_land_87 : decode cX11_land 87 = .ok (.ireturn, 1) := by decide +kernel
theorem dX11_town_0 : decode cX11_town 0 = .ok (.iload_n 1, 1) := by decide +kernel
theorem dX11_town_1 : decode cX11_town 1 = .ok (.i2l, 1) := by decide +kernel
theorem dX11_town_2 : decode cX11_town 2 = .ok (.iconst 0, 1) := by decide +kernel
theorem dX11_town_3 : decode cX11_town 3 = .ok (.bipush 79, 2) := by decide +kernel
theorem dX11_town_5 : decode cX11_town 5 = .ok (.invokestatic 46, 3) := by decide +kernel
theorem dX11_town_8 : decode cX11_town 8 = .ok (.ifCond .ne 5, 3) := by decide +kernel
theorem dX11_town_11 : decode cX11_town 11 = .ok (.iconst (-1), 1) := by decide +kernel
theorem dX11_town_12 : decode cX11_town 12 = .ok (.ireturn, 1) := by decide +kernel
theorem dX11_town_13 : decode cX11_town 13 = .ok (.iload_n 2, 1) := by decide +kernel
theorem dX11_town_14 : decode cX11_town 14 = .ok (.i2l, 1) := by decide +kernel
theorem dX11_town_15 : decode cX11_town 15 = .ok (.iconst 0, 1) := by decide +kernel
theorem dX11_town_16 : decode cX11_town 16 = .ok (.bipush 99, 2) := by decide +kernel
theorem dX11_town_18 : decode cX11_town 18 = .ok (.invokestatic 46, 3) := by decide +kernel
theorem dX11_town_21 : decode cX11_town 21 = .ok (.ifCond .ne 6, 3) := by decide +kernel
theorem dX11_town_24 : decode cX11_town 24 = .ok (.bipush (-2), 2) := by decide +kernel
theorem dX11_town_26 : decode cX11_town 26 = .ok (.ireturn, 1) := by decide +kernel
theorem dX11_town_27 : decode cX11_town 27 = .ok (.aload_n 0, 1) := by decide +kernel
theorem dX11_town_28 : decode cX11_town 28 = .ok (.getfield 10, 3) := by decide +kernel
theorem dX11_town_31 : decode cX11_town 31 = .ok (.getfield 50, 3) := by decide +kernel
theorem dX11_town_34 : decode cX11_town 34 = .ok (.iload_n 1, 1) := by decide +kernel
theorem dX11_town_35 : decode cX11_town 35 = .ok (.invokevirtual 62, 3) := by decide +kernel
theorem dX11_town_38 : decode cX11_town 38 = .ok (.ifCond .eq 6, 3) := by decide +kernel
theorem dX11_town_41 : decode cX11_town 41 = .ok (.bipush (-3), 2) := by decide +kernel
theorem dX11_town_43 : decode cX11_town 43 = .ok (.ireturn, 1) := by decide +kernel
theorem dX11_town_44 : decode cX11_town 44 = .ok (.aload_n 0, 1) := by decide +kernel
theorem dX11_town_45 : decode cX11_town 45 = .ok (.getfield 10, 3) := by decide +kernel
theorem dX11_town_48 : decode cX11_town 48 = .ok (.getfield 50, 3) := by decide +kernel
theorem dX11_town_51 : decode cX11_town 51 = .ok (.getfield 66, 3) := by decide +kernel
theorem dX11_town_54 : decode cX11_town 54 = .ok (.bipush 6, 2) := by decide +kernel
theorem dX11_town_56 : decode cX11_town 56 = .ok (.if_icmp .lt 6, 3) := by decide +kernel
theorem dX11_town_59 : decode cX11_town 59 = .ok (.bipush (-4), 2) := by decide +kernel
theorem dX11_town_61 : decode cX11_town 61 = .ok (.ireturn, 1) := by decide +kernel
theorem dX11_town_62 : decode cX11_town 62 = .ok (.aload_n 0, 1) := by decide +kernel
theorem dX11_town_63 : decode cX11_town 63 = .ok (.getfield 10, 3) := by decide +kernel
theorem dX11_town_66 : decode cX11_town 66 = .ok (.getfield 50, 3) := by decide +kernel
theorem dX11_town_69 : decode cX11_town 69 = .ok (.iload_n 1, 1) := by decide +kernel
theorem dX11_town_70 : decode cX11_town 70 = .ok (.iload_n 2, 1) := by decide +kernel
theorem dX11_town_71 : decode cX11_town 71 = .ok (.invokevirtual 70, 3) := by decide +kernel
theorem dX11_town_74 : decode cX11_town 74 = .ok (.ireturn, 1) := by decide +kernel
theorem dX11_coin_0 : decode cX11_coin 0 = .ok (.iload_n 1, 1) := by decide +kernel
theorem dX11_coin_1 : decode cX11_coin 1 = .ok (.invokestatic 74, 3) := by decide +kernel
theorem dX11_coin_4 : decode cX11_coin 4 = .ok (.ifCond .ne 5, 3) := by decide +kernel
theorem dX11_coin_7 : decode cX11_coin 7 = .ok (.iconst (-1), 1) := by decide +kernel
theorem dX11_coin_8 : decode cX11_coin 8 = .ok (.ireturn, 1) := by decide +kernel
theorem dX11_coin_9 : decode cX11_coin 9 = .ok (.iload_n 2, 1) := by decide +kernel
theorem dX11_coin_10 : decode cX11_coin 10 = .ok (.i2l, 1) := by decide +kernel
theorem dX11_coin_11 : decode cX11_coin 11 = .ok (.iconst 0, 1) := by decide +kernel
theorem dX11_coin_12 : decode cX11_coin 12 = .ok (.ldc 77, 2) := by decide +kernel
theorem dX11_coin_14 : decode cX11_coin 14 = .ok (.invokestatic 46, 3) := by decide +kernel
theorem dX11_coin_17 : decode cX11_coin 17 = .ok (.ifCond .ne 6, 3) := by decide +kernel
theorem dX11_coin_20 : decode cX11_coin 20 = .ok (.bipush (-2), 2) := by decide +kernel
theorem dX11_coin_22 : decode cX11_coin 22 = .ok (.ireturn, 1) := by decide +kernel
theorem dX11_coin_23 : decode cX11_coin 23 = .ok (.aload_n 0, 1) := by decide +kernel
theorem dX11_coin_24 : decode cX11_coin 24 = .ok (.getfield 10, 3) := by decide +kernel
theorem dX11_coin_27 : decode cX11_coin 27 = .ok (.getfield 78, 3) := by decide +kernel
theorem dX11_coin_30 : decode cX11_coin 30 = .ok (.getfield 82, 3) := by decide +kernel
theorem dX11_coin_33 : decode cX11_coin 33 = .ok (.iload_n 1, 1) := by decide +kernel
theorem dX11_coin_34 : decode cX11_coin 34 = .ok (.iaload, 1) := by decide +kernel
theorem dX11_coin_35 : decode cX11_coin 35 = .ok (.istore_n 3, 1) := by decide +kernel
theorem dX11_coin_36 : decode cX11_coin 36 = .ok (.aload_n 0, 1) := by decide +kernel
theorem dX11_coin_37 : decode cX11_coin 37 = .ok (.getfield 10, 3) := by decide +kernel
theorem dX11_coin_40 : decode cX11_coin 40 = .ok (.getfield 78, 3) := by decide +kernel
theorem dX11_coin_43 : decode cX11_coin 43 = .ok (.getfield 82, 3) := by decide +kernel
theorem dX11_coin_46 : decode cX11_coin 46 = .ok (.iload_n 1, 1) := by decide +kernel
theorem dX11_coin_47 : decode cX11_coin 47 = .ok (.iload_n 2, 1) := by decide +kernel
theorem dX11_coin_48 : decode cX11_coin 48 = .ok (.iastore, 1) := by decide +kernel
theorem dX11_coin_49 : decode cX11_coin 49 = .ok (.iload_n 3, 1) := by decide +kernel
theorem dX11_coin_50 : decode cX11_coin 50 = .ok (.ireturn, 1) := by decide +kernel
theorem dX11_man_0 : decode cX11_man 0 = .ok (.iload_n 1, 1) := by decide +kernel
theorem dX11_man_1 : decode cX11_man 1 = .ok (.i2l, 1) := by decide +kernel
theorem dX11_man_2 : decode cX11_man 2 = .ok (.iconst 0, 1) := by decide +kernel
theorem dX11_man_3 : decode cX11_man 3 = .ok (.bipush 99, 2) := by decide +kernel
theorem dX11_man_5 : decode cX11_man 5 = .ok (.invokestatic 46, 3) := by decide +kernel
theorem dX11_man_8 : decode cX11_man 8 = .ok (.ifCond .ne 6, 3) := by decide +kernel
theorem dX11_man_11 : decode cX11_man 11 = .ok (.bipush (-2), 2) := by decide +kernel
theorem dX11_man_13 : decode cX11_man 13 = .ok (.ireturn, 1) := by decide +kernel
theorem dX11_man_14 : decode cX11_man 14 = .ok (.aload_n 0, 1) := by decide +kernel
theorem dX11_man_15 : decode cX11_man 15 = .ok (.getfield 10, 3) := by decide +kernel
theorem dX11_man_18 : decode cX11_man 18 = .ok (.getfield 87, 3) := by decide +kernel
theorem dX11_man_21 : decode cX11_man 21 = .ok (.istore_n 2, 1) := by decide +kernel
theorem dX11_man_22 : decode cX11_man 22 = .ok (.aload_n 0, 1) := by decide +kernel
theorem dX11_man_23 : decode cX11_man 23 = .ok (.getfield 10, 3) := by decide +kernel
theorem dX11_man_26 : decode cX11_man 26 = .ok (.iload_n 1, 1) := by decide +kernel
theorem dX11_man_27 : decode cX11_man 27 = .ok (.putfield 87, 3) := by decide +kernel
theorem dX11_man_30 : decode cX11_man 30 = .ok (.iload_n 2, 1) := by decide +kernel
theorem dX11_man_31 : decode cX11_man 31 = .ok (.ireturn, 1) := by decide +kernel
theorem dX11_feed_0 : decode cX11_feed 0 = .ok (.iload_n 3, 1) := by decide +kernel
theorem dX11_feed_1 : decode cX11_feed 1 = .ok (.i2l, 1) := by decide +kernel
theorem dX11_feed_2 : decode cX11_feed 2 = .ok (.iconst 1, 1) := by decide +kernel
theorem dX11_feed_3 : decode cX11_feed 3 = .ok (.bipush 8, 2) := by decide +kernel
theorem dX11_feed_5 : decode cX11_feed 5 = .ok (.invokestatic 46, 3) := by decide +kernel
theorem dX11_feed_8 : decode cX11_feed 8 = .ok (.ifCond .ne 6, 3) := by decide +kernel
theorem dX11_feed_11 : decode cX11_feed 11 = .ok (.bipush (-2), 2) := by decide +kernel
theorem dX11_feed_13 : decode cX11_feed 13 = .ok (.ireturn, 1) := by decide +kernel
theorem dX11_feed_14 : decode cX11_feed 14 = .ok (.aload_n 0, 1) := by decide +kernel
theorem dX11_feed_15 : decode cX11_feed 15 = .ok (.getfield 10, 3) := by decide +kernel
theorem dX11_feed_18 : decode cX11_feed 18 = .ok (.getfield 90, 3) := by decide +kernel
theorem dX11_feed_21 : decode cX11_feed 21 = .ok (.iload_n 3, 1) := by decide +kernel
theorem dX11_feed_22 : decode cX11_feed 22 = .ok (.iadd, 1) := by decide +kernel
theorem dX11_feed_23 : decode cX11_feed 23 = .ok (.sipush 140, 3) := by decide +kernel
theorem dX11_feed_26 : decode cX11_feed 26 = .ok (.if_icmp .le 6, 3) := by decide +kernel
theorem dX11_feed_29 : decode cX11_feed 29 = .ok (.bipush (-4), 2) := by decide +kernel
theorem dX11_feed_31 : decode cX11_feed 31 = .ok (.ireturn, 1) := by decide +kernel
theorem dX11_feed_32 : decode cX11_feed 32 = .ok (.iload_n 3, 1) := by decide +kernel
theorem dX11_feed_33 : decode cX11_feed 33 = .ok (.iconst 1, 1) := by decide +kernel
theorem dX11_feed_34 : decode cX11_feed 34 = .ok (.isub, 1) := by decide +kernel
theorem dX11_feed_35 : decode cX11_feed 35 = .ok (.istore 4, 2) := by decide +kernel
theorem dX11_feed_37 : decode cX11_feed 37 = .ok (.iload 4, 2) := by decide +kernel
theorem dX11_feed_39 : decode cX11_feed 39 = .ok (.ifCond .lt 46, 3) := by decide +kernel
theorem dX11_feed_42 : decode cX11_feed 42 = .ok (.aload_n 0, 1) := by decide +kernel
theorem dX11_feed_43 : decode cX11_feed 43 = .ok (.getfield 10, 3) := by decide +kernel
theorem dX11_feed_46 : decode cX11_feed 46 = .ok (.getfield 93, 3) := by decide +kernel
theorem dX11_feed_49 : decode cX11_feed 49 = .ok (.aload_n 0, 1) := by decide +kernel
theorem dX11_feed_50 : decode cX11_feed 50 = .ok (.getfield 10, 3) := by decide +kernel
theorem dX11_feed_53 : decode cX11_feed 53 = .ok (.getfield 90, 3) := by decide +kernel
theorem dX11_feed_56 : decode cX11_feed 56 = .ok (.lload_n 1, 1) := by decide +kernel
theorem dX11_feed_57 : decode cX11_feed 57 = .ok (.bipush 8, 2) := by decide +kernel
theorem dX11_feed_59 : decode cX11_feed 59 = .ok (.iload 4, 2) := by decide +kernel
theorem dX11_feed_61 : decode cX11_feed 61 = .ok (.imul, 1) := by decide +kernel
theorem dX11_feed_62 : decode cX11_feed 62 = .ok (.lshr, 1) := by decide +kernel
theorem dX11_feed_63 : decode cX11_feed 63 = .ok (.l2i, 1) := by decide +kernel
theorem dX11_feed_64 : decode cX11_feed 64 = .ok (.i2b, 1) := by decide +kernel
theorem dX11_feed_65 : decode cX11_feed 65 = .ok (.bastore, 1) := by decide +kernel
theorem dX11_feed_66 : decode cX11_feed 66 = .ok (.aload_n 0, 1) := by decide +kernel
theorem dX11_feed_67 : decode cX11_feed 67 = .ok (.getfield 10, 3) := by decide +kernel
theorem dX11_feed_70 : decode cX11_feed 70 = .ok (.dup, 1) := by decide +kernel
theorem dX11_feed_71 : decode cX11_feed 71 = .ok (.getfield 90, 3) := by decide +kernel
theorem dX11_feed_74 : decode cX11_feed 74 = .ok (.iconst 1, 1) := by decide +kernel
theorem dX11_feed_75 : decode cX11_feed 75 = .ok (.iadd, 1) := by decide +kernel
theorem dX11_feed_76 : decode cX11_feed 76 = .ok (.putfield 90, 3) := by decide +kernel
theorem dX11_feed_79 : decode cX11_feed 79 = .ok (.iinc 4 (-1), 3) := by decide +kernel
theorem dX11_feed_82 : decode cX11_feed 82 = .ok (.goto (-45), 3) := by decide +kernel
theorem dX11_feed_85 : decode cX11_feed 85 = .ok (.aload_n 0, 1) := by decide +kernel
theorem dX11_feed_86 : decode cX11_feed 86 = .ok (.getfield 10, 3) := by decide +kernel
theorem dX11_feed_89 : decode cX11_feed 89 = .ok (.getfield 90, 3) := by decide +kernel
theorem dX11_feed_92 : decode cX11_feed 92 = .ok (.ireturn, 1) := by decide +kernel
theorem dX11_text_0 : decode cX11_text 0 = .ok (.iload_n 1, 1) := by decide +kernel
theorem dX11_text_1 : decode cX11_text 1 = .ok (.invokestatic 97, 3) := by decide +kernel
theorem dX11_text_4 : decode cX11_text 4 = .ok (.ifCond .ne 6, 3) := by decide +kernel
theorem dX11_text_7 : decode cX11_text 7 = .ok (.bipush (-2), 2) := by decide +kernel
theorem dX11_text_9 : decode cX11_text 9 = .ok (.ireturn, 1) := by decide +kernel
theorem dX11_text_10 : decode cX11_text 10 = .ok (.aload_n 0, 1) := by decide +kernel
theorem dX11_text_11 : decode cX11_text 11 = .ok (.getfield 10, 3) := by decide +kernel
theorem dX11_text_14 : decode cX11_text 14 = .ok (.getfield 100, 3) := by decide +kernel
theorem dX11_text_17 : decode cX11_text 17 = .ok (.bipush 8, 2) := by decide +kernel
theorem dX11_text_19 : decode cX11_text 19 = .ok (.if_icmp .lt 6, 3) := by decide +kernel
theorem dX11_text_22 : decode cX11_text 22 = .ok (.bipush (-4), 2) := by decide +kernel
theorem dX11_text_24 : decode cX11_text 24 = .ok (.ireturn, 1) := by decide +kernel
theorem dX11_text_25 : decode cX11_text 25 = .ok (.aload_n 0, 1) := by decide +kernel
theorem dX11_text_26 : decode cX11_text 26 = .ok (.getfield 10, 3) := by decide +kernel
theorem dX11_text_29 : decode cX11_text 29 = .ok (.iload_n 1, 1) := by decide +kernel
theorem dX11_text_30 : decode cX11_text 30 = .ok (.invokevirtual 103, 3) := by decide +kernel
theorem dX11_text_33 : decode cX11_text 33 = .ok (.astore_n 2, 1) := by decide +kernel
theorem dX11_text_34 : decode cX11_text 34 = .ok (.aload_n 2, 1) := by decide +kernel
theorem dX11_text_35 : decode cX11_text 35 = .ok (.invokevirtual 107, 3) := by decide +kernel
theorem dX11_text_38 : decode cX11_text 38 = .ok (.istore_n 3, 1) := by decide +kernel
theorem dX11_text_39 : decode cX11_text 39 = .ok (.iload_n 3, 1) := by decide +kernel
theorem dX11_text_40 : decode cX11_text 40 = .ok (.iconst (-1), 1) := by decide +kernel
theorem dX11_text_41 : decode cX11_text 41 = .ok (.if_icmp .ne 14, 3) := by decide +kernel
theorem dX11_text_44 : decode cX11_text 44 = .ok (.aload_n 0, 1) := by decide +kernel
theorem dX11_text_45 : decode cX11_text 45 = .ok (.getfield 10, 3) := by decide +kernel
theorem dX11_text_48 : decode cX11_text 48 = .ok (.aload_n 2, 1) := by decide +kernel
theorem dX11_text_49 : decode cX11_text 49 = .ok (.invokevirtual 113, 3) := by decide +kernel
theorem dX11_text_52 : decode cX11_text 52 = .ok (.goto 7, 3) := by decide +kernel
theorem dX11_text_55 : decode cX11_text 55 = .ok (.bipush (-10), 2) := by decide +kernel
theorem dX11_text_57 : decode cX11_text 57 = .ok (.iload_n 3, 1) := by decide +kernel
theorem dX11_text_58 : decode cX11_text 58 = .ok (.isub, 1) := by decide +kernel
theorem dX11_text_59 : decode cX11_text 59 = .ok (.ireturn, 1) := by decide +kernel
theorem dX11_force_0 : decode cX11_force 0 = .ok (.iload_n 1, 1) := by decide +kernel
theorem dX11_force_1 : decode cX11_force 1 = .ok (.i2l, 1) := by decide +kernel
theorem dX11_force_2 : decode cX11_force 2 = .ok (.iconst 0, 1) := by decide +kernel
theorem dX11_force_3 : decode cX11_force 3 = .ok (.bipush 6, 2) := by decide +kernel
theorem dX11_force_5 : decode cX11_force 5 = .ok (.invokestatic 46, 3) := by decide +kernel
theorem dX11_force_8 : decode cX11_force 8 = .ok (.ifCond .ne 5, 3) := by decide +kernel
theorem dX11_force_11 : decode cX11_force 11 = .ok (.iconst (-1), 1) := by decide +kernel
theorem dX11_force_12 : decode cX11_force 12 = .ok (.ireturn, 1) := by decide +kernel
theorem dX11_force_13 : decode cX11_force 13 = .ok (.iload_n 2, 1) := by decide +kernel
theorem dX11_force_14 : decode cX11_force 14 = .ok (.invokestatic 97, 3) := by decide +kernel
theorem dX11_force_17 : decode cX11_force 17 = .ok (.ifCond .ne 6, 3) := by decide +kernel
theorem dX11_force_20 : decode cX11_force 20 = .ok (.bipush (-2), 2) := by decide +kernel
theorem dX11_force_22 : decode cX11_force 22 = .ok (.ireturn, 1) := by decide +kernel
theorem dX11_force_23 : decode cX11_force 23 = .ok (.iload_n 1, 1) := by decide +kernel
theorem dX11_force_24 : decode cX11_force 24 = .ok (.bipush 6, 2) := by decide +kernel
theorem dX11_force_26 : decode cX11_force 26 = .ok (.if_icmp .ne 22, 3) := by decide +kernel
theorem dX11_force_29 : decode cX11_force 29 = .ok (.aload_n 0, 1) := by decide +kernel
theorem dX11_force_30 : decode cX11_force 30 = .ok (.getfield 10, 3) := by decide +kernel
theorem dX11_force_33 : decode cX11_force 33 = .ok (.bipush 6, 2) := by decide +kernel
theorem dX11_force_35 : decode cX11_force 35 = .ok (.iload_n 2, 1) := by decide +kernel
theorem dX11_force_36 : decode cX11_force 36 = .ok (.invokevirtual 117, 3) := by decide +kernel
theorem dX11_force_39 : decode cX11_force 39 = .ok (.ifnonnull 7, 3) := by decide +kernel
theorem dX11_force_42 : decode cX11_force 42 = .ok (.iconst 0, 1) := by decide +kernel
theorem dX11_force_43 : decode cX11_force 43 = .ok (.goto 4, 3) := by decide +kernel
theorem dX11_force_46 : decode cX11_force 46 = .ok (.iconst 1, 1) := by decide +kernel
theorem dX11_force_47 : decode cX11_force 47 = .ok (.ireturn, 1) := by decide +kernel
theorem dX11_force_48 : decode cX11_force 48 = .ok (.aload_n 0, 1) := by decide +kernel
theorem dX11_force_49 : decode cX11_force 49 = .ok (.getfield 10, 3) := by decide +kernel
theorem dX11_force_52 : decode cX11_force 52 = .ok (.iload_n 1, 1) := by decide +kernel
theorem dX11_force_53 : decode cX11_force 53 = .ok (.iload_n 2, 1) := by decide +kernel
theorem dX11_force_54 : decode cX11_force 54 = .ok (.invokevirtual 121, 3) := by decide +kernel
theorem dX11_force_57 : decode cX11_force 57 = .ok (.ireturn, 1) := by decide +kernel
theorem dX11_why_0 : decode cX11_why 0 = .ok (.iload_n 1, 1) := by decide +kernel
theorem dX11_why_1 : decode cX11_why 1 = .ok (.i2l, 1) := by decide +kernel
theorem dX11_why_2 : decode cX11_why 2 = .ok (.iconst 0, 1) := by decide +kernel
theorem dX11_why_3 : decode cX11_why 3 = .ok (.bipush 6, 2) := by decide +kernel
theorem dX11_why_5 : decode cX11_why 5 = .ok (.invokestatic 46, 3) := by decide +kernel
theorem dX11_why_8 : decode cX11_why 8 = .ok (.ifCond .ne 5, 3) := by decide +kernel
theorem dX11_why_11 : decode cX11_why 11 = .ok (.iconst (-1), 1) := by decide +kernel
theorem dX11_why_12 : decode cX11_why 12 = .ok (.ireturn, 1) := by decide +kernel
theorem dX11_why_13 : decode cX11_why 13 = .ok (.iload_n 2, 1) := by decide +kernel
theorem dX11_why_14 : decode cX11_why 14 = .ok (.invokestatic 97, 3) := by decide +kernel
theorem dX11_why_17 : decode cX11_why 17 = .ok (.ifCond .ne 6, 3) := by decide +kernel
theorem dX11_why_20 : decode cX11_why 20 = .ok (.bipush (-2), 2) := by decide +kernel
theorem dX11_why_22 : decode cX11_why 22 = .ok (.ireturn, 1) := by decide +kernel
theorem dX11_why_23 : decode cX11_why 23 = .ok (.aload_n 0, 1) := by decide +kernel
theorem dX11_why_24 : decode cX11_why 24 = .ok (.getfield 10, 3) := by decide +kernel
theorem dX11_why_27 : decode cX11_why 27 = .ok (.iload_n 1, 1) := by decide +kernel
theorem dX11_why_28 : decode cX11_why 28 = .ok (.iload_n 2, 1) := by decide +kernel
theorem dX11_why_29 : decode cX11_why 29 = .ok (.invokevirtual 124, 3) := by decide +kernel
theorem dX11_why_32 : decode cX11_why 32 = .ok (.istore_n 3, 1) := by decide +kernel
theorem dX11_why_33 : decode cX11_why 33 = .ok (.aload_n 0, 1) := by decide +kernel
theorem dX11_why_34 : decode cX11_why 34 = .ok (.getfield 10, 3) := by decide +kernel
theorem dX11_why_37 : decode cX11_why 37 = .ok (.iload_n 1, 1) := by decide +kernel
theorem dX11_why_38 : decode cX11_why 38 = .ok (.iload_n 2, 1) := by decide +kernel
theorem dX11_why_39 : decode cX11_why 39 = .ok (.invokevirtual 117, 3) := by decide +kernel
theorem dX11_why_42 : decode cX11_why 42 = .ok (.astore 4, 2) := by decide +kernel
theorem dX11_why_44 : decode cX11_why 44 = .ok (.aload 4, 2) := by decide +kernel
theorem dX11_why_46 : decode cX11_why 46 = .ok (.ifnonnull 8, 3) := by decide +kernel
theorem dX11_why_49 : decode cX11_why 49 = .ok (.bipush (-5), 2) := by decide +kernel
theorem dX11_why_51 : decode cX11_why 51 = .ok (.goto 15, 3) := by decide +kernel
theorem dX11_why_54 : decode cX11_why 54 = .ok (.bipush 100, 2) := by decide +kernel
theorem dX11_why_56 : decode cX11_why 56 = .ok (.iload_n 3, 1) := by decide +kernel
theorem dX11_why_57 : decode cX11_why 57 = .ok (.imul, 1) := by decide +kernel
theorem dX11_why_58 : decode cX11_why 58 = .ok (.aload 4, 2) := by decide +kernel
theorem dX11_why_60 : decode cX11_why 60 = .ok (.getfield 127, 3) := by decide +kernel
theorem dX11_why_63 : decode cX11_why 63 = .ok (.iload_n 1, 1) := by decide +kernel
theorem dX11_why_64 : decode cX11_why 64 = .ok (.iaload, 1) := by decide +kernel
theorem dX11_why_65 : decode cX11_why 65 = .ok (.iadd, 1) := by decide +kernel
theorem dX11_why_66 : decode cX11_why 66 = .ok (.ireturn, 1) := by decide +kernel
theorem dX11_scheme_0 : decode cX11_scheme 0 = .ok (.aload_n 0, 1) := by decide +kernel
theorem dX11_scheme_1 : decode cX11_scheme 1 = .ok (.iload_n 1, 1) := by decide +kernel
theorem dX11_scheme_2 : decode cX11_scheme 2 = .ok (.invokevirtual 130, 3) := by decide +kernel
theorem dX11_scheme_5 : decode cX11_scheme 5 = .ok (.ifCond .eq 11, 3) := by decide +kernel
theorem dX11_scheme_8 : decode cX11_scheme 8 = .ok (.aload_n 0, 1) := by decide +kernel
theorem dX11_scheme_9 : decode cX11_scheme 9 = .ok (.iload_n 2, 1) := by decide +kernel
theorem dX11_scheme_10 : decode cX11_scheme 10 = .ok (.invokevirtual 130, 3) := by decide +kernel
theorem dX11_scheme_13 : decode cX11_scheme 13 = .ok (.ifCond .ne 5, 3) := by decide +kernel
theorem dX11_scheme_16 : decode cX11_scheme 16 = .ok (.iconst (-1), 1) := by decide +kernel
theorem dX11_scheme_17 : decode cX11_scheme 17 = .ok (.ireturn, 1) := by decide +kernel
theorem dX11_scheme_18 : decode cX11_scheme 18 = .ok (.iload_n 1, 1) := by decide +kernel
theorem dX11_scheme_19 : decode cX11_scheme 19 = .ok (.iload_n 2, 1) := by decide +kernel
theorem dX11_scheme_20 : decode cX11_scheme 20 = .ok (.if_icmp .eq 25, 3) := by decide +kernel
theorem dX11_scheme_23 : decode cX11_scheme 23 = .ok (.iload_n 3, 1) := by decide +kernel
theorem dX11_scheme_24 : decode cX11_scheme 24 = .ok (.i2l, 1) := by decide +kernel
theorem dX11_scheme_25 : decode cX11_scheme 25 = .ok (.iconst 0, 1) := by decide +kernel
theorem dX11_scheme_26 : decode cX11_scheme 26 = .ok (.iconst 1, 1) := by decide +kernel
theorem dX11_scheme_27 : decode cX11_scheme 27 = .ok (.invokestatic 46, 3) := by decide +kernel
theorem dX11_scheme_30 : decode cX11_scheme 30 = .ok (.ifCond .eq 15, 3) := by decide +kernel
theorem dX11_scheme_33 : decode cX11_scheme 33 = .ok (.iload 4, 2) := by decide +kernel
theorem dX11_scheme_35 : decode cX11_scheme 35 = .ok (.i2l, 1) := by decide +kernel
theorem dX11_scheme_36 : decode cX11_scheme 36 = .ok (.iconst 1, 1) := by decide +kernel
theorem dX11_scheme_37 : decode cX11_scheme 37 = .ok (.bipush 99, 2) := by decide +kernel
theorem dX11_scheme_39 : decode cX11_scheme 39 = .ok (.invokestatic 46, 3) := by decide +kernel
theorem dX11_scheme_42 : decode cX11_scheme 42 = .ok (.ifCond .ne 6, 3) := by decide +kernel
theorem dX11_scheme_45 : decode cX11_scheme 45 = .ok (.bipush (-2), 2) := by decide +kernel
theorem dX11_scheme_47 : decode cX11_scheme 47 = .ok (.ireturn, 1) := by decide +kernel
theorem dX11_scheme_48 : decode cX11_scheme 48 = .ok (.aload_n 0, 1) := by decide +kernel
theorem dX11_scheme_49 : decode cX11_scheme 49 = .ok (.getfield 10, 3) := by decide +kernel
theorem dX11_scheme_52 : decode cX11_scheme 52 = .ok (.getfield 133, 3) := by decide +kernel
theorem dX11_scheme_55 : decode cX11_scheme 55 = .ok (.invokevirtual 137, 3) := by decide +kernel
theorem dX11_scheme_58 : decode cX11_scheme 58 = .ok (.ifCond .ne 18, 3) := by decide +kernel
theorem dX11_scheme_61 : decode cX11_scheme 61 = .ok (.aload_n 0, 1) := by decide +kernel
theorem dX11_scheme_62 : decode cX11_scheme 62 = .ok (.getfield 10, 3) := by decide +kernel
theorem dX11_scheme_65 : decode cX11_scheme 65 = .ok (.getfield 133, 3) := by decide +kernel
theorem dX11_scheme_68 : decode cX11_scheme 68 = .ok (.getfield 143, 3) := by decide +kernel
theorem dX11_scheme_71 : decode cX11_scheme 71 = .ok (.bipush 12, 2) := by decide +kernel
theorem dX11_scheme_73 : decode cX11_scheme 73 = .ok (.if_icmp .lt 6, 3) := by decide +kernel
theorem dX11_scheme_76 : decode cX11_scheme 76 = .ok (.bipush (-4), 2) := by decide +kernel
theorem dX11_scheme_78 : decode cX11_scheme 78 = .ok (.ireturn, 1) := by decide +kernel
theorem dX11_scheme_79 : decode cX11_scheme 79 = .ok (.new 146, 3) := by decide +kernel
theorem dX11_scheme_82 : decode cX11_scheme 82 = .ok (.dup, 1) := by decide +kernel
theorem dX11_scheme_83 : decode cX11_scheme 83 = .ok (.iconst 1, 1) := by decide +kernel
theorem dX11_scheme_84 : decode cX11_scheme 84 = .ok (.iconst (-1), 1) := by decide +kernel
theorem dX11_scheme_85 : decode cX11_scheme 85 = .ok (.aload_n 0, 1) := by decide +kernel
theorem dX11_scheme_86 : decode cX11_scheme 86 = .ok (.getfield 10, 3) := by decide +kernel
theorem dX11_scheme_89 : decode cX11_scheme 89 = .ok (.getfield 148, 3) := by decide +kernel
theorem dX11_scheme_92 : decode cX11_scheme 92 = .ok (.getstatic 151, 3) := by decide +kernel
theorem dX11_scheme_95 : decode cX11_scheme 95 = .ok (.getstatic 151, 3) := by decide +kernel
theorem dX11_scheme_98 : decode cX11_scheme 98 = .ok (.invokespecial 154, 3) := by decide +kernel
theorem dX11_scheme_101 : decode cX11_scheme 101 = .ok (.astore 5, 2) := by decide +kernel
theorem dX11_scheme_103 : decode cX11_scheme 103 = .ok (.aload 5, 2) := by decide +kernel
theorem dX11_scheme_105 : decode cX11_scheme 105 = .ok (.iload_n 1, 1) := by decide +kernel
theorem dX11_scheme_106 : decode cX11_scheme 106 = .ok (.iload_n 2, 1) := by decide +kernel
theorem dX11_scheme_107 : decode cX11_scheme 107 = .ok (.iload_n 3, 1) := by decide +kernel
theorem dX11_scheme_108 : decode cX11_scheme 108 = .ok (.iload 4, 2) := by decide +kernel
theorem dX11_scheme_110 : decode cX11_scheme 110 = .ok (.invokevirtual 157, 3) := by decide +kernel
theorem dX11_scheme_113 : decode cX11_scheme 113 = .ok (.aload 5, 2) := by decide +kernel
theorem dX11_scheme_115 : decode cX11_scheme 115 = .ok (.aload_n 0, 1) := by decide +kernel
theorem dX11_scheme_116 : decode cX11_scheme 116 = .ok (.getfield 10, 3) := by decide +kernel
theorem dX11_scheme_119 : decode cX11_scheme 119 = .ok (.getfield 133, 3) := by decide +kernel
theorem dX11_scheme_122 : decode cX11_scheme 122 = .ok (.getfield 143, 3) := by decide +kernel
theorem dX11_scheme_125 : decode cX11_scheme 125 = .ok (.putfield 161, 3) := by decide +kernel
theorem dX11_scheme_128 : decode cX11_scheme 128 = .ok (.aload_n 0, 1) := by decide +kernel
theorem dX11_scheme_129 : decode cX11_scheme 129 = .ok (.getfield 10, 3) := by decide +kernel
theorem dX11_scheme_132 : decode cX11_scheme 132 = .ok (.getfield 78, 3) := by decide +kernel
theorem dX11_scheme_135 : decode cX11_scheme 135 = .ok (.aload 5, 2) := by decide +kernel
theorem dX11_scheme_137 : decode cX11_scheme 137 = .ok (.getfield 161, 3) := by decide +kernel
theorem dX11_scheme_140 : decode cX11_scheme 140 = .ok (.iload 4, 2) := by decide +kernel
theorem dX11_scheme_142 : decode cX11_scheme 142 = .ok (.invokevirtual 164, 3) := by decide +kernel
theorem dX11_scheme_145 : decode cX11_scheme 145 = .ok (.aload_n 0, 1) := by decide +kernel
theorem dX11_scheme_146 : decode cX11_scheme 146 = .ok (.getfield 10, 3) := by decide +kernel
theorem dX11_scheme_149 : decode cX11_scheme 149 = .ok (.getfield 133, 3) := by decide +kernel
theorem dX11_scheme_152 : decode cX11_scheme 152 = .ok (.aload 5, 2) := by decide +kernel
theorem dX11_scheme_154 : decode cX11_scheme 154 = .ok (.invokevirtual 168, 3) := by decide +kernel
theorem dX11_scheme_157 : decode cX11_scheme 157 = .ok (.ireturn, 1) := by decide +kernel
theorem dX11_chain_0 : decode cX11_chain 0 = .ok (.aload_n 0, 1) := by decide +kernel
theorem dX11_chain_1 : decode cX11_chain 1 = .ok (.getfield 10, 3) := by decide +kernel
theorem dX11_chain_4 : decode cX11_chain 4 = .ok (.getfield 133, 3) := by decide +kernel
theorem dX11_chain_7 : decode cX11_chain 7 = .ok (.iload_n 1, 1) := by decide +kernel
theorem dX11_chain_8 : decode cX11_chain 8 = .ok (.iconst 1, 1) := by decide +kernel
theorem dX11_chain_9 : decode cX11_chain 9 = .ok (.invokevirtual 172, 3) := by decide +kernel
theorem dX11_chain_12 : decode cX11_chain 12 = .ok (.astore 4, 2) := by decide +kernel
theorem dX11_chain_14 : decode cX11_chain 14 = .ok (.aload 4, 2) := by decide +kernel
theorem dX11_chain_16 : decode cX11_chain 16 = .ok (.ifnull 17, 3) := by decide +kernel
theorem dX11_chain_19 : decode cX11_chain 19 = .ok (.iload_n 2, 1) := by decide +kernel
theorem dX11_chain_20 : decode cX11_chain 20 = .ok (.invokestatic 176, 3) := by decide +kernel
theorem dX11_chain_23 : decode cX11_chain 23 = .ok (.ifCond .eq 10, 3) := by decide +kernel
theorem dX11_chain_26 : decode cX11_chain 26 = .ok (.iload_n 3, 1) := by decide +kernel
theorem dX11_chain_27 : decode cX11_chain 27 = .ok (.invokestatic 176, 3) := by decide +kernel
theorem dX11_chain_30 : decode cX11_chain 30 = .ok (.ifCond .ne 5, 3) := by decide +kernel
theorem dX11_chain_33 : decode cX11_chain 33 = .ok (.iconst (-1), 1) := by decide +kernel
theorem dX11_chain_34 : decode cX11_chain 34 = .ok (.ireturn, 1) := by decide +kernel
theorem dX11_chain_35 : decode cX11_chain 35 = .ok (.aload_n 0, 1) := by decide +kernel
theorem dX11_chain_36 : decode cX11_chain 36 = .ok (.getfield 10, 3) := by decide +kernel
theorem dX11_chain_39 : decode cX11_chain 39 = .ok (.getfield 179, 3) := by decide +kernel
theorem dX11_chain_42 : decode cX11_chain 42 = .ok (.iload_n 2, 1) := by decide +kernel
theorem dX11_chain_43 : decode cX11_chain 43 = .ok (.aaload, 1) := by decide +kernel
theorem dX11_chain_44 : decode cX11_chain 44 = .ok (.getfield 183, 3) := by decide +kernel
theorem dX11_chain_47 : decode cX11_chain 47 = .ok (.iconst (-1), 1) := by decide +kernel
theorem dX11_chain_48 : decode cX11_chain 48 = .ok (.if_icmp .ne 6, 3) := by decide +kernel
theorem dX11_chain_51 : decode cX11_chain 51 = .ok (.bipush (-11), 2) := by decide +kernel
theorem dX11_chain_53 : decode cX11_chain 53 = .ok (.ireturn, 1) := by decide +kernel
theorem dX11_chain_54 : decode cX11_chain 54 = .ok (.aload_n 0, 1) := by decide +kernel
theorem dX11_chain_55 : decode cX11_chain 55 = .ok (.getfield 10, 3) := by decide +kernel
theorem dX11_chain_58 : decode cX11_chain 58 = .ok (.getfield 179, 3) := by decide +kernel
theorem dX11_chain_61 : decode cX11_chain 61 = .ok (.iload_n 2, 1) := by decide +kernel
theorem dX11_chain_62 : decode cX11_chain 62 = .ok (.aaload, 1) := by decide +kernel
theorem dX11_chain_63 : decode cX11_chain 63 = .ok (.getfield 183, 3) := by decide +kernel
theorem dX11_chain_66 : decode cX11_chain 66 = .ok (.ifCond .eq 6, 3) := by decide +kernel
theorem dX11_chain_69 : decode cX11_chain 69 = .ok (.bipush (-13), 2) := by decide +kernel
theorem dX11_chain_71 : decode cX11_chain 71 = .ok (.ireturn, 1) := by decide +kernel
theorem dX11_chain_72 : decode cX11_chain 72 = .ok (.aload_n 0, 1) := by decide +kernel
theorem dX11_chain_73 : decode cX11_chain 73 = .ok (.getfield 10, 3) := by decide +kernel
theorem dX11_chain_76 : decode cX11_chain 76 = .ok (.getfield 133, 3) := by decide +kernel
theorem dX11_chain_79 : decode cX11_chain 79 = .ok (.invokevirtual 137, 3) := by decide +kernel
theorem dX11_chain_82 : decode cX11_chain 82 = .ok (.ifCond .eq 6, 3) := by decide +kernel
theorem dX11_chain_85 : decode cX11_chain 85 = .ok (.bipush (-4), 2) := by decide +kernel
theorem dX11_chain_87 : decode cX11_chain 87 = .ok (.ireturn, 1) := by decide +kernel
theorem dX11_chain_88 : decode cX11_chain 88 = .ok (.aload_n 0, 1) := by decide +kernel
theorem dX11_chain_89 : decode cX11_chain 89 = .ok (.getfield 10, 3) := by decide +kernel
theorem dX11_chain_92 : decode cX11_chain 92 = .ok (.getfield 133, 3) := by decide +kernel
theorem dX11_chain_95 : decode cX11_chain 95 = .ok (.aload_n 0, 1) := by decide +kernel
theorem dX11_chain_96 : decode cX11_chain 96 = .ok (.getfield 10, 3) := by decide +kernel
theorem dX11_chain_99 : decode cX11_chain 99 = .ok (.iload_n 1, 1) := by decide +kernel
theorem dX11_chain_100 : decode cX11_chain 100 = .ok (.aload 4, 2) := by decide +kernel
theorem dX11_chain_102 : decode cX11_chain 102 = .ok (.aload_n 0, 1) := by decide +kernel
theorem dX11_chain_103 : decode cX11_chain 103 = .ok (.getfield 10, 3) := by decide +kernel
theorem dX11_chain_106 : decode cX11_chain 106 = .ok (.getfield 179, 3) := by decide +kernel
theorem dX11_chain_109 : decode cX11_chain 109 = .ok (.iload_n 2, 1) := by decide +kernel
theorem dX11_chain_110 : decode cX11_chain 110 = .ok (.aaload, 1) := by decide +kernel
theorem dX11_chain_111 : decode cX11_chain 111 = .ok (.aload_n 0, 1) := by decide +kernel
theorem dX11_chain_112 : decode cX11_chain 112 = .ok (.getfield 10, 3) := by decide +kernel
theorem dX11_chain_115 : decode cX11_chain 115 = .ok (.getfield 179, 3) := by decide +kernel
theorem dX11_chain_118 : decode cX11_chain 118 = .ok (.iload_n 3, 1) := by decide +kernel
theorem dX11_chain_119 : decode cX11_chain 119 = .ok (.aaload, 1) := by decide +kernel
theorem dX11_chain_120 : decode cX11_chain 120 = .ok (.invokevirtual 188, 3) := by decide +kernel
theorem dX11_chain_123 : decode cX11_chain 123 = .ok (.invokevirtual 168, 3) := by decide +kernel
theorem dX11_chain_126 : decode cX11_chain 126 = .ok (.ireturn, 1) := by decide +kernel
theorem dX11_way_0 : decode cX11_way 0 = .ok (.aload_n 0, 1) := by decide +kernel
theorem dX11_way_1 : decode cX11_way 1 = .ok (.getfield 10, 3) := by decide +kernel
theorem dX11_way_4 : decode cX11_way 4 = .ok (.getfield 133, 3) := by decide +kernel
theorem dX11_way_7 : decode cX11_way 7 = .ok (.iload_n 1, 1) := by decide +kernel
theorem dX11_way_8 : decode cX11_way 8 = .ok (.iconst 2, 1) := by decide +kernel
theorem dX11_way_9 : decode cX11_way 9 = .ok (.invokevirtual 172, 3) := by decide +kernel
theorem dX11_way_12 : decode cX11_way 12 = .ok (.astore_n 3, 1) := by decide +kernel
theorem dX11_way_13 : decode cX11_way 13 = .ok (.aload_n 3, 1) := by decide +kernel
theorem dX11_way_14 : decode cX11_way 14 = .ok (.ifnonnull 5, 3) := by decide +kernel
theorem dX11_way_17 : decode cX11_way 17 = .ok (.iconst (-1), 1) := by decide +kernel
theorem dX11_way_18 : decode cX11_way 18 = .ok (.ireturn, 1) := by decide +kernel
theorem dX11_way_19 : decode cX11_way 19 = .ok (.iload_n 2, 1) := by decide +kernel
theorem dX11_way_20 : decode cX11_way 20 = .ok (.ifCond .ne 9, 3) := by decide +kernel
theorem dX11_way_23 : decode cX11_way 23 = .ok (.aload_n 3, 1) := by decide +kernel
theorem dX11_way_24 : decode cX11_way 24 = .ok (.getfield 192, 3) := by decide +kernel
theorem dX11_way_27 : decode cX11_way 27 = .ok (.arraylength, 1) := by decide +kernel
theorem dX11_way_28 : decode cX11_way 28 = .ok (.ireturn, 1) := by decide +kernel
theorem dX11_way_29 : decode cX11_way 29 = .ok (.iload_n 2, 1) := by decide +kernel
theorem dX11_way_30 : decode cX11_way 30 = .ok (.iconst 1, 1) := by decide +kernel
theorem dX11_way_31 : decode cX11_way 31 = .ok (.if_icmp .ne 8, 3) := by decide +kernel
theorem dX11_way_34 : decode cX11_way 34 = .ok (.aload_n 3, 1) := by decide +kernel
theorem dX11_way_35 : decode cX11_way 35 = .ok (.getfield 195, 3) := by decide +kernel
theorem dX11_way_38 : decode cX11_way 38 = .ok (.ireturn, 1) := by decide +kernel
theorem dX11_way_39 : decode cX11_way 39 = .ok (.iload_n 2, 1) := by decide +kernel
theorem dX11_way_40 : decode cX11_way 40 = .ok (.iconst 2, 1) := by decide +kernel
theorem dX11_way_41 : decode cX11_way 41 = .ok (.if_icmp .ne 18, 3) := by decide +kernel
theorem dX11_way_44 : decode cX11_way 44 = .ok (.aload_n 0, 1) := by decide +kernel
theorem dX11_way_45 : decode cX11_way 45 = .ok (.getfield 10, 3) := by decide +kernel
theorem dX11_way_48 : decode cX11_way 48 = .ok (.getfield 50, 3) := by decide +kernel
theorem dX11_way_51 : decode cX11_way 51 = .ok (.aload_n 3, 1) := by decide +kernel
theorem dX11_way_52 : decode cX11_way 52 = .ok (.getfield 192, 3) := by decide +kernel
theorem dX11_way_55 : decode cX11_way 55 = .ok (.invokevirtual 198, 3) := by decide +kernel
theorem dX11_way_58 : decode cX11_way 58 = .ok (.ireturn, 1) := by decide +kernel
theorem dX11_way_59 : decode cX11_way 59 = .ok (.iload_n 2, 1) := by decide +kernel
theorem dX11_way_60 : decode cX11_way 60 = .ok (.i2l, 1) := by decide +kernel
theorem dX11_way_61 : decode cX11_way 61 = .ok (.ldc2_w 202, 3) := by decide +kernel
theorem dX11_way_64 : decode cX11_way 64 = .ok (.lsub, 1) := by decide +kernel
theorem dX11_way_65 : decode cX11_way 65 = .ok (.iconst 0, 1) := by decide +kernel
theorem dX11_way_66 : decode cX11_way 66 = .ok (.aload_n 3, 1) := by decide +kernel
theorem dX11_way_67 : decode cX11_way 67 = .ok (.getfield 192, 3) := by decide +kernel
theorem dX11_way_70 : decode cX11_way 70 = .ok (.arraylength, 1) := by decide +kernel
theorem dX11_way_71 : decode cX11_way 71 = .ok (.iconst 1, 1) := by decide +kernel
theorem dX11_way_72 : decode cX11_way 72 = .ok (.isub, 1) := by decide +kernel
theorem dX11_way_73 : decode cX11_way 73 = .ok (.invokestatic 46, 3) := by decide +kernel
theorem dX11_way_76 : decode cX11_way 76 = .ok (.ifCond .eq 15, 3) := by decide +kernel
theorem dX11_way_79 : decode cX11_way 79 = .ok (.aload_n 3, 1) := by decide +kernel
theorem dX11_way_80 : decode cX11_way 80 = .ok (.getfield 192, 3) := by decide +kernel
theorem dX11_way_83 : decode cX11_way 83 = .ok (.iload_n 2, 1) := by decide +kernel
theorem dX11_way_84 : decode cX11_way 84 = .ok (.bipush 10, 2) := by decide +kernel
theorem dX11_way_86 : decode cX11_way 86 = .ok (.isub, 1) := by decide +kernel
theorem dX11_way_87 : decode cX11_way 87 = .ok (.iaload, 1) := by decide +kernel
theorem dX11_way_88 : decode cX11_way 88 = .ok (.goto 4, 3) := by decide +kernel
theorem dX11_way_91 : decode cX11_way 91 = .ok (.iconst (-1), 1) := by decide +kernel
theorem dX11_way_92 : decode cX11_way 92 = .ok (.ireturn, 1) := by decide +kernel
theorem dX11_level_0 : decode cX11_level 0 = .ok (.aload_n 0, 1) := by decide +kernel
theorem dX11_level_1 : decode cX11_level 1 = .ok (.getfield 10, 3) := by decide +kernel
theorem dX11_level_4 : decode cX11_level 4 = .ok (.getfield 133, 3) := by decide +kernel
theorem dX11_level_7 : decode cX11_level 7 = .ok (.iload_n 1, 1) := by decide +kernel
theorem dX11_level_8 : decode cX11_level 8 = .ok (.iconst 2, 1) := by decide +kernel
theorem dX11_level_9 : decode cX11_level 9 = .ok (.invokevirtual 172, 3) := by decide +kernel
theorem dX11_level_12 : decode cX11_level 12 = .ok (.astore_n 3, 1) := by decide +kernel
theorem dX11_level_13 : decode cX11_level 13 = .ok (.aload_n 3, 1) := by decide +kernel
theorem dX11_level_14 : decode cX11_level 14 = .ok (.ifnull 19, 3) := by decide +kernel
theorem dX11_level_17 : decode cX11_level 17 = .ok (.iload_n 2, 1) := by decide +kernel
theorem dX11_level_18 : decode cX11_level 18 = .ok (.i2l, 1) := by decide +kernel
theorem dX11_level_19 : decode cX11_level 19 = .ok (.iconst 0, 1) := by decide +kernel
theorem dX11_level_20 : decode cX11_level 20 = .ok (.aload_n 3, 1) := by decide +kernel
theorem dX11_level_21 : decode cX11_level 21 = .ok (.getfield 192, 3) := by decide +kernel
theorem dX11_level_24 : decode cX11_level 24 = .ok (.arraylength, 1) := by decide +kernel
theorem dX11_level_25 : decode cX11_level 25 = .ok (.iconst 1, 1) := by decide +kernel
theorem dX11_level_26 : decode cX11_level 26 = .ok (.isub, 1) := by decide +kernel
theorem dX11_level_27 : decode cX11_level 27 = .ok (.invokestatic 46, 3) := by decide +kernel
theorem dX11_level_30 : decode cX11_level 30 = .ok (.ifCond .ne 5, 3) := by decide +kernel
theorem dX11_level_33 : decode cX11_level 33 = .ok (.iconst (-1), 1) := by decide +kernel
theorem dX11_level_34 : decode cX11_level 34 = .ok (.ireturn, 1) := by decide +kernel
theorem dX11_level_35 : decode cX11_level 35 = .ok (.iload_n 2, 1) := by decide +kernel
theorem dX11_level_36 : decode cX11_level 36 = .ok (.aload_n 3, 1) := by decide +kernel
theorem dX11_level_37 : decode cX11_level 37 = .ok (.getfield 204, 3) := by decide +kernel
theorem dX11_level_40 : decode cX11_level 40 = .ok (.arraylength, 1) := by decide +kernel
theorem dX11_level_41 : decode cX11_level 41 = .ok (.if_icmp .ge 12, 3) := by decide +kernel
theorem dX11_level_44 : decode cX11_level 44 = .ok (.aload_n 3, 1) := by decide +kernel
theorem dX11_level_45 : decode cX11_level 45 = .ok (.getfield 204, 3) := by decide +kernel
theorem dX11_level_48 : decode cX11_level 48 = .ok (.iload_n 2, 1) := by decide +kernel
theorem dX11_level_49 : decode cX11_level 49 = .ok (.iaload, 1) := by decide +kernel
theorem dX11_level_50 : decode cX11_level 50 = .ok (.goto 5, 3) := by decide +kernel
theorem dX11_level_53 : decode cX11_level 53 = .ok (.ldc 207, 2) := by decide +kernel
theorem dX11_level_55 : decode cX11_level 55 = .ok (.ireturn, 1) := by decide +kernel
theorem dX11_close_0 : decode cX11_close 0 = .ok (.aload_n 0, 1) := by decide +kernel
theorem dX11_close_1 : decode cX11_close 1 = .ok (.getfield 10, 3) := by decide +kernel
theorem dX11_close_4 : decode cX11_close 4 = .ok (.getfield 133, 3) := by decide +kernel
theorem dX11_close_7 : decode cX11_close 7 = .ok (.iload_n 1, 1) := by decide +kernel
theorem dX11_close_8 : decode cX11_close 8 = .ok (.iconst 2, 1) := by decide +kernel
theorem dX11_close_9 : decode cX11_close 9 = .ok (.invokevirtual 172, 3) := by decide +kernel
theorem dX11_close_12 : decode cX11_close 12 = .ok (.astore 4, 2) := by decide +kernel
theorem dX11_close_14 : decode cX11_close 14 = .ok (.aload 4, 2) := by decide +kernel
theorem dX11_close_16 : decode cX11_close 16 = .ok (.ifnull 13, 3) := by decide +kernel
theorem dX11_close_19 : decode cX11_close 19 = .ok (.iload_n 2, 1) := by decide +kernel
theorem dX11_close_20 : decode cX11_close 20 = .ok (.i2l, 1) := by decide +kernel
theorem dX11_close_21 : decode cX11_close 21 = .ok (.iconst 0, 1) := by decide +kernel
theorem dX11_close_22 : decode cX11_close 22 = .ok (.iconst 1, 1) := by decide +kernel
theorem dX11_close_23 : decode cX11_close 23 = .ok (.invokestatic 46, 3) := by decide +kernel
theorem dX11_close_26 : decode cX11_close 26 = .ok (.ifCond .ne 5, 3) := by decide +kernel
theorem dX11_close_29 : decode cX11_close 29 = .ok (.iconst (-1), 1) := by decide +kernel
theorem dX11_close_30 : decode cX11_close 30 = .ok (.ireturn, 1) := by decide +kernel
theorem dX11_close_31 : decode cX11_close 31 = .ok (.iload_n 3, 1) := by decide +kernel
theorem dX11_close_32 : decode cX11_close 32 = .ok (.invokestatic 97, 3) := by decide +kernel
theorem dX11_close_35 : decode cX11_close 35 = .ok (.ifCond .ne 6, 3) := by decide +kernel
theorem dX11_close_38 : decode cX11_close 38 = .ok (.bipush (-2), 2) := by decide +kernel
theorem dX11_close_40 : decode cX11_close 40 = .ok (.ireturn, 1) := by decide +kernel
theorem dX11_close_41 : decode cX11_close 41 = .ok (.iload_n 2, 1) := by decide +kernel
theorem dX11_close_42 : decode cX11_close 42 = .ok (.ifCond .ne 16, 3) := by decide +kernel
theorem dX11_close_45 : decode cX11_close 45 = .ok (.aload_n 0, 1) := by decide +kernel
theorem dX11_close_46 : decode cX11_close 46 = .ok (.getfield 10, 3) := by decide +kernel
theorem dX11_close_49 : decode cX11_close 49 = .ok (.aload 4, 2) := by decide +kernel
theorem dX11_close_51 : decode cX11_close 51 = .ok (.iload_n 3, 1) := by decide +kernel
theorem dX11_close_52 : decode cX11_close 52 = .ok (.invokevirtual 208, 3) := by decide +kernel
theorem dX11_close_55 : decode cX11_close 55 = .ok (.goto 13, 3) := by decide +kernel
theorem dX11_close_58 : decode cX11_close 58 = .ok (.aload_n 0, 1) := by decide +kernel
theorem dX11_close_59 : decode cX11_close 59 = .ok (.getfield 10, 3) := by decide +kernel
theorem dX11_close_62 : decode cX11_close 62 = .ok (.aload 4, 2) := by decide +kernel
theorem dX11_close_64 : decode cX11_close 64 = .ok (.iload_n 3, 1) := by decide +kernel
theorem dX11_close_65 : decode cX11_close 65 = .ok (.invokevirtual 212, 3) := by decide +kernel
theorem dX11_close_68 : decode cX11_close 68 = .ok (.ireturn, 1) := by decide +kernel
theorem dX11_quarrel_0 : decode cX11_quarrel 0 = .ok (.aload_n 0, 1) := by decide +kernel
theorem dX11_quarrel_1 : decode cX11_quarrel 1 = .ok (.getfield 10, 3) := by decide +kernel
theorem dX11_quarrel_4 : decode cX11_quarrel 4 = .ok (.getfield 133, 3) := by decide +kernel
theorem dX11_quarrel_7 : decode cX11_quarrel 7 = .ok (.iload_n 1, 1) := by decide +kernel
theorem dX11_quarrel_8 : decode cX11_quarrel 8 = .ok (.iconst 2, 1) := by decide +kernel
theorem dX11_quarrel_9 : decode cX11_quarrel 9 = .ok (.invokevirtual 172, 3) := by decide +kernel
theorem dX11_quarrel_12 : decode cX11_quarrel 12 = .ok (.astore_n 3, 1) := by decide +kernel
theorem dX11_quarrel_13 : decode cX11_quarrel 13 = .ok (.aload_n 0, 1) := by decide +kernel
theorem dX11_quarrel_14 : decode cX11_quarrel 14 = .ok (.getfield 10, 3) := by decide +kernel
theorem dX11_quarrel_17 : decode cX11_quarrel 17 = .ok (.getfield 133, 3) := by decide +kernel
theorem dX11_quarrel_20 : decode cX11_quarrel 20 = .ok (.iload_n 2, 1) := by decide +kernel
theorem dX11_quarrel_21 : decode cX11_quarrel 21 = .ok (.iconst 2, 1) := by decide +kernel
theorem dX11_quarrel_22 : decode cX11_quarrel 22 = .ok (.invokevirtual 172, 3) := by decide +kernel
theorem dX11_quarrel_25 : decode cX11_quarrel 25 = .ok (.astore 4, 2) := by decide +kernel
theorem dX11_quarrel_27 : decode cX11_quarrel 27 = .ok (.aload_n 3, 1) := by decide +kernel
theorem dX11_quarrel_28 : decode cX11_quarrel 28 = .ok (.ifnull 8, 3) := by decide +kernel
theorem dX11_quarrel_31 : decode cX11_quarrel 31 = .ok (.aload 4, 2) := by decide +kernel
theorem dX11_quarrel_33 : decode cX11_quarrel 33 = .ok (.ifnonnull 5, 3) := by decide +kernel
theorem dX11_quarrel_36 : decode cX11_quarrel 36 = .ok (.iconst (-1), 1) := by decide +kernel
theorem dX11_quarrel_37 : decode cX11_quarrel 37 = .ok (.ireturn, 1) := by decide +kernel
theorem dX11_quarrel_38 : decode cX11_quarrel 38 = .ok (.iload_n 1, 1) := by decide +kernel
theorem dX11_quarrel_39 : decode cX11_quarrel 39 = .ok (.iload_n 2, 1) := by decide +kernel
theorem dX11_quarrel_40 : decode cX11_quarrel 40 = .ok (.if_icmp .ne 6, 3) := by decide +kernel
theorem dX11_quarrel_43 : decode cX11_quarrel 43 = .ok (.bipush (-2), 2) := by decide +kernel
theorem dX11_quarrel_45 : decode cX11_quarrel 45 = .ok (.ireturn, 1) := by decide +kernel
theorem dX11_quarrel_46 : decode cX11_quarrel 46 = .ok (.aload_n 3, 1) := by decide +kernel
theorem dX11_quarrel_47 : decode cX11_quarrel 47 = .ok (.aload 4, 2) := by decide +kernel
theorem dX11_quarrel_49 : decode cX11_quarrel 49 = .ok (.invokevirtual 215, 3) := by decide +kernel
theorem dX11_quarrel_52 : decode cX11_quarrel 52 = .ok (.ireturn, 1) := by decide +kernel
theorem dX11_slope_0 : decode cX11_slope 0 = .ok (.aload_n 0, 1) := by decide +kernel
theorem dX11_slope_1 : decode cX11_slope 1 = .ok (.iload_n 1, 1) := by decide +kernel
theorem dX11_slope_2 : decode cX11_slope 2 = .ok (.invokevirtual 130, 3) := by decide +kernel
theorem dX11_slope_5 : decode cX11_slope 5 = .ok (.ifCond .eq 28, 3) := by decide +kernel
theorem dX11_slope_8 : decode cX11_slope 8 = .ok (.aload_n 0, 1) := by decide +kernel
theorem dX11_slope_9 : decode cX11_slope 9 = .ok (.iload_n 2, 1) := by decide +kernel
theorem dX11_slope_10 : decode cX11_slope 10 = .ok (.invokevirtual 130, 3) := by decide +kernel
theorem dX11_slope_13 : decode cX11_slope 13 = .ok (.ifCond .eq 20, 3) := by decide +kernel
theorem dX11_slope_16 : decode cX11_slope 16 = .ok (.iload 4, 2) := by decide +kernel
theorem dX11_slope_18 : decode cX11_slope 18 = .ok (.ifCond .lt 15, 3) := by decide +kernel
theorem dX11_slope_21 : decode cX11_slope 21 = .ok (.iload 4, 2) := by decide +kernel
theorem dX11_slope_23 : decode cX11_slope 23 = .ok (.i2l, 1) := by decide +kernel
theorem dX11_slope_24 : decode cX11_slope 24 = .ok (.iconst 2, 1) := by decide +kernel
theorem dX11_slope_25 : decode cX11_slope 25 = .ok (.bipush 9, 2) := by decide +kernel
theorem dX11_slope_27 : decode cX11_slope 27 = .ok (.invokestatic 46, 3) := by decide +kernel
theorem dX11_slope_30 : decode cX11_slope 30 = .ok (.ifCond .eq 5, 3) := by decide +kernel
theorem dX11_slope_33 : decode cX11_slope 33 = .ok (.iconst (-1), 1) := by decide +kernel
theorem dX11_slope_34 : decode cX11_slope 34 = .ok (.ireturn, 1) := by decide +kernel
theorem dX11_slope_35 : decode cX11_slope 35 = .ok (.iload_n 1, 1) := by decide +kernel
theorem dX11_slope_36 : decode cX11_slope 36 = .ok (.iload_n 2, 1) := by decide +kernel
theorem dX11_slope_37 : decode cX11_slope 37 = .ok (.if_icmp .eq 10, 3) := by decide +kernel
theorem dX11_slope_40 : decode cX11_slope 40 = .ok (.iload_n 3, 1) := by decide +kernel
theorem dX11_slope_41 : decode cX11_slope 41 = .ok (.invokestatic 97, 3) := by decide +kernel
theorem dX11_slope_44 : decode cX11_slope 44 = .ok (.ifCond .ne 6, 3) := by decide +kernel
theorem dX11_slope_47 : decode cX11_slope 47 = .ok (.bipush (-2), 2) := by decide +kernel
theorem dX11_slope_49 : decode cX11_slope 49 = .ok (.ireturn, 1) := by decide +kernel
theorem dX11_slope_50 : decode cX11_slope 50 = .ok (.aload_n 0, 1) := by decide +kernel
theorem dX11_slope_51 : decode cX11_slope 51 = .ok (.getfield 28, 3) := by decide +kernel
theorem dX11_slope_54 : decode cX11_slope 54 = .ok (.aload_n 0, 1) := by decide +kernel
theorem dX11_slope_55 : decode cX11_slope 55 = .ok (.getfield 10, 3) := by decide +kernel
theorem dX11_slope_58 : decode cX11_slope 58 = .ok (.iload_n 1, 1) := by decide +kernel
theorem dX11_slope_59 : decode cX11_slope 59 = .ok (.iload_n 2, 1) := by decide +kernel
theorem dX11_slope_60 : decode cX11_slope 60 = .ok (.iload_n 3, 1) := by decide +kernel
theorem dX11_slope_61 : decode cX11_slope 61 = .ok (.invokevirtual 218, 3) := by decide +kernel
theorem dX11_slope_64 : decode cX11_slope 64 = .ok (.ifCond .ne 6, 3) := by decide +kernel
theorem dX11_slope_67 : decode cX11_slope 67 = .ok (.bipush (-5), 2) := by decide +kernel
theorem dX11_slope_69 : decode cX11_slope 69 = .ok (.ireturn, 1) := by decide +kernel
theorem dX11_slope_70 : decode cX11_slope 70 = .ok (.iload 4, 2) := by decide +kernel
theorem dX11_slope_72 : decode cX11_slope 72 = .ok (.ifCond .ne 11, 3) := by decide +kernel
theorem dX11_slope_75 : decode cX11_slope 75 = .ok (.aload_n 0, 1) := by decide +kernel
theorem dX11_slope_76 : decode cX11_slope 76 = .ok (.getfield 28, 3) := by decide +kernel
theorem dX11_slope_79 : decode cX11_slope 79 = .ok (.getfield 222, 3) := by decide +kernel
theorem dX11_slope_82 : decode cX11_slope 82 = .ok (.ireturn, 1) := by decide +kernel
theorem dX11_slope_83 : decode cX11_slope 83 = .ok (.iload 4, 2) := by decide +kernel
theorem dX11_slope_85 : decode cX11_slope 85 = .ok (.iconst 1, 1) := by decide +kernel
theorem dX11_slope_86 : decode cX11_slope 86 = .ok (.if_icmp .ne 11, 3) := by decide +kernel
theorem dX11_slope_89 : decode cX11_slope 89 = .ok (.aload_n 0, 1) := by decide +kernel
theorem dX11_slope_90 : decode cX11_slope 90 = .ok (.getfield 28, 3) := by decide +kernel
theorem dX11_slope_93 : decode cX11_slope 93 = .ok (.getfield 225, 3) := by decide +kernel
theorem dX11_slope_96 : decode cX11_slope 96 = .ok (.ireturn, 1) := by decide +kernel
theorem dX11_slope_97 : decode cX11_slope 97 = .ok (.iload 4, 2) := by decide +kernel
theorem dX11_slope_99 : decode cX11_slope 99 = .ok (.bipush 10, 2) := by decide +kernel
theorem dX11_slope_101 : decode cX11_slope 101 = .ok (.isub, 1) := by decide +kernel
theorem dX11_slope_102 : decode cX11_slope 102 = .ok (.aload_n 0, 1) := by decide +kernel
theorem dX11_slope_103 : decode cX11_slope 103 = .ok (.getfield 28, 3) := by decide +kernel
theorem dX11_slope_106 : decode cX11_slope 106 = .ok (.getfield 225, 3) := by decide +kernel
theorem dX11_slope_109 : decode cX11_slope 109 = .ok (.if_icmp .ge 19, 3) := by decide +kernel
theorem dX11_slope_112 : decode cX11_slope 112 = .ok (.aload_n 0, 1) := by decide +kernel
theorem dX11_slope_113 : decode cX11_slope 113 = .ok (.getfield 28, 3) := by decide +kernel
theorem dX11_slope_116 : decode cX11_slope 116 = .ok (.getfield 228, 3) := by decide +kernel
theorem dX11_slope_119 : decode cX11_slope 119 = .ok (.iload 4, 2) := by decide +kernel
theorem dX11_slope_121 : decode cX11_slope 121 = .ok (.bipush 10, 2) := by decide +kernel
theorem dX11_slope_123 : decode cX11_slope 123 = .ok (.isub, 1) := by decide +kernel
theorem dX11_slope_124 : decode cX11_slope 124 = .ok (.iaload, 1) := by decide +kernel
theorem dX11_slope_125 : decode cX11_slope 125 = .ok (.goto 4, 3) := by decide +kernel
theorem dX11_slope_128 : decode cX11_slope 128 = .ok (.iconst (-1), 1) := by decide +kernel
theorem dX11_slope_129 : decode cX11_slope 129 = .ok (.ireturn, 1) := by decide +kernel
theorem dX11_claim_0 : decode cX11_claim 0 = .ok (.iload_n 1, 1) := by decide +kernel
theorem dX11_claim_1 : decode cX11_claim 1 = .ok (.i2l, 1) := by decide +kernel
theorem dX11_claim_2 : decode cX11_claim 2 = .ok (.iconst 0, 1) := by decide +kernel
theorem dX11_claim_3 : decode cX11_claim 3 = .ok (.bipush 79, 2) := by decide +kernel
theorem dX11_claim_5 : decode cX11_claim 5 = .ok (.invokestatic 46, 3) := by decide +kernel
theorem dX11_claim_8 : decode cX11_claim 8 = .ok (.ifCond .ne 5, 3) := by decide +kernel
theorem dX11_claim_11 : decode cX11_claim 11 = .ok (.iconst (-1), 1) := by decide +kernel
theorem dX11_claim_12 : decode cX11_claim 12 = .ok (.ireturn, 1) := by decide +kernel
theorem dX11_claim_13 : decode cX11_claim 13 = .ok (.iload_n 2, 1) := by decide +kernel
theorem dX11_claim_14 : decode cX11_claim 14 = .ok (.i2l, 1) := by decide +kernel
theorem dX11_claim_15 : decode cX11_claim 15 = .ok (.iconst 1, 1) := by decide +kernel
theorem dX11_claim_16 : decode cX11_claim 16 = .ok (.sipush 9999, 3) := by decide +kernel
theorem dX11_claim_19 : decode cX11_claim 19 = .ok (.invokestatic 46, 3) := by decide +kernel
theorem dX11_claim_22 : decode cX11_claim 22 = .ok (.ifCond .ne 6, 3) := by decide +kernel
theorem dX11_claim_25 : decode cX11_claim 25 = .ok (.bipush (-2), 2) := by decide +kernel
theorem dX11_claim_27 : decode cX11_claim 27 = .ok (.ireturn, 1) := by decide +kernel
theorem dX11_claim_28 : decode cX11_claim 28 = .ok (.aload_n 0, 1) := by decide +kernel
theorem dX11_claim_29 : decode cX11_claim 29 = .ok (.getfield 10, 3) := by decide +kernel
theorem dX11_claim_32 : decode cX11_claim 32 = .ok (.getfield 133, 3) := by decide +kernel
theorem dX11_claim_35 : decode cX11_claim 35 = .ok (.invokevirtual 137, 3) := by decide +kernel
theorem dX11_claim_38 : decode cX11_claim 38 = .ok (.ifCond .eq 6, 3) := by decide +kernel
theorem dX11_claim_41 : decode cX11_claim 41 = .ok (.bipush (-4), 2) := by decide +kernel
theorem dX11_claim_43 : decode cX11_claim 43 = .ok (.ireturn, 1) := by decide +kernel
theorem dX11_claim_44 : decode cX11_claim 44 = .ok (.new 146, 3) := by decide +kernel
theorem dX11_claim_47 : decode cX11_claim 47 = .ok (.dup, 1) := by decide +kernel
theorem dX11_claim_48 : decode cX11_claim 48 = .ok (.bipush 6, 2) := by decide +kernel
theorem dX11_claim_50 : decode cX11_claim 50 = .ok (.iconst (-1), 1) := by decide +kernel
theorem dX11_claim_51 : decode cX11_claim 51 = .ok (.aload_n 0, 1) := by decide +kernel
theorem dX11_claim_52 : decode cX11_claim 52 = .ok (.getfield 10, 3) := by decide +kernel
theorem dX11_claim_55 : decode cX11_claim 55 = .ok (.getfield 148, 3) := by decide +kernel
theorem dX11_claim_58 : decode cX11_claim 58 = .ok (.getstatic 151, 3) := by decide +kernel
theorem dX11_claim_61 : decode cX11_claim 61 = .ok (.getstatic 151, 3) := by decide +kernel
theorem dX11_claim_64 : decode cX11_claim 64 = .ok (.invokespecial 154, 3) := by decide +kernel
theorem dX11_claim_67 : decode cX11_claim 67 = .ok (.astore_n 3, 1) := by decide +kernel
theorem dX11_claim_68 : decode cX11_claim 68 = .ok (.aload_n 3, 1) := by decide +kernel
theorem dX11_claim_69 : decode cX11_claim 69 = .ok (.iload_n 1, 1) := by decide +kernel
theorem dX11_claim_70 : decode cX11_claim 70 = .ok (.iconst (-1), 1) := by decide +kernel
theorem dX11_claim_71 : decode cX11_claim 71 = .ok (.iconst (-1), 1) := by decide +kernel
theorem dX11_claim_72 : decode cX11_claim 72 = .ok (.iload_n 2, 1) := by decide +kernel
theorem dX11_claim_73 : decode cX11_claim 73 = .ok (.invokevirtual 157, 3) := by decide +kernel
theorem dX11_claim_76 : decode cX11_claim 76 = .ok (.aload_n 0, 1) := by decide +kernel
theorem dX11_claim_77 : decode cX11_claim 77 = .ok (.getfield 10, 3) := by decide +kernel
theorem dX11_claim_80 : decode cX11_claim 80 = .ok (.getfield 50, 3) := by decide +kernel
theorem dX11_claim_83 : decode cX11_claim 83 = .ok (.getfield 229, 3) := by decide +kernel
theorem dX11_claim_86 : decode cX11_claim 86 = .ok (.iload_n 1, 1) := by decide +kernel
theorem dX11_claim_87 : decode cX11_claim 87 = .ok (.dup2, 1) := by decide +kernel
theorem dX11_claim_88 : decode cX11_claim 88 = .ok (.iaload, 1) := by decide +kernel
theorem dX11_claim_89 : decode cX11_claim 89 = .ok (.iload_n 2, 1) := by decide +kernel
theorem dX11_claim_90 : decode cX11_claim 90 = .ok (.iadd, 1) := by decide +kernel
theorem dX11_claim_91 : decode cX11_claim 91 = .ok (.iastore, 1) := by decide +kernel
theorem dX11_claim_92 : decode cX11_claim 92 = .ok (.aload_n 0, 1) := by decide +kernel
theorem dX11_claim_93 : decode cX11_claim 93 = .ok (.getfield 10, 3) := by decide +kernel
theorem dX11_claim_96 : decode cX11_claim 96 = .ok (.getfield 133, 3) := by decide +kernel
theorem dX11_claim_99 : decode cX11_claim 99 = .ok (.aload_n 3, 1) := by decide +kernel
theorem dX11_claim_100 : decode cX11_claim 100 = .ok (.invokevirtual 168, 3) := by decide +kernel
theorem dX11_claim_103 : decode cX11_claim 103 = .ok (.ireturn, 1) := by decide +kernel
theorem dX11_bill_0 : decode cX11_bill 0 = .ok (.aload_n 0, 1) := by decide +kernel
theorem dX11_bill_1 : decode cX11_bill 1 = .ok (.getfield 10, 3) := by decide +kernel
theorem dX11_bill_4 : decode cX11_bill 4 = .ok (.getfield 133, 3) := by decide +kernel
theorem dX11_bill_7 : decode cX11_bill 7 = .ok (.iload_n 1, 1) := by decide +kernel
theorem dX11_bill_8 : decode cX11_bill 8 = .ok (.iconst 2, 1) := by decide +kernel
theorem dX11_bill_9 : decode cX11_bill 9 = .ok (.invokevirtual 172, 3) := by decide +kernel
theorem dX11_bill_12 : decode cX11_bill 12 = .ok (.astore_n 2, 1) := by decide +kernel
theorem dX11_bill_13 : decode cX11_bill 13 = .ok (.aload_n 2, 1) := by decide +kernel
theorem dX11_bill_14 : decode cX11_bill 14 = .ok (.ifnonnull 5, 3) := by decide +kernel
theorem dX11_bill_17 : decode cX11_bill 17 = .ok (.iconst (-1), 1) := by decide +kernel
theorem dX11_bill_18 : decode cX11_bill 18 = .ok (.ireturn, 1) := by decide +kernel
theorem dX11_bill_19 : decode cX11_bill 19 = .ok (.aload_n 0, 1) := by decide +kernel
theorem dX11_bill_20 : decode cX11_bill 20 = .ok (.getfield 10, 3) := by decide +kernel
theorem dX11_bill_23 : decode cX11_bill 23 = .ok (.getfield 133, 3) := by decide +kernel
theorem dX11_bill_26 : decode cX11_bill 26 = .ok (.iload_n 1, 1) := by decide +kernel
theorem dX11_bill_27 : decode cX11_bill 27 = .ok (.invokevirtual 232, 3) := by decide +kernel
theorem dX11_bill_30 : decode cX11_bill 30 = .ok (.ifCond .ne 14, 3) := by decide +kernel
theorem dX11_bill_33 : decode cX11_bill 33 = .ok (.aload_n 0, 1) := by decide +kernel
theorem dX11_bill_34 : decode cX11_bill 34 = .ok (.getfield 10, 3) := by decide +kernel
theorem dX11_bill_37 : decode cX11_bill 37 = .ok (.aload_n 2, 1) := by decide +kernel
theorem dX11_bill_38 : decode cX11_bill 38 = .ok (.invokevirtual 235, 3) := by decide +kernel
theorem dX11_bill_41 : decode cX11_bill 41 = .ok (.ifCond .ne 6, 3) := by decide +kernel
theorem dX11_bill_44 : decode cX11_bill 44 = .ok (.bipush (-3), 2) := by decide +kernel
theorem dX11_bill_46 : decode cX11_bill 46 = .ok (.ireturn, 1) := by decide +kernel
theorem dX11_bill_47 : decode cX11_bill 47 = .ok (.aload_n 0, 1) := by decide +kernel
theorem dX11_bill_48 : decode cX11_bill 48 = .ok (.getfield 10, 3) := by decide +kernel
theorem dX11_bill_51 : decode cX11_bill 51 = .ok (.getfield 133, 3) := by decide +kernel
theorem dX11_bill_54 : decode cX11_bill 54 = .ok (.invokevirtual 137, 3) := by decide +kernel
theorem dX11_bill_57 : decode cX11_bill 57 = .ok (.ifCond .eq 6, 3) := by decide +kernel
theorem dX11_bill_60 : decode cX11_bill 60 = .ok (.bipush (-4), 2) := by decide +kernel
theorem dX11_bill_62 : decode cX11_bill 62 = .ok (.ireturn, 1) := by decide +kernel
theorem dX11_bill_63 : decode cX11_bill 63 = .ok (.new 146, 3) := by decide +kernel
theorem dX11_bill_66 : decode cX11_bill 66 = .ok (.dup, 1) := by decide +kernel
theorem dX11_bill_67 : decode cX11_bill 67 = .ok (.iconst 3, 1) := by decide +kernel
theorem dX11_bill_68 : decode cX11_bill 68 = .ok (.iload_n 1, 1) := by decide +kernel
theorem dX11_bill_69 : decode cX11_bill 69 = .ok (.aload_n 0, 1) := by decide +kernel
theorem dX11_bill_70 : decode cX11_bill 70 = .ok (.getfield 10, 3) := by decide +kernel
theorem dX11_bill_73 : decode cX11_bill 73 = .ok (.getfield 148, 3) := by decide +kernel
theorem dX11_bill_76 : decode cX11_bill 76 = .ok (.aload_n 2, 1) := by decide +kernel
theorem dX11_bill_77 : decode cX11_bill 77 = .ok (.getfield 192, 3) := by decide +kernel
theorem dX11_bill_80 : decode cX11_bill 80 = .ok (.aload_n 2, 1) := by decide +kernel
theorem dX11_bill_81 : decode cX11_bill 81 = .ok (.getfield 204, 3) := by decide +kernel
theorem dX11_bill_84 : decode cX11_bill 84 = .ok (.invokespecial 154, 3) := by decide +kernel
theorem dX11_bill_87 : decode cX11_bill 87 = .ok (.astore_n 3, 1) := by decide +kernel
theorem dX11_bill_88 : decode cX11_bill 88 = .ok (.aload_n 3, 1) := by decide +kernel
theorem dX11_bill_89 : decode cX11_bill 89 = .ok (.aload_n 2, 1) := by decide +kernel
theorem dX11_bill_90 : decode cX11_bill 90 = .ok (.getfield 239, 3) := by decide +kernel
theorem dX11_bill_93 : decode cX11_bill 93 = .ok (.aload_n 2, 1) := by decide +kernel
theorem dX11_bill_94 : decode cX11_bill 94 = .ok (.getfield 242, 3) := by decide +kernel
theorem dX11_bill_97 : decode cX11_bill 97 = .ok (.aload_n 2, 1) := by decide +kernel
theorem dX11_bill_98 : decode cX11_bill 98 = .ok (.getfield 245, 3) := by decide +kernel
theorem dX11_bill_101 : decode cX11_bill 101 = .ok (.iconst (-1), 1) := by decide +kernel
theorem dX11_bill_102 : decode cX11_bill 102 = .ok (.invokevirtual 157, 3) := by decide +kernel
theorem dX11_bill_105 : decode cX11_bill 105 = .ok (.aload_n 3, 1) := by decide +kernel
theorem dX11_bill_106 : decode cX11_bill 106 = .ok (.aload_n 2, 1) := by decide +kernel
theorem dX11_bill_107 : decode cX11_bill 107 = .ok (.getfield 161, 3) := by decide +kernel
theorem dX11_bill_110 : decode cX11_bill 110 = .ok (.putfield 161, 3) := by decide +kernel
theorem dX11_bill_113 : decode cX11_bill 113 = .ok (.aload_n 0, 1) := by decide +kernel
theorem dX11_bill_114 : decode cX11_bill 114 = .ok (.getfield 10, 3) := by decide +kernel
theorem dX11_bill_117 : decode cX11_bill 117 = .ok (.getfield 133, 3) := by decide +kernel
theorem dX11_bill_120 : decode cX11_bill 120 = .ok (.aload_n 3, 1) := by decide +kernel
theorem dX11_bill_121 : decode cX11_bill 121 = .ok (.invokevirtual 168, 3) := by decide +kernel
theorem dX11_bill_124 : decode cX11_bill 124 = .ok (.ireturn, 1) := by decide +kernel
theorem dX11_hear_0 : decode cX11_hear 0 = .ok (.aload_n 0, 1) := by decide +kernel
theorem dX11_hear_1 : decode cX11_hear 1 = .ok (.getfield 10, 3) := by decide +kernel
theorem dX11_hear_4 : decode cX11_hear 4 = .ok (.getfield 133, 3) := by decide +kernel
theorem dX11_hear_7 : decode cX11_hear 7 = .ok (.iload_n 1, 1) := by decide +kernel
theorem dX11_hear_8 : decode cX11_hear 8 = .ok (.iconst 3, 1) := by decide +kernel
theorem dX11_hear_9 : decode cX11_hear 9 = .ok (.invokevirtual 172, 3) := by decide +kernel
theorem dX11_hear_12 : decode cX11_hear 12 = .ok (.astore_n 3, 1) := by decide +kernel
theorem dX11_hear_13 : decode cX11_hear 13 = .ok (.aload_n 3, 1) := by decide +kernel
theorem dX11_hear_14 : decode cX11_hear 14 = .ok (.ifnonnull 5, 3) := by decide +kernel
theorem dX11_hear_17 : decode cX11_hear 17 = .ok (.iconst (-1), 1) := by decide +kernel
theorem dX11_hear_18 : decode cX11_hear 18 = .ok (.ireturn, 1) := by decide +kernel
theorem dX11_hear_19 : decode cX11_hear 19 = .ok (.iload_n 2, 1) := by decide +kernel
theorem dX11_hear_20 : decode cX11_hear 20 = .ok (.invokestatic 97, 3) := by decide +kernel
theorem dX11_hear_23 : decode cX11_hear 23 = .ok (.ifCond .ne 6, 3) := by decide +kernel
theorem dX11_hear_26 : decode cX11_hear 26 = .ok (.bipush (-2), 2) := by decide +kernel
theorem dX11_hear_28 : decode cX11_hear 28 = .ok (.ireturn, 1) := by decide +kernel
theorem dX11_hear_29 : decode cX11_hear 29 = .ok (.aload_n 0, 1) := by decide +kernel
theorem dX11_hear_30 : decode cX11_hear 30 = .ok (.getfield 10, 3) := by decide +kernel
theorem dX11_hear_33 : decode cX11_hear 33 = .ok (.aload_n 3, 1) := by decide +kernel
theorem dX11_hear_34 : decode cX11_hear 34 = .ok (.iload_n 2, 1) := by decide +kernel
theorem dX11_hear_35 : decode cX11_hear 35 = .ok (.invokevirtual 248, 3) := by decide +kernel
theorem dX11_hear_38 : decode cX11_hear 38 = .ok (.ifCond .eq 7, 3) := by decide +kernel
theorem dX11_hear_41 : decode cX11_hear 41 = .ok (.iconst 1, 1) := by decide +kernel
theorem dX11_hear_42 : decode cX11_hear 42 = .ok (.goto 4, 3) := by decide +kernel
theorem dX11_hear_45 : decode cX11_hear 45 = .ok (.iconst 0, 1) := by decide +kernel
theorem dX11_hear_46 : decode cX11_hear 46 = .ok (.ireturn, 1) := by decide +kernel
theorem dX11_bar_0 : decode cX11_bar 0 = .ok (.aload_n 0, 1) := by decide +kernel
theorem dX11_bar_1 : decode cX11_bar 1 = .ok (.getfield 10, 3) := by decide +kernel
theorem dX11_bar_4 : decode cX11_bar 4 = .ok (.getfield 133, 3) := by decide +kernel
theorem dX11_bar_7 : decode cX11_bar 7 = .ok (.iload_n 1, 1) := by decide +kernel
theorem dX11_bar_8 : decode cX11_bar 8 = .ok (.iconst 3, 1) := by decide +kernel
theorem dX11_bar_9 : decode cX11_bar 9 = .ok (.invokevirtual 172, 3) := by decide +kernel
