theorem dX11_bar_12 : decode cX11_bar 12 = .ok (.ifnull 18, 3) := by decide +kernel
theorem dX11_bar_15 : decode cX11_bar 15 = .ok (.aload_n 0, 1) := by decide +kernel
theorem dX11_bar_16 : decode cX11_bar 16 = .ok (.getfield 10, 3) := by decide +kernel
theorem dX11_bar_19 : decode cX11_bar 19 = .ok (.getfield 133, 3) := by decide +kernel
theorem dX11_bar_22 : decode cX11_bar 22 = .ok (.iload_n 2, 1) := by decide +kernel
theorem dX11_bar_23 : decode cX11_bar 23 = .ok (.iconst 3, 1) := by decide +kernel
theorem dX11_bar_24 : decode cX11_bar 24 = .ok (.invokevirtual 172, 3) := by decide +kernel
theorem dX11_bar_27 : decode cX11_bar 27 = .ok (.ifnonnull 5, 3) := by decide +kernel
theorem dX11_bar_30 : decode cX11_bar 30 = .ok (.iconst (-1), 1) := by decide +kernel
theorem dX11_bar_31 : decode cX11_bar 31 = .ok (.ireturn, 1) := by decide +kernel
theorem dX11_bar_32 : decode cX11_bar 32 = .ok (.iload_n 1, 1) := by decide +kernel
theorem dX11_bar_33 : decode cX11_bar 33 = .ok (.iload_n 2, 1) := by decide +kernel
theorem dX11_bar_34 : decode cX11_bar 34 = .ok (.if_icmp .ne 6, 3) := by decide +kernel
theorem dX11_bar_37 : decode cX11_bar 37 = .ok (.bipush (-2), 2) := by decide +kernel
theorem dX11_bar_39 : decode cX11_bar 39 = .ok (.ireturn, 1) := by decide +kernel
theorem dX11_bar_40 : decode cX11_bar 40 = .ok (.aload_n 0, 1) := by decide +kernel
theorem dX11_bar_41 : decode cX11_bar 41 = .ok (.getfield 10, 3) := by decide +kernel
theorem dX11_bar_44 : decode cX11_bar 44 = .ok (.getfield 133, 3) := by decide +kernel
theorem dX11_bar_47 : decode cX11_bar 47 = .ok (.iload_n 1, 1) := by decide +kernel
theorem dX11_bar_48 : decode cX11_bar 48 = .ok (.iload_n 2, 1) := by decide +kernel
theorem dX11_bar_49 : decode cX11_bar 49 = .ok (.invokevirtual 252, 3) := by decide +kernel
theorem dX11_bar_52 : decode cX11_bar 52 = .ok (.ifCond .eq 7, 3) := by decide +kernel
theorem dX11_bar_55 : decode cX11_bar 55 = .ok (.iconst 1, 1) := by decide +kernel
theorem dX11_bar_56 : decode cX11_bar 56 = .ok (.goto 4, 3) := by decide +kernel
theorem dX11_bar_59 : decode cX11_bar 59 = .ok (.iconst 0, 1) := by decide +kernel
theorem dX11_bar_60 : decode cX11_bar 60 = .ok (.ireturn, 1) := by decide +kernel
theorem dX11_grant_0 : decode cX11_grant 0 = .ok (.aload_n 0, 1) := by decide +kernel
theorem dX11_grant_1 : decode cX11_grant 1 = .ok (.getfield 10, 3) := by decide +kernel
theorem dX11_grant_4 : decode cX11_grant 4 = .ok (.getfield 133, 3) := by decide +kernel
theorem dX11_grant_7 : decode cX11_grant 7 = .ok (.iload_n 1, 1) := by decide +kernel
theorem dX11_grant_8 : decode cX11_grant 8 = .ok (.iconst 3, 1) := by decide +kernel
theorem dX11_grant_9 : decode cX11_grant 9 = .ok (.invokevirtual 172, 3) := by decide +kernel
theorem dX11_grant_12 : decode cX11_grant 12 = .ok (.astore_n 2, 1) := by decide +kernel
theorem dX11_grant_13 : decode cX11_grant 13 = .ok (.aload_n 2, 1) := by decide +kernel
theorem dX11_grant_14 : decode cX11_grant 14 = .ok (.ifnonnull 5, 3) := by decide +kernel
theorem dX11_grant_17 : decode cX11_grant 17 = .ok (.iconst (-1), 1) := by decide +kernel
theorem dX11_grant_18 : decode cX11_grant 18 = .ok (.ireturn, 1) := by decide +kernel
theorem dX11_grant_19 : decode cX11_grant 19 = .ok (.aload_n 0, 1) := by decide +kernel
theorem dX11_grant_20 : decode cX11_grant 20 = .ok (.getfield 10, 3) := by decide +kernel
theorem dX11_grant_23 : decode cX11_grant 23 = .ok (.getfield 133, 3) := by decide +kernel
theorem dX11_grant_26 : decode cX11_grant 26 = .ok (.astore_n 3, 1) := by decide +kernel
theorem dX11_grant_27 : decode cX11_grant 27 = .ok (.aload_n 3, 1) := by decide +kernel
theorem dX11_grant_28 : decode cX11_grant 28 = .ok (.iload_n 1, 1) := by decide +kernel
theorem dX11_grant_29 : decode cX11_grant 29 = .ok (.invokevirtual 256, 3) := by decide +kernel
theorem dX11_grant_32 : decode cX11_grant 32 = .ok (.ifCond .ne 29, 3) := by decide +kernel
theorem dX11_grant_35 : decode cX11_grant 35 = .ok (.aload_n 3, 1) := by decide +kernel
theorem dX11_grant_36 : decode cX11_grant 36 = .ok (.iload_n 1, 1) := by decide +kernel
theorem dX11_grant_37 : decode cX11_grant 37 = .ok (.invokevirtual 259, 3) := by decide +kernel
theorem dX11_grant_40 : decode cX11_grant 40 = .ok (.ifCond .ne 21, 3) := by decide +kernel
theorem dX11_grant_43 : decode cX11_grant 43 = .ok (.aload_n 0, 1) := by decide +kernel
theorem dX11_grant_44 : decode cX11_grant 44 = .ok (.getfield 10, 3) := by decide +kernel
theorem dX11_grant_47 : decode cX11_grant 47 = .ok (.aload_n 2, 1) := by decide +kernel
theorem dX11_grant_48 : decode cX11_grant 48 = .ok (.aload_n 0, 1) := by decide +kernel
theorem dX11_grant_49 : decode cX11_grant 49 = .ok (.getfield 10, 3) := by decide +kernel
theorem dX11_grant_52 : decode cX11_grant 52 = .ok (.getfield 148, 3) := by decide +kernel
theorem dX11_grant_55 : decode cX11_grant 55 = .ok (.invokevirtual 248, 3) := by decide +kernel
theorem dX11_grant_58 : decode cX11_grant 58 = .ok (.ifCond .ne 6, 3) := by decide +kernel
theorem dX11_grant_61 : decode cX11_grant 61 = .ok (.bipush (-3), 2) := by decide +kernel
theorem dX11_grant_63 : decode cX11_grant 63 = .ok (.ireturn, 1) := by decide +kernel
theorem dX11_grant_64 : decode cX11_grant 64 = .ok (.aload_n 3, 1) := by decide +kernel
theorem dX11_grant_65 : decode cX11_grant 65 = .ok (.iload_n 1, 1) := by decide +kernel
theorem dX11_grant_66 : decode cX11_grant 66 = .ok (.invokevirtual 262, 3) := by decide +kernel
theorem dX11_grant_69 : decode cX11_grant 69 = .ok (.aload_n 3, 1) := by decide +kernel
theorem dX11_grant_70 : decode cX11_grant 70 = .ok (.getfield 266, 3) := by decide +kernel
theorem dX11_grant_73 : decode cX11_grant 73 = .ok (.iload_n 1, 1) := by decide +kernel
theorem dX11_grant_74 : decode cX11_grant 74 = .ok (.aload_n 0, 1) := by decide +kernel
theorem dX11_grant_75 : decode cX11_grant 75 = .ok (.getfield 10, 3) := by decide +kernel
theorem dX11_grant_78 : decode cX11_grant 78 = .ok (.getfield 50, 3) := by decide +kernel
theorem dX11_grant_81 : decode cX11_grant 81 = .ok (.aload_n 2, 1) := by decide +kernel
theorem dX11_grant_82 : decode cX11_grant 82 = .ok (.getfield 192, 3) := by decide +kernel
theorem dX11_grant_85 : decode cX11_grant 85 = .ok (.invokevirtual 198, 3) := by decide +kernel
theorem dX11_grant_88 : decode cX11_grant 88 = .ok (.iastore, 1) := by decide +kernel
theorem dX11_grant_89 : decode cX11_grant 89 = .ok (.aload_n 3, 1) := by decide +kernel
theorem dX11_grant_90 : decode cX11_grant 90 = .ok (.invokevirtual 269, 3) := by decide +kernel
theorem dX11_grant_93 : decode cX11_grant 93 = .ok (.ireturn, 1) := by decide +kernel
theorem dX11_cast_0 : decode cX11_cast 0 = .ok (.aload_n 0, 1) := by decide +kernel
theorem dX11_cast_1 : decode cX11_cast 1 = .ok (.getfield 10, 3) := by decide +kernel
theorem dX11_cast_4 : decode cX11_cast 4 = .ok (.getfield 133, 3) := by decide +kernel
theorem dX11_cast_7 : decode cX11_cast 7 = .ok (.iload_n 1, 1) := by decide +kernel
theorem dX11_cast_8 : decode cX11_cast 8 = .ok (.invokevirtual 272, 3) := by decide +kernel
theorem dX11_cast_11 : decode cX11_cast 11 = .ok (.astore_n 3, 1) := by decide +kernel
theorem dX11_cast_12 : decode cX11_cast 12 = .ok (.aload_n 3, 1) := by decide +kernel
theorem dX11_cast_13 : decode cX11_cast 13 = .ok (.ifnull 14, 3) := by decide +kernel
theorem dX11_cast_16 : decode cX11_cast 16 = .ok (.iload_n 2, 1) := by decide +kernel
theorem dX11_cast_17 : decode cX11_cast 17 = .ok (.i2l, 1) := by decide +kernel
theorem dX11_cast_18 : decode cX11_cast 18 = .ok (.iconst 0, 1) := by decide +kernel
theorem dX11_cast_19 : decode cX11_cast 19 = .ok (.bipush 6, 2) := by decide +kernel
theorem dX11_cast_21 : decode cX11_cast 21 = .ok (.invokestatic 46, 3) := by decide +kernel
theorem dX11_cast_24 : decode cX11_cast 24 = .ok (.ifCond .ne 5, 3) := by decide +kernel
theorem dX11_cast_27 : decode cX11_cast 27 = .ok (.iconst (-1), 1) := by decide +kernel
theorem dX11_cast_28 : decode cX11_cast 28 = .ok (.ireturn, 1) := by decide +kernel
theorem dX11_cast_29 : decode cX11_cast 29 = .ok (.aload_n 3, 1) := by decide +kernel
theorem dX11_cast_30 : decode cX11_cast 30 = .ok (.iload_n 2, 1) := by decide +kernel
theorem dX11_cast_31 : decode cX11_cast 31 = .ok (.invokevirtual 276, 3) := by decide +kernel
theorem dX11_cast_34 : decode cX11_cast 34 = .ok (.ifCond .eq 17, 3) := by decide +kernel
theorem dX11_cast_37 : decode cX11_cast 37 = .ok (.aload_n 0, 1) := by decide +kernel
theorem dX11_cast_38 : decode cX11_cast 38 = .ok (.getfield 10, 3) := by decide +kernel
theorem dX11_cast_41 : decode cX11_cast 41 = .ok (.getfield 133, 3) := by decide +kernel
theorem dX11_cast_44 : decode cX11_cast 44 = .ok (.aload_n 3, 1) := by decide +kernel
theorem dX11_cast_45 : decode cX11_cast 45 = .ok (.invokevirtual 279, 3) := by decide +kernel
theorem dX11_cast_48 : decode cX11_cast 48 = .ok (.goto 5, 3) := by decide +kernel
theorem dX11_cast_51 : decode cX11_cast 51 = .ok (.bipush (-13), 2) := by decide +kernel
theorem dX11_cast_53 : decode cX11_cast 53 = .ok (.ireturn, 1) := by decide +kernel
theorem dX11_about_0 : decode cX11_about 0 = .ok (.aload_n 0, 1) := by decide +kernel
theorem dX11_about_1 : decode cX11_about 1 = .ok (.getfield 10, 3) := by decide +kernel
theorem dX11_about_4 : decode cX11_about 4 = .ok (.getfield 133, 3) := by decide +kernel
theorem dX11_about_7 : decode cX11_about 7 = .ok (.iload_n 1, 1) := by decide +kernel
theorem dX11_about_8 : decode cX11_about 8 = .ok (.invokevirtual 272, 3) := by decide +kernel
theorem dX11_about_11 : decode cX11_about 11 = .ok (.astore_n 3, 1) := by decide +kernel
theorem dX11_about_12 : decode cX11_about 12 = .ok (.aload_n 3, 1) := by decide +kernel
theorem dX11_about_13 : decode cX11_about 13 = .ok (.ifnonnull 5, 3) := by decide +kernel
theorem dX11_about_16 : decode cX11_about 16 = .ok (.iconst (-1), 1) := by decide +kernel
theorem dX11_about_17 : decode cX11_about 17 = .ok (.ireturn, 1) := by decide +kernel
theorem dX11_about_18 : decode cX11_about 18 = .ok (.iload_n 2, 1) := by decide +kernel
theorem dX11_about_19 : decode cX11_about 19 = .ok (.tableswitch 100 0 7 #[45, 50, 55, 60, 65, 70, 75, 80], 45) := by decide +kernel
theorem dX11_about_64 : decode cX11_about 64 = .ok (.aload_n 3, 1) := by decide +kernel
theorem dX11_about_65 : decode cX11_about 65 = .ok (.getfield 282, 3) := by decide +kernel
theorem dX11_about_68 : decode cX11_about 68 = .ok (.ireturn, 1) := by decide +kernel
theorem dX11_about_69 : decode cX11_about 69 = .ok (.aload_n 3, 1) := by decide +kernel
theorem dX11_about_70 : decode cX11_about 70 = .ok (.getfield 285, 3) := by decide +kernel
theorem dX11_about_73 : decode cX11_about 73 = .ok (.ireturn, 1) := by decide +kernel
theorem dX11_about_74 : decode cX11_about 74 = .ok (.aload_n 3, 1) := by decide +kernel
theorem dX11_about_75 : decode cX11_about 75 = .ok (.getfield 288, 3) := by decide +kernel
theorem dX11_about_78 : decode cX11_about 78 = .ok (.ireturn, 1) := by decide +kernel
theorem dX11_about_79 : decode cX11_about 79 = .ok (.aload_n 3, 1) := by decide +kernel
theorem dX11_about_80 : decode cX11_about 80 = .ok (.getfield 239, 3) := by decide +kernel
theorem dX11_about_83 : decode cX11_about 83 = .ok (.ireturn, 1) := by decide +kernel
theorem dX11_about_84 : decode cX11_about 84 = .ok (.aload_n 3, 1) := by decide +kernel
theorem dX11_about_85 : decode cX11_about 85 = .ok (.getfield 242, 3) := by decide +kernel
theorem dX11_about_88 : decode cX11_about 88 = .ok (.ireturn, 1) := by decide +kernel
theorem dX11_about_89 : decode cX11_about 89 = .ok (.aload_n 3, 1) := by decide +kernel
theorem dX11_about_90 : decode cX11_about 90 = .ok (.getfield 245, 3) := by decide +kernel
theorem dX11_about_93 : decode cX11_about 93 = .ok (.ireturn, 1) := by decide +kernel
theorem dX11_about_94 : decode cX11_about 94 = .ok (.aload_n 3, 1) := by decide +kernel
theorem dX11_about_95 : decode cX11_about 95 = .ok (.getfield 291, 3) := by decide +kernel
theorem dX11_about_98 : decode cX11_about 98 = .ok (.ireturn, 1) := by decide +kernel
theorem dX11_about_99 : decode cX11_about 99 = .ok (.aload_n 0, 1) := by decide +kernel
theorem dX11_about_100 : decode cX11_about 100 = .ok (.getfield 10, 3) := by decide +kernel
theorem dX11_about_103 : decode cX11_about 103 = .ok (.getfield 133, 3) := by decide +kernel
theorem dX11_about_106 : decode cX11_about 106 = .ok (.iload_n 1, 1) := by decide +kernel
theorem dX11_about_107 : decode cX11_about 107 = .ok (.invokevirtual 256, 3) := by decide +kernel
theorem dX11_about_110 : decode cX11_about 110 = .ok (.ifCond .eq 7, 3) := by decide +kernel
theorem dX11_about_113 : decode cX11_about 113 = .ok (.iconst 1, 1) := by decide +kernel
theorem dX11_about_114 : decode cX11_about 114 = .ok (.goto 4, 3) := by decide +kernel
theorem dX11_about_117 : decode cX11_about 117 = .ok (.iconst 0, 1) := by decide +kernel
theorem dX11_about_118 : decode cX11_about 118 = .ok (.ireturn, 1) := by decide +kernel
theorem dX11_about_119 : decode cX11_about 119 = .ok (.iconst (-1), 1) := by decide +kernel
theorem dX11_about_120 : decode cX11_about 120 = .ok (.ireturn, 1) := by decide +kernel
theorem dX11_board_0 : decode cX11_board 0 = .ok (.iload_n 1, 1) := by decide +kernel
theorem dX11_board_1 : decode cX11_board 1 = .ok (.invokestatic 74, 3) := by decide +kernel
theorem dX11_board_4 : decode cX11_board 4 = .ok (.ifCond .eq 18, 3) := by decide +kernel
theorem dX11_board_7 : decode cX11_board 7 = .ok (.aload_n 0, 1) := by decide +kernel
theorem dX11_board_8 : decode cX11_board 8 = .ok (.getfield 10, 3) := by decide +kernel
theorem dX11_board_11 : decode cX11_board 11 = .ok (.getfield 133, 3) := by decide +kernel
theorem dX11_board_14 : decode cX11_board 14 = .ok (.iload_n 2, 1) := by decide +kernel
theorem dX11_board_15 : decode cX11_board 15 = .ok (.iconst 3, 1) := by decide +kernel
theorem dX11_board_16 : decode cX11_board 16 = .ok (.invokevirtual 172, 3) := by decide +kernel
theorem dX11_board_19 : decode cX11_board 19 = .ok (.ifnonnull 5, 3) := by decide +kernel
theorem dX11_board_22 : decode cX11_board 22 = .ok (.iconst (-1), 1) := by decide +kernel
theorem dX11_board_23 : decode cX11_board 23 = .ok (.ireturn, 1) := by decide +kernel
theorem dX11_board_24 : decode cX11_board 24 = .ok (.aload_n 0, 1) := by decide +kernel
theorem dX11_board_25 : decode cX11_board 25 = .ok (.getfield 10, 3) := by decide +kernel
theorem dX11_board_28 : decode cX11_board 28 = .ok (.getfield 133, 3) := by decide +kernel
theorem dX11_board_31 : decode cX11_board 31 = .ok (.getfield 294, 3) := by decide +kernel
theorem dX11_board_34 : decode cX11_board 34 = .ok (.bipush 60, 2) := by decide +kernel
theorem dX11_board_36 : decode cX11_board 36 = .ok (.if_icmp .lt 6, 3) := by decide +kernel
theorem dX11_board_39 : decode cX11_board 39 = .ok (.bipush (-4), 2) := by decide +kernel
theorem dX11_board_41 : decode cX11_board 41 = .ok (.ireturn, 1) := by decide +kernel
theorem dX11_board_42 : decode cX11_board 42 = .ok (.aload_n 0, 1) := by decide +kernel
theorem dX11_board_43 : decode cX11_board 43 = .ok (.getfield 10, 3) := by decide +kernel
theorem dX11_board_46 : decode cX11_board 46 = .ok (.getfield 133, 3) := by decide +kernel
theorem dX11_board_49 : decode cX11_board 49 = .ok (.iload_n 1, 1) := by decide +kernel
theorem dX11_board_50 : decode cX11_board 50 = .ok (.iload_n 2, 1) := by decide +kernel
theorem dX11_board_51 : decode cX11_board 51 = .ok (.iload_n 3, 1) := by decide +kernel
theorem dX11_board_52 : decode cX11_board 52 = .ok (.invokevirtual 297, 3) := by decide +kernel
theorem dX11_board_55 : decode cX11_board 55 = .ok (.ireturn, 1) := by decide +kernel
theorem dX11_doubled_0 : decode cX11_doubled 0 = .ok (.aload_n 0, 1) := by decide +kernel
theorem dX11_doubled_1 : decode cX11_doubled 1 = .ok (.getfield 10, 3) := by decide +kernel
theorem dX11_doubled_4 : decode cX11_doubled 4 = .ok (.getfield 133, 3) := by decide +kernel
theorem dX11_doubled_7 : decode cX11_doubled 7 = .ok (.invokevirtual 301, 3) := by decide +kernel
theorem dX11_doubled_10 : decode cX11_doubled 10 = .ok (.ireturn, 1) := by decide +kernel
theorem dX11_hand_0 : decode cX11_hand 0 = .ok (.iload_n 1, 1) := by decide +kernel
theorem dX11_hand_1 : decode cX11_hand 1 = .ok (.i2l, 1) := by decide +kernel
theorem dX11_hand_2 : decode cX11_hand 2 = .ok (.iconst 1, 1) := by decide +kernel
theorem dX11_hand_3 : decode cX11_hand 3 = .ok (.bipush 30, 2) := by decide +kernel
theorem dX11_hand_5 : decode cX11_hand 5 = .ok (.invokestatic 46, 3) := by decide +kernel
theorem dX11_hand_8 : decode cX11_hand 8 = .ok (.ifCond .eq 14, 3) := by decide +kernel
theorem dX11_hand_11 : decode cX11_hand 11 = .ok (.iload_n 2, 1) := by decide +kernel
theorem dX11_hand_12 : decode cX11_hand 12 = .ok (.i2l, 1) := by decide +kernel
theorem dX11_hand_13 : decode cX11_hand 13 = .ok (.iconst 1, 1) := by decide +kernel
theorem dX11_hand_14 : decode cX11_hand 14 = .ok (.bipush 30, 2) := by decide +kernel
theorem dX11_hand_16 : decode cX11_hand 16 = .ok (.invokestatic 46, 3) := by decide +kernel
theorem dX11_hand_19 : decode cX11_hand 19 = .ok (.ifCond .ne 6, 3) := by decide +kernel
theorem dX11_hand_22 : decode cX11_hand 22 = .ok (.bipush (-2), 2) := by decide +kernel
theorem dX11_hand_24 : decode cX11_hand 24 = .ok (.ireturn, 1) := by decide +kernel
theorem dX11_hand_25 : decode cX11_hand 25 = .ok (.aload_n 0, 1) := by decide +kernel
theorem dX11_hand_26 : decode cX11_hand 26 = .ok (.getfield 10, 3) := by decide +kernel
theorem dX11_hand_29 : decode cX11_hand 29 = .ok (.getfield 304, 3) := by decide +kernel
theorem dX11_hand_32 : decode cX11_hand 32 = .ok (.getfield 308, 3) := by decide +kernel
theorem dX11_hand_35 : decode cX11_hand 35 = .ok (.bipush 7, 2) := by decide +kernel
theorem dX11_hand_37 : decode cX11_hand 37 = .ok (.if_icmp .lt 6, 3) := by decide +kernel
theorem dX11_hand_40 : decode cX11_hand 40 = .ok (.bipush (-4), 2) := by decide +kernel
theorem dX11_hand_42 : decode cX11_hand 42 = .ok (.ireturn, 1) := by decide +kernel
theorem dX11_hand_43 : decode cX11_hand 43 = .ok (.aload_n 0, 1) := by decide +kernel
theorem dX11_hand_44 : decode cX11_hand 44 = .ok (.getfield 10, 3) := by decide +kernel
theorem dX11_hand_47 : decode cX11_hand 47 = .ok (.getfield 304, 3) := by decide +kernel
theorem dX11_hand_50 : decode cX11_hand 50 = .ok (.iload_n 1, 1) := by decide +kernel
theorem dX11_hand_51 : decode cX11_hand 51 = .ok (.iload_n 2, 1) := by decide +kernel
theorem dX11_hand_52 : decode cX11_hand 52 = .ok (.invokevirtual 311, 3) := by decide +kernel
theorem dX11_hand_55 : decode cX11_hand 55 = .ok (.ireturn, 1) := by decide +kernel
theorem dX11_midnight_0 : decode cX11_midnight 0 = .ok (.iload_n 2, 1) := by decide +kernel
theorem dX11_midnight_1 : decode cX11_midnight 1 = .ok (.iconst (-1), 1) := by decide +kernel
theorem dX11_midnight_2 : decode cX11_midnight 2 = .ok (.if_icmp .ge 5, 3) := by decide +kernel
theorem dX11_midnight_5 : decode cX11_midnight 5 = .ok (.iconst (-1), 1) := by decide +kernel
theorem dX11_midnight_6 : decode cX11_midnight 6 = .ok (.ireturn, 1) := by decide +kernel
theorem dX11_midnight_7 : decode cX11_midnight 7 = .ok (.iload_n 1, 1) := by decide +kernel
theorem dX11_midnight_8 : decode cX11_midnight 8 = .ok (.i2l, 1) := by decide +kernel
theorem dX11_midnight_9 : decode cX11_midnight 9 = .ok (.iconst 1, 1) := by decide +kernel
theorem dX11_midnight_10 : decode cX11_midnight 10 = .ok (.sipush 999, 3) := by decide +kernel
theorem dX11_midnight_13 : decode cX11_midnight 13 = .ok (.invokestatic 46, 3) := by decide +kernel
theorem dX11_midnight_16 : decode cX11_midnight 16 = .ok (.ifCond .ne 6, 3) := by decide +kernel
theorem dX11_midnight_19 : decode cX11_midnight 19 = .ok (.bipush (-2), 2) := by decide +kernel
theorem dX11_midnight_21 : decode cX11_midnight 21 = .ok (.ireturn, 1) := by decide +kernel
theorem dX11_midnight_22 : decode cX11_midnight 22 = .ok (.aload_n 0, 1) := by decide +kernel
theorem dX11_midnight_23 : decode cX11_midnight 23 = .ok (.getfield 10, 3) := by decide +kernel
theorem dX11_midnight_26 : decode cX11_midnight 26 = .ok (.getfield 304, 3) := by decide +kernel
theorem dX11_midnight_29 : decode cX11_midnight 29 = .ok (.iload_n 1, 1) := by decide +kernel
theorem dX11_midnight_30 : decode cX11_midnight 30 = .ok (.invokevirtual 314, 3) := by decide +kernel
theorem dX11_midnight_33 : decode cX11_midnight 33 = .ok (.istore_n 3, 1) := by decide +kernel
theorem dX11_midnight_34 : decode cX11_midnight 34 = .ok (.iload_n 2, 1) := by decide +kernel
theorem dX11_midnight_35 : decode cX11_midnight 35 = .ok (.iconst (-1), 1) := by decide +kernel
theorem dX11_midnight_36 : decode cX11_midnight 36 = .ok (.if_icmp .ne 5, 3) := by decide +kernel
theorem dX11_midnight_39 : decode cX11_midnight 39 = .ok (.iload_n 3, 1) := by decide +kernel
theorem dX11_midnight_40 : decode cX11_midnight 40 = .ok (.ireturn, 1) := by decide +kernel
theorem dX11_midnight_41 : decode cX11_midnight 41 = .ok (.iload_n 2, 1) := by decide +kernel
theorem dX11_midnight_42 : decode cX11_midnight 42 = .ok (.iload_n 3, 1) := by decide +kernel
theorem dX11_midnight_43 : decode cX11_midnight 43 = .ok (.if_icmp .ge 18, 3) := by decide +kernel
theorem dX11_midnight_46 : decode cX11_midnight 46 = .ok (.aload_n 0, 1) := by decide +kernel
theorem dX11_midnight_47 : decode cX11_midnight 47 = .ok (.getfield 10, 3) := by decide +kernel
theorem dX11_midnight_50 : decode cX11_midnight 50 = .ok (.getfield 304, 3) := by decide +kernel
theorem dX11_midnight_53 : decode cX11_midnight 53 = .ok (.getfield 318, 3) := by decide +kernel
theorem dX11_midnight_56 : decode cX11_midnight 56 = .ok (.iload_n 2, 1) := by decide +kernel
theorem dX11_midnight_57 : decode cX11_midnight 57 = .ok (.iaload, 1) := by decide +kernel
theorem dX11_midnight_58 : decode cX11_midnight 58 = .ok (.goto 4, 3) := by decide +kernel
theorem dX11_midnight_61 : decode cX11_midnight 61 = .ok (.iconst (-1), 1) := by decide +kernel
theorem dX11_midnight_62 : decode cX11_midnight 62 = .ok (.ireturn, 1) := by decide +kernel
theorem dX11_scrip_0 : decode cX11_scrip 0 = .ok (.aload_n 0, 1) := by decide +kernel
theorem dX11_scrip_1 : decode cX11_scrip 1 = .ok (.getfield 10, 3) := by decide +kernel
theorem dX11_scrip_4 : decode cX11_scrip 4 = .ok (.getfield 133, 3) := by decide +kernel
theorem dX11_scrip_7 : decode cX11_scrip 7 = .ok (.iload_n 1, 1) := by decide +kernel
theorem dX11_scrip_8 : decode cX11_scrip 8 = .ok (.iconst 1, 1) := by decide +kernel
theorem dX11_scrip_9 : decode cX11_scrip 9 = .ok (.invokevirtual 172, 3) := by decide +kernel
theorem dX11_scrip_12 : decode cX11_scrip 12 = .ok (.astore 4, 2) := by decide +kernel
theorem dX11_scrip_14 : decode cX11_scrip 14 = .ok (.aload 4, 2) := by decide +kernel
theorem dX11_scrip_16 : decode cX11_scrip 16 = .ok (.ifnull 10, 3) := by decide +kernel
theorem dX11_scrip_19 : decode cX11_scrip 19 = .ok (.iload_n 2, 1) := by decide +kernel
theorem dX11_scrip_20 : decode cX11_scrip 20 = .ok (.invokestatic 74, 3) := by decide +kernel
theorem dX11_scrip_23 : decode cX11_scrip 23 = .ok (.ifCond .ne 5, 3) := by decide +kernel
theorem dX11_scrip_26 : decode cX11_scrip 26 = .ok (.iconst (-1), 1) := by decide +kernel
theorem dX11_scrip_27 : decode cX11_scrip 27 = .ok (.ireturn, 1) := by decide +kernel
theorem dX11_scrip_28 : decode cX11_scrip 28 = .ok (.iload_n 3, 1) := by decide +kernel
theorem dX11_scrip_29 : decode cX11_scrip 29 = .ok (.i2l, 1) := by decide +kernel
theorem dX11_scrip_30 : decode cX11_scrip 30 = .ok (.iconst 1, 1) := by decide +kernel
theorem dX11_scrip_31 : decode cX11_scrip 31 = .ok (.bipush 99, 2) := by decide +kernel
theorem dX11_scrip_33 : decode cX11_scrip 33 = .ok (.invokestatic 46, 3) := by decide +kernel
theorem dX11_scrip_36 : decode cX11_scrip 36 = .ok (.ifCond .ne 6, 3) := by decide +kernel
theorem dX11_scrip_39 : decode cX11_scrip 39 = .ok (.bipush (-2), 2) := by decide +kernel
theorem dX11_scrip_41 : decode cX11_scrip 41 = .ok (.ireturn, 1) := by decide +kernel
theorem dX11_scrip_42 : decode cX11_scrip 42 = .ok (.aload_n 0, 1) := by decide +kernel
theorem dX11_scrip_43 : decode cX11_scrip 43 = .ok (.getfield 10, 3) := by decide +kernel
theorem dX11_scrip_46 : decode cX11_scrip 46 = .ok (.getfield 133, 3) := by decide +kernel
theorem dX11_scrip_49 : decode cX11_scrip 49 = .ok (.iload_n 1, 1) := by decide +kernel
theorem dX11_scrip_50 : decode cX11_scrip 50 = .ok (.invokevirtual 256, 3) := by decide +kernel
theorem dX11_scrip_53 : decode cX11_scrip 53 = .ok (.ifCond .ne 24, 3) := by decide +kernel
theorem dX11_scrip_56 : decode cX11_scrip 56 = .ok (.aload_n 0, 1) := by decide +kernel
theorem dX11_scrip_57 : decode cX11_scrip 57 = .ok (.getfield 10, 3) := by decide +kernel
theorem dX11_scrip_60 : decode cX11_scrip 60 = .ok (.getfield 78, 3) := by decide +kernel
theorem dX11_scrip_63 : decode cX11_scrip 63 = .ok (.aload 4, 2) := by decide +kernel
theorem dX11_scrip_65 : decode cX11_scrip 65 = .ok (.getfield 161, 3) := by decide +kernel
theorem dX11_scrip_68 : decode cX11_scrip 68 = .ok (.bipush 8, 2) := by decide +kernel
theorem dX11_scrip_70 : decode cX11_scrip 70 = .ok (.invokevirtual 321, 3) := by decide +kernel
theorem dX11_scrip_73 : decode cX11_scrip 73 = .ok (.iload_n 3, 1) := by decide +kernel
theorem dX11_scrip_74 : decode cX11_scrip 74 = .ok (.if_icmp .ge 6, 3) := by decide +kernel
theorem dX11_scrip_77 : decode cX11_scrip 77 = .ok (.bipush (-3), 2) := by decide +kernel
theorem dX11_scrip_79 : decode cX11_scrip 79 = .ok (.ireturn, 1) := by decide +kernel
theorem dX11_scrip_80 : decode cX11_scrip 80 = .ok (.aload_n 0, 1) := by decide +kernel
theorem dX11_scrip_81 : decode cX11_scrip 81 = .ok (.getfield 10, 3) := by decide +kernel
theorem dX11_scrip_84 : decode cX11_scrip 84 = .ok (.getfield 78, 3) := by decide +kernel
theorem dX11_scrip_87 : decode cX11_scrip 87 = .ok (.aload 4, 2) := by decide +kernel
theorem dX11_scrip_89 : decode cX11_scrip 89 = .ok (.getfield 161, 3) := by decide +kernel
theorem dX11_scrip_92 : decode cX11_scrip 92 = .ok (.bipush 8, 2) := by decide +kernel
theorem dX11_scrip_94 : decode cX11_scrip 94 = .ok (.iload_n 2, 1) := by decide +kernel
theorem dX11_scrip_95 : decode cX11_scrip 95 = .ok (.iload_n 3, 1) := by decide +kernel
theorem dX11_scrip_96 : decode cX11_scrip 96 = .ok (.invokevirtual 324, 3) := by decide +kernel
theorem dX11_scrip_99 : decode cX11_scrip 99 = .ok (.aload_n 0, 1) := by decide +kernel
theorem dX11_scrip_100 : decode cX11_scrip 100 = .ok (.getfield 10, 3) := by decide +kernel
theorem dX11_scrip_103 : decode cX11_scrip 103 = .ok (.getfield 78, 3) := by decide +kernel
theorem dX11_scrip_106 : decode cX11_scrip 106 = .ok (.aload 4, 2) := by decide +kernel
theorem dX11_scrip_108 : decode cX11_scrip 108 = .ok (.getfield 161, 3) := by decide +kernel
theorem dX11_scrip_111 : decode cX11_scrip 111 = .ok (.iload_n 2, 1) := by decide +kernel
theorem dX11_scrip_112 : decode cX11_scrip 112 = .ok (.invokevirtual 321, 3) := by decide +kernel
theorem dX11_scrip_115 : decode cX11_scrip 115 = .ok (.ireturn, 1) := by decide +kernel
theorem dX11_held_0 : decode cX11_held 0 = .ok (.aload_n 0, 1) := by decide +kernel
theorem dX11_held_1 : decode cX11_held 1 = .ok (.getfield 10, 3) := by decide +kernel
theorem dX11_held_4 : decode cX11_held 4 = .ok (.getfield 133, 3) := by decide +kernel
theorem dX11_held_7 : decode cX11_held 7 = .ok (.iload_n 1, 1) := by decide +kernel
theorem dX11_held_8 : decode cX11_held 8 = .ok (.iconst 1, 1) := by decide +kernel
theorem dX11_held_9 : decode cX11_held 9 = .ok (.invokevirtual 172, 3) := by decide +kernel
theorem dX11_held_12 : decode cX11_held 12 = .ok (.astore_n 3, 1) := by decide +kernel
theorem dX11_held_13 : decode cX11_held 13 = .ok (.aload_n 3, 1) := by decide +kernel
theorem dX11_held_14 : decode cX11_held 14 = .ok (.ifnull 14, 3) := by decide +kernel
theorem dX11_held_17 : decode cX11_held 17 = .ok (.iload_n 2, 1) := by decide +kernel
theorem dX11_held_18 : decode cX11_held 18 = .ok (.i2l, 1) := by decide +kernel
theorem dX11_held_19 : decode cX11_held 19 = .ok (.iconst 0, 1) := by decide +kernel
theorem dX11_held_20 : decode cX11_held 20 = .ok (.bipush 8, 2) := by decide +kernel
theorem dX11_held_22 : decode cX11_held 22 = .ok (.invokestatic 46, 3) := by decide +kernel
theorem dX11_held_25 : decode cX11_held 25 = .ok (.ifCond .ne 5, 3) := by decide +kernel
theorem dX11_held_28 : decode cX11_held 28 = .ok (.iconst (-1), 1) := by decide +kernel
theorem dX11_held_29 : decode cX11_held 29 = .ok (.ireturn, 1) := by decide +kernel
theorem dX11_held_30 : decode cX11_held 30 = .ok (.aload_n 0, 1) := by decide +kernel
theorem dX11_held_31 : decode cX11_held 31 = .ok (.getfield 10, 3) := by decide +kernel
theorem dX11_held_34 : decode cX11_held 34 = .ok (.getfield 78, 3) := by decide +kernel
theorem dX11_held_37 : decode cX11_held 37 = .ok (.aload_n 3, 1) := by decide +kernel
theorem dX11_held_38 : decode cX11_held 38 = .ok (.getfield 161, 3) := by decide +kernel
theorem dX11_held_41 : decode cX11_held 41 = .ok (.iload_n 2, 1) := by decide +kernel
theorem dX11_held_42 : decode cX11_held 42 = .ok (.invokevirtual 321, 3) := by decide +kernel
theorem dX11_held_45 : decode cX11_held 45 = .ok (.ireturn, 1) := by decide +kernel
theorem dX11_purse_0 : decode cX11_purse 0 = .ok (.aload_n 0, 1) := by decide +kernel
theorem dX11_purse_1 : decode cX11_purse 1 = .ok (.iload_n 1, 1) := by decide +kernel
theorem dX11_purse_2 : decode cX11_purse 2 = .ok (.iload_n 2, 1) := by decide +kernel
theorem dX11_purse_3 : decode cX11_purse 3 = .ok (.invokevirtual 327, 3) := by decide +kernel
theorem dX11_purse_6 : decode cX11_purse 6 = .ok (.istore_n 3, 1) := by decide +kernel
theorem dX11_purse_7 : decode cX11_purse 7 = .ok (.iload_n 3, 1) := by decide +kernel
theorem dX11_purse_8 : decode cX11_purse 8 = .ok (.iconst (-1), 1) := by decide +kernel
theorem dX11_purse_9 : decode cX11_purse 9 = .ok (.if_icmp .ne 7, 3) := by decide +kernel
theorem dX11_purse_12 : decode cX11_purse 12 = .ok (.iconst (-1), 1) := by decide +kernel
theorem dX11_purse_13 : decode cX11_purse 13 = .ok (.goto 15, 3) := by decide +kernel
theorem dX11_purse_16 : decode cX11_purse 16 = .ok (.aload_n 0, 1) := by decide +kernel
theorem dX11_purse_17 : decode cX11_purse 17 = .ok (.getfield 10, 3) := by decide +kernel
theorem dX11_purse_20 : decode cX11_purse 20 = .ok (.getfield 78, 3) := by decide +kernel
theorem dX11_purse_23 : decode cX11_purse 23 = .ok (.getfield 82, 3) := by decide +kernel
theorem dX11_purse_26 : decode cX11_purse 26 = .ok (.iload_n 3, 1) := by decide +kernel
theorem dX11_purse_27 : decode cX11_purse 27 = .ok (.iaload, 1) := by decide +kernel
theorem dX11_purse_28 : decode cX11_purse 28 = .ok (.ireturn, 1) := by decide +kernel
theorem dX11_ask_0 : decode cX11_ask 0 = .ok (.aload_n 0, 1) := by decide +kernel
theorem dX11_ask_1 : decode cX11_ask 1 = .ok (.getfield 10, 3) := by decide +kernel
theorem dX11_ask_4 : decode cX11_ask 4 = .ok (.getfield 133, 3) := by decide +kernel
theorem dX11_ask_7 : decode cX11_ask 7 = .ok (.iload_n 1, 1) := by decide +kernel
theorem dX11_ask_8 : decode cX11_ask 8 = .ok (.iconst 1, 1) := by decide +kernel
theorem dX11_ask_9 : decode cX11_ask 9 = .ok (.invokevirtual 172, 3) := by decide +kernel
theorem dX11_ask_12 : decode cX11_ask 12 = .ok (.astore 6, 2) := by decide +kernel
theorem dX11_ask_14 : decode cX11_ask 14 = .ok (.aload 6, 2) := by decide +kernel
theorem dX11_ask_16 : decode cX11_ask 16 = .ok (.ifnull 10, 3) := by decide +kernel
theorem dX11_ask_19 : decode cX11_ask 19 = .ok (.iload_n 2, 1) := by decide +kernel
theorem dX11_ask_20 : decode cX11_ask 20 = .ok (.invokestatic 74, 3) := by decide +kernel
theorem dX11_ask_23 : decode cX11_ask 23 = .ok (.ifCond .ne 5, 3) := by decide +kernel
theorem dX11_ask_26 : decode cX11_ask 26 = .ok (.iconst (-1), 1) := by decide +kernel
theorem dX11_ask_27 : decode cX11_ask 27 = .ok (.ireturn, 1) := by decide +kernel
theorem dX11_ask_28 : decode cX11_ask 28 = .ok (.iload_n 3, 1) := by decide +kernel
theorem dX11_ask_29 : decode cX11_ask 29 = .ok (.i2l, 1) := by decide +kernel
theorem dX11_ask_30 : decode cX11_ask 30 = .ok (.iconst 1, 1) := by decide +kernel
theorem dX11_ask_31 : decode cX11_ask 31 = .ok (.bipush 99, 2) := by decide +kernel
theorem dX11_ask_33 : decode cX11_ask 33 = .ok (.invokestatic 46, 3) := by decide +kernel
theorem dX11_ask_36 : decode cX11_ask 36 = .ok (.ifCond .eq 16, 3) := by decide +kernel
theorem dX11_ask_39 : decode cX11_ask 39 = .ok (.iload 4, 2) := by decide +kernel
theorem dX11_ask_41 : decode cX11_ask 41 = .ok (.i2l, 1) := by decide +kernel
theorem dX11_ask_42 : decode cX11_ask 42 = .ok (.iconst 1, 1) := by decide +kernel
theorem dX11_ask_43 : decode cX11_ask 43 = .ok (.sipush 999, 3) := by decide +kernel
theorem dX11_ask_46 : decode cX11_ask 46 = .ok (.invokestatic 46, 3) := by decide +kernel
theorem dX11_ask_49 : decode cX11_ask 49 = .ok (.ifCond .ne 6, 3) := by decide +kernel
theorem dX11_ask_52 : decode cX11_ask 52 = .ok (.bipush (-2), 2) := by decide +kernel
theorem dX11_ask_54 : decode cX11_ask 54 = .ok (.ireturn, 1) := by decide +kernel
theorem dX11_ask_55 : decode cX11_ask 55 = .ok (.aload_n 0, 1) := by decide +kernel
theorem dX11_ask_56 : decode cX11_ask 56 = .ok (.getfield 10, 3) := by decide +kernel
theorem dX11_ask_59 : decode cX11_ask 59 = .ok (.getfield 78, 3) := by decide +kernel
theorem dX11_ask_62 : decode cX11_ask 62 = .ok (.getfield 330, 3) := by decide +kernel
theorem dX11_ask_65 : decode cX11_ask 65 = .ok (.bipush 40, 2) := by decide +kernel
theorem dX11_ask_67 : decode cX11_ask 67 = .ok (.if_icmp .lt 6, 3) := by decide +kernel
theorem dX11_ask_70 : decode cX11_ask 70 = .ok (.bipush (-4), 2) := by decide +kernel
theorem dX11_ask_72 : decode cX11_ask 72 = .ok (.ireturn, 1) := by decide +kernel
theorem dX11_ask_73 : decode cX11_ask 73 = .ok (.aload_n 0, 1) := by decide +kernel
theorem dX11_ask_74 : decode cX11_ask 74 = .ok (.getfield 10, 3) := by decide +kernel
theorem dX11_ask_77 : decode cX11_ask 77 = .ok (.getfield 78, 3) := by decide +kernel
theorem dX11_ask_80 : decode cX11_ask 80 = .ok (.aload 6, 2) := by decide +kernel
theorem dX11_ask_82 : decode cX11_ask 82 = .ok (.getfield 161, 3) := by decide +kernel
theorem dX11_ask_85 : decode cX11_ask 85 = .ok (.iload_n 2, 1) := by decide +kernel
theorem dX11_ask_86 : decode cX11_ask 86 = .ok (.iload_n 3, 1) := by decide +kernel
theorem dX11_ask_87 : decode cX11_ask 87 = .ok (.iload 4, 2) := by decide +kernel
theorem dX11_ask_89 : decode cX11_ask 89 = .ok (.iload 5, 2) := by decide +kernel
theorem dX11_ask_91 : decode cX11_ask 91 = .ok (.invokevirtual 333, 3) := by decide +kernel
theorem dX11_ask_94 : decode cX11_ask 94 = .ok (.ireturn, 1) := by decide +kernel
theorem dX11_price_0 : decode cX11_price 0 = .ok (.aload_n 0, 1) := by decide +kernel
theorem dX11_price_1 : decode cX11_price 1 = .ok (.getfield 10, 3) := by decide +kernel
theorem dX11_price_4 : decode cX11_price 4 = .ok (.getfield 133, 3) := by decide +kernel
theorem dX11_price_7 : decode cX11_price 7 = .ok (.iload_n 1, 1) := by decide +kernel
theorem dX11_price_8 : decode cX11_price 8 = .ok (.iconst 1, 1) := by decide +kernel
theorem dX11_price_9 : decode cX11_price 9 = .ok (.invokevirtual 172, 3) := by decide +kernel
theorem dX11_price_12 : decode cX11_price 12 = .ok (.astore_n 2, 1) := by decide +kernel
theorem dX11_price_13 : decode cX11_price 13 = .ok (.aload_n 2, 1) := by decide +kernel
theorem dX11_price_14 : decode cX11_price 14 = .ok (.ifnonnull 7, 3) := by decide +kernel
theorem dX11_price_17 : decode cX11_price 17 = .ok (.iconst (-1), 1) := by decide +kernel
theorem dX11_price_18 : decode cX11_price 18 = .ok (.goto 17, 3) := by decide +kernel
theorem dX11_price_21 : decode cX11_price 21 = .ok (.aload_n 0, 1) := by decide +kernel
theorem dX11_price_22 : decode cX11_price 22 = .ok (.getfield 10, 3) := by decide +kernel
theorem dX11_price_25 : decode cX11_price 25 = .ok (.getfield 78, 3) := by decide +kernel
theorem dX11_price_28 : decode cX11_price 28 = .ok (.aload_n 2, 1) := by decide +kernel
theorem dX11_price_29 : decode cX11_price 29 = .ok (.getfield 161, 3) := by decide +kernel
theorem dX11_price_32 : decode cX11_price 32 = .ok (.invokevirtual 337, 3) := by decide +kernel
theorem dX11_price_35 : decode cX11_price 35 = .ok (.ireturn, 1) := by decide +kernel
theorem dX11_read_0 : decode cX11_read 0 = .ok (.aload_n 0, 1) := by decide +kernel
theorem dX11_read_1 : decode cX11_read 1 = .ok (.getfield 10, 3) := by decide +kernel
theorem dX11_read_4 : decode cX11_read 4 = .ok (.getfield 133, 3) := by decide +kernel
theorem dX11_read_7 : decode cX11_read 7 = .ok (.iload_n 1, 1) := by decide +kernel
theorem dX11_read_8 : decode cX11_read 8 = .ok (.iconst 1, 1) := by decide +kernel
theorem dX11_read_9 : decode cX11_read 9 = .ok (.invokevirtual 172, 3) := by decide +kernel
theorem dX11_read_12 : decode cX11_read 12 = .ok (.astore_n 2, 1) := by decide +kernel
theorem dX11_read_13 : decode cX11_read 13 = .ok (.aload_n 2, 1) := by decide +kernel
theorem dX11_read_14 : decode cX11_read 14 = .ok (.ifnonnull 7, 3) := by decide +kernel
theorem dX11_read_17 : decode cX11_read 17 = .ok (.iconst (-1), 1) := by decide +kernel
theorem dX11_read_18 : decode cX11_read 18 = .ok (.goto 18, 3) := by decide +kernel
theorem dX11_read_21 : decode cX11_read 21 = .ok (.aload_n 0, 1) := by decide +kernel
theorem dX11_read_22 : decode cX11_read 22 = .ok (.getfield 10, 3) := by decide +kernel
theorem dX11_read_25 : decode cX11_read 25 = .ok (.getfield 78, 3) := by decide +kernel
theorem dX11_read_28 : decode cX11_read 28 = .ok (.getfield 340, 3) := by decide +kernel
theorem dX11_read_31 : decode cX11_read 31 = .ok (.aload_n 2, 1) := by decide +kernel
theorem dX11_read_32 : decode cX11_read 32 = .ok (.getfield 161, 3) := by decide +kernel
theorem dX11_read_35 : decode cX11_read 35 = .ok (.iaload, 1) := by decide +kernel
theorem dX11_read_36 : decode cX11_read 36 = .ok (.ireturn, 1) := by decide +kernel
theorem dX11_call_0 : decode cX11_call 0 = .ok (.aload_n 0, 1) := by decide +kernel
theorem dX11_call_1 : decode cX11_call 1 = .ok (.getfield 10, 3) := by decide +kernel
theorem dX11_call_4 : decode cX11_call 4 = .ok (.getfield 133, 3) := by decide +kernel
theorem dX11_call_7 : decode cX11_call 7 = .ok (.iload_n 1, 1) := by decide +kernel
theorem dX11_call_8 : decode cX11_call 8 = .ok (.iconst 1, 1) := by decide +kernel
theorem dX11_call_9 : decode cX11_call 9 = .ok (.invokevirtual 172, 3) := by decide +kernel
theorem dX11_call_12 : decode cX11_call 12 = .ok (.ifnonnull 5, 3) := by decide +kernel
theorem dX11_call_15 : decode cX11_call 15 = .ok (.iconst (-1), 1) := by decide +kernel
theorem dX11_call_16 : decode cX11_call 16 = .ok (.ireturn, 1) := by decide +kernel
theorem dX11_call_17 : decode cX11_call 17 = .ok (.iload_n 2, 1) := by decide +kernel
theorem dX11_call_18 : decode cX11_call 18 = .ok (.i2l, 1) := by decide +kernel
theorem dX11_call_19 : decode cX11_call 19 = .ok (.iconst 1, 1) := by decide +kernel
theorem dX11_call_20 : decode cX11_call 20 = .ok (.aload_n 0, 1) := by decide +kernel
theorem dX11_call_21 : decode cX11_call 21 = .ok (.getfield 10, 3) := by decide +kernel
theorem dX11_call_24 : decode cX11_call 24 = .ok (.iconst 3, 1) := by decide +kernel
theorem dX11_call_25 : decode cX11_call 25 = .ok (.aload_n 0, 1) := by decide +kernel
theorem dX11_call_26 : decode cX11_call 26 = .ok (.getfield 10, 3) := by decide +kernel
theorem dX11_call_29 : decode cX11_call 29 = .ok (.getfield 148, 3) := by decide +kernel
theorem dX11_call_32 : decode cX11_call 32 = .ok (.invokevirtual 121, 3) := by decide +kernel
theorem dX11_call_35 : decode cX11_call 35 = .ok (.invokestatic 46, 3) := by decide +kernel
theorem dX11_call_38 : decode cX11_call 38 = .ok (.ifCond .ne 6, 3) := by decide +kernel
theorem dX11_call_41 : decode cX11_call 41 = .ok (.bipush (-2), 2) := by decide +kernel
theorem dX11_call_43 : decode cX11_call 43 = .ok (.ireturn, 1) := by decide +kernel
theorem dX11_call_44 : decode cX11_call 44 = .ok (.aload_n 0, 1) := by decide +kernel
theorem dX11_call_45 : decode cX11_call 45 = .ok (.getfield 10, 3) := by decide +kernel
theorem dX11_call_48 : decode cX11_call 48 = .ok (.getfield 133, 3) := by decide +kernel
theorem dX11_call_51 : decode cX11_call 51 = .ok (.iload_n 1, 1) := by decide +kernel
theorem dX11_call_52 : decode cX11_call 52 = .ok (.invokevirtual 256, 3) := by decide +kernel
theorem dX11_call_55 : decode cX11_call 55 = .ok (.ifCond .ne 14, 3) := by decide +kernel
theorem dX11_call_58 : decode cX11_call 58 = .ok (.aload_n 0, 1) := by decide +kernel
theorem dX11_call_59 : decode cX11_call 59 = .ok (.getfield 10, 3) := by decide +kernel
theorem dX11_call_62 : decode cX11_call 62 = .ok (.iload_n 1, 1) := by decide +kernel
theorem dX11_call_63 : decode cX11_call 63 = .ok (.invokevirtual 343, 3) := by decide +kernel
theorem dX11_call_66 : decode cX11_call 66 = .ok (.ifCond .eq 6, 3) := by decide +kernel
theorem dX11_call_69 : decode cX11_call 69 = .ok (.bipush (-3), 2) := by decide +kernel
theorem dX11_call_71 : decode cX11_call 71 = .ok (.ireturn, 1) := by decide +kernel
theorem dX11_call_72 : decode cX11_call 72 = .ok (.aload_n 0, 1) := by decide +kernel
theorem dX11_call_73 : decode cX11_call 73 = .ok (.getfield 10, 3) := by decide +kernel
theorem dX11_call_76 : decode cX11_call 76 = .ok (.getfield 133, 3) := by decide +kernel
theorem dX11_call_79 : decode cX11_call 79 = .ok (.invokevirtual 137, 3) := by decide +kernel
theorem dX11_call_82 : decode cX11_call 82 = .ok (.ifCond .eq 6, 3) := by decide +kernel
theorem dX11_call_85 : decode cX11_call 85 = .ok (.bipush (-4), 2) := by decide +kernel
theorem dX11_call_87 : decode cX11_call 87 = .ok (.ireturn, 1) := by decide +kernel
theorem dX11_call_88 : decode cX11_call 88 = .ok (.new 146, 3) := by decide +kernel
theorem dX11_call_91 : decode cX11_call 91 = .ok (.dup, 1) := by decide +kernel
theorem dX11_call_92 : decode cX11_call 92 = .ok (.iconst 4, 1) := by decide +kernel
theorem dX11_call_93 : decode cX11_call 93 = .ok (.iload_n 1, 1) := by decide +kernel
theorem dX11_call_94 : decode cX11_call 94 = .ok (.aload_n 0, 1) := by decide +kernel
theorem dX11_call_95 : decode cX11_call 95 = .ok (.getfield 10, 3) := by decide +kernel
theorem dX11_call_98 : decode cX11_call 98 = .ok (.getfield 148, 3) := by decide +kernel
theorem dX11_call_101 : decode cX11_call 101 = .ok (.getstatic 151, 3) := by decide +kernel
theorem dX11_call_104 : decode cX11_call 104 = .ok (.getstatic 151, 3) := by decide +kernel
theorem dX11_call_107 : decode cX11_call 107 = .ok (.invokespecial 154, 3) := by decide +kernel
theorem dX11_call_110 : decode cX11_call 110 = .ok (.astore_n 3, 1) := by decide +kernel
theorem dX11_call_111 : decode cX11_call 111 = .ok (.aload_n 3, 1) := by decide +kernel
theorem dX11_call_112 : decode cX11_call 112 = .ok (.iconst (-1), 1) := by decide +kernel
theorem dX11_call_113 : decode cX11_call 113 = .ok (.iconst (-1), 1) := by decide +kernel
theorem dX11_call_114 : decode cX11_call 114 = .ok (.iconst (-1), 1) := by decide +kernel
theorem dX11_call_115 : decode cX11_call 115 = .ok (.iload_n 2, 1) := by decide +kernel
theorem dX11_call_116 : decode cX11_call 116 = .ok (.invokevirtual 157, 3) := by decide +kernel
theorem dX11_call_119 : decode cX11_call 119 = .ok (.aload_n 0, 1) := by decide +kernel
theorem dX11_call_120 : decode cX11_call 120 = .ok (.getfield 10, 3) := by decide +kernel
theorem dX11_call_123 : decode cX11_call 123 = .ok (.getfield 133, 3) := by decide +kernel
theorem dX11_call_126 : decode cX11_call 126 = .ok (.aload_n 3, 1) := by decide +kernel
theorem dX11_call_127 : decode cX11_call 127 = .ok (.invokevirtual 168, 3) := by decide +kernel
theorem dX11_call_130 : decode cX11_call 130 = .ok (.ireturn, 1) := by decide +kernel
theorem dX11_lend_0 : decode cX11_lend 0 = .ok (.aload_n 0, 1) := by decide +kernel
theorem dX11_lend_1 : decode cX11_lend 1 = .ok (.getfield 10, 3) := by decide +kernel
theorem dX11_lend_4 : decode cX11_lend 4 = .ok (.getfield 133, 3) := by decide +kernel
theorem dX11_lend_7 : decode cX11_lend 7 = .ok (.iload_n 1, 1) := by decide +kernel
theorem dX11_lend_8 : decode cX11_lend 8 = .ok (.iconst 1, 1) := by decide +kernel
theorem dX11_lend_9 : decode cX11_lend 9 = .ok (.invokevirtual 172, 3) := by decide +kernel
theorem dX11_lend_12 : decode cX11_lend 12 = .ok (.astore 4, 2) := by decide +kernel
theorem dX11_lend_14 : decode cX11_lend 14 = .ok (.aload 4, 2) := by decide +kernel
theorem dX11_lend_16 : decode cX11_lend 16 = .ok (.ifnull 10, 3) := by decide +kernel
theorem dX11_lend_19 : decode cX11_lend 19 = .ok (.iload_n 2, 1) := by decide +kernel
theorem dX11_lend_20 : decode cX11_lend 20 = .ok (.invokestatic 74, 3) := by decide +kernel
theorem dX11_lend_23 : decode cX11_lend 23 = .ok (.ifCond .ne 5, 3) := by decide +kernel
theorem dX11_lend_26 : decode cX11_lend 26 = .ok (.iconst (-1), 1) := by decide +kernel
theorem dX11_lend_27 : decode cX11_lend 27 = .ok (.ireturn, 1) := by decide +kernel
theorem dX11_lend_28 : decode cX11_lend 28 = .ok (.iload_n 3, 1) := by decide +kernel
theorem dX11_lend_29 : decode cX11_lend 29 = .ok (.i2l, 1) := by decide +kernel
theorem dX11_lend_30 : decode cX11_lend 30 = .ok (.iconst 1, 1) := by decide +kernel
theorem dX11_lend_31 : decode cX11_lend 31 = .ok (.sipush 9999, 3) := by decide +kernel
theorem dX11_lend_34 : decode cX11_lend 34 = .ok (.invokestatic 46, 3) := by decide +kernel
theorem dX11_lend_37 : decode cX11_lend 37 = .ok (.ifCond .ne 6, 3) := by decide +kernel
theorem dX11_lend_40 : decode cX11_lend 40 = .ok (.bipush (-2), 2) := by decide +kernel
theorem dX11_lend_42 : decode cX11_lend 42 = .ok (.ireturn, 1) := by decide +kernel
theorem dX11_lend_43 : decode cX11_lend 43 = .ok (.aload_n 0, 1) := by decide +kernel
theorem dX11_lend_44 : decode cX11_lend 44 = .ok (.getfield 10, 3) := by decide +kernel
theorem dX11_lend_47 : decode cX11_lend 47 = .ok (.getfield 133, 3) := by decide +kernel
theorem dX11_lend_50 : decode cX11_lend 50 = .ok (.iload_n 1, 1) := by decide +kernel
theorem dX11_lend_51 : decode cX11_lend 51 = .ok (.invokevirtual 256, 3) := by decide +kernel
theorem dX11_lend_54 : decode cX11_lend 54 = .ok (.ifCond .ne 19, 3) := by decide +kernel
theorem dX11_lend_57 : decode cX11_lend 57 = .ok (.aload_n 0, 1) := by decide +kernel
theorem dX11_lend_58 : decode cX11_lend 58 = .ok (.getfield 10, 3) := by decide +kernel
theorem dX11_lend_61 : decode cX11_lend 61 = .ok (.getfield 78, 3) := by decide +kernel
theorem dX11_lend_64 : decode cX11_lend 64 = .ok (.getfield 82, 3) := by decide +kernel
theorem dX11_lend_67 : decode cX11_lend 67 = .ok (.iload_n 2, 1) := by decide +kernel
theorem dX11_lend_68 : decode cX11_lend 68 = .ok (.iaload, 1) := by decide +kernel
theorem dX11_lend_69 : decode cX11_lend 69 = .ok (.iload_n 3, 1) := by decide +kernel
theorem dX11_lend_70 : decode cX11_lend 70 = .ok (.if_icmp .ge 6, 3) := by decide +kernel
theorem dX11_lend_73 : decode cX11_lend 73 = .ok (.bipush (-3), 2) := by decide +kernel
theorem dX11_lend_75 : decode cX11_lend 75 = .ok (.ireturn, 1) := by decide +kernel
theorem dX11_lend_76 : decode cX11_lend 76 = .ok (.aload_n 0, 1) := by decide +kernel
theorem dX11_lend_77 : decode cX11_lend 77 = .ok (.getfield 10, 3) := by decide +kernel
theorem dX11_lend_80 : decode cX11_lend 80 = .ok (.getfield 133, 3) := by decide +kernel
theorem dX11_lend_83 : decode cX11_lend 83 = .ok (.invokevirtual 137, 3) := by decide +kernel
theorem dX11_lend_86 : decode cX11_lend 86 = .ok (.ifCond .eq 6, 3) := by decide +kernel
theorem dX11_lend_89 : decode cX11_lend 89 = .ok (.bipush (-4), 2) := by decide +kernel
theorem dX11_lend_91 : decode cX11_lend 91 = .ok (.ireturn, 1) := by decide +kernel
theorem dX11_lend_92 : decode cX11_lend 92 = .ok (.aload_n 0, 1) := by decide +kernel
theorem dX11_lend_93 : decode cX11_lend 93 = .ok (.getfield 10, 3) := by decide +kernel
theorem dX11_lend_96 : decode cX11_lend 96 = .ok (.getfield 78, 3) := by decide +kernel
theorem dX11_lend_99 : decode cX11_lend 99 = .ok (.getfield 82, 3) := by decide +kernel
theorem dX11_lend_102 : decode cX11_lend 102 = .ok (.iload_n 2, 1) := by decide +kernel
theorem dX11_lend_103 : decode cX11_lend 103 = .ok (.dup2, 1) := by decide +kernel
theorem dX11_lend_104 : decode cX11_lend 104 = .ok (.iaload, 1) := by decide +kernel
theorem dX11_lend_105 : decode cX11_lend 105 = .ok (.iload_n 3, 1) := by decide +kernel
theorem dX11_lend_106 : decode cX11_lend 106 = .ok (.isub, 1) := by decide +kernel
theorem dX11_lend_107 : decode cX11_lend 107 = .ok (.iastore, 1) := by decide +kernel
theorem dX11_lend_108 : decode cX11_lend 108 = .ok (.aload_n 0, 1) := by decide +kernel
theorem dX11_lend_109 : decode cX11_lend 109 = .ok (.getfield 10, 3) := by decide +kernel
theorem dX11_lend_112 : decode cX11_lend 112 = .ok (.getfield 78, 3) := by decide +kernel
theorem dX11_lend_115 : decode cX11_lend 115 = .ok (.getfield 82, 3) := by decide +kernel
theorem dX11_lend_118 : decode cX11_lend 118 = .ok (.bipush 8, 2) := by decide +kernel
theorem dX11_lend_120 : decode cX11_lend 120 = .ok (.aload 4, 2) := by decide +kernel
theorem dX11_lend_122 : decode cX11_lend 122 = .ok (.getfield 161, 3) := by decide +kernel
theorem dX11_lend_125 : decode cX11_lend 125 = .ok (.iadd, 1) := by decide +kernel
theorem dX11_lend_126 : decode cX11_lend 126 = .ok (.dup2, 1) := by decide +kernel
theorem dX11_lend_127 : decode cX11_lend 127 = .ok (.iaload, 1) := by decide +kernel
theorem dX11_lend_128 : decode cX11_lend 128 = .ok (.iload_n 3, 1) := by decide +kernel
theorem dX11_lend_129 : decode cX11_lend 129 = .ok (.iadd, 1) := by decide +kernel
theorem dX11_lend_130 : decode cX11_lend 130 = .ok (.iastore, 1) := by decide +kernel
theorem dX11_lend_131 : decode cX11_lend 131 = .ok (.new 146, 3) := by decide +kernel
theorem dX11_lend_134 : decode cX11_lend 134 = .ok (.dup, 1) := by decide +kernel
theorem dX11_lend_135 : decode cX11_lend 135 = .ok (.iconst 5, 1) := by decide +kernel
theorem dX11_lend_136 : decode cX11_lend 136 = .ok (.iload_n 1, 1) := by decide +kernel
theorem dX11_lend_137 : decode cX11_lend 137 = .ok (.aload_n 0, 1) := by decide +kernel
theorem dX11_lend_138 : decode cX11_lend 138 = .ok (.getfield 10, 3) := by decide +kernel
theorem dX11_lend_141 : decode cX11_lend 141 = .ok (.getfield 148, 3) := by decide +kernel
theorem dX11_lend_144 : decode cX11_lend 144 = .ok (.getstatic 151, 3) := by decide +kernel
theorem dX11_lend_147 : decode cX11_lend 147 = .ok (.getstatic 151, 3) := by decide +kernel
theorem dX11_lend_150 : decode cX11_lend 150 = .ok (.invokespecial 154, 3) := by decide +kernel
theorem dX11_lend_153 : decode cX11_lend 153 = .ok (.astore 5, 2) := by decide +kernel
theorem dX11_lend_155 : decode cX11_lend 155 = .ok (.aload 5, 2) := by decide +kernel
theorem dX11_lend_157 : decode cX11_lend 157 = .ok (.iload_n 2, 1) := by decide +kernel
theorem dX11_lend_158 : decode cX11_lend 158 = .ok (.iconst (-1), 1) := by decide +kernel
theorem dX11_lend_159 : decode cX11_lend 159 = .ok (.iconst (-1), 1) := by decide +kernel
theorem dX11_lend_160 : decode cX11_lend 160 = .ok (.iload_n 3, 1) := by decide +kernel
theorem dX11_lend_161 : decode cX11_lend 161 = .ok (.invokevirtual 157, 3) := by decide +kernel
theorem dX11_lend_164 : decode cX11_lend 164 = .ok (.aload_n 0, 1) := by decide +kernel
theorem dX11_lend_165 : decode cX11_lend 165 = .ok (.getfield 10, 3) := by decide +kernel
theorem dX11_lend_168 : decode cX11_lend 168 = .ok (.getfield 133, 3) := by decide +kernel
theorem dX11_lend_171 : decode cX11_lend 171 = .ok (.aload 5, 2) := by decide +kernel
theorem dX11_lend_173 : decode cX11_lend 173 = .ok (.invokevirtual 168, 3) := by decide +kernel
theorem dX11_lend_176 : decode cX11_lend 176 = .ok (.ireturn, 1) := by decide +kernel
theorem dX11_settle_0 : decode cX11_settle 0 = .ok (.aload_n 0, 1) := by decide +kernel
theorem dX11_settle_1 : decode cX11_settle 1 = .ok (.getfield 35, 3) := by decide +kernel
theorem dX11_settle_4 : decode cX11_settle 4 = .ok (.aload_n 0, 1) := by decide +kernel
theorem dX11_settle_5 : decode cX11_settle 5 = .ok (.getfield 10, 3) := by decide +kernel
theorem dX11_settle_8 : decode cX11_settle 8 = .ok (.getfield 133, 3) := by decide +kernel
theorem dX11_settle_11 : decode cX11_settle 11 = .ok (.aload_n 0, 1) := by decide +kernel
theorem dX11_settle_12 : decode cX11_settle 12 = .ok (.getfield 10, 3) := by decide +kernel
theorem dX11_settle_15 : decode cX11_settle 15 = .ok (.getfield 78, 3) := by decide +kernel
theorem dX11_settle_18 : decode cX11_settle 18 = .ok (.invokevirtual 346, 3) := by decide +kernel
theorem dX11_settle_21 : decode cX11_settle 21 = .ok (.aload_n 0, 1) := by decide +kernel
theorem dX11_settle_22 : decode cX11_settle 22 = .ok (.getfield 35, 3) := by decide +kernel
theorem dX11_settle_25 : decode cX11_settle 25 = .ok (.aload_n 0, 1) := by decide +kernel
theorem dX11_settle_26 : decode cX11_settle 26 = .ok (.getfield 10, 3) := by decide +kernel
theorem dX11_settle_29 : decode cX11_settle 29 = .ok (.getfield 78, 3) := by decide +kernel
theorem dX11_settle_32 : decode cX11_settle 32 = .ok (.invokevirtual 350, 3) := by decide +kernel
theorem dX11_settle_35 : decode cX11_settle 35 = .ok (.aload_n 0, 1) := by decide +kernel
theorem dX11_settle_36 : decode cX11_settle 36 = .ok (.getfield 35, 3) := by decide +kernel
theorem dX11_settle_39 : decode cX11_settle 39 = .ok (.aload_n 0, 1) := by decide +kernel
theorem dX11_settle_40 : decode cX11_settle 40 = .ok (.getfield 10, 3) := by decide +kernel
theorem dX11_settle_43 : decode cX11_settle 43 = .ok (.getfield 133, 3) := by decide +kernel
theorem dX11_settle_46 : decode cX11_settle 46 = .ok (.aload_n 0, 1) := by decide +kernel
theorem dX11_settle_47 : decode cX11_settle 47 = .ok (.getfield 10, 3) := by decide +kernel
theorem dX11_settle_50 : decode cX11_settle 50 = .ok (.getfield 78, 3) := by decide +kernel
theorem dX11_settle_53 : decode cX11_settle 53 = .ok (.invokevirtual 354, 3) := by decide +kernel
theorem dX11_settle_56 : decode cX11_settle 56 = .ok (.ireturn, 1) := by decide +kernel
theorem dX11_along_0 : decode cX11_along 0 = .ok (.aload_n 0, 1) := by decide +kernel
theorem dX11_along_1 : decode cX11_along 1 = .ok (.iload_n 1, 1) := by decide +kernel
theorem dX11_along_2 : decode cX11_along 2 = .ok (.iload_n 2, 1) := by decide +kernel
theorem dX11_along_3 : decode cX11_along 3 = .ok (.invokevirtual 327, 3) := by decide +kernel
theorem dX11_along_6 : decode cX11_along 6 = .ok (.istore_n 3, 1) := by decide +kernel
theorem dX11_along_7 : decode cX11_along 7 = .ok (.iload_n 3, 1) := by decide +kernel
theorem dX11_along_8 : decode cX11_along 8 = .ok (.iconst (-1), 1) := by decide +kernel
theorem dX11_along_9 : decode cX11_along 9 = .ok (.if_icmp .ne 5, 3) := by decide +kernel
theorem dX11_along_12 : decode cX11_along 12 = .ok (.iconst (-1), 1) := by decide +kernel
theorem dX11_along_13 : decode cX11_along 13 = .ok (.ireturn, 1) := by decide +kernel
theorem dX11_along_14 : decode cX11_along 14 = .ok (.aload_n 0, 1) := by decide +kernel
theorem dX11_along_15 : decode cX11_along 15 = .ok (.getfield 35, 3) := by decide +kernel
theorem dX11_along_18 : decode cX11_along 18 = .ok (.aload_n 0, 1) := by decide +kernel
theorem dX11_along_19 : decode cX11_along 19 = .ok (.getfield 10, 3) := by decide +kernel
theorem dX11_along_22 : decode cX11_along 22 = .ok (.getfield 133, 3) := by decide +kernel
theorem dX11_along_25 : decode cX11_along 25 = .ok (.aload_n 0, 1) := by decide +kernel
theorem dX11_along_26 : decode cX11_along 26 = .ok (.getfield 10, 3) := by decide +kernel
theorem dX11_along_29 : decode cX11_along 29 = .ok (.getfield 78, 3) := by decide +kernel
theorem dX11_along_32 : decode cX11_along 32 = .ok (.invokevirtual 346, 3) := by decide +kernel
theorem dX11_along_35 : decode cX11_along 35 = .ok (.aload_n 0, 1) := by decide +kernel
theorem dX11_along_36 : decode cX11_along 36 = .ok (.getfield 35, 3) := by decide +kernel
theorem dX11_along_39 : decode cX11_along 39 = .ok (.iload_n 3, 1) := by decide +kernel
theorem dX11_along_40 : decode cX11_along 40 = .ok (.invokevirtual 358, 3) := by decide +kernel
theorem dX11_along_43 : decode cX11_along 43 = .ok (.ireturn, 1) := by decide +kernel
theorem dX11_dig_0 : decode cX11_dig 0 = .ok (.iload_n 1, 1) := by decide +kernel
theorem dX11_dig_1 : decode cX11_dig 1 = .ok (.i2l, 1) := by decide +kernel
theorem dX11_dig_2 : decode cX11_dig 2 = .ok (.iconst 1, 1) := by decide +kernel
theorem dX11_dig_3 : decode cX11_dig 3 = .ok (.bipush 50, 2) := by decide +kernel
theorem dX11_dig_5 : decode cX11_dig 5 = .ok (.invokestatic 46, 3) := by decide +kernel
theorem dX11_dig_8 : decode cX11_dig 8 = .ok (.ifCond .eq 18, 3) := by decide +kernel
theorem dX11_dig_11 : decode cX11_dig 11 = .ok (.aload_n 0, 1) := by decide +kernel
theorem dX11_dig_12 : decode cX11_dig 12 = .ok (.getfield 10, 3) := by decide +kernel
theorem dX11_dig_15 : decode cX11_dig 15 = .ok (.getfield 148, 3) := by decide +kernel
theorem dX11_dig_18 : decode cX11_dig 18 = .ok (.iload_n 1, 1) := by decide +kernel
theorem dX11_dig_19 : decode cX11_dig 19 = .ok (.iadd, 1) := by decide +kernel
theorem dX11_dig_20 : decode cX11_dig 20 = .ok (.sipush 999, 3) := by decide +kernel
theorem dX11_dig_23 : decode cX11_dig 23 = .ok (.if_icmp .le 6, 3) := by decide +kernel
theorem dX11_dig_26 : decode cX11_dig 26 = .ok (.bipush (-2), 2) := by decide +kernel
theorem dX11_dig_28 : decode cX11_dig 28 = .ok (.ireturn, 1) := by decide +kernel
theorem dX11_dig_29 : decode cX11_dig 29 = .ok (.iconst 0, 1) := by decide +kernel
theorem dX11_dig_30 : decode cX11_dig 30 = .ok (.istore_n 2, 1) := by decide +kernel
theorem dX11_dig_31 : decode cX11_dig 31 = .ok (.iload_n 2, 1) := by decide +kernel
theorem dX11_dig_32 : decode cX11_dig 32 = .ok (.iload_n 1, 1) := by decide +kernel
theorem dX11_dig_33 : decode cX11_dig 33 = .ok (.if_icmp .ge 40, 3) := by decide +kernel
theorem dX11_dig_36 : decode cX11_dig 36 = .ok (.aload_n 0, 1) := by decide +kernel
theorem dX11_dig_37 : decode cX11_dig 37 = .ok (.getfield 10, 3) := by decide +kernel
theorem dX11_dig_40 : decode cX11_dig 40 = .ok (.invokevirtual 361, 3) := by decide +kernel
theorem dX11_dig_43 : decode cX11_dig 43 = .ok (.aload_n 0, 1) := by decide +kernel
theorem dX11_dig_44 : decode cX11_dig 44 = .ok (.aload_n 0, 1) := by decide +kernel
theorem dX11_dig_45 : decode cX11_dig 45 = .ok (.getfield 10, 3) := by decide +kernel
theorem dX11_dig_48 : decode cX11_dig 48 = .ok (.getfield 148, 3) := by decide +kernel
theorem dX11_dig_51 : decode cX11_dig 51 = .ok (.invokevirtual 364, 3) := by decide +kernel
theorem dX11_dig_54 : decode cX11_dig 54 = .ok (.aload_n 0, 1) := by decide +kernel
theorem dX11_dig_55 : decode cX11_dig 55 = .ok (.getfield 10, 3) := by decide +kernel
theorem dX11_dig_58 : decode cX11_dig 58 = .ok (.dup, 1) := by decide +kernel
theorem dX11_dig_59 : decode cX11_dig 59 = .ok (.getfield 148, 3) := by decide +kernel
theorem dX11_dig_62 : decode cX11_dig 62 = .ok (.iconst 1, 1) := by decide +kernel
theorem dX11_dig_63 : decode cX11_dig 63 = .ok (.iadd, 1) := by decide +kernel
theorem dX11_dig_64 : decode cX11_dig 64 = .ok (.putfield 148, 3) := by decide +kernel
theorem dX11_dig_67 : decode cX11_dig 67 = .ok (.iinc 2 1, 3) := by decide +kernel
theorem dX11_dig_70 : decode cX11_dig 70 = .ok (.goto (-39), 3) := by decide +kernel
theorem dX11_dig_73 : decode cX11_dig 73 = .ok (.aload_n 0, 1) := by decide +kernel
theorem dX11_dig_74 : decode cX11_dig 74 = .ok (.getfield 10, 3) := by decide +kernel
theorem dX11_dig_77 : decode cX11_dig 77 = .ok (.getfield 148, 3) := by decide +kernel
theorem dX11_dig_80 : decode cX11_dig 80 = .ok (.ireturn, 1) := by decide +kernel
theorem dX11_last_0 : decode cX11_last 0 = .ok (.aload_n 0, 1) := by decide +kernel
theorem dX11_last_1 : decode cX11_last 1 = .ok (.getfield 10, 3) := by decide +kernel
theorem dX11_last_4 : decode cX11_last 4 = .ok (.getfield 133, 3) := by decide +kernel
theorem dX11_last_7 : decode cX11_last 7 = .ok (.iload_n 1, 1) := by decide +kernel
theorem dX11_last_8 : decode cX11_last 8 = .ok (.iconst 3, 1) := by decide +kernel
theorem dX11_last_9 : decode cX11_last 9 = .ok (.invokevirtual 172, 3) := by decide +kernel
theorem dX11_last_12 : decode cX11_last 12 = .ok (.ifnull 13, 3) := by decide +kernel
theorem dX11_last_15 : decode cX11_last 15 = .ok (.iload_n 2, 1) := by decide +kernel
theorem dX11_last_16 : decode cX11_last 16 = .ok (.i2l, 1) := by decide +kernel
theorem dX11_last_17 : decode cX11_last 17 = .ok (.iconst 0, 1) := by decide +kernel
theorem dX11_last_18 : decode cX11_last 18 = .ok (.iconst 1, 1) := by decide +kernel
theorem dX11_last_19 : decode cX11_last 19 = .ok (.invokestatic 46, 3) := by decide +kernel
theorem dX11_last_22 : decode cX11_last 22 = .ok (.ifCond .ne 5, 3) := by decide +kernel
theorem dX11_last_25 : decode cX11_last 25 = .ok (.iconst (-1), 1) := by decide +kernel
theorem dX11_last_26 : decode cX11_last 26 = .ok (.ireturn, 1) := by decide +kernel
theorem dX11_last_27 : decode cX11_last 27 = .ok (.aload_n 0, 1) := by decide +kernel
theorem dX11_last_28 : decode cX11_last 28 = .ok (.getfield 10, 3) := by decide +kernel
theorem dX11_last_31 : decode cX11_last 31 = .ok (.getfield 133, 3) := by decide +kernel
theorem dX11_last_34 : decode cX11_last 34 = .ok (.iload_n 1, 1) := by decide +kernel
theorem dX11_last_35 : decode cX11_last 35 = .ok (.invokevirtual 256, 3) := by decide +kernel
theorem dX11_last_38 : decode cX11_last 38 = .ok (.ifCond .ne 6, 3) := by decide +kernel
theorem dX11_last_41 : decode cX11_last 41 = .ok (.bipush (-3), 2) := by decide +kernel
theorem dX11_last_43 : decode cX11_last 43 = .ok (.ireturn, 1) := by decide +kernel
theorem dX11_last_44 : decode cX11_last 44 = .ok (.iload_n 2, 1) := by decide +kernel
theorem dX11_last_45 : decode cX11_last 45 = .ok (.ifCond .ne 18, 3) := by decide +kernel
theorem dX11_last_48 : decode cX11_last 48 = .ok (.aload_n 0, 1) := by decide +kernel
theorem dX11_last_49 : decode cX11_last 49 = .ok (.getfield 10, 3) := by decide +kernel
theorem dX11_last_52 : decode cX11_last 52 = .ok (.getfield 133, 3) := by decide +kernel
theorem dX11_last_55 : decode cX11_last 55 = .ok (.getfield 266, 3) := by decide +kernel
theorem dX11_last_58 : decode cX11_last 58 = .ok (.iload_n 1, 1) := by decide +kernel
theorem dX11_last_59 : decode cX11_last 59 = .ok (.iaload, 1) := by decide +kernel
theorem dX11_last_60 : decode cX11_last 60 = .ok (.goto 15, 3) := by decide +kernel
theorem dX11_last_63 : decode cX11_last 63 = .ok (.aload_n 0, 1) := by decide +kernel
theorem dX11_last_64 : decode cX11_last 64 = .ok (.getfield 10, 3) := by decide +kernel
theorem dX11_last_67 : decode cX11_last 67 = .ok (.getfield 133, 3) := by decide +kernel
theorem dX11_last_70 : decode cX11_last 70 = .ok (.getfield 367, 3) := by decide +kernel
theorem dX11_last_73 : decode cX11_last 73 = .ok (.iload_n 1, 1) := by decide +kernel
theorem dX11_last_74 : decode cX11_last 74 = .ok (.iaload, 1) := by decide +kernel
theorem dX11_last_75 : decode cX11_last 75 = .ok (.ireturn, 1) := by decide +kernel
theorem dX11_meet_0 : decode cX11_meet 0 = .ok (.aload_n 0, 1) := by decide +kernel
theorem dX11_meet_1 : decode cX11_meet 1 = .ok (.getfield 10, 3) := by decide +kernel
theorem dX11_meet_4 : decode cX11_meet 4 = .ok (.getfield 133, 3) := by decide +kernel
theorem dX11_meet_7 : decode cX11_meet 7 = .ok (.invokevirtual 370, 3) := by decide +kernel
theorem dX11_meet_10 : decode cX11_meet 10 = .ok (.ireturn, 1) := by decide +kernel
theorem dX11_gauge_0 : decode cX11_gauge 0 = .ok (.aload_n 0, 1) := by decide +kernel
theorem dX11_gauge_1 : decode cX11_gauge 1 = .ok (.iload_n 1, 1) := by decide +kernel
theorem dX11_gauge_2 : decode cX11_gauge 2 = .ok (.invokevirtual 373, 3) := by decide +kernel
theorem dX11_gauge_5 : decode cX11_gauge 5 = .ok (.ifCond .ne 6, 3) := by decide +kernel
theorem dX11_gauge_8 : decode cX11_gauge 8 = .ok (.bipush (-2), 2) := by decide +kernel
theorem dX11_gauge_10 : decode cX11_gauge 10 = .ok (.ireturn, 1) := by decide +kernel
theorem dX11_gauge_11 : decode cX11_gauge 11 = .ok (.aload_n 0, 1) := by decide +kernel
theorem dX11_gauge_12 : decode cX11_gauge 12 = .ok (.getfield 10, 3) := by decide +kernel
theorem dX11_gauge_15 : decode cX11_gauge 15 = .ok (.getfield 133, 3) := by decide +kernel
theorem dX11_gauge_18 : decode cX11_gauge 18 = .ok (.invokevirtual 269, 3) := by decide +kernel
theorem dX11_gauge_21 : decode cX11_gauge 21 = .ok (.bipush 10, 2) := by decide +kernel
theorem dX11_gauge_23 : decode cX11_gauge 23 = .ok (.if_icmp .le 6, 3) := by decide +kernel
theorem dX11_gauge_26 : decode cX11_gauge 26 = .ok (.bipush (-9), 2) := by decide +kernel
theorem dX11_gauge_28 : decode cX11_gauge 28 = .ok (.ireturn, 1) := by decide +kernel
theorem dX11_gauge_29 : decode cX11_gauge 29 = .ok (.aload_n 0, 1) := by decide +kernel
theorem dX11_gauge_30 : decode cX11_gauge 30 = .ok (.invokevirtual 376, 3) := by decide +kernel
theorem dX11_gauge_33 : decode cX11_gauge 33 = .ok (.aload_n 0, 1) := by decide +kernel
theorem dX11_gauge_34 : decode cX11_gauge 34 = .ok (.getfield 42, 3) := by decide +kernel
theorem dX11_gauge_37 : decode cX11_gauge 37 = .ok (.iload_n 1, 1) := by decide +kernel
theorem dX11_gauge_38 : decode cX11_gauge 38 = .ok (.invokevirtual 379, 3) := by decide +kernel
theorem dX11_gauge_41 : decode cX11_gauge 41 = .ok (.ireturn, 1) := by decide +kernel
theorem dX11_plan_0 : decode cX11_plan 0 = .ok (.iload 4, 2) := by decide +kernel
theorem dX11_plan_2 : decode cX11_plan 2 = .ok (.i2l, 1) := by decide +kernel
theorem dX11_plan_3 : decode cX11_plan 3 = .ok (.iconst 0, 1) := by decide +kernel
theorem dX11_plan_4 : decode cX11_plan 4 = .ok (.iconst 1, 1) := by decide +kernel
theorem dX11_plan_5 : decode cX11_plan 5 = .ok (.invokestatic 46, 3) := by decide +kernel
theorem dX11_plan_8 : decode cX11_plan 8 = .ok (.ifCond .ne 5, 3) := by decide +kernel
theorem dX11_plan_11 : decode cX11_plan 11 = .ok (.iconst (-1), 1) := by decide +kernel
theorem dX11_plan_12 : decode cX11_plan 12 = .ok (.ireturn, 1) := by decide +kernel
theorem dX11_plan_13 : decode cX11_plan 13 = .ok (.aload_n 0, 1) := by decide +kernel
theorem dX11_plan_14 : decode cX11_plan 14 = .ok (.iload_n 1, 1) := by decide +kernel
theorem dX11_plan_15 : decode cX11_plan 15 = .ok (.invokevirtual 373, 3) := by decide +kernel
theorem dX11_plan_18 : decode cX11_plan 18 = .ok (.ifCond .eq 26, 3) := by decide +kernel
theorem dX11_plan_21 : decode cX11_plan 21 = .ok (.iload_n 2, 1) := by decide +kernel
theorem dX11_plan_22 : decode cX11_plan 22 = .ok (.i2l, 1) := by decide +kernel
theorem dX11_plan_23 : decode cX11_plan 23 = .ok (.iconst 0, 1) := by decide +kernel
theorem dX11_plan_24 : decode cX11_plan 24 = .ok (.ldc 77, 2) := by decide +kernel
theorem dX11_plan_26 : decode cX11_plan 26 = .ok (.invokestatic 46, 3) := by decide +kernel
theorem dX11_plan_29 : decode cX11_plan 29 = .ok (.ifCond .eq 15, 3) := by decide +kernel
theorem dX11_plan_32 : decode cX11_plan 32 = .ok (.iload_n 3, 1) := by decide +kernel
theorem dX11_plan_33 : decode cX11_plan 33 = .ok (.i2l, 1) := by decide +kernel
theorem dX11_plan_34 : decode cX11_plan 34 = .ok (.iconst 0, 1) := by decide +kernel
theorem dX11_plan_35 : decode cX11_plan 35 = .ok (.ldc_w 382, 3) := by decide +kernel
theorem dX11_plan_38 : decode cX11_plan 38 = .ok (.invokestatic 46, 3) := by decide +kernel
theorem dX11_plan_41 : decode cX11_plan 41 = .ok (.ifCond .ne 6, 3) := by decide +kernel
theorem dX11_plan_44 : decode cX11_plan 44 = .ok (.bipush (-2), 2) := by decide +kernel
theorem dX11_plan_46 : decode cX11_plan 46 = .ok (.ireturn, 1) := by decide +kernel
theorem dX11_plan_47 : decode cX11_plan 47 = .ok (.aload_n 0, 1) := by decide +kernel
theorem dX11_plan_48 : decode cX11_plan 48 = .ok (.invokevirtual 383, 3) := by decide +kernel
theorem dX11_plan_51 : decode cX11_plan 51 = .ok (.aload_n 0, 1) := by decide +kernel
theorem dX11_plan_52 : decode cX11_plan 52 = .ok (.getfield 42, 3) := by decide +kernel
theorem dX11_plan_55 : decode cX11_plan 55 = .ok (.iload_n 1, 1) := by decide +kernel
theorem dX11_plan_56 : decode cX11_plan 56 = .ok (.iload_n 2, 1) := by decide +kernel
theorem dX11_plan_57 : decode cX11_plan 57 = .ok (.iload_n 3, 1) := by decide +kernel
theorem dX11_plan_58 : decode cX11_plan 58 = .ok (.invokevirtual 386, 3) := by decide +kernel
theorem dX11_plan_61 : decode cX11_plan 61 = .ok (.istore 5, 2) := by decide +kernel
theorem dX11_plan_63 : decode cX11_plan 63 = .ok (.iload 5, 2) := by decide +kernel
theorem dX11_plan_65 : decode cX11_plan 65 = .ok (.ifCond .ge 6, 3) := by decide +kernel
theorem dX11_plan_68 : decode cX11_plan 68 = .ok (.bipush (-5), 2) := by decide +kernel
theorem dX11_plan_70 : decode cX11_plan 70 = .ok (.ireturn, 1) := by decide +kernel
theorem dX11_plan_71 : decode cX11_plan 71 = .ok (.iload 4, 2) := by decide +kernel
theorem dX11_plan_73 : decode cX11_plan 73 = .ok (.ifCond .ne 8, 3) := by decide +kernel
theorem dX11_plan_76 : decode cX11_plan 76 = .ok (.iload 5, 2) := by decide +kernel
theorem dX11_plan_78 : decode cX11_plan 78 = .ok (.goto 12, 3) := by decide +kernel
theorem dX11_plan_81 : decode cX11_plan 81 = .ok (.aload_n 0, 1) := by decide +kernel
theorem dX11_plan_82 : decode cX11_plan 82 = .ok (.getfield 42, 3) := by decide +kernel
theorem dX11_plan_85 : decode cX11_plan 85 = .ok (.iload 5, 2) := by decide +kernel
theorem dX11_plan_87 : decode cX11_plan 87 = .ok (.invokevirtual 390, 3) := by decide +kernel
theorem dX11_plan_90 : decode cX11_plan 90 = .ok (.ireturn, 1) := by decide +kernel
theorem dX11_tried_0 : decode cX11_tried 0 = .ok (.iload_n 1, 1) := by decide +kernel
theorem dX11_tried_1 : decode cX11_tried 1 = .ok (.i2l, 1) := by decide +kernel
theorem dX11_tried_2 : decode cX11_tried 2 = .ok (.iconst 0, 1) := by decide +kernel
theorem dX11_tried_3 : decode cX11_tried 3 = .ok (.iconst 2, 1) := by decide +kernel
theorem dX11_tried_4 : decode cX11_tried 4 = .ok (.invokestatic 46, 3) := by decide +kernel
theorem dX11_tried_7 : decode cX11_tried 7 = .ok (.ifCond .ne 5, 3) := by decide +kernel
theorem dX11_tried_10 : decode cX11_tried 10 = .ok (.iconst (-1), 1) := by decide +kernel
theorem dX11_tried_11 : decode cX11_tried 11 = .ok (.ireturn, 1) := by decide +kernel
theorem dX11_tried_12 : decode cX11_tried 12 = .ok (.aload_n 0, 1) := by decide +kernel
theorem dX11_tried_13 : decode cX11_tried 13 = .ok (.getfield 10, 3) := by decide +kernel
theorem dX11_tried_16 : decode cX11_tried 16 = .ok (.aload_n 0, 1) := by decide +kernel
theorem dX11_tried_17 : decode cX11_tried 17 = .ok (.getfield 10, 3) := by decide +kernel
theorem dX11_tried_20 : decode cX11_tried 20 = .ok (.getfield 148, 3) := by decide +kernel
theorem dX11_tried_23 : decode cX11_tried 23 = .ok (.invokevirtual 103, 3) := by decide +kernel
theorem dX11_tried_26 : decode cX11_tried 26 = .ok (.astore_n 2, 1) := by decide +kernel
theorem dX11_tried_27 : decode cX11_tried 27 = .ok (.aload_n 2, 1) := by decide +kernel
theorem dX11_tried_28 : decode cX11_tried 28 = .ok (.invokevirtual 107, 3) := by decide +kernel
theorem dX11_tried_31 : decode cX11_tried 31 = .ok (.istore_n 3, 1) := by decide +kernel
theorem dX11_tried_32 : decode cX11_tried 32 = .ok (.iload_n 3, 1) := by decide +kernel
theorem dX11_tried_33 : decode cX11_tried 33 = .ok (.iconst (-1), 1) := by decide +kernel
theorem dX11_tried_34 : decode cX11_tried 34 = .ok (.if_icmp .eq 8, 3) := by decide +kernel
theorem dX11_tried_37 : decode cX11_tried 37 = .ok (.bipush (-10), 2) := by decide +kernel
theorem dX11_tried_39 : decode cX11_tried 39 = .ok (.iload_n 3, 1) := by decide +kernel
theorem dX11_tried_40 : decode cX11_tried 40 = .ok (.isub, 1) := by decide +kernel
theorem dX11_tried_41 : decode cX11_tried 41 = .ok (.ireturn, 1) := by decide +kernel
theorem dX11_tried_42 : decode cX11_tried 42 = .ok (.aload_n 0, 1) := by decide +kernel
theorem dX11_tried_43 : decode cX11_tried 43 = .ok (.getfield 10, 3) := by decide +kernel
theorem dX11_tried_46 : decode cX11_tried 46 = .ok (.aload_n 2, 1) := by decide +kernel
theorem dX11_tried_47 : decode cX11_tried 47 = .ok (.invokevirtual 113, 3) := by decide +kernel
theorem dX11_tried_50 : decode cX11_tried 50 = .ok (.pop, 1) := by decide +kernel
theorem dX11_tried_51 : decode cX11_tried 51 = .ok (.iload_n 1, 1) := by decide +kernel
theorem dX11_tried_52 : decode cX11_tried 52 = .ok (.iconst 2, 1) := by decide +kernel
theorem dX11_tried_53 : decode cX11_tried 53 = .ok (.if_icmp .ne 10, 3) := by decide +kernel
theorem dX11_tried_56 : decode cX11_tried 56 = .ok (.aload_n 0, 1) := by decide +kernel
theorem dX11_tried_57 : decode cX11_tried 57 = .ok (.invokevirtual 393, 3) := by decide +kernel
theorem dX11_tried_60 : decode cX11_tried 60 = .ok (.goto 16, 3) := by decide +kernel
theorem dX11_tried_63 : decode cX11_tried 63 = .ok (.aload_n 0, 1) := by decide +kernel
theorem dX11_tried_64 : decode cX11_tried 64 = .ok (.iload_n 1, 1) := by decide +kernel
theorem dX11_tried_65 : decode cX11_tried 65 = .ok (.ifCond .ne 7, 3) := by decide +kernel
theorem dX11_tried_68 : decode cX11_tried 68 = .ok (.iconst 2, 1) := by decide +kernel
theorem dX11_tried_69 : decode cX11_tried 69 = .ok (.goto 4, 3) := by decide +kernel
theorem dX11_tried_72 : decode cX11_tried 72 = .ok (.iconst 3, 1) := by decide +kernel
theorem dX11_tried_73 : decode cX11_tried 73 = .ok (.invokevirtual 396, 3) := by decide +kernel
theorem dX11_tried_76 : decode cX11_tried 76 = .ok (.istore 4, 2) := by decide +kernel
theorem dX11_tried_78 : decode cX11_tried 78 = .ok (.aload_n 0, 1) := by decide +kernel
theorem dX11_tried_79 : decode cX11_tried 79 = .ok (.getfield 10, 3) := by decide +kernel
theorem dX11_tried_82 : decode cX11_tried 82 = .ok (.invokevirtual 399, 3) := by decide +kernel
theorem dX11_tried_85 : decode cX11_tried 85 = .ok (.iload 4, 2) := by decide +kernel
theorem dX11_tried_87 : decode cX11_tried 87 = .ok (.ireturn, 1) := by decide +kernel
theorem dX11_known_0 : decode cX11_known 0 = .ok (.aload_n 0, 1) := by decide +kernel
theorem dX11_known_1 : decode cX11_known 1 = .ok (.getfield 10, 3) := by decide +kernel
theorem dX11_known_4 : decode cX11_known 4 = .ok (.getfield 133, 3) := by decide +kernel
theorem dX11_known_7 : decode cX11_known 7 = .ok (.iload_n 1, 1) := by decide +kernel
theorem dX11_known_8 : decode cX11_known 8 = .ok (.invokevirtual 272, 3) := by decide +kernel
theorem dX11_known_11 : decode cX11_known 11 = .ok (.ifnull 21, 3) := by decide +kernel
theorem dX11_known_14 : decode cX11_known 14 = .ok (.iload_n 2, 1) := by decide +kernel
theorem dX11_known_15 : decode cX11_known 15 = .ok (.i2l, 1) := by decide +kernel
theorem dX11_known_16 : decode cX11_known 16 = .ok (.iconst 0, 1) := by decide +kernel
theorem dX11_known_17 : decode cX11_known 17 = .ok (.aload_n 0, 1) := by decide +kernel
theorem dX11_known_18 : decode cX11_known 18 = .ok (.getfield 10, 3) := by decide +kernel
theorem dX11_known_21 : decode cX11_known 21 = .ok (.getfield 148, 3) := by decide +kernel
theorem dX11_known_24 : decode cX11_known 24 = .ok (.iconst 1, 1) := by decide +kernel
theorem dX11_known_25 : decode cX11_known 25 = .ok (.isub, 1) := by decide +kernel
theorem dX11_known_26 : decode cX11_known 26 = .ok (.invokestatic 46, 3) := by decide +kernel
theorem dX11_known_29 : decode cX11_known 29 = .ok (.ifCond .ne 5, 3) := by decide +kernel
theorem dX11_known_32 : decode cX11_known 32 = .ok (.iconst (-1), 1) := by decide +kernel
theorem dX11_known_33 : decode cX11_known 33 = .ok (.ireturn, 1) := by decide +kernel
theorem dX11_known_34 : decode cX11_known 34 = .ok (.aload_n 0, 1) := by decide +kernel
theorem dX11_known_35 : decode cX11_known 35 = .ok (.getfield 21, 3) := by decide +kernel
theorem dX11_known_38 : decode cX11_known 38 = .ok (.iload_n 2, 1) := by decide +kernel
theorem dX11_known_39 : decode cX11_known 39 = .ok (.aaload, 1) := by decide +kernel
theorem dX11_known_40 : decode cX11_known 40 = .ok (.astore_n 3, 1) := by decide +kernel
theorem dX11_known_41 : decode cX11_known 41 = .ok (.aload_n 3, 1) := by decide +kernel
theorem dX11_known_42 : decode cX11_known 42 = .ok (.ifnonnull 7, 3) := by decide +kernel
theorem dX11_known_45 : decode cX11_known 45 = .ok (.iconst (-1), 1) := by decide +kernel
theorem dX11_known_46 : decode cX11_known 46 = .ok (.goto 6, 3) := by decide +kernel
theorem dX11_known_49 : decode cX11_known 49 = .ok (.aload_n 3, 1) := by decide +kernel
theorem dX11_known_50 : decode cX11_known 50 = .ok (.iload_n 1, 1) := by decide +kernel
theorem dX11_known_51 : decode cX11_known 51 = .ok (.iaload, 1) := by decide +kernel
theorem dX11_known_52 : decode cX11_known 52 = .ok (.ireturn, 1) := by decide +kernel
theorem dX11_image_0 : decode cX11_image 0 = .ok (.aload_n 0, 1) := by decide +kernel
theorem dX11_image_1 : decode cX11_image 1 = .ok (.getfield 16, 3) := by decide +kernel
theorem dX11_image_4 : decode cX11_image 4 = .ok (.aload_n 0, 1) := by decide +kernel
theorem dX11_image_5 : decode cX11_image 5 = .ok (.getfield 10, 3) := by decide +kernel
theorem dX11_image_8 : decode cX11_image 8 = .ok (.invokevirtual 402, 3) := by decide +kernel
theorem dX11_image_11 : decode cX11_image 11 = .ok (.aload_n 0, 1) := by decide +kernel
theorem dX11_image_12 : decode cX11_image 12 = .ok (.iconst 1, 1) := by decide +kernel
theorem dX11_image_13 : decode cX11_image 13 = .ok (.putfield 406, 3) := by decide +kernel
theorem dX11_image_16 : decode cX11_image 16 = .ok (.aload_n 0, 1) := by decide +kernel
theorem dX11_image_17 : decode cX11_image 17 = .ok (.getfield 10, 3) := by decide +kernel
theorem dX11_image_20 : decode cX11_image 20 = .ok (.getfield 148, 3) := by decide +kernel
theorem dX11_image_23 : decode cX11_image 23 = .ok (.ireturn, 1) := by decide +kernel
theorem dX11_undo_0 : decode cX11_undo 0 = .ok (.aload_n 0, 1) := by decide +kernel
theorem dX11_undo_1 : decode cX11_undo 1 = .ok (.getfield 406, 3) := by decide +kernel
theorem dX11_undo_4 : decode cX11_undo 4 = .ok (.ifCond .ne 6, 3) := by decide +kernel
theorem dX11_undo_7 : decode cX11_undo 7 = .ok (.bipush (-3), 2) := by decide +kernel
theorem dX11_undo_9 : decode cX11_undo 9 = .ok (.ireturn, 1) := by decide +kernel
theorem dX11_undo_10 : decode cX11_undo 10 = .ok (.aload_n 0, 1) := by decide +kernel
theorem dX11_undo_11 : decode cX11_undo 11 = .ok (.getfield 10, 3) := by decide +kernel
theorem dX11_undo_14 : decode cX11_undo 14 = .ok (.aload_n 0, 1) := by decide +kernel
theorem dX11_undo_15 : decode cX11_undo 15 = .ok (.getfield 16, 3) := by decide +kernel
theorem dX11_undo_18 : decode cX11_undo 18 = .ok (.invokevirtual 402, 3) := by decide +kernel
theorem dX11_undo_21 : decode cX11_undo 21 = .ok (.aload_n 0, 1) := by decide +kernel
theorem dX11_undo_22 : decode cX11_undo 22 = .ok (.getfield 10, 3) := by decide +kernel
theorem dX11_undo_25 : decode cX11_undo 25 = .ok (.getfield 148, 3) := by decide +kernel
theorem dX11_undo_28 : decode cX11_undo 28 = .ok (.ireturn, 1) := by decide +kernel
theorem dX11_count_0 : decode cX11_count 0 = .ok (.iload_n 1, 1) := by decide +kernel
theorem dX11_count_1 : decode cX11_count 1 = .ok (.tableswitch 168 0 10 #[59, 70, 81, 89, 97, 105, 113, 124, 135, 146, 157], 59) := by decide +kernel
theorem dX11_count_60 : decode cX11_count 60 = .ok (.aload_n 0, 1) := by decide +kernel
theorem dX11_count_61 : decode cX11_count 61 = .ok (.getfield 10, 3) := by decide +kernel
theorem dX11_count_64 : decode cX11_count 64 = .ok (.getfield 50, 3) := by decide +kernel
theorem dX11_count_67 : decode cX11_count 67 = .ok (.getfield 66, 3) := by decide +kernel
theorem dX11_count_70 : decode cX11_count 70 = .ok (.ireturn, 1) := by decide +kernel
theorem dX11_count_71 : decode cX11_count 71 = .ok (.aload_n 0, 1) := by decide +kernel
theorem dX11_count_72 : decode cX11_count 72 = .ok (.getfield 10, 3) := by decide +kernel
theorem dX11_count_75 : decode cX11_count 75 = .ok (.getfield 133, 3) := by decide +kernel
theorem dX11_count_78 : decode cX11_count 78 = .ok (.getfield 410, 3) := by decide +kernel
theorem dX11_count_81 : decode cX11_count 81 = .ok (.ireturn, 1) := by decide +kernel
theorem dX11_count_82 : decode cX11_count 82 = .ok (.aload_n 0, 1) := by decide +kernel
theorem dX11_count_83 : decode cX11_count 83 = .ok (.getfield 10, 3) := by decide +kernel
theorem dX11_count_86 : decode cX11_count 86 = .ok (.getfield 100, 3) := by decide +kernel
theorem dX11_count_89 : decode cX11_count 89 = .ok (.ireturn, 1) := by decide +kernel
theorem dX11_count_90 : decode cX11_count 90 = .ok (.aload_n 0, 1) := by decide +kernel
theorem dX11_count_91 : decode cX11_count 91 = .ok (.getfield 10, 3) := by decide +kernel
theorem dX11_count_94 : decode cX11_count 94 = .ok (.getfield 148, 3) := by decide +kernel
theorem dX11_count_97 : decode cX11_count 97 = .ok (.ireturn, 1) := by decide +kernel
theorem dX11_count_98 : decode cX11_count 98 = .ok (.aload_n 0, 1) := by decide +kernel
theorem dX11_count_99 : decode cX11_count 99 = .ok (.getfield 10, 3) := by decide +kernel
theorem dX11_count_102 : decode cX11_count 102 = .ok (.getfield 90, 3) := by decide +kernel
theorem dX11_count_105 : decode cX11_count 105 = .ok (.ireturn, 1) := by decide +kernel
theorem dX11_count_106 : decode cX11_count 106 = .ok (.aload_n 0, 1) := by decide +kernel
theorem dX11_count_107 : decode cX11_count 107 = .ok (.getfield 10, 3) := by decide +kernel
theorem dX11_count_110 : decode cX11_count 110 = .ok (.getfield 87, 3) := by decide +kernel
theorem dX11_count_113 : decode cX11_count 113 = .ok (.ireturn, 1) := by decide +kernel
theorem dX11_count_114 : decode cX11_count 114 = .ok (.aload_n 0, 1) := by decide +kernel
theorem dX11_count_115 : decode cX11_count 115 = .ok (.getfield 10, 3) := by decide +kernel
theorem dX11_count_118 : decode cX11_count 118 = .ok (.getfield 133, 3) := by decide +kernel
theorem dX11_count_121 : decode cX11_count 121 = .ok (.invokevirtual 269, 3) := by decide +kernel
theorem dX11_count_124 : decode cX11_count 124 = .ok (.ireturn, 1) := by decide +kernel
theorem dX11_count_125 : decode cX11_count 125 = .ok (.aload_n 0, 1) := by decide +kernel
theorem dX11_count_126 : decode cX11_count 126 = .ok (.getfield 10, 3) := by decide +kernel
theorem dX11_count_129 : decode cX11_count 129 = .ok (.getfield 133, 3) := by decide +kernel
theorem dX11_count_132 : decode cX11_count 132 = .ok (.invokevirtual 411, 3) := by decide +kernel
theorem dX11_count_135 : decode cX11_count 135 = .ok (.ireturn, 1) := by decide +kernel
theorem dX11_count_136 : decode cX11_count 136 = .ok (.aload_n 0, 1) := by decide +kernel
theorem dX11_count_137 : decode cX11_count 137 = .ok (.getfield 10, 3) := by decide +kernel
theorem dX11_count_140 : decode cX11_count 140 = .ok (.getfield 304, 3) := by decide +kernel
theorem dX11_count_143 : decode cX11_count 143 = .ok (.getfield 308, 3) := by decide +kernel
theorem dX11_count_146 : decode cX11_count 146 = .ok (.ireturn, 1) := by decide +kernel
theorem dX11_count_147 : decode cX11_count 147 = .ok (.aload_n 0, 1) := by decide +kernel
theorem dX11_count_148 : decode cX11_count 148 = .ok (.getfield 10, 3) := by decide +kernel
theorem dX11_count_151 : decode cX11_count 151 = .ok (.getfield 78, 3) := by decide +kernel
theorem dX11_count_154 : decode cX11_count 154 = .ok (.getfield 330, 3) := by decide +kernel
theorem dX11_count_157 : decode cX11_count 157 = .ok (.ireturn, 1) := by decide +kernel
theorem dX11_count_158 : decode cX11_count 158 = .ok (.aload_n 0, 1) := by decide +kernel
theorem dX11_count_159 : decode cX11_count 159 = .ok (.getfield 10, 3) := by decide +kernel
theorem dX11_count_162 : decode cX11_count 162 = .ok (.getfield 133, 3) := by decide +kernel
theorem dX11_count_165 : decode cX11_count 165 = .ok (.getfield 294, 3) := by decide +kernel
theorem dX11_count_168 : decode cX11_count 168 = .ok (.ireturn, 1) := by decide +kernel
theorem dX11_count_169 : decode cX11_count 169 = .ok (.iconst (-1), 1) := by decide +kernel
theorem dX11_count_170 : decode cX11_count 170 = .ok (.ireturn, 1) := by decide +kernel
theorem dX11_sheet_0 : decode cX11_sheet 0 = .ok (.iload_n 1, 1) := by decide +kernel
theorem dX11_sheet_1 : decode cX11_sheet 1 = .ok (.invokestatic 176, 3) := by decide +kernel
theorem dX11_sheet_4 : decode cX11_sheet 4 = .ok (.ifCond .ne 5, 3) := by decide +kernel
theorem dX11_sheet_7 : decode cX11_sheet 7 = .ok (.iconst (-1), 1) := by decide +kernel
theorem dX11_sheet_8 : decode cX11_sheet 8 = .ok (.ireturn, 1) := by decide +kernel
theorem dX11_sheet_9 : decode cX11_sheet 9 = .ok (.iload_n 2, 1) := by decide +kernel
theorem dX11_sheet_10 : decode cX11_sheet 10 = .ok (.i2l, 1) := by decide +kernel
theorem dX11_sheet_11 : decode cX11_sheet 11 = .ok (.iconst (-1), 1) := by decide +kernel
theorem dX11_sheet_12 : decode cX11_sheet 12 = .ok (.iconst 2, 1) := by decide +kernel
theorem dX11_sheet_13 : decode cX11_sheet 13 = .ok (.invokestatic 46, 3) := by decide +kernel
theorem dX11_sheet_16 : decode cX11_sheet 16 = .ok (.ifCond .eq 14, 3) := by decide +kernel
theorem dX11_sheet_19 : decode cX11_sheet 19 = .ok (.iload_n 2, 1) := by decide +kernel
theorem dX11_sheet_20 : decode cX11_sheet 20 = .ok (.iconst (-1), 1) := by decide +kernel
theorem dX11_sheet_21 : decode cX11_sheet 21 = .ok (.if_icmp .eq 12, 3) := by decide +kernel
theorem dX11_sheet_24 : decode cX11_sheet 24 = .ok (.iload_n 3, 1) := by decide +kernel
theorem dX11_sheet_25 : decode cX11_sheet 25 = .ok (.bipush 40, 2) := by decide +kernel
theorem dX11_sheet_27 : decode cX11_sheet 27 = .ok (.if_icmp .le 6, 3) := by decide +kernel
theorem dX11_sheet_30 : decode cX11_sheet 30 = .ok (.bipush (-2), 2) := by decide +kernel
theorem dX11_sheet_32 : decode cX11_sheet 32 = .ok (.ireturn, 1) := by decide +kernel
theorem dX11_sheet_33 : decode cX11_sheet 33 = .ok (.iload_n 2, 1) := by decide +kernel
theorem dX11_sheet_34 : decode cX11_sheet 34 = .ok (.iconst (-1), 1) := by decide +kernel
theorem dX11_sheet_35 : decode cX11_sheet 35 = .ok (.if_icmp .eq 10, 3) := by decide +kernel
theorem dX11_sheet_38 : decode cX11_sheet 38 = .ok (.iload_n 3, 1) := by decide +kernel
theorem dX11_sheet_39 : decode cX11_sheet 39 = .ok (.ifCond .ge 6, 3) := by decide +kernel
theorem dX11_sheet_42 : decode cX11_sheet 42 = .ok (.bipush (-14), 2) := by decide +kernel
theorem dX11_sheet_44 : decode cX11_sheet 44 = .ok (.ireturn, 1) := by decide +kernel
theorem dX11_sheet_45 : decode cX11_sheet 45 = .ok (.aload_n 0, 1) := by decide +kernel
theorem dX11_sheet_46 : decode cX11_sheet 46 = .ok (.getfield 10, 3) := by decide +kernel
theorem dX11_sheet_49 : decode cX11_sheet 49 = .ok (.getfield 179, 3) := by decide +kernel
theorem dX11_sheet_52 : decode cX11_sheet 52 = .ok (.iload_n 1, 1) := by decide +kernel
theorem dX11_sheet_53 : decode cX11_sheet 53 = .ok (.aaload, 1) := by decide +kernel
theorem dX11_sheet_54 : decode cX11_sheet 54 = .ok (.iload_n 2, 1) := by decide +kernel
theorem dX11_sheet_55 : decode cX11_sheet 55 = .ok (.iload_n 2, 1) := by decide +kernel
theorem dX11_sheet_56 : decode cX11_sheet 56 = .ok (.iconst (-1), 1) := by decide +kernel
theorem dX11_sheet_57 : decode cX11_sheet 57 = .ok (.if_icmp .ne 7, 3) := by decide +kernel
theorem dX11_sheet_60 : decode cX11_sheet 60 = .ok (.iconst 0, 1) := by decide +kernel
theorem dX11_sheet_61 : decode cX11_sheet 61 = .ok (.goto 4, 3) := by decide +kernel
theorem dX11_sheet_64 : decode cX11_sheet 64 = .ok (.iload_n 3, 1) := by decide +kernel
theorem dX11_sheet_65 : decode cX11_sheet 65 = .ok (.invokevirtual 414, 3) := by decide +kernel
theorem dX11_sheet_68 : decode cX11_sheet 68 = .ok (.iconst 1, 1) := by decide +kernel
theorem dX11_sheet_69 : decode cX11_sheet 69 = .ok (.ireturn, 1) := by decide +kernel
theorem dX11_item_0 : decode cX11_item 0 = .ok (.iload_n 1, 1) := by decide +kernel
theorem dX11_item_1 : decode cX11_item 1 = .ok (.invokestatic 176, 3) := by decide +kernel
theorem dX11_item_4 : decode cX11_item 4 = .ok (.ifCond .ne 5, 3) := by decide +kernel
theorem dX11_item_7 : decode cX11_item 7 = .ok (.iconst (-1), 1) := by decide +kernel
theorem dX11_item_8 : decode cX11_item 8 = .ok (.ireturn, 1) := by decide +kernel
theorem dX11_item_9 : decode cX11_item 9 = .ok (.aload_n 0, 1) := by decide +kernel
theorem dX11_item_10 : decode cX11_item 10 = .ok (.getfield 10, 3) := by decide +kernel
theorem dX11_item_13 : decode cX11_item 13 = .ok (.getfield 179, 3) := by decide +kernel
theorem dX11_item_16 : decode cX11_item 16 = .ok (.iload_n 1, 1) := by decide +kernel
theorem dX11_item_17 : decode cX11_item 17 = .ok (.aaload, 1) := by decide +kernel
theorem dX11_item_18 : decode cX11_item 18 = .ok (.astore 4, 2) := by decide +kernel
theorem dX11_item_20 : decode cX11_item 20 = .ok (.aload 4, 2) := by decide +kernel
theorem dX11_item_22 : decode cX11_item 22 = .ok (.getfield 183, 3) := by decide +kernel
theorem dX11_item_25 : decode cX11_item 25 = .ok (.iconst (-1), 1) := by decide +kernel
theorem dX11_item_26 : decode cX11_item 26 = .ok (.if_icmp .ne 6, 3) := by decide +kernel
theorem dX11_item_29 : decode cX11_item 29 = .ok (.bipush (-11), 2) := by decide +kernel
theorem dX11_item_31 : decode cX11_item 31 = .ok (.ireturn, 1) := by decide +kernel
theorem dX11_item_32 : decode cX11_item 32 = .ok (.iload_n 2, 1) := by decide +kernel
theorem dX11_item_33 : decode cX11_item 33 = .ok (.i2l, 1) := by decide +kernel
theorem dX11_item_34 : decode cX11_item 34 = .ok (.iconst 0, 1) := by decide +kernel
theorem dX11_item_35 : decode cX11_item 35 = .ok (.aload 4, 2) := by decide +kernel
theorem dX11_item_37 : decode cX11_item 37 = .ok (.getfield 417, 3) := by decide +kernel
theorem dX11_item_40 : decode cX11_item 40 = .ok (.iconst 1, 1) := by decide +kernel
theorem dX11_item_41 : decode cX11_item 41 = .ok (.isub, 1) := by decide +kernel
theorem dX11_item_42 : decode cX11_item 42 = .ok (.invokestatic 46, 3) := by decide +kernel
theorem dX11_item_45 : decode cX11_item 45 = .ok (.ifCond .ne 6, 3) := by decide +kernel
theorem dX11_item_48 : decode cX11_item 48 = .ok (.bipush (-12), 2) := by decide +kernel
theorem dX11_item_50 : decode cX11_item 50 = .ok (.ireturn, 1) := by decide +kernel
theorem dX11_item_51 : decode cX11_item 51 = .ok (.aload 4, 2) := by decide +kernel
theorem dX11_item_53 : decode cX11_item 53 = .ok (.iload_n 2, 1) := by decide +kernel
theorem dX11_item_54 : decode cX11_item 54 = .ok (.iload_n 3, 1) := by decide +kernel
theorem dX11_item_55 : decode cX11_item 55 = .ok (.invokevirtual 418, 3) := by decide +kernel
theorem dX11_item_58 : decode cX11_item 58 = .ok (.iconst 1, 1) := by decide +kernel
theorem dX11_item_59 : decode cX11_item 59 = .ok (.ireturn, 1) := by decide +kernel
theorem dX11_copy_0 : decode cX11_copy 0 = .ok (.iload_n 1, 1) := by decide +kernel
theorem dX11_copy_1 : decode cX11_copy 1 = .ok (.invokestatic 176, 3) := by decide +kernel
theorem dX11_copy_4 : decode cX11_copy 4 = .ok (.ifCond .eq 10, 3) := by decide +kernel
theorem dX11_copy_7 : decode cX11_copy 7 = .ok (.iload_n 3, 1) := by decide +kernel
theorem dX11_copy_8 : decode cX11_copy 8 = .ok (.invokestatic 176, 3) := by decide +kernel
theorem dX11_copy_11 : decode cX11_copy 11 = .ok (.ifCond .ne 5, 3) := by decide +kernel
theorem dX11_copy_14 : decode cX11_copy 14 = .ok (.iconst (-1), 1) := by decide +kernel
theorem dX11_copy_15 : decode cX11_copy 15 = .ok (.ireturn, 1) := by decide +kernel
theorem dX11_copy_16 : decode cX11_copy 16 = .ok (.aload_n 0, 1) := by decide +kernel
theorem dX11_copy_17 : decode cX11_copy 17 = .ok (.getfield 10, 3) := by decide +kernel
theorem dX11_copy_20 : decode cX11_copy 20 = .ok (.getfield 179, 3) := by decide +kernel
theorem dX11_copy_23 : decode cX11_copy 23 = .ok (.iload_n 1, 1) := by decide +kernel
theorem dX11_copy_24 : decode cX11_copy 24 = .ok (.aaload, 1) := by decide +kernel
theorem dX11_copy_25 : decode cX11_copy 25 = .ok (.astore 6, 2) := by decide +kernel
theorem dX11_copy_27 : decode cX11_copy 27 = .ok (.aload_n 0, 1) := by decide +kernel
theorem dX11_copy_28 : decode cX11_copy 28 = .ok (.getfield 10, 3) := by decide +kernel
theorem dX11_copy_31 : decode cX11_copy 31 = .ok (.getfield 179, 3) := by decide +kernel
theorem dX11_copy_34 : decode cX11_copy 34 = .ok (.iload_n 3, 1) := by decide +kernel
theorem dX11_copy_35 : decode cX11_copy 35 = .ok (.aaload, 1) := by decide +kernel
theorem dX11_copy_36 : decode cX11_copy 36 = .ok (.astore 7, 2) := by decide +kernel
theorem dX11_copy_38 : decode cX11_copy 38 = .ok (.aload 6, 2) := by decide +kernel
theorem dX11_copy_40 : decode cX11_copy 40 = .ok (.getfield 183, 3) := by decide +kernel
theorem dX11_copy_43 : decode cX11_copy 43 = .ok (.iconst (-1), 1) := by decide +kernel
theorem dX11_copy_44 : decode cX11_copy 44 = .ok (.if_icmp .eq 12, 3) := by decide +kernel
theorem dX11_copy_47 : decode cX11_copy 47 = .ok (.aload 7, 2) := by decide +kernel
theorem dX11_copy_49 : decode cX11_copy 49 = .ok (.getfield 183, 3) := by decide +kernel
theorem dX11_copy_52 : decode cX11_copy 52 = .ok (.iconst (-1), 1) := by decide +kernel
theorem dX11_copy_53 : decode cX11_copy 53 = .ok (.if_icmp .ne 6, 3) := by decide +kernel
theorem dX11_copy_56 : decode cX11_copy 56 = .ok (.bipush (-11), 2) := by decide +kernel
theorem dX11_copy_58 : decode cX11_copy 58 = .ok (.ireturn, 1) := by decide +kernel
theorem dX11_copy_59 : decode cX11_copy 59 = .ok (.aload 6, 2) := by decide +kernel
theorem dX11_copy_61 : decode cX11_copy 61 = .ok (.getfield 183, 3) := by decide +kernel
theorem dX11_copy_64 : decode cX11_copy 64 = .ok (.aload 7, 2) := by decide +kernel
theorem dX11_copy_66 : decode cX11_copy 66 = .ok (.getfield 183, 3) := by decide +kernel
theorem dX11_copy_69 : decode cX11_copy 69 = .ok (.if_icmp .eq 6, 3) := by decide +kernel
theorem dX11_copy_72 : decode cX11_copy 72 = .ok (.bipush (-13), 2) := by decide +kernel
theorem dX11_copy_74 : decode cX11_copy 74 = .ok (.ireturn, 1) := by decide +kernel
theorem dX11_copy_75 : decode cX11_copy 75 = .ok (.aload 6, 2) := by decide +kernel
theorem dX11_copy_77 : decode cX11_copy 77 = .ok (.iload_n 2, 1) := by decide +kernel
theorem dX11_copy_78 : decode cX11_copy 78 = .ok (.iload 5, 2) := by decide +kernel
theorem dX11_copy_80 : decode cX11_copy 80 = .ok (.invokevirtual 421, 3) := by decide +kernel
theorem dX11_copy_83 : decode cX11_copy 83 = .ok (.ifCond .eq 15, 3) := by decide +kernel
theorem dX11_copy_86 : decode cX11_copy 86 = .ok (.aload 7, 2) := by decide +kernel
theorem dX11_copy_88 : decode cX11_copy 88 = .ok (.iload 4, 2) := by decide +kernel
theorem dX11_copy_90 : decode cX11_copy 90 = .ok (.iload 5, 2) := by decide +kernel
theorem dX11_copy_92 : decode cX11_copy 92 = .ok (.invokevirtual 421, 3) := by decide +kernel
theorem dX11_copy_95 : decode cX11_copy 95 = .ok (.ifCond .ne 6, 3) := by decide +kernel
theorem dX11_copy_98 : decode cX11_copy 98 = .ok (.bipush (-12), 2) := by decide +kernel
theorem dX11_copy_100 : decode cX11_copy 100 = .ok (.ireturn, 1) := by decide +kernel
theorem dX11_copy_101 : decode cX11_copy 101 = .ok (.aload 6, 2) := by decide +kernel
theorem dX11_copy_103 : decode cX11_copy 103 = .ok (.getfield 424, 3) := by decide +kernel
theorem dX11_copy_106 : decode cX11_copy 106 = .ok (.iload_n 2, 1) := by decide +kernel
theorem dX11_copy_107 : decode cX11_copy 107 = .ok (.aload 7, 2) := by decide +kernel
theorem dX11_copy_109 : decode cX11_copy 109 = .ok (.getfield 424, 3) := by decide +kernel
theorem dX11_copy_112 : decode cX11_copy 112 = .ok (.iload 4, 2) := by decide +kernel
theorem dX11_copy_114 : decode cX11_copy 114 = .ok (.iload 5, 2) := by decide +kernel
theorem dX11_copy_116 : decode cX11_copy 116 = .ok (.invokestatic 425, 3) := by decide +kernel
theorem dX11_copy_119 : decode cX11_copy 119 = .ok (.iload 5, 2) := by decide +kernel
theorem dX11_copy_121 : decode cX11_copy 121 = .ok (.ireturn, 1) := by decide +kernel
theorem dX11_within_0 : decode cX11_within 0 = .ok (.lload_n 0, 1) := by decide +kernel
theorem dX11_within_1 : decode cX11_within 1 = .ok (.iload_n 2, 1) := by decide +kernel
theorem dX11_within_2 : decode cX11_within 2 = .ok (.i2l, 1) := by decide +kernel
theorem dX11_within_3 : decode cX11_within 3 = .ok (.lcmp, 1) := by decide +kernel
theorem dX11_within_4 : decode cX11_within 4 = .ok (.ifCond .lt 14, 3) := by decide +kernel
theorem dX11_within_7 : decode cX11_within 7 = .ok (.lload_n 0, 1) := by decide +kernel
theorem dX11_within_8 : decode cX11_within 8 = .ok (.iload_n 3, 1) := by decide +kernel
theorem dX11_within_9 : decode cX11_within 9 = .ok (.i2l, 1) := by decide +kernel
theorem dX11_within_10 : decode cX11_within 10 = .ok (.lcmp, 1) := by decide +kernel
theorem dX11_within_11 : decode cX11_within 11 = .ok (.ifCond .gt 7, 3) := by decide +kernel
theorem dX11_within_14 : decode cX11_within 14 = .ok (.iconst 1, 1) := by decide +kernel
theorem dX11_within_15 : decode cX11_within 15 = .ok (.goto 4, 3) := by decide +kernel
theorem dX11_within_18 : decode cX11_within 18 = .ok (.iconst 0, 1) := by decide +kernel
theorem dX11_within_19 : decode cX11_within 19 = .ok (.ireturn, 1) := by decide +kernel
theorem dX11_isDay_0 : decode cX11_isDay 0 = .ok (.iload_n 0, 1) := by decide +kernel
theorem dX11_isDay_1 : decode cX11_isDay 1 = .ok (.i2l, 1) := by decide +kernel
theorem dX11_isDay_2 : decode cX11_isDay 2 = .ok (.iconst 0, 1) := by decide +kernel
theorem dX11_isDay_3 : decode cX11_isDay 3 = .ok (.sipush 999, 3) := by decide +kernel
theorem dX11_isDay_6 : decode cX11_isDay 6 = .ok (.invokestatic 46, 3) := by decide +kernel
theorem dX11_isDay_9 : decode cX11_isDay 9 = .ok (.ireturn, 1) := by decide +kernel
theorem dX11_isHolder_0 : decode cX11_isHolder 0 = .ok (.iload_n 0, 1) := by decide +kernel
theorem dX11_isHolder_1 : decode cX11_isHolder 1 = .ok (.i2l, 1) := by decide +kernel
theorem dX11_isHolder_2 : decode cX11_isHolder 2 = .ok (.iconst 0, 1) := by decide +kernel
theorem dX11_isHolder_3 : decode cX11_isHolder 3 = .ok (.bipush 7, 2) := by decide +kernel
theorem dX11_isHolder_5 : decode cX11_isHolder 5 = .ok (.invokestatic 46, 3) := by decide +kernel
theorem dX11_isHolder_8 : decode cX11_isHolder 8 = .ok (.ireturn, 1) := by decide +kernel
theorem dX11_isSheet_0 : decode cX11_isSheet 0 = .ok (.iload_n 0, 1) := by decide +kernel
theorem dX11_isSheet_1 : decode cX11_isSheet 1 = .ok (.i2l, 1) := by decide +kernel
theorem dX11_isSheet_2 : decode cX11_isSheet 2 = .ok (.iconst 0, 1) := by decide +kernel
theorem dX11_isSheet_3 : decode cX11_isSheet 3 = .ok (.iconst 3, 1) := by decide +kernel
theorem dX11_isSheet_4 : decode cX11_isSheet 4 = .ok (.invokestatic 46, 3) := by decide +kernel
theorem dX11_isSheet_7 : decode cX11_isSheet 7 = .ok (.ireturn, 1) := by decide +kernel
theorem dX11_isTown_0 : decode cX11_isTown 0 = .ok (.iload_n 1, 1) := by decide +kernel
theorem dX11_isTown_1 : decode cX11_isTown 1 = .ok (.i2l, 1) := by decide +kernel
theorem dX11_isTown_2 : decode cX11_isTown 2 = .ok (.iconst 0, 1) := by decide +kernel
theorem dX11_isTown_3 : decode cX11_isTown 3 = .ok (.aload_n 0, 1) := by decide +kernel
theorem dX11_isTown_4 : decode cX11_isTown 4 = .ok (.getfield 10, 3) := by decide +kernel
theorem dX11_isTown_7 : decode cX11_isTown 7 = .ok (.getfield 50, 3) := by decide +kernel
theorem dX11_isTown_10 : decode cX11_isTown 10 = .ok (.getfield 66, 3) := by decide +kernel
theorem dX11_isTown_13 : decode cX11_isTown 13 = .ok (.iconst 1, 1) := by decide +kernel
theorem dX11_isTown_14 : decode cX11_isTown 14 = .ok (.isub, 1) := by decide +kernel
theorem dX11_isTown_15 : decode cX11_isTown 15 = .ok (.invokestatic 46, 3) := by decide +kernel
theorem dX11_isTown_18 : decode cX11_isTown 18 = .ok (.ireturn, 1) := by decide +kernel
theorem dX11_areTowns_0 : decode cX11_areTowns 0 = .ok (.iload_n 1, 1) := by decide +kernel
theorem dX11_areTowns_1 : decode cX11_areTowns 1 = .ok (.i2l, 1) := by decide +kernel
theorem dX11_areTowns_2 : decode cX11_areTowns 2 = .ok (.iconst 0, 1) := by decide +kernel
theorem dX11_areTowns_3 : decode cX11_areTowns 3 = .ok (.iconst 1, 1) := by decide +kernel
theorem dX11_areTowns_4 : decode cX11_areTowns 4 = .ok (.aload_n 0, 1) := by decide +kernel
theorem dX11_areTowns_5 : decode cX11_areTowns 5 = .ok (.getfield 10, 3) := by decide +kernel
theorem dX11_areTowns_8 : decode cX11_areTowns 8 = .ok (.getfield 50, 3) := by decide +kernel
theorem dX11_areTowns_11 : decode cX11_areTowns 11 = .ok (.getfield 66, 3) := by decide +kernel
theorem dX11_areTowns_14 : decode cX11_areTowns 14 = .ok (.ishl, 1) := by decide +kernel
theorem dX11_areTowns_15 : decode cX11_areTowns 15 = .ok (.iconst 1, 1) := by decide +kernel
theorem dX11_areTowns_16 : decode cX11_areTowns 16 = .ok (.isub, 1) := by decide +kernel
theorem dX11_areTowns_17 : decode cX11_areTowns 17 = .ok (.invokestatic 46, 3) := by decide +kernel
theorem dX11_areTowns_20 : decode cX11_areTowns 20 = .ok (.ireturn, 1) := by decide +kernel
theorem dX11_partyOf_0 : decode cX11_partyOf 0 = .ok (.iload_n 1, 1) := by decide +kernel
theorem dX11_partyOf_1 : decode cX11_partyOf 1 = .ok (.ifCond .ne 16, 3) := by decide +kernel
theorem dX11_partyOf_4 : decode cX11_partyOf 4 = .ok (.iload_n 2, 1) := by decide +kernel
theorem dX11_partyOf_5 : decode cX11_partyOf 5 = .ok (.invokestatic 74, 3) := by decide +kernel
theorem dX11_partyOf_8 : decode cX11_partyOf 8 = .ok (.ifCond .eq 7, 3) := by decide +kernel
theorem dX11_partyOf_11 : decode cX11_partyOf 11 = .ok (.iload_n 2, 1) := by decide +kernel
theorem dX11_partyOf_12 : decode cX11_partyOf 12 = .ok (.goto 4, 3) := by decide +kernel
theorem dX11_partyOf_15 : decode cX11_partyOf 15 = .ok (.iconst (-1), 1) := by decide +kernel
theorem dX11_partyOf_16 : decode cX11_partyOf 16 = .ok (.ireturn, 1) := by decide +kernel
theorem dX11_partyOf_17 : decode cX11_partyOf 17 = .ok (.iload_n 1, 1) := by decide +kernel
theorem dX11_partyOf_18 : decode cX11_partyOf 18 = .ok (.iconst 1, 1) := by decide +kernel
theorem dX11_partyOf_19 : decode cX11_partyOf 19 = .ok (.if_icmp .ne 18, 3) := by decide +kernel
theorem dX11_partyOf_22 : decode cX11_partyOf 22 = .ok (.aload_n 0, 1) := by decide +kernel
theorem dX11_partyOf_23 : decode cX11_partyOf 23 = .ok (.getfield 10, 3) := by decide +kernel
theorem dX11_partyOf_26 : decode cX11_partyOf 26 = .ok (.getfield 133, 3) := by decide +kernel
theorem dX11_partyOf_29 : decode cX11_partyOf 29 = .ok (.iload_n 2, 1) := by decide +kernel
theorem dX11_partyOf_30 : decode cX11_partyOf 30 = .ok (.iconst 1, 1) := by decide +kernel
theorem dX11_partyOf_31 : decode cX11_partyOf 31 = .ok (.invokevirtual 172, 3) := by decide +kernel
theorem dX11_partyOf_34 : decode cX11_partyOf 34 = .ok (.goto 4, 3) := by decide +kernel
theorem dX11_partyOf_37 : decode cX11_partyOf 37 = .ok (.aconst_null, 1) := by decide +kernel
theorem dX11_partyOf_38 : decode cX11_partyOf 38 = .ok (.astore_n 3, 1) := by decide +kernel
theorem dX11_partyOf_39 : decode cX11_partyOf 39 = .ok (.aload_n 3, 1) := by decide +kernel
theorem dX11_partyOf_40 : decode cX11_partyOf 40 = .ok (.ifnonnull 7, 3) := by decide +kernel
theorem dX11_partyOf_43 : decode cX11_partyOf 43 = .ok (.iconst (-1), 1) := by decide +kernel
theorem dX11_partyOf_44 : decode cX11_partyOf 44 = .ok (.goto 10, 3) := by decide +kernel
theorem dX11_partyOf_47 : decode cX11_partyOf 47 = .ok (.bipush 8, 2) := by decide +kernel
theorem dX11_partyOf_49 : decode cX11_partyOf 49 = .ok (.aload_n 3, 1) := by decide +kernel
theorem dX11_partyOf_50 : decode cX11_partyOf 50 = .ok (.getfield 161, 3) := by decide +kernel
theorem dX11_partyOf_53 : decode cX11_partyOf 53 = .ok (.iadd, 1) := by decide +kernel
theorem dX11_partyOf_54 : decode cX11_partyOf 54 = .ok (.ireturn, 1) := by decide +kernel
theorem dX11_remember_0 : decode cX11_remember 0 = .ok (.aload_n 0, 1) := by decide +kernel
theorem dX11_remember_1 : decode cX11_remember 1 = .ok (.getfield 21, 3) := by decide +kernel
theorem dX11_remember_4 : decode cX11_remember 4 = .ok (.iload_n 1, 1) := by decide +kernel
theorem dX11_remember_5 : decode cX11_remember 5 = .ok (.aaload, 1) := by decide +kernel
theorem dX11_remember_6 : decode cX11_remember 6 = .ok (.ifnonnull 13, 3) := by decide +kernel
theorem dX11_remember_9 : decode cX11_remember 9 = .ok (.aload_n 0, 1) := by decide +kernel
theorem dX11_remember_10 : decode cX11_remember 10 = .ok (.getfield 21, 3) := by decide +kernel
theorem dX11_remember_13 : decode cX11_remember 13 = .ok (.iload_n 1, 1) := by decide +kernel
theorem dX11_remember_14 : decode cX11_remember 14 = .ok (.bipush 60, 2) := by decide +kernel
theorem dX11_remember_16 : decode cX11_remember 16 = .ok (.newarray .int, 2) := by decide +kernel
theorem dX11_remember_18 : decode cX11_remember 18 = .ok (.aastore, 1) := by decide +kernel
theorem dX11_remember_19 : decode cX11_remember 19 = .ok (.aload_n 0, 1) := by decide +kernel
theorem dX11_remember_20 : decode cX11_remember 20 = .ok (.getfield 21, 3) := by decide +kernel
theorem dX11_remember_23 : decode cX11_remember 23 = .ok (.iload_n 1, 1) := by decide +kernel
theorem dX11_remember_24 : decode cX11_remember 24 = .ok (.aaload, 1) := by decide +kernel
theorem dX11_remember_25 : decode cX11_remember 25 = .ok (.astore_n 2, 1) := by decide +kernel
theorem dX11_remember_26 : decode cX11_remember 26 = .ok (.aload_n 2, 1) := by decide +kernel
theorem dX11_remember_27 : decode cX11_remember 27 = .ok (.iconst (-1), 1) := by decide +kernel
theorem dX11_remember_28 : decode cX11_remember 28 = .ok (.invokestatic 431, 3) := by decide +kernel
theorem dX11_remember_31 : decode cX11_remember 31 = .ok (.iconst 0, 1) := by decide +kernel
theorem dX11_remember_32 : decode cX11_remember 32 = .ok (.istore_n 3, 1) := by decide +kernel
theorem dX11_remember_33 : decode cX11_remember 33 = .ok (.iload_n 3, 1) := by decide +kernel
theorem dX11_remember_34 : decode cX11_remember 34 = .ok (.aload_n 0, 1) := by decide +kernel
theorem dX11_remember_35 : decode cX11_remember 35 = .ok (.getfield 10, 3) := by decide +kernel
theorem dX11_remember_38 : decode cX11_remember 38 = .ok (.getfield 133, 3) := by decide +kernel
theorem dX11_remember_41 : decode cX11_remember 41 = .ok (.getfield 410, 3) := by decide +kernel
theorem dX11_remember_44 : decode cX11_remember 44 = .ok (.if_icmp .ge 82, 3) := by decide +kernel
theorem dX11_remember_47 : decode cX11_remember 47 = .ok (.aload_n 0, 1) := by decide +kernel
theorem dX11_remember_48 : decode cX11_remember 48 = .ok (.getfield 10, 3) := by decide +kernel
theorem dX11_remember_51 : decode cX11_remember 51 = .ok (.getfield 133, 3) := by decide +kernel
theorem dX11_remember_54 : decode cX11_remember 54 = .ok (.iload_n 3, 1) := by decide +kernel
theorem dX11_remember_55 : decode cX11_remember 55 = .ok (.iconst 1, 1) := by decide +kernel
theorem dX11_remember_56 : decode cX11_remember 56 = .ok (.invokevirtual 172, 3) := by decide +kernel
theorem dX11_remember_59 : decode cX11_remember 59 = .ok (.astore 4, 2) := by decide +kernel
theorem dX11_remember_61 : decode cX11_remember 61 = .ok (.aload 4, 2) := by decide +kernel
theorem dX11_remember_63 : decode cX11_remember 63 = .ok (.ifnull 28, 3) := by decide +kernel
theorem dX11_remember_66 : decode cX11_remember 66 = .ok (.aload_n 2, 1) := by decide +kernel
theorem dX11_remember_67 : decode cX11_remember 67 = .ok (.iload_n 3, 1) := by decide +kernel
theorem dX11_remember_68 : decode cX11_remember 68 = .ok (.aload_n 0, 1) := by decide +kernel
theorem dX11_remember_69 : decode cX11_remember 69 = .ok (.getfield 10, 3) := by decide +kernel
theorem dX11_remember_72 : decode cX11_remember 72 = .ok (.getfield 78, 3) := by decide +kernel
theorem dX11_remember_75 : decode cX11_remember 75 = .ok (.getfield 82, 3) := by decide +kernel
theorem dX11_remember_78 : decode cX11_remember 78 = .ok (.bipush 8, 2) := by decide +kernel
theorem dX11_remember_80 : decode cX11_remember 80 = .ok (.aload 4, 2) := by decide +kernel
theorem dX11_remember_82 : decode cX11_remember 82 = .ok (.getfield 161, 3) := by decide +kernel
theorem dX11_remember_85 : decode cX11_remember 85 = .ok (.iadd, 1) := by decide +kernel
theorem dX11_remember_86 : decode cX11_remember 86 = .ok (.iaload, 1) := by decide +kernel
theorem dX11_remember_87 : decode cX11_remember 87 = .ok (.iastore, 1) := by decide +kernel
theorem dX11_remember_88 : decode cX11_remember 88 = .ok (.goto 32, 3) := by decide +kernel
theorem dX11_remember_91 : decode cX11_remember 91 = .ok (.aload_n 0, 1) := by decide +kernel
theorem dX11_remember_92 : decode cX11_remember 92 = .ok (.getfield 10, 3) := by decide +kernel
theorem dX11_remember_95 : decode cX11_remember 95 = .ok (.getfield 133, 3) := by decide +kernel
theorem dX11_remember_98 : decode cX11_remember 98 = .ok (.iload_n 3, 1) := by decide +kernel
theorem dX11_remember_99 : decode cX11_remember 99 = .ok (.invokevirtual 437, 3) := by decide +kernel
theorem dX11_remember_102 : decode cX11_remember 102 = .ok (.ifCond .eq 18, 3) := by decide +kernel
theorem dX11_remember_105 : decode cX11_remember 105 = .ok (.aload_n 2, 1) := by decide +kernel
theorem dX11_remember_106 : decode cX11_remember 106 = .ok (.iload_n 3, 1) := by decide +kernel
theorem dX11_remember_107 : decode cX11_remember 107 = .ok (.aload_n 0, 1) := by decide +kernel
theorem dX11_remember_108 : decode cX11_remember 108 = .ok (.getfield 10, 3) := by decide +kernel
theorem dX11_remember_111 : decode cX11_remember 111 = .ok (.getfield 133, 3) := by decide +kernel
theorem dX11_remember_114 : decode cX11_remember 114 = .ok (.getfield 266, 3) := by decide +kernel
theorem dX11_remember_117 : decode cX11_remember 117 = .ok (.iload_n 3, 1) := by decide +kernel
theorem dX11_remember_118 : decode cX11_remember 118 = .ok (.iaload, 1) := by decide +kernel
theorem dX11_remember_119 : decode cX11_remember 119 = .ok (.iastore, 1) := by decide +kernel
theorem dX11_remember_120 : decode cX11_remember 120 = .ok (.iinc 3 1, 3) := by decide +kernel
theorem dX11_remember_123 : decode cX11_remember 123 = .ok (.goto (-90), 3) := by decide +kernel
theorem dX11_remember_126 : decode cX11_remember 126 = .ok (.return_, 1) := by decide +kernel
theorem dX11_gatherGranted_0 : decode cX11_gatherGranted 0 = .ok (.aload_n 0, 1) := by decide +kernel
theorem dX11_gatherGranted_1 : decode cX11_gatherGranted 1 = .ok (.getfield 42, 3) := by decide +kernel
theorem dX11_gatherGranted_4 : decode cX11_gatherGranted 4 = .ok (.invokevirtual 440, 3) := by decide +kernel
theorem dX11_gatherGranted_7 : decode cX11_gatherGranted 7 = .ok (.iconst 0, 1) := by decide +kernel
theorem dX11_gatherGranted_8 : decode cX11_gatherGranted 8 = .ok (.istore_n 1, 1) := by decide +kernel
theorem dX11_gatherGranted_9 : decode cX11_gatherGranted 9 = .ok (.iload_n 1, 1) := by decide +kernel
theorem dX11_gatherGranted_10 : decode cX11_gatherGranted 10 = .ok (.aload_n 0, 1) := by decide +kernel
theorem dX11_gatherGranted_11 : decode cX11_gatherGranted 11 = .ok (.getfield 10, 3) := by decide +kernel
theorem dX11_gatherGranted_14 : decode cX11_gatherGranted 14 = .ok (.getfield 133, 3) := by decide +kernel
theorem dX11_gatherGranted_17 : decode cX11_gatherGranted 17 = .ok (.getfield 410, 3) := by decide +kernel
theorem dX11_gatherGranted_20 : decode cX11_gatherGranted 20 = .ok (.if_icmp .ge 52, 3) := by decide +kernel
theorem dX11_gatherGranted_23 : decode cX11_gatherGranted 23 = .ok (.aload_n 0, 1) := by decide +kernel
theorem dX11_gatherGranted_24 : decode cX11_gatherGranted 24 = .ok (.getfield 10, 3) := by decide +kernel
theorem dX11_gatherGranted_27 : decode cX11_gatherGranted 27 = .ok (.getfield 133, 3) := by decide +kernel
theorem dX11_gatherGranted_30 : decode cX11_gatherGranted 30 = .ok (.iload_n 1, 1) := by decide +kernel
theorem dX11_gatherGranted_31 : decode cX11_gatherGranted 31 = .ok (.iconst 3, 1) := by decide +kernel
theorem dX11_gatherGranted_32 : decode cX11_gatherGranted 32 = .ok (.invokevirtual 172, 3) := by decide +kernel
theorem dX11_gatherGranted_35 : decode cX11_gatherGranted 35 = .ok (.astore_n 2, 1) := by decide +kernel
theorem dX11_gatherGranted_36 : decode cX11_gatherGranted 36 = .ok (.aload_n 2, 1) := by decide +kernel
theorem dX11_gatherGranted_37 : decode cX11_gatherGranted 37 = .ok (.ifnull 29, 3) := by decide +kernel
theorem dX11_gatherGranted_40 : decode cX11_gatherGranted 40 = .ok (.aload_n 0, 1) := by decide +kernel
theorem dX11_gatherGranted_41 : decode cX11_gatherGranted 41 = .ok (.getfield 10, 3) := by decide +kernel
theorem dX11_gatherGranted_44 : decode cX11_gatherGranted 44 = .ok (.getfield 133, 3) := by decide +kernel
theorem dX11_gatherGranted_47 : decode cX11_gatherGranted 47 = .ok (.iload_n 1, 1) := by decide +kernel
theorem dX11_gatherGranted_48 : decode cX11_gatherGranted 48 = .ok (.invokevirtual 256, 3) := by decide +kernel
theorem dX11_gatherGranted_51 : decode cX11_gatherGranted 51 = .ok (.ifCond .eq 15, 3) := by decide +kernel
theorem dX11_gatherGranted_54 : decode cX11_gatherGranted 54 = .ok (.aload_n 0, 1) := by decide +kernel
theorem dX11_gatherGranted_55 : decode cX11_gatherGranted 55 = .ok (.getfield 42, 3) := by decide +kernel
theorem dX11_gatherGranted_58 : decode cX11_gatherGranted 58 = .ok (.iload_n 1, 1) := by decide +kernel
theorem dX11_gatherGranted_59 : decode cX11_gatherGranted 59 = .ok (.aload_n 2, 1) := by decide +kernel
theorem dX11_gatherGranted_60 : decode cX11_gatherGranted 60 = .ok (.lconst 0, 1) := by decide +kernel
theorem dX11_gatherGranted_61 : decode cX11_gatherGranted 61 = .ok (.iconst 0, 1) := by decide +kernel
theorem dX11_gatherGranted_62 : decode cX11_gatherGranted 62 = .ok (.iconst 0, 1) := by decide +kernel
theorem dX11_gatherGranted_63 : decode cX11_gatherGranted 63 = .ok (.invokevirtual 442, 3) := by decide +kernel
theorem dX11_gatherGranted_66 : decode cX11_gatherGranted 66 = .ok (.iinc 1 1, 3) := by decide +kernel
theorem dX11_gatherGranted_69 : decode cX11_gatherGranted 69 = .ok (.goto (-60), 3) := by decide +kernel
theorem dX11_gatherGranted_72 : decode cX11_gatherGranted 72 = .ok (.return_, 1) := by decide +kernel
theorem dX11_gatherGrantable_0 : decode cX11_gatherGrantable 0 = .ok (.aload_n 0, 1) := by decide +kernel
theorem dX11_gatherGrantable_1 : decode cX11_gatherGrantable 1 = .ok (.getfield 42, 3) := by decide +kernel
theorem dX11_gatherGrantable_4 : decode cX11_gatherGrantable 4 = .ok (.invokevirtual 440, 3) := by decide +kernel
theorem dX11_gatherGrantable_7 : decode cX11_gatherGrantable 7 = .ok (.iconst 0, 1) := by decide +kernel
theorem dX11_gatherGrantable_8 : decode cX11_gatherGrantable 8 = .ok (.istore_n 1, 1) := by decide +kernel
theorem dX11_gatherGrantable_9 : decode cX11_gatherGrantable 9 = .ok (.iload_n 1, 1) := by decide +kernel
theorem dX11_gatherGrantable_10 : decode cX11_gatherGrantable 10 = .ok (.aload_n 0, 1) := by decide +kernel
theorem dX11_gatherGrantable_11 : decode cX11_gatherGrantable 11 = .ok (.getfield 10, 3) := by decide +kernel
theorem dX11_gatherGrantable_14 : decode cX11_gatherGrantable 14 = .ok (.getfield 133, 3) := by decide +kernel
theorem dX11_gatherGrantable_17 : decode cX11_gatherGrantable 17 = .ok (.getfield 410, 3) := by decide +kernel
theorem dX11_gatherGrantable_20 : decode cX11_gatherGrantable 20 = .ok (.if_icmp .ge 129, 3) := by decide +kernel
theorem dX11_gatherGrantable_23 : decode cX11_gatherGrantable 23 = .ok (.aload_n 0, 1) := by decide +kernel
theorem dX11_gatherGrantable_24 : decode cX11_gatherGrantable 24 = .ok (.getfield 42, 3) := by decide +kernel
theorem dX11_gatherGrantable_27 : decode cX11_gatherGrantable 27 = .ok (.getfield 445, 3) := by decide +kernel
theorem dX11_gatherGrantable_30 : decode cX11_gatherGrantable 30 = .ok (.bipush 8, 2) := by decide +kernel
theorem dX11_gatherGrantable_32 : decode cX11_gatherGrantable 32 = .ok (.if_icmp .ge 117, 3) := by decide +kernel
theorem dX11_gatherGrantable_35 : decode cX11_gatherGrantable 35 = .ok (.aload_n 0, 1) := by decide +kernel
theorem dX11_gatherGrantable_36 : decode cX11_gatherGrantable 36 = .ok (.getfield 10, 3) := by decide +kernel
theorem dX11_gatherGrantable_39 : decode cX11_gatherGrantable 39 = .ok (.getfield 133, 3) := by decide +kernel
theorem dX11_gatherGrantable_42 : decode cX11_gatherGrantable 42 = .ok (.iload_n 1, 1) := by decide +kernel
theorem dX11_gatherGrantable_43 : decode cX11_gatherGrantable 43 = .ok (.iconst 3, 1) := by decide +kernel
theorem dX11_gatherGrantable_44 : decode cX11_gatherGrantable 44 = .ok (.invokevirtual 172, 3) := by decide +kernel
theorem dX11_gatherGrantable_47 : decode cX11_gatherGrantable 47 = .ok (.astore_n 2, 1) := by decide +kernel
theorem dX11_gatherGrantable_48 : decode cX11_gatherGrantable 48 = .ok (.aload_n 2, 1) := by decide +kernel
theorem dX11_gatherGrantable_49 : decode cX11_gatherGrantable 49 = .ok (.ifnull 94, 3) := by decide +kernel
theorem dX11_gatherGrantable_52 : decode cX11_gatherGrantable 52 = .ok (.aload_n 0, 1) := by decide +kernel
theorem dX11_gatherGrantable_53 : decode cX11_gatherGrantable 53 = .ok (.getfield 10, 3) := by decide +kernel
theorem dX11_gatherGrantable_56 : decode cX11_gatherGrantable 56 = .ok (.getfield 133, 3) := by decide +kernel
theorem dX11_gatherGrantable_59 : decode cX11_gatherGrantable 59 = .ok (.iload_n 1, 1) := by decide +kernel
theorem dX11_gatherGrantable_60 : decode cX11_gatherGrantable 60 = .ok (.invokevirtual 256, 3) := by decide +kernel
theorem dX11_gatherGrantable_63 : decode cX11_gatherGrantable 63 = .ok (.ifCond .ne 80, 3) := by decide +kernel
theorem dX11_gatherGrantable_66 : decode cX11_gatherGrantable 66 = .ok (.aload_n 0, 1) := by decide +kernel
theorem dX11_gatherGrantable_67 : decode cX11_gatherGrantable 67 = .ok (.getfield 10, 3) := by decide +kernel
theorem dX11_gatherGrantable_70 : decode cX11_gatherGrantable 70 = .ok (.aload_n 2, 1) := by decide +kernel
theorem dX11_gatherGrantable_71 : decode cX11_gatherGrantable 71 = .ok (.aload_n 0, 1) := by decide +kernel
theorem dX11_gatherGrantable_72 : decode cX11_gatherGrantable 72 = .ok (.getfield 10, 3) := by decide +kernel
theorem dX11_gatherGrantable_75 : decode cX11_gatherGrantable 75 = .ok (.getfield 148, 3) := by decide +kernel
theorem dX11_gatherGrantable_78 : decode cX11_gatherGrantable 78 = .ok (.invokevirtual 248, 3) := by decide +kernel
theorem dX11_gatherGrantable_81 : decode cX11_gatherGrantable 81 = .ok (.ifCond .eq 62, 3) := by decide +kernel
theorem dX11_gatherGrantable_84 : decode cX11_gatherGrantable 84 = .ok (.aload_n 0, 1) := by decide +kernel
theorem dX11_gatherGrantable_85 : decode cX11_gatherGrantable 85 = .ok (.getfield 10, 3) := by decide +kernel
theorem dX11_gatherGrantable_88 : decode cX11_gatherGrantable 88 = .ok (.getfield 50, 3) := by decide +kernel
theorem dX11_gatherGrantable_91 : decode cX11_gatherGrantable 91 = .ok (.aload_n 2, 1) := by decide +kernel
theorem dX11_gatherGrantable_92 : decode cX11_gatherGrantable 92 = .ok (.getfield 192, 3) := by decide +kernel
theorem dX11_gatherGrantable_95 : decode cX11_gatherGrantable 95 = .ok (.invokevirtual 198, 3) := by decide +kernel
theorem dX11_gatherGrantable_98 : decode cX11_gatherGrantable 98 = .ok (.istore_n 3, 1) := by decide +kernel
theorem dX11_gatherGrantable_99 : decode cX11_gatherGrantable 99 = .ok (.iconst 2, 1) := by decide +kernel
theorem dX11_gatherGrantable_100 : decode cX11_gatherGrantable 100 = .ok (.iload_n 3, 1) := by decide +kernel
theorem dX11_gatherGrantable_101 : decode cX11_gatherGrantable 101 = .ok (.imul, 1) := by decide +kernel
theorem dX11_gatherGrantable_102 : decode cX11_gatherGrantable 102 = .ok (.aload_n 0, 1) := by decide +kernel
theorem dX11_gatherGrantable_103 : decode cX11_gatherGrantable 103 = .ok (.getfield 10, 3) := by decide +kernel
theorem dX11_gatherGrantable_106 : decode cX11_gatherGrantable 106 = .ok (.getfield 50, 3) := by decide +kernel
theorem dX11_gatherGrantable_109 : decode cX11_gatherGrantable 109 = .ok (.aload_n 2, 1) := by decide +kernel
theorem dX11_gatherGrantable_110 : decode cX11_gatherGrantable 110 = .ok (.getfield 192, 3) := by decide +kernel
theorem dX11_gatherGrantable_113 : decode cX11_gatherGrantable 113 = .ok (.invokevirtual 446, 3) := by decide +kernel
theorem dX11_gatherGrantable_116 : decode cX11_gatherGrantable 116 = .ok (.iadd, 1) := by decide +kernel
theorem dX11_gatherGrantable_117 : decode cX11_gatherGrantable 117 = .ok (.istore 4, 2) := by decide +kernel
theorem dX11_gatherGrantable_119 : decode cX11_gatherGrantable 119 = .ok (.aload_n 0, 1) := by decide +kernel
theorem dX11_gatherGrantable_120 : decode cX11_gatherGrantable 120 = .ok (.getfield 42, 3) := by decide +kernel
theorem dX11_gatherGrantable_123 : decode cX11_gatherGrantable 123 = .ok (.iload_n 1, 1) := by decide +kernel
theorem dX11_gatherGrantable_124 : decode cX11_gatherGrantable 124 = .ok (.aload_n 2, 1) := by decide +kernel
theorem dX11_gatherGrantable_125 : decode cX11_gatherGrantable 125 = .ok (.aload_n 0, 1) := by decide +kernel
theorem dX11_gatherGrantable_126 : decode cX11_gatherGrantable 126 = .ok (.getfield 10, 3) := by decide +kernel
theorem dX11_gatherGrantable_129 : decode cX11_gatherGrantable 129 = .ok (.getfield 133, 3) := by decide +kernel
theorem dX11_gatherGrantable_132 : decode cX11_gatherGrantable 132 = .ok (.getfield 449, 3) := by decide +kernel
theorem dX11_gatherGrantable_135 : decode cX11_gatherGrantable 135 = .ok (.iload_n 1, 1) := by decide +kernel
theorem dX11_gatherGrantable_136 : decode cX11_gatherGrantable 136 = .ok (.laload, 1) := by decide +kernel
theorem dX11_gatherGrantable_137 : decode cX11_gatherGrantable 137 = .ok (.iload_n 3, 1) := by decide +kernel
theorem dX11_gatherGrantable_138 : decode cX11_gatherGrantable 138 = .ok (.iload 4, 2) := by decide +kernel
theorem dX11_gatherGrantable_140 : decode cX11_gatherGrantable 140 = .ok (.invokevirtual 442, 3) := by decide +kernel
theorem dX11_gatherGrantable_143 : decode cX11_gatherGrantable 143 = .ok (.iinc 1 1, 3) := by decide +kernel
theorem dX11_gatherGrantable_146 : decode cX11_gatherGrantable 146 = .ok (.goto (-137), 3) := by decide +kernel
theorem dX11_gatherGrantable_149 : decode cX11_gatherGrantable 149 = .ok (.return_, 1) := by decide +kernel
theorem dX11_triedYards_0 : decode cX11_triedYards 0 = .ok (.aload_n 0, 1) := by decide +kernel
theorem dX11_triedYards_1 : decode cX11_triedYards 1 = .ok (.getfield 10, 3) := by decide +kernel
theorem dX11_triedYards_4 : decode cX11_triedYards 4 = .ok (.getfield 50, 3) := by decide +kernel
theorem dX11_triedYards_7 : decode cX11_triedYards 7 = .ok (.getfield 66, 3) := by decide +kernel
theorem dX11_triedYards_10 : decode cX11_triedYards 10 = .ok (.iconst 2, 1) := by decide +kernel
theorem dX11_triedYards_11 : decode cX11_triedYards 11 = .ok (.if_icmp .lt 36, 3) := by decide +kernel
theorem dX11_triedYards_14 : decode cX11_triedYards 14 = .ok (.aload_n 0, 1) := by decide +kernel
theorem dX11_triedYards_15 : decode cX11_triedYards 15 = .ok (.getfield 28, 3) := by decide +kernel
theorem dX11_triedYards_18 : decode cX11_triedYards 18 = .ok (.aload_n 0, 1) := by decide +kernel
theorem dX11_triedYards_19 : decode cX11_triedYards 19 = .ok (.getfield 10, 3) := by decide +kernel
theorem dX11_triedYards_22 : decode cX11_triedYards 22 = .ok (.iconst 0, 1) := by decide +kernel
theorem dX11_triedYards_23 : decode cX11_triedYards 23 = .ok (.iconst 1, 1) := by decide +kernel
theorem dX11_triedYards_24 : decode cX11_triedYards 24 = .ok (.aload_n 0, 1) := by decide +kernel
theorem dX11_triedYards_25 : decode cX11_triedYards 25 = .ok (.getfield 10, 3) := by decide +kernel
theorem dX11_triedYards_28 : decode cX11_triedYards 28 = .ok (.getfield 148, 3) := by decide +kernel
theorem dX11_triedYards_31 : decode cX11_triedYards 31 = .ok (.invokevirtual 218, 3) := by decide +kernel
theorem dX11_triedYards_34 : decode cX11_triedYards 34 = .ok (.ifCond .eq 13, 3) := by decide +kernel
theorem dX11_triedYards_37 : decode cX11_triedYards 37 = .ok (.aload_n 0, 1) := by decide +kernel
theorem dX11_triedYards_38 : decode cX11_triedYards 38 = .ok (.getfield 28, 3) := by decide +kernel
theorem dX11_triedYards_41 : decode cX11_triedYards 41 = .ok (.getfield 222, 3) := by decide +kernel
theorem dX11_triedYards_44 : decode cX11_triedYards 44 = .ok (.goto 5, 3) := by decide +kernel
theorem dX11_triedYards_47 : decode cX11_triedYards 47 = .ok (.bipush (-5), 2) := by decide +kernel
theorem dX11_triedYards_49 : decode cX11_triedYards 49 = .ok (.ireturn, 1) := by decide +kernel
theorem dX11_triedPapers_0 : decode cX11_triedPapers 0 = .ok (.iconst 0, 1) := by decide +kernel
theorem dX11_triedPapers_1 : decode cX11_triedPapers 1 = .ok (.istore_n 2, 1) := by decide +kernel
theorem dX11_triedPapers_2 : decode cX11_triedPapers 2 = .ok (.iconst 0, 1) := by decide +kernel
theorem dX11_triedPapers_3 : decode cX11_triedPapers 3 = .ok (.istore_n 3, 1) := by decide +kernel
theorem dX11_triedPapers_4 : decode cX11_triedPapers 4 = .ok (.iload_n 3, 1) := by decide +kernel
theorem dX11_triedPapers_5 : decode cX11_triedPapers 5 = .ok (.aload_n 0, 1) := by decide +kernel
theorem dX11_triedPapers_6 : decode cX11_triedPapers 6 = .ok (.getfield 10, 3) := by decide +kernel
theorem dX11_triedPapers_9 : decode cX11_triedPapers 9 = .ok (.getfield 133, 3) := by decide +kernel
theorem dX11_triedPapers_12 : decode cX11_triedPapers 12 = .ok (.getfield 410, 3) := by decide +kernel
theorem dX11_triedPapers_15 : decode cX11_triedPapers 15 = .ok (.if_icmp .ge 73, 3) := by decide +kernel
theorem dX11_triedPapers_18 : decode cX11_triedPapers 18 = .ok (.aload_n 0, 1) := by decide +kernel
theorem dX11_triedPapers_19 : decode cX11_triedPapers 19 = .ok (.getfield 10, 3) := by decide +kernel
theorem dX11_triedPapers_22 : decode cX11_triedPapers 22 = .ok (.getfield 133, 3) := by decide +kernel
theorem dX11_triedPapers_25 : decode cX11_triedPapers 25 = .ok (.iload_n 3, 1) := by decide +kernel
theorem dX11_triedPapers_26 : decode cX11_triedPapers 26 = .ok (.iload_n 1, 1) := by decide +kernel
theorem dX11_triedPapers_27 : decode cX11_triedPapers 27 = .ok (.invokevirtual 172, 3) := by decide +kernel
theorem dX11_triedPapers_30 : decode cX11_triedPapers 30 = .ok (.astore 4, 2) := by decide +kernel
theorem dX11_triedPapers_32 : decode cX11_triedPapers 32 = .ok (.aload 4, 2) := by decide +kernel
theorem dX11_triedPapers_34 : decode cX11_triedPapers 34 = .ok (.ifnonnull 6, 3) := by decide +kernel
theorem dX11_triedPapers_37 : decode cX11_triedPapers 37 = .ok (.goto 45, 3) := by decide +kernel
theorem dX11_triedPapers_40 : decode cX11_triedPapers 40 = .ok (.iload_n 1, 1) := by decide +kernel
theorem dX11_triedPapers_41 : decode cX11_triedPapers 41 = .ok (.iconst 2, 1) := by decide +kernel
theorem dX11_triedPapers_42 : decode cX11_triedPapers 42 = .ok (.if_icmp .ne 18, 3) := by decide +kernel
theorem dX11_triedPapers_45 : decode cX11_triedPapers 45 = .ok (.aload_n 0, 1) := by decide +kernel
theorem dX11_triedPapers_46 : decode cX11_triedPapers 46 = .ok (.getfield 10, 3) := by decide +kernel
theorem dX11_triedPapers_49 : decode cX11_triedPapers 49 = .ok (.aload 4, 2) := by decide +kernel
theorem dX11_triedPapers_51 : decode cX11_triedPapers 51 = .ok (.invokevirtual 453, 3) := by decide +kernel
theorem dX11_triedPapers_54 : decode cX11_triedPapers 54 = .ok (.ifCond .eq 28, 3) := by decide +kernel
theorem dX11_triedPapers_57 : decode cX11_triedPapers 57 = .ok (.goto 22, 3) := by decide +kernel
theorem dX11_triedPapers_60 : decode cX11_triedPapers 60 = .ok (.aload_n 0, 1) := by decide +kernel
theorem dX11_triedPapers_61 : decode cX11_triedPapers 61 = .ok (.getfield 10, 3) := by decide +kernel
theorem dX11_triedPapers_64 : decode cX11_triedPapers 64 = .ok (.aload 4, 2) := by decide +kernel
theorem dX11_triedPapers_66 : decode cX11_triedPapers 66 = .ok (.aload_n 0, 1) := by decide +kernel
theorem dX11_triedPapers_67 : decode cX11_triedPapers 67 = .ok (.getfield 10, 3) := by decide +kernel
theorem dX11_triedPapers_70 : decode cX11_triedPapers 70 = .ok (.getfield 148, 3) := by decide +kernel
theorem dX11_triedPapers_73 : decode cX11_triedPapers 73 = .ok (.invokevirtual 248, 3) := by decide +kernel
theorem dX11_triedPapers_76 : decode cX11_triedPapers 76 = .ok (.ifCond .eq 6, 3) := by decide +kernel
theorem dX11_triedPapers_79 : decode cX11_triedPapers 79 = .ok (.iinc 2 1, 3) := by decide +kernel
theorem dX11_triedPapers_82 : decode cX11_triedPapers 82 = .ok (.iinc 3 1, 3) := by decide +kernel
theorem dX11_triedPapers_85 : decode cX11_triedPapers 85 = .ok (.goto (-81), 3) := by decide +kernel
theorem dX11_triedPapers_88 : decode cX11_triedPapers 88 = .ok (.iload_n 2, 1) := by decide +kernel
theorem dX11_triedPapers_89 : decode cX11_triedPapers 89 = .ok (.ireturn, 1) := by decide +kernel
theorem dX12_init_0 : decode cX12_init 0 = .ok (.aload_n 0, 1) := by decide +kernel
theorem dX12_init_1 : decode cX12_init 1 = .ok (.invokespecial 1, 3) := by decide +kernel
theorem dX12_init_4 : decode cX12_init 4 = .ok (.aload_n 0, 1) := by decide +kernel
theorem dX12_init_5 : decode cX12_init 5 = .ok (.ldc 7, 2) := by decide +kernel
theorem dX12_init_7 : decode cX12_init 7 = .ok (.newarray .int, 2) := by decide +kernel
theorem dX12_init_9 : decode cX12_init 9 = .ok (.putfield 8, 3) := by decide +kernel
theorem dX12_init_12 : decode cX12_init 12 = .ok (.aload_n 0, 1) := by decide +kernel
theorem dX12_init_13 : decode cX12_init 13 = .ok (.ldc 7, 2) := by decide +kernel
theorem dX12_init_15 : decode cX12_init 15 = .ok (.newarray .int, 2) := by decide +kernel
theorem dX12_init_17 : decode cX12_init 17 = .ok (.putfield 14, 3) := by decide +kernel
theorem dX12_init_20 : decode cX12_init 20 = .ok (.aload_n 0, 1) := by decide +kernel
theorem dX12_init_21 : decode cX12_init 21 = .ok (.bipush 6, 2) := by decide +kernel
theorem dX12_init_23 : decode cX12_init 23 = .ok (.newarray .int, 2) := by decide +kernel
theorem dX12_init_25 : decode cX12_init 25 = .ok (.putfield 17, 3) := by decide +kernel
theorem dX12_init_28 : decode cX12_init 28 = .ok (.aload_n 0, 1) := by decide +kernel
theorem dX12_init_29 : decode cX12_init 29 = .ok (.bipush 80, 2) := by decide +kernel
theorem dX12_init_31 : decode cX12_init 31 = .ok (.newarray .int, 2) := by decide +kernel
theorem dX12_init_33 : decode cX12_init 33 = .ok (.putfield 20, 3) := by decide +kernel
theorem dX12_init_36 : decode cX12_init 36 = .ok (.aload_n 0, 1) := by decide +kernel
theorem dX12_init_37 : decode cX12_init 37 = .ok (.bipush 80, 2) := by decide +kernel
theorem dX12_init_39 : decode cX12_init 39 = .ok (.newarray .int, 2) := by decide +kernel
theorem dX12_init_41 : decode cX12_init 41 = .ok (.putfield 23, 3) := by decide +kernel
theorem dX12_init_44 : decode cX12_init 44 = .ok (.aload_n 0, 1) := by decide +kernel
theorem dX12_init_45 : decode cX12_init 45 = .ok (.bipush 7, 2) := by decide +kernel
theorem dX12_init_47 : decode cX12_init 47 = .ok (.newarray .int, 2) := by decide +kernel
theorem dX12_init_49 : decode cX12_init 49 = .ok (.putfield 26, 3) := by decide +kernel
theorem dX12_init_52 : decode cX12_init 52 = .ok (.aload_n 0, 1) := by decide +kernel
theorem dX12_init_53 : decode cX12_init 53 = .ok (.bipush 7, 2) := by decide +kernel
theorem dX12_init_55 : decode cX12_init 55 = .ok (.newarray .int, 2) := by decide +kernel
theorem dX12_init_57 : decode cX12_init 57 = .ok (.putfield 29, 3) := by decide +kernel
theorem dX12_init_60 : decode cX12_init 60 = .ok (.aload_n 0, 1) := by decide +kernel
theorem dX12_init_61 : decode cX12_init 61 = .ok (.sipush 400, 3) := by decide +kernel
theorem dX12_init_64 : decode cX12_init 64 = .ok (.newarray .long, 2) := by decide +kernel
theorem dX12_init_66 : decode cX12_init 66 = .ok (.putfield 32, 3) := by decide +kernel
theorem dX12_init_69 : decode cX12_init 69 = .ok (.aload_n 0, 1) := by decide +kernel
theorem dX12_init_70 : decode cX12_init 70 = .ok (.sipush 400, 3) := by decide +kernel
theorem dX12_init_73 : decode cX12_init 73 = .ok (.newarray .long, 2) := by decide +kernel
theorem dX12_init_75 : decode cX12_init 75 = .ok (.putfield 36, 3) := by decide +kernel
theorem dX12_init_78 : decode cX12_init 78 = .ok (.aload_n 0, 1) := by decide +kernel
theorem dX12_init_79 : decode cX12_init 79 = .ok (.sipush 400, 3) := by decide +kernel
theorem dX12_init_82 : decode cX12_init 82 = .ok (.newarray .long, 2) := by decide +kernel
theorem dX12_init_84 : decode cX12_init 84 = .ok (.putfield 39, 3) := by decide +kernel
theorem dX12_init_87 : decode cX12_init 87 = .ok (.aload_n 0, 1) := by decide +kernel
theorem dX12_init_88 : decode cX12_init 88 = .ok (.bipush 20, 2) := by decide +kernel
theorem dX12_init_90 : decode cX12_init 90 = .ok (.newarray .long, 2) := by decide +kernel
theorem dX12_init_92 : decode cX12_init 92 = .ok (.putfield 42, 3) := by decide +kernel
theorem dX12_init_95 : decode cX12_init 95 = .ok (.aload_n 0, 1) := by decide +kernel
theorem dX12_init_96 : decode cX12_init 96 = .ok (.bipush 20, 2) := by decide +kernel
theorem dX12_init_98 : decode cX12_init 98 = .ok (.newarray .long, 2) := by decide +kernel
theorem dX12_init_100 : decode cX12_init 100 = .ok (.putfield 45, 3) := by decide +kernel
theorem dX12_init_103 : decode cX12_init 103 = .ok (.aload_n 0, 1) := by decide +kernel
theorem dX12_init_104 : decode cX12_init 104 = .ok (.bipush 60, 2) := by decide +kernel
theorem dX12_init_106 : decode cX12_init 106 = .ok (.newarray .int, 2) := by decide +kernel
theorem dX12_init_108 : decode cX12_init 108 = .ok (.putfield 48, 3) := by decide +kernel
theorem dX12_init_111 : decode cX12_init 111 = .ok (.aload_n 0, 1) := by decide +kernel
theorem dX12_init_112 : decode cX12_init 112 = .ok (.bipush 40, 2) := by decide +kernel
theorem dX12_init_114 : decode cX12_init 114 = .ok (.newarray .int, 2) := by decide +kernel
theorem dX12_init_116 : decode cX12_init 116 = .ok (.putfield 51, 3) := by decide +kernel
theorem dX12_init_119 : decode cX12_init 119 = .ok (.iconst 0, 1) := by decide +kernel
theorem dX12_init_120 : decode cX12_init 120 = .ok (.istore_n 1, 1) := by decide +kernel
theorem dX12_init_121 : decode cX12_init 121 = .ok (.iload_n 1, 1) := by decide +kernel
theorem dX12_init_122 : decode cX12_init 122 = .ok (.iconst 4, 1) := by decide +kernel
theorem dX12_init_123 : decode cX12_init 123 = .ok (.if_icmp .ge 20, 3) := by decide +kernel
theorem dX12_init_126 : decode cX12_init 126 = .ok (.aload_n 0, 1) := by decide +kernel
theorem dX12_init_127 : decode cX12_init 127 = .ok (.getfield 8, 3) := by decide +kernel
theorem dX12_init_130 : decode cX12_init 130 = .ok (.sipush 200, 3) := by decide +kernel
theorem dX12_init_133 : decode cX12_init 133 = .ok (.iload_n 1, 1) := by decide +kernel
theorem dX12_init_134 : decode cX12_init 134 = .ok (.iadd, 1) := by decide +kernel
theorem dX12_init_135 : decode cX12_init 135 = .ok (.iconst (-1), 1) := by decide +kernel
theorem dX12_init_136 : decode cX12_init 136 = .ok (.iastore, 1) := by decide +kernel
theorem dX12_init_137 : decode cX12_init 137 = .ok (.iinc 1 1, 3) := by decide +kernel
theorem dX12_init_140 : decode cX12_init 140 = .ok (.goto (-19), 3) := by decide +kernel
theorem dX12_init_143 : decode cX12_init 143 = .ok (.return_, 1) := by decide +kernel
theorem dX12_in_0 : decode cX12_in 0 = .ok (.iload_n 0, 1) := by decide +kernel
theorem dX12_in_1 : decode cX12_in 1 = .ok (.iload_n 1, 1) := by decide +kernel
theorem dX12_in_2 : decode cX12_in 2 = .ok (.if_icmp .lt 12, 3) := by decide +kernel
theorem dX12_in_5 : decode cX12_in 5 = .ok (.iload_n 0, 1) := by decide +kernel
theorem dX12_in_6 : decode cX12_in 6 = .ok (.iload_n 2, 1) := by decide +kernel
theorem dX12_in_7 : decode cX12_in 7 = .ok (.if_icmp .gt 7, 3) := by decide +kernel
theorem dX12_in_10 : decode cX12_in 10 = .ok (.iconst 1, 1) := by decide +kernel
theorem dX12_in_11 : decode cX12_in 11 = .ok (.goto 4, 3) := by decide +kernel
theorem dX12_in_14 : decode cX12_in 14 = .ok (.iconst 0, 1) := by decide +kernel
theorem dX12_in_15 : decode cX12_in 15 = .ok (.ireturn, 1) := by decide +kernel
theorem dX12_isCell_0 : decode cX12_isCell 0 = .ok (.iload_n 0, 1) := by decide +kernel
theorem dX12_isCell_1 : decode cX12_isCell 1 = .ok (.iconst 0, 1) := by decide +kernel
theorem dX12_isCell_2 : decode cX12_isCell 2 = .ok (.bipush 79, 2) := by decide +kernel
theorem dX12_isCell_4 : decode cX12_isCell 4 = .ok (.invokestatic 58, 3) := by decide +kernel
theorem dX12_isCell_7 : decode cX12_isCell 7 = .ok (.ireturn, 1) := by decide +kernel
theorem dX12_isTown_0 : decode cX12_isTown 0 = .ok (.iload_n 1, 1) := by decide +kernel
theorem dX12_isTown_1 : decode cX12_isTown 1 = .ok (.iconst 0, 1) := by decide +kernel
theorem dX12_isTown_2 : decode cX12_isTown 2 = .ok (.aload_n 0, 1) := by decide +kernel
theorem dX12_isTown_3 : decode cX12_isTown 3 = .ok (.getfield 8, 3) := by decide +kernel
theorem dX12_isTown_6 : decode cX12_isTown 6 = .ok (.iconst 1, 1) := by decide +kernel
theorem dX12_isTown_7 : decode cX12_isTown 7 = .ok (.iaload, 1) := by decide +kernel
theorem dX12_isTown_8 : decode cX12_isTown 8 = .ok (.iconst 1, 1) := by decide +kernel
theorem dX12_isTown_9 : decode cX12_isTown 9 = .ok (.isub, 1) := by decide +kernel
theorem dX12_isTown_10 : decode cX12_isTown 10 = .ok (.invokestatic 58, 3) := by decide +kernel
theorem dX12_isTown_13 : decode cX12_isTown 13 = .ok (.ireturn, 1) := by decide +kernel
theorem dX12_isHolder_0 : decode cX12_isHolder 0 = .ok (.iload_n 0, 1) := by decide +kernel
theorem dX12_isHolder_1 : decode cX12_isHolder 1 = .ok (.iconst 0, 1) := by decide +kernel
theorem dX12_isHolder_2 : decode cX12_isHolder 2 = .ok (.bipush 7, 2) := by decide +kernel
theorem dX12_isHolder_4 : decode cX12_isHolder 4 = .ok (.invokestatic 58, 3) := by decide +kernel
theorem dX12_isHolder_7 : decode cX12_isHolder 7 = .ok (.ireturn, 1) := by decide +kernel
theorem dX12_isDay_0 : decode cX12_isDay 0 = .ok (.iload_n 0, 1) := by decide +kernel
theorem dX12_isDay_1 : decode cX12_isDay 1 = .ok (.iconst 0, 1) := by decide +kernel
theorem dX12_isDay_2 : decode cX12_isDay 2 = .ok (.sipush 999, 3) := by decide +kernel
theorem dX12_isDay_5 : decode cX12_isDay 5 = .ok (.invokestatic 58, 3) := by decide +kernel
theorem dX12_isDay_8 : decode cX12_isDay 8 = .ok (.ireturn, 1) := by decide +kernel
theorem dX12_isPaper_0 : decode cX12_isPaper 0 = .ok (.iload_n 1, 1) := by decide +kernel
theorem dX12_isPaper_1 : decode cX12_isPaper 1 = .ok (.iconst 0, 1) := by decide +kernel
theorem dX12_isPaper_2 : decode cX12_isPaper 2 = .ok (.aload_n 0, 1) := by decide +kernel
theorem dX12_isPaper_3 : decode cX12_isPaper 3 = .ok (.getfield 8, 3) := by decide +kernel
theorem dX12_isPaper_6 : decode cX12_isPaper 6 = .ok (.iconst 2, 1) := by decide +kernel
theorem dX12_isPaper_7 : decode cX12_isPaper 7 = .ok (.iaload, 1) := by decide +kernel
theorem dX12_isPaper_8 : decode cX12_isPaper 8 = .ok (.iconst 1, 1) := by decide +kernel
theorem dX12_isPaper_9 : decode cX12_isPaper 9 = .ok (.isub, 1) := by decide +kernel
theorem dX12_isPaper_10 : decode cX12_isPaper 10 = .ok (.invokestatic 58, 3) := by decide +kernel
theorem dX12_isPaper_13 : decode cX12_isPaper 13 = .ok (.ireturn, 1) := by decide +kernel
theorem dX12_isOf_0 : decode cX12_isOf 0 = .ok (.aload_n 0, 1) := by decide +kernel
theorem dX12_isOf_1 : decode cX12_isOf 1 = .ok (.iload_n 1, 1) := by decide +kernel
theorem dX12_isOf_2 : decode cX12_isOf 2 = .ok (.invokevirtual 62, 3) := by decide +kernel
theorem dX12_isOf_5 : decode cX12_isOf 5 = .ok (.ifCond .eq 21, 3) := by decide +kernel
theorem dX12_isOf_8 : decode cX12_isOf 8 = .ok (.aload_n 0, 1) := by decide +kernel
theorem dX12_isOf_9 : decode cX12_isOf 9 = .ok (.getfield 8, 3) := by decide +kernel
theorem dX12_isOf_12 : decode cX12_isOf 12 = .ok (.sipush 370, 3) := by decide +kernel
theorem dX12_isOf_15 : decode cX12_isOf 15 = .ok (.iload_n 1, 1) := by decide +kernel
theorem dX12_isOf_16 : decode cX12_isOf 16 = .ok (.iadd, 1) := by decide +kernel
theorem dX12_isOf_17 : decode cX12_isOf 17 = .ok (.iaload, 1) := by decide +kernel
theorem dX12_isOf_18 : decode cX12_isOf 18 = .ok (.iload_n 2, 1) := by decide +kernel
theorem dX12_isOf_19 : decode cX12_isOf 19 = .ok (.if_icmp .ne 7, 3) := by decide +kernel
theorem dX12_isOf_22 : decode cX12_isOf 22 = .ok (.iconst 1, 1) := by decide +kernel
theorem dX12_isOf_23 : decode cX12_isOf 23 = .ok (.goto 4, 3) := by decide +kernel
theorem dX12_isOf_26 : decode cX12_isOf 26 = .ok (.iconst 0, 1) := by decide +kernel
theorem dX12_isOf_27 : decode cX12_isOf 27 = .ok (.ireturn, 1) := by decide +kernel
theorem dX12_land_0 : decode cX12_land 0 = .ok (.iload_n 1, 1) := by decide +kernel
theorem dX12_land_1 : decode cX12_land 1 = .ok (.invokestatic 66, 3) := by decide +kernel
theorem dX12_land_4 : decode cX12_land 4 = .ok (.ifCond .eq 12, 3) := by decide +kernel
theorem dX12_land_7 : decode cX12_land 7 = .ok (.iload_n 2, 1) := by decide +kernel
theorem dX12_land_8 : decode cX12_land 8 = .ok (.iconst 0, 1) := by decide +kernel
theorem dX12_land_9 : decode cX12_land 9 = .ok (.iconst 1, 1) := by decide +kernel
theorem dX12_land_10 : decode cX12_land 10 = .ok (.invokestatic 58, 3) := by decide +kernel
theorem dX12_land_13 : decode cX12_land 13 = .ok (.ifCond .ne 5, 3) := by decide +kernel
theorem dX12_land_16 : decode cX12_land 16 = .ok (.iconst (-1), 1) := by decide +kernel
theorem dX12_land_17 : decode cX12_land 17 = .ok (.ireturn, 1) := by decide +kernel
theorem dX12_land_18 : decode cX12_land 18 = .ok (.iload_n 3, 1) := by decide +kernel
theorem dX12_land_19 : decode cX12_land 19 = .ok (.iconst 0, 1) := by decide +kernel
theorem dX12_land_20 : decode cX12_land 20 = .ok (.iload_n 2, 1) := by decide +kernel
theorem dX12_land_21 : decode cX12_land 21 = .ok (.ifCond .ne 8, 3) := by decide +kernel
theorem dX12_land_24 : decode cX12_land 24 = .ok (.bipush 99, 2) := by decide +kernel
theorem dX12_land_26 : decode cX12_land 26 = .ok (.goto 4, 3) := by decide +kernel
theorem dX12_land_29 : decode cX12_land 29 = .ok (.iconst 2, 1) := by decide +kernel
theorem dX12_land_30 : decode cX12_land 30 = .ok (.invokestatic 58, 3) := by decide +kernel
theorem dX12_land_33 : decode cX12_land 33 = .ok (.ifCond .ne 6, 3) := by decide +kernel
theorem dX12_land_36 : decode cX12_land 36 = .ok (.bipush (-2), 2) := by decide +kernel
theorem dX12_land_38 : decode cX12_land 38 = .ok (.ireturn, 1) := by decide +kernel
theorem dX12_land_39 : decode cX12_land 39 = .ok (.iload_n 2, 1) := by decide +kernel
theorem dX12_land_40 : decode cX12_land 40 = .ok (.ifCond .ne 10, 3) := by decide +kernel
theorem dX12_land_43 : decode cX12_land 43 = .ok (.bipush 20, 2) := by decide +kernel
theorem dX12_land_45 : decode cX12_land 45 = .ok (.iload_n 1, 1) := by decide +kernel
theorem dX12_land_46 : decode cX12_land 46 = .ok (.iadd, 1) := by decide +kernel
theorem dX12_land_47 : decode cX12_land 47 = .ok (.goto 7, 3) := by decide +kernel
theorem dX12_land_50 : decode cX12_land 50 = .ok (.bipush 100, 2) := by decide +kernel
theorem dX12_land_52 : decode cX12_land 52 = .ok (.iload_n 1, 1) := by decide +kernel
theorem dX12_land_53 : decode cX12_land 53 = .ok (.iadd, 1) := by decide +kernel
theorem dX12_land_54 : decode cX12_land 54 = .ok (.istore 4, 2) := by decide +kernel
theorem dX12_land_56 : decode cX12_land 56 = .ok (.aload_n 0, 1) := by decide +kernel
theorem dX12_land_57 : decode cX12_land 57 = .ok (.getfield 8, 3) := by decide +kernel
theorem dX12_land_60 : decode cX12_land 60 = .ok (.iload 4, 2) := by decide +kernel
theorem dX12_land_62 : decode cX12_land 62 = .ok (.iaload, 1) := by decide +kernel
theorem dX12_land_63 : decode cX12_land 63 = .ok (.istore 5, 2) := by decide +kernel
theorem dX12_land_65 : decode cX12_land 65 = .ok (.aload_n 0, 1) := by decide +kernel
theorem dX12_land_66 : decode cX12_land 66 = .ok (.getfield 8, 3) := by decide +kernel
theorem dX12_land_69 : decode cX12_land 69 = .ok (.iload 4, 2) := by decide +kernel
theorem dX12_land_71 : decode cX12_land 71 = .ok (.iload_n 3, 1) := by decide +kernel
theorem dX12_land_72 : decode cX12_land 72 = .ok (.iastore, 1) := by decide +kernel
theorem dX12_land_73 : decode cX12_land 73 = .ok (.iload 5, 2) := by decide +kernel
theorem dX12_land_75 : decode cX12_land 75 = .ok (.ireturn, 1) := by decide +kernel
theorem dX12_town_0 : decode cX12_town 0 = .ok (.iload_n 1, 1) := by decide +kernel
theorem dX12_town_1 : decode cX12_town 1 = .ok (.invokestatic 66, 3) := by decide +kernel
theorem dX12_town_4 : decode cX12_town 4 = .ok (.ifCond .ne 5, 3) := by decide +kernel
theorem dX12_town_7 : decode cX12_town 7 = .ok (.iconst (-1), 1) := by decide +kernel
theorem dX12_town_8 : decode cX12_town 8 = .ok (.ireturn, 1) := by decide +kernel
theorem dX12_town_9 : decode cX12_town 9 = .ok (.iload_n 2, 1) := by decide +kernel
theorem dX12_town_10 : decode cX12_town 10 = .ok (.iconst 0, 1) := by decide +kernel
theorem dX12_town_11 : decode cX12_town 11 = .ok (.bipush 99, 2) := by decide +kernel
theorem dX12_town_13 : decode cX12_town 13 = .ok (.invokestatic 58, 3) := by decide +kernel
theorem dX12_town_16 : decode cX12_town 16 = .ok (.ifCond .ne 6, 3) := by decide +kernel
theorem dX12_town_19 : decode cX12_town 19 = .ok (.bipush (-2), 2) := by decide +kernel
theorem dX12_town_21 : decode cX12_town 21 = .ok (.ireturn, 1) := by decide +kernel
theorem dX12_town_22 : decode cX12_town 22 = .ok (.iconst 0, 1) := by decide +kernel
theorem dX12_town_23 : decode cX12_town 23 = .ok (.istore_n 3, 1) := by decide +kernel
theorem dX12_town_24 : decode cX12_town 24 = .ok (.iload_n 3, 1) := by decide +kernel
theorem dX12_town_25 : decode cX12_town 25 = .ok (.aload_n 0, 1) := by decide +kernel
theorem dX12_town_26 : decode cX12_town 26 = .ok (.getfield 8, 3) := by decide +kernel
theorem dX12_town_29 : decode cX12_town 29 = .ok (.iconst 1, 1) := by decide +kernel
theorem dX12_town_30 : decode cX12_town 30 = .ok (.iaload, 1) := by decide +kernel
theorem dX12_town_31 : decode cX12_town 31 = .ok (.if_icmp .ge 26, 3) := by decide +kernel
theorem dX12_town_34 : decode cX12_town 34 = .ok (.aload_n 0, 1) := by decide +kernel
theorem dX12_town_35 : decode cX12_town 35 = .ok (.getfield 8, 3) := by decide +kernel
theorem dX12_town_38 : decode cX12_town 38 = .ok (.sipush 180, 3) := by decide +kernel
theorem dX12_town_41 : decode cX12_town 41 = .ok (.iload_n 3, 1) := by decide +kernel
theorem dX12_town_42 : decode cX12_town 42 = .ok (.iadd, 1) := by decide +kernel
theorem dX12_town_43 : decode cX12_town 43 = .ok (.iaload, 1) := by decide +kernel
theorem dX12_town_44 : decode cX12_town 44 = .ok (.iload_n 1, 1) := by decide +kernel
theorem dX12_town_45 : decode cX12_town 45 = .ok (.if_icmp .ne 6, 3) := by decide +kernel
theorem dX12_town_48 : decode cX12_town 48 = .ok (.bipush (-3), 2) := by decide +kernel
theorem dX12_town_50 : decode cX12_town 50 = .ok (.ireturn, 1) := by decide +kernel
theorem dX12_town_51 : decode cX12_town 51 = .ok (.iinc 3 1, 3) := by decide +kernel
theorem dX12_town_54 : decode cX12_town 54 = .ok (.goto (-30), 3) := by decide +kernel
theorem dX12_town_57 : decode cX12_town 57 = .ok (.aload_n 0, 1) := by decide +kernel
theorem dX12_town_58 : decode cX12_town 58 = .ok (.getfield 8, 3) := by decide +kernel
theorem dX12_town_61 : decode cX12_town 61 = .ok (.iconst 1, 1) := by decide +kernel
theorem dX12_town_62 : decode cX12_town 62 = .ok (.iaload, 1) := by decide +kernel
theorem dX12_town_63 : decode cX12_town 63 = .ok (.bipush 6, 2) := by decide +kernel
theorem dX12_town_65 : decode cX12_town 65 = .ok (.if_icmp .ne 6, 3) := by decide +kernel
theorem dX12_town_68 : decode cX12_town 68 = .ok (.bipush (-4), 2) := by decide +kernel
theorem dX12_town_70 : decode cX12_town 70 = .ok (.ireturn, 1) := by decide +kernel
theorem dX12_town_71 : decode cX12_town 71 = .ok (.aload_n 0, 1) := by decide +kernel
theorem dX12_town_72 : decode cX12_town 72 = .ok (.getfield 8, 3) := by decide +kernel
theorem dX12_town_75 : decode cX12_town 75 = .ok (.sipush 180, 3) := by decide +kernel
theorem dX12_town_78 : decode cX12_town 78 = .ok (.aload_n 0, 1) := by decide +kernel
theorem dX12_town_79 : decode cX12_town 79 = .ok (.getfield 8, 3) := by decide +kernel
theorem dX12_town_82 : decode cX12_town 82 = .ok (.iconst 1, 1) := by decide +kernel
theorem dX12_town_83 : decode cX12_town 83 = .ok (.iaload, 1) := by decide +kernel
theorem dX12_town_84 : decode cX12_town 84 = .ok (.iadd, 1) := by decide +kernel
theorem dX12_town_85 : decode cX12_town 85 = .ok (.iload_n 1, 1) := by decide +kernel
theorem dX12_town_86 : decode cX12_town 86 = .ok (.iastore, 1) := by decide +kernel
theorem dX12_town_87 : decode cX12_town 87 = .ok (.aload_n 0, 1) := by decide +kernel
theorem dX12_town_88 : decode cX12_town 88 = .ok (.getfield 8, 3) := by decide +kernel
theorem dX12_town_91 : decode cX12_town 91 = .ok (.sipush 186, 3) := by decide +kernel
theorem dX12_town_94 : decode cX12_town 94 = .ok (.aload_n 0, 1) := by decide +kernel
theorem dX12_town_95 : decode cX12_town 95 = .ok (.getfield 8, 3) := by decide +kernel
theorem dX12_town_98 : decode cX12_town 98 = .ok (.iconst 1, 1) := by decide +kernel
theorem dX12_town_99 : decode cX12_town 99 = .ok (.iaload, 1) := by decide +kernel
theorem dX12_town_100 : decode cX12_town 100 = .ok (.iadd, 1) := by decide +kernel
theorem dX12_town_101 : decode cX12_town 101 = .ok (.iload_n 2, 1) := by decide +kernel
theorem dX12_town_102 : decode cX12_town 102 = .ok (.iastore, 1) := by decide +kernel
theorem dX12_town_103 : decode cX12_town 103 = .ok (.aload_n 0, 1) := by decide +kernel
theorem dX12_town_104 : decode cX12_town 104 = .ok (.getfield 8, 3) := by decide +kernel
theorem dX12_town_107 : decode cX12_town 107 = .ok (.iconst 1, 1) := by decide +kernel
theorem dX12_town_108 : decode cX12_town 108 = .ok (.dup2, 1) := by decide +kernel
theorem dX12_town_109 : decode cX12_town 109 = .ok (.iaload, 1) := by decide +kernel
theorem dX12_town_110 : decode cX12_town 110 = .ok (.iconst 1, 1) := by decide +kernel
theorem dX12_town_111 : decode cX12_town 111 = .ok (.iadd, 1) := by decide +kernel
theorem dX12_town_112 : decode cX12_town 112 = .ok (.iastore, 1) := by decide +kernel
theorem dX12_town_113 : decode cX12_town 113 = .ok (.aload_n 0, 1) := by decide +kernel
theorem dX12_town_114 : decode cX12_town 114 = .ok (.getfield 8, 3) := by decide +kernel
theorem dX12_town_117 : decode cX12_town 117 = .ok (.iconst 1, 1) := by decide +kernel
theorem dX12_town_118 : decode cX12_town 118 = .ok (.iaload, 1) := by decide +kernel
theorem dX12_town_119 : decode cX12_town 119 = .ok (.iconst 1, 1) := by decide +kernel
theorem dX12_town_120 : decode cX12_town 120 = .ok (.isub, 1) := by decide +kernel
theorem dX12_town_121 : decode cX12_town 121 = .ok (.ireturn, 1) := by decide +kernel
theorem dX12_coin_0 : decode cX12_coin 0 = .ok (.iload_n 1, 1) := by decide +kernel
theorem dX12_coin_1 : decode cX12_coin 1 = .ok (.invokestatic 69, 3) := by decide +kernel
theorem dX12_coin_4 : decode cX12_coin 4 = .ok (.ifCond .ne 5, 3) := by decide +kernel
theorem dX12_coin_7 : decode cX12_coin 7 = .ok (.iconst (-1), 1) := by decide +kernel
theorem dX12_coin_8 : decode cX12_coin 8 = .ok (.ireturn, 1) := by decide +kernel
theorem dX12_coin_9 : decode cX12_coin 9 = .ok (.iload_n 2, 1) := by decide +kernel
theorem dX12_coin_10 : decode cX12_coin 10 = .ok (.iconst 0, 1) := by decide +kernel
theorem dX12_coin_11 : decode cX12_coin 11 = .ok (.ldc 72, 2) := by decide +kernel
theorem dX12_coin_13 : decode cX12_coin 13 = .ok (.invokestatic 58, 3) := by decide +kernel
theorem dX12_coin_16 : decode cX12_coin 16 = .ok (.ifCond .ne 6, 3) := by decide +kernel
theorem dX12_coin_19 : decode cX12_coin 19 = .ok (.bipush (-2), 2) := by decide +kernel
theorem dX12_coin_21 : decode cX12_coin 21 = .ok (.ireturn, 1) := by decide +kernel
theorem dX12_coin_22 : decode cX12_coin 22 = .ok (.aload_n 0, 1) := by decide +kernel
theorem dX12_coin_23 : decode cX12_coin 23 = .ok (.getfield 8, 3) := by decide +kernel
theorem dX12_coin_26 : decode cX12_coin 26 = .ok (.sipush 192, 3) := by decide +kernel
theorem dX12_coin_29 : decode cX12_coin 29 = .ok (.iload_n 1, 1) := by decide +kernel
theorem dX12_coin_30 : decode cX12_coin 30 = .ok (.iadd, 1) := by decide +kernel
theorem dX12_coin_31 : decode cX12_coin 31 = .ok (.iaload, 1) := by decide +kernel
theorem dX12_coin_32 : decode cX12_coin 32 = .ok (.istore_n 3, 1) := by decide +kernel
theorem dX12_coin_33 : decode cX12_coin 33 = .ok (.aload_n 0, 1) := by decide +kernel
theorem dX12_coin_34 : decode cX12_coin 34 = .ok (.getfield 8, 3) := by decide +kernel
theorem dX12_coin_37 : decode cX12_coin 37 = .ok (.sipush 192, 3) := by decide +kernel
theorem dX12_coin_40 : decode cX12_coin 40 = .ok (.iload_n 1, 1) := by decide +kernel
theorem dX12_coin_41 : decode cX12_coin 41 = .ok (.iadd, 1) := by decide +kernel
theorem dX12_coin_42 : decode cX12_coin 42 = .ok (.iload_n 2, 1) := by decide +kernel
theorem dX12_coin_43 : decode cX12_coin 43 = .ok (.iastore, 1) := by decide +kernel
theorem dX12_coin_44 : decode cX12_coin 44 = .ok (.iload_n 3, 1) := by decide +kernel
theorem dX12_coin_45 : decode cX12_coin 45 = .ok (.ireturn, 1) := by decide +kernel
theorem dX12_man_0 : decode cX12_man 0 = .ok (.iload_n 1, 1) := by decide +kernel
theorem dX12_man_1 : decode cX12_man 1 = .ok (.iconst 0, 1) := by decide +kernel
theorem dX12_man_2 : decode cX12_man 2 = .ok (.bipush 99, 2) := by decide +kernel
theorem dX12_man_4 : decode cX12_man 4 = .ok (.invokestatic 58, 3) := by decide +kernel
theorem dX12_man_7 : decode cX12_man 7 = .ok (.ifCond .ne 6, 3) := by decide +kernel
theorem dX12_man_10 : decode cX12_man 10 = .ok (.bipush (-2), 2) := by decide +kernel
theorem dX12_man_12 : decode cX12_man 12 = .ok (.ireturn, 1) := by decide +kernel
theorem dX12_man_13 : decode cX12_man 13 = .ok (.aload_n 0, 1) := by decide +kernel
theorem dX12_man_14 : decode cX12_man 14 = .ok (.getfield 8, 3) := by decide +kernel
theorem dX12_man_17 : decode cX12_man 17 = .ok (.iconst 5, 1) := by decide +kernel
theorem dX12_man_18 : decode cX12_man 18 = .ok (.iaload, 1) := by decide +kernel
theorem dX12_man_19 : decode cX12_man 19 = .ok (.istore_n 2, 1) := by decide +kernel
theorem dX12_man_20 : decode cX12_man 20 = .ok (.aload_n 0, 1) := by decide +kernel
theorem dX12_man_21 : decode cX12_man 21 = .ok (.getfield 8, 3) := by decide +kernel
theorem dX12_man_24 : decode cX12_man 24 = .ok (.iconst 5, 1) := by decide +kernel
theorem dX12_man_25 : decode cX12_man 25 = .ok (.iload_n 1, 1) := by decide +kernel
theorem dX12_man_26 : decode cX12_man 26 = .ok (.iastore, 1) := by decide +kernel
theorem dX12_man_27 : decode cX12_man 27 = .ok (.iload_n 2, 1) := by decide +kernel
theorem dX12_man_28 : decode cX12_man 28 = .ok (.ireturn, 1) := by decide +kernel
theorem dX12_feed_0 : decode cX12_feed 0 = .ok (.iload_n 3, 1) := by decide +kernel
theorem dX12_feed_1 : decode cX12_feed 1 = .ok (.iconst 1, 1) := by decide +kernel
theorem dX12_feed_2 : decode cX12_feed 2 = .ok (.bipush 8, 2) := by decide +kernel
theorem dX12_feed_4 : decode cX12_feed 4 = .ok (.invokestatic 58, 3) := by decide +kernel
theorem dX12_feed_7 : decode cX12_feed 7 = .ok (.ifCond .ne 6, 3) := by decide +kernel
theorem dX12_feed_10 : decode cX12_feed 10 = .ok (.bipush (-2), 2) := by decide +kernel
theorem dX12_feed_12 : decode cX12_feed 12 = .ok (.ireturn, 1) := by decide +kernel
theorem dX12_feed_13 : decode cX12_feed 13 = .ok (.aload_n 0, 1) := by decide +kernel
theorem dX12_feed_14 : decode cX12_feed 14 = .ok (.getfield 8, 3) := by decide +kernel
theorem dX12_feed_17 : decode cX12_feed 17 = .ok (.iconst 4, 1) := by decide +kernel
theorem dX12_feed_18 : decode cX12_feed 18 = .ok (.iaload, 1) := by decide +kernel
theorem dX12_feed_19 : decode cX12_feed 19 = .ok (.iload_n 3, 1) := by decide +kernel
theorem dX12_feed_20 : decode cX12_feed 20 = .ok (.iadd, 1) := by decide +kernel
theorem dX12_feed_21 : decode cX12_feed 21 = .ok (.sipush 140, 3) := by decide +kernel
theorem dX12_feed_24 : decode cX12_feed 24 = .ok (.if_icmp .le 6, 3) := by decide +kernel
theorem dX12_feed_27 : decode cX12_feed 27 = .ok (.bipush (-4), 2) := by decide +kernel
theorem dX12_feed_29 : decode cX12_feed 29 = .ok (.ireturn, 1) := by decide +kernel
theorem dX12_feed_30 : decode cX12_feed 30 = .ok (.iload_n 3, 1) := by decide +kernel
theorem dX12_feed_31 : decode cX12_feed 31 = .ok (.iconst 1, 1) := by decide +kernel
theorem dX12_feed_32 : decode cX12_feed 32 = .ok (.isub, 1) := by decide +kernel
theorem dX12_feed_33 : decode cX12_feed 33 = .ok (.istore 4, 2) := by decide +kernel
theorem dX12_feed_35 : decode cX12_feed 35 = .ok (.iload 4, 2) := by decide +kernel
theorem dX12_feed_37 : decode cX12_feed 37 = .ok (.ifCond .lt 46, 3) := by decide +kernel
theorem dX12_feed_40 : decode cX12_feed 40 = .ok (.aload_n 0, 1) := by decide +kernel
theorem dX12_feed_41 : decode cX12_feed 41 = .ok (.getfield 8, 3) := by decide +kernel
theorem dX12_feed_44 : decode cX12_feed 44 = .ok (.sipush 11150, 3) := by decide +kernel
theorem dX12_feed_47 : decode cX12_feed 47 = .ok (.aload_n 0, 1) := by decide +kernel
theorem dX12_feed_48 : decode cX12_feed 48 = .ok (.getfield 8, 3) := by decide +kernel
theorem dX12_feed_51 : decode cX12_feed 51 = .ok (.iconst 4, 1) := by decide +kernel
theorem dX12_feed_52 : decode cX12_feed 52 = .ok (.iaload, 1) := by decide +kernel
theorem dX12_feed_53 : decode cX12_feed 53 = .ok (.iadd, 1) := by decide +kernel
theorem dX12_feed_54 : decode cX12_feed 54 = .ok (.lload_n 1, 1) := by decide +kernel
theorem dX12_feed_55 : decode cX12_feed 55 = .ok (.bipush 8, 2) := by decide +kernel
theorem dX12_feed_57 : decode cX12_feed 57 = .ok (.iload 4, 2) := by decide +kernel
theorem dX12_feed_59 : decode cX12_feed 59 = .ok (.imul, 1) := by decide +kernel
theorem dX12_feed_60 : decode cX12_feed 60 = .ok (.lshr, 1) := by decide +kernel
theorem dX12_feed_61 : decode cX12_feed 61 = .ok (.ldc2_w 73, 3) := by decide +kernel
theorem dX12_feed_64 : decode cX12_feed 64 = .ok (.land, 1) := by decide +kernel
theorem dX12_feed_65 : decode cX12_feed 65 = .ok (.l2i, 1) := by decide +kernel
theorem dX12_feed_66 : decode cX12_feed 66 = .ok (.iastore, 1) := by decide +kernel
theorem dX12_feed_67 : decode cX12_feed 67 = .ok (.aload_n 0, 1) := by decide +kernel
theorem dX12_feed_68 : decode cX12_feed 68 = .ok (.getfield 8, 3) := by decide +kernel
theorem dX12_feed_71 : decode cX12_feed 71 = .ok (.iconst 4, 1) := by decide +kernel
theorem dX12_feed_72 : decode cX12_feed 72 = .ok (.dup2, 1) := by decide +kernel
theorem dX12_feed_73 : decode cX12_feed 73 = .ok (.iaload, 1) := by decide +kernel
theorem dX12_feed_74 : decode cX12_feed 74 = .ok (.iconst 1, 1) := by decide +kernel
theorem dX12_feed_75 : decode cX12_feed 75 = .ok (.iadd, 1) := by decide +kernel
theorem dX12_feed_76 : decode cX12_feed 76 = .ok (.iastore, 1) := by decide +kernel
theorem dX12_feed_77 : decode cX12_feed 77 = .ok (.iinc 4 (-1), 3) := by decide +kernel
theorem dX12_feed_80 : decode cX12_feed 80 = .ok (.goto (-45), 3) := by decide +kernel
theorem dX12_feed_83 : decode cX12_feed 83 = .ok (.aload_n 0, 1) := by decide +kernel
theorem dX12_feed_84 : decode cX12_feed 84 = .ok (.getfield 8, 3) := by decide +kernel
theorem dX12_feed_87 : decode cX12_feed 87 = .ok (.iconst 4, 1) := by decide +kernel
theorem dX12_feed_88 : decode cX12_feed 88 = .ok (.iaload, 1) := by decide +kernel
theorem dX12_feed_89 : decode cX12_feed 89 = .ok (.ireturn, 1) := by decide +kernel
theorem dX12_here_0 : decode cX12_here 0 = .ok (.aload_n 0, 1) := by decide +kernel
theorem dX12_here_1 : decode cX12_here 1 = .ok (.getfield 75, 3) := by decide +kernel
theorem dX12_here_4 : decode cX12_here 4 = .ok (.aload_n 0, 1) := by decide +kernel
theorem dX12_here_5 : decode cX12_here 5 = .ok (.getfield 8, 3) := by decide +kernel
theorem dX12_here_8 : decode cX12_here 8 = .ok (.sipush 9630, 3) := by decide +kernel
theorem dX12_here_11 : decode cX12_here 11 = .ok (.aload_n 0, 1) := by decide +kernel
theorem dX12_here_12 : decode cX12_here 12 = .ok (.getfield 78, 3) := by decide +kernel
theorem dX12_here_15 : decode cX12_here 15 = .ok (.iadd, 1) := by decide +kernel
theorem dX12_here_16 : decode cX12_here 16 = .ok (.iaload, 1) := by decide +kernel
theorem dX12_here_17 : decode cX12_here 17 = .ok (.if_icmp .ge 28, 3) := by decide +kernel
theorem dX12_here_20 : decode cX12_here 20 = .ok (.aload_n 0, 1) := by decide +kernel
theorem dX12_here_21 : decode cX12_here 21 = .ok (.getfield 8, 3) := by decide +kernel
theorem dX12_here_24 : decode cX12_here 24 = .ok (.sipush 9640, 3) := by decide +kernel
theorem dX12_here_27 : decode cX12_here 27 = .ok (.sipush 140, 3) := by decide +kernel
theorem dX12_here_30 : decode cX12_here 30 = .ok (.aload_n 0, 1) := by decide +kernel
theorem dX12_here_31 : decode cX12_here 31 = .ok (.getfield 78, 3) := by decide +kernel
theorem dX12_here_34 : decode cX12_here 34 = .ok (.imul, 1) := by decide +kernel
theorem dX12_here_35 : decode cX12_here 35 = .ok (.iadd, 1) := by decide +kernel
theorem dX12_here_36 : decode cX12_here 36 = .ok (.aload_n 0, 1) := by decide +kernel
theorem dX12_here_37 : decode cX12_here 37 = .ok (.getfield 75, 3) := by decide +kernel
theorem dX12_here_40 : decode cX12_here 40 = .ok (.iadd, 1) := by decide +kernel
theorem dX12_here_41 : decode cX12_here 41 = .ok (.iaload, 1) := by decide +kernel
theorem dX12_here_42 : decode cX12_here 42 = .ok (.goto 4, 3) := by decide +kernel
theorem dX12_here_45 : decode cX12_here 45 = .ok (.iconst (-1), 1) := by decide +kernel
theorem dX12_here_46 : decode cX12_here 46 = .ok (.ireturn, 1) := by decide +kernel
theorem dX12_must_0 : decode cX12_must 0 = .ok (.aload_n 0, 1) := by decide +kernel
theorem dX12_must_1 : decode cX12_must 1 = .ok (.aload_n 0, 1) := by decide +kernel
theorem dX12_must_2 : decode cX12_must 2 = .ok (.getfield 81, 3) := by decide +kernel
theorem dX12_must_5 : decode cX12_must 5 = .ok (.ifCond .ne 11, 3) := by decide +kernel
theorem dX12_must_8 : decode cX12_must 8 = .ok (.aload_n 0, 1) := by decide +kernel
theorem dX12_must_9 : decode cX12_must 9 = .ok (.invokevirtual 85, 3) := by decide +kernel
theorem dX12_must_12 : decode cX12_must 12 = .ok (.iload_n 1, 1) := by decide +kernel
theorem dX12_must_13 : decode cX12_must 13 = .ok (.if_icmp .eq 7, 3) := by decide +kernel
theorem dX12_must_16 : decode cX12_must 16 = .ok (.iconst 1, 1) := by decide +kernel
theorem dX12_must_17 : decode cX12_must 17 = .ok (.goto 4, 3) := by decide +kernel
theorem dX12_must_20 : decode cX12_must 20 = .ok (.iconst 0, 1) := by decide +kernel
theorem dX12_must_21 : decode cX12_must 21 = .ok (.putfield 81, 3) := by decide +kernel
theorem dX12_must_24 : decode cX12_must 24 = .ok (.aload_n 0, 1) := by decide +kernel
theorem dX12_must_25 : decode cX12_must 25 = .ok (.dup, 1) := by decide +kernel
theorem dX12_must_26 : decode cX12_must 26 = .ok (.getfield 75, 3) := by decide +kernel
theorem dX12_must_29 : decode cX12_must 29 = .ok (.aload_n 0, 1) := by decide +kernel
theorem dX12_must_30 : decode cX12_must 30 = .ok (.getfield 81, 3) := by decide +kernel
theorem dX12_must_33 : decode cX12_must 33 = .ok (.ifCond .eq 7, 3) := by decide +kernel
theorem dX12_must_36 : decode cX12_must 36 = .ok (.iconst 0, 1) := by decide +kernel
theorem dX12_must_37 : decode cX12_must 37 = .ok (.goto 4, 3) := by decide +kernel
theorem dX12_must_40 : decode cX12_must 40 = .ok (.iconst 1, 1) := by decide +kernel
theorem dX12_must_41 : decode cX12_must 41 = .ok (.iadd, 1) := by decide +kernel
theorem dX12_must_42 : decode cX12_must 42 = .ok (.putfield 75, 3) := by decide +kernel
theorem dX12_must_45 : decode cX12_must 45 = .ok (.return_, 1) := by decide +kernel
theorem dX12_word_0 : decode cX12_word 0 = .ok (.iload_n 0, 1) := by decide +kernel
theorem dX12_word_1 : decode cX12_word 1 = .ok (.tableswitch 57 0 5 #[39, 42, 45, 48, 51, 54], 39) := by decide +kernel
theorem dX12_word_40 : decode cX12_word 40 = .ok (.ldc 89, 2) := by decide +kernel
theorem dX12_word_42 : decode cX12_word 42 = .ok (.areturn, 1) := by decide +kernel
theorem dX12_word_43 : decode cX12_word 43 = .ok (.ldc 91, 2) := by decide +kernel
theorem dX12_word_45 : decode cX12_word 45 = .ok (.areturn, 1) := by decide +kernel
theorem dX12_word_46 : decode cX12_word 46 = .ok (.ldc 93, 2) := by decide +kernel
theorem dX12_word_48 : decode cX12_word 48 = .ok (.areturn, 1) := by decide +kernel
theorem dX12_word_49 : decode cX12_word 49 = .ok (.ldc 95, 2) := by decide +kernel
theorem dX12_word_51 : decode cX12_word 51 = .ok (.areturn, 1) := by decide +kernel
theorem dX12_word_52 : decode cX12_word 52 = .ok (.ldc 97, 2) := by decide +kernel
theorem dX12_word_54 : decode cX12_word 54 = .ok (.areturn, 1) := by decide +kernel
theorem dX12_word_55 : decode cX12_word 55 = .ok (.ldc 99, 2) := by decide +kernel
theorem dX12_word_57 : decode cX12_word 57 = .ok (.areturn, 1) := by decide +kernel
theorem dX12_word_58 : decode cX12_word 58 = .ok (.ldc 101, 2) := by decide +kernel
theorem dX12_word_60 : decode cX12_word 60 = .ok (.areturn, 1) := by decide +kernel
theorem dX12_oneWord_0 : decode cX12_oneWord 0 = .ok (.bipush 127, 2) := by decide +kernel
theorem dX12_oneWord_2 : decode cX12_oneWord 2 = .ok (.istore_n 1, 1) := by decide +kernel
theorem dX12_oneWord_3 : decode cX12_oneWord 3 = .ok (.iconst 0, 1) := by decide +kernel
theorem dX12_oneWord_4 : decode cX12_oneWord 4 = .ok (.istore_n 2, 1) := by decide +kernel
theorem dX12_oneWord_5 : decode cX12_oneWord 5 = .ok (.iconst 0, 1) := by decide +kernel
theorem dX12_oneWord_6 : decode cX12_oneWord 6 = .ok (.istore_n 3, 1) := by decide +kernel
theorem dX12_oneWord_7 : decode cX12_oneWord 7 = .ok (.iconst 0, 1) := by decide +kernel
theorem dX12_oneWord_8 : decode cX12_oneWord 8 = .ok (.istore 4, 2) := by decide +kernel
theorem dX12_oneWord_10 : decode cX12_oneWord 10 = .ok (.iload 4, 2) := by decide +kernel
theorem dX12_oneWord_12 : decode cX12_oneWord 12 = .ok (.bipush 7, 2) := by decide +kernel
theorem dX12_oneWord_14 : decode cX12_oneWord 14 = .ok (.if_icmp .ge 58, 3) := by decide +kernel
theorem dX12_oneWord_17 : decode cX12_oneWord 17 = .ok (.iload_n 3, 1) := by decide +kernel
theorem dX12_oneWord_18 : decode cX12_oneWord 18 = .ok (.iload_n 1, 1) := by decide +kernel
theorem dX12_oneWord_19 : decode cX12_oneWord 19 = .ok (.iload 4, 2) := by decide +kernel
theorem dX12_oneWord_21 : decode cX12_oneWord 21 = .ok (.ishr, 1) := by decide +kernel
theorem dX12_oneWord_22 : decode cX12_oneWord 22 = .ok (.iconst 1, 1) := by decide +kernel
theorem dX12_oneWord_23 : decode cX12_oneWord 23 = .ok (.iand, 1) := by decide +kernel
theorem dX12_oneWord_24 : decode cX12_oneWord 24 = .ok (.iconst 1, 1) := by decide +kernel
theorem dX12_oneWord_25 : decode cX12_oneWord 25 = .ok (.if_icmp .ne 38, 3) := by decide +kernel
theorem dX12_oneWord_28 : decode cX12_oneWord 28 = .ok (.iload_n 2, 1) := by decide +kernel
theorem dX12_oneWord_29 : decode cX12_oneWord 29 = .ok (.iload 4, 2) := by decide +kernel
theorem dX12_oneWord_31 : decode cX12_oneWord 31 = .ok (.invokestatic 103, 3) := by decide +kernel
theorem dX12_oneWord_34 : decode cX12_oneWord 34 = .ok (.invokevirtual 107, 3) := by decide +kernel
theorem dX12_oneWord_37 : decode cX12_oneWord 37 = .ok (.if_icmp .ge 26, 3) := by decide +kernel
theorem dX12_oneWord_40 : decode cX12_oneWord 40 = .ok (.iload 4, 2) := by decide +kernel
theorem dX12_oneWord_42 : decode cX12_oneWord 42 = .ok (.invokestatic 103, 3) := by decide +kernel
theorem dX12_oneWord_45 : decode cX12_oneWord 45 = .ok (.iload_n 2, 1) := by decide +kernel
theorem dX12_oneWord_46 : decode cX12_oneWord 46 = .ok (.invokevirtual 112, 3) := by decide +kernel
theorem dX12_oneWord_49 : decode cX12_oneWord 49 = .ok (.aload_n 0, 1) := by decide +kernel
theorem dX12_oneWord_50 : decode cX12_oneWord 50 = .ok (.invokevirtual 85, 3) := by decide +kernel
theorem dX12_oneWord_53 : decode cX12_oneWord 53 = .ok (.if_icmp .ne 10, 3) := by decide +kernel
theorem dX12_oneWord_56 : decode cX12_oneWord 56 = .ok (.iconst 1, 1) := by decide +kernel
theorem dX12_oneWord_57 : decode cX12_oneWord 57 = .ok (.iload 4, 2) := by decide +kernel
theorem dX12_oneWord_59 : decode cX12_oneWord 59 = .ok (.ishl, 1) := by decide +kernel
theorem dX12_oneWord_60 : decode cX12_oneWord 60 = .ok (.goto 4, 3) := by decide +kernel
theorem dX12_oneWord_63 : decode cX12_oneWord 63 = .ok (.iconst 0, 1) := by decide +kernel
theorem dX12_oneWord_64 : decode cX12_oneWord 64 = .ok (.ior, 1) := by decide +kernel
theorem dX12_oneWord_65 : decode cX12_oneWord 65 = .ok (.istore_n 3, 1) := by decide +kernel
theorem dX12_oneWord_66 : decode cX12_oneWord 66 = .ok (.iinc 4 1, 3) := by decide +kernel
theorem dX12_oneWord_69 : decode cX12_oneWord 69 = .ok (.goto (-59), 3) := by decide +kernel
theorem dX12_oneWord_72 : decode cX12_oneWord 72 = .ok (.iload_n 3, 1) := by decide +kernel
theorem dX12_oneWord_73 : decode cX12_oneWord 73 = .ok (.ifCond .ne 10, 3) := by decide +kernel
theorem dX12_oneWord_76 : decode cX12_oneWord 76 = .ok (.aload_n 0, 1) := by decide +kernel
theorem dX12_oneWord_77 : decode cX12_oneWord 77 = .ok (.iconst 1, 1) := by decide +kernel
theorem dX12_oneWord_78 : decode cX12_oneWord 78 = .ok (.putfield 81, 3) := by decide +kernel
theorem dX12_oneWord_81 : decode cX12_oneWord 81 = .ok (.iconst 0, 1) := by decide +kernel
theorem dX12_oneWord_82 : decode cX12_oneWord 82 = .ok (.ireturn, 1) := by decide +kernel
theorem dX12_oneWord_83 : decode cX12_oneWord 83 = .ok (.iload_n 3, 1) := by decide +kernel
theorem dX12_oneWord_84 : decode cX12_oneWord 84 = .ok (.istore_n 1, 1) := by decide +kernel
theorem dX12_oneWord_85 : decode cX12_oneWord 85 = .ok (.aload_n 0, 1) := by decide +kernel
theorem dX12_oneWord_86 : decode cX12_oneWord 86 = .ok (.dup, 1) := by decide +kernel
theorem dX12_oneWord_87 : decode cX12_oneWord 87 = .ok (.getfield 75, 3) := by decide +kernel
theorem dX12_oneWord_90 : decode cX12_oneWord 90 = .ok (.iconst 1, 1) := by decide +kernel
theorem dX12_oneWord_91 : decode cX12_oneWord 91 = .ok (.iadd, 1) := by decide +kernel
theorem dX12_oneWord_92 : decode cX12_oneWord 92 = .ok (.putfield 75, 3) := by decide +kernel
theorem dX12_oneWord_95 : decode cX12_oneWord 95 = .ok (.iinc 2 1, 3) := by decide +kernel
theorem dX12_oneWord_98 : decode cX12_oneWord 98 = .ok (.iconst 0, 1) := by decide +kernel
theorem dX12_oneWord_99 : decode cX12_oneWord 99 = .ok (.istore 4, 2) := by decide +kernel
theorem dX12_oneWord_101 : decode cX12_oneWord 101 = .ok (.iload 4, 2) := by decide +kernel
theorem dX12_oneWord_103 : decode cX12_oneWord 103 = .ok (.bipush 7, 2) := by decide +kernel
theorem dX12_oneWord_105 : decode cX12_oneWord 105 = .ok (.if_icmp .ge 32, 3) := by decide +kernel
theorem dX12_oneWord_108 : decode cX12_oneWord 108 = .ok (.iload_n 1, 1) := by decide +kernel
theorem dX12_oneWord_109 : decode cX12_oneWord 109 = .ok (.iconst 1, 1) := by decide +kernel
theorem dX12_oneWord_110 : decode cX12_oneWord 110 = .ok (.iload 4, 2) := by decide +kernel
theorem dX12_oneWord_112 : decode cX12_oneWord 112 = .ok (.ishl, 1) := by decide +kernel
theorem dX12_oneWord_113 : decode cX12_oneWord 113 = .ok (.if_icmp .ne 18, 3) := by decide +kernel
theorem dX12_oneWord_116 : decode cX12_oneWord 116 = .ok (.iload 4, 2) := by decide +kernel
theorem dX12_oneWord_118 : decode cX12_oneWord 118 = .ok (.invokestatic 103, 3) := by decide +kernel
theorem dX12_oneWord_121 : decode cX12_oneWord 121 = .ok (.invokevirtual 107, 3) := by decide +kernel
theorem dX12_oneWord_124 : decode cX12_oneWord 124 = .ok (.iload_n 2, 1) := by decide +kernel
theorem dX12_oneWord_125 : decode cX12_oneWord 125 = .ok (.if_icmp .ne 6, 3) := by decide +kernel
theorem dX12_oneWord_128 : decode cX12_oneWord 128 = .ok (.iload 4, 2) := by decide +kernel
theorem dX12_oneWord_130 : decode cX12_oneWord 130 = .ok (.ireturn, 1) := by decide +kernel
theorem dX12_oneWord_131 : decode cX12_oneWord 131 = .ok (.iinc 4 1, 3) := by decide +kernel
theorem dX12_oneWord_134 : decode cX12_oneWord 134 = .ok (.goto (-33), 3) := by decide +kernel
theorem dX12_oneWord_137 : decode cX12_oneWord 137 = .ok (.goto (-132), 3) := by decide +kernel
theorem dX12_number_0 : decode cX12_number 0 = .ok (.aload_n 0, 1) := by decide +kernel
theorem dX12_number_1 : decode cX12_number 1 = .ok (.aload_n 0, 1) := by decide +kernel
theorem dX12_number_2 : decode cX12_number 2 = .ok (.getfield 81, 3) := by decide +kernel
theorem dX12_number_5 : decode cX12_number 5 = .ok (.ifCond .ne 17, 3) := by decide +kernel
theorem dX12_number_8 : decode cX12_number 8 = .ok (.aload_n 0, 1) := by decide +kernel
theorem dX12_number_9 : decode cX12_number 9 = .ok (.invokevirtual 85, 3) := by decide +kernel
theorem dX12_number_12 : decode cX12_number 12 = .ok (.bipush 48, 2) := by decide +kernel
theorem dX12_number_14 : decode cX12_number 14 = .ok (.bipush 57, 2) := by decide +kernel
theorem dX12_number_16 : decode cX12_number 16 = .ok (.invokestatic 58, 3) := by decide +kernel
theorem dX12_number_19 : decode cX12_number 19 = .ok (.ifCond .ne 7, 3) := by decide +kernel
theorem dX12_number_22 : decode cX12_number 22 = .ok (.iconst 1, 1) := by decide +kernel
theorem dX12_number_23 : decode cX12_number 23 = .ok (.goto 4, 3) := by decide +kernel
theorem dX12_number_26 : decode cX12_number 26 = .ok (.iconst 0, 1) := by decide +kernel
theorem dX12_number_27 : decode cX12_number 27 = .ok (.putfield 81, 3) := by decide +kernel
theorem dX12_number_30 : decode cX12_number 30 = .ok (.iconst 0, 1) := by decide +kernel
theorem dX12_number_31 : decode cX12_number 31 = .ok (.istore_n 1, 1) := by decide +kernel
theorem dX12_number_32 : decode cX12_number 32 = .ok (.iconst 0, 1) := by decide +kernel
theorem dX12_number_33 : decode cX12_number 33 = .ok (.istore_n 2, 1) := by decide +kernel
theorem dX12_number_34 : decode cX12_number 34 = .ok (.iload_n 2, 1) := by decide +kernel
theorem dX12_number_35 : decode cX12_number 35 = .ok (.iconst 3, 1) := by decide +kernel
theorem dX12_number_36 : decode cX12_number 36 = .ok (.if_icmp .ge 61, 3) := by decide +kernel
theorem dX12_number_39 : decode cX12_number 39 = .ok (.aload_n 0, 1) := by decide +kernel
theorem dX12_number_40 : decode cX12_number 40 = .ok (.getfield 81, 3) := by decide +kernel
theorem dX12_number_43 : decode cX12_number 43 = .ok (.ifCond .ne 54, 3) := by decide +kernel
theorem dX12_number_46 : decode cX12_number 46 = .ok (.aload_n 0, 1) := by decide +kernel
theorem dX12_number_47 : decode cX12_number 47 = .ok (.invokevirtual 85, 3) := by decide +kernel
theorem dX12_number_50 : decode cX12_number 50 = .ok (.bipush 48, 2) := by decide +kernel
theorem dX12_number_52 : decode cX12_number 52 = .ok (.bipush 57, 2) := by decide +kernel
theorem dX12_number_54 : decode cX12_number 54 = .ok (.invokestatic 58, 3) := by decide +kernel
theorem dX12_number_57 : decode cX12_number 57 = .ok (.ifCond .eq 40, 3) := by decide +kernel
theorem dX12_number_60 : decode cX12_number 60 = .ok (.iload_n 2, 1) := by decide +kernel
theorem dX12_number_61 : decode cX12_number 61 = .ok (.ifCond .eq 7, 3) := by decide +kernel
theorem dX12_number_64 : decode cX12_number 64 = .ok (.iload_n 1, 1) := by decide +kernel
theorem dX12_number_65 : decode cX12_number 65 = .ok (.ifCond .le 32, 3) := by decide +kernel
theorem dX12_number_68 : decode cX12_number 68 = .ok (.bipush 10, 2) := by decide +kernel
theorem dX12_number_70 : decode cX12_number 70 = .ok (.iload_n 1, 1) := by decide +kernel
theorem dX12_number_71 : decode cX12_number 71 = .ok (.imul, 1) := by decide +kernel
theorem dX12_number_72 : decode cX12_number 72 = .ok (.aload_n 0, 1) := by decide +kernel
theorem dX12_number_73 : decode cX12_number 73 = .ok (.invokevirtual 85, 3) := by decide +kernel
theorem dX12_number_76 : decode cX12_number 76 = .ok (.iadd, 1) := by decide +kernel
theorem dX12_number_77 : decode cX12_number 77 = .ok (.bipush 48, 2) := by decide +kernel
theorem dX12_number_79 : decode cX12_number 79 = .ok (.isub, 1) := by decide +kernel
theorem dX12_number_80 : decode cX12_number 80 = .ok (.istore_n 1, 1) := by decide +kernel
theorem dX12_number_81 : decode cX12_number 81 = .ok (.aload_n 0, 1) := by decide +kernel
theorem dX12_number_82 : decode cX12_number 82 = .ok (.dup, 1) := by decide +kernel
theorem dX12_number_83 : decode cX12_number 83 = .ok (.getfield 75, 3) := by decide +kernel
theorem dX12_number_86 : decode cX12_number 86 = .ok (.iconst 1, 1) := by decide +kernel
theorem dX12_number_87 : decode cX12_number 87 = .ok (.iadd, 1) := by decide +kernel
theorem dX12_number_88 : decode cX12_number 88 = .ok (.putfield 75, 3) := by decide +kernel
theorem dX12_number_91 : decode cX12_number 91 = .ok (.iinc 2 1, 3) := by decide +kernel
theorem dX12_number_94 : decode cX12_number 94 = .ok (.goto (-60), 3) := by decide +kernel
theorem dX12_number_97 : decode cX12_number 97 = .ok (.iload_n 1, 1) := by decide +kernel
theorem dX12_number_98 : decode cX12_number 98 = .ok (.ireturn, 1) := by decide +kernel
theorem dX12_factor_0 : decode cX12_factor 0 = .ok (.aload_n 0, 1) := by decide +kernel
theorem dX12_factor_1 : decode cX12_factor 1 = .ok (.getfield 81, 3) := by decide +kernel
theorem dX12_factor_4 : decode cX12_factor 4 = .ok (.ifCond .eq 5, 3) := by decide +kernel
theorem dX12_factor_7 : decode cX12_factor 7 = .ok (.iconst 0, 1) := by decide +kernel
theorem dX12_factor_8 : decode cX12_factor 8 = .ok (.ireturn, 1) := by decide +kernel
theorem dX12_factor_9 : decode cX12_factor 9 = .ok (.aload_n 0, 1) := by decide +kernel
theorem dX12_factor_10 : decode cX12_factor 10 = .ok (.invokevirtual 85, 3) := by decide +kernel
theorem dX12_factor_13 : decode cX12_factor 13 = .ok (.istore_n 1, 1) := by decide +kernel
theorem dX12_factor_14 : decode cX12_factor 14 = .ok (.iload_n 1, 1) := by decide +kernel
theorem dX12_factor_15 : decode cX12_factor 15 = .ok (.bipush 33, 2) := by decide +kernel
theorem dX12_factor_17 : decode cX12_factor 17 = .ok (.if_icmp .eq 9, 3) := by decide +kernel
theorem dX12_factor_20 : decode cX12_factor 20 = .ok (.iload_n 1, 1) := by decide +kernel
theorem dX12_factor_21 : decode cX12_factor 21 = .ok (.bipush 40, 2) := by decide +kernel
theorem dX12_factor_23 : decode cX12_factor 23 = .ok (.if_icmp .ne 112, 3) := by decide +kernel
theorem dX12_factor_26 : decode cX12_factor 26 = .ok (.aload_n 0, 1) := by decide +kernel
theorem dX12_factor_27 : decode cX12_factor 27 = .ok (.aload_n 0, 1) := by decide +kernel
theorem dX12_factor_28 : decode cX12_factor 28 = .ok (.getfield 116, 3) := by decide +kernel
theorem dX12_factor_31 : decode cX12_factor 31 = .ok (.iconst 5, 1) := by decide +kernel
theorem dX12_factor_32 : decode cX12_factor 32 = .ok (.if_icmp .ne 7, 3) := by decide +kernel
theorem dX12_factor_35 : decode cX12_factor 35 = .ok (.iconst 1, 1) := by decide +kernel
theorem dX12_factor_36 : decode cX12_factor 36 = .ok (.goto 4, 3) := by decide +kernel
theorem dX12_factor_39 : decode cX12_factor 39 = .ok (.iconst 0, 1) := by decide +kernel
theorem dX12_factor_40 : decode cX12_factor 40 = .ok (.putfield 81, 3) := by decide +kernel
theorem dX12_factor_43 : decode cX12_factor 43 = .ok (.aload_n 0, 1) := by decide +kernel
theorem dX12_factor_44 : decode cX12_factor 44 = .ok (.dup, 1) := by decide +kernel
theorem dX12_factor_45 : decode cX12_factor 45 = .ok (.getfield 116, 3) := by decide +kernel
theorem dX12_factor_48 : decode cX12_factor 48 = .ok (.iconst 1, 1) := by decide +kernel
theorem dX12_factor_49 : decode cX12_factor 49 = .ok (.iadd, 1) := by decide +kernel
theorem dX12_factor_50 : decode cX12_factor 50 = .ok (.putfield 116, 3) := by decide +kernel
theorem dX12_factor_53 : decode cX12_factor 53 = .ok (.aload_n 0, 1) := by decide +kernel
theorem dX12_factor_54 : decode cX12_factor 54 = .ok (.dup, 1) := by decide +kernel
theorem dX12_factor_55 : decode cX12_factor 55 = .ok (.getfield 75, 3) := by decide +kernel
theorem dX12_factor_58 : decode cX12_factor 58 = .ok (.aload_n 0, 1) := by decide +kernel
theorem dX12_factor_59 : decode cX12_factor 59 = .ok (.getfield 81, 3) := by decide +kernel
theorem dX12_factor_62 : decode cX12_factor 62 = .ok (.ifCond .eq 7, 3) := by decide +kernel
theorem dX12_factor_65 : decode cX12_factor 65 = .ok (.iconst 0, 1) := by decide +kernel
theorem dX12_factor_66 : decode cX12_factor 66 = .ok (.goto 4, 3) := by decide +kernel
theorem dX12_factor_69 : decode cX12_factor 69 = .ok (.iconst 1, 1) := by decide +kernel
theorem dX12_factor_70 : decode cX12_factor 70 = .ok (.iadd, 1) := by decide +kernel
theorem dX12_factor_71 : decode cX12_factor 71 = .ok (.putfield 75, 3) := by decide +kernel
theorem dX12_factor_74 : decode cX12_factor 74 = .ok (.aload_n 0, 1) := by decide +kernel
theorem dX12_factor_75 : decode cX12_factor 75 = .ok (.getfield 81, 3) := by decide +kernel
theorem dX12_factor_78 : decode cX12_factor 78 = .ok (.ifCond .eq 7, 3) := by decide +kernel
theorem dX12_factor_81 : decode cX12_factor 81 = .ok (.iconst 0, 1) := by decide +kernel
theorem dX12_factor_82 : decode cX12_factor 82 = .ok (.goto 28, 3) := by decide +kernel
theorem dX12_factor_85 : decode cX12_factor 85 = .ok (.iload_n 1, 1) := by decide +kernel
theorem dX12_factor_86 : decode cX12_factor 86 = .ok (.bipush 33, 2) := by decide +kernel
theorem dX12_factor_88 : decode cX12_factor 88 = .ok (.if_icmp .ne 18, 3) := by decide +kernel
theorem dX12_factor_91 : decode cX12_factor 91 = .ok (.aload_n 0, 1) := by decide +kernel
theorem dX12_factor_92 : decode cX12_factor 92 = .ok (.invokevirtual 119, 3) := by decide +kernel
theorem dX12_factor_95 : decode cX12_factor 95 = .ok (.ifCond .ne 7, 3) := by decide +kernel
theorem dX12_factor_98 : decode cX12_factor 98 = .ok (.iconst 1, 1) := by decide +kernel
theorem dX12_factor_99 : decode cX12_factor 99 = .ok (.goto 11, 3) := by decide +kernel
theorem dX12_factor_102 : decode cX12_factor 102 = .ok (.iconst 0, 1) := by decide +kernel
theorem dX12_factor_103 : decode cX12_factor 103 = .ok (.goto 7, 3) := by decide +kernel
theorem dX12_factor_106 : decode cX12_factor 106 = .ok (.aload_n 0, 1) := by decide +kernel
theorem dX12_factor_107 : decode cX12_factor 107 = .ok (.invokevirtual 123, 3) := by decide +kernel
theorem dX12_factor_110 : decode cX12_factor 110 = .ok (.istore_n 2, 1) := by decide +kernel
theorem dX12_factor_111 : decode cX12_factor 111 = .ok (.iload_n 1, 1) := by decide +kernel
theorem dX12_factor_112 : decode cX12_factor 112 = .ok (.bipush 40, 2) := by decide +kernel
theorem dX12_factor_114 : decode cX12_factor 114 = .ok (.if_icmp .ne 9, 3) := by decide +kernel
theorem dX12_factor_117 : decode cX12_factor 117 = .ok (.aload_n 0, 1) := by decide +kernel
theorem dX12_factor_118 : decode cX12_factor 118 = .ok (.bipush 41, 2) := by decide +kernel
theorem dX12_factor_120 : decode cX12_factor 120 = .ok (.invokevirtual 125, 3) := by decide +kernel
theorem dX12_factor_123 : decode cX12_factor 123 = .ok (.aload_n 0, 1) := by decide +kernel
theorem dX12_factor_124 : decode cX12_factor 124 = .ok (.dup, 1) := by decide +kernel
theorem dX12_factor_125 : decode cX12_factor 125 = .ok (.getfield 116, 3) := by decide +kernel
theorem dX12_factor_128 : decode cX12_factor 128 = .ok (.iconst 1, 1) := by decide +kernel
theorem dX12_factor_129 : decode cX12_factor 129 = .ok (.isub, 1) := by decide +kernel
theorem dX12_factor_130 : decode cX12_factor 130 = .ok (.putfield 116, 3) := by decide +kernel
theorem dX12_factor_133 : decode cX12_factor 133 = .ok (.iload_n 2, 1) := by decide +kernel
theorem dX12_factor_134 : decode cX12_factor 134 = .ok (.ireturn, 1) := by decide +kernel
theorem dX12_factor_135 : decode cX12_factor 135 = .ok (.iload_n 1, 1) := by decide +kernel
theorem dX12_factor_136 : decode cX12_factor 136 = .ok (.bipush 103, 2) := by decide +kernel
theorem dX12_factor_138 : decode cX12_factor 138 = .ok (.if_icmp .ne 89, 3) := by decide +kernel
theorem dX12_factor_141 : decode cX12_factor 141 = .ok (.aload_n 0, 1) := by decide +kernel
theorem dX12_factor_142 : decode cX12_factor 142 = .ok (.dup, 1) := by decide +kernel
theorem dX12_factor_143 : decode cX12_factor 143 = .ok (.getfield 75, 3) := by decide +kernel
theorem dX12_factor_146 : decode cX12_factor 146 = .ok (.iconst 1, 1) := by decide +kernel
theorem dX12_factor_147 : decode cX12_factor 147 = .ok (.iadd, 1) := by decide +kernel
theorem dX12_factor_148 : decode cX12_factor 148 = .ok (.putfield 75, 3) := by decide +kernel
theorem dX12_factor_151 : decode cX12_factor 151 = .ok (.aload_n 0, 1) := by decide +kernel
theorem dX12_factor_152 : decode cX12_factor 152 = .ok (.bipush 61, 2) := by decide +kernel
theorem dX12_factor_154 : decode cX12_factor 154 = .ok (.invokevirtual 125, 3) := by decide +kernel
theorem dX12_factor_157 : decode cX12_factor 157 = .ok (.aload_n 0, 1) := by decide +kernel
theorem dX12_factor_158 : decode cX12_factor 158 = .ok (.invokevirtual 85, 3) := by decide +kernel
theorem dX12_factor_161 : decode cX12_factor 161 = .ok (.bipush 48, 2) := by decide +kernel
theorem dX12_factor_163 : decode cX12_factor 163 = .ok (.isub, 1) := by decide +kernel
theorem dX12_factor_164 : decode cX12_factor 164 = .ok (.istore_n 2, 1) := by decide +kernel
theorem dX12_factor_165 : decode cX12_factor 165 = .ok (.aload_n 0, 1) := by decide +kernel
theorem dX12_factor_166 : decode cX12_factor 166 = .ok (.aload_n 0, 1) := by decide +kernel
theorem dX12_factor_167 : decode cX12_factor 167 = .ok (.getfield 81, 3) := by decide +kernel
theorem dX12_factor_170 : decode cX12_factor 170 = .ok (.ifCond .ne 12, 3) := by decide +kernel
theorem dX12_factor_173 : decode cX12_factor 173 = .ok (.iload_n 2, 1) := by decide +kernel
theorem dX12_factor_174 : decode cX12_factor 174 = .ok (.iconst 0, 1) := by decide +kernel
theorem dX12_factor_175 : decode cX12_factor 175 = .ok (.iconst 1, 1) := by decide +kernel
theorem dX12_factor_176 : decode cX12_factor 176 = .ok (.invokestatic 58, 3) := by decide +kernel
theorem dX12_factor_179 : decode cX12_factor 179 = .ok (.ifCond .ne 7, 3) := by decide +kernel
theorem dX12_factor_182 : decode cX12_factor 182 = .ok (.iconst 1, 1) := by decide +kernel
theorem dX12_factor_183 : decode cX12_factor 183 = .ok (.goto 4, 3) := by decide +kernel
theorem dX12_factor_186 : decode cX12_factor 186 = .ok (.iconst 0, 1) := by decide +kernel
theorem dX12_factor_187 : decode cX12_factor 187 = .ok (.putfield 81, 3) := by decide +kernel
theorem dX12_factor_190 : decode cX12_factor 190 = .ok (.aload_n 0, 1) := by decide +kernel
theorem dX12_factor_191 : decode cX12_factor 191 = .ok (.dup, 1) := by decide +kernel
theorem dX12_factor_192 : decode cX12_factor 192 = .ok (.getfield 75, 3) := by decide +kernel
theorem dX12_factor_195 : decode cX12_factor 195 = .ok (.aload_n 0, 1) := by decide +kernel
theorem dX12_factor_196 : decode cX12_factor 196 = .ok (.getfield 81, 3) := by decide +kernel
theorem dX12_factor_199 : decode cX12_factor 199 = .ok (.ifCond .eq 7, 3) := by decide +kernel
theorem dX12_factor_202 : decode cX12_factor 202 = .ok (.iconst 0, 1) := by decide +kernel
theorem dX12_factor_203 : decode cX12_factor 203 = .ok (.goto 4, 3) := by decide +kernel
theorem dX12_factor_206 : decode cX12_factor 206 = .ok (.iconst 1, 1) := by decide +kernel
theorem dX12_factor_207 : decode cX12_factor 207 = .ok (.iadd, 1) := by decide +kernel
theorem dX12_factor_208 : decode cX12_factor 208 = .ok (.putfield 75, 3) := by decide +kernel
theorem dX12_factor_211 : decode cX12_factor 211 = .ok (.aload_n 0, 1) := by decide +kernel
theorem dX12_factor_212 : decode cX12_factor 212 = .ok (.getfield 17, 3) := by decide +kernel
theorem dX12_factor_215 : decode cX12_factor 215 = .ok (.iconst 5, 1) := by decide +kernel
theorem dX12_factor_216 : decode cX12_factor 216 = .ok (.iaload, 1) := by decide +kernel
theorem dX12_factor_217 : decode cX12_factor 217 = .ok (.iload_n 2, 1) := by decide +kernel
theorem dX12_factor_218 : decode cX12_factor 218 = .ok (.if_icmp .ne 7, 3) := by decide +kernel
theorem dX12_factor_221 : decode cX12_factor 221 = .ok (.iconst 1, 1) := by decide +kernel
theorem dX12_factor_222 : decode cX12_factor 222 = .ok (.goto 4, 3) := by decide +kernel
theorem dX12_factor_225 : decode cX12_factor 225 = .ok (.iconst 0, 1) := by decide +kernel
theorem dX12_factor_226 : decode cX12_factor 226 = .ok (.ireturn, 1) := by decide +kernel
theorem dX12_factor_227 : decode cX12_factor 227 = .ok (.iload_n 1, 1) := by decide +kernel
theorem dX12_factor_228 : decode cX12_factor 228 = .ok (.bipush 121, 2) := by decide +kernel
theorem dX12_factor_230 : decode cX12_factor 230 = .ok (.if_icmp .ne 7, 3) := by decide +kernel
theorem dX12_factor_233 : decode cX12_factor 233 = .ok (.iconst 0, 1) := by decide +kernel
theorem dX12_factor_234 : decode cX12_factor 234 = .ok (.goto 44, 3) := by decide +kernel
theorem dX12_factor_237 : decode cX12_factor 237 = .ok (.iload_n 1, 1) := by decide +kernel
theorem dX12_factor_238 : decode cX12_factor 238 = .ok (.bipush 116, 2) := by decide +kernel
theorem dX12_factor_240 : decode cX12_factor 240 = .ok (.if_icmp .ne 7, 3) := by decide +kernel
theorem dX12_factor_243 : decode cX12_factor 243 = .ok (.iconst 1, 1) := by decide +kernel
theorem dX12_factor_244 : decode cX12_factor 244 = .ok (.goto 34, 3) := by decide +kernel
theorem dX12_factor_247 : decode cX12_factor 247 = .ok (.iload_n 1, 1) := by decide +kernel
theorem dX12_factor_248 : decode cX12_factor 248 = .ok (.bipush 119, 2) := by decide +kernel
theorem dX12_factor_250 : decode cX12_factor 250 = .ok (.if_icmp .ne 7, 3) := by decide +kernel
theorem dX12_factor_253 : decode cX12_factor 253 = .ok (.iconst 2, 1) := by decide +kernel
theorem dX12_factor_254 : decode cX12_factor 254 = .ok (.goto 24, 3) := by decide +kernel
theorem dX12_factor_257 : decode cX12_factor 257 = .ok (.iload_n 1, 1) := by decide +kernel
theorem dX12_factor_258 : decode cX12_factor 258 = .ok (.bipush 114, 2) := by decide +kernel
theorem dX12_factor_260 : decode cX12_factor 260 = .ok (.if_icmp .ne 7, 3) := by decide +kernel
theorem dX12_factor_263 : decode cX12_factor 263 = .ok (.iconst 3, 1) := by decide +kernel
theorem dX12_factor_264 : decode cX12_factor 264 = .ok (.goto 14, 3) := by decide +kernel
theorem dX12_factor_267 : decode cX12_factor 267 = .ok (.iload_n 1, 1) := by decide +kernel
theorem dX12_factor_268 : decode cX12_factor 268 = .ok (.bipush 99, 2) := by decide +kernel
theorem dX12_factor_270 : decode cX12_factor 270 = .ok (.if_icmp .ne 7, 3) := by decide +kernel
theorem dX12_factor_273 : decode cX12_factor 273 = .ok (.iconst 4, 1) := by decide +kernel
theorem dX12_factor_274 : decode cX12_factor 274 = .ok (.goto 4, 3) := by decide +kernel
theorem dX12_factor_277 : decode cX12_factor 277 = .ok (.iconst (-1), 1) := by decide +kernel
theorem dX12_factor_278 : decode cX12_factor 278 = .ok (.istore_n 2, 1) := by decide +kernel
theorem dX12_factor_279 : decode cX12_factor 279 = .ok (.aload_n 0, 1) := by decide +kernel
theorem dX12_factor_280 : decode cX12_factor 280 = .ok (.iload_n 2, 1) := by decide +kernel
theorem dX12_factor_281 : decode cX12_factor 281 = .ok (.iconst (-1), 1) := by decide +kernel
theorem dX12_factor_282 : decode cX12_factor 282 = .ok (.if_icmp .ne 7, 3) := by decide +kernel
theorem dX12_factor_285 : decode cX12_factor 285 = .ok (.iconst 1, 1) := by decide +kernel
theorem dX12_factor_286 : decode cX12_factor 286 = .ok (.goto 4, 3) := by decide +kernel
theorem dX12_factor_289 : decode cX12_factor 289 = .ok (.iconst 0, 1) := by decide +kernel
theorem dX12_factor_290 : decode cX12_factor 290 = .ok (.putfield 81, 3) := by decide +kernel
theorem dX12_factor_293 : decode cX12_factor 293 = .ok (.aload_n 0, 1) := by decide +kernel
theorem dX12_factor_294 : decode cX12_factor 294 = .ok (.dup, 1) := by decide +kernel
theorem dX12_factor_295 : decode cX12_factor 295 = .ok (.getfield 75, 3) := by decide +kernel
theorem dX12_factor_298 : decode cX12_factor 298 = .ok (.aload_n 0, 1) := by decide +kernel
theorem dX12_factor_299 : decode cX12_factor 299 = .ok (.getfield 81, 3) := by decide +kernel
theorem dX12_factor_302 : decode cX12_factor 302 = .ok (.ifCond .eq 7, 3) := by decide +kernel
theorem dX12_factor_305 : decode cX12_factor 305 = .ok (.iconst 0, 1) := by decide +kernel
theorem dX12_factor_306 : decode cX12_factor 306 = .ok (.goto 4, 3) := by decide +kernel
theorem dX12_factor_309 : decode cX12_factor 309 = .ok (.iconst 1, 1) := by decide +kernel
theorem dX12_factor_310 : decode cX12_factor 310 = .ok (.iadd, 1) := by decide +kernel
theorem dX12_factor_311 : decode cX12_factor 311 = .ok (.putfield 75, 3) := by decide +kernel
theorem dX12_factor_314 : decode cX12_factor 314 = .ok (.aload_n 0, 1) := by decide +kernel
theorem dX12_factor_315 : decode cX12_factor 315 = .ok (.invokevirtual 85, 3) := by decide +kernel
theorem dX12_factor_318 : decode cX12_factor 318 = .ok (.istore_n 3, 1) := by decide +kernel
theorem dX12_factor_319 : decode cX12_factor 319 = .ok (.aload_n 0, 1) := by decide +kernel
theorem dX12_factor_320 : decode cX12_factor 320 = .ok (.aload_n 0, 1) := by decide +kernel
theorem dX12_factor_321 : decode cX12_factor 321 = .ok (.getfield 81, 3) := by decide +kernel
theorem dX12_factor_324 : decode cX12_factor 324 = .ok (.ifCond .ne 15, 3) := by decide +kernel
theorem dX12_factor_327 : decode cX12_factor 327 = .ok (.iload_n 3, 1) := by decide +kernel
theorem dX12_factor_328 : decode cX12_factor 328 = .ok (.bipush 60, 2) := by decide +kernel
theorem dX12_factor_330 : decode cX12_factor 330 = .ok (.if_icmp .eq 13, 3) := by decide +kernel
theorem dX12_factor_333 : decode cX12_factor 333 = .ok (.iload_n 3, 1) := by decide +kernel
theorem dX12_factor_334 : decode cX12_factor 334 = .ok (.bipush 62, 2) := by decide +kernel
theorem dX12_factor_336 : decode cX12_factor 336 = .ok (.if_icmp .eq 7, 3) := by decide +kernel
theorem dX12_factor_339 : decode cX12_factor 339 = .ok (.iconst 1, 1) := by decide +kernel
theorem dX12_factor_340 : decode cX12_factor 340 = .ok (.goto 4, 3) := by decide +kernel
theorem dX12_factor_343 : decode cX12_factor 343 = .ok (.iconst 0, 1) := by decide +kernel
theorem dX12_factor_344 : decode cX12_factor 344 = .ok (.putfield 81, 3) := by decide +kernel
theorem dX12_factor_347 : decode cX12_factor 347 = .ok (.aload_n 0, 1) := by decide +kernel
theorem dX12_factor_348 : decode cX12_factor 348 = .ok (.dup, 1) := by decide +kernel
theorem dX12_factor_349 : decode cX12_factor 349 = .ok (.getfield 75, 3) := by decide +kernel
theorem dX12_factor_352 : decode cX12_factor 352 = .ok (.aload_n 0, 1) := by decide +kernel
theorem dX12_factor_353 : decode cX12_factor 353 = .ok (.getfield 81, 3) := by decide +kernel
theorem dX12_factor_356 : decode cX12_factor 356 = .ok (.ifCond .eq 7, 3) := by decide +kernel
theorem dX12_factor_359 : decode cX12_factor 359 = .ok (.iconst 0, 1) := by decide +kernel
theorem dX12_factor_360 : decode cX12_factor 360 = .ok (.goto 4, 3) := by decide +kernel
theorem dX12_factor_363 : decode cX12_factor 363 = .ok (.iconst 1, 1) := by decide +kernel
theorem dX12_factor_364 : decode cX12_factor 364 = .ok (.iadd, 1) := by decide +kernel
theorem dX12_factor_365 : decode cX12_factor 365 = .ok (.putfield 75, 3) := by decide +kernel
theorem dX12_factor_368 : decode cX12_factor 368 = .ok (.aload_n 0, 1) := by decide +kernel
theorem dX12_factor_369 : decode cX12_factor 369 = .ok (.invokevirtual 129, 3) := by decide +kernel
theorem dX12_factor_372 : decode cX12_factor 372 = .ok (.istore 4, 2) := by decide +kernel
theorem dX12_factor_374 : decode cX12_factor 374 = .ok (.aload_n 0, 1) := by decide +kernel
theorem dX12_factor_375 : decode cX12_factor 375 = .ok (.getfield 81, 3) := by decide +kernel
theorem dX12_factor_378 : decode cX12_factor 378 = .ok (.ifCond .eq 7, 3) := by decide +kernel
theorem dX12_factor_381 : decode cX12_factor 381 = .ok (.iconst 0, 1) := by decide +kernel
theorem dX12_factor_382 : decode cX12_factor 382 = .ok (.goto 9, 3) := by decide +kernel
theorem dX12_factor_385 : decode cX12_factor 385 = .ok (.aload_n 0, 1) := by decide +kernel
theorem dX12_factor_386 : decode cX12_factor 386 = .ok (.getfield 17, 3) := by decide +kernel
theorem dX12_factor_389 : decode cX12_factor 389 = .ok (.iload_n 2, 1) := by decide +kernel
theorem dX12_factor_390 : decode cX12_factor 390 = .ok (.iaload, 1) := by decide +kernel
theorem dX12_factor_391 : decode cX12_factor 391 = .ok (.istore 5, 2) := by decide +kernel
theorem dX12_factor_393 : decode cX12_factor 393 = .ok (.iload_n 3, 1) := by decide +kernel
theorem dX12_factor_394 : decode cX12_factor 394 = .ok (.bipush 60, 2) := by decide +kernel
theorem dX12_factor_396 : decode cX12_factor 396 = .ok (.if_icmp .ne 18, 3) := by decide +kernel
theorem dX12_factor_399 : decode cX12_factor 399 = .ok (.iload 5, 2) := by decide +kernel
theorem dX12_factor_401 : decode cX12_factor 401 = .ok (.iload 4, 2) := by decide +kernel
theorem dX12_factor_403 : decode cX12_factor 403 = .ok (.if_icmp .ge 7, 3) := by decide +kernel
theorem dX12_factor_406 : decode cX12_factor 406 = .ok (.iconst 1, 1) := by decide +kernel
theorem dX12_factor_407 : decode cX12_factor 407 = .ok (.goto 19, 3) := by decide +kernel
theorem dX12_factor_410 : decode cX12_factor 410 = .ok (.iconst 0, 1) := by decide +kernel
theorem dX12_factor_411 : decode cX12_factor 411 = .ok (.goto 15, 3) := by decide +kernel
theorem dX12_factor_414 : decode cX12_factor 414 = .ok (.iload 5, 2) := by decide +kernel
theorem dX12_factor_416 : decode cX12_factor 416 = .ok (.iload 4, 2) := by decide +kernel
theorem dX12_factor_418 : decode cX12_factor 418 = .ok (.if_icmp .le 7, 3) := by decide +kernel
theorem dX12_factor_421 : decode cX12_factor 421 = .ok (.iconst 1, 1) := by decide +kernel
theorem dX12_factor_422 : decode cX12_factor 422 = .ok (.goto 4, 3) := by decide +kernel
theorem dX12_factor_425 : decode cX12_factor 425 = .ok (.iconst 0, 1) := by decide +kernel
theorem dX12_factor_426 : decode cX12_factor 426 = .ok (.ireturn, 1) := by decide +kernel
theorem dX12_every_0 : decode cX12_every 0 = .ok (.aload_n 0, 1) := by decide +kernel
theorem dX12_every_1 : decode cX12_every 1 = .ok (.invokevirtual 119, 3) := by decide +kernel
theorem dX12_every_4 : decode cX12_every 4 = .ok (.istore_n 1, 1) := by decide +kernel
theorem dX12_every_5 : decode cX12_every 5 = .ok (.aload_n 0, 1) := by decide +kernel
theorem dX12_every_6 : decode cX12_every 6 = .ok (.getfield 81, 3) := by decide +kernel
theorem dX12_every_9 : decode cX12_every 9 = .ok (.ifCond .ne 44, 3) := by decide +kernel
theorem dX12_every_12 : decode cX12_every 12 = .ok (.aload_n 0, 1) := by decide +kernel
theorem dX12_every_13 : decode cX12_every 13 = .ok (.invokevirtual 85, 3) := by decide +kernel
theorem dX12_every_16 : decode cX12_every 16 = .ok (.bipush 38, 2) := by decide +kernel
theorem dX12_every_18 : decode cX12_every 18 = .ok (.if_icmp .ne 35, 3) := by decide +kernel
theorem dX12_every_21 : decode cX12_every 21 = .ok (.aload_n 0, 1) := by decide +kernel
theorem dX12_every_22 : decode cX12_every 22 = .ok (.dup, 1) := by decide +kernel
theorem dX12_every_23 : decode cX12_every 23 = .ok (.getfield 75, 3) := by decide +kernel
theorem dX12_every_26 : decode cX12_every 26 = .ok (.iconst 1, 1) := by decide +kernel
theorem dX12_every_27 : decode cX12_every 27 = .ok (.iadd, 1) := by decide +kernel
theorem dX12_every_28 : decode cX12_every 28 = .ok (.putfield 75, 3) := by decide +kernel
theorem dX12_every_31 : decode cX12_every 31 = .ok (.aload_n 0, 1) := by decide +kernel
theorem dX12_every_32 : decode cX12_every 32 = .ok (.invokevirtual 119, 3) := by decide +kernel
theorem dX12_every_35 : decode cX12_every 35 = .ok (.istore_n 2, 1) := by decide +kernel
theorem dX12_every_36 : decode cX12_every 36 = .ok (.iload_n 1, 1) := by decide +kernel
theorem dX12_every_37 : decode cX12_every 37 = .ok (.ifCond .eq 11, 3) := by decide +kernel
theorem dX12_every_40 : decode cX12_every 40 = .ok (.iload_n 2, 1) := by decide +kernel
theorem dX12_every_41 : decode cX12_every 41 = .ok (.ifCond .eq 7, 3) := by decide +kernel
theorem dX12_every_44 : decode cX12_every 44 = .ok (.iconst 1, 1) := by decide +kernel
theorem dX12_every_45 : decode cX12_every 45 = .ok (.goto 4, 3) := by decide +kernel
theorem dX12_every_48 : decode cX12_every 48 = .ok (.iconst 0, 1) := by decide +kernel
theorem dX12_every_49 : decode cX12_every 49 = .ok (.istore_n 1, 1) := by decide +kernel
theorem dX12_every_50 : decode cX12_every 50 = .ok (.goto (-45), 3) := by decide +kernel
theorem dX12_every_53 : decode cX12_every 53 = .ok (.iload_n 1, 1) := by decide +kernel
theorem dX12_every_54 : decode cX12_every 54 = .ok (.ireturn, 1) := by decide +kernel
theorem dX12_some_0 : decode cX12_some 0 = .ok (.aload_n 0, 1) := by decide +kernel
theorem dX12_some_1 : decode cX12_some 1 = .ok (.invokevirtual 132, 3) := by decide +kernel
theorem dX12_some_4 : decode cX12_some 4 = .ok (.istore_n 1, 1) := by decide +kernel
theorem dX12_some_5 : decode cX12_some 5 = .ok (.aload_n 0, 1) := by decide +kernel
theorem dX12_some_6 : decode cX12_some 6 = .ok (.getfield 81, 3) := by decide +kernel
theorem dX12_some_9 : decode cX12_some 9 = .ok (.ifCond .ne 44, 3) := by decide +kernel
theorem dX12_some_12 : decode cX12_some 12 = .ok (.aload_n 0, 1) := by decide +kernel
theorem dX12_some_13 : decode cX12_some 13 = .ok (.invokevirtual 85, 3) := by decide +kernel
theorem dX12_some_16 : decode cX12_some 16 = .ok (.bipush 124, 2) := by decide +kernel
theorem dX12_some_18 : decode cX12_some 18 = .ok (.if_icmp .ne 35, 3) := by decide +kernel
theorem dX12_some_21 : decode cX12_some 21 = .ok (.aload_n 0, 1) := by decide +kernel
theorem dX12_some_22 : decode cX12_some 22 = .ok (.dup, 1) := by decide +kernel
theorem dX12_some_23 : decode cX12_some 23 = .ok (.getfield 75, 3) := by decide +kernel
theorem dX12_some_26 : decode cX12_some 26 = .ok (.iconst 1, 1) := by decide +kernel
theorem dX12_some_27 : decode cX12_some 27 = .ok (.iadd, 1) := by decide +kernel
theorem dX12_some_28 : decode cX12_some 28 = .ok (.putfield 75, 3) := by decide +kernel
theorem dX12_some_31 : decode cX12_some 31 = .ok (.aload_n 0, 1) := by decide +kernel
theorem dX12_some_32 : decode cX12_some 32 = .ok (.invokevirtual 132, 3) := by decide +kernel
theorem dX12_some_35 : decode cX12_some 35 = .ok (.istore_n 2, 1) := by decide +kernel
theorem dX12_some_36 : decode cX12_some 36 = .ok (.iload_n 1, 1) := by decide +kernel
theorem dX12_some_37 : decode cX12_some 37 = .ok (.ifCond .ne 7, 3) := by decide +kernel
theorem dX12_some_40 : decode cX12_some 40 = .ok (.iload_n 2, 1) := by decide +kernel
theorem dX12_some_41 : decode cX12_some 41 = .ok (.ifCond .eq 7, 3) := by decide +kernel
theorem dX12_some_44 : decode cX12_some 44 = .ok (.iconst 1, 1) := by decide +kernel
theorem dX12_some_45 : decode cX12_some 45 = .ok (.goto 4, 3) := by decide +kernel
theorem dX12_some_48 : decode cX12_some 48 = .ok (.iconst 0, 1) := by decide +kernel
theorem dX12_some_49 : decode cX12_some 49 = .ok (.istore_n 1, 1) := by decide +kernel
theorem dX12_some_50 : decode cX12_some 50 = .ok (.goto (-45), 3) := by decide +kernel
theorem dX12_some_53 : decode cX12_some 53 = .ok (.iload_n 1, 1) := by decide +kernel
theorem dX12_some_54 : decode cX12_some 54 = .ok (.ireturn, 1) := by decide +kernel
theorem dX12_reads_0 : decode cX12_reads 0 = .ok (.bipush 8, 2) := by decide +kernel
theorem dX12_reads_2 : decode cX12_reads 2 = .ok (.iload_n 1, 1) := by decide +kernel
theorem dX12_reads_3 : decode cX12_reads 3 = .ok (.imul, 1) := by decide +kernel
theorem dX12_reads_4 : decode cX12_reads 4 = .ok (.aload_n 0, 1) := by decide +kernel
theorem dX12_reads_5 : decode cX12_reads 5 = .ok (.getfield 8, 3) := by decide +kernel
theorem dX12_reads_8 : decode cX12_reads 8 = .ok (.sipush 10900, 3) := by decide +kernel
theorem dX12_reads_11 : decode cX12_reads 11 = .ok (.iload_n 1, 1) := by decide +kernel
theorem dX12_reads_12 : decode cX12_reads 12 = .ok (.iadd, 1) := by decide +kernel
theorem dX12_reads_13 : decode cX12_reads 13 = .ok (.iaload, 1) := by decide +kernel
theorem dX12_reads_14 : decode cX12_reads 14 = .ok (.iadd, 1) := by decide +kernel
theorem dX12_reads_15 : decode cX12_reads 15 = .ok (.istore_n 2, 1) := by decide +kernel
theorem dX12_reads_16 : decode cX12_reads 16 = .ok (.aload_n 0, 1) := by decide +kernel
theorem dX12_reads_17 : decode cX12_reads 17 = .ok (.invokevirtual 135, 3) := by decide +kernel
theorem dX12_reads_20 : decode cX12_reads 20 = .ok (.istore_n 3, 1) := by decide +kernel
theorem dX12_reads_21 : decode cX12_reads 21 = .ok (.aload_n 0, 1) := by decide +kernel
theorem dX12_reads_22 : decode cX12_reads 22 = .ok (.getfield 81, 3) := by decide +kernel
theorem dX12_reads_25 : decode cX12_reads 25 = .ok (.ifCond .eq 4, 3) := by decide +kernel
theorem dX12_reads_28 : decode cX12_reads 28 = .ok (.return_, 1) := by decide +kernel
theorem dX12_reads_29 : decode cX12_reads 29 = .ok (.aload_n 0, 1) := by decide +kernel
theorem dX12_reads_30 : decode cX12_reads 30 = .ok (.getfield 8, 3) := by decide +kernel
theorem dX12_reads_33 : decode cX12_reads 33 = .ok (.sipush 10910, 3) := by decide +kernel
theorem dX12_reads_36 : decode cX12_reads 36 = .ok (.iload_n 2, 1) := by decide +kernel
theorem dX12_reads_37 : decode cX12_reads 37 = .ok (.iadd, 1) := by decide +kernel
theorem dX12_reads_38 : decode cX12_reads 38 = .ok (.iload_n 3, 1) := by decide +kernel
theorem dX12_reads_39 : decode cX12_reads 39 = .ok (.iastore, 1) := by decide +kernel
theorem dX12_reads_40 : decode cX12_reads 40 = .ok (.aload_n 0, 1) := by decide +kernel
theorem dX12_reads_41 : decode cX12_reads 41 = .ok (.getfield 8, 3) := by decide +kernel
theorem dX12_reads_44 : decode cX12_reads 44 = .ok (.sipush 11070, 3) := by decide +kernel
theorem dX12_reads_47 : decode cX12_reads 47 = .ok (.iload_n 2, 1) := by decide +kernel
theorem dX12_reads_48 : decode cX12_reads 48 = .ok (.iadd, 1) := by decide +kernel
theorem dX12_reads_49 : decode cX12_reads 49 = .ok (.aload_n 0, 1) := by decide +kernel
theorem dX12_reads_50 : decode cX12_reads 50 = .ok (.getfield 75, 3) := by decide +kernel
theorem dX12_reads_53 : decode cX12_reads 53 = .ok (.iastore, 1) := by decide +kernel
theorem dX12_reads_54 : decode cX12_reads 54 = .ok (.iload_n 3, 1) := by decide +kernel
theorem dX12_reads_55 : decode cX12_reads 55 = .ok (.iconst 5, 1) := by decide +kernel
theorem dX12_reads_56 : decode cX12_reads 56 = .ok (.if_icmp .ne 78, 3) := by decide +kernel
theorem dX12_reads_59 : decode cX12_reads 59 = .ok (.aload_n 0, 1) := by decide +kernel
theorem dX12_reads_60 : decode cX12_reads 60 = .ok (.invokevirtual 85, 3) := by decide +kernel
theorem dX12_reads_63 : decode cX12_reads 63 = .ok (.istore 4, 2) := by decide +kernel
theorem dX12_reads_65 : decode cX12_reads 65 = .ok (.aload_n 0, 1) := by decide +kernel
theorem dX12_reads_66 : decode cX12_reads 66 = .ok (.iload 4, 2) := by decide +kernel
theorem dX12_reads_68 : decode cX12_reads 68 = .ok (.bipush 121, 2) := by decide +kernel
theorem dX12_reads_70 : decode cX12_reads 70 = .ok (.if_icmp .eq 14, 3) := by decide +kernel
theorem dX12_reads_73 : decode cX12_reads 73 = .ok (.iload 4, 2) := by decide +kernel
theorem dX12_reads_75 : decode cX12_reads 75 = .ok (.bipush 110, 2) := by decide +kernel
theorem dX12_reads_77 : decode cX12_reads 77 = .ok (.if_icmp .eq 7, 3) := by decide +kernel
theorem dX12_reads_80 : decode cX12_reads 80 = .ok (.iconst 1, 1) := by decide +kernel
theorem dX12_reads_81 : decode cX12_reads 81 = .ok (.goto 4, 3) := by decide +kernel
theorem dX12_reads_84 : decode cX12_reads 84 = .ok (.iconst 0, 1) := by decide +kernel
theorem dX12_reads_85 : decode cX12_reads 85 = .ok (.putfield 81, 3) := by decide +kernel
theorem dX12_reads_88 : decode cX12_reads 88 = .ok (.aload_n 0, 1) := by decide +kernel
theorem dX12_reads_89 : decode cX12_reads 89 = .ok (.dup, 1) := by decide +kernel
theorem dX12_reads_90 : decode cX12_reads 90 = .ok (.getfield 75, 3) := by decide +kernel
theorem dX12_reads_93 : decode cX12_reads 93 = .ok (.aload_n 0, 1) := by decide +kernel
theorem dX12_reads_94 : decode cX12_reads 94 = .ok (.getfield 81, 3) := by decide +kernel
theorem dX12_reads_97 : decode cX12_reads 97 = .ok (.ifCond .eq 7, 3) := by decide +kernel
theorem dX12_reads_100 : decode cX12_reads 100 = .ok (.iconst 0, 1) := by decide +kernel
theorem dX12_reads_101 : decode cX12_reads 101 = .ok (.goto 4, 3) := by decide +kernel
theorem dX12_reads_104 : decode cX12_reads 104 = .ok (.iconst 1, 1) := by decide +kernel
theorem dX12_reads_105 : decode cX12_reads 105 = .ok (.iadd, 1) := by decide +kernel
theorem dX12_reads_106 : decode cX12_reads 106 = .ok (.putfield 75, 3) := by decide +kernel
theorem dX12_reads_109 : decode cX12_reads 109 = .ok (.aload_n 0, 1) := by decide +kernel
theorem dX12_reads_110 : decode cX12_reads 110 = .ok (.getfield 8, 3) := by decide +kernel
theorem dX12_reads_113 : decode cX12_reads 113 = .ok (.sipush 10990, 3) := by decide +kernel
theorem dX12_reads_116 : decode cX12_reads 116 = .ok (.iload_n 2, 1) := by decide +kernel
theorem dX12_reads_117 : decode cX12_reads 117 = .ok (.iadd, 1) := by decide +kernel
theorem dX12_reads_118 : decode cX12_reads 118 = .ok (.iload 4, 2) := by decide +kernel
theorem dX12_reads_120 : decode cX12_reads 120 = .ok (.bipush 121, 2) := by decide +kernel
theorem dX12_reads_122 : decode cX12_reads 122 = .ok (.if_icmp .ne 7, 3) := by decide +kernel
theorem dX12_reads_125 : decode cX12_reads 125 = .ok (.iconst 1, 1) := by decide +kernel
theorem dX12_reads_126 : decode cX12_reads 126 = .ok (.goto 4, 3) := by decide +kernel
theorem dX12_reads_129 : decode cX12_reads 129 = .ok (.iconst 0, 1) := by decide +kernel
theorem dX12_reads_130 : decode cX12_reads 130 = .ok (.iastore, 1) := by decide +kernel
theorem dX12_reads_131 : decode cX12_reads 131 = .ok (.goto 43, 3) := by decide +kernel
theorem dX12_reads_134 : decode cX12_reads 134 = .ok (.iload_n 3, 1) := by decide +kernel
theorem dX12_reads_135 : decode cX12_reads 135 = .ok (.bipush 6, 2) := by decide +kernel
theorem dX12_reads_137 : decode cX12_reads 137 = .ok (.if_icmp .ne 23, 3) := by decide +kernel
theorem dX12_reads_140 : decode cX12_reads 140 = .ok (.aload_n 0, 1) := by decide +kernel
theorem dX12_reads_141 : decode cX12_reads 141 = .ok (.invokevirtual 123, 3) := by decide +kernel
theorem dX12_reads_144 : decode cX12_reads 144 = .ok (.istore 4, 2) := by decide +kernel
theorem dX12_reads_146 : decode cX12_reads 146 = .ok (.aload_n 0, 1) := by decide +kernel
theorem dX12_reads_147 : decode cX12_reads 147 = .ok (.getfield 8, 3) := by decide +kernel
theorem dX12_reads_150 : decode cX12_reads 150 = .ok (.sipush 10990, 3) := by decide +kernel
theorem dX12_reads_153 : decode cX12_reads 153 = .ok (.iload_n 2, 1) := by decide +kernel
theorem dX12_reads_154 : decode cX12_reads 154 = .ok (.iadd, 1) := by decide +kernel
theorem dX12_reads_155 : decode cX12_reads 155 = .ok (.iconst 1, 1) := by decide +kernel
theorem dX12_reads_156 : decode cX12_reads 156 = .ok (.iastore, 1) := by decide +kernel
theorem dX12_reads_157 : decode cX12_reads 157 = .ok (.goto 17, 3) := by decide +kernel
theorem dX12_reads_160 : decode cX12_reads 160 = .ok (.aload_n 0, 1) := by decide +kernel
theorem dX12_reads_161 : decode cX12_reads 161 = .ok (.getfield 8, 3) := by decide +kernel
theorem dX12_reads_164 : decode cX12_reads 164 = .ok (.sipush 10990, 3) := by decide +kernel
theorem dX12_reads_167 : decode cX12_reads 167 = .ok (.iload_n 2, 1) := by decide +kernel
theorem dX12_reads_168 : decode cX12_reads 168 = .ok (.iadd, 1) := by decide +kernel
theorem dX12_reads_169 : decode cX12_reads 169 = .ok (.aload_n 0, 1) := by decide +kernel
theorem dX12_reads_170 : decode cX12_reads 170 = .ok (.invokevirtual 129, 3) := by decide +kernel
theorem dX12_reads_173 : decode cX12_reads 173 = .ok (.iastore, 1) := by decide +kernel
theorem dX12_reads_174 : decode cX12_reads 174 = .ok (.aload_n 0, 1) := by decide +kernel
theorem dX12_reads_175 : decode cX12_reads 175 = .ok (.getfield 8, 3) := by decide +kernel
theorem dX12_reads_178 : decode cX12_reads 178 = .ok (.sipush 10900, 3) := by decide +kernel
theorem dX12_reads_181 : decode cX12_reads 181 = .ok (.iload_n 1, 1) := by decide +kernel
theorem dX12_reads_182 : decode cX12_reads 182 = .ok (.iadd, 1) := by decide +kernel
theorem dX12_reads_183 : decode cX12_reads 183 = .ok (.dup2, 1) := by decide +kernel
theorem dX12_reads_184 : decode cX12_reads 184 = .ok (.iaload, 1) := by decide +kernel
theorem dX12_reads_185 : decode cX12_reads 185 = .ok (.iconst 1, 1) := by decide +kernel
theorem dX12_reads_186 : decode cX12_reads 186 = .ok (.iadd, 1) := by decide +kernel
theorem dX12_reads_187 : decode cX12_reads 187 = .ok (.iastore, 1) := by decide +kernel
theorem dX12_reads_188 : decode cX12_reads 188 = .ok (.return_, 1) := by decide +kernel
theorem dX12_readsOrder_0 : decode cX12_readsOrder 0 = .ok (.aload_n 0, 1) := by decide +kernel
theorem dX12_readsOrder_1 : decode cX12_readsOrder 1 = .ok (.getfield 8, 3) := by decide +kernel
theorem dX12_readsOrder_4 : decode cX12_readsOrder 4 = .ok (.sipush 9620, 3) := by decide +kernel
theorem dX12_readsOrder_7 : decode cX12_readsOrder 7 = .ok (.iload_n 1, 1) := by decide +kernel
theorem dX12_readsOrder_8 : decode cX12_readsOrder 8 = .ok (.iadd, 1) := by decide +kernel
theorem dX12_readsOrder_9 : decode cX12_readsOrder 9 = .ok (.iload_n 2, 1) := by decide +kernel
theorem dX12_readsOrder_10 : decode cX12_readsOrder 10 = .ok (.iastore, 1) := by decide +kernel
theorem dX12_readsOrder_11 : decode cX12_readsOrder 11 = .ok (.aload_n 0, 1) := by decide +kernel
theorem dX12_readsOrder_12 : decode cX12_readsOrder 12 = .ok (.getfield 8, 3) := by decide +kernel
theorem dX12_readsOrder_15 : decode cX12_readsOrder 15 = .ok (.sipush 9630, 3) := by decide +kernel
theorem dX12_readsOrder_18 : decode cX12_readsOrder 18 = .ok (.iload_n 1, 1) := by decide +kernel
theorem dX12_readsOrder_19 : decode cX12_readsOrder 19 = .ok (.iadd, 1) := by decide +kernel
theorem dX12_readsOrder_20 : decode cX12_readsOrder 20 = .ok (.aload_n 0, 1) := by decide +kernel
theorem dX12_readsOrder_21 : decode cX12_readsOrder 21 = .ok (.getfield 8, 3) := by decide +kernel
theorem dX12_readsOrder_24 : decode cX12_readsOrder 24 = .ok (.iconst 4, 1) := by decide +kernel
theorem dX12_readsOrder_25 : decode cX12_readsOrder 25 = .ok (.iaload, 1) := by decide +kernel
theorem dX12_readsOrder_26 : decode cX12_readsOrder 26 = .ok (.iastore, 1) := by decide +kernel
theorem dX12_readsOrder_27 : decode cX12_readsOrder 27 = .ok (.iconst 0, 1) := by decide +kernel
theorem dX12_readsOrder_28 : decode cX12_readsOrder 28 = .ok (.istore_n 3, 1) := by decide +kernel
theorem dX12_readsOrder_29 : decode cX12_readsOrder 29 = .ok (.iload_n 3, 1) := by decide +kernel
theorem dX12_readsOrder_30 : decode cX12_readsOrder 30 = .ok (.aload_n 0, 1) := by decide +kernel
theorem dX12_readsOrder_31 : decode cX12_readsOrder 31 = .ok (.getfield 8, 3) := by decide +kernel
theorem dX12_readsOrder_34 : decode cX12_readsOrder 34 = .ok (.iconst 4, 1) := by decide +kernel
theorem dX12_readsOrder_35 : decode cX12_readsOrder 35 = .ok (.iaload, 1) := by decide +kernel
theorem dX12_readsOrder_36 : decode cX12_readsOrder 36 = .ok (.if_icmp .ge 35, 3) := by decide +kernel
theorem dX12_readsOrder_39 : decode cX12_readsOrder 39 = .ok (.aload_n 0, 1) := by decide +kernel
theorem dX12_readsOrder_40 : decode cX12_readsOrder 40 = .ok (.getfield 8, 3) := by decide +kernel
theorem dX12_readsOrder_43 : decode cX12_readsOrder 43 = .ok (.sipush 9640, 3) := by decide +kernel
theorem dX12_readsOrder_46 : decode cX12_readsOrder 46 = .ok (.sipush 140, 3) := by decide +kernel
theorem dX12_readsOrder_49 : decode cX12_readsOrder 49 = .ok (.iload_n 1, 1) := by decide +kernel
theorem dX12_readsOrder_50 : decode cX12_readsOrder 50 = .ok (.imul, 1) := by decide +kernel
theorem dX12_readsOrder_51 : decode cX12_readsOrder 51 = .ok (.iadd, 1) := by decide +kernel
theorem dX12_readsOrder_52 : decode cX12_readsOrder 52 = .ok (.iload_n 3, 1) := by decide +kernel
theorem dX12_readsOrder_53 : decode cX12_readsOrder 53 = .ok (.iadd, 1) := by decide +kernel
theorem dX12_readsOrder_54 : decode cX12_readsOrder 54 = .ok (.aload_n 0, 1) := by decide +kernel
theorem dX12_readsOrder_55 : decode cX12_readsOrder 55 = .ok (.getfield 8, 3) := by decide +kernel
theorem dX12_readsOrder_58 : decode cX12_readsOrder 58 = .ok (.sipush 11150, 3) := by decide +kernel
theorem dX12_readsOrder_61 : decode cX12_readsOrder 61 = .ok (.iload_n 3, 1) := by decide +kernel
theorem dX12_readsOrder_62 : decode cX12_readsOrder 62 = .ok (.iadd, 1) := by decide +kernel
theorem dX12_readsOrder_63 : decode cX12_readsOrder 63 = .ok (.iaload, 1) := by decide +kernel
theorem dX12_readsOrder_64 : decode cX12_readsOrder 64 = .ok (.iastore, 1) := by decide +kernel
theorem dX12_readsOrder_65 : decode cX12_readsOrder 65 = .ok (.iinc 3 1, 3) := by decide +kernel
theorem dX12_readsOrder_68 : decode cX12_readsOrder 68 = .ok (.goto (-39), 3) := by decide +kernel
theorem dX12_readsOrder_71 : decode cX12_readsOrder 71 = .ok (.aload_n 0, 1) := by decide +kernel
theorem dX12_readsOrder_72 : decode cX12_readsOrder 72 = .ok (.getfield 8, 3) := by decide +kernel
theorem dX12_readsOrder_75 : decode cX12_readsOrder 75 = .ok (.iconst 4, 1) := by decide +kernel
theorem dX12_readsOrder_76 : decode cX12_readsOrder 76 = .ok (.iconst 0, 1) := by decide +kernel
theorem dX12_readsOrder_77 : decode cX12_readsOrder 77 = .ok (.iastore, 1) := by decide +kernel
theorem dX12_readsOrder_78 : decode cX12_readsOrder 78 = .ok (.aload_n 0, 1) := by decide +kernel
theorem dX12_readsOrder_79 : decode cX12_readsOrder 79 = .ok (.getfield 8, 3) := by decide +kernel
theorem dX12_readsOrder_82 : decode cX12_readsOrder 82 = .ok (.sipush 10900, 3) := by decide +kernel
theorem dX12_readsOrder_85 : decode cX12_readsOrder 85 = .ok (.iload_n 1, 1) := by decide +kernel
theorem dX12_readsOrder_86 : decode cX12_readsOrder 86 = .ok (.iadd, 1) := by decide +kernel
theorem dX12_readsOrder_87 : decode cX12_readsOrder 87 = .ok (.iconst 0, 1) := by decide +kernel
theorem dX12_readsOrder_88 : decode cX12_readsOrder 88 = .ok (.iastore, 1) := by decide +kernel
theorem dX12_readsOrder_89 : decode cX12_readsOrder 89 = .ok (.aload_n 0, 1) := by decide +kernel
theorem dX12_readsOrder_90 : decode cX12_readsOrder 90 = .ok (.iload_n 1, 1) := by decide +kernel
theorem dX12_readsOrder_91 : decode cX12_readsOrder 91 = .ok (.putfield 78, 3) := by decide +kernel
theorem dX12_readsOrder_94 : decode cX12_readsOrder 94 = .ok (.aload_n 0, 1) := by decide +kernel
theorem dX12_readsOrder_95 : decode cX12_readsOrder 95 = .ok (.iconst 0, 1) := by decide +kernel
theorem dX12_readsOrder_96 : decode cX12_readsOrder 96 = .ok (.putfield 75, 3) := by decide +kernel
theorem dX12_readsOrder_99 : decode cX12_readsOrder 99 = .ok (.aload_n 0, 1) := by decide +kernel
theorem dX12_readsOrder_100 : decode cX12_readsOrder 100 = .ok (.iconst 0, 1) := by decide +kernel
theorem dX12_readsOrder_101 : decode cX12_readsOrder 101 = .ok (.putfield 116, 3) := by decide +kernel
theorem dX12_readsOrder_104 : decode cX12_readsOrder 104 = .ok (.aload_n 0, 1) := by decide +kernel
theorem dX12_readsOrder_105 : decode cX12_readsOrder 105 = .ok (.iconst 0, 1) := by decide +kernel
theorem dX12_readsOrder_106 : decode cX12_readsOrder 106 = .ok (.putfield 81, 3) := by decide +kernel
theorem dX12_readsOrder_109 : decode cX12_readsOrder 109 = .ok (.aload_n 0, 1) := by decide +kernel
theorem dX12_readsOrder_110 : decode cX12_readsOrder 110 = .ok (.iload_n 1, 1) := by decide +kernel
theorem dX12_readsOrder_111 : decode cX12_readsOrder 111 = .ok (.invokevirtual 138, 3) := by decide +kernel
theorem dX12_readsOrder_114 : decode cX12_readsOrder 114 = .ok (.aload_n 0, 1) := by decide +kernel
theorem dX12_readsOrder_115 : decode cX12_readsOrder 115 = .ok (.getfield 81, 3) := by decide +kernel
theorem dX12_readsOrder_118 : decode cX12_readsOrder 118 = .ok (.ifCond .ne 45, 3) := by decide +kernel
theorem dX12_readsOrder_121 : decode cX12_readsOrder 121 = .ok (.aload_n 0, 1) := by decide +kernel
theorem dX12_readsOrder_122 : decode cX12_readsOrder 122 = .ok (.getfield 8, 3) := by decide +kernel
theorem dX12_readsOrder_125 : decode cX12_readsOrder 125 = .ok (.sipush 10900, 3) := by decide +kernel
theorem dX12_readsOrder_128 : decode cX12_readsOrder 128 = .ok (.iload_n 1, 1) := by decide +kernel
theorem dX12_readsOrder_129 : decode cX12_readsOrder 129 = .ok (.iadd, 1) := by decide +kernel
theorem dX12_readsOrder_130 : decode cX12_readsOrder 130 = .ok (.iaload, 1) := by decide +kernel
theorem dX12_readsOrder_131 : decode cX12_readsOrder 131 = .ok (.bipush 8, 2) := by decide +kernel
theorem dX12_readsOrder_133 : decode cX12_readsOrder 133 = .ok (.if_icmp .ge 30, 3) := by decide +kernel
theorem dX12_readsOrder_136 : decode cX12_readsOrder 136 = .ok (.aload_n 0, 1) := by decide +kernel
theorem dX12_readsOrder_137 : decode cX12_readsOrder 137 = .ok (.invokevirtual 85, 3) := by decide +kernel
theorem dX12_readsOrder_140 : decode cX12_readsOrder 140 = .ok (.bipush 59, 2) := by decide +kernel
theorem dX12_readsOrder_142 : decode cX12_readsOrder 142 = .ok (.if_icmp .ne 21, 3) := by decide +kernel
theorem dX12_readsOrder_145 : decode cX12_readsOrder 145 = .ok (.aload_n 0, 1) := by decide +kernel
theorem dX12_readsOrder_146 : decode cX12_readsOrder 146 = .ok (.dup, 1) := by decide +kernel
theorem dX12_readsOrder_147 : decode cX12_readsOrder 147 = .ok (.getfield 75, 3) := by decide +kernel
theorem dX12_readsOrder_150 : decode cX12_readsOrder 150 = .ok (.iconst 1, 1) := by decide +kernel
theorem dX12_readsOrder_151 : decode cX12_readsOrder 151 = .ok (.iadd, 1) := by decide +kernel
theorem dX12_readsOrder_152 : decode cX12_readsOrder 152 = .ok (.putfield 75, 3) := by decide +kernel
theorem dX12_readsOrder_155 : decode cX12_readsOrder 155 = .ok (.aload_n 0, 1) := by decide +kernel
theorem dX12_readsOrder_156 : decode cX12_readsOrder 156 = .ok (.iload_n 1, 1) := by decide +kernel
theorem dX12_readsOrder_157 : decode cX12_readsOrder 157 = .ok (.invokevirtual 138, 3) := by decide +kernel
theorem dX12_readsOrder_160 : decode cX12_readsOrder 160 = .ok (.goto (-46), 3) := by decide +kernel
theorem dX12_readsOrder_163 : decode cX12_readsOrder 163 = .ok (.aload_n 0, 1) := by decide +kernel
theorem dX12_readsOrder_164 : decode cX12_readsOrder 164 = .ok (.aload_n 0, 1) := by decide +kernel
theorem dX12_readsOrder_165 : decode cX12_readsOrder 165 = .ok (.getfield 81, 3) := by decide +kernel
theorem dX12_readsOrder_168 : decode cX12_readsOrder 168 = .ok (.ifCond .ne 20, 3) := by decide +kernel
theorem dX12_readsOrder_171 : decode cX12_readsOrder 171 = .ok (.aload_n 0, 1) := by decide +kernel
theorem dX12_readsOrder_172 : decode cX12_readsOrder 172 = .ok (.getfield 75, 3) := by decide +kernel
theorem dX12_readsOrder_175 : decode cX12_readsOrder 175 = .ok (.aload_n 0, 1) := by decide +kernel
theorem dX12_readsOrder_176 : decode cX12_readsOrder 176 = .ok (.getfield 8, 3) := by decide +kernel
theorem dX12_readsOrder_179 : decode cX12_readsOrder 179 = .ok (.sipush 9630, 3) := by decide +kernel
theorem dX12_readsOrder_182 : decode cX12_readsOrder 182 = .ok (.iload_n 1, 1) := by decide +kernel
theorem dX12_readsOrder_183 : decode cX12_readsOrder 183 = .ok (.iadd, 1) := by decide +kernel
theorem dX12_readsOrder_184 : decode cX12_readsOrder 184 = .ok (.iaload, 1) := by decide +kernel
theorem dX12_readsOrder_185 : decode cX12_readsOrder 185 = .ok (.if_icmp .eq 7, 3) := by decide +kernel
theorem dX12_readsOrder_188 : decode cX12_readsOrder 188 = .ok (.iconst 1, 1) := by decide +kernel
theorem dX12_readsOrder_189 : decode cX12_readsOrder 189 = .ok (.goto 4, 3) := by decide +kernel
theorem dX12_readsOrder_192 : decode cX12_readsOrder 192 = .ok (.iconst 0, 1) := by decide +kernel
theorem dX12_readsOrder_193 : decode cX12_readsOrder 193 = .ok (.putfield 81, 3) := by decide +kernel
theorem dX12_readsOrder_196 : decode cX12_readsOrder 196 = .ok (.aload_n 0, 1) := by decide +kernel
theorem dX12_readsOrder_197 : decode cX12_readsOrder 197 = .ok (.getfield 81, 3) := by decide +kernel
theorem dX12_readsOrder_200 : decode cX12_readsOrder 200 = .ok (.ifCond .ne 7, 3) := by decide +kernel
theorem dX12_readsOrder_203 : decode cX12_readsOrder 203 = .ok (.iconst 1, 1) := by decide +kernel
theorem dX12_readsOrder_204 : decode cX12_readsOrder 204 = .ok (.goto 4, 3) := by decide +kernel
theorem dX12_readsOrder_207 : decode cX12_readsOrder 207 = .ok (.iconst 0, 1) := by decide +kernel
theorem dX12_readsOrder_208 : decode cX12_readsOrder 208 = .ok (.ireturn, 1) := by decide +kernel
theorem dX12_text_0 : decode cX12_text 0 = .ok (.iload_n 1, 1) := by decide +kernel
theorem dX12_text_1 : decode cX12_text 1 = .ok (.invokestatic 141, 3) := by decide +kernel
theorem dX12_text_4 : decode cX12_text 4 = .ok (.ifCond .ne 6, 3) := by decide +kernel
theorem dX12_text_7 : decode cX12_text 7 = .ok (.bipush (-2), 2) := by decide +kernel
theorem dX12_text_9 : decode cX12_text 9 = .ok (.ireturn, 1) := by decide +kernel
theorem dX12_text_10 : decode cX12_text 10 = .ok (.aload_n 0, 1) := by decide +kernel
theorem dX12_text_11 : decode cX12_text 11 = .ok (.getfield 8, 3) := by decide +kernel
theorem dX12_text_14 : decode cX12_text 14 = .ok (.iconst 3, 1) := by decide +kernel
theorem dX12_text_15 : decode cX12_text 15 = .ok (.iaload, 1) := by decide +kernel
theorem dX12_text_16 : decode cX12_text 16 = .ok (.bipush 8, 2) := by decide +kernel
theorem dX12_text_18 : decode cX12_text 18 = .ok (.if_icmp .ne 6, 3) := by decide +kernel
theorem dX12_text_21 : decode cX12_text 21 = .ok (.bipush (-4), 2) := by decide +kernel
theorem dX12_text_23 : decode cX12_text 23 = .ok (.ireturn, 1) := by decide +kernel
theorem dX12_text_24 : decode cX12_text 24 = .ok (.aload_n 0, 1) := by decide +kernel
theorem dX12_text_25 : decode cX12_text 25 = .ok (.aload_n 0, 1) := by decide +kernel
theorem dX12_text_26 : decode cX12_text 26 = .ok (.getfield 8, 3) := by decide +kernel
theorem dX12_text_29 : decode cX12_text 29 = .ok (.iconst 3, 1) := by decide +kernel
theorem dX12_text_30 : decode cX12_text 30 = .ok (.iaload, 1) := by decide +kernel
theorem dX12_text_31 : decode cX12_text 31 = .ok (.iload_n 1, 1) := by decide +kernel
theorem dX12_text_32 : decode cX12_text 32 = .ok (.invokevirtual 144, 3) := by decide +kernel
theorem dX12_text_35 : decode cX12_text 35 = .ok (.ifCond .ne 11, 3) := by decide +kernel
theorem dX12_text_38 : decode cX12_text 38 = .ok (.bipush (-10), 2) := by decide +kernel
theorem dX12_text_40 : decode cX12_text 40 = .ok (.aload_n 0, 1) := by decide +kernel
theorem dX12_text_41 : decode cX12_text 41 = .ok (.getfield 75, 3) := by decide +kernel
theorem dX12_text_44 : decode cX12_text 44 = .ok (.isub, 1) := by decide +kernel
theorem dX12_text_45 : decode cX12_text 45 = .ok (.ireturn, 1) := by decide +kernel
theorem dX12_text_46 : decode cX12_text 46 = .ok (.aload_n 0, 1) := by decide +kernel
theorem dX12_text_47 : decode cX12_text 47 = .ok (.getfield 8, 3) := by decide +kernel
theorem dX12_text_50 : decode cX12_text 50 = .ok (.iconst 3, 1) := by decide +kernel
theorem dX12_text_51 : decode cX12_text 51 = .ok (.dup2, 1) := by decide +kernel
theorem dX12_text_52 : decode cX12_text 52 = .ok (.iaload, 1) := by decide +kernel
theorem dX12_text_53 : decode cX12_text 53 = .ok (.iconst 1, 1) := by decide +kernel
theorem dX12_text_54 : decode cX12_text 54 = .ok (.iadd, 1) := by decide +kernel
theorem dX12_text_55 : decode cX12_text 55 = .ok (.iastore, 1) := by decide +kernel
theorem dX12_text_56 : decode cX12_text 56 = .ok (.aload_n 0, 1) := by decide +kernel
theorem dX12_text_57 : decode cX12_text 57 = .ok (.getfield 8, 3) := by decide +kernel
theorem dX12_text_60 : decode cX12_text 60 = .ok (.iconst 3, 1) := by decide +kernel
theorem dX12_text_61 : decode cX12_text 61 = .ok (.iaload, 1) := by decide +kernel
theorem dX12_text_62 : decode cX12_text 62 = .ok (.iconst 1, 1) := by decide +kernel
theorem dX12_text_63 : decode cX12_text 63 = .ok (.isub, 1) := by decide +kernel
theorem dX12_text_64 : decode cX12_text 64 = .ok (.ireturn, 1) := by decide +kernel
theorem dX12_ruling_0 : decode cX12_ruling 0 = .ok (.iconst (-1), 1) := by decide +kernel
theorem dX12_ruling_1 : decode cX12_ruling 1 = .ok (.istore_n 3, 1) := by decide +kernel
theorem dX12_ruling_2 : decode cX12_ruling 2 = .ok (.iconst 0, 1) := by decide +kernel
theorem dX12_ruling_3 : decode cX12_ruling 3 = .ok (.istore 4, 2) := by decide +kernel
theorem dX12_ruling_5 : decode cX12_ruling 5 = .ok (.iload 4, 2) := by decide +kernel
theorem dX12_ruling_7 : decode cX12_ruling 7 = .ok (.aload_n 0, 1) := by decide +kernel
theorem dX12_ruling_8 : decode cX12_ruling 8 = .ok (.getfield 8, 3) := by decide +kernel
theorem dX12_ruling_11 : decode cX12_ruling 11 = .ok (.iconst 3, 1) := by decide +kernel
theorem dX12_ruling_12 : decode cX12_ruling 12 = .ok (.iaload, 1) := by decide +kernel
theorem dX12_ruling_13 : decode cX12_ruling 13 = .ok (.if_icmp .ge 127, 3) := by decide +kernel
theorem dX12_ruling_16 : decode cX12_ruling 16 = .ok (.iconst 0, 1) := by decide +kernel
theorem dX12_ruling_17 : decode cX12_ruling 17 = .ok (.istore 5, 2) := by decide +kernel
theorem dX12_ruling_19 : decode cX12_ruling 19 = .ok (.iload 5, 2) := by decide +kernel
theorem dX12_ruling_21 : decode cX12_ruling 21 = .ok (.aload_n 0, 1) := by decide +kernel
theorem dX12_ruling_22 : decode cX12_ruling 22 = .ok (.getfield 8, 3) := by decide +kernel
theorem dX12_ruling_25 : decode cX12_ruling 25 = .ok (.sipush 10900, 3) := by decide +kernel
theorem dX12_ruling_28 : decode cX12_ruling 28 = .ok (.iload 4, 2) := by decide +kernel
theorem dX12_ruling_30 : decode cX12_ruling 30 = .ok (.iadd, 1) := by decide +kernel
theorem dX12_ruling_31 : decode cX12_ruling 31 = .ok (.iaload, 1) := by decide +kernel
theorem dX12_ruling_32 : decode cX12_ruling 32 = .ok (.if_icmp .ge 102, 3) := by decide +kernel
theorem dX12_ruling_35 : decode cX12_ruling 35 = .ok (.aload_n 0, 1) := by decide +kernel
theorem dX12_ruling_36 : decode cX12_ruling 36 = .ok (.getfield 8, 3) := by decide +kernel
theorem dX12_ruling_39 : decode cX12_ruling 39 = .ok (.sipush 9620, 3) := by decide +kernel
theorem dX12_ruling_42 : decode cX12_ruling 42 = .ok (.iload 4, 2) := by decide +kernel
theorem dX12_ruling_44 : decode cX12_ruling 44 = .ok (.iadd, 1) := by decide +kernel
theorem dX12_ruling_45 : decode cX12_ruling 45 = .ok (.iaload, 1) := by decide +kernel
theorem dX12_ruling_46 : decode cX12_ruling 46 = .ok (.iload_n 2, 1) := by decide +kernel
theorem dX12_ruling_47 : decode cX12_ruling 47 = .ok (.if_icmp .gt 87, 3) := by decide +kernel
theorem dX12_ruling_50 : decode cX12_ruling 50 = .ok (.aload_n 0, 1) := by decide +kernel
theorem dX12_ruling_51 : decode cX12_ruling 51 = .ok (.getfield 8, 3) := by decide +kernel
theorem dX12_ruling_54 : decode cX12_ruling 54 = .ok (.sipush 10910, 3) := by decide +kernel
theorem dX12_ruling_57 : decode cX12_ruling 57 = .ok (.bipush 8, 2) := by decide +kernel
theorem dX12_ruling_59 : decode cX12_ruling 59 = .ok (.iload 4, 2) := by decide +kernel
theorem dX12_ruling_61 : decode cX12_ruling 61 = .ok (.imul, 1) := by decide +kernel
theorem dX12_ruling_62 : decode cX12_ruling 62 = .ok (.iadd, 1) := by decide +kernel
theorem dX12_ruling_63 : decode cX12_ruling 63 = .ok (.iload 5, 2) := by decide +kernel
theorem dX12_ruling_65 : decode cX12_ruling 65 = .ok (.iadd, 1) := by decide +kernel
theorem dX12_ruling_66 : decode cX12_ruling 66 = .ok (.iaload, 1) := by decide +kernel
theorem dX12_ruling_67 : decode cX12_ruling 67 = .ok (.iload_n 1, 1) := by decide +kernel
theorem dX12_ruling_68 : decode cX12_ruling 68 = .ok (.if_icmp .ne 39, 3) := by decide +kernel
theorem dX12_ruling_71 : decode cX12_ruling 71 = .ok (.iload_n 3, 1) := by decide +kernel
theorem dX12_ruling_72 : decode cX12_ruling 72 = .ok (.iconst (-1), 1) := by decide +kernel
theorem dX12_ruling_73 : decode cX12_ruling 73 = .ok (.if_icmp .eq 30, 3) := by decide +kernel
theorem dX12_ruling_76 : decode cX12_ruling 76 = .ok (.aload_n 0, 1) := by decide +kernel
theorem dX12_ruling_77 : decode cX12_ruling 77 = .ok (.getfield 8, 3) := by decide +kernel
theorem dX12_ruling_80 : decode cX12_ruling 80 = .ok (.sipush 9620, 3) := by decide +kernel
theorem dX12_ruling_83 : decode cX12_ruling 83 = .ok (.iload 4, 2) := by decide +kernel
theorem dX12_ruling_85 : decode cX12_ruling 85 = .ok (.iadd, 1) := by decide +kernel
theorem dX12_ruling_86 : decode cX12_ruling 86 = .ok (.iaload, 1) := by decide +kernel
theorem dX12_ruling_87 : decode cX12_ruling 87 = .ok (.aload_n 0, 1) := by decide +kernel
theorem dX12_ruling_88 : decode cX12_ruling 88 = .ok (.getfield 8, 3) := by decide +kernel
theorem dX12_ruling_91 : decode cX12_ruling 91 = .ok (.sipush 9620, 3) := by decide +kernel
theorem dX12_ruling_94 : decode cX12_ruling 94 = .ok (.iload_n 3, 1) := by decide +kernel
theorem dX12_ruling_95 : decode cX12_ruling 95 = .ok (.bipush 8, 2) := by decide +kernel
theorem dX12_ruling_97 : decode cX12_ruling 97 = .ok (.idiv, 1) := by decide +kernel
theorem dX12_ruling_98 : decode cX12_ruling 98 = .ok (.iadd, 1) := by decide +kernel
theorem dX12_ruling_99 : decode cX12_ruling 99 = .ok (.iaload, 1) := by decide +kernel
theorem dX12_ruling_100 : decode cX12_ruling 100 = .ok (.if_icmp .lt 7, 3) := by decide +kernel
theorem dX12_ruling_103 : decode cX12_ruling 103 = .ok (.iconst 1, 1) := by decide +kernel
theorem dX12_ruling_104 : decode cX12_ruling 104 = .ok (.goto 4, 3) := by decide +kernel
theorem dX12_ruling_107 : decode cX12_ruling 107 = .ok (.iconst 0, 1) := by decide +kernel
theorem dX12_ruling_108 : decode cX12_ruling 108 = .ok (.istore 6, 2) := by decide +kernel
theorem dX12_ruling_110 : decode cX12_ruling 110 = .ok (.iload 6, 2) := by decide +kernel
theorem dX12_ruling_112 : decode cX12_ruling 112 = .ok (.ifCond .eq 14, 3) := by decide +kernel
theorem dX12_ruling_115 : decode cX12_ruling 115 = .ok (.bipush 8, 2) := by decide +kernel
theorem dX12_ruling_117 : decode cX12_ruling 117 = .ok (.iload 4, 2) := by decide +kernel
theorem dX12_ruling_119 : decode cX12_ruling 119 = .ok (.imul, 1) := by decide +kernel
theorem dX12_ruling_120 : decode cX12_ruling 120 = .ok (.iload 5, 2) := by decide +kernel
theorem dX12_ruling_122 : decode cX12_ruling 122 = .ok (.iadd, 1) := by decide +kernel
theorem dX12_ruling_123 : decode cX12_ruling 123 = .ok (.goto 4, 3) := by decide +kernel
theorem dX12_ruling_126 : decode cX12_ruling 126 = .ok (.iload_n 3, 1) := by decide +kernel
theorem dX12_ruling_127 : decode cX12_ruling 127 = .ok (.istore_n 3, 1) := by decide +kernel
theorem dX12_ruling_128 : decode cX12_ruling 128 = .ok (.iinc 5 1, 3) := by decide +kernel
theorem dX12_ruling_131 : decode cX12_ruling 131 = .ok (.goto (-112), 3) := by decide +kernel
theorem dX12_ruling_134 : decode cX12_ruling 134 = .ok (.iinc 4 1, 3) := by decide +kernel
theorem dX12_ruling_137 : decode cX12_ruling 137 = .ok (.goto (-132), 3) := by decide +kernel
theorem dX12_ruling_140 : decode cX12_ruling 140 = .ok (.iload_n 3, 1) := by decide +kernel
theorem dX12_ruling_141 : decode cX12_ruling 141 = .ok (.ireturn, 1) := by decide +kernel
theorem dX12_rule_0 : decode cX12_rule 0 = .ok (.aload_n 0, 1) := by decide +kernel
theorem dX12_rule_1 : decode cX12_rule 1 = .ok (.iload_n 1, 1) := by decide +kernel
theorem dX12_rule_2 : decode cX12_rule 2 = .ok (.iload_n 2, 1) := by decide +kernel
theorem dX12_rule_3 : decode cX12_rule 3 = .ok (.invokevirtual 148, 3) := by decide +kernel
theorem dX12_rule_6 : decode cX12_rule 6 = .ok (.istore_n 3, 1) := by decide +kernel
theorem dX12_rule_7 : decode cX12_rule 7 = .ok (.iload_n 3, 1) := by decide +kernel
theorem dX12_rule_8 : decode cX12_rule 8 = .ok (.iconst (-1), 1) := by decide +kernel
theorem dX12_rule_9 : decode cX12_rule 9 = .ok (.if_icmp .eq 14, 3) := by decide +kernel
theorem dX12_rule_12 : decode cX12_rule 12 = .ok (.aload_n 0, 1) := by decide +kernel
