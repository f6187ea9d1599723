theorem dX11_roundNumbered_23 : decode cX11_roundNumbered 23 = .ok (.if_icmp .lt 14, 3) := by decide +kernel
theorem dX11_roundNumbered_26 : decode cX11_roundNumbered 26 = .ok (.new 134, 3) := by decide +kernel
theorem dX11_roundNumbered_29 : decode cX11_roundNumbered 29 = .ok (.dup, 1) := by decide +kernel
theorem dX11_roundNumbered_30 : decode cX11_roundNumbered 30 = .ok (.ldc_w 332, 3) := by decide +kernel
theorem dX11_roundNumbered_33 : decode cX11_roundNumbered 33 = .ok (.invokespecial 138, 3) := by decide +kernel
theorem dX11_roundNumbered_36 : decode cX11_roundNumbered 36 = .ok (.athrow, 1) := by decide +kernel
theorem dX11_roundNumbered_37 : decode cX11_roundNumbered 37 = .ok (.aload_n 0, 1) := by decide +kernel
theorem dX11_roundNumbered_38 : decode cX11_roundNumbered 38 = .ok (.getfield 36, 3) := by decide +kernel
theorem dX11_roundNumbered_41 : decode cX11_roundNumbered 41 = .ok (.getfield 193, 3) := by decide +kernel
theorem dX11_roundNumbered_44 : decode cX11_roundNumbered 44 = .ok (.iload_n 1, 1) := by decide +kernel
theorem dX11_roundNumbered_45 : decode cX11_roundNumbered 45 = .ok (.aaload, 1) := by decide +kernel
theorem dX11_roundNumbered_46 : decode cX11_roundNumbered 46 = .ok (.areturn, 1) := by decide +kernel
theorem dX11_found_0 : decode cX11_found 0 = .ok (.iload_n 0, 1) := by decide +kernel
theorem dX11_found_1 : decode cX11_found 1 = .ok (.iconst (-1), 1) := by decide +kernel
theorem dX11_found_2 : decode cX11_found 2 = .ok (.if_icmp .ne 14, 3) := by decide +kernel
theorem dX11_found_5 : decode cX11_found 5 = .ok (.new 134, 3) := by decide +kernel
theorem dX11_found_8 : decode cX11_found 8 = .ok (.dup, 1) := by decide +kernel
theorem dX11_found_9 : decode cX11_found 9 = .ok (.ldc_w 334, 3) := by decide +kernel
theorem dX11_found_12 : decode cX11_found 12 = .ok (.invokespecial 138, 3) := by decide +kernel
theorem dX11_found_15 : decode cX11_found 15 = .ok (.athrow, 1) := by decide +kernel
theorem dX11_found_16 : decode cX11_found 16 = .ok (.iload_n 0, 1) := by decide +kernel
theorem dX11_found_17 : decode cX11_found 17 = .ok (.ireturn, 1) := by decide +kernel
theorem dX11_settle_0 : decode cX11_settle 0 = .ok (.aload_n 1, 1) := by decide +kernel
theorem dX11_settle_1 : decode cX11_settle 1 = .ok (.invokestatic 336, 3) := by decide +kernel
theorem dX11_settle_4 : decode cX11_settle 4 = .ok (.aload_n 0, 1) := by decide +kernel
theorem dX11_settle_5 : decode cX11_settle 5 = .ok (.getfield 29, 3) := by decide +kernel
theorem dX11_settle_8 : decode cX11_settle 8 = .ok (.aload_n 0, 1) := by decide +kernel
theorem dX11_settle_9 : decode cX11_settle 9 = .ok (.getfield 16, 3) := by decide +kernel
theorem dX11_settle_12 : decode cX11_settle 12 = .ok (.invokevirtual 339, 3) := by decide +kernel
theorem dX11_settle_15 : decode cX11_settle 15 = .ok (.return_, 1) := by decide +kernel
theorem dX11_refuse_0 : decode cX11_refuse 0 = .ok (.getstatic 342, 3) := by decide +kernel
theorem dX11_refuse_3 : decode cX11_refuse 3 = .ok (.aload_n 0, 1) := by decide +kernel
theorem dX11_refuse_4 : decode cX11_refuse 4 = .ok (.invokevirtual 347, 3) := by decide +kernel
theorem dX11_refuse_7 : decode cX11_refuse 7 = .ok (.iaload, 1) := by decide +kernel
theorem dX11_refuse_8 : decode cX11_refuse 8 = .ok (.tableswitch 150 1 9 #[52, 63, 74, 85, 96, 107, 118, 129, 140], 52) := by decide +kernel
theorem dX11_refuse_60 : decode cX11_refuse 60 = .ok (.new 263, 3) := by decide +kernel
theorem dX11_refuse_63 : decode cX11_refuse 63 = .ok (.dup, 1) := by decide +kernel
theorem dX11_refuse_64 : decode cX11_refuse 64 = .ok (.ldc_w 321, 3) := by decide +kernel
theorem dX11_refuse_67 : decode cX11_refuse 67 = .ok (.invokespecial 267, 3) := by decide +kernel
theorem dX11_refuse_70 : decode cX11_refuse 70 = .ok (.athrow, 1) := by decide +kernel
theorem dX11_refuse_71 : decode cX11_refuse 71 = .ok (.new 263, 3) := by decide +kernel
theorem dX11_refuse_74 : decode cX11_refuse 74 = .ok (.dup, 1) := by decide +kernel
theorem dX11_refuse_75 : decode cX11_refuse 75 = .ok (.ldc_w 326, 3) := by decide +kernel
theorem dX11_refuse_78 : decode cX11_refuse 78 = .ok (.invokespecial 267, 3) := by decide +kernel
theorem dX11_refuse_81 : decode cX11_refuse 81 = .ok (.athrow, 1) := by decide +kernel
theorem dX11_refuse_82 : decode cX11_refuse 82 = .ok (.new 280, 3) := by decide +kernel
theorem dX11_refuse_85 : decode cX11_refuse 85 = .ok (.dup, 1) := by decide +kernel
theorem dX11_refuse_86 : decode cX11_refuse 86 = .ok (.ldc_w 352, 3) := by decide +kernel
theorem dX11_refuse_89 : decode cX11_refuse 89 = .ok (.invokespecial 284, 3) := by decide +kernel
theorem dX11_refuse_92 : decode cX11_refuse 92 = .ok (.athrow, 1) := by decide +kernel
theorem dX11_refuse_93 : decode cX11_refuse 93 = .ok (.new 280, 3) := by decide +kernel
theorem dX11_refuse_96 : decode cX11_refuse 96 = .ok (.dup, 1) := by decide +kernel
theorem dX11_refuse_97 : decode cX11_refuse 97 = .ok (.ldc_w 354, 3) := by decide +kernel
theorem dX11_refuse_100 : decode cX11_refuse 100 = .ok (.invokespecial 284, 3) := by decide +kernel
theorem dX11_refuse_103 : decode cX11_refuse 103 = .ok (.athrow, 1) := by decide +kernel
theorem dX11_refuse_104 : decode cX11_refuse 104 = .ok (.new 288, 3) := by decide +kernel
theorem dX11_refuse_107 : decode cX11_refuse 107 = .ok (.dup, 1) := by decide +kernel
theorem dX11_refuse_108 : decode cX11_refuse 108 = .ok (.ldc_w 356, 3) := by decide +kernel
theorem dX11_refuse_111 : decode cX11_refuse 111 = .ok (.invokespecial 292, 3) := by decide +kernel
theorem dX11_refuse_114 : decode cX11_refuse 114 = .ok (.athrow, 1) := by decide +kernel
theorem dX11_refuse_115 : decode cX11_refuse 115 = .ok (.new 288, 3) := by decide +kernel
theorem dX11_refuse_118 : decode cX11_refuse 118 = .ok (.dup, 1) := by decide +kernel
theorem dX11_refuse_119 : decode cX11_refuse 119 = .ok (.ldc_w 358, 3) := by decide +kernel
theorem dX11_refuse_122 : decode cX11_refuse 122 = .ok (.invokespecial 292, 3) := by decide +kernel
theorem dX11_refuse_125 : decode cX11_refuse 125 = .ok (.athrow, 1) := by decide +kernel
theorem dX11_refuse_126 : decode cX11_refuse 126 = .ok (.new 288, 3) := by decide +kernel
theorem dX11_refuse_129 : decode cX11_refuse 129 = .ok (.dup, 1) := by decide +kernel
theorem dX11_refuse_130 : decode cX11_refuse 130 = .ok (.ldc_w 360, 3) := by decide +kernel
theorem dX11_refuse_133 : decode cX11_refuse 133 = .ok (.invokespecial 292, 3) := by decide +kernel
theorem dX11_refuse_136 : decode cX11_refuse 136 = .ok (.athrow, 1) := by decide +kernel
theorem dX11_refuse_137 : decode cX11_refuse 137 = .ok (.new 288, 3) := by decide +kernel
theorem dX11_refuse_140 : decode cX11_refuse 140 = .ok (.dup, 1) := by decide +kernel
theorem dX11_refuse_141 : decode cX11_refuse 141 = .ok (.ldc_w 362, 3) := by decide +kernel
theorem dX11_refuse_144 : decode cX11_refuse 144 = .ok (.invokespecial 292, 3) := by decide +kernel
theorem dX11_refuse_147 : decode cX11_refuse 147 = .ok (.athrow, 1) := by decide +kernel
theorem dX11_refuse_148 : decode cX11_refuse 148 = .ok (.new 134, 3) := by decide +kernel
theorem dX11_refuse_151 : decode cX11_refuse 151 = .ok (.dup, 1) := by decide +kernel
theorem dX11_refuse_152 : decode cX11_refuse 152 = .ok (.ldc 191, 2) := by decide +kernel
theorem dX11_refuse_154 : decode cX11_refuse 154 = .ok (.invokespecial 138, 3) := by decide +kernel
theorem dX11_refuse_157 : decode cX11_refuse 157 = .ok (.athrow, 1) := by decide +kernel
theorem dX11_refuse_158 : decode cX11_refuse 158 = .ok (.return_, 1) := by decide +kernel
theorem dX11_seatWinner_0 : decode cX11_seatWinner 0 = .ok (.aload_n 0, 1) := by decide +kernel
theorem dX11_seatWinner_1 : decode cX11_seatWinner 1 = .ok (.getfield 36, 3) := by decide +kernel
theorem dX11_seatWinner_4 : decode cX11_seatWinner 4 = .ok (.aload_n 0, 1) := by decide +kernel
theorem dX11_seatWinner_5 : decode cX11_seatWinner 5 = .ok (.getfield 10, 3) := by decide +kernel
theorem dX11_seatWinner_8 : decode cX11_seatWinner 8 = .ok (.invokevirtual 153, 3) := by decide +kernel
theorem dX11_seatWinner_11 : decode cX11_seatWinner 11 = .ok (.aload_n 0, 1) := by decide +kernel
theorem dX11_seatWinner_12 : decode cX11_seatWinner 12 = .ok (.getfield 10, 3) := by decide +kernel
theorem dX11_seatWinner_15 : decode cX11_seatWinner 15 = .ok (.aload_n 0, 1) := by decide +kernel
theorem dX11_seatWinner_16 : decode cX11_seatWinner 16 = .ok (.getfield 36, 3) := by decide +kernel
theorem dX11_seatWinner_19 : decode cX11_seatWinner 19 = .ok (.getfield 156, 3) := by decide +kernel
theorem dX11_seatWinner_22 : decode cX11_seatWinner 22 = .ok (.invokevirtual 318, 3) := by decide +kernel
theorem dX11_seatWinner_25 : decode cX11_seatWinner 25 = .ok (.ifCond .ne 7, 3) := by decide +kernel
theorem dX11_seatWinner_28 : decode cX11_seatWinner 28 = .ok (.getstatic 364, 3) := by decide +kernel
theorem dX11_seatWinner_31 : decode cX11_seatWinner 31 = .ok (.areturn, 1) := by decide +kernel
theorem dX11_seatWinner_32 : decode cX11_seatWinner 32 = .ok (.aload_n 0, 1) := by decide +kernel
theorem dX11_seatWinner_33 : decode cX11_seatWinner 33 = .ok (.getfield 10, 3) := by decide +kernel
theorem dX11_seatWinner_36 : decode cX11_seatWinner 36 = .ok (.aload_n 0, 1) := by decide +kernel
theorem dX11_seatWinner_37 : decode cX11_seatWinner 37 = .ok (.getfield 36, 3) := by decide +kernel
theorem dX11_seatWinner_40 : decode cX11_seatWinner 40 = .ok (.getfield 156, 3) := by decide +kernel
theorem dX11_seatWinner_43 : decode cX11_seatWinner 43 = .ok (.invokevirtual 368, 3) := by decide +kernel
theorem dX11_seatWinner_46 : decode cX11_seatWinner 46 = .ok (.aload_n 0, 1) := by decide +kernel
theorem dX11_seatWinner_47 : decode cX11_seatWinner 47 = .ok (.getfield 10, 3) := by decide +kernel
theorem dX11_seatWinner_50 : decode cX11_seatWinner 50 = .ok (.aload_n 0, 1) := by decide +kernel
theorem dX11_seatWinner_51 : decode cX11_seatWinner 51 = .ok (.getfield 36, 3) := by decide +kernel
theorem dX11_seatWinner_54 : decode cX11_seatWinner 54 = .ok (.getfield 371, 3) := by decide +kernel
theorem dX11_seatWinner_57 : decode cX11_seatWinner 57 = .ok (.putfield 234, 3) := by decide +kernel
theorem dX11_seatWinner_60 : decode cX11_seatWinner 60 = .ok (.getstatic 372, 3) := by decide +kernel
theorem dX11_seatWinner_63 : decode cX11_seatWinner 63 = .ok (.areturn, 1) := by decide +kernel
theorem dX11_placeByScore_0 : decode cX11_placeByScore 0 = .ok (.iconst 0, 1) := by decide +kernel
theorem dX11_placeByScore_1 : decode cX11_placeByScore 1 = .ok (.istore_n 2, 1) := by decide +kernel
theorem dX11_placeByScore_2 : decode cX11_placeByScore 2 = .ok (.iconst 0, 1) := by decide +kernel
theorem dX11_placeByScore_3 : decode cX11_placeByScore 3 = .ok (.istore_n 3, 1) := by decide +kernel
theorem dX11_placeByScore_4 : decode cX11_placeByScore 4 = .ok (.iload_n 3, 1) := by decide +kernel
theorem dX11_placeByScore_5 : decode cX11_placeByScore 5 = .ok (.aload_n 0, 1) := by decide +kernel
theorem dX11_placeByScore_6 : decode cX11_placeByScore 6 = .ok (.getfield 10, 3) := by decide +kernel
theorem dX11_placeByScore_9 : decode cX11_placeByScore 9 = .ok (.getfield 84, 3) := by decide +kernel
theorem dX11_placeByScore_12 : decode cX11_placeByScore 12 = .ok (.if_icmp .ge 47, 3) := by decide +kernel
theorem dX11_placeByScore_15 : decode cX11_placeByScore 15 = .ok (.aload_n 0, 1) := by decide +kernel
theorem dX11_placeByScore_16 : decode cX11_placeByScore 16 = .ok (.getfield 47, 3) := by decide +kernel
theorem dX11_placeByScore_19 : decode cX11_placeByScore 19 = .ok (.iload_n 3, 1) := by decide +kernel
theorem dX11_placeByScore_20 : decode cX11_placeByScore 20 = .ok (.iaload, 1) := by decide +kernel
theorem dX11_placeByScore_21 : decode cX11_placeByScore 21 = .ok (.aload_n 0, 1) := by decide +kernel
theorem dX11_placeByScore_22 : decode cX11_placeByScore 22 = .ok (.getfield 47, 3) := by decide +kernel
theorem dX11_placeByScore_25 : decode cX11_placeByScore 25 = .ok (.iload_n 1, 1) := by decide +kernel
theorem dX11_placeByScore_26 : decode cX11_placeByScore 26 = .ok (.iaload, 1) := by decide +kernel
theorem dX11_placeByScore_27 : decode cX11_placeByScore 27 = .ok (.if_icmp .gt 23, 3) := by decide +kernel
theorem dX11_placeByScore_30 : decode cX11_placeByScore 30 = .ok (.aload_n 0, 1) := by decide +kernel
theorem dX11_placeByScore_31 : decode cX11_placeByScore 31 = .ok (.getfield 47, 3) := by decide +kernel
theorem dX11_placeByScore_34 : decode cX11_placeByScore 34 = .ok (.iload_n 3, 1) := by decide +kernel
theorem dX11_placeByScore_35 : decode cX11_placeByScore 35 = .ok (.iaload, 1) := by decide +kernel
theorem dX11_placeByScore_36 : decode cX11_placeByScore 36 = .ok (.aload_n 0, 1) := by decide +kernel
theorem dX11_placeByScore_37 : decode cX11_placeByScore 37 = .ok (.getfield 47, 3) := by decide +kernel
theorem dX11_placeByScore_40 : decode cX11_placeByScore 40 = .ok (.iload_n 1, 1) := by decide +kernel
theorem dX11_placeByScore_41 : decode cX11_placeByScore 41 = .ok (.iaload, 1) := by decide +kernel
theorem dX11_placeByScore_42 : decode cX11_placeByScore 42 = .ok (.if_icmp .ne 11, 3) := by decide +kernel
theorem dX11_placeByScore_45 : decode cX11_placeByScore 45 = .ok (.iload_n 3, 1) := by decide +kernel
theorem dX11_placeByScore_46 : decode cX11_placeByScore 46 = .ok (.iload_n 1, 1) := by decide +kernel
theorem dX11_placeByScore_47 : decode cX11_placeByScore 47 = .ok (.if_icmp .ge 6, 3) := by decide +kernel
theorem dX11_placeByScore_50 : decode cX11_placeByScore 50 = .ok (.iinc 2 1, 3) := by decide +kernel
theorem dX11_placeByScore_53 : decode cX11_placeByScore 53 = .ok (.iinc 3 1, 3) := by decide +kernel
theorem dX11_placeByScore_56 : decode cX11_placeByScore 56 = .ok (.goto (-52), 3) := by decide +kernel
theorem dX11_placeByScore_59 : decode cX11_placeByScore 59 = .ok (.iload_n 2, 1) := by decide +kernel
theorem dX11_placeByScore_60 : decode cX11_placeByScore 60 = .ok (.ireturn, 1) := by decide +kernel
theorem dX11_writeRound_0 : decode cX11_writeRound 0 = .ok (.aload_n 1, 1) := by decide +kernel
theorem dX11_writeRound_1 : decode cX11_writeRound 1 = .ok (.getfield 182, 3) := by decide +kernel
theorem dX11_writeRound_4 : decode cX11_writeRound 4 = .ok (.iconst (-1), 1) := by decide +kernel
theorem dX11_writeRound_5 : decode cX11_writeRound 5 = .ok (.if_icmp .ne 27, 3) := by decide +kernel
theorem dX11_writeRound_8 : decode cX11_writeRound 8 = .ok (.aload_n 0, 1) := by decide +kernel
theorem dX11_writeRound_9 : decode cX11_writeRound 9 = .ok (.getfield 54, 3) := by decide +kernel
theorem dX11_writeRound_12 : decode cX11_writeRound 12 = .ok (.aload_n 1, 1) := by decide +kernel
theorem dX11_writeRound_13 : decode cX11_writeRound 13 = .ok (.getfield 375, 3) := by decide +kernel
theorem dX11_writeRound_16 : decode cX11_writeRound 16 = .ok (.invokevirtual 249, 3) := by decide +kernel
theorem dX11_writeRound_19 : decode cX11_writeRound 19 = .ok (.aload_n 0, 1) := by decide +kernel
theorem dX11_writeRound_20 : decode cX11_writeRound 20 = .ok (.getfield 54, 3) := by decide +kernel
theorem dX11_writeRound_23 : decode cX11_writeRound 23 = .ok (.bipush 33, 2) := by decide +kernel
theorem dX11_writeRound_25 : decode cX11_writeRound 25 = .ok (.invokevirtual 252, 3) := by decide +kernel
theorem dX11_writeRound_28 : decode cX11_writeRound 28 = .ok (.pop, 1) := by decide +kernel
theorem dX11_writeRound_29 : decode cX11_writeRound 29 = .ok (.goto 36, 3) := by decide +kernel
theorem dX11_writeRound_32 : decode cX11_writeRound 32 = .ok (.aload_n 0, 1) := by decide +kernel
theorem dX11_writeRound_33 : decode cX11_writeRound 33 = .ok (.getfield 54, 3) := by decide +kernel
theorem dX11_writeRound_36 : decode cX11_writeRound 36 = .ok (.aload_n 1, 1) := by decide +kernel
theorem dX11_writeRound_37 : decode cX11_writeRound 37 = .ok (.getfield 182, 3) := by decide +kernel
theorem dX11_writeRound_40 : decode cX11_writeRound 40 = .ok (.invokevirtual 249, 3) := by decide +kernel
theorem dX11_writeRound_43 : decode cX11_writeRound 43 = .ok (.aload_n 0, 1) := by decide +kernel
theorem dX11_writeRound_44 : decode cX11_writeRound 44 = .ok (.getfield 54, 3) := by decide +kernel
theorem dX11_writeRound_47 : decode cX11_writeRound 47 = .ok (.aload_n 1, 1) := by decide +kernel
theorem dX11_writeRound_48 : decode cX11_writeRound 48 = .ok (.getfield 185, 3) := by decide +kernel
theorem dX11_writeRound_51 : decode cX11_writeRound 51 = .ok (.ifCond .eq 8, 3) := by decide +kernel
theorem dX11_writeRound_54 : decode cX11_writeRound 54 = .ok (.bipush 42, 2) := by decide +kernel
theorem dX11_writeRound_56 : decode cX11_writeRound 56 = .ok (.goto 5, 3) := by decide +kernel
theorem dX11_writeRound_59 : decode cX11_writeRound 59 = .ok (.bipush 45, 2) := by decide +kernel
theorem dX11_writeRound_61 : decode cX11_writeRound 61 = .ok (.invokevirtual 252, 3) := by decide +kernel
theorem dX11_writeRound_64 : decode cX11_writeRound 64 = .ok (.pop, 1) := by decide +kernel
theorem dX11_writeRound_65 : decode cX11_writeRound 65 = .ok (.return_, 1) := by decide +kernel
theorem dX11_carryOutAll_0 : decode cX11_carryOutAll 0 = .ok (.aload_n 0, 1) := by decide +kernel
theorem dX11_carryOutAll_1 : decode cX11_carryOutAll 1 = .ok (.getfield 16, 3) := by decide +kernel
theorem dX11_carryOutAll_4 : decode cX11_carryOutAll 4 = .ok (.aload_n 0, 1) := by decide +kernel
theorem dX11_carryOutAll_5 : decode cX11_carryOutAll 5 = .ok (.getfield 10, 3) := by decide +kernel
theorem dX11_carryOutAll_8 : decode cX11_carryOutAll 8 = .ok (.invokevirtual 72, 3) := by decide +kernel
theorem dX11_carryOutAll_11 : decode cX11_carryOutAll 11 = .ok (.aload_n 0, 1) := by decide +kernel
theorem dX11_carryOutAll_12 : decode cX11_carryOutAll 12 = .ok (.getfield 61, 3) := by decide +kernel
theorem dX11_carryOutAll_15 : decode cX11_carryOutAll 15 = .ok (.invokevirtual 376, 3) := by decide +kernel
theorem dX11_carryOutAll_18 : decode cX11_carryOutAll 18 = .ok (.iconst 0, 1) := by decide +kernel
theorem dX11_carryOutAll_19 : decode cX11_carryOutAll 19 = .ok (.istore_n 2, 1) := by decide +kernel
theorem dX11_carryOutAll_20 : decode cX11_carryOutAll 20 = .ok (.iload_n 2, 1) := by decide +kernel
theorem dX11_carryOutAll_21 : decode cX11_carryOutAll 21 = .ok (.iload_n 1, 1) := by decide +kernel
theorem dX11_carryOutAll_22 : decode cX11_carryOutAll 22 = .ok (.if_icmp .ge 42, 3) := by decide +kernel
theorem dX11_carryOutAll_25 : decode cX11_carryOutAll 25 = .ok (.aload_n 0, 1) := by decide +kernel
theorem dX11_carryOutAll_26 : decode cX11_carryOutAll 26 = .ok (.getfield 61, 3) := by decide +kernel
theorem dX11_carryOutAll_29 : decode cX11_carryOutAll 29 = .ok (.invokevirtual 379, 3) := by decide +kernel
theorem dX11_carryOutAll_32 : decode cX11_carryOutAll 32 = .ok (.ifCond .eq 13, 3) := by decide +kernel
theorem dX11_carryOutAll_35 : decode cX11_carryOutAll 35 = .ok (.aload_n 0, 1) := by decide +kernel
theorem dX11_carryOutAll_36 : decode cX11_carryOutAll 36 = .ok (.invokevirtual 383, 3) := by decide +kernel
theorem dX11_carryOutAll_39 : decode cX11_carryOutAll 39 = .ok (.getstatic 372, 3) := by decide +kernel
theorem dX11_carryOutAll_42 : decode cX11_carryOutAll 42 = .ok (.if_acmp .eq 16, 3) := by decide +kernel
theorem dX11_carryOutAll_45 : decode cX11_carryOutAll 45 = .ok (.aload_n 0, 1) := by decide +kernel
theorem dX11_carryOutAll_46 : decode cX11_carryOutAll 46 = .ok (.getfield 10, 3) := by decide +kernel
theorem dX11_carryOutAll_49 : decode cX11_carryOutAll 49 = .ok (.aload_n 0, 1) := by decide +kernel
theorem dX11_carryOutAll_50 : decode cX11_carryOutAll 50 = .ok (.getfield 16, 3) := by decide +kernel
theorem dX11_carryOutAll_53 : decode cX11_carryOutAll 53 = .ok (.invokevirtual 72, 3) := by decide +kernel
theorem dX11_carryOutAll_56 : decode cX11_carryOutAll 56 = .ok (.iload_n 2, 1) := by decide +kernel
theorem dX11_carryOutAll_57 : decode cX11_carryOutAll 57 = .ok (.ireturn, 1) := by decide +kernel
theorem dX11_carryOutAll_58 : decode cX11_carryOutAll 58 = .ok (.iinc 2 1, 3) := by decide +kernel
theorem dX11_carryOutAll_61 : decode cX11_carryOutAll 61 = .ok (.goto (-41), 3) := by decide +kernel
theorem dX11_carryOutAll_64 : decode cX11_carryOutAll 64 = .ok (.aload_n 0, 1) := by decide +kernel
theorem dX11_carryOutAll_65 : decode cX11_carryOutAll 65 = .ok (.getfield 29, 3) := by decide +kernel
theorem dX11_carryOutAll_68 : decode cX11_carryOutAll 68 = .ok (.aload_n 0, 1) := by decide +kernel
theorem dX11_carryOutAll_69 : decode cX11_carryOutAll 69 = .ok (.getfield 16, 3) := by decide +kernel
theorem dX11_carryOutAll_72 : decode cX11_carryOutAll 72 = .ok (.invokevirtual 339, 3) := by decide +kernel
theorem dX11_carryOutAll_75 : decode cX11_carryOutAll 75 = .ok (.iconst (-1), 1) := by decide +kernel
theorem dX11_carryOutAll_76 : decode cX11_carryOutAll 76 = .ok (.ireturn, 1) := by decide +kernel
theorem dX11_carryOut_0 : decode cX11_carryOut 0 = .ok (.aload_n 0, 1) := by decide +kernel
theorem dX11_carryOut_1 : decode cX11_carryOut 1 = .ok (.getfield 61, 3) := by decide +kernel
theorem dX11_carryOut_4 : decode cX11_carryOut 4 = .ok (.getfield 386, 3) := by decide +kernel
theorem dX11_carryOut_7 : decode cX11_carryOut 7 = .ok (.iconst 0, 1) := by decide +kernel
theorem dX11_carryOut_8 : decode cX11_carryOut 8 = .ok (.iaload, 1) := by decide +kernel
theorem dX11_carryOut_9 : decode cX11_carryOut 9 = .ok (.istore_n 1, 1) := by decide +kernel
theorem dX11_carryOut_10 : decode cX11_carryOut 10 = .ok (.aload_n 0, 1) := by decide +kernel
theorem dX11_carryOut_11 : decode cX11_carryOut 11 = .ok (.getfield 61, 3) := by decide +kernel
theorem dX11_carryOut_14 : decode cX11_carryOut 14 = .ok (.getfield 386, 3) := by decide +kernel
theorem dX11_carryOut_17 : decode cX11_carryOut 17 = .ok (.iconst 1, 1) := by decide +kernel
theorem dX11_carryOut_18 : decode cX11_carryOut 18 = .ok (.iaload, 1) := by decide +kernel
theorem dX11_carryOut_19 : decode cX11_carryOut 19 = .ok (.istore_n 2, 1) := by decide +kernel
theorem dX11_carryOut_20 : decode cX11_carryOut 20 = .ok (.getstatic 389, 3) := by decide +kernel
theorem dX11_carryOut_23 : decode cX11_carryOut 23 = .ok (.aload_n 0, 1) := by decide +kernel
theorem dX11_carryOut_24 : decode cX11_carryOut 24 = .ok (.getfield 61, 3) := by decide +kernel
theorem dX11_carryOut_27 : decode cX11_carryOut 27 = .ok (.getfield 392, 3) := by decide +kernel
theorem dX11_carryOut_30 : decode cX11_carryOut 30 = .ok (.invokevirtual 396, 3) := by decide +kernel
theorem dX11_carryOut_33 : decode cX11_carryOut 33 = .ok (.iaload, 1) := by decide +kernel
theorem dX11_carryOut_34 : decode cX11_carryOut 34 = .ok (.tableswitch 105 1 8 #[46, 54, 63, 68, 78, 87, 97, 105], 46) := by decide +kernel
theorem dX11_carryOut_80 : decode cX11_carryOut 80 = .ok (.aload_n 0, 1) := by decide +kernel
theorem dX11_carryOut_81 : decode cX11_carryOut 81 = .ok (.getfield 10, 3) := by decide +kernel
theorem dX11_carryOut_84 : decode cX11_carryOut 84 = .ok (.invokevirtual 76, 3) := by decide +kernel
theorem dX11_carryOut_87 : decode cX11_carryOut 87 = .ok (.areturn, 1) := by decide +kernel
theorem dX11_carryOut_88 : decode cX11_carryOut 88 = .ok (.aload_n 0, 1) := by decide +kernel
theorem dX11_carryOut_89 : decode cX11_carryOut 89 = .ok (.getfield 10, 3) := by decide +kernel
theorem dX11_carryOut_92 : decode cX11_carryOut 92 = .ok (.iload_n 1, 1) := by decide +kernel
theorem dX11_carryOut_93 : decode cX11_carryOut 93 = .ok (.invokevirtual 87, 3) := by decide +kernel
theorem dX11_carryOut_96 : decode cX11_carryOut 96 = .ok (.areturn, 1) := by decide +kernel
theorem dX11_carryOut_97 : decode cX11_carryOut 97 = .ok (.aload_n 0, 1) := by decide +kernel
theorem dX11_carryOut_98 : decode cX11_carryOut 98 = .ok (.invokevirtual 399, 3) := by decide +kernel
theorem dX11_carryOut_101 : decode cX11_carryOut 101 = .ok (.areturn, 1) := by decide +kernel
theorem dX11_carryOut_102 : decode cX11_carryOut 102 = .ok (.aload_n 0, 1) := by decide +kernel
theorem dX11_carryOut_103 : decode cX11_carryOut 103 = .ok (.getfield 10, 3) := by decide +kernel
theorem dX11_carryOut_106 : decode cX11_carryOut 106 = .ok (.iload_n 1, 1) := by decide +kernel
theorem dX11_carryOut_107 : decode cX11_carryOut 107 = .ok (.iload_n 2, 1) := by decide +kernel
theorem dX11_carryOut_108 : decode cX11_carryOut 108 = .ok (.invokevirtual 113, 3) := by decide +kernel
theorem dX11_carryOut_111 : decode cX11_carryOut 111 = .ok (.areturn, 1) := by decide +kernel
theorem dX11_carryOut_112 : decode cX11_carryOut 112 = .ok (.aload_n 0, 1) := by decide +kernel
theorem dX11_carryOut_113 : decode cX11_carryOut 113 = .ok (.getfield 10, 3) := by decide +kernel
theorem dX11_carryOut_116 : decode cX11_carryOut 116 = .ok (.iload_n 1, 1) := by decide +kernel
theorem dX11_carryOut_117 : decode cX11_carryOut 117 = .ok (.invokevirtual 128, 3) := by decide +kernel
theorem dX11_carryOut_120 : decode cX11_carryOut 120 = .ok (.areturn, 1) := by decide +kernel
theorem dX11_carryOut_121 : decode cX11_carryOut 121 = .ok (.aload_n 0, 1) := by decide +kernel
theorem dX11_carryOut_122 : decode cX11_carryOut 122 = .ok (.getfield 10, 3) := by decide +kernel
theorem dX11_carryOut_125 : decode cX11_carryOut 125 = .ok (.iload_n 1, 1) := by decide +kernel
theorem dX11_carryOut_126 : decode cX11_carryOut 126 = .ok (.iload_n 2, 1) := by decide +kernel
theorem dX11_carryOut_127 : decode cX11_carryOut 127 = .ok (.invokevirtual 131, 3) := by decide +kernel
theorem dX11_carryOut_130 : decode cX11_carryOut 130 = .ok (.areturn, 1) := by decide +kernel
theorem dX11_carryOut_131 : decode cX11_carryOut 131 = .ok (.aload_n 0, 1) := by decide +kernel
theorem dX11_carryOut_132 : decode cX11_carryOut 132 = .ok (.getfield 10, 3) := by decide +kernel
theorem dX11_carryOut_135 : decode cX11_carryOut 135 = .ok (.invokevirtual 231, 3) := by decide +kernel
theorem dX11_carryOut_138 : decode cX11_carryOut 138 = .ok (.areturn, 1) := by decide +kernel
theorem dX11_carryOut_139 : decode cX11_carryOut 139 = .ok (.aload_n 0, 1) := by decide +kernel
theorem dX11_carryOut_140 : decode cX11_carryOut 140 = .ok (.invokevirtual 237, 3) := by decide +kernel
theorem dX11_carryOut_143 : decode cX11_carryOut 143 = .ok (.areturn, 1) := by decide +kernel
theorem dX11_carryOutBallot_0 : decode cX11_carryOutBallot 0 = .ok (.aload_n 0, 1) := by decide +kernel
theorem dX11_carryOutBallot_1 : decode cX11_carryOutBallot 1 = .ok (.getfield 10, 3) := by decide +kernel
theorem dX11_carryOutBallot_4 : decode cX11_carryOutBallot 4 = .ok (.aload_n 0, 1) := by decide +kernel
theorem dX11_carryOutBallot_5 : decode cX11_carryOutBallot 5 = .ok (.getfield 61, 3) := by decide +kernel
theorem dX11_carryOutBallot_8 : decode cX11_carryOutBallot 8 = .ok (.getfield 386, 3) := by decide +kernel
theorem dX11_carryOutBallot_11 : decode cX11_carryOutBallot 11 = .ok (.iconst 0, 1) := by decide +kernel
theorem dX11_carryOutBallot_12 : decode cX11_carryOutBallot 12 = .ok (.iaload, 1) := by decide +kernel
theorem dX11_carryOutBallot_13 : decode cX11_carryOutBallot 13 = .ok (.aload_n 0, 1) := by decide +kernel
theorem dX11_carryOutBallot_14 : decode cX11_carryOutBallot 14 = .ok (.getfield 61, 3) := by decide +kernel
theorem dX11_carryOutBallot_17 : decode cX11_carryOutBallot 17 = .ok (.getfield 386, 3) := by decide +kernel
theorem dX11_carryOutBallot_20 : decode cX11_carryOutBallot 20 = .ok (.iconst 1, 1) := by decide +kernel
theorem dX11_carryOutBallot_21 : decode cX11_carryOutBallot 21 = .ok (.iaload, 1) := by decide +kernel
theorem dX11_carryOutBallot_22 : decode cX11_carryOutBallot 22 = .ok (.invokevirtual 106, 3) := by decide +kernel
theorem dX11_carryOutBallot_25 : decode cX11_carryOutBallot 25 = .ok (.astore_n 1, 1) := by decide +kernel
theorem dX11_carryOutBallot_26 : decode cX11_carryOutBallot 26 = .ok (.aload_n 0, 1) := by decide +kernel
theorem dX11_carryOutBallot_27 : decode cX11_carryOutBallot 27 = .ok (.getfield 10, 3) := by decide +kernel
theorem dX11_carryOutBallot_30 : decode cX11_carryOutBallot 30 = .ok (.getfield 110, 3) := by decide +kernel
theorem dX11_carryOutBallot_33 : decode cX11_carryOutBallot 33 = .ok (.iconst 1, 1) := by decide +kernel
theorem dX11_carryOutBallot_34 : decode cX11_carryOutBallot 34 = .ok (.isub, 1) := by decide +kernel
theorem dX11_carryOutBallot_35 : decode cX11_carryOutBallot 35 = .ok (.istore_n 2, 1) := by decide +kernel
theorem dX11_carryOutBallot_36 : decode cX11_carryOutBallot 36 = .ok (.iconst 2, 1) := by decide +kernel
theorem dX11_carryOutBallot_37 : decode cX11_carryOutBallot 37 = .ok (.istore_n 3, 1) := by decide +kernel
theorem dX11_carryOutBallot_38 : decode cX11_carryOutBallot 38 = .ok (.iload_n 3, 1) := by decide +kernel
theorem dX11_carryOutBallot_39 : decode cX11_carryOutBallot 39 = .ok (.aload_n 0, 1) := by decide +kernel
theorem dX11_carryOutBallot_40 : decode cX11_carryOutBallot 40 = .ok (.getfield 61, 3) := by decide +kernel
theorem dX11_carryOutBallot_43 : decode cX11_carryOutBallot 43 = .ok (.getfield 402, 3) := by decide +kernel
theorem dX11_carryOutBallot_46 : decode cX11_carryOutBallot 46 = .ok (.if_icmp .ge 34, 3) := by decide +kernel
theorem dX11_carryOutBallot_49 : decode cX11_carryOutBallot 49 = .ok (.aload_n 1, 1) := by decide +kernel
theorem dX11_carryOutBallot_50 : decode cX11_carryOutBallot 50 = .ok (.getstatic 372, 3) := by decide +kernel
theorem dX11_carryOutBallot_53 : decode cX11_carryOutBallot 53 = .ok (.if_acmp .ne 27, 3) := by decide +kernel
theorem dX11_carryOutBallot_56 : decode cX11_carryOutBallot 56 = .ok (.aload_n 0, 1) := by decide +kernel
theorem dX11_carryOutBallot_57 : decode cX11_carryOutBallot 57 = .ok (.getfield 10, 3) := by decide +kernel
theorem dX11_carryOutBallot_60 : decode cX11_carryOutBallot 60 = .ok (.iload_n 2, 1) := by decide +kernel
theorem dX11_carryOutBallot_61 : decode cX11_carryOutBallot 61 = .ok (.aload_n 0, 1) := by decide +kernel
theorem dX11_carryOutBallot_62 : decode cX11_carryOutBallot 62 = .ok (.getfield 61, 3) := by decide +kernel
theorem dX11_carryOutBallot_65 : decode cX11_carryOutBallot 65 = .ok (.getfield 386, 3) := by decide +kernel
theorem dX11_carryOutBallot_68 : decode cX11_carryOutBallot 68 = .ok (.iload_n 3, 1) := by decide +kernel
theorem dX11_carryOutBallot_69 : decode cX11_carryOutBallot 69 = .ok (.iaload, 1) := by decide +kernel
theorem dX11_carryOutBallot_70 : decode cX11_carryOutBallot 70 = .ok (.invokevirtual 113, 3) := by decide +kernel
theorem dX11_carryOutBallot_73 : decode cX11_carryOutBallot 73 = .ok (.astore_n 1, 1) := by decide +kernel
theorem dX11_carryOutBallot_74 : decode cX11_carryOutBallot 74 = .ok (.iinc 3 1, 3) := by decide +kernel
theorem dX11_carryOutBallot_77 : decode cX11_carryOutBallot 77 = .ok (.goto (-39), 3) := by decide +kernel
theorem dX11_carryOutBallot_80 : decode cX11_carryOutBallot 80 = .ok (.aload_n 1, 1) := by decide +kernel
theorem dX11_carryOutBallot_81 : decode cX11_carryOutBallot 81 = .ok (.areturn, 1) := by decide +kernel
theorem dX11_spun_0 : decode cX11_spun 0 = .ok (.iconst 5, 1) := by decide +kernel
theorem dX11_spun_1 : decode cX11_spun 1 = .ok (.iload_n 0, 1) := by decide +kernel
theorem dX11_spun_2 : decode cX11_spun 2 = .ok (.imul, 1) := by decide +kernel
theorem dX11_spun_3 : decode cX11_spun 3 = .ok (.iconst 3, 1) := by decide +kernel
theorem dX11_spun_4 : decode cX11_spun 4 = .ok (.iadd, 1) := by decide +kernel
theorem dX11_spun_5 : decode cX11_spun 5 = .ok (.bipush 16, 2) := by decide +kernel
theorem dX11_spun_7 : decode cX11_spun 7 = .ok (.irem, 1) := by decide +kernel
theorem dX11_spun_8 : decode cX11_spun 8 = .ok (.ireturn, 1) := by decide +kernel
theorem dX12_init_0 : decode cX12_init 0 = .ok (.aload_n 0, 1) := by decide +kernel
theorem dX12_init_1 : decode cX12_init 1 = .ok (.invokespecial 1, 3) := by decide +kernel
theorem dX12_init_4 : decode cX12_init 4 = .ok (.aload_n 0, 1) := by decide +kernel
theorem dX12_init_5 : decode cX12_init 5 = .ok (.sipush 160, 3) := by decide +kernel
theorem dX12_init_8 : decode cX12_init 8 = .ok (.newarray .int, 2) := by decide +kernel
theorem dX12_init_10 : decode cX12_init 10 = .ok (.putfield 7, 3) := by decide +kernel
theorem dX12_init_13 : decode cX12_init 13 = .ok (.aload_n 0, 1) := by decide +kernel
theorem dX12_init_14 : decode cX12_init 14 = .ok (.sipush 1280, 3) := by decide +kernel
theorem dX12_init_17 : decode cX12_init 17 = .ok (.newarray .int, 2) := by decide +kernel
theorem dX12_init_19 : decode cX12_init 19 = .ok (.putfield 13, 3) := by decide +kernel
theorem dX12_init_22 : decode cX12_init 22 = .ok (.aload_n 0, 1) := by decide +kernel
theorem dX12_init_23 : decode cX12_init 23 = .ok (.sipush 160, 3) := by decide +kernel
theorem dX12_init_26 : decode cX12_init 26 = .ok (.newarray .int, 2) := by decide +kernel
theorem dX12_init_28 : decode cX12_init 28 = .ok (.putfield 16, 3) := by decide +kernel
theorem dX12_init_31 : decode cX12_init 31 = .ok (.aload_n 0, 1) := by decide +kernel
theorem dX12_init_32 : decode cX12_init 32 = .ok (.sipush 160, 3) := by decide +kernel
theorem dX12_init_35 : decode cX12_init 35 = .ok (.newarray .int, 2) := by decide +kernel
theorem dX12_init_37 : decode cX12_init 37 = .ok (.putfield 19, 3) := by decide +kernel
theorem dX12_init_40 : decode cX12_init 40 = .ok (.aload_n 0, 1) := by decide +kernel
theorem dX12_init_41 : decode cX12_init 41 = .ok (.bipush 60, 2) := by decide +kernel
theorem dX12_init_43 : decode cX12_init 43 = .ok (.newarray .int, 2) := by decide +kernel
theorem dX12_init_45 : decode cX12_init 45 = .ok (.putfield 22, 3) := by decide +kernel
theorem dX12_init_48 : decode cX12_init 48 = .ok (.aload_n 0, 1) := by decide +kernel
theorem dX12_init_49 : decode cX12_init 49 = .ok (.iconst (-1), 1) := by decide +kernel
theorem dX12_init_50 : decode cX12_init 50 = .ok (.putfield 25, 3) := by decide +kernel
theorem dX12_init_53 : decode cX12_init 53 = .ok (.aload_n 0, 1) := by decide +kernel
theorem dX12_init_54 : decode cX12_init 54 = .ok (.iconst (-1), 1) := by decide +kernel
theorem dX12_init_55 : decode cX12_init 55 = .ok (.putfield 29, 3) := by decide +kernel
theorem dX12_init_58 : decode cX12_init 58 = .ok (.aload_n 0, 1) := by decide +kernel
theorem dX12_init_59 : decode cX12_init 59 = .ok (.bipush 60, 2) := by decide +kernel
theorem dX12_init_61 : decode cX12_init 61 = .ok (.newarray .char, 2) := by decide +kernel
theorem dX12_init_63 : decode cX12_init 63 = .ok (.putfield 32, 3) := by decide +kernel
theorem dX12_init_66 : decode cX12_init 66 = .ok (.aload_n 0, 1) := by decide +kernel
theorem dX12_init_67 : decode cX12_init 67 = .ok (.bipush 64, 2) := by decide +kernel
theorem dX12_init_69 : decode cX12_init 69 = .ok (.newarray .int, 2) := by decide +kernel
theorem dX12_init_71 : decode cX12_init 71 = .ok (.putfield 36, 3) := by decide +kernel
theorem dX12_init_74 : decode cX12_init 74 = .ok (.aload_n 0, 1) := by decide +kernel
theorem dX12_init_75 : decode cX12_init 75 = .ok (.bipush 8, 2) := by decide +kernel
theorem dX12_init_77 : decode cX12_init 77 = .ok (.newarray .int, 2) := by decide +kernel
theorem dX12_init_79 : decode cX12_init 79 = .ok (.putfield 39, 3) := by decide +kernel
theorem dX12_init_82 : decode cX12_init 82 = .ok (.aload_n 0, 1) := by decide +kernel
theorem dX12_init_83 : decode cX12_init 83 = .ok (.bipush 8, 2) := by decide +kernel
theorem dX12_init_85 : decode cX12_init 85 = .ok (.newarray .int, 2) := by decide +kernel
theorem dX12_init_87 : decode cX12_init 87 = .ok (.putfield 42, 3) := by decide +kernel
theorem dX12_init_90 : decode cX12_init 90 = .ok (.aload_n 0, 1) := by decide +kernel
theorem dX12_init_91 : decode cX12_init 91 = .ok (.bipush 8, 2) := by decide +kernel
theorem dX12_init_93 : decode cX12_init 93 = .ok (.newarray .boolean, 2) := by decide +kernel
theorem dX12_init_95 : decode cX12_init 95 = .ok (.putfield 45, 3) := by decide +kernel
theorem dX12_init_98 : decode cX12_init 98 = .ok (.aload_n 0, 1) := by decide +kernel
theorem dX12_init_99 : decode cX12_init 99 = .ok (.sipush 155, 3) := by decide +kernel
theorem dX12_init_102 : decode cX12_init 102 = .ok (.newarray .int, 2) := by decide +kernel
theorem dX12_init_104 : decode cX12_init 104 = .ok (.putfield 49, 3) := by decide +kernel
theorem dX12_init_107 : decode cX12_init 107 = .ok (.return_, 1) := by decide +kernel
theorem dX12_thrown_0 : decode cX12_thrown 0 = .ok (.aload_n 0, 1) := by decide +kernel
theorem dX12_thrown_1 : decode cX12_thrown 1 = .ok (.getfield 52, 3) := by decide +kernel
theorem dX12_thrown_4 : decode cX12_thrown 4 = .ok (.ireturn, 1) := by decide +kernel
theorem dX12_fails_0 : decode cX12_fails 0 = .ok (.aload_n 0, 1) := by decide +kernel
theorem dX12_fails_1 : decode cX12_fails 1 = .ok (.iload_n 1, 1) := by decide +kernel
theorem dX12_fails_2 : decode cX12_fails 2 = .ok (.putfield 52, 3) := by decide +kernel
theorem dX12_fails_5 : decode cX12_fails 5 = .ok (.iload_n 1, 1) := by decide +kernel
theorem dX12_fails_6 : decode cX12_fails 6 = .ok (.ifCond .le 7, 3) := by decide +kernel
theorem dX12_fails_9 : decode cX12_fails 9 = .ok (.iconst 1, 1) := by decide +kernel
theorem dX12_fails_10 : decode cX12_fails 10 = .ok (.goto 4, 3) := by decide +kernel
theorem dX12_fails_13 : decode cX12_fails 13 = .ok (.iconst 0, 1) := by decide +kernel
theorem dX12_fails_14 : decode cX12_fails 14 = .ok (.ireturn, 1) := by decide +kernel
theorem dX12_in_0 : decode cX12_in 0 = .ok (.iload_n 0, 1) := by decide +kernel
theorem dX12_in_1 : decode cX12_in 1 = .ok (.iload_n 1, 1) := by decide +kernel
theorem dX12_in_2 : decode cX12_in 2 = .ok (.if_icmp .lt 12, 3) := by decide +kernel
theorem dX12_in_5 : decode cX12_in 5 = .ok (.iload_n 0, 1) := by decide +kernel
theorem dX12_in_6 : decode cX12_in 6 = .ok (.iload_n 2, 1) := by decide +kernel
theorem dX12_in_7 : decode cX12_in 7 = .ok (.if_icmp .gt 7, 3) := by decide +kernel
theorem dX12_in_10 : decode cX12_in 10 = .ok (.iconst 1, 1) := by decide +kernel
theorem dX12_in_11 : decode cX12_in 11 = .ok (.goto 4, 3) := by decide +kernel
theorem dX12_in_14 : decode cX12_in 14 = .ok (.iconst 0, 1) := by decide +kernel
theorem dX12_in_15 : decode cX12_in 15 = .ok (.ireturn, 1) := by decide +kernel
theorem dX12_copies_0 : decode cX12_copies 0 = .ok (.iconst 0, 1) := by decide +kernel
theorem dX12_copies_1 : decode cX12_copies 1 = .ok (.istore 4, 2) := by decide +kernel
theorem dX12_copies_3 : decode cX12_copies 3 = .ok (.iload 4, 2) := by decide +kernel
theorem dX12_copies_5 : decode cX12_copies 5 = .ok (.sipush 160, 3) := by decide +kernel
theorem dX12_copies_8 : decode cX12_copies 8 = .ok (.if_icmp .ge 21, 3) := by decide +kernel
theorem dX12_copies_11 : decode cX12_copies 11 = .ok (.aload_n 2, 1) := by decide +kernel
theorem dX12_copies_12 : decode cX12_copies 12 = .ok (.iload_n 3, 1) := by decide +kernel
theorem dX12_copies_13 : decode cX12_copies 13 = .ok (.iload 4, 2) := by decide +kernel
theorem dX12_copies_15 : decode cX12_copies 15 = .ok (.iadd, 1) := by decide +kernel
theorem dX12_copies_16 : decode cX12_copies 16 = .ok (.aload_n 0, 1) := by decide +kernel
theorem dX12_copies_17 : decode cX12_copies 17 = .ok (.iload_n 1, 1) := by decide +kernel
theorem dX12_copies_18 : decode cX12_copies 18 = .ok (.iload 4, 2) := by decide +kernel
theorem dX12_copies_20 : decode cX12_copies 20 = .ok (.iadd, 1) := by decide +kernel
theorem dX12_copies_21 : decode cX12_copies 21 = .ok (.iaload, 1) := by decide +kernel
theorem dX12_copies_22 : decode cX12_copies 22 = .ok (.iastore, 1) := by decide +kernel
theorem dX12_copies_23 : decode cX12_copies 23 = .ok (.iinc 4 1, 3) := by decide +kernel
theorem dX12_copies_26 : decode cX12_copies 26 = .ok (.goto (-23), 3) := by decide +kernel
theorem dX12_copies_29 : decode cX12_copies 29 = .ok (.return_, 1) := by decide +kernel
theorem dX12_keeps_0 : decode cX12_keeps 0 = .ok (.aload_n 0, 1) := by decide +kernel
theorem dX12_keeps_1 : decode cX12_keeps 1 = .ok (.iconst 0, 1) := by decide +kernel
theorem dX12_keeps_2 : decode cX12_keeps 2 = .ok (.putfield 52, 3) := by decide +kernel
theorem dX12_keeps_5 : decode cX12_keeps 5 = .ok (.aload_n 0, 1) := by decide +kernel
theorem dX12_keeps_6 : decode cX12_keeps 6 = .ok (.getfield 55, 3) := by decide +kernel
theorem dX12_keeps_9 : decode cX12_keeps 9 = .ok (.ifCond .eq 4, 3) := by decide +kernel
theorem dX12_keeps_12 : decode cX12_keeps 12 = .ok (.return_, 1) := by decide +kernel
theorem dX12_keeps_13 : decode cX12_keeps 13 = .ok (.aload_n 0, 1) := by decide +kernel
theorem dX12_keeps_14 : decode cX12_keeps 14 = .ok (.getfield 59, 3) := by decide +kernel
theorem dX12_keeps_17 : decode cX12_keeps 17 = .ok (.bipush 8, 2) := by decide +kernel
theorem dX12_keeps_19 : decode cX12_keeps 19 = .ok (.if_icmp .ne 44, 3) := by decide +kernel
theorem dX12_keeps_22 : decode cX12_keeps 22 = .ok (.iconst 0, 1) := by decide +kernel
theorem dX12_keeps_23 : decode cX12_keeps 23 = .ok (.istore_n 2, 1) := by decide +kernel
theorem dX12_keeps_24 : decode cX12_keeps 24 = .ok (.iload_n 2, 1) := by decide +kernel
theorem dX12_keeps_25 : decode cX12_keeps 25 = .ok (.sipush 1120, 3) := by decide +kernel
theorem dX12_keeps_28 : decode cX12_keeps 28 = .ok (.if_icmp .ge 25, 3) := by decide +kernel
theorem dX12_keeps_31 : decode cX12_keeps 31 = .ok (.aload_n 0, 1) := by decide +kernel
theorem dX12_keeps_32 : decode cX12_keeps 32 = .ok (.getfield 13, 3) := by decide +kernel
theorem dX12_keeps_35 : decode cX12_keeps 35 = .ok (.iload_n 2, 1) := by decide +kernel
theorem dX12_keeps_36 : decode cX12_keeps 36 = .ok (.aload_n 0, 1) := by decide +kernel
theorem dX12_keeps_37 : decode cX12_keeps 37 = .ok (.getfield 13, 3) := by decide +kernel
theorem dX12_keeps_40 : decode cX12_keeps 40 = .ok (.iload_n 2, 1) := by decide +kernel
theorem dX12_keeps_41 : decode cX12_keeps 41 = .ok (.sipush 160, 3) := by decide +kernel
theorem dX12_keeps_44 : decode cX12_keeps 44 = .ok (.iadd, 1) := by decide +kernel
theorem dX12_keeps_45 : decode cX12_keeps 45 = .ok (.iaload, 1) := by decide +kernel
theorem dX12_keeps_46 : decode cX12_keeps 46 = .ok (.iastore, 1) := by decide +kernel
theorem dX12_keeps_47 : decode cX12_keeps 47 = .ok (.iinc 2 1, 3) := by decide +kernel
theorem dX12_keeps_50 : decode cX12_keeps 50 = .ok (.goto (-26), 3) := by decide +kernel
theorem dX12_keeps_53 : decode cX12_keeps 53 = .ok (.aload_n 0, 1) := by decide +kernel
theorem dX12_keeps_54 : decode cX12_keeps 54 = .ok (.dup, 1) := by decide +kernel
theorem dX12_keeps_55 : decode cX12_keeps 55 = .ok (.getfield 59, 3) := by decide +kernel
theorem dX12_keeps_58 : decode cX12_keeps 58 = .ok (.iconst 1, 1) := by decide +kernel
theorem dX12_keeps_59 : decode cX12_keeps 59 = .ok (.isub, 1) := by decide +kernel
theorem dX12_keeps_60 : decode cX12_keeps 60 = .ok (.putfield 59, 3) := by decide +kernel
theorem dX12_keeps_63 : decode cX12_keeps 63 = .ok (.aload_n 1, 1) := by decide +kernel
theorem dX12_keeps_64 : decode cX12_keeps 64 = .ok (.iconst 0, 1) := by decide +kernel
theorem dX12_keeps_65 : decode cX12_keeps 65 = .ok (.aload_n 0, 1) := by decide +kernel
theorem dX12_keeps_66 : decode cX12_keeps 66 = .ok (.getfield 13, 3) := by decide +kernel
theorem dX12_keeps_69 : decode cX12_keeps 69 = .ok (.sipush 160, 3) := by decide +kernel
theorem dX12_keeps_72 : decode cX12_keeps 72 = .ok (.aload_n 0, 1) := by decide +kernel
theorem dX12_keeps_73 : decode cX12_keeps 73 = .ok (.getfield 59, 3) := by decide +kernel
theorem dX12_keeps_76 : decode cX12_keeps 76 = .ok (.imul, 1) := by decide +kernel
theorem dX12_keeps_77 : decode cX12_keeps 77 = .ok (.invokestatic 62, 3) := by decide +kernel
theorem dX12_keeps_80 : decode cX12_keeps 80 = .ok (.aload_n 0, 1) := by decide +kernel
theorem dX12_keeps_81 : decode cX12_keeps 81 = .ok (.dup, 1) := by decide +kernel
theorem dX12_keeps_82 : decode cX12_keeps 82 = .ok (.getfield 59, 3) := by decide +kernel
theorem dX12_keeps_85 : decode cX12_keeps 85 = .ok (.iconst 1, 1) := by decide +kernel
theorem dX12_keeps_86 : decode cX12_keeps 86 = .ok (.iadd, 1) := by decide +kernel
theorem dX12_keeps_87 : decode cX12_keeps 87 = .ok (.putfield 59, 3) := by decide +kernel
theorem dX12_keeps_90 : decode cX12_keeps 90 = .ok (.return_, 1) := by decide +kernel
theorem dX12_isWind_0 : decode cX12_isWind 0 = .ok (.iload_n 1, 1) := by decide +kernel
theorem dX12_isWind_1 : decode cX12_isWind 1 = .ok (.iconst 0, 1) := by decide +kernel
theorem dX12_isWind_2 : decode cX12_isWind 2 = .ok (.aload_n 0, 1) := by decide +kernel
theorem dX12_isWind_3 : decode cX12_isWind 3 = .ok (.getfield 7, 3) := by decide +kernel
theorem dX12_isWind_6 : decode cX12_isWind 6 = .ok (.iconst 0, 1) := by decide +kernel
theorem dX12_isWind_7 : decode cX12_isWind 7 = .ok (.iaload, 1) := by decide +kernel
theorem dX12_isWind_8 : decode cX12_isWind 8 = .ok (.iconst 1, 1) := by decide +kernel
theorem dX12_isWind_9 : decode cX12_isWind 9 = .ok (.isub, 1) := by decide +kernel
theorem dX12_isWind_10 : decode cX12_isWind 10 = .ok (.invokestatic 66, 3) := by decide +kernel
theorem dX12_isWind_13 : decode cX12_isWind 13 = .ok (.ireturn, 1) := by decide +kernel
theorem dX12_stands_0 : decode cX12_stands 0 = .ok (.aload_n 0, 1) := by decide +kernel
theorem dX12_stands_1 : decode cX12_stands 1 = .ok (.getfield 7, 3) := by decide +kernel
theorem dX12_stands_4 : decode cX12_stands 4 = .ok (.iconst 4, 1) := by decide +kernel
theorem dX12_stands_5 : decode cX12_stands 5 = .ok (.iload_n 1, 1) := by decide +kernel
theorem dX12_stands_6 : decode cX12_stands 6 = .ok (.iadd, 1) := by decide +kernel
theorem dX12_stands_7 : decode cX12_stands 7 = .ok (.iaload, 1) := by decide +kernel
theorem dX12_stands_8 : decode cX12_stands 8 = .ok (.ifCond .ne 7, 3) := by decide +kernel
theorem dX12_stands_11 : decode cX12_stands 11 = .ok (.iconst 1, 1) := by decide +kernel
theorem dX12_stands_12 : decode cX12_stands 12 = .ok (.goto 4, 3) := by decide +kernel
theorem dX12_stands_15 : decode cX12_stands 15 = .ok (.iconst 0, 1) := by decide +kernel
theorem dX12_stands_16 : decode cX12_stands 16 = .ok (.ireturn, 1) := by decide +kernel
theorem dX12_standing_0 : decode cX12_standing 0 = .ok (.iconst 0, 1) := by decide +kernel
theorem dX12_standing_1 : decode cX12_standing 1 = .ok (.istore_n 1, 1) := by decide +kernel
theorem dX12_standing_2 : decode cX12_standing 2 = .ok (.iconst 0, 1) := by decide +kernel
theorem dX12_standing_3 : decode cX12_standing 3 = .ok (.istore_n 2, 1) := by decide +kernel
theorem dX12_standing_4 : decode cX12_standing 4 = .ok (.iload_n 2, 1) := by decide +kernel
theorem dX12_standing_5 : decode cX12_standing 5 = .ok (.aload_n 0, 1) := by decide +kernel
theorem dX12_standing_6 : decode cX12_standing 6 = .ok (.getfield 7, 3) := by decide +kernel
theorem dX12_standing_9 : decode cX12_standing 9 = .ok (.iconst 0, 1) := by decide +kernel
theorem dX12_standing_10 : decode cX12_standing 10 = .ok (.iaload, 1) := by decide +kernel
theorem dX12_standing_11 : decode cX12_standing 11 = .ok (.if_icmp .ge 25, 3) := by decide +kernel
theorem dX12_standing_14 : decode cX12_standing 14 = .ok (.iload_n 1, 1) := by decide +kernel
theorem dX12_standing_15 : decode cX12_standing 15 = .ok (.aload_n 0, 1) := by decide +kernel
theorem dX12_standing_16 : decode cX12_standing 16 = .ok (.iload_n 2, 1) := by decide +kernel
theorem dX12_standing_17 : decode cX12_standing 17 = .ok (.invokevirtual 70, 3) := by decide +kernel
theorem dX12_standing_20 : decode cX12_standing 20 = .ok (.ifCond .eq 7, 3) := by decide +kernel
theorem dX12_standing_23 : decode cX12_standing 23 = .ok (.iconst 1, 1) := by decide +kernel
theorem dX12_standing_24 : decode cX12_standing 24 = .ok (.goto 4, 3) := by decide +kernel
theorem dX12_standing_27 : decode cX12_standing 27 = .ok (.iconst 0, 1) := by decide +kernel
theorem dX12_standing_28 : decode cX12_standing 28 = .ok (.iadd, 1) := by decide +kernel
theorem dX12_standing_29 : decode cX12_standing 29 = .ok (.istore_n 1, 1) := by decide +kernel
theorem dX12_standing_30 : decode cX12_standing 30 = .ok (.iinc 2 1, 3) := by decide +kernel
theorem dX12_standing_33 : decode cX12_standing 33 = .ok (.goto (-29), 3) := by decide +kernel
theorem dX12_standing_36 : decode cX12_standing 36 = .ok (.iload_n 1, 1) := by decide +kernel
theorem dX12_standing_37 : decode cX12_standing 37 = .ok (.ireturn, 1) := by decide +kernel
theorem dX12_isNone_0 : decode cX12_isNone 0 = .ok (.aload_n 0, 1) := by decide +kernel
theorem dX12_isNone_1 : decode cX12_isNone 1 = .ok (.aload_n 0, 1) := by decide +kernel
theorem dX12_isNone_2 : decode cX12_isNone 2 = .ok (.iload_n 1, 1) := by decide +kernel
theorem dX12_isNone_3 : decode cX12_isNone 3 = .ok (.invokevirtual 74, 3) := by decide +kernel
theorem dX12_isNone_6 : decode cX12_isNone 6 = .ok (.ifCond .eq 7, 3) := by decide +kernel
theorem dX12_isNone_9 : decode cX12_isNone 9 = .ok (.iconst 0, 1) := by decide +kernel
theorem dX12_isNone_10 : decode cX12_isNone 10 = .ok (.goto 4, 3) := by decide +kernel
theorem dX12_isNone_13 : decode cX12_isNone 13 = .ok (.iconst 1, 1) := by decide +kernel
theorem dX12_isNone_14 : decode cX12_isNone 14 = .ok (.invokevirtual 77, 3) := by decide +kernel
theorem dX12_isNone_17 : decode cX12_isNone 17 = .ok (.ireturn, 1) := by decide +kernel
theorem dX12_addWind_0 : decode cX12_addWind 0 = .ok (.aload_n 0, 1) := by decide +kernel
theorem dX12_addWind_1 : decode cX12_addWind 1 = .ok (.aload_n 0, 1) := by decide +kernel
theorem dX12_addWind_2 : decode cX12_addWind 2 = .ok (.getfield 7, 3) := by decide +kernel
theorem dX12_addWind_5 : decode cX12_addWind 5 = .ok (.iconst 0, 1) := by decide +kernel
theorem dX12_addWind_6 : decode cX12_addWind 6 = .ok (.iaload, 1) := by decide +kernel
theorem dX12_addWind_7 : decode cX12_addWind 7 = .ok (.bipush 8, 2) := by decide +kernel
theorem dX12_addWind_9 : decode cX12_addWind 9 = .ok (.if_icmp .ne 7, 3) := by decide +kernel
theorem dX12_addWind_12 : decode cX12_addWind 12 = .ok (.iconst 1, 1) := by decide +kernel
theorem dX12_addWind_13 : decode cX12_addWind 13 = .ok (.goto 4, 3) := by decide +kernel
theorem dX12_addWind_16 : decode cX12_addWind 16 = .ok (.iconst 0, 1) := by decide +kernel
theorem dX12_addWind_17 : decode cX12_addWind 17 = .ok (.invokevirtual 77, 3) := by decide +kernel
theorem dX12_addWind_20 : decode cX12_addWind 20 = .ok (.ifCond .eq 5, 3) := by decide +kernel
theorem dX12_addWind_23 : decode cX12_addWind 23 = .ok (.iconst 0, 1) := by decide +kernel
theorem dX12_addWind_24 : decode cX12_addWind 24 = .ok (.ireturn, 1) := by decide +kernel
theorem dX12_addWind_25 : decode cX12_addWind 25 = .ok (.aload_n 0, 1) := by decide +kernel
theorem dX12_addWind_26 : decode cX12_addWind 26 = .ok (.aload_n 0, 1) := by decide +kernel
theorem dX12_addWind_27 : decode cX12_addWind 27 = .ok (.getfield 7, 3) := by decide +kernel
theorem dX12_addWind_30 : decode cX12_addWind 30 = .ok (.invokevirtual 80, 3) := by decide +kernel
theorem dX12_addWind_33 : decode cX12_addWind 33 = .ok (.aload_n 0, 1) := by decide +kernel
theorem dX12_addWind_34 : decode cX12_addWind 34 = .ok (.getfield 7, 3) := by decide +kernel
theorem dX12_addWind_37 : decode cX12_addWind 37 = .ok (.iconst 4, 1) := by decide +kernel
theorem dX12_addWind_38 : decode cX12_addWind 38 = .ok (.aload_n 0, 1) := by decide +kernel
theorem dX12_addWind_39 : decode cX12_addWind 39 = .ok (.getfield 7, 3) := by decide +kernel
theorem dX12_addWind_42 : decode cX12_addWind 42 = .ok (.iconst 0, 1) := by decide +kernel
theorem dX12_addWind_43 : decode cX12_addWind 43 = .ok (.iaload, 1) := by decide +kernel
theorem dX12_addWind_44 : decode cX12_addWind 44 = .ok (.iadd, 1) := by decide +kernel
theorem dX12_addWind_45 : decode cX12_addWind 45 = .ok (.iconst 0, 1) := by decide +kernel
theorem dX12_addWind_46 : decode cX12_addWind 46 = .ok (.iastore, 1) := by decide +kernel
theorem dX12_addWind_47 : decode cX12_addWind 47 = .ok (.aload_n 0, 1) := by decide +kernel
theorem dX12_addWind_48 : decode cX12_addWind 48 = .ok (.getfield 7, 3) := by decide +kernel
theorem dX12_addWind_51 : decode cX12_addWind 51 = .ok (.iconst 0, 1) := by decide +kernel
theorem dX12_addWind_52 : decode cX12_addWind 52 = .ok (.dup2, 1) := by decide +kernel
theorem dX12_addWind_53 : decode cX12_addWind 53 = .ok (.iaload, 1) := by decide +kernel
theorem dX12_addWind_54 : decode cX12_addWind 54 = .ok (.iconst 1, 1) := by decide +kernel
theorem dX12_addWind_55 : decode cX12_addWind 55 = .ok (.iadd, 1) := by decide +kernel
theorem dX12_addWind_56 : decode cX12_addWind 56 = .ok (.iastore, 1) := by decide +kernel
theorem dX12_addWind_57 : decode cX12_addWind 57 = .ok (.aload_n 0, 1) := by decide +kernel
theorem dX12_addWind_58 : decode cX12_addWind 58 = .ok (.getfield 7, 3) := by decide +kernel
theorem dX12_addWind_61 : decode cX12_addWind 61 = .ok (.iconst 0, 1) := by decide +kernel
theorem dX12_addWind_62 : decode cX12_addWind 62 = .ok (.iaload, 1) := by decide +kernel
theorem dX12_addWind_63 : decode cX12_addWind 63 = .ok (.iconst 1, 1) := by decide +kernel
theorem dX12_addWind_64 : decode cX12_addWind 64 = .ok (.isub, 1) := by decide +kernel
theorem dX12_addWind_65 : decode cX12_addWind 65 = .ok (.ireturn, 1) := by decide +kernel
theorem dX12_withdraw_0 : decode cX12_withdraw 0 = .ok (.aload_n 0, 1) := by decide +kernel
theorem dX12_withdraw_1 : decode cX12_withdraw 1 = .ok (.aload_n 0, 1) := by decide +kernel
theorem dX12_withdraw_2 : decode cX12_withdraw 2 = .ok (.iload_n 1, 1) := by decide +kernel
theorem dX12_withdraw_3 : decode cX12_withdraw 3 = .ok (.invokevirtual 74, 3) := by decide +kernel
theorem dX12_withdraw_6 : decode cX12_withdraw 6 = .ok (.ifCond .ne 7, 3) := by decide +kernel
theorem dX12_withdraw_9 : decode cX12_withdraw 9 = .ok (.iconst 1, 1) := by decide +kernel
theorem dX12_withdraw_10 : decode cX12_withdraw 10 = .ok (.goto 16, 3) := by decide +kernel
theorem dX12_withdraw_13 : decode cX12_withdraw 13 = .ok (.aload_n 0, 1) := by decide +kernel
theorem dX12_withdraw_14 : decode cX12_withdraw 14 = .ok (.iload_n 1, 1) := by decide +kernel
theorem dX12_withdraw_15 : decode cX12_withdraw 15 = .ok (.invokevirtual 70, 3) := by decide +kernel
theorem dX12_withdraw_18 : decode cX12_withdraw 18 = .ok (.ifCond .eq 7, 3) := by decide +kernel
theorem dX12_withdraw_21 : decode cX12_withdraw 21 = .ok (.iconst 0, 1) := by decide +kernel
theorem dX12_withdraw_22 : decode cX12_withdraw 22 = .ok (.goto 4, 3) := by decide +kernel
theorem dX12_withdraw_25 : decode cX12_withdraw 25 = .ok (.iconst 2, 1) := by decide +kernel
theorem dX12_withdraw_26 : decode cX12_withdraw 26 = .ok (.invokevirtual 77, 3) := by decide +kernel
theorem dX12_withdraw_29 : decode cX12_withdraw 29 = .ok (.ifCond .eq 5, 3) := by decide +kernel
theorem dX12_withdraw_32 : decode cX12_withdraw 32 = .ok (.iconst 0, 1) := by decide +kernel
theorem dX12_withdraw_33 : decode cX12_withdraw 33 = .ok (.ireturn, 1) := by decide +kernel
theorem dX12_withdraw_34 : decode cX12_withdraw 34 = .ok (.aload_n 0, 1) := by decide +kernel
theorem dX12_withdraw_35 : decode cX12_withdraw 35 = .ok (.aload_n 0, 1) := by decide +kernel
theorem dX12_withdraw_36 : decode cX12_withdraw 36 = .ok (.getfield 7, 3) := by decide +kernel
theorem dX12_withdraw_39 : decode cX12_withdraw 39 = .ok (.invokevirtual 80, 3) := by decide +kernel
theorem dX12_withdraw_42 : decode cX12_withdraw 42 = .ok (.aload_n 0, 1) := by decide +kernel
theorem dX12_withdraw_43 : decode cX12_withdraw 43 = .ok (.getfield 7, 3) := by decide +kernel
theorem dX12_withdraw_46 : decode cX12_withdraw 46 = .ok (.iconst 4, 1) := by decide +kernel
theorem dX12_withdraw_47 : decode cX12_withdraw 47 = .ok (.iload_n 1, 1) := by decide +kernel
theorem dX12_withdraw_48 : decode cX12_withdraw 48 = .ok (.iadd, 1) := by decide +kernel
theorem dX12_withdraw_49 : decode cX12_withdraw 49 = .ok (.iconst 1, 1) := by decide +kernel
theorem dX12_withdraw_50 : decode cX12_withdraw 50 = .ok (.iastore, 1) := by decide +kernel
theorem dX12_withdraw_51 : decode cX12_withdraw 51 = .ok (.aload_n 0, 1) := by decide +kernel
theorem dX12_withdraw_52 : decode cX12_withdraw 52 = .ok (.invokevirtual 84, 3) := by decide +kernel
theorem dX12_withdraw_55 : decode cX12_withdraw 55 = .ok (.ireturn, 1) := by decide +kernel
theorem dX12_windCount_0 : decode cX12_windCount 0 = .ok (.aload_n 0, 1) := by decide +kernel
theorem dX12_windCount_1 : decode cX12_windCount 1 = .ok (.iconst 0, 1) := by decide +kernel
theorem dX12_windCount_2 : decode cX12_windCount 2 = .ok (.putfield 52, 3) := by decide +kernel
theorem dX12_windCount_5 : decode cX12_windCount 5 = .ok (.aload_n 0, 1) := by decide +kernel
theorem dX12_windCount_6 : decode cX12_windCount 6 = .ok (.getfield 7, 3) := by decide +kernel
theorem dX12_windCount_9 : decode cX12_windCount 9 = .ok (.iconst 0, 1) := by decide +kernel
theorem dX12_windCount_10 : decode cX12_windCount 10 = .ok (.iaload, 1) := by decide +kernel
theorem dX12_windCount_11 : decode cX12_windCount 11 = .ok (.ireturn, 1) := by decide +kernel
theorem dX12_standingCount_0 : decode cX12_standingCount 0 = .ok (.aload_n 0, 1) := by decide +kernel
theorem dX12_standingCount_1 : decode cX12_standingCount 1 = .ok (.iconst 0, 1) := by decide +kernel
theorem dX12_standingCount_2 : decode cX12_standingCount 2 = .ok (.putfield 52, 3) := by decide +kernel
theorem dX12_standingCount_5 : decode cX12_standingCount 5 = .ok (.aload_n 0, 1) := by decide +kernel
theorem dX12_standingCount_6 : decode cX12_standingCount 6 = .ok (.invokevirtual 84, 3) := by decide +kernel
theorem dX12_standingCount_9 : decode cX12_standingCount 9 = .ok (.ireturn, 1) := by decide +kernel
theorem dX12_isStanding_0 : decode cX12_isStanding 0 = .ok (.aload_n 0, 1) := by decide +kernel
theorem dX12_isStanding_1 : decode cX12_isStanding 1 = .ok (.iload_n 1, 1) := by decide +kernel
theorem dX12_isStanding_2 : decode cX12_isStanding 2 = .ok (.invokevirtual 88, 3) := by decide +kernel
theorem dX12_isStanding_5 : decode cX12_isStanding 5 = .ok (.ifCond .ne 15, 3) := by decide +kernel
theorem dX12_isStanding_8 : decode cX12_isStanding 8 = .ok (.aload_n 0, 1) := by decide +kernel
theorem dX12_isStanding_9 : decode cX12_isStanding 9 = .ok (.iload_n 1, 1) := by decide +kernel
theorem dX12_isStanding_10 : decode cX12_isStanding 10 = .ok (.invokevirtual 70, 3) := by decide +kernel
theorem dX12_isStanding_13 : decode cX12_isStanding 13 = .ok (.ifCond .eq 7, 3) := by decide +kernel
theorem dX12_isStanding_16 : decode cX12_isStanding 16 = .ok (.iconst 1, 1) := by decide +kernel
theorem dX12_isStanding_17 : decode cX12_isStanding 17 = .ok (.goto 4, 3) := by decide +kernel
theorem dX12_isStanding_20 : decode cX12_isStanding 20 = .ok (.iconst 0, 1) := by decide +kernel
theorem dX12_isStanding_21 : decode cX12_isStanding 21 = .ok (.ireturn, 1) := by decide +kernel
theorem dX12_hasSeat_0 : decode cX12_hasSeat 0 = .ok (.aload_n 0, 1) := by decide +kernel
theorem dX12_hasSeat_1 : decode cX12_hasSeat 1 = .ok (.iload_n 1, 1) := by decide +kernel
theorem dX12_hasSeat_2 : decode cX12_hasSeat 2 = .ok (.invokevirtual 88, 3) := by decide +kernel
theorem dX12_hasSeat_5 : decode cX12_hasSeat 5 = .ok (.ifCond .ne 19, 3) := by decide +kernel
theorem dX12_hasSeat_8 : decode cX12_hasSeat 8 = .ok (.aload_n 0, 1) := by decide +kernel
theorem dX12_hasSeat_9 : decode cX12_hasSeat 9 = .ok (.getfield 7, 3) := by decide +kernel
theorem dX12_hasSeat_12 : decode cX12_hasSeat 12 = .ok (.iconst 4, 1) := by decide +kernel
theorem dX12_hasSeat_13 : decode cX12_hasSeat 13 = .ok (.iload_n 1, 1) := by decide +kernel
theorem dX12_hasSeat_14 : decode cX12_hasSeat 14 = .ok (.iadd, 1) := by decide +kernel
theorem dX12_hasSeat_15 : decode cX12_hasSeat 15 = .ok (.iaload, 1) := by decide +kernel
theorem dX12_hasSeat_16 : decode cX12_hasSeat 16 = .ok (.iconst 2, 1) := by decide +kernel
theorem dX12_hasSeat_17 : decode cX12_hasSeat 17 = .ok (.if_icmp .ne 7, 3) := by decide +kernel
theorem dX12_hasSeat_20 : decode cX12_hasSeat 20 = .ok (.iconst 1, 1) := by decide +kernel
theorem dX12_hasSeat_21 : decode cX12_hasSeat 21 = .ok (.goto 4, 3) := by decide +kernel
theorem dX12_hasSeat_24 : decode cX12_hasSeat 24 = .ok (.iconst 0, 1) := by decide +kernel
theorem dX12_hasSeat_25 : decode cX12_hasSeat 25 = .ok (.ireturn, 1) := by decide +kernel
theorem dX12_isBallot_0 : decode cX12_isBallot 0 = .ok (.iload_n 1, 1) := by decide +kernel
theorem dX12_isBallot_1 : decode cX12_isBallot 1 = .ok (.iconst 0, 1) := by decide +kernel
theorem dX12_isBallot_2 : decode cX12_isBallot 2 = .ok (.aload_n 0, 1) := by decide +kernel
theorem dX12_isBallot_3 : decode cX12_isBallot 3 = .ok (.getfield 7, 3) := by decide +kernel
theorem dX12_isBallot_6 : decode cX12_isBallot 6 = .ok (.iconst 1, 1) := by decide +kernel
theorem dX12_isBallot_7 : decode cX12_isBallot 7 = .ok (.iaload, 1) := by decide +kernel
theorem dX12_isBallot_8 : decode cX12_isBallot 8 = .ok (.iconst 1, 1) := by decide +kernel
theorem dX12_isBallot_9 : decode cX12_isBallot 9 = .ok (.isub, 1) := by decide +kernel
theorem dX12_isBallot_10 : decode cX12_isBallot 10 = .ok (.invokestatic 66, 3) := by decide +kernel
theorem dX12_isBallot_13 : decode cX12_isBallot 13 = .ok (.ireturn, 1) := by decide +kernel
theorem dX12_of_0 : decode cX12_of 0 = .ok (.aload_n 0, 1) := by decide +kernel
theorem dX12_of_1 : decode cX12_of 1 = .ok (.getfield 7, 3) := by decide +kernel
theorem dX12_of_4 : decode cX12_of 4 = .ok (.bipush 20, 2) := by decide +kernel
theorem dX12_of_6 : decode cX12_of 6 = .ok (.bipush 7, 2) := by decide +kernel
theorem dX12_of_8 : decode cX12_of 8 = .ok (.iload_n 1, 1) := by decide +kernel
theorem dX12_of_9 : decode cX12_of 9 = .ok (.imul, 1) := by decide +kernel
theorem dX12_of_10 : decode cX12_of 10 = .ok (.iadd, 1) := by decide +kernel
theorem dX12_of_11 : decode cX12_of 11 = .ok (.iload_n 2, 1) := by decide +kernel
theorem dX12_of_12 : decode cX12_of 12 = .ok (.iadd, 1) := by decide +kernel
theorem dX12_of_13 : decode cX12_of 13 = .ok (.iaload, 1) := by decide +kernel
theorem dX12_of_14 : decode cX12_of 14 = .ok (.ireturn, 1) := by decide +kernel
theorem dX12_ranked_0 : decode cX12_ranked 0 = .ok (.iconst 0, 1) := by decide +kernel
theorem dX12_ranked_1 : decode cX12_ranked 1 = .ok (.istore_n 3, 1) := by decide +kernel
theorem dX12_ranked_2 : decode cX12_ranked 2 = .ok (.iload_n 3, 1) := by decide +kernel
theorem dX12_ranked_3 : decode cX12_ranked 3 = .ok (.aload_n 0, 1) := by decide +kernel
theorem dX12_ranked_4 : decode cX12_ranked 4 = .ok (.iload_n 1, 1) := by decide +kernel
theorem dX12_ranked_5 : decode cX12_ranked 5 = .ok (.iconst 1, 1) := by decide +kernel
theorem dX12_ranked_6 : decode cX12_ranked 6 = .ok (.invokevirtual 91, 3) := by decide +kernel
theorem dX12_ranked_9 : decode cX12_ranked 9 = .ok (.if_icmp .ge 23, 3) := by decide +kernel
theorem dX12_ranked_12 : decode cX12_ranked 12 = .ok (.aload_n 0, 1) := by decide +kernel
theorem dX12_ranked_13 : decode cX12_ranked 13 = .ok (.iload_n 1, 1) := by decide +kernel
theorem dX12_ranked_14 : decode cX12_ranked 14 = .ok (.iconst 2, 1) := by decide +kernel
theorem dX12_ranked_15 : decode cX12_ranked 15 = .ok (.iload_n 3, 1) := by decide +kernel
theorem dX12_ranked_16 : decode cX12_ranked 16 = .ok (.iadd, 1) := by decide +kernel
theorem dX12_ranked_17 : decode cX12_ranked 17 = .ok (.invokevirtual 91, 3) := by decide +kernel
theorem dX12_ranked_20 : decode cX12_ranked 20 = .ok (.iload_n 2, 1) := by decide +kernel
theorem dX12_ranked_21 : decode cX12_ranked 21 = .ok (.if_icmp .ne 5, 3) := by decide +kernel
theorem dX12_ranked_24 : decode cX12_ranked 24 = .ok (.iload_n 3, 1) := by decide +kernel
theorem dX12_ranked_25 : decode cX12_ranked 25 = .ok (.ireturn, 1) := by decide +kernel
theorem dX12_ranked_26 : decode cX12_ranked 26 = .ok (.iinc 3 1, 3) := by decide +kernel
theorem dX12_ranked_29 : decode cX12_ranked 29 = .ok (.goto (-27), 3) := by decide +kernel
theorem dX12_ranked_32 : decode cX12_ranked 32 = .ok (.iconst (-1), 1) := by decide +kernel
theorem dX12_ranked_33 : decode cX12_ranked 33 = .ok (.ireturn, 1) := by decide +kernel
theorem dX12_isLost_0 : decode cX12_isLost 0 = .ok (.aload_n 0, 1) := by decide +kernel
theorem dX12_isLost_1 : decode cX12_isLost 1 = .ok (.aload_n 0, 1) := by decide +kernel
theorem dX12_isLost_2 : decode cX12_isLost 2 = .ok (.iload_n 1, 1) := by decide +kernel
theorem dX12_isLost_3 : decode cX12_isLost 3 = .ok (.invokevirtual 95, 3) := by decide +kernel
theorem dX12_isLost_6 : decode cX12_isLost 6 = .ok (.ifCond .eq 7, 3) := by decide +kernel
theorem dX12_isLost_9 : decode cX12_isLost 9 = .ok (.iconst 0, 1) := by decide +kernel
theorem dX12_isLost_10 : decode cX12_isLost 10 = .ok (.goto 4, 3) := by decide +kernel
theorem dX12_isLost_13 : decode cX12_isLost 13 = .ok (.iconst 1, 1) := by decide +kernel
theorem dX12_isLost_14 : decode cX12_isLost 14 = .ok (.invokevirtual 77, 3) := by decide +kernel
theorem dX12_isLost_17 : decode cX12_isLost 17 = .ok (.ireturn, 1) := by decide +kernel
theorem dX12_isWeight_0 : decode cX12_isWeight 0 = .ok (.iload_n 0, 1) := by decide +kernel
theorem dX12_isWeight_1 : decode cX12_isWeight 1 = .ok (.iconst 1, 1) := by decide +kernel
theorem dX12_isWeight_2 : decode cX12_isWeight 2 = .ok (.bipush 99, 2) := by decide +kernel
theorem dX12_isWeight_4 : decode cX12_isWeight 4 = .ok (.invokestatic 66, 3) := by decide +kernel
theorem dX12_isWeight_7 : decode cX12_isWeight 7 = .ok (.ireturn, 1) := by decide +kernel
theorem dX12_addBallot_0 : decode cX12_addBallot 0 = .ok (.aload_n 0, 1) := by decide +kernel
theorem dX12_addBallot_1 : decode cX12_addBallot 1 = .ok (.aload_n 0, 1) := by decide +kernel
theorem dX12_addBallot_2 : decode cX12_addBallot 2 = .ok (.iload_n 2, 1) := by decide +kernel
theorem dX12_addBallot_3 : decode cX12_addBallot 3 = .ok (.invokevirtual 74, 3) := by decide +kernel
theorem dX12_addBallot_6 : decode cX12_addBallot 6 = .ok (.ifCond .ne 7, 3) := by decide +kernel
theorem dX12_addBallot_9 : decode cX12_addBallot 9 = .ok (.iconst 1, 1) := by decide +kernel
theorem dX12_addBallot_10 : decode cX12_addBallot 10 = .ok (.goto 30, 3) := by decide +kernel
theorem dX12_addBallot_13 : decode cX12_addBallot 13 = .ok (.iload_n 1, 1) := by decide +kernel
theorem dX12_addBallot_14 : decode cX12_addBallot 14 = .ok (.invokestatic 98, 3) := by decide +kernel
theorem dX12_addBallot_17 : decode cX12_addBallot 17 = .ok (.ifCond .ne 7, 3) := by decide +kernel
theorem dX12_addBallot_20 : decode cX12_addBallot 20 = .ok (.iconst 2, 1) := by decide +kernel
theorem dX12_addBallot_21 : decode cX12_addBallot 21 = .ok (.goto 19, 3) := by decide +kernel
theorem dX12_addBallot_24 : decode cX12_addBallot 24 = .ok (.aload_n 0, 1) := by decide +kernel
theorem dX12_addBallot_25 : decode cX12_addBallot 25 = .ok (.getfield 7, 3) := by decide +kernel
theorem dX12_addBallot_28 : decode cX12_addBallot 28 = .ok (.iconst 1, 1) := by decide +kernel
theorem dX12_addBallot_29 : decode cX12_addBallot 29 = .ok (.iaload, 1) := by decide +kernel
theorem dX12_addBallot_30 : decode cX12_addBallot 30 = .ok (.bipush 20, 2) := by decide +kernel
theorem dX12_addBallot_32 : decode cX12_addBallot 32 = .ok (.if_icmp .ne 7, 3) := by decide +kernel
theorem dX12_addBallot_35 : decode cX12_addBallot 35 = .ok (.iconst 3, 1) := by decide +kernel
theorem dX12_addBallot_36 : decode cX12_addBallot 36 = .ok (.goto 4, 3) := by decide +kernel
theorem dX12_addBallot_39 : decode cX12_addBallot 39 = .ok (.iconst 0, 1) := by decide +kernel
theorem dX12_addBallot_40 : decode cX12_addBallot 40 = .ok (.invokevirtual 77, 3) := by decide +kernel
theorem dX12_addBallot_43 : decode cX12_addBallot 43 = .ok (.ifCond .eq 5, 3) := by decide +kernel
theorem dX12_addBallot_46 : decode cX12_addBallot 46 = .ok (.iconst 0, 1) := by decide +kernel
theorem dX12_addBallot_47 : decode cX12_addBallot 47 = .ok (.ireturn, 1) := by decide +kernel
theorem dX12_addBallot_48 : decode cX12_addBallot 48 = .ok (.aload_n 0, 1) := by decide +kernel
theorem dX12_addBallot_49 : decode cX12_addBallot 49 = .ok (.aload_n 0, 1) := by decide +kernel
theorem dX12_addBallot_50 : decode cX12_addBallot 50 = .ok (.getfield 7, 3) := by decide +kernel
theorem dX12_addBallot_53 : decode cX12_addBallot 53 = .ok (.invokevirtual 80, 3) := by decide +kernel
theorem dX12_addBallot_56 : decode cX12_addBallot 56 = .ok (.bipush 20, 2) := by decide +kernel
theorem dX12_addBallot_58 : decode cX12_addBallot 58 = .ok (.bipush 7, 2) := by decide +kernel
theorem dX12_addBallot_60 : decode cX12_addBallot 60 = .ok (.aload_n 0, 1) := by decide +kernel
theorem dX12_addBallot_61 : decode cX12_addBallot 61 = .ok (.getfield 7, 3) := by decide +kernel
theorem dX12_addBallot_64 : decode cX12_addBallot 64 = .ok (.iconst 1, 1) := by decide +kernel
theorem dX12_addBallot_65 : decode cX12_addBallot 65 = .ok (.iaload, 1) := by decide +kernel
theorem dX12_addBallot_66 : decode cX12_addBallot 66 = .ok (.imul, 1) := by decide +kernel
theorem dX12_addBallot_67 : decode cX12_addBallot 67 = .ok (.iadd, 1) := by decide +kernel
theorem dX12_addBallot_68 : decode cX12_addBallot 68 = .ok (.istore_n 3, 1) := by decide +kernel
theorem dX12_addBallot_69 : decode cX12_addBallot 69 = .ok (.iconst 0, 1) := by decide +kernel
theorem dX12_addBallot_70 : decode cX12_addBallot 70 = .ok (.istore 4, 2) := by decide +kernel
theorem dX12_addBallot_72 : decode cX12_addBallot 72 = .ok (.iload 4, 2) := by decide +kernel
theorem dX12_addBallot_74 : decode cX12_addBallot 74 = .ok (.bipush 7, 2) := by decide +kernel
theorem dX12_addBallot_76 : decode cX12_addBallot 76 = .ok (.if_icmp .ge 19, 3) := by decide +kernel
theorem dX12_addBallot_79 : decode cX12_addBallot 79 = .ok (.aload_n 0, 1) := by decide +kernel
theorem dX12_addBallot_80 : decode cX12_addBallot 80 = .ok (.getfield 7, 3) := by decide +kernel
theorem dX12_addBallot_83 : decode cX12_addBallot 83 = .ok (.iload_n 3, 1) := by decide +kernel
theorem dX12_addBallot_84 : decode cX12_addBallot 84 = .ok (.iload 4, 2) := by decide +kernel
theorem dX12_addBallot_86 : decode cX12_addBallot 86 = .ok (.iadd, 1) := by decide +kernel
theorem dX12_addBallot_87 : decode cX12_addBallot 87 = .ok (.iconst 0, 1) := by decide +kernel
theorem dX12_addBallot_88 : decode cX12_addBallot 88 = .ok (.iastore, 1) := by decide +kernel
theorem dX12_addBallot_89 : decode cX12_addBallot 89 = .ok (.iinc 4 1, 3) := by decide +kernel
theorem dX12_addBallot_92 : decode cX12_addBallot 92 = .ok (.goto (-20), 3) := by decide +kernel
theorem dX12_addBallot_95 : decode cX12_addBallot 95 = .ok (.aload_n 0, 1) := by decide +kernel
theorem dX12_addBallot_96 : decode cX12_addBallot 96 = .ok (.getfield 7, 3) := by decide +kernel
theorem dX12_addBallot_99 : decode cX12_addBallot 99 = .ok (.iload_n 3, 1) := by decide +kernel
theorem dX12_addBallot_100 : decode cX12_addBallot 100 = .ok (.iload_n 1, 1) := by decide +kernel
theorem dX12_addBallot_101 : decode cX12_addBallot 101 = .ok (.iastore, 1) := by decide +kernel
theorem dX12_addBallot_102 : decode cX12_addBallot 102 = .ok (.aload_n 0, 1) := by decide +kernel
theorem dX12_addBallot_103 : decode cX12_addBallot 103 = .ok (.getfield 7, 3) := by decide +kernel
theorem dX12_addBallot_106 : decode cX12_addBallot 106 = .ok (.iload_n 3, 1) := by decide +kernel
theorem dX12_addBallot_107 : decode cX12_addBallot 107 = .ok (.iconst 1, 1) := by decide +kernel
theorem dX12_addBallot_108 : decode cX12_addBallot 108 = .ok (.iadd, 1) := by decide +kernel
theorem dX12_addBallot_109 : decode cX12_addBallot 109 = .ok (.iconst 1, 1) := by decide +kernel
theorem dX12_addBallot_110 : decode cX12_addBallot 110 = .ok (.iastore, 1) := by decide +kernel
theorem dX12_addBallot_111 : decode cX12_addBallot 111 = .ok (.aload_n 0, 1) := by decide +kernel
theorem dX12_addBallot_112 : decode cX12_addBallot 112 = .ok (.getfield 7, 3) := by decide +kernel
theorem dX12_addBallot_115 : decode cX12_addBallot 115 = .ok (.iload_n 3, 1) := by decide +kernel
theorem dX12_addBallot_116 : decode cX12_addBallot 116 = .ok (.iconst 2, 1) := by decide +kernel
theorem dX12_addBallot_117 : decode cX12_addBallot 117 = .ok (.iadd, 1) := by decide +kernel
theorem dX12_addBallot_118 : decode cX12_addBallot 118 = .ok (.iload_n 2, 1) := by decide +kernel
theorem dX12_addBallot_119 : decode cX12_addBallot 119 = .ok (.iastore, 1) := by decide +kernel
theorem dX12_addBallot_120 : decode cX12_addBallot 120 = .ok (.aload_n 0, 1) := by decide +kernel
theorem dX12_addBallot_121 : decode cX12_addBallot 121 = .ok (.getfield 7, 3) := by decide +kernel
theorem dX12_addBallot_124 : decode cX12_addBallot 124 = .ok (.iconst 1, 1) := by decide +kernel
theorem dX12_addBallot_125 : decode cX12_addBallot 125 = .ok (.dup2, 1) := by decide +kernel
theorem dX12_addBallot_126 : decode cX12_addBallot 126 = .ok (.iaload, 1) := by decide +kernel
theorem dX12_addBallot_127 : decode cX12_addBallot 127 = .ok (.iconst 1, 1) := by decide +kernel
theorem dX12_addBallot_128 : decode cX12_addBallot 128 = .ok (.iadd, 1) := by decide +kernel
theorem dX12_addBallot_129 : decode cX12_addBallot 129 = .ok (.iastore, 1) := by decide +kernel
theorem dX12_addBallot_130 : decode cX12_addBallot 130 = .ok (.aload_n 0, 1) := by decide +kernel
theorem dX12_addBallot_131 : decode cX12_addBallot 131 = .ok (.getfield 7, 3) := by decide +kernel
theorem dX12_addBallot_134 : decode cX12_addBallot 134 = .ok (.iconst 1, 1) := by decide +kernel
theorem dX12_addBallot_135 : decode cX12_addBallot 135 = .ok (.iaload, 1) := by decide +kernel
theorem dX12_addBallot_136 : decode cX12_addBallot 136 = .ok (.iconst 1, 1) := by decide +kernel
theorem dX12_addBallot_137 : decode cX12_addBallot 137 = .ok (.isub, 1) := by decide +kernel
theorem dX12_addBallot_138 : decode cX12_addBallot 138 = .ok (.ireturn, 1) := by decide +kernel
theorem dX12_rank_0 : decode cX12_rank 0 = .ok (.aload_n 0, 1) := by decide +kernel
theorem dX12_rank_1 : decode cX12_rank 1 = .ok (.aload_n 0, 1) := by decide +kernel
theorem dX12_rank_2 : decode cX12_rank 2 = .ok (.iload_n 1, 1) := by decide +kernel
theorem dX12_rank_3 : decode cX12_rank 3 = .ok (.invokevirtual 95, 3) := by decide +kernel
theorem dX12_rank_6 : decode cX12_rank 6 = .ok (.ifCond .eq 11, 3) := by decide +kernel
theorem dX12_rank_9 : decode cX12_rank 9 = .ok (.aload_n 0, 1) := by decide +kernel
theorem dX12_rank_10 : decode cX12_rank 10 = .ok (.iload_n 2, 1) := by decide +kernel
theorem dX12_rank_11 : decode cX12_rank 11 = .ok (.invokevirtual 74, 3) := by decide +kernel
theorem dX12_rank_14 : decode cX12_rank 14 = .ok (.ifCond .ne 7, 3) := by decide +kernel
theorem dX12_rank_17 : decode cX12_rank 17 = .ok (.iconst 1, 1) := by decide +kernel
theorem dX12_rank_18 : decode cX12_rank 18 = .ok (.goto 31, 3) := by decide +kernel
theorem dX12_rank_21 : decode cX12_rank 21 = .ok (.aload_n 0, 1) := by decide +kernel
theorem dX12_rank_22 : decode cX12_rank 22 = .ok (.iload_n 1, 1) := by decide +kernel
theorem dX12_rank_23 : decode cX12_rank 23 = .ok (.iload_n 2, 1) := by decide +kernel
theorem dX12_rank_24 : decode cX12_rank 24 = .ok (.invokevirtual 101, 3) := by decide +kernel
theorem dX12_rank_27 : decode cX12_rank 27 = .ok (.ifCond .lt 7, 3) := by decide +kernel
theorem dX12_rank_30 : decode cX12_rank 30 = .ok (.iconst 2, 1) := by decide +kernel
theorem dX12_rank_31 : decode cX12_rank 31 = .ok (.goto 18, 3) := by decide +kernel
theorem dX12_rank_34 : decode cX12_rank 34 = .ok (.aload_n 0, 1) := by decide +kernel
theorem dX12_rank_35 : decode cX12_rank 35 = .ok (.iload_n 1, 1) := by decide +kernel
theorem dX12_rank_36 : decode cX12_rank 36 = .ok (.iconst 1, 1) := by decide +kernel
theorem dX12_rank_37 : decode cX12_rank 37 = .ok (.invokevirtual 91, 3) := by decide +kernel
theorem dX12_rank_40 : decode cX12_rank 40 = .ok (.iconst 5, 1) := by decide +kernel
theorem dX12_rank_41 : decode cX12_rank 41 = .ok (.if_icmp .ne 7, 3) := by decide +kernel
theorem dX12_rank_44 : decode cX12_rank 44 = .ok (.iconst 3, 1) := by decide +kernel
theorem dX12_rank_45 : decode cX12_rank 45 = .ok (.goto 4, 3) := by decide +kernel
theorem dX12_rank_48 : decode cX12_rank 48 = .ok (.iconst 0, 1) := by decide +kernel
theorem dX12_rank_49 : decode cX12_rank 49 = .ok (.invokevirtual 77, 3) := by decide +kernel
theorem dX12_rank_52 : decode cX12_rank 52 = .ok (.ifCond .eq 5, 3) := by decide +kernel
theorem dX12_rank_55 : decode cX12_rank 55 = .ok (.iconst 0, 1) := by decide +kernel
theorem dX12_rank_56 : decode cX12_rank 56 = .ok (.ireturn, 1) := by decide +kernel
theorem dX12_rank_57 : decode cX12_rank 57 = .ok (.aload_n 0, 1) := by decide +kernel
theorem dX12_rank_58 : decode cX12_rank 58 = .ok (.aload_n 0, 1) := by decide +kernel
theorem dX12_rank_59 : decode cX12_rank 59 = .ok (.getfield 7, 3) := by decide +kernel
theorem dX12_rank_62 : decode cX12_rank 62 = .ok (.invokevirtual 80, 3) := by decide +kernel
theorem dX12_rank_65 : decode cX12_rank 65 = .ok (.aload_n 0, 1) := by decide +kernel
theorem dX12_rank_66 : decode cX12_rank 66 = .ok (.iload_n 1, 1) := by decide +kernel
theorem dX12_rank_67 : decode cX12_rank 67 = .ok (.iconst 1, 1) := by decide +kernel
theorem dX12_rank_68 : decode cX12_rank 68 = .ok (.invokevirtual 91, 3) := by decide +kernel
theorem dX12_rank_71 : decode cX12_rank 71 = .ok (.istore_n 3, 1) := by decide +kernel
theorem dX12_rank_72 : decode cX12_rank 72 = .ok (.aload_n 0, 1) := by decide +kernel
theorem dX12_rank_73 : decode cX12_rank 73 = .ok (.getfield 7, 3) := by decide +kernel
theorem dX12_rank_76 : decode cX12_rank 76 = .ok (.bipush 20, 2) := by decide +kernel
theorem dX12_rank_78 : decode cX12_rank 78 = .ok (.bipush 7, 2) := by decide +kernel
theorem dX12_rank_80 : decode cX12_rank 80 = .ok (.iload_n 1, 1) := by decide +kernel
theorem dX12_rank_81 : decode cX12_rank 81 = .ok (.imul, 1) := by decide +kernel
theorem dX12_rank_82 : decode cX12_rank 82 = .ok (.iadd, 1) := by decide +kernel
theorem dX12_rank_83 : decode cX12_rank 83 = .ok (.iconst 2, 1) := by decide +kernel
theorem dX12_rank_84 : decode cX12_rank 84 = .ok (.iadd, 1) := by decide +kernel
theorem dX12_rank_85 : decode cX12_rank 85 = .ok (.iload_n 3, 1) := by decide +kernel
theorem dX12_rank_86 : decode cX12_rank 86 = .ok (.iadd, 1) := by decide +kernel
theorem dX12_rank_87 : decode cX12_rank 87 = .ok (.iload_n 2, 1) := by decide +kernel
theorem dX12_rank_88 : decode cX12_rank 88 = .ok (.iastore, 1) := by decide +kernel
theorem dX12_rank_89 : decode cX12_rank 89 = .ok (.aload_n 0, 1) := by decide +kernel
theorem dX12_rank_90 : decode cX12_rank 90 = .ok (.getfield 7, 3) := by decide +kernel
theorem dX12_rank_93 : decode cX12_rank 93 = .ok (.bipush 20, 2) := by decide +kernel
theorem dX12_rank_95 : decode cX12_rank 95 = .ok (.bipush 7, 2) := by decide +kernel
theorem dX12_rank_97 : decode cX12_rank 97 = .ok (.iload_n 1, 1) := by decide +kernel
theorem dX12_rank_98 : decode cX12_rank 98 = .ok (.imul, 1) := by decide +kernel
theorem dX12_rank_99 : decode cX12_rank 99 = .ok (.iadd, 1) := by decide +kernel
theorem dX12_rank_100 : decode cX12_rank 100 = .ok (.iconst 1, 1) := by decide +kernel
theorem dX12_rank_101 : decode cX12_rank 101 = .ok (.iadd, 1) := by decide +kernel
theorem dX12_rank_102 : decode cX12_rank 102 = .ok (.iload_n 3, 1) := by decide +kernel
theorem dX12_rank_103 : decode cX12_rank 103 = .ok (.iconst 1, 1) := by decide +kernel
theorem dX12_rank_104 : decode cX12_rank 104 = .ok (.iadd, 1) := by decide +kernel
theorem dX12_rank_105 : decode cX12_rank 105 = .ok (.iastore, 1) := by decide +kernel
theorem dX12_rank_106 : decode cX12_rank 106 = .ok (.iload_n 3, 1) := by decide +kernel
theorem dX12_rank_107 : decode cX12_rank 107 = .ok (.ireturn, 1) := by decide +kernel
theorem dX12_removeBallot_0 : decode cX12_removeBallot 0 = .ok (.aload_n 0, 1) := by decide +kernel
theorem dX12_removeBallot_1 : decode cX12_removeBallot 1 = .ok (.iload_n 1, 1) := by decide +kernel
theorem dX12_removeBallot_2 : decode cX12_removeBallot 2 = .ok (.invokevirtual 104, 3) := by decide +kernel
theorem dX12_removeBallot_5 : decode cX12_removeBallot 5 = .ok (.ifCond .eq 5, 3) := by decide +kernel
theorem dX12_removeBallot_8 : decode cX12_removeBallot 8 = .ok (.iconst 0, 1) := by decide +kernel
theorem dX12_removeBallot_9 : decode cX12_removeBallot 9 = .ok (.ireturn, 1) := by decide +kernel
theorem dX12_removeBallot_10 : decode cX12_removeBallot 10 = .ok (.aload_n 0, 1) := by decide +kernel
theorem dX12_removeBallot_11 : decode cX12_removeBallot 11 = .ok (.iload_n 1, 1) := by decide +kernel
theorem dX12_removeBallot_12 : decode cX12_removeBallot 12 = .ok (.iconst 0, 1) := by decide +kernel
theorem dX12_removeBallot_13 : decode cX12_removeBallot 13 = .ok (.invokevirtual 91, 3) := by decide +kernel
theorem dX12_removeBallot_16 : decode cX12_removeBallot 16 = .ok (.istore_n 2, 1) := by decide +kernel
theorem dX12_removeBallot_17 : decode cX12_removeBallot 17 = .ok (.aload_n 0, 1) := by decide +kernel
theorem dX12_removeBallot_18 : decode cX12_removeBallot 18 = .ok (.aload_n 0, 1) := by decide +kernel
theorem dX12_removeBallot_19 : decode cX12_removeBallot 19 = .ok (.getfield 7, 3) := by decide +kernel
theorem dX12_removeBallot_22 : decode cX12_removeBallot 22 = .ok (.invokevirtual 80, 3) := by decide +kernel
theorem dX12_removeBallot_25 : decode cX12_removeBallot 25 = .ok (.aload_n 0, 1) := by decide +kernel
theorem dX12_removeBallot_26 : decode cX12_removeBallot 26 = .ok (.getfield 7, 3) := by decide +kernel
theorem dX12_removeBallot_29 : decode cX12_removeBallot 29 = .ok (.iconst 1, 1) := by decide +kernel
theorem dX12_removeBallot_30 : decode cX12_removeBallot 30 = .ok (.dup2, 1) := by decide +kernel
theorem dX12_removeBallot_31 : decode cX12_removeBallot 31 = .ok (.iaload, 1) := by decide +kernel
theorem dX12_removeBallot_32 : decode cX12_removeBallot 32 = .ok (.iconst 1, 1) := by decide +kernel
theorem dX12_removeBallot_33 : decode cX12_removeBallot 33 = .ok (.isub, 1) := by decide +kernel
theorem dX12_removeBallot_34 : decode cX12_removeBallot 34 = .ok (.iastore, 1) := by decide +kernel
theorem dX12_removeBallot_35 : decode cX12_removeBallot 35 = .ok (.bipush 20, 2) := by decide +kernel
theorem dX12_removeBallot_37 : decode cX12_removeBallot 37 = .ok (.bipush 7, 2) := by decide +kernel
theorem dX12_removeBallot_39 : decode cX12_removeBallot 39 = .ok (.iload_n 1, 1) := by decide +kernel
theorem dX12_removeBallot_40 : decode cX12_removeBallot 40 = .ok (.imul, 1) := by decide +kernel
theorem dX12_removeBallot_41 : decode cX12_removeBallot 41 = .ok (.iadd, 1) := by decide +kernel
theorem dX12_removeBallot_42 : decode cX12_removeBallot 42 = .ok (.istore_n 3, 1) := by decide +kernel
theorem dX12_removeBallot_43 : decode cX12_removeBallot 43 = .ok (.iload_n 3, 1) := by decide +kernel
theorem dX12_removeBallot_44 : decode cX12_removeBallot 44 = .ok (.bipush 20, 2) := by decide +kernel
theorem dX12_removeBallot_46 : decode cX12_removeBallot 46 = .ok (.bipush 7, 2) := by decide +kernel
theorem dX12_removeBallot_48 : decode cX12_removeBallot 48 = .ok (.aload_n 0, 1) := by decide +kernel
theorem dX12_removeBallot_49 : decode cX12_removeBallot 49 = .ok (.getfield 7, 3) := by decide +kernel
theorem dX12_removeBallot_52 : decode cX12_removeBallot 52 = .ok (.iconst 1, 1) := by decide +kernel
theorem dX12_removeBallot_53 : decode cX12_removeBallot 53 = .ok (.iaload, 1) := by decide +kernel
theorem dX12_removeBallot_54 : decode cX12_removeBallot 54 = .ok (.imul, 1) := by decide +kernel
theorem dX12_removeBallot_55 : decode cX12_removeBallot 55 = .ok (.iadd, 1) := by decide +kernel
theorem dX12_removeBallot_56 : decode cX12_removeBallot 56 = .ok (.if_icmp .ge 24, 3) := by decide +kernel
theorem dX12_removeBallot_59 : decode cX12_removeBallot 59 = .ok (.aload_n 0, 1) := by decide +kernel
theorem dX12_removeBallot_60 : decode cX12_removeBallot 60 = .ok (.getfield 7, 3) := by decide +kernel
theorem dX12_removeBallot_63 : decode cX12_removeBallot 63 = .ok (.iload_n 3, 1) := by decide +kernel
theorem dX12_removeBallot_64 : decode cX12_removeBallot 64 = .ok (.aload_n 0, 1) := by decide +kernel
theorem dX12_removeBallot_65 : decode cX12_removeBallot 65 = .ok (.getfield 7, 3) := by decide +kernel
theorem dX12_removeBallot_68 : decode cX12_removeBallot 68 = .ok (.iload_n 3, 1) := by decide +kernel
theorem dX12_removeBallot_69 : decode cX12_removeBallot 69 = .ok (.bipush 7, 2) := by decide +kernel
theorem dX12_removeBallot_71 : decode cX12_removeBallot 71 = .ok (.iadd, 1) := by decide +kernel
theorem dX12_removeBallot_72 : decode cX12_removeBallot 72 = .ok (.iaload, 1) := by decide +kernel
theorem dX12_removeBallot_73 : decode cX12_removeBallot 73 = .ok (.iastore, 1) := by decide +kernel
theorem dX12_removeBallot_74 : decode cX12_removeBallot 74 = .ok (.iinc 3 1, 3) := by decide +kernel
theorem dX12_removeBallot_77 : decode cX12_removeBallot 77 = .ok (.goto (-34), 3) := by decide +kernel
theorem dX12_removeBallot_80 : decode cX12_removeBallot 80 = .ok (.iconst 0, 1) := by decide +kernel
theorem dX12_removeBallot_81 : decode cX12_removeBallot 81 = .ok (.istore_n 3, 1) := by decide +kernel
theorem dX12_removeBallot_82 : decode cX12_removeBallot 82 = .ok (.iload_n 3, 1) := by decide +kernel
theorem dX12_removeBallot_83 : decode cX12_removeBallot 83 = .ok (.bipush 7, 2) := by decide +kernel
theorem dX12_removeBallot_85 : decode cX12_removeBallot 85 = .ok (.if_icmp .ge 29, 3) := by decide +kernel
theorem dX12_removeBallot_88 : decode cX12_removeBallot 88 = .ok (.aload_n 0, 1) := by decide +kernel
theorem dX12_removeBallot_89 : decode cX12_removeBallot 89 = .ok (.getfield 7, 3) := by decide +kernel
theorem dX12_removeBallot_92 : decode cX12_removeBallot 92 = .ok (.bipush 20, 2) := by decide +kernel
theorem dX12_removeBallot_94 : decode cX12_removeBallot 94 = .ok (.bipush 7, 2) := by decide +kernel
theorem dX12_removeBallot_96 : decode cX12_removeBallot 96 = .ok (.aload_n 0, 1) := by decide +kernel
theorem dX12_removeBallot_97 : decode cX12_removeBallot 97 = .ok (.getfield 7, 3) := by decide +kernel
theorem dX12_removeBallot_100 : decode cX12_removeBallot 100 = .ok (.iconst 1, 1) := by decide +kernel
theorem dX12_removeBallot_101 : decode cX12_removeBallot 101 = .ok (.iaload, 1) := by decide +kernel
theorem dX12_removeBallot_102 : decode cX12_removeBallot 102 = .ok (.imul, 1) := by decide +kernel
theorem dX12_removeBallot_103 : decode cX12_removeBallot 103 = .ok (.iadd, 1) := by decide +kernel
theorem dX12_removeBallot_104 : decode cX12_removeBallot 104 = .ok (.iload_n 3, 1) := by decide +kernel
theorem dX12_removeBallot_105 : decode cX12_removeBallot 105 = .ok (.iadd, 1) := by decide +kernel
theorem dX12_removeBallot_106 : decode cX12_removeBallot 106 = .ok (.iconst 0, 1) := by decide +kernel
theorem dX12_removeBallot_107 : decode cX12_removeBallot 107 = .ok (.iastore, 1) := by decide +kernel
theorem dX12_removeBallot_108 : decode cX12_removeBallot 108 = .ok (.iinc 3 1, 3) := by decide +kernel
theorem dX12_removeBallot_111 : decode cX12_removeBallot 111 = .ok (.goto (-29), 3) := by decide +kernel
theorem dX12_removeBallot_114 : decode cX12_removeBallot 114 = .ok (.iload_n 2, 1) := by decide +kernel
theorem dX12_removeBallot_115 : decode cX12_removeBallot 115 = .ok (.ireturn, 1) := by decide +kernel
theorem dX12_recount_0 : decode cX12_recount 0 = .ok (.aload_n 0, 1) := by decide +kernel
theorem dX12_recount_1 : decode cX12_recount 1 = .ok (.aload_n 0, 1) := by decide +kernel
theorem dX12_recount_2 : decode cX12_recount 2 = .ok (.iload_n 1, 1) := by decide +kernel
theorem dX12_recount_3 : decode cX12_recount 3 = .ok (.invokevirtual 95, 3) := by decide +kernel
theorem dX12_recount_6 : decode cX12_recount 6 = .ok (.ifCond .ne 7, 3) := by decide +kernel
theorem dX12_recount_9 : decode cX12_recount 9 = .ok (.iconst 1, 1) := by decide +kernel
theorem dX12_recount_10 : decode cX12_recount 10 = .ok (.goto 15, 3) := by decide +kernel
theorem dX12_recount_13 : decode cX12_recount 13 = .ok (.iload_n 2, 1) := by decide +kernel
theorem dX12_recount_14 : decode cX12_recount 14 = .ok (.invokestatic 98, 3) := by decide +kernel
theorem dX12_recount_17 : decode cX12_recount 17 = .ok (.ifCond .eq 7, 3) := by decide +kernel
theorem dX12_recount_20 : decode cX12_recount 20 = .ok (.iconst 0, 1) := by decide +kernel
theorem dX12_recount_21 : decode cX12_recount 21 = .ok (.goto 4, 3) := by decide +kernel
theorem dX12_recount_24 : decode cX12_recount 24 = .ok (.iconst 2, 1) := by decide +kernel
theorem dX12_recount_25 : decode cX12_recount 25 = .ok (.invokevirtual 77, 3) := by decide +kernel
theorem dX12_recount_28 : decode cX12_recount 28 = .ok (.ifCond .eq 5, 3) := by decide +kernel
theorem dX12_recount_31 : decode cX12_recount 31 = .ok (.iconst 0, 1) := by decide +kernel
theorem dX12_recount_32 : decode cX12_recount 32 = .ok (.ireturn, 1) := by decide +kernel
theorem dX12_recount_33 : decode cX12_recount 33 = .ok (.aload_n 0, 1) := by decide +kernel
theorem dX12_recount_34 : decode cX12_recount 34 = .ok (.iload_n 1, 1) := by decide +kernel
theorem dX12_recount_35 : decode cX12_recount 35 = .ok (.iconst 0, 1) := by decide +kernel
theorem dX12_recount_36 : decode cX12_recount 36 = .ok (.invokevirtual 91, 3) := by decide +kernel
theorem dX12_recount_39 : decode cX12_recount 39 = .ok (.istore_n 3, 1) := by decide +kernel
theorem dX12_recount_40 : decode cX12_recount 40 = .ok (.aload_n 0, 1) := by decide +kernel
theorem dX12_recount_41 : decode cX12_recount 41 = .ok (.aload_n 0, 1) := by decide +kernel
theorem dX12_recount_42 : decode cX12_recount 42 = .ok (.getfield 7, 3) := by decide +kernel
theorem dX12_recount_45 : decode cX12_recount 45 = .ok (.invokevirtual 80, 3) := by decide +kernel
theorem dX12_recount_48 : decode cX12_recount 48 = .ok (.aload_n 0, 1) := by decide +kernel
theorem dX12_recount_49 : decode cX12_recount 49 = .ok (.getfield 7, 3) := by decide +kernel
theorem dX12_recount_52 : decode cX12_recount 52 = .ok (.bipush 20, 2) := by decide +kernel
theorem dX12_recount_54 : decode cX12_recount 54 = .ok (.bipush 7, 2) := by decide +kernel
theorem dX12_recount_56 : decode cX12_recount 56 = .ok (.iload_n 1, 1) := by decide +kernel
theorem dX12_recount_57 : decode cX12_recount 57 = .ok (.imul, 1) := by decide +kernel
theorem dX12_recount_58 : decode cX12_recount 58 = .ok (.iadd, 1) := by decide +kernel
theorem dX12_recount_59 : decode cX12_recount 59 = .ok (.iload_n 2, 1) := by decide +kernel
theorem dX12_recount_60 : decode cX12_recount 60 = .ok (.iastore, 1) := by decide +kernel
theorem dX12_recount_61 : decode cX12_recount 61 = .ok (.iload_n 3, 1) := by decide +kernel
theorem dX12_recount_62 : decode cX12_recount 62 = .ok (.ireturn, 1) := by decide +kernel
theorem dX12_ballotCount_0 : decode cX12_ballotCount 0 = .ok (.aload_n 0, 1) := by decide +kernel
theorem dX12_ballotCount_1 : decode cX12_ballotCount 1 = .ok (.iconst 0, 1) := by decide +kernel
theorem dX12_ballotCount_2 : decode cX12_ballotCount 2 = .ok (.putfield 52, 3) := by decide +kernel
theorem dX12_ballotCount_5 : decode cX12_ballotCount 5 = .ok (.aload_n 0, 1) := by decide +kernel
theorem dX12_ballotCount_6 : decode cX12_ballotCount 6 = .ok (.getfield 7, 3) := by decide +kernel
theorem dX12_ballotCount_9 : decode cX12_ballotCount 9 = .ok (.iconst 1, 1) := by decide +kernel
theorem dX12_ballotCount_10 : decode cX12_ballotCount 10 = .ok (.iaload, 1) := by decide +kernel
theorem dX12_ballotCount_11 : decode cX12_ballotCount 11 = .ok (.ireturn, 1) := by decide +kernel
theorem dX12_weightOf_0 : decode cX12_weightOf 0 = .ok (.aload_n 0, 1) := by decide +kernel
theorem dX12_weightOf_1 : decode cX12_weightOf 1 = .ok (.iload_n 1, 1) := by decide +kernel
theorem dX12_weightOf_2 : decode cX12_weightOf 2 = .ok (.invokevirtual 104, 3) := by decide +kernel
theorem dX12_weightOf_5 : decode cX12_weightOf 5 = .ok (.ifCond .eq 7, 3) := by decide +kernel
theorem dX12_weightOf_8 : decode cX12_weightOf 8 = .ok (.iconst 0, 1) := by decide +kernel
theorem dX12_weightOf_9 : decode cX12_weightOf 9 = .ok (.goto 9, 3) := by decide +kernel
theorem dX12_weightOf_12 : decode cX12_weightOf 12 = .ok (.aload_n 0, 1) := by decide +kernel
theorem dX12_weightOf_13 : decode cX12_weightOf 13 = .ok (.iload_n 1, 1) := by decide +kernel
theorem dX12_weightOf_14 : decode cX12_weightOf 14 = .ok (.iconst 0, 1) := by decide +kernel
theorem dX12_weightOf_15 : decode cX12_weightOf 15 = .ok (.invokevirtual 91, 3) := by decide +kernel
theorem dX12_weightOf_18 : decode cX12_weightOf 18 = .ok (.ireturn, 1) := by decide +kernel
theorem dX12_rankCount_0 : decode cX12_rankCount 0 = .ok (.aload_n 0, 1) := by decide +kernel
theorem dX12_rankCount_1 : decode cX12_rankCount 1 = .ok (.iload_n 1, 1) := by decide +kernel
theorem dX12_rankCount_2 : decode cX12_rankCount 2 = .ok (.invokevirtual 104, 3) := by decide +kernel
theorem dX12_rankCount_5 : decode cX12_rankCount 5 = .ok (.ifCond .eq 7, 3) := by decide +kernel
theorem dX12_rankCount_8 : decode cX12_rankCount 8 = .ok (.iconst 0, 1) := by decide +kernel
theorem dX12_rankCount_9 : decode cX12_rankCount 9 = .ok (.goto 9, 3) := by decide +kernel
theorem dX12_rankCount_12 : decode cX12_rankCount 12 = .ok (.aload_n 0, 1) := by decide +kernel
theorem dX12_rankCount_13 : decode cX12_rankCount 13 = .ok (.iload_n 1, 1) := by decide +kernel
theorem dX12_rankCount_14 : decode cX12_rankCount 14 = .ok (.iconst 1, 1) := by decide +kernel
theorem dX12_rankCount_15 : decode cX12_rankCount 15 = .ok (.invokevirtual 91, 3) := by decide +kernel
theorem dX12_rankCount_18 : decode cX12_rankCount 18 = .ok (.ireturn, 1) := by decide +kernel
theorem dX12_windAt_0 : decode cX12_windAt 0 = .ok (.aload_n 0, 1) := by decide +kernel
theorem dX12_windAt_1 : decode cX12_windAt 1 = .ok (.aload_n 0, 1) := by decide +kernel
theorem dX12_windAt_2 : decode cX12_windAt 2 = .ok (.iload_n 1, 1) := by decide +kernel
theorem dX12_windAt_3 : decode cX12_windAt 3 = .ok (.invokevirtual 95, 3) := by decide +kernel
theorem dX12_windAt_6 : decode cX12_windAt 6 = .ok (.ifCond .ne 7, 3) := by decide +kernel
theorem dX12_windAt_9 : decode cX12_windAt 9 = .ok (.iconst 1, 1) := by decide +kernel
theorem dX12_windAt_10 : decode cX12_windAt 10 = .ok (.goto 24, 3) := by decide +kernel
theorem dX12_windAt_13 : decode cX12_windAt 13 = .ok (.iload_n 2, 1) := by decide +kernel
theorem dX12_windAt_14 : decode cX12_windAt 14 = .ok (.iconst 0, 1) := by decide +kernel
theorem dX12_windAt_15 : decode cX12_windAt 15 = .ok (.aload_n 0, 1) := by decide +kernel
theorem dX12_windAt_16 : decode cX12_windAt 16 = .ok (.iload_n 1, 1) := by decide +kernel
theorem dX12_windAt_17 : decode cX12_windAt 17 = .ok (.iconst 1, 1) := by decide +kernel
theorem dX12_windAt_18 : decode cX12_windAt 18 = .ok (.invokevirtual 91, 3) := by decide +kernel
theorem dX12_windAt_21 : decode cX12_windAt 21 = .ok (.iconst 1, 1) := by decide +kernel
theorem dX12_windAt_22 : decode cX12_windAt 22 = .ok (.isub, 1) := by decide +kernel
theorem dX12_windAt_23 : decode cX12_windAt 23 = .ok (.invokestatic 66, 3) := by decide +kernel
theorem dX12_windAt_26 : decode cX12_windAt 26 = .ok (.ifCond .eq 7, 3) := by decide +kernel
theorem dX12_windAt_29 : decode cX12_windAt 29 = .ok (.iconst 0, 1) := by decide +kernel
theorem dX12_windAt_30 : decode cX12_windAt 30 = .ok (.goto 4, 3) := by decide +kernel
theorem dX12_windAt_33 : decode cX12_windAt 33 = .ok (.iconst 2, 1) := by decide +kernel
theorem dX12_windAt_34 : decode cX12_windAt 34 = .ok (.invokevirtual 77, 3) := by decide +kernel
theorem dX12_windAt_37 : decode cX12_windAt 37 = .ok (.ifCond .eq 7, 3) := by decide +kernel
theorem dX12_windAt_40 : decode cX12_windAt 40 = .ok (.iconst 0, 1) := by decide +kernel
theorem dX12_windAt_41 : decode cX12_windAt 41 = .ok (.goto 11, 3) := by decide +kernel
theorem dX12_windAt_44 : decode cX12_windAt 44 = .ok (.aload_n 0, 1) := by decide +kernel
theorem dX12_windAt_45 : decode cX12_windAt 45 = .ok (.iload_n 1, 1) := by decide +kernel
theorem dX12_windAt_46 : decode cX12_windAt 46 = .ok (.iconst 2, 1) := by decide +kernel
theorem dX12_windAt_47 : decode cX12_windAt 47 = .ok (.iload_n 2, 1) := by decide +kernel
theorem dX12_windAt_48 : decode cX12_windAt 48 = .ok (.iadd, 1) := by decide +kernel
theorem dX12_windAt_49 : decode cX12_windAt 49 = .ok (.invokevirtual 91, 3) := by decide +kernel
theorem dX12_windAt_52 : decode cX12_windAt 52 = .ok (.ireturn, 1) := by decide +kernel
theorem dX12_rankOf_0 : decode cX12_rankOf 0 = .ok (.aload_n 0, 1) := by decide +kernel
theorem dX12_rankOf_1 : decode cX12_rankOf 1 = .ok (.aload_n 0, 1) := by decide +kernel
theorem dX12_rankOf_2 : decode cX12_rankOf 2 = .ok (.iload_n 1, 1) := by decide +kernel
theorem dX12_rankOf_3 : decode cX12_rankOf 3 = .ok (.invokevirtual 95, 3) := by decide +kernel
theorem dX12_rankOf_6 : decode cX12_rankOf 6 = .ok (.ifCond .eq 11, 3) := by decide +kernel
theorem dX12_rankOf_9 : decode cX12_rankOf 9 = .ok (.aload_n 0, 1) := by decide +kernel
theorem dX12_rankOf_10 : decode cX12_rankOf 10 = .ok (.iload_n 2, 1) := by decide +kernel
theorem dX12_rankOf_11 : decode cX12_rankOf 11 = .ok (.invokevirtual 74, 3) := by decide +kernel
theorem dX12_rankOf_14 : decode cX12_rankOf 14 = .ok (.ifCond .ne 7, 3) := by decide +kernel
theorem dX12_rankOf_17 : decode cX12_rankOf 17 = .ok (.iconst 1, 1) := by decide +kernel
theorem dX12_rankOf_18 : decode cX12_rankOf 18 = .ok (.goto 17, 3) := by decide +kernel
theorem dX12_rankOf_21 : decode cX12_rankOf 21 = .ok (.aload_n 0, 1) := by decide +kernel
theorem dX12_rankOf_22 : decode cX12_rankOf 22 = .ok (.iload_n 1, 1) := by decide +kernel
theorem dX12_rankOf_23 : decode cX12_rankOf 23 = .ok (.iload_n 2, 1) := by decide +kernel
theorem dX12_rankOf_24 : decode cX12_rankOf 24 = .ok (.invokevirtual 101, 3) := by decide +kernel
theorem dX12_rankOf_27 : decode cX12_rankOf 27 = .ok (.ifCond .ge 7, 3) := by decide +kernel
theorem dX12_rankOf_30 : decode cX12_rankOf 30 = .ok (.iconst 2, 1) := by decide +kernel
theorem dX12_rankOf_31 : decode cX12_rankOf 31 = .ok (.goto 4, 3) := by decide +kernel
theorem dX12_rankOf_34 : decode cX12_rankOf 34 = .ok (.iconst 0, 1) := by decide +kernel
theorem dX12_rankOf_35 : decode cX12_rankOf 35 = .ok (.invokevirtual 77, 3) := by decide +kernel
theorem dX12_rankOf_38 : decode cX12_rankOf 38 = .ok (.ifCond .eq 7, 3) := by decide +kernel
theorem dX12_rankOf_41 : decode cX12_rankOf 41 = .ok (.iconst 0, 1) := by decide +kernel
theorem dX12_rankOf_42 : decode cX12_rankOf 42 = .ok (.goto 9, 3) := by decide +kernel
theorem dX12_rankOf_45 : decode cX12_rankOf 45 = .ok (.aload_n 0, 1) := by decide +kernel
theorem dX12_rankOf_46 : decode cX12_rankOf 46 = .ok (.iload_n 1, 1) := by decide +kernel
theorem dX12_rankOf_47 : decode cX12_rankOf 47 = .ok (.iload_n 2, 1) := by decide +kernel
theorem dX12_rankOf_48 : decode cX12_rankOf 48 = .ok (.invokevirtual 101, 3) := by decide +kernel
theorem dX12_rankOf_51 : decode cX12_rankOf 51 = .ok (.ireturn, 1) := by decide +kernel
theorem dX12_total_0 : decode cX12_total 0 = .ok (.iconst 0, 1) := by decide +kernel
theorem dX12_total_1 : decode cX12_total 1 = .ok (.istore_n 1, 1) := by decide +kernel
theorem dX12_total_2 : decode cX12_total 2 = .ok (.iconst 0, 1) := by decide +kernel
theorem dX12_total_3 : decode cX12_total 3 = .ok (.istore_n 2, 1) := by decide +kernel
theorem dX12_total_4 : decode cX12_total 4 = .ok (.iload_n 2, 1) := by decide +kernel
theorem dX12_total_5 : decode cX12_total 5 = .ok (.aload_n 0, 1) := by decide +kernel
theorem dX12_total_6 : decode cX12_total 6 = .ok (.getfield 7, 3) := by decide +kernel
theorem dX12_total_9 : decode cX12_total 9 = .ok (.iconst 1, 1) := by decide +kernel
theorem dX12_total_10 : decode cX12_total 10 = .ok (.iaload, 1) := by decide +kernel
theorem dX12_total_11 : decode cX12_total 11 = .ok (.if_icmp .ge 18, 3) := by decide +kernel
theorem dX12_total_14 : decode cX12_total 14 = .ok (.iload_n 1, 1) := by decide +kernel
theorem dX12_total_15 : decode cX12_total 15 = .ok (.aload_n 0, 1) := by decide +kernel
theorem dX12_total_16 : decode cX12_total 16 = .ok (.iload_n 2, 1) := by decide +kernel
theorem dX12_total_17 : decode cX12_total 17 = .ok (.iconst 0, 1) := by decide +kernel
theorem dX12_total_18 : decode cX12_total 18 = .ok (.invokevirtual 91, 3) := by decide +kernel
theorem dX12_total_21 : decode cX12_total 21 = .ok (.iadd, 1) := by decide +kernel
theorem dX12_total_22 : decode cX12_total 22 = .ok (.istore_n 1, 1) := by decide +kernel
theorem dX12_total_23 : decode cX12_total 23 = .ok (.iinc 2 1, 3) := by decide +kernel
theorem dX12_total_26 : decode cX12_total 26 = .ok (.goto (-22), 3) := by decide +kernel
theorem dX12_total_29 : decode cX12_total 29 = .ok (.iload_n 1, 1) := by decide +kernel
theorem dX12_total_30 : decode cX12_total 30 = .ok (.ireturn, 1) := by decide +kernel
theorem dX12_totalWeight_0 : decode cX12_totalWeight 0 = .ok (.aload_n 0, 1) := by decide +kernel
theorem dX12_totalWeight_1 : decode cX12_totalWeight 1 = .ok (.iconst 0, 1) := by decide +kernel
theorem dX12_totalWeight_2 : decode cX12_totalWeight 2 = .ok (.putfield 52, 3) := by decide +kernel
theorem dX12_totalWeight_5 : decode cX12_totalWeight 5 = .ok (.aload_n 0, 1) := by decide +kernel
theorem dX12_totalWeight_6 : decode cX12_totalWeight 6 = .ok (.invokevirtual 107, 3) := by decide +kernel
theorem dX12_totalWeight_9 : decode cX12_totalWeight 9 = .ok (.ireturn, 1) := by decide +kernel
theorem dX12_countsRound_0 : decode cX12_countsRound 0 = .ok (.bipush 8, 2) := by decide +kernel
theorem dX12_countsRound_2 : decode cX12_countsRound 2 = .ok (.aload_n 0, 1) := by decide +kernel
theorem dX12_countsRound_3 : decode cX12_countsRound 3 = .ok (.getfield 110, 3) := by decide +kernel
theorem dX12_countsRound_6 : decode cX12_countsRound 6 = .ok (.imul, 1) := by decide +kernel
theorem dX12_countsRound_7 : decode cX12_countsRound 7 = .ok (.istore_n 2, 1) := by decide +kernel
theorem dX12_countsRound_8 : decode cX12_countsRound 8 = .ok (.iconst 0, 1) := by decide +kernel
theorem dX12_countsRound_9 : decode cX12_countsRound 9 = .ok (.istore_n 3, 1) := by decide +kernel
theorem dX12_countsRound_10 : decode cX12_countsRound 10 = .ok (.iload_n 3, 1) := by decide +kernel
theorem dX12_countsRound_11 : decode cX12_countsRound 11 = .ok (.bipush 8, 2) := by decide +kernel
theorem dX12_countsRound_13 : decode cX12_countsRound 13 = .ok (.if_icmp .ge 31, 3) := by decide +kernel
theorem dX12_countsRound_16 : decode cX12_countsRound 16 = .ok (.aload_n 0, 1) := by decide +kernel
theorem dX12_countsRound_17 : decode cX12_countsRound 17 = .ok (.getfield 36, 3) := by decide +kernel
theorem dX12_countsRound_20 : decode cX12_countsRound 20 = .ok (.iload_n 2, 1) := by decide +kernel
theorem dX12_countsRound_21 : decode cX12_countsRound 21 = .ok (.iload_n 3, 1) := by decide +kernel
theorem dX12_countsRound_22 : decode cX12_countsRound 22 = .ok (.iadd, 1) := by decide +kernel
theorem dX12_countsRound_23 : decode cX12_countsRound 23 = .ok (.iload_n 1, 1) := by decide +kernel
theorem dX12_countsRound_24 : decode cX12_countsRound 24 = .ok (.iload_n 3, 1) := by decide +kernel
theorem dX12_countsRound_25 : decode cX12_countsRound 25 = .ok (.ishr, 1) := by decide +kernel
theorem dX12_countsRound_26 : decode cX12_countsRound 26 = .ok (.iconst 1, 1) := by decide +kernel
theorem dX12_countsRound_27 : decode cX12_countsRound 27 = .ok (.iand, 1) := by decide +kernel
theorem dX12_countsRound_28 : decode cX12_countsRound 28 = .ok (.iconst 1, 1) := by decide +kernel
theorem dX12_countsRound_29 : decode cX12_countsRound 29 = .ok (.if_icmp .ne 7, 3) := by decide +kernel
theorem dX12_countsRound_32 : decode cX12_countsRound 32 = .ok (.iconst 0, 1) := by decide +kernel
theorem dX12_countsRound_33 : decode cX12_countsRound 33 = .ok (.goto 4, 3) := by decide +kernel
theorem dX12_countsRound_36 : decode cX12_countsRound 36 = .ok (.iconst (-1), 1) := by decide +kernel
theorem dX12_countsRound_37 : decode cX12_countsRound 37 = .ok (.iastore, 1) := by decide +kernel
theorem dX12_countsRound_38 : decode cX12_countsRound 38 = .ok (.iinc 3 1, 3) := by decide +kernel
theorem dX12_countsRound_41 : decode cX12_countsRound 41 = .ok (.goto (-31), 3) := by decide +kernel
theorem dX12_countsRound_44 : decode cX12_countsRound 44 = .ok (.aload_n 0, 1) := by decide +kernel
theorem dX12_countsRound_45 : decode cX12_countsRound 45 = .ok (.getfield 39, 3) := by decide +kernel
theorem dX12_countsRound_48 : decode cX12_countsRound 48 = .ok (.aload_n 0, 1) := by decide +kernel
theorem dX12_countsRound_49 : decode cX12_countsRound 49 = .ok (.getfield 110, 3) := by decide +kernel
theorem dX12_countsRound_52 : decode cX12_countsRound 52 = .ok (.iconst 0, 1) := by decide +kernel
theorem dX12_countsRound_53 : decode cX12_countsRound 53 = .ok (.iastore, 1) := by decide +kernel
theorem dX12_countsRound_54 : decode cX12_countsRound 54 = .ok (.iconst 0, 1) := by decide +kernel
theorem dX12_countsRound_55 : decode cX12_countsRound 55 = .ok (.istore_n 3, 1) := by decide +kernel
theorem dX12_countsRound_56 : decode cX12_countsRound 56 = .ok (.iload_n 3, 1) := by decide +kernel
theorem dX12_countsRound_57 : decode cX12_countsRound 57 = .ok (.aload_n 0, 1) := by decide +kernel
theorem dX12_countsRound_58 : decode cX12_countsRound 58 = .ok (.getfield 7, 3) := by decide +kernel
theorem dX12_countsRound_61 : decode cX12_countsRound 61 = .ok (.iconst 1, 1) := by decide +kernel
theorem dX12_countsRound_62 : decode cX12_countsRound 62 = .ok (.iaload, 1) := by decide +kernel
theorem dX12_countsRound_63 : decode cX12_countsRound 63 = .ok (.if_icmp .ge 105, 3) := by decide +kernel
theorem dX12_countsRound_66 : decode cX12_countsRound 66 = .ok (.iconst 0, 1) := by decide +kernel
theorem dX12_countsRound_67 : decode cX12_countsRound 67 = .ok (.istore 4, 2) := by decide +kernel
theorem dX12_countsRound_69 : decode cX12_countsRound 69 = .ok (.iload 4, 2) := by decide +kernel
theorem dX12_countsRound_71 : decode cX12_countsRound 71 = .ok (.aload_n 0, 1) := by decide +kernel
theorem dX12_countsRound_72 : decode cX12_countsRound 72 = .ok (.iload_n 3, 1) := by decide +kernel
theorem dX12_countsRound_73 : decode cX12_countsRound 73 = .ok (.iconst 1, 1) := by decide +kernel
theorem dX12_countsRound_74 : decode cX12_countsRound 74 = .ok (.invokevirtual 91, 3) := by decide +kernel
theorem dX12_countsRound_77 : decode cX12_countsRound 77 = .ok (.if_icmp .ge 28, 3) := by decide +kernel
theorem dX12_countsRound_80 : decode cX12_countsRound 80 = .ok (.aload_n 0, 1) := by decide +kernel
theorem dX12_countsRound_81 : decode cX12_countsRound 81 = .ok (.getfield 36, 3) := by decide +kernel
theorem dX12_countsRound_84 : decode cX12_countsRound 84 = .ok (.iload_n 2, 1) := by decide +kernel
theorem dX12_countsRound_85 : decode cX12_countsRound 85 = .ok (.aload_n 0, 1) := by decide +kernel
theorem dX12_countsRound_86 : decode cX12_countsRound 86 = .ok (.iload_n 3, 1) := by decide +kernel
theorem dX12_countsRound_87 : decode cX12_countsRound 87 = .ok (.iconst 2, 1) := by decide +kernel
theorem dX12_countsRound_88 : decode cX12_countsRound 88 = .ok (.iload 4, 2) := by decide +kernel
theorem dX12_countsRound_90 : decode cX12_countsRound 90 = .ok (.iadd, 1) := by decide +kernel
theorem dX12_countsRound_91 : decode cX12_countsRound 91 = .ok (.invokevirtual 91, 3) := by decide +kernel
theorem dX12_countsRound_94 : decode cX12_countsRound 94 = .ok (.iadd, 1) := by decide +kernel
theorem dX12_countsRound_95 : decode cX12_countsRound 95 = .ok (.iaload, 1) := by decide +kernel
theorem dX12_countsRound_96 : decode cX12_countsRound 96 = .ok (.ifCond .ge 9, 3) := by decide +kernel
theorem dX12_countsRound_99 : decode cX12_countsRound 99 = .ok (.iinc 4 1, 3) := by decide +kernel
theorem dX12_countsRound_102 : decode cX12_countsRound 102 = .ok (.goto (-33), 3) := by decide +kernel
theorem dX12_countsRound_105 : decode cX12_countsRound 105 = .ok (.iload 4, 2) := by decide +kernel
theorem dX12_countsRound_107 : decode cX12_countsRound 107 = .ok (.aload_n 0, 1) := by decide +kernel
theorem dX12_countsRound_108 : decode cX12_countsRound 108 = .ok (.iload_n 3, 1) := by decide +kernel
theorem dX12_countsRound_109 : decode cX12_countsRound 109 = .ok (.iconst 1, 1) := by decide +kernel
theorem dX12_countsRound_110 : decode cX12_countsRound 110 = .ok (.invokevirtual 91, 3) := by decide +kernel
theorem dX12_countsRound_113 : decode cX12_countsRound 113 = .ok (.if_icmp .ge 31, 3) := by decide +kernel
theorem dX12_countsRound_116 : decode cX12_countsRound 116 = .ok (.aload_n 0, 1) := by decide +kernel
theorem dX12_countsRound_117 : decode cX12_countsRound 117 = .ok (.getfield 36, 3) := by decide +kernel
theorem dX12_countsRound_120 : decode cX12_countsRound 120 = .ok (.iload_n 2, 1) := by decide +kernel
theorem dX12_countsRound_121 : decode cX12_countsRound 121 = .ok (.aload_n 0, 1) := by decide +kernel
theorem dX12_countsRound_122 : decode cX12_countsRound 122 = .ok (.iload_n 3, 1) := by decide +kernel
theorem dX12_countsRound_123 : decode cX12_countsRound 123 = .ok (.iconst 2, 1) := by decide +kernel
theorem dX12_countsRound_124 : decode cX12_countsRound 124 = .ok (.iload 4, 2) := by decide +kernel
theorem dX12_countsRound_126 : decode cX12_countsRound 126 = .ok (.iadd, 1) := by decide +kernel
theorem dX12_countsRound_127 : decode cX12_countsRound 127 = .ok (.invokevirtual 91, 3) := by decide +kernel
theorem dX12_countsRound_130 : decode cX12_countsRound 130 = .ok (.iadd, 1) := by decide +kernel
theorem dX12_countsRound_131 : decode cX12_countsRound 131 = .ok (.dup2, 1) := by decide +kernel
theorem dX12_countsRound_132 : decode cX12_countsRound 132 = .ok (.iaload, 1) := by decide +kernel
theorem dX12_countsRound_133 : decode cX12_countsRound 133 = .ok (.aload_n 0, 1) := by decide +kernel
theorem dX12_countsRound_134 : decode cX12_countsRound 134 = .ok (.iload_n 3, 1) := by decide +kernel
theorem dX12_countsRound_135 : decode cX12_countsRound 135 = .ok (.iconst 0, 1) := by decide +kernel
theorem dX12_countsRound_136 : decode cX12_countsRound 136 = .ok (.invokevirtual 91, 3) := by decide +kernel
theorem dX12_countsRound_139 : decode cX12_countsRound 139 = .ok (.iadd, 1) := by decide +kernel
theorem dX12_countsRound_140 : decode cX12_countsRound 140 = .ok (.iastore, 1) := by decide +kernel
theorem dX12_countsRound_141 : decode cX12_countsRound 141 = .ok (.goto 21, 3) := by decide +kernel
theorem dX12_countsRound_144 : decode cX12_countsRound 144 = .ok (.aload_n 0, 1) := by decide +kernel
theorem dX12_countsRound_145 : decode cX12_countsRound 145 = .ok (.getfield 39, 3) := by decide +kernel
theorem dX12_countsRound_148 : decode cX12_countsRound 148 = .ok (.aload_n 0, 1) := by decide +kernel
theorem dX12_countsRound_149 : decode cX12_countsRound 149 = .ok (.getfield 110, 3) := by decide +kernel
theorem dX12_countsRound_152 : decode cX12_countsRound 152 = .ok (.dup2, 1) := by decide +kernel
theorem dX12_countsRound_153 : decode cX12_countsRound 153 = .ok (.iaload, 1) := by decide +kernel
theorem dX12_countsRound_154 : decode cX12_countsRound 154 = .ok (.aload_n 0, 1) := by decide +kernel
theorem dX12_countsRound_155 : decode cX12_countsRound 155 = .ok (.iload_n 3, 1) := by decide +kernel
theorem dX12_countsRound_156 : decode cX12_countsRound 156 = .ok (.iconst 0, 1) := by decide +kernel
theorem dX12_countsRound_157 : decode cX12_countsRound 157 = .ok (.invokevirtual 91, 3) := by decide +kernel
theorem dX12_countsRound_160 : decode cX12_countsRound 160 = .ok (.iadd, 1) := by decide +kernel
theorem dX12_countsRound_161 : decode cX12_countsRound 161 = .ok (.iastore, 1) := by decide +kernel
theorem dX12_countsRound_162 : decode cX12_countsRound 162 = .ok (.iinc 3 1, 3) := by decide +kernel
theorem dX12_countsRound_165 : decode cX12_countsRound 165 = .ok (.goto (-109), 3) := by decide +kernel
theorem dX12_countsRound_168 : decode cX12_countsRound 168 = .ok (.return_, 1) := by decide +kernel
theorem dX12_wins_0 : decode cX12_wins 0 = .ok (.iconst 0, 1) := by decide +kernel
theorem dX12_wins_1 : decode cX12_wins 1 = .ok (.istore_n 2, 1) := by decide +kernel
theorem dX12_wins_2 : decode cX12_wins 2 = .ok (.iconst 0, 1) := by decide +kernel
theorem dX12_wins_3 : decode cX12_wins 3 = .ok (.istore_n 3, 1) := by decide +kernel
theorem dX12_wins_4 : decode cX12_wins 4 = .ok (.iconst 0, 1) := by decide +kernel
theorem dX12_wins_5 : decode cX12_wins 5 = .ok (.istore 4, 2) := by decide +kernel
theorem dX12_wins_7 : decode cX12_wins 7 = .ok (.iload 4, 2) := by decide +kernel
theorem dX12_wins_9 : decode cX12_wins 9 = .ok (.bipush 8, 2) := by decide +kernel
theorem dX12_wins_11 : decode cX12_wins 11 = .ok (.if_icmp .ge 57, 3) := by decide +kernel
theorem dX12_wins_14 : decode cX12_wins 14 = .ok (.iload_n 3, 1) := by decide +kernel
theorem dX12_wins_15 : decode cX12_wins 15 = .ok (.aload_n 0, 1) := by decide +kernel
theorem dX12_wins_16 : decode cX12_wins 16 = .ok (.getfield 36, 3) := by decide +kernel
theorem dX12_wins_19 : decode cX12_wins 19 = .ok (.iload_n 1, 1) := by decide +kernel
theorem dX12_wins_20 : decode cX12_wins 20 = .ok (.iload 4, 2) := by decide +kernel
theorem dX12_wins_22 : decode cX12_wins 22 = .ok (.iadd, 1) := by decide +kernel
theorem dX12_wins_23 : decode cX12_wins 23 = .ok (.iaload, 1) := by decide +kernel
theorem dX12_wins_24 : decode cX12_wins 24 = .ok (.ifCond .ge 7, 3) := by decide +kernel
theorem dX12_wins_27 : decode cX12_wins 27 = .ok (.iconst 0, 1) := by decide +kernel
theorem dX12_wins_28 : decode cX12_wins 28 = .ok (.goto 4, 3) := by decide +kernel
theorem dX12_wins_31 : decode cX12_wins 31 = .ok (.iconst 1, 1) := by decide +kernel
theorem dX12_wins_32 : decode cX12_wins 32 = .ok (.iadd, 1) := by decide +kernel
theorem dX12_wins_33 : decode cX12_wins 33 = .ok (.istore_n 3, 1) := by decide +kernel
theorem dX12_wins_34 : decode cX12_wins 34 = .ok (.iload_n 2, 1) := by decide +kernel
theorem dX12_wins_35 : decode cX12_wins 35 = .ok (.aload_n 0, 1) := by decide +kernel
theorem dX12_wins_36 : decode cX12_wins 36 = .ok (.getfield 36, 3) := by decide +kernel
theorem dX12_wins_39 : decode cX12_wins 39 = .ok (.iload_n 1, 1) := by decide +kernel
theorem dX12_wins_40 : decode cX12_wins 40 = .ok (.iload 4, 2) := by decide +kernel
theorem dX12_wins_42 : decode cX12_wins 42 = .ok (.iadd, 1) := by decide +kernel
theorem dX12_wins_43 : decode cX12_wins 43 = .ok (.iaload, 1) := by decide +kernel
theorem dX12_wins_44 : decode cX12_wins 44 = .ok (.ifCond .ge 7, 3) := by decide +kernel
theorem dX12_wins_47 : decode cX12_wins 47 = .ok (.iconst 0, 1) := by decide +kernel
theorem dX12_wins_48 : decode cX12_wins 48 = .ok (.goto 12, 3) := by decide +kernel
theorem dX12_wins_51 : decode cX12_wins 51 = .ok (.aload_n 0, 1) := by decide +kernel
theorem dX12_wins_52 : decode cX12_wins 52 = .ok (.getfield 36, 3) := by decide +kernel
theorem dX12_wins_55 : decode cX12_wins 55 = .ok (.iload_n 1, 1) := by decide +kernel
theorem dX12_wins_56 : decode cX12_wins 56 = .ok (.iload 4, 2) := by decide +kernel
theorem dX12_wins_58 : decode cX12_wins 58 = .ok (.iadd, 1) := by decide +kernel
theorem dX12_wins_59 : decode cX12_wins 59 = .ok (.iaload, 1) := by decide +kernel
theorem dX12_wins_60 : decode cX12_wins 60 = .ok (.iadd, 1) := by decide +kernel
theorem dX12_wins_61 : decode cX12_wins 61 = .ok (.istore_n 2, 1) := by decide +kernel
theorem dX12_wins_62 : decode cX12_wins 62 = .ok (.iinc 4 1, 3) := by decide +kernel
theorem dX12_wins_65 : decode cX12_wins 65 = .ok (.goto (-58), 3) := by decide +kernel
theorem dX12_wins_68 : decode cX12_wins 68 = .ok (.iconst 0, 1) := by decide +kernel
theorem dX12_wins_69 : decode cX12_wins 69 = .ok (.istore 4, 2) := by decide +kernel
theorem dX12_wins_71 : decode cX12_wins 71 = .ok (.iload 4, 2) := by decide +kernel
theorem dX12_wins_73 : decode cX12_wins 73 = .ok (.bipush 8, 2) := by decide +kernel
theorem dX12_wins_75 : decode cX12_wins 75 = .ok (.if_icmp .ge 44, 3) := by decide +kernel
theorem dX12_wins_78 : decode cX12_wins 78 = .ok (.aload_n 0, 1) := by decide +kernel
theorem dX12_wins_79 : decode cX12_wins 79 = .ok (.getfield 36, 3) := by decide +kernel
theorem dX12_wins_82 : decode cX12_wins 82 = .ok (.iload_n 1, 1) := by decide +kernel
theorem dX12_wins_83 : decode cX12_wins 83 = .ok (.iload 4, 2) := by decide +kernel
theorem dX12_wins_85 : decode cX12_wins 85 = .ok (.iadd, 1) := by decide +kernel
theorem dX12_wins_86 : decode cX12_wins 86 = .ok (.iaload, 1) := by decide +kernel
theorem dX12_wins_87 : decode cX12_wins 87 = .ok (.ifCond .lt 26, 3) := by decide +kernel
theorem dX12_wins_90 : decode cX12_wins 90 = .ok (.iload_n 3, 1) := by decide +kernel
theorem dX12_wins_91 : decode cX12_wins 91 = .ok (.iconst 1, 1) := by decide +kernel
theorem dX12_wins_92 : decode cX12_wins 92 = .ok (.if_icmp .eq 18, 3) := by decide +kernel
theorem dX12_wins_95 : decode cX12_wins 95 = .ok (.iconst 2, 1) := by decide +kernel
theorem dX12_wins_96 : decode cX12_wins 96 = .ok (.aload_n 0, 1) := by decide +kernel
theorem dX12_wins_97 : decode cX12_wins 97 = .ok (.getfield 36, 3) := by decide +kernel
theorem dX12_wins_100 : decode cX12_wins 100 = .ok (.iload_n 1, 1) := by decide +kernel
theorem dX12_wins_101 : decode cX12_wins 101 = .ok (.iload 4, 2) := by decide +kernel
theorem dX12_wins_103 : decode cX12_wins 103 = .ok (.iadd, 1) := by decide +kernel
theorem dX12_wins_104 : decode cX12_wins 104 = .ok (.iaload, 1) := by decide +kernel
theorem dX12_wins_105 : decode cX12_wins 105 = .ok (.imul, 1) := by decide +kernel
theorem dX12_wins_106 : decode cX12_wins 106 = .ok (.iload_n 2, 1) := by decide +kernel
theorem dX12_wins_107 : decode cX12_wins 107 = .ok (.if_icmp .le 6, 3) := by decide +kernel
theorem dX12_wins_110 : decode cX12_wins 110 = .ok (.iload 4, 2) := by decide +kernel
theorem dX12_wins_112 : decode cX12_wins 112 = .ok (.ireturn, 1) := by decide +kernel
theorem dX12_wins_113 : decode cX12_wins 113 = .ok (.iinc 4 1, 3) := by decide +kernel
theorem dX12_wins_116 : decode cX12_wins 116 = .ok (.goto (-45), 3) := by decide +kernel
theorem dX12_wins_119 : decode cX12_wins 119 = .ok (.iconst (-1), 1) := by decide +kernel
theorem dX12_wins_120 : decode cX12_wins 120 = .ok (.ireturn, 1) := by decide +kernel
theorem dX12_falls_0 : decode cX12_falls 0 = .ok (.sipush 3000, 3) := by decide +kernel
theorem dX12_falls_3 : decode cX12_falls 3 = .ok (.istore_n 2, 1) := by decide +kernel
theorem dX12_falls_4 : decode cX12_falls 4 = .ok (.iconst 0, 1) := by decide +kernel
theorem dX12_falls_5 : decode cX12_falls 5 = .ok (.istore_n 3, 1) := by decide +kernel
theorem dX12_falls_6 : decode cX12_falls 6 = .ok (.iconst 0, 1) := by decide +kernel
theorem dX12_falls_7 : decode cX12_falls 7 = .ok (.istore 4, 2) := by decide +kernel
theorem dX12_falls_9 : decode cX12_falls 9 = .ok (.iload 4, 2) := by decide +kernel
theorem dX12_falls_11 : decode cX12_falls 11 = .ok (.bipush 8, 2) := by decide +kernel
theorem dX12_falls_13 : decode cX12_falls 13 = .ok (.if_icmp .ge 68, 3) := by decide +kernel
theorem dX12_falls_16 : decode cX12_falls 16 = .ok (.aload_n 0, 1) := by decide +kernel
theorem dX12_falls_17 : decode cX12_falls 17 = .ok (.getfield 36, 3) := by decide +kernel
theorem dX12_falls_20 : decode cX12_falls 20 = .ok (.iload_n 1, 1) := by decide +kernel
theorem dX12_falls_21 : decode cX12_falls 21 = .ok (.iload 4, 2) := by decide +kernel
theorem dX12_falls_23 : decode cX12_falls 23 = .ok (.iadd, 1) := by decide +kernel
theorem dX12_falls_24 : decode cX12_falls 24 = .ok (.iaload, 1) := by decide +kernel
theorem dX12_falls_25 : decode cX12_falls 25 = .ok (.ifCond .lt 50, 3) := by decide +kernel
theorem dX12_falls_28 : decode cX12_falls 28 = .ok (.aload_n 0, 1) := by decide +kernel
theorem dX12_falls_29 : decode cX12_falls 29 = .ok (.getfield 36, 3) := by decide +kernel
theorem dX12_falls_32 : decode cX12_falls 32 = .ok (.iload_n 1, 1) := by decide +kernel
theorem dX12_falls_33 : decode cX12_falls 33 = .ok (.iload 4, 2) := by decide +kernel
theorem dX12_falls_35 : decode cX12_falls 35 = .ok (.iadd, 1) := by decide +kernel
theorem dX12_falls_36 : decode cX12_falls 36 = .ok (.iaload, 1) := by decide +kernel
theorem dX12_falls_37 : decode cX12_falls 37 = .ok (.iload_n 2, 1) := by decide +kernel
theorem dX12_falls_38 : decode cX12_falls 38 = .ok (.if_icmp .le 6, 3) := by decide +kernel
theorem dX12_falls_41 : decode cX12_falls 41 = .ok (.goto 34, 3) := by decide +kernel
theorem dX12_falls_44 : decode cX12_falls 44 = .ok (.aload_n 0, 1) := by decide +kernel
theorem dX12_falls_45 : decode cX12_falls 45 = .ok (.getfield 36, 3) := by decide +kernel
theorem dX12_falls_48 : decode cX12_falls 48 = .ok (.iload_n 1, 1) := by decide +kernel
theorem dX12_falls_49 : decode cX12_falls 49 = .ok (.iload 4, 2) := by decide +kernel
theorem dX12_falls_51 : decode cX12_falls 51 = .ok (.iadd, 1) := by decide +kernel
theorem dX12_falls_52 : decode cX12_falls 52 = .ok (.iaload, 1) := by decide +kernel
theorem dX12_falls_53 : decode cX12_falls 53 = .ok (.iload_n 2, 1) := by decide +kernel
theorem dX12_falls_54 : decode cX12_falls 54 = .ok (.if_icmp .ne 9, 3) := by decide +kernel
theorem dX12_falls_57 : decode cX12_falls 57 = .ok (.iload_n 3, 1) := by decide +kernel
theorem dX12_falls_58 : decode cX12_falls 58 = .ok (.iconst 1, 1) := by decide +kernel
theorem dX12_falls_59 : decode cX12_falls 59 = .ok (.iadd, 1) := by decide +kernel
theorem dX12_falls_60 : decode cX12_falls 60 = .ok (.goto 4, 3) := by decide +kernel
theorem dX12_falls_63 : decode cX12_falls 63 = .ok (.iconst 1, 1) := by decide +kernel
theorem dX12_falls_64 : decode cX12_falls 64 = .ok (.istore_n 3, 1) := by decide +kernel
theorem dX12_falls_65 : decode cX12_falls 65 = .ok (.aload_n 0, 1) := by decide +kernel
theorem dX12_falls_66 : decode cX12_falls 66 = .ok (.getfield 36, 3) := by decide +kernel
theorem dX12_falls_69 : decode cX12_falls 69 = .ok (.iload_n 1, 1) := by decide +kernel
theorem dX12_falls_70 : decode cX12_falls 70 = .ok (.iload 4, 2) := by decide +kernel
theorem dX12_falls_72 : decode cX12_falls 72 = .ok (.iadd, 1) := by decide +kernel
theorem dX12_falls_73 : decode cX12_falls 73 = .ok (.iaload, 1) := by decide +kernel
theorem dX12_falls_74 : decode cX12_falls 74 = .ok (.istore_n 2, 1) := by decide +kernel
theorem dX12_falls_75 : decode cX12_falls 75 = .ok (.iinc 4 1, 3) := by decide +kernel
theorem dX12_falls_78 : decode cX12_falls 78 = .ok (.goto (-69), 3) := by decide +kernel
theorem dX12_falls_81 : decode cX12_falls 81 = .ok (.aload_n 0, 1) := by decide +kernel
theorem dX12_falls_82 : decode cX12_falls 82 = .ok (.getfield 45, 3) := by decide +kernel
theorem dX12_falls_85 : decode cX12_falls 85 = .ok (.aload_n 0, 1) := by decide +kernel
theorem dX12_falls_86 : decode cX12_falls 86 = .ok (.getfield 110, 3) := by decide +kernel
theorem dX12_falls_89 : decode cX12_falls 89 = .ok (.iload_n 3, 1) := by decide +kernel
theorem dX12_falls_90 : decode cX12_falls 90 = .ok (.iconst 1, 1) := by decide +kernel
theorem dX12_falls_91 : decode cX12_falls 91 = .ok (.if_icmp .le 7, 3) := by decide +kernel
theorem dX12_falls_94 : decode cX12_falls 94 = .ok (.iconst 1, 1) := by decide +kernel
theorem dX12_falls_95 : decode cX12_falls 95 = .ok (.goto 4, 3) := by decide +kernel
theorem dX12_falls_98 : decode cX12_falls 98 = .ok (.iconst 0, 1) := by decide +kernel
theorem dX12_falls_99 : decode cX12_falls 99 = .ok (.bastore, 1) := by decide +kernel
theorem dX12_falls_100 : decode cX12_falls 100 = .ok (.iload_n 3, 1) := by decide +kernel
theorem dX12_falls_101 : decode cX12_falls 101 = .ok (.iconst 1, 1) := by decide +kernel
theorem dX12_falls_102 : decode cX12_falls 102 = .ok (.if_icmp .le 18, 3) := by decide +kernel
theorem dX12_falls_105 : decode cX12_falls 105 = .ok (.aload_n 0, 1) := by decide +kernel
theorem dX12_falls_106 : decode cX12_falls 106 = .ok (.iconst 5, 1) := by decide +kernel
theorem dX12_falls_107 : decode cX12_falls 107 = .ok (.aload_n 0, 1) := by decide +kernel
theorem dX12_falls_108 : decode cX12_falls 108 = .ok (.getfield 113, 3) := by decide +kernel
theorem dX12_falls_111 : decode cX12_falls 111 = .ok (.imul, 1) := by decide +kernel
theorem dX12_falls_112 : decode cX12_falls 112 = .ok (.iconst 3, 1) := by decide +kernel
theorem dX12_falls_113 : decode cX12_falls 113 = .ok (.iadd, 1) := by decide +kernel
theorem dX12_falls_114 : decode cX12_falls 114 = .ok (.bipush 16, 2) := by decide +kernel
theorem dX12_falls_116 : decode cX12_falls 116 = .ok (.irem, 1) := by decide +kernel
theorem dX12_falls_117 : decode cX12_falls 117 = .ok (.putfield 113, 3) := by decide +kernel
theorem dX12_falls_120 : decode cX12_falls 120 = .ok (.iload_n 3, 1) := by decide +kernel
theorem dX12_falls_121 : decode cX12_falls 121 = .ok (.iconst 1, 1) := by decide +kernel
theorem dX12_falls_122 : decode cX12_falls 122 = .ok (.if_icmp .le 12, 3) := by decide +kernel
theorem dX12_falls_125 : decode cX12_falls 125 = .ok (.aload_n 0, 1) := by decide +kernel
theorem dX12_falls_126 : decode cX12_falls 126 = .ok (.getfield 113, 3) := by decide +kernel
theorem dX12_falls_129 : decode cX12_falls 129 = .ok (.iload_n 3, 1) := by decide +kernel
theorem dX12_falls_130 : decode cX12_falls 130 = .ok (.irem, 1) := by decide +kernel
theorem dX12_falls_131 : decode cX12_falls 131 = .ok (.goto 4, 3) := by decide +kernel
theorem dX12_falls_134 : decode cX12_falls 134 = .ok (.iconst 0, 1) := by decide +kernel
theorem dX12_falls_135 : decode cX12_falls 135 = .ok (.istore 4, 2) := by decide +kernel
theorem dX12_falls_137 : decode cX12_falls 137 = .ok (.iconst 0, 1) := by decide +kernel
theorem dX12_falls_138 : decode cX12_falls 138 = .ok (.istore 5, 2) := by decide +kernel
theorem dX12_falls_140 : decode cX12_falls 140 = .ok (.aload_n 0, 1) := by decide +kernel
theorem dX12_falls_141 : decode cX12_falls 141 = .ok (.getfield 36, 3) := by decide +kernel
theorem dX12_falls_144 : decode cX12_falls 144 = .ok (.iload_n 1, 1) := by decide +kernel
theorem dX12_falls_145 : decode cX12_falls 145 = .ok (.iload 5, 2) := by decide +kernel
theorem dX12_falls_147 : decode cX12_falls 147 = .ok (.iadd, 1) := by decide +kernel
theorem dX12_falls_148 : decode cX12_falls 148 = .ok (.iaload, 1) := by decide +kernel
theorem dX12_falls_149 : decode cX12_falls 149 = .ok (.iload_n 2, 1) := by decide +kernel
theorem dX12_falls_150 : decode cX12_falls 150 = .ok (.if_icmp .ne 8, 3) := by decide +kernel
theorem dX12_falls_153 : decode cX12_falls 153 = .ok (.iload 4, 2) := by decide +kernel
theorem dX12_falls_155 : decode cX12_falls 155 = .ok (.ifCond .le 25, 3) := by decide +kernel
theorem dX12_falls_158 : decode cX12_falls 158 = .ok (.aload_n 0, 1) := by decide +kernel
theorem dX12_falls_159 : decode cX12_falls 159 = .ok (.getfield 36, 3) := by decide +kernel
theorem dX12_falls_162 : decode cX12_falls 162 = .ok (.iload_n 1, 1) := by decide +kernel
theorem dX12_falls_163 : decode cX12_falls 163 = .ok (.iload 5, 2) := by decide +kernel
theorem dX12_falls_165 : decode cX12_falls 165 = .ok (.iadd, 1) := by decide +kernel
theorem dX12_falls_166 : decode cX12_falls 166 = .ok (.iaload, 1) := by decide +kernel
theorem dX12_falls_167 : decode cX12_falls 167 = .ok (.iload_n 2, 1) := by decide +kernel
theorem dX12_falls_168 : decode cX12_falls 168 = .ok (.if_icmp .ne 6, 3) := by decide +kernel
theorem dX12_falls_171 : decode cX12_falls 171 = .ok (.iinc 4 (-1), 3) := by decide +kernel
theorem dX12_falls_174 : decode cX12_falls 174 = .ok (.iinc 5 1, 3) := by decide +kernel
theorem dX12_falls_177 : decode cX12_falls 177 = .ok (.goto (-37), 3) := by decide +kernel
theorem dX12_falls_180 : decode cX12_falls 180 = .ok (.iload 5, 2) := by decide +kernel
theorem dX12_falls_182 : decode cX12_falls 182 = .ok (.ireturn, 1) := by decide +kernel
theorem dX12_counts_0 : decode cX12_counts 0 = .ok (.iconst 0, 1) := by decide +kernel
theorem dX12_counts_1 : decode cX12_counts 1 = .ok (.istore_n 1, 1) := by decide +kernel
theorem dX12_counts_2 : decode cX12_counts 2 = .ok (.iconst 0, 1) := by decide +kernel
theorem dX12_counts_3 : decode cX12_counts 3 = .ok (.istore_n 2, 1) := by decide +kernel
theorem dX12_counts_4 : decode cX12_counts 4 = .ok (.iload_n 2, 1) := by decide +kernel
theorem dX12_counts_5 : decode cX12_counts 5 = .ok (.aload_n 0, 1) := by decide +kernel
theorem dX12_counts_6 : decode cX12_counts 6 = .ok (.getfield 7, 3) := by decide +kernel
theorem dX12_counts_9 : decode cX12_counts 9 = .ok (.iconst 0, 1) := by decide +kernel
theorem dX12_counts_10 : decode cX12_counts 10 = .ok (.iaload, 1) := by decide +kernel
theorem dX12_counts_11 : decode cX12_counts 11 = .ok (.if_icmp .ge 27, 3) := by decide +kernel
theorem dX12_counts_14 : decode cX12_counts 14 = .ok (.iload_n 1, 1) := by decide +kernel
theorem dX12_counts_15 : decode cX12_counts 15 = .ok (.aload_n 0, 1) := by decide +kernel
theorem dX12_counts_16 : decode cX12_counts 16 = .ok (.iload_n 2, 1) := by decide +kernel
theorem dX12_counts_17 : decode cX12_counts 17 = .ok (.invokevirtual 70, 3) := by decide +kernel
theorem dX12_counts_20 : decode cX12_counts 20 = .ok (.ifCond .eq 9, 3) := by decide +kernel
theorem dX12_counts_23 : decode cX12_counts 23 = .ok (.iconst 1, 1) := by decide +kernel
theorem dX12_counts_24 : decode cX12_counts 24 = .ok (.iload_n 2, 1) := by decide +kernel
theorem dX12_counts_25 : decode cX12_counts 25 = .ok (.ishl, 1) := by decide +kernel
theorem dX12_counts_26 : decode cX12_counts 26 = .ok (.goto 4, 3) := by decide +kernel
theorem dX12_counts_29 : decode cX12_counts 29 = .ok (.iconst 0, 1) := by decide +kernel
theorem dX12_counts_30 : decode cX12_counts 30 = .ok (.ior, 1) := by decide +kernel
theorem dX12_counts_31 : decode cX12_counts 31 = .ok (.istore_n 1, 1) := by decide +kernel
theorem dX12_counts_32 : decode cX12_counts 32 = .ok (.iinc 2 1, 3) := by decide +kernel
theorem dX12_counts_35 : decode cX12_counts 35 = .ok (.goto (-31), 3) := by decide +kernel
theorem dX12_counts_38 : decode cX12_counts 38 = .ok (.aload_n 0, 1) := by decide +kernel
theorem dX12_counts_39 : decode cX12_counts 39 = .ok (.iconst 0, 1) := by decide +kernel
theorem dX12_counts_40 : decode cX12_counts 40 = .ok (.putfield 110, 3) := by decide +kernel
theorem dX12_counts_43 : decode cX12_counts 43 = .ok (.aload_n 0, 1) := by decide +kernel
theorem dX12_counts_44 : decode cX12_counts 44 = .ok (.iconst (-1), 1) := by decide +kernel
theorem dX12_counts_45 : decode cX12_counts 45 = .ok (.putfield 116, 3) := by decide +kernel
theorem dX12_counts_48 : decode cX12_counts 48 = .ok (.aload_n 0, 1) := by decide +kernel
theorem dX12_counts_49 : decode cX12_counts 49 = .ok (.aload_n 0, 1) := by decide +kernel
theorem dX12_counts_50 : decode cX12_counts 50 = .ok (.getfield 7, 3) := by decide +kernel
theorem dX12_counts_53 : decode cX12_counts 53 = .ok (.iconst 2, 1) := by decide +kernel
theorem dX12_counts_54 : decode cX12_counts 54 = .ok (.iaload, 1) := by decide +kernel
theorem dX12_counts_55 : decode cX12_counts 55 = .ok (.putfield 113, 3) := by decide +kernel
theorem dX12_counts_58 : decode cX12_counts 58 = .ok (.iload_n 1, 1) := by decide +kernel
theorem dX12_counts_59 : decode cX12_counts 59 = .ok (.ifCond .eq 107, 3) := by decide +kernel
theorem dX12_counts_62 : decode cX12_counts 62 = .ok (.aload_n 0, 1) := by decide +kernel
theorem dX12_counts_63 : decode cX12_counts 63 = .ok (.getfield 116, 3) := by decide +kernel
theorem dX12_counts_66 : decode cX12_counts 66 = .ok (.ifCond .ge 100, 3) := by decide +kernel
theorem dX12_counts_69 : decode cX12_counts 69 = .ok (.aload_n 0, 1) := by decide +kernel
theorem dX12_counts_70 : decode cX12_counts 70 = .ok (.iload_n 1, 1) := by decide +kernel
theorem dX12_counts_71 : decode cX12_counts 71 = .ok (.invokevirtual 119, 3) := by decide +kernel
theorem dX12_counts_74 : decode cX12_counts 74 = .ok (.aload_n 0, 1) := by decide +kernel
theorem dX12_counts_75 : decode cX12_counts 75 = .ok (.aload_n 0, 1) := by decide +kernel
theorem dX12_counts_76 : decode cX12_counts 76 = .ok (.bipush 8, 2) := by decide +kernel
theorem dX12_counts_78 : decode cX12_counts 78 = .ok (.aload_n 0, 1) := by decide +kernel
theorem dX12_counts_79 : decode cX12_counts 79 = .ok (.getfield 110, 3) := by decide +kernel
theorem dX12_counts_82 : decode cX12_counts 82 = .ok (.imul, 1) := by decide +kernel
theorem dX12_counts_83 : decode cX12_counts 83 = .ok (.invokevirtual 123, 3) := by decide +kernel
theorem dX12_counts_86 : decode cX12_counts 86 = .ok (.putfield 116, 3) := by decide +kernel
theorem dX12_counts_89 : decode cX12_counts 89 = .ok (.aload_n 0, 1) := by decide +kernel
theorem dX12_counts_90 : decode cX12_counts 90 = .ok (.getfield 45, 3) := by decide +kernel
theorem dX12_counts_93 : decode cX12_counts 93 = .ok (.aload_n 0, 1) := by decide +kernel
theorem dX12_counts_94 : decode cX12_counts 94 = .ok (.getfield 110, 3) := by decide +kernel
theorem dX12_counts_97 : decode cX12_counts 97 = .ok (.iconst 0, 1) := by decide +kernel
theorem dX12_counts_98 : decode cX12_counts 98 = .ok (.bastore, 1) := by decide +kernel
theorem dX12_counts_99 : decode cX12_counts 99 = .ok (.aload_n 0, 1) := by decide +kernel
theorem dX12_counts_100 : decode cX12_counts 100 = .ok (.getfield 42, 3) := by decide +kernel
theorem dX12_counts_103 : decode cX12_counts 103 = .ok (.aload_n 0, 1) := by decide +kernel
theorem dX12_counts_104 : decode cX12_counts 104 = .ok (.getfield 110, 3) := by decide +kernel
theorem dX12_counts_107 : decode cX12_counts 107 = .ok (.aload_n 0, 1) := by decide +kernel
theorem dX12_counts_108 : decode cX12_counts 108 = .ok (.getfield 116, 3) := by decide +kernel
theorem dX12_counts_111 : decode cX12_counts 111 = .ok (.ifCond .ge 17, 3) := by decide +kernel
theorem dX12_counts_114 : decode cX12_counts 114 = .ok (.aload_n 0, 1) := by decide +kernel
theorem dX12_counts_115 : decode cX12_counts 115 = .ok (.bipush 8, 2) := by decide +kernel
theorem dX12_counts_117 : decode cX12_counts 117 = .ok (.aload_n 0, 1) := by decide +kernel
theorem dX12_counts_118 : decode cX12_counts 118 = .ok (.getfield 110, 3) := by decide +kernel
theorem dX12_counts_121 : decode cX12_counts 121 = .ok (.imul, 1) := by decide +kernel
theorem dX12_counts_122 : decode cX12_counts 122 = .ok (.invokevirtual 127, 3) := by decide +kernel
theorem dX12_counts_125 : decode cX12_counts 125 = .ok (.goto 4, 3) := by decide +kernel
theorem dX12_counts_128 : decode cX12_counts 128 = .ok (.iconst (-1), 1) := by decide +kernel
theorem dX12_counts_129 : decode cX12_counts 129 = .ok (.iastore, 1) := by decide +kernel
theorem dX12_counts_130 : decode cX12_counts 130 = .ok (.aload_n 0, 1) := by decide +kernel
theorem dX12_counts_131 : decode cX12_counts 131 = .ok (.getfield 116, 3) := by decide +kernel
theorem dX12_counts_134 : decode cX12_counts 134 = .ok (.ifCond .ge 19, 3) := by decide +kernel
theorem dX12_counts_137 : decode cX12_counts 137 = .ok (.iload_n 1, 1) := by decide +kernel
theorem dX12_counts_138 : decode cX12_counts 138 = .ok (.iconst 1, 1) := by decide +kernel
theorem dX12_counts_139 : decode cX12_counts 139 = .ok (.aload_n 0, 1) := by decide +kernel
theorem dX12_counts_140 : decode cX12_counts 140 = .ok (.getfield 42, 3) := by decide +kernel
theorem dX12_counts_143 : decode cX12_counts 143 = .ok (.aload_n 0, 1) := by decide +kernel
theorem dX12_counts_144 : decode cX12_counts 144 = .ok (.getfield 110, 3) := by decide +kernel
theorem dX12_counts_147 : decode cX12_counts 147 = .ok (.iaload, 1) := by decide +kernel
theorem dX12_counts_148 : decode cX12_counts 148 = .ok (.ishl, 1) := by decide +kernel
theorem dX12_counts_149 : decode cX12_counts 149 = .ok (.iconst (-1), 1) := by decide +kernel
theorem dX12_counts_150 : decode cX12_counts 150 = .ok (.ixor, 1) := by decide +kernel
theorem dX12_counts_151 : decode cX12_counts 151 = .ok (.iand, 1) := by decide +kernel
theorem dX12_counts_152 : decode cX12_counts 152 = .ok (.istore_n 1, 1) := by decide +kernel
theorem dX12_counts_153 : decode cX12_counts 153 = .ok (.aload_n 0, 1) := by decide +kernel
theorem dX12_counts_154 : decode cX12_counts 154 = .ok (.dup, 1) := by decide +kernel
theorem dX12_counts_155 : decode cX12_counts 155 = .ok (.getfield 110, 3) := by decide +kernel
theorem dX12_counts_158 : decode cX12_counts 158 = .ok (.iconst 1, 1) := by decide +kernel
theorem dX12_counts_159 : decode cX12_counts 159 = .ok (.iadd, 1) := by decide +kernel
theorem dX12_counts_160 : decode cX12_counts 160 = .ok (.putfield 110, 3) := by decide +kernel
theorem dX12_counts_163 : decode cX12_counts 163 = .ok (.goto (-105), 3) := by decide +kernel
theorem dX12_counts_166 : decode cX12_counts 166 = .ok (.return_, 1) := by decide +kernel
theorem dX12_elected_0 : decode cX12_elected 0 = .ok (.aload_n 0, 1) := by decide +kernel
theorem dX12_elected_1 : decode cX12_elected 1 = .ok (.invokevirtual 130, 3) := by decide +kernel
theorem dX12_elected_4 : decode cX12_elected 4 = .ok (.aload_n 0, 1) := by decide +kernel
theorem dX12_elected_5 : decode cX12_elected 5 = .ok (.aload_n 0, 1) := by decide +kernel
theorem dX12_elected_6 : decode cX12_elected 6 = .ok (.getfield 116, 3) := by decide +kernel
theorem dX12_elected_9 : decode cX12_elected 9 = .ok (.ifCond .ge 7, 3) := by decide +kernel
theorem dX12_elected_12 : decode cX12_elected 12 = .ok (.iconst 1, 1) := by decide +kernel
theorem dX12_elected_13 : decode cX12_elected 13 = .ok (.goto 4, 3) := by decide +kernel
theorem dX12_elected_16 : decode cX12_elected 16 = .ok (.iconst 0, 1) := by decide +kernel
theorem dX12_elected_17 : decode cX12_elected 17 = .ok (.invokevirtual 77, 3) := by decide +kernel
theorem dX12_elected_20 : decode cX12_elected 20 = .ok (.ifCond .eq 7, 3) := by decide +kernel
theorem dX12_elected_23 : decode cX12_elected 23 = .ok (.iconst 0, 1) := by decide +kernel
theorem dX12_elected_24 : decode cX12_elected 24 = .ok (.goto 7, 3) := by decide +kernel
theorem dX12_elected_27 : decode cX12_elected 27 = .ok (.aload_n 0, 1) := by decide +kernel
theorem dX12_elected_28 : decode cX12_elected 28 = .ok (.getfield 116, 3) := by decide +kernel
theorem dX12_elected_31 : decode cX12_elected 31 = .ok (.ireturn, 1) := by decide +kernel
theorem dX12_winner_0 : decode cX12_winner 0 = .ok (.aload_n 0, 1) := by decide +kernel
theorem dX12_winner_1 : decode cX12_winner 1 = .ok (.invokevirtual 133, 3) := by decide +kernel
theorem dX12_winner_4 : decode cX12_winner 4 = .ok (.ireturn, 1) := by decide +kernel
theorem dX12_winnerByTransfers_0 : decode cX12_winnerByTransfers 0 = .ok (.aload_n 0, 1) := by decide +kernel
theorem dX12_winnerByTransfers_1 : decode cX12_winnerByTransfers 1 = .ok (.invokevirtual 133, 3) := by decide +kernel
theorem dX12_winnerByTransfers_4 : decode cX12_winnerByTransfers 4 = .ok (.ireturn, 1) := by decide +kernel
theorem dX12_roundCount_0 : decode cX12_roundCount 0 = .ok (.aload_n 0, 1) := by decide +kernel
theorem dX12_roundCount_1 : decode cX12_roundCount 1 = .ok (.iconst 0, 1) := by decide +kernel
theorem dX12_roundCount_2 : decode cX12_roundCount 2 = .ok (.putfield 52, 3) := by decide +kernel
theorem dX12_roundCount_5 : decode cX12_roundCount 5 = .ok (.aload_n 0, 1) := by decide +kernel
theorem dX12_roundCount_6 : decode cX12_roundCount 6 = .ok (.invokevirtual 130, 3) := by decide +kernel
theorem dX12_roundCount_9 : decode cX12_roundCount 9 = .ok (.aload_n 0, 1) := by decide +kernel
theorem dX12_roundCount_10 : decode cX12_roundCount 10 = .ok (.getfield 110, 3) := by decide +kernel
theorem dX12_roundCount_13 : decode cX12_roundCount 13 = .ok (.ireturn, 1) := by decide +kernel
theorem dX12_isRound_0 : decode cX12_isRound 0 = .ok (.aload_n 0, 1) := by decide +kernel
theorem dX12_isRound_1 : decode cX12_isRound 1 = .ok (.invokevirtual 130, 3) := by decide +kernel
theorem dX12_isRound_4 : decode cX12_isRound 4 = .ok (.iload_n 1, 1) := by decide +kernel
theorem dX12_isRound_5 : decode cX12_isRound 5 = .ok (.iconst 0, 1) := by decide +kernel
theorem dX12_isRound_6 : decode cX12_isRound 6 = .ok (.aload_n 0, 1) := by decide +kernel
theorem dX12_isRound_7 : decode cX12_isRound 7 = .ok (.getfield 110, 3) := by decide +kernel
theorem dX12_isRound_10 : decode cX12_isRound 10 = .ok (.iconst 1, 1) := by decide +kernel
theorem dX12_isRound_11 : decode cX12_isRound 11 = .ok (.isub, 1) := by decide +kernel
theorem dX12_isRound_12 : decode cX12_isRound 12 = .ok (.invokestatic 66, 3) := by decide +kernel
theorem dX12_isRound_15 : decode cX12_isRound 15 = .ok (.ireturn, 1) := by decide +kernel
theorem dX12_votesIn_0 : decode cX12_votesIn 0 = .ok (.aload_n 0, 1) := by decide +kernel
theorem dX12_votesIn_1 : decode cX12_votesIn 1 = .ok (.aload_n 0, 1) := by decide +kernel
theorem dX12_votesIn_2 : decode cX12_votesIn 2 = .ok (.iload_n 2, 1) := by decide +kernel
theorem dX12_votesIn_3 : decode cX12_votesIn 3 = .ok (.invokevirtual 74, 3) := by decide +kernel
theorem dX12_votesIn_6 : decode cX12_votesIn 6 = .ok (.ifCond .ne 7, 3) := by decide +kernel
theorem dX12_votesIn_9 : decode cX12_votesIn 9 = .ok (.iconst 1, 1) := by decide +kernel
theorem dX12_votesIn_10 : decode cX12_votesIn 10 = .ok (.goto 30, 3) := by decide +kernel
theorem dX12_votesIn_13 : decode cX12_votesIn 13 = .ok (.aload_n 0, 1) := by decide +kernel
theorem dX12_votesIn_14 : decode cX12_votesIn 14 = .ok (.iload_n 1, 1) := by decide +kernel
theorem dX12_votesIn_15 : decode cX12_votesIn 15 = .ok (.invokevirtual 136, 3) := by decide +kernel
theorem dX12_votesIn_18 : decode cX12_votesIn 18 = .ok (.ifCond .eq 17, 3) := by decide +kernel
theorem dX12_votesIn_21 : decode cX12_votesIn 21 = .ok (.aload_n 0, 1) := by decide +kernel
theorem dX12_votesIn_22 : decode cX12_votesIn 22 = .ok (.getfield 36, 3) := by decide +kernel
theorem dX12_votesIn_25 : decode cX12_votesIn 25 = .ok (.bipush 8, 2) := by decide +kernel
theorem dX12_votesIn_27 : decode cX12_votesIn 27 = .ok (.iload_n 1, 1) := by decide +kernel
theorem dX12_votesIn_28 : decode cX12_votesIn 28 = .ok (.imul, 1) := by decide +kernel
theorem dX12_votesIn_29 : decode cX12_votesIn 29 = .ok (.iload_n 2, 1) := by decide +kernel
theorem dX12_votesIn_30 : decode cX12_votesIn 30 = .ok (.iadd, 1) := by decide +kernel
theorem dX12_votesIn_31 : decode cX12_votesIn 31 = .ok (.iaload, 1) := by decide +kernel
theorem dX12_votesIn_32 : decode cX12_votesIn 32 = .ok (.ifCond .ge 7, 3) := by decide +kernel
theorem dX12_votesIn_35 : decode cX12_votesIn 35 = .ok (.iconst 2, 1) := by decide +kernel
theorem dX12_votesIn_36 : decode cX12_votesIn 36 = .ok (.goto 4, 3) := by decide +kernel
theorem dX12_votesIn_39 : decode cX12_votesIn 39 = .ok (.iconst 0, 1) := by decide +kernel
theorem dX12_votesIn_40 : decode cX12_votesIn 40 = .ok (.invokevirtual 77, 3) := by decide +kernel
theorem dX12_votesIn_43 : decode cX12_votesIn 43 = .ok (.ifCond .eq 5, 3) := by decide +kernel
theorem dX12_votesIn_46 : decode cX12_votesIn 46 = .ok (.iconst 0, 1) := by decide +kernel
theorem dX12_votesIn_47 : decode cX12_votesIn 47 = .ok (.ireturn, 1) := by decide +kernel
theorem dX12_votesIn_48 : decode cX12_votesIn 48 = .ok (.aload_n 0, 1) := by decide +kernel
theorem dX12_votesIn_49 : decode cX12_votesIn 49 = .ok (.getfield 36, 3) := by decide +kernel
theorem dX12_votesIn_52 : decode cX12_votesIn 52 = .ok (.bipush 8, 2) := by decide +kernel
theorem dX12_votesIn_54 : decode cX12_votesIn 54 = .ok (.iload_n 1, 1) := by decide +kernel
theorem dX12_votesIn_55 : decode cX12_votesIn 55 = .ok (.imul, 1) := by decide +kernel
theorem dX12_votesIn_56 : decode cX12_votesIn 56 = .ok (.iload_n 2, 1) := by decide +kernel
theorem dX12_votesIn_57 : decode cX12_votesIn 57 = .ok (.iadd, 1) := by decide +kernel
theorem dX12_votesIn_58 : decode cX12_votesIn 58 = .ok (.iaload, 1) := by decide +kernel
theorem dX12_votesIn_59 : decode cX12_votesIn 59 = .ok (.ireturn, 1) := by decide +kernel
theorem dX12_exhaustedIn_0 : decode cX12_exhaustedIn 0 = .ok (.aload_n 0, 1) := by decide +kernel
theorem dX12_exhaustedIn_1 : decode cX12_exhaustedIn 1 = .ok (.aload_n 0, 1) := by decide +kernel
theorem dX12_exhaustedIn_2 : decode cX12_exhaustedIn 2 = .ok (.iload_n 1, 1) := by decide +kernel
theorem dX12_exhaustedIn_3 : decode cX12_exhaustedIn 3 = .ok (.invokevirtual 136, 3) := by decide +kernel
theorem dX12_exhaustedIn_6 : decode cX12_exhaustedIn 6 = .ok (.ifCond .eq 7, 3) := by decide +kernel
theorem dX12_exhaustedIn_9 : decode cX12_exhaustedIn 9 = .ok (.iconst 0, 1) := by decide +kernel
theorem dX12_exhaustedIn_10 : decode cX12_exhaustedIn 10 = .ok (.goto 4, 3) := by decide +kernel
theorem dX12_exhaustedIn_13 : decode cX12_exhaustedIn 13 = .ok (.iconst 1, 1) := by decide +kernel
theorem dX12_exhaustedIn_14 : decode cX12_exhaustedIn 14 = .ok (.invokevirtual 77, 3) := by decide +kernel
theorem dX12_exhaustedIn_17 : decode cX12_exhaustedIn 17 = .ok (.ifCond .eq 7, 3) := by decide +kernel
theorem dX12_exhaustedIn_20 : decode cX12_exhaustedIn 20 = .ok (.iconst 0, 1) := by decide +kernel
theorem dX12_exhaustedIn_21 : decode cX12_exhaustedIn 21 = .ok (.goto 9, 3) := by decide +kernel
theorem dX12_exhaustedIn_24 : decode cX12_exhaustedIn 24 = .ok (.aload_n 0, 1) := by decide +kernel
theorem dX12_exhaustedIn_25 : decode cX12_exhaustedIn 25 = .ok (.getfield 39, 3) := by decide +kernel
theorem dX12_exhaustedIn_28 : decode cX12_exhaustedIn 28 = .ok (.iload_n 1, 1) := by decide +kernel
theorem dX12_exhaustedIn_29 : decode cX12_exhaustedIn 29 = .ok (.iaload, 1) := by decide +kernel
theorem dX12_exhaustedIn_30 : decode cX12_exhaustedIn 30 = .ok (.ireturn, 1) := by decide +kernel
theorem dX12_eliminatedIn_0 : decode cX12_eliminatedIn 0 = .ok (.aload_n 0, 1) := by decide +kernel
theorem dX12_eliminatedIn_1 : decode cX12_eliminatedIn 1 = .ok (.aload_n 0, 1) := by decide +kernel
theorem dX12_eliminatedIn_2 : decode cX12_eliminatedIn 2 = .ok (.iload_n 1, 1) := by decide +kernel
theorem dX12_eliminatedIn_3 : decode cX12_eliminatedIn 3 = .ok (.invokevirtual 136, 3) := by decide +kernel
theorem dX12_eliminatedIn_6 : decode cX12_eliminatedIn 6 = .ok (.ifCond .eq 17, 3) := by decide +kernel
theorem dX12_eliminatedIn_9 : decode cX12_eliminatedIn 9 = .ok (.iload_n 1, 1) := by decide +kernel
theorem dX12_eliminatedIn_10 : decode cX12_eliminatedIn 10 = .ok (.aload_n 0, 1) := by decide +kernel
theorem dX12_eliminatedIn_11 : decode cX12_eliminatedIn 11 = .ok (.getfield 110, 3) := by decide +kernel
theorem dX12_eliminatedIn_14 : decode cX12_eliminatedIn 14 = .ok (.iconst 1, 1) := by decide +kernel
theorem dX12_eliminatedIn_15 : decode cX12_eliminatedIn 15 = .ok (.isub, 1) := by decide +kernel
theorem dX12_eliminatedIn_16 : decode cX12_eliminatedIn 16 = .ok (.if_icmp .ge 7, 3) := by decide +kernel
theorem dX12_eliminatedIn_19 : decode cX12_eliminatedIn 19 = .ok (.iconst 0, 1) := by decide +kernel
theorem dX12_eliminatedIn_20 : decode cX12_eliminatedIn 20 = .ok (.goto 4, 3) := by decide +kernel
theorem dX12_eliminatedIn_23 : decode cX12_eliminatedIn 23 = .ok (.iconst 1, 1) := by decide +kernel
theorem dX12_eliminatedIn_24 : decode cX12_eliminatedIn 24 = .ok (.invokevirtual 77, 3) := by decide +kernel
theorem dX12_eliminatedIn_27 : decode cX12_eliminatedIn 27 = .ok (.ifCond .eq 7, 3) := by decide +kernel
theorem dX12_eliminatedIn_30 : decode cX12_eliminatedIn 30 = .ok (.iconst 0, 1) := by decide +kernel
theorem dX12_eliminatedIn_31 : decode cX12_eliminatedIn 31 = .ok (.goto 9, 3) := by decide +kernel
theorem dX12_eliminatedIn_34 : decode cX12_eliminatedIn 34 = .ok (.aload_n 0, 1) := by decide +kernel
theorem dX12_eliminatedIn_35 : decode cX12_eliminatedIn 35 = .ok (.getfield 42, 3) := by decide +kernel
theorem dX12_eliminatedIn_38 : decode cX12_eliminatedIn 38 = .ok (.iload_n 1, 1) := by decide +kernel
theorem dX12_eliminatedIn_39 : decode cX12_eliminatedIn 39 = .ok (.iaload, 1) := by decide +kernel
theorem dX12_eliminatedIn_40 : decode cX12_eliminatedIn 40 = .ok (.ireturn, 1) := by decide +kernel
theorem dX12_isTieIn_0 : decode cX12_isTieIn 0 = .ok (.aload_n 0, 1) := by decide +kernel
theorem dX12_isTieIn_1 : decode cX12_isTieIn 1 = .ok (.aload_n 0, 1) := by decide +kernel
theorem dX12_isTieIn_2 : decode cX12_isTieIn 2 = .ok (.iload_n 1, 1) := by decide +kernel
theorem dX12_isTieIn_3 : decode cX12_isTieIn 3 = .ok (.invokevirtual 136, 3) := by decide +kernel
theorem dX12_isTieIn_6 : decode cX12_isTieIn 6 = .ok (.ifCond .eq 7, 3) := by decide +kernel
theorem dX12_isTieIn_9 : decode cX12_isTieIn 9 = .ok (.iconst 0, 1) := by decide +kernel
theorem dX12_isTieIn_10 : decode cX12_isTieIn 10 = .ok (.goto 4, 3) := by decide +kernel
theorem dX12_isTieIn_13 : decode cX12_isTieIn 13 = .ok (.iconst 1, 1) := by decide +kernel
theorem dX12_isTieIn_14 : decode cX12_isTieIn 14 = .ok (.invokevirtual 77, 3) := by decide +kernel
theorem dX12_isTieIn_17 : decode cX12_isTieIn 17 = .ok (.ifCond .ne 16, 3) := by decide +kernel
theorem dX12_isTieIn_20 : decode cX12_isTieIn 20 = .ok (.aload_n 0, 1) := by decide +kernel
theorem dX12_isTieIn_21 : decode cX12_isTieIn 21 = .ok (.getfield 45, 3) := by decide +kernel
theorem dX12_isTieIn_24 : decode cX12_isTieIn 24 = .ok (.iload_n 1, 1) := by decide +kernel
theorem dX12_isTieIn_25 : decode cX12_isTieIn 25 = .ok (.baload, 1) := by decide +kernel
theorem dX12_isTieIn_26 : decode cX12_isTieIn 26 = .ok (.ifCond .eq 7, 3) := by decide +kernel
theorem dX12_isTieIn_29 : decode cX12_isTieIn 29 = .ok (.iconst 1, 1) := by decide +kernel
theorem dX12_isTieIn_30 : decode cX12_isTieIn 30 = .ok (.goto 4, 3) := by decide +kernel
theorem dX12_isTieIn_33 : decode cX12_isTieIn 33 = .ok (.iconst 0, 1) := by decide +kernel
theorem dX12_isTieIn_34 : decode cX12_isTieIn 34 = .ok (.ireturn, 1) := by decide +kernel
theorem dX12_roundOfElimination_0 : decode cX12_roundOfElimination 0 = .ok (.aload_n 0, 1) := by decide +kernel
theorem dX12_roundOfElimination_1 : decode cX12_roundOfElimination 1 = .ok (.iload_n 1, 1) := by decide +kernel
theorem dX12_roundOfElimination_2 : decode cX12_roundOfElimination 2 = .ok (.invokevirtual 88, 3) := by decide +kernel
theorem dX12_roundOfElimination_5 : decode cX12_roundOfElimination 5 = .ok (.ifCond .eq 5, 3) := by decide +kernel
theorem dX12_roundOfElimination_8 : decode cX12_roundOfElimination 8 = .ok (.iconst 0, 1) := by decide +kernel
theorem dX12_roundOfElimination_9 : decode cX12_roundOfElimination 9 = .ok (.ireturn, 1) := by decide +kernel
theorem dX12_roundOfElimination_10 : decode cX12_roundOfElimination 10 = .ok (.aload_n 0, 1) := by decide +kernel
theorem dX12_roundOfElimination_11 : decode cX12_roundOfElimination 11 = .ok (.invokevirtual 130, 3) := by decide +kernel
theorem dX12_roundOfElimination_14 : decode cX12_roundOfElimination 14 = .ok (.iconst 0, 1) := by decide +kernel
theorem dX12_roundOfElimination_15 : decode cX12_roundOfElimination 15 = .ok (.istore_n 2, 1) := by decide +kernel
theorem dX12_roundOfElimination_16 : decode cX12_roundOfElimination 16 = .ok (.iload_n 2, 1) := by decide +kernel
theorem dX12_roundOfElimination_17 : decode cX12_roundOfElimination 17 = .ok (.aload_n 0, 1) := by decide +kernel
theorem dX12_roundOfElimination_18 : decode cX12_roundOfElimination 18 = .ok (.getfield 110, 3) := by decide +kernel
theorem dX12_roundOfElimination_21 : decode cX12_roundOfElimination 21 = .ok (.if_icmp .ge 19, 3) := by decide +kernel
theorem dX12_roundOfElimination_24 : decode cX12_roundOfElimination 24 = .ok (.aload_n 0, 1) := by decide +kernel
theorem dX12_roundOfElimination_25 : decode cX12_roundOfElimination 25 = .ok (.getfield 42, 3) := by decide +kernel
theorem dX12_roundOfElimination_28 : decode cX12_roundOfElimination 28 = .ok (.iload_n 2, 1) := by decide +kernel
theorem dX12_roundOfElimination_29 : decode cX12_roundOfElimination 29 = .ok (.iaload, 1) := by decide +kernel
theorem dX12_roundOfElimination_30 : decode cX12_roundOfElimination 30 = .ok (.iload_n 1, 1) := by decide +kernel
theorem dX12_roundOfElimination_31 : decode cX12_roundOfElimination 31 = .ok (.if_icmp .eq 9, 3) := by decide +kernel
theorem dX12_roundOfElimination_34 : decode cX12_roundOfElimination 34 = .ok (.iinc 2 1, 3) := by decide +kernel
theorem dX12_roundOfElimination_37 : decode cX12_roundOfElimination 37 = .ok (.goto (-21), 3) := by decide +kernel
theorem dX12_roundOfElimination_40 : decode cX12_roundOfElimination 40 = .ok (.aload_n 0, 1) := by decide +kernel
theorem dX12_roundOfElimination_41 : decode cX12_roundOfElimination 41 = .ok (.iload_n 2, 1) := by decide +kernel
theorem dX12_roundOfElimination_42 : decode cX12_roundOfElimination 42 = .ok (.aload_n 0, 1) := by decide +kernel
theorem dX12_roundOfElimination_43 : decode cX12_roundOfElimination 43 = .ok (.getfield 110, 3) := by decide +kernel
theorem dX12_roundOfElimination_46 : decode cX12_roundOfElimination 46 = .ok (.if_icmp .ne 7, 3) := by decide +kernel
theorem dX12_roundOfElimination_49 : decode cX12_roundOfElimination 49 = .ok (.iconst 2, 1) := by decide +kernel
theorem dX12_roundOfElimination_50 : decode cX12_roundOfElimination 50 = .ok (.goto 4, 3) := by decide +kernel
theorem dX12_roundOfElimination_53 : decode cX12_roundOfElimination 53 = .ok (.iconst 0, 1) := by decide +kernel
theorem dX12_roundOfElimination_54 : decode cX12_roundOfElimination 54 = .ok (.invokevirtual 77, 3) := by decide +kernel
theorem dX12_roundOfElimination_57 : decode cX12_roundOfElimination 57 = .ok (.ifCond .eq 7, 3) := by decide +kernel
theorem dX12_roundOfElimination_60 : decode cX12_roundOfElimination 60 = .ok (.iconst 0, 1) := by decide +kernel
theorem dX12_roundOfElimination_61 : decode cX12_roundOfElimination 61 = .ok (.goto 4, 3) := by decide +kernel
theorem dX12_roundOfElimination_64 : decode cX12_roundOfElimination 64 = .ok (.iload_n 2, 1) := by decide +kernel
theorem dX12_roundOfElimination_65 : decode cX12_roundOfElimination 65 = .ok (.ireturn, 1) := by decide +kernel
theorem dX12_winnerShare_0 : decode cX12_winnerShare 0 = .ok (.aload_n 0, 1) := by decide +kernel
theorem dX12_winnerShare_1 : decode cX12_winnerShare 1 = .ok (.invokevirtual 130, 3) := by decide +kernel
theorem dX12_winnerShare_4 : decode cX12_winnerShare 4 = .ok (.aload_n 0, 1) := by decide +kernel
theorem dX12_winnerShare_5 : decode cX12_winnerShare 5 = .ok (.aload_n 0, 1) := by decide +kernel
theorem dX12_winnerShare_6 : decode cX12_winnerShare 6 = .ok (.getfield 116, 3) := by decide +kernel
theorem dX12_winnerShare_9 : decode cX12_winnerShare 9 = .ok (.ifCond .ge 7, 3) := by decide +kernel
theorem dX12_winnerShare_12 : decode cX12_winnerShare 12 = .ok (.iconst 1, 1) := by decide +kernel
theorem dX12_winnerShare_13 : decode cX12_winnerShare 13 = .ok (.goto 4, 3) := by decide +kernel
theorem dX12_winnerShare_16 : decode cX12_winnerShare 16 = .ok (.iconst 0, 1) := by decide +kernel
theorem dX12_winnerShare_17 : decode cX12_winnerShare 17 = .ok (.invokevirtual 77, 3) := by decide +kernel
theorem dX12_winnerShare_20 : decode cX12_winnerShare 20 = .ok (.ifCond .eq 5, 3) := by decide +kernel
theorem dX12_winnerShare_23 : decode cX12_winnerShare 23 = .ok (.fconst 0, 1) := by decide +kernel
theorem dX12_winnerShare_24 : decode cX12_winnerShare 24 = .ok (.freturn, 1) := by decide +kernel
theorem dX12_winnerShare_25 : decode cX12_winnerShare 25 = .ok (.aload_n 0, 1) := by decide +kernel
theorem dX12_winnerShare_26 : decode cX12_winnerShare 26 = .ok (.invokevirtual 107, 3) := by decide +kernel
theorem dX12_winnerShare_29 : decode cX12_winnerShare 29 = .ok (.aload_n 0, 1) := by decide +kernel
theorem dX12_winnerShare_30 : decode cX12_winnerShare 30 = .ok (.getfield 39, 3) := by decide +kernel
theorem dX12_winnerShare_33 : decode cX12_winnerShare 33 = .ok (.aload_n 0, 1) := by decide +kernel
theorem dX12_winnerShare_34 : decode cX12_winnerShare 34 = .ok (.getfield 110, 3) := by decide +kernel
theorem dX12_winnerShare_37 : decode cX12_winnerShare 37 = .ok (.iconst 1, 1) := by decide +kernel
theorem dX12_winnerShare_38 : decode cX12_winnerShare 38 = .ok (.isub, 1) := by decide +kernel
theorem dX12_winnerShare_39 : decode cX12_winnerShare 39 = .ok (.iaload, 1) := by decide +kernel
theorem dX12_winnerShare_40 : decode cX12_winnerShare 40 = .ok (.isub, 1) := by decide +kernel
theorem dX12_winnerShare_41 : decode cX12_winnerShare 41 = .ok (.istore_n 1, 1) := by decide +kernel
theorem dX12_winnerShare_42 : decode cX12_winnerShare 42 = .ok (.aload_n 0, 1) := by decide +kernel
theorem dX12_winnerShare_43 : decode cX12_winnerShare 43 = .ok (.iload_n 1, 1) := by decide +kernel
theorem dX12_winnerShare_44 : decode cX12_winnerShare 44 = .ok (.ifCond .ne 7, 3) := by decide +kernel
theorem dX12_winnerShare_47 : decode cX12_winnerShare 47 = .ok (.iconst 2, 1) := by decide +kernel
theorem dX12_winnerShare_48 : decode cX12_winnerShare 48 = .ok (.goto 4, 3) := by decide +kernel
theorem dX12_winnerShare_51 : decode cX12_winnerShare 51 = .ok (.iconst 0, 1) := by decide +kernel
theorem dX12_winnerShare_52 : decode cX12_winnerShare 52 = .ok (.invokevirtual 77, 3) := by decide +kernel
theorem dX12_winnerShare_55 : decode cX12_winnerShare 55 = .ok (.ifCond .eq 7, 3) := by decide +kernel
theorem dX12_winnerShare_58 : decode cX12_winnerShare 58 = .ok (.fconst 0, 1) := by decide +kernel
theorem dX12_winnerShare_59 : decode cX12_winnerShare 59 = .ok (.goto 27, 3) := by decide +kernel
theorem dX12_winnerShare_62 : decode cX12_winnerShare 62 = .ok (.aload_n 0, 1) := by decide +kernel
theorem dX12_winnerShare_63 : decode cX12_winnerShare 63 = .ok (.getfield 36, 3) := by decide +kernel
theorem dX12_winnerShare_66 : decode cX12_winnerShare 66 = .ok (.bipush 8, 2) := by decide +kernel
theorem dX12_winnerShare_68 : decode cX12_winnerShare 68 = .ok (.aload_n 0, 1) := by decide +kernel
theorem dX12_winnerShare_69 : decode cX12_winnerShare 69 = .ok (.getfield 110, 3) := by decide +kernel
theorem dX12_winnerShare_72 : decode cX12_winnerShare 72 = .ok (.imul, 1) := by decide +kernel
theorem dX12_winnerShare_73 : decode cX12_winnerShare 73 = .ok (.bipush 8, 2) := by decide +kernel
theorem dX12_winnerShare_75 : decode cX12_winnerShare 75 = .ok (.isub, 1) := by decide +kernel
theorem dX12_winnerShare_76 : decode cX12_winnerShare 76 = .ok (.aload_n 0, 1) := by decide +kernel
theorem dX12_winnerShare_77 : decode cX12_winnerShare 77 = .ok (.getfield 116, 3) := by decide +kernel
theorem dX12_winnerShare_80 : decode cX12_winnerShare 80 = .ok (.iadd, 1) := by decide +kernel
theorem dX12_winnerShare_81 : decode cX12_winnerShare 81 = .ok (.iaload, 1) := by decide +kernel
theorem dX12_winnerShare_82 : decode cX12_winnerShare 82 = .ok (.i2f, 1) := by decide +kernel
theorem dX12_winnerShare_83 : decode cX12_winnerShare 83 = .ok (.iload_n 1, 1) := by decide +kernel
theorem dX12_winnerShare_84 : decode cX12_winnerShare 84 = .ok (.i2f, 1) := by decide +kernel
theorem dX12_winnerShare_85 : decode cX12_winnerShare 85 = .ok (.fdiv, 1) := by decide +kernel
theorem dX12_winnerShare_86 : decode cX12_winnerShare 86 = .ok (.freturn, 1) := by decide +kernel
theorem dX12_prefers_0 : decode cX12_prefers 0 = .ok (.iconst 0, 1) := by decide +kernel
theorem dX12_prefers_1 : decode cX12_prefers 1 = .ok (.istore_n 3, 1) := by decide +kernel
theorem dX12_prefers_2 : decode cX12_prefers 2 = .ok (.iconst 0, 1) := by decide +kernel
theorem dX12_prefers_3 : decode cX12_prefers 3 = .ok (.istore 4, 2) := by decide +kernel
theorem dX12_prefers_5 : decode cX12_prefers 5 = .ok (.iload 4, 2) := by decide +kernel
theorem dX12_prefers_7 : decode cX12_prefers 7 = .ok (.aload_n 0, 1) := by decide +kernel
theorem dX12_prefers_8 : decode cX12_prefers 8 = .ok (.getfield 7, 3) := by decide +kernel
theorem dX12_prefers_11 : decode cX12_prefers 11 = .ok (.iconst 1, 1) := by decide +kernel
theorem dX12_prefers_12 : decode cX12_prefers 12 = .ok (.iaload, 1) := by decide +kernel
theorem dX12_prefers_13 : decode cX12_prefers 13 = .ok (.if_icmp .ge 58, 3) := by decide +kernel
theorem dX12_prefers_16 : decode cX12_prefers 16 = .ok (.aload_n 0, 1) := by decide +kernel
theorem dX12_prefers_17 : decode cX12_prefers 17 = .ok (.iload 4, 2) := by decide +kernel
theorem dX12_prefers_19 : decode cX12_prefers 19 = .ok (.iload_n 1, 1) := by decide +kernel
theorem dX12_prefers_20 : decode cX12_prefers 20 = .ok (.invokevirtual 101, 3) := by decide +kernel
theorem dX12_prefers_23 : decode cX12_prefers 23 = .ok (.istore 5, 2) := by decide +kernel
theorem dX12_prefers_25 : decode cX12_prefers 25 = .ok (.aload_n 0, 1) := by decide +kernel
theorem dX12_prefers_26 : decode cX12_prefers 26 = .ok (.iload 4, 2) := by decide +kernel
theorem dX12_prefers_28 : decode cX12_prefers 28 = .ok (.iload_n 2, 1) := by decide +kernel
theorem dX12_prefers_29 : decode cX12_prefers 29 = .ok (.invokevirtual 101, 3) := by decide +kernel
theorem dX12_prefers_32 : decode cX12_prefers 32 = .ok (.istore 6, 2) := by decide +kernel
theorem dX12_prefers_34 : decode cX12_prefers 34 = .ok (.iload_n 3, 1) := by decide +kernel
theorem dX12_prefers_35 : decode cX12_prefers 35 = .ok (.iload 5, 2) := by decide +kernel
theorem dX12_prefers_37 : decode cX12_prefers 37 = .ok (.ifCond .lt 25, 3) := by decide +kernel
theorem dX12_prefers_40 : decode cX12_prefers 40 = .ok (.iload 6, 2) := by decide +kernel
theorem dX12_prefers_42 : decode cX12_prefers 42 = .ok (.ifCond .lt 10, 3) := by decide +kernel
theorem dX12_prefers_45 : decode cX12_prefers 45 = .ok (.iload 5, 2) := by decide +kernel
theorem dX12_prefers_47 : decode cX12_prefers 47 = .ok (.iload 6, 2) := by decide +kernel
theorem dX12_prefers_49 : decode cX12_prefers 49 = .ok (.if_icmp .ge 13, 3) := by decide +kernel
theorem dX12_prefers_52 : decode cX12_prefers 52 = .ok (.aload_n 0, 1) := by decide +kernel
theorem dX12_prefers_53 : decode cX12_prefers 53 = .ok (.iload 4, 2) := by decide +kernel
theorem dX12_prefers_55 : decode cX12_prefers 55 = .ok (.iconst 0, 1) := by decide +kernel
theorem dX12_prefers_56 : decode cX12_prefers 56 = .ok (.invokevirtual 91, 3) := by decide +kernel
theorem dX12_prefers_59 : decode cX12_prefers 59 = .ok (.goto 4, 3) := by decide +kernel
theorem dX12_prefers_62 : decode cX12_prefers 62 = .ok (.iconst 0, 1) := by decide +kernel
theorem dX12_prefers_63 : decode cX12_prefers 63 = .ok (.iadd, 1) := by decide +kernel
theorem dX12_prefers_64 : decode cX12_prefers 64 = .ok (.istore_n 3, 1) := by decide +kernel
theorem dX12_prefers_65 : decode cX12_prefers 65 = .ok (.iinc 4 1, 3) := by decide +kernel
theorem dX12_prefers_68 : decode cX12_prefers 68 = .ok (.goto (-63), 3) := by decide +kernel
theorem dX12_prefers_71 : decode cX12_prefers 71 = .ok (.iload_n 3, 1) := by decide +kernel
theorem dX12_prefers_72 : decode cX12_prefers 72 = .ok (.ireturn, 1) := by decide +kernel
theorem dX12_areNone_0 : decode cX12_areNone 0 = .ok (.aload_n 0, 1) := by decide +kernel
theorem dX12_areNone_1 : decode cX12_areNone 1 = .ok (.aload_n 0, 1) := by decide +kernel
theorem dX12_areNone_2 : decode cX12_areNone 2 = .ok (.iload_n 1, 1) := by decide +kernel
theorem dX12_areNone_3 : decode cX12_areNone 3 = .ok (.invokevirtual 74, 3) := by decide +kernel
theorem dX12_areNone_6 : decode cX12_areNone 6 = .ok (.ifCond .eq 15, 3) := by decide +kernel
theorem dX12_areNone_9 : decode cX12_areNone 9 = .ok (.aload_n 0, 1) := by decide +kernel
theorem dX12_areNone_10 : decode cX12_areNone 10 = .ok (.iload_n 2, 1) := by decide +kernel
theorem dX12_areNone_11 : decode cX12_areNone 11 = .ok (.invokevirtual 74, 3) := by decide +kernel
theorem dX12_areNone_14 : decode cX12_areNone 14 = .ok (.ifCond .eq 7, 3) := by decide +kernel
theorem dX12_areNone_17 : decode cX12_areNone 17 = .ok (.iconst 0, 1) := by decide +kernel
theorem dX12_areNone_18 : decode cX12_areNone 18 = .ok (.goto 4, 3) := by decide +kernel
theorem dX12_areNone_21 : decode cX12_areNone 21 = .ok (.iconst 1, 1) := by decide +kernel
theorem dX12_areNone_22 : decode cX12_areNone 22 = .ok (.invokevirtual 77, 3) := by decide +kernel
theorem dX12_areNone_25 : decode cX12_areNone 25 = .ok (.ireturn, 1) := by decide +kernel
theorem dX12_preference_0 : decode cX12_preference 0 = .ok (.aload_n 0, 1) := by decide +kernel
theorem dX12_preference_1 : decode cX12_preference 1 = .ok (.iload_n 1, 1) := by decide +kernel
theorem dX12_preference_2 : decode cX12_preference 2 = .ok (.iload_n 2, 1) := by decide +kernel
theorem dX12_preference_3 : decode cX12_preference 3 = .ok (.invokevirtual 139, 3) := by decide +kernel
theorem dX12_preference_6 : decode cX12_preference 6 = .ok (.ifCond .ne 8, 3) := by decide +kernel
theorem dX12_preference_9 : decode cX12_preference 9 = .ok (.iload_n 1, 1) := by decide +kernel
theorem dX12_preference_10 : decode cX12_preference 10 = .ok (.iload_n 2, 1) := by decide +kernel
theorem dX12_preference_11 : decode cX12_preference 11 = .ok (.if_icmp .ne 7, 3) := by decide +kernel
theorem dX12_preference_14 : decode cX12_preference 14 = .ok (.iconst 0, 1) := by decide +kernel
theorem dX12_preference_15 : decode cX12_preference 15 = .ok (.goto 9, 3) := by decide +kernel
theorem dX12_preference_18 : decode cX12_preference 18 = .ok (.aload_n 0, 1) := by decide +kernel
theorem dX12_preference_19 : decode cX12_preference 19 = .ok (.iload_n 1, 1) := by decide +kernel
theorem dX12_preference_20 : decode cX12_preference 20 = .ok (.iload_n 2, 1) := by decide +kernel
theorem dX12_preference_21 : decode cX12_preference 21 = .ok (.invokevirtual 143, 3) := by decide +kernel
theorem dX12_preference_24 : decode cX12_preference 24 = .ok (.ireturn, 1) := by decide +kernel
theorem dX12_isOver_0 : decode cX12_isOver 0 = .ok (.aload_n 0, 1) := by decide +kernel
theorem dX12_isOver_1 : decode cX12_isOver 1 = .ok (.iload_n 1, 1) := by decide +kernel
theorem dX12_isOver_2 : decode cX12_isOver 2 = .ok (.iload_n 2, 1) := by decide +kernel
theorem dX12_isOver_3 : decode cX12_isOver 3 = .ok (.invokevirtual 143, 3) := by decide +kernel
theorem dX12_isOver_6 : decode cX12_isOver 6 = .ok (.aload_n 0, 1) := by decide +kernel
theorem dX12_isOver_7 : decode cX12_isOver 7 = .ok (.iload_n 2, 1) := by decide +kernel
theorem dX12_isOver_8 : decode cX12_isOver 8 = .ok (.iload_n 1, 1) := by decide +kernel
theorem dX12_isOver_9 : decode cX12_isOver 9 = .ok (.invokevirtual 143, 3) := by decide +kernel
theorem dX12_isOver_12 : decode cX12_isOver 12 = .ok (.if_icmp .le 7, 3) := by decide +kernel
theorem dX12_isOver_15 : decode cX12_isOver 15 = .ok (.iconst 1, 1) := by decide +kernel
theorem dX12_isOver_16 : decode cX12_isOver 16 = .ok (.goto 4, 3) := by decide +kernel
theorem dX12_isOver_19 : decode cX12_isOver 19 = .ok (.iconst 0, 1) := by decide +kernel
theorem dX12_isOver_20 : decode cX12_isOver 20 = .ok (.ireturn, 1) := by decide +kernel
theorem dX12_beats_0 : decode cX12_beats 0 = .ok (.aload_n 0, 1) := by decide +kernel
theorem dX12_beats_1 : decode cX12_beats 1 = .ok (.iload_n 1, 1) := by decide +kernel
theorem dX12_beats_2 : decode cX12_beats 2 = .ok (.iload_n 2, 1) := by decide +kernel
theorem dX12_beats_3 : decode cX12_beats 3 = .ok (.invokevirtual 139, 3) := by decide +kernel
theorem dX12_beats_6 : decode cX12_beats 6 = .ok (.ifCond .ne 16, 3) := by decide +kernel
theorem dX12_beats_9 : decode cX12_beats 9 = .ok (.aload_n 0, 1) := by decide +kernel
theorem dX12_beats_10 : decode cX12_beats 10 = .ok (.iload_n 1, 1) := by decide +kernel
theorem dX12_beats_11 : decode cX12_beats 11 = .ok (.iload_n 2, 1) := by decide +kernel
theorem dX12_beats_12 : decode cX12_beats 12 = .ok (.invokevirtual 146, 3) := by decide +kernel
theorem dX12_beats_15 : decode cX12_beats 15 = .ok (.ifCond .eq 7, 3) := by decide +kernel
theorem dX12_beats_18 : decode cX12_beats 18 = .ok (.iconst 1, 1) := by decide +kernel
theorem dX12_beats_19 : decode cX12_beats 19 = .ok (.goto 4, 3) := by decide +kernel
theorem dX12_beats_22 : decode cX12_beats 22 = .ok (.iconst 0, 1) := by decide +kernel
theorem dX12_beats_23 : decode cX12_beats 23 = .ok (.ireturn, 1) := by decide +kernel
theorem dX12_beaten_0 : decode cX12_beaten 0 = .ok (.iconst 0, 1) := by decide +kernel
theorem dX12_beaten_1 : decode cX12_beaten 1 = .ok (.istore_n 2, 1) := by decide +kernel
theorem dX12_beaten_2 : decode cX12_beaten 2 = .ok (.iconst 0, 1) := by decide +kernel
theorem dX12_beaten_3 : decode cX12_beaten 3 = .ok (.istore_n 3, 1) := by decide +kernel
theorem dX12_beaten_4 : decode cX12_beaten 4 = .ok (.iload_n 3, 1) := by decide +kernel
theorem dX12_beaten_5 : decode cX12_beaten 5 = .ok (.aload_n 0, 1) := by decide +kernel
theorem dX12_beaten_6 : decode cX12_beaten 6 = .ok (.getfield 7, 3) := by decide +kernel
theorem dX12_beaten_9 : decode cX12_beaten 9 = .ok (.iconst 0, 1) := by decide +kernel
theorem dX12_beaten_10 : decode cX12_beaten 10 = .ok (.iaload, 1) := by decide +kernel
theorem dX12_beaten_11 : decode cX12_beaten 11 = .ok (.if_icmp .ge 34, 3) := by decide +kernel
theorem dX12_beaten_14 : decode cX12_beaten 14 = .ok (.iload_n 2, 1) := by decide +kernel
theorem dX12_beaten_15 : decode cX12_beaten 15 = .ok (.aload_n 0, 1) := by decide +kernel
theorem dX12_beaten_16 : decode cX12_beaten 16 = .ok (.iload_n 3, 1) := by decide +kernel
theorem dX12_beaten_17 : decode cX12_beaten 17 = .ok (.invokevirtual 70, 3) := by decide +kernel
theorem dX12_beaten_20 : decode cX12_beaten 20 = .ok (.ifCond .eq 16, 3) := by decide +kernel
theorem dX12_beaten_23 : decode cX12_beaten 23 = .ok (.aload_n 0, 1) := by decide +kernel
theorem dX12_beaten_24 : decode cX12_beaten 24 = .ok (.iload_n 1, 1) := by decide +kernel
theorem dX12_beaten_25 : decode cX12_beaten 25 = .ok (.iload_n 3, 1) := by decide +kernel
theorem dX12_beaten_26 : decode cX12_beaten 26 = .ok (.invokevirtual 146, 3) := by decide +kernel
theorem dX12_beaten_29 : decode cX12_beaten 29 = .ok (.ifCond .eq 7, 3) := by decide +kernel
theorem dX12_beaten_32 : decode cX12_beaten 32 = .ok (.iconst 1, 1) := by decide +kernel
theorem dX12_beaten_33 : decode cX12_beaten 33 = .ok (.goto 4, 3) := by decide +kernel
theorem dX12_beaten_36 : decode cX12_beaten 36 = .ok (.iconst 0, 1) := by decide +kernel
theorem dX12_beaten_37 : decode cX12_beaten 37 = .ok (.iadd, 1) := by decide +kernel
theorem dX12_beaten_38 : decode cX12_beaten 38 = .ok (.istore_n 2, 1) := by decide +kernel
theorem dX12_beaten_39 : decode cX12_beaten 39 = .ok (.iinc 3 1, 3) := by decide +kernel
theorem dX12_beaten_42 : decode cX12_beaten 42 = .ok (.goto (-38), 3) := by decide +kernel
theorem dX12_beaten_45 : decode cX12_beaten 45 = .ok (.iload_n 2, 1) := by decide +kernel
theorem dX12_beaten_46 : decode cX12_beaten 46 = .ok (.ireturn, 1) := by decide +kernel
theorem dX12_victories_0 : decode cX12_victories 0 = .ok (.aload_n 0, 1) := by decide +kernel
theorem dX12_victories_1 : decode cX12_victories 1 = .ok (.iload_n 1, 1) := by decide +kernel
theorem dX12_victories_2 : decode cX12_victories 2 = .ok (.invokevirtual 88, 3) := by decide +kernel
theorem dX12_victories_5 : decode cX12_victories 5 = .ok (.ifCond .eq 7, 3) := by decide +kernel
theorem dX12_victories_8 : decode cX12_victories 8 = .ok (.iconst 0, 1) := by decide +kernel
theorem dX12_victories_9 : decode cX12_victories 9 = .ok (.goto 8, 3) := by decide +kernel
theorem dX12_victories_12 : decode cX12_victories 12 = .ok (.aload_n 0, 1) := by decide +kernel
theorem dX12_victories_13 : decode cX12_victories 13 = .ok (.iload_n 1, 1) := by decide +kernel
theorem dX12_victories_14 : decode cX12_victories 14 = .ok (.invokevirtual 149, 3) := by decide +kernel
theorem dX12_victories_17 : decode cX12_victories 17 = .ok (.ireturn, 1) := by decide +kernel
theorem dX12_champion_0 : decode cX12_champion 0 = .ok (.iconst 0, 1) := by decide +kernel
theorem dX12_champion_1 : decode cX12_champion 1 = .ok (.istore_n 1, 1) := by decide +kernel
theorem dX12_champion_2 : decode cX12_champion 2 = .ok (.iload_n 1, 1) := by decide +kernel
theorem dX12_champion_3 : decode cX12_champion 3 = .ok (.aload_n 0, 1) := by decide +kernel
theorem dX12_champion_4 : decode cX12_champion 4 = .ok (.getfield 7, 3) := by decide +kernel
theorem dX12_champion_7 : decode cX12_champion 7 = .ok (.iconst 0, 1) := by decide +kernel
theorem dX12_champion_8 : decode cX12_champion 8 = .ok (.iaload, 1) := by decide +kernel
theorem dX12_champion_9 : decode cX12_champion 9 = .ok (.if_icmp .ge 41, 3) := by decide +kernel
theorem dX12_champion_12 : decode cX12_champion 12 = .ok (.aload_n 0, 1) := by decide +kernel
theorem dX12_champion_13 : decode cX12_champion 13 = .ok (.iload_n 1, 1) := by decide +kernel
theorem dX12_champion_14 : decode cX12_champion 14 = .ok (.invokevirtual 70, 3) := by decide +kernel
theorem dX12_champion_17 : decode cX12_champion 17 = .ok (.ifCond .eq 27, 3) := by decide +kernel
theorem dX12_champion_20 : decode cX12_champion 20 = .ok (.aload_n 0, 1) := by decide +kernel
theorem dX12_champion_21 : decode cX12_champion 21 = .ok (.iload_n 1, 1) := by decide +kernel
theorem dX12_champion_22 : decode cX12_champion 22 = .ok (.invokevirtual 149, 3) := by decide +kernel
theorem dX12_champion_25 : decode cX12_champion 25 = .ok (.aload_n 0, 1) := by decide +kernel
theorem dX12_champion_26 : decode cX12_champion 26 = .ok (.invokevirtual 84, 3) := by decide +kernel
theorem dX12_champion_29 : decode cX12_champion 29 = .ok (.iconst 1, 1) := by decide +kernel
theorem dX12_champion_30 : decode cX12_champion 30 = .ok (.isub, 1) := by decide +kernel
theorem dX12_champion_31 : decode cX12_champion 31 = .ok (.if_icmp .eq 6, 3) := by decide +kernel
theorem dX12_champion_34 : decode cX12_champion 34 = .ok (.goto 10, 3) := by decide +kernel
theorem dX12_champion_37 : decode cX12_champion 37 = .ok (.aload_n 0, 1) := by decide +kernel
theorem dX12_champion_38 : decode cX12_champion 38 = .ok (.iconst 0, 1) := by decide +kernel
theorem dX12_champion_39 : decode cX12_champion 39 = .ok (.putfield 52, 3) := by decide +kernel
theorem dX12_champion_42 : decode cX12_champion 42 = .ok (.iload_n 1, 1) := by decide +kernel
theorem dX12_champion_43 : decode cX12_champion 43 = .ok (.ireturn, 1) := by decide +kernel
theorem dX12_champion_44 : decode cX12_champion 44 = .ok (.iinc 1 1, 3) := by decide +kernel
theorem dX12_champion_47 : decode cX12_champion 47 = .ok (.goto (-45), 3) := by decide +kernel
theorem dX12_champion_50 : decode cX12_champion 50 = .ok (.aload_n 0, 1) := by decide +kernel
theorem dX12_champion_51 : decode cX12_champion 51 = .ok (.iconst 1, 1) := by decide +kernel
theorem dX12_champion_52 : decode cX12_champion 52 = .ok (.putfield 52, 3) := by decide +kernel
theorem dX12_champion_55 : decode cX12_champion 55 = .ok (.iconst 0, 1) := by decide +kernel
theorem dX12_champion_56 : decode cX12_champion 56 = .ok (.ireturn, 1) := by decide +kernel
theorem dX12_championOfPairs_0 : decode cX12_championOfPairs 0 = .ok (.aload_n 0, 1) := by decide +kernel
theorem dX12_championOfPairs_1 : decode cX12_championOfPairs 1 = .ok (.invokevirtual 152, 3) := by decide +kernel
theorem dX12_championOfPairs_4 : decode cX12_championOfPairs 4 = .ok (.ireturn, 1) := by decide +kernel
theorem dX12_championByDuels_0 : decode cX12_championByDuels 0 = .ok (.aload_n 0, 1) := by decide +kernel
theorem dX12_championByDuels_1 : decode cX12_championByDuels 1 = .ok (.invokevirtual 152, 3) := by decide +kernel
theorem dX12_championByDuels_4 : decode cX12_championByDuels 4 = .ok (.ireturn, 1) := by decide +kernel
theorem dX12_score_0 : decode cX12_score 0 = .ok (.iconst 0, 1) := by decide +kernel
theorem dX12_score_1 : decode cX12_score 1 = .ok (.istore_n 2, 1) := by decide +kernel
theorem dX12_score_2 : decode cX12_score 2 = .ok (.iconst 0, 1) := by decide +kernel
theorem dX12_score_3 : decode cX12_score 3 = .ok (.istore_n 3, 1) := by decide +kernel
theorem dX12_score_4 : decode cX12_score 4 = .ok (.iload_n 3, 1) := by decide +kernel
theorem dX12_score_5 : decode cX12_score 5 = .ok (.aload_n 0, 1) := by decide +kernel
theorem dX12_score_6 : decode cX12_score 6 = .ok (.getfield 7, 3) := by decide +kernel
theorem dX12_score_9 : decode cX12_score 9 = .ok (.iconst 1, 1) := by decide +kernel
theorem dX12_score_10 : decode cX12_score 10 = .ok (.iaload, 1) := by decide +kernel
theorem dX12_score_11 : decode cX12_score 11 = .ok (.if_icmp .ge 40, 3) := by decide +kernel
theorem dX12_score_14 : decode cX12_score 14 = .ok (.iload_n 2, 1) := by decide +kernel
theorem dX12_score_15 : decode cX12_score 15 = .ok (.aload_n 0, 1) := by decide +kernel
theorem dX12_score_16 : decode cX12_score 16 = .ok (.iload_n 3, 1) := by decide +kernel
theorem dX12_score_17 : decode cX12_score 17 = .ok (.iload_n 1, 1) := by decide +kernel
theorem dX12_score_18 : decode cX12_score 18 = .ok (.invokevirtual 101, 3) := by decide +kernel
theorem dX12_score_21 : decode cX12_score 21 = .ok (.ifCond .ge 7, 3) := by decide +kernel
theorem dX12_score_24 : decode cX12_score 24 = .ok (.iconst 0, 1) := by decide +kernel
theorem dX12_score_25 : decode cX12_score 25 = .ok (.goto 18, 3) := by decide +kernel
theorem dX12_score_28 : decode cX12_score 28 = .ok (.aload_n 0, 1) := by decide +kernel
theorem dX12_score_29 : decode cX12_score 29 = .ok (.iload_n 3, 1) := by decide +kernel
theorem dX12_score_30 : decode cX12_score 30 = .ok (.iconst 0, 1) := by decide +kernel
theorem dX12_score_31 : decode cX12_score 31 = .ok (.invokevirtual 91, 3) := by decide +kernel
theorem dX12_score_34 : decode cX12_score 34 = .ok (.iconst 5, 1) := by decide +kernel
theorem dX12_score_35 : decode cX12_score 35 = .ok (.aload_n 0, 1) := by decide +kernel
theorem dX12_score_36 : decode cX12_score 36 = .ok (.iload_n 3, 1) := by decide +kernel
theorem dX12_score_37 : decode cX12_score 37 = .ok (.iload_n 1, 1) := by decide +kernel
theorem dX12_score_38 : decode cX12_score 38 = .ok (.invokevirtual 101, 3) := by decide +kernel
theorem dX12_score_41 : decode cX12_score 41 = .ok (.isub, 1) := by decide +kernel
theorem dX12_score_42 : decode cX12_score 42 = .ok (.imul, 1) := by decide +kernel
theorem dX12_score_43 : decode cX12_score 43 = .ok (.iadd, 1) := by decide +kernel
theorem dX12_score_44 : decode cX12_score 44 = .ok (.istore_n 2, 1) := by decide +kernel
theorem dX12_score_45 : decode cX12_score 45 = .ok (.iinc 3 1, 3) := by decide +kernel
theorem dX12_score_48 : decode cX12_score 48 = .ok (.goto (-44), 3) := by decide +kernel
theorem dX12_score_51 : decode cX12_score 51 = .ok (.iload_n 2, 1) := by decide +kernel
theorem dX12_score_52 : decode cX12_score 52 = .ok (.ireturn, 1) := by decide +kernel
theorem dX12_scoreOf_0 : decode cX12_scoreOf 0 = .ok (.aload_n 0, 1) := by decide +kernel
theorem dX12_scoreOf_1 : decode cX12_scoreOf 1 = .ok (.iload_n 1, 1) := by decide +kernel
theorem dX12_scoreOf_2 : decode cX12_scoreOf 2 = .ok (.invokevirtual 88, 3) := by decide +kernel
theorem dX12_scoreOf_5 : decode cX12_scoreOf 5 = .ok (.ifCond .eq 7, 3) := by decide +kernel
theorem dX12_scoreOf_8 : decode cX12_scoreOf 8 = .ok (.iconst 0, 1) := by decide +kernel
theorem dX12_scoreOf_9 : decode cX12_scoreOf 9 = .ok (.goto 8, 3) := by decide +kernel
theorem dX12_scoreOf_12 : decode cX12_scoreOf 12 = .ok (.aload_n 0, 1) := by decide +kernel
theorem dX12_scoreOf_13 : decode cX12_scoreOf 13 = .ok (.iload_n 1, 1) := by decide +kernel
theorem dX12_scoreOf_14 : decode cX12_scoreOf 14 = .ok (.invokevirtual 155, 3) := by decide +kernel
theorem dX12_scoreOf_17 : decode cX12_scoreOf 17 = .ok (.ireturn, 1) := by decide +kernel
theorem dX12_windByScore_0 : decode cX12_windByScore 0 = .ok (.iconst 0, 1) := by decide +kernel
theorem dX12_windByScore_1 : decode cX12_windByScore 1 = .ok (.istore_n 2, 1) := by decide +kernel
theorem dX12_windByScore_2 : decode cX12_windByScore 2 = .ok (.iload_n 2, 1) := by decide +kernel
theorem dX12_windByScore_3 : decode cX12_windByScore 3 = .ok (.aload_n 0, 1) := by decide +kernel
theorem dX12_windByScore_4 : decode cX12_windByScore 4 = .ok (.getfield 7, 3) := by decide +kernel
theorem dX12_windByScore_7 : decode cX12_windByScore 7 = .ok (.iconst 0, 1) := by decide +kernel
theorem dX12_windByScore_8 : decode cX12_windByScore 8 = .ok (.iaload, 1) := by decide +kernel
theorem dX12_windByScore_9 : decode cX12_windByScore 9 = .ok (.if_icmp .ge 88, 3) := by decide +kernel
theorem dX12_windByScore_12 : decode cX12_windByScore 12 = .ok (.iconst 0, 1) := by decide +kernel
theorem dX12_windByScore_13 : decode cX12_windByScore 13 = .ok (.istore_n 3, 1) := by decide +kernel
theorem dX12_windByScore_14 : decode cX12_windByScore 14 = .ok (.iconst 0, 1) := by decide +kernel
theorem dX12_windByScore_15 : decode cX12_windByScore 15 = .ok (.istore 4, 2) := by decide +kernel
theorem dX12_windByScore_17 : decode cX12_windByScore 17 = .ok (.iload 4, 2) := by decide +kernel
theorem dX12_windByScore_19 : decode cX12_windByScore 19 = .ok (.aload_n 0, 1) := by decide +kernel
theorem dX12_windByScore_20 : decode cX12_windByScore 20 = .ok (.getfield 7, 3) := by decide +kernel
theorem dX12_windByScore_23 : decode cX12_windByScore 23 = .ok (.iconst 0, 1) := by decide +kernel
theorem dX12_windByScore_24 : decode cX12_windByScore 24 = .ok (.iaload, 1) := by decide +kernel
theorem dX12_windByScore_25 : decode cX12_windByScore 25 = .ok (.if_icmp .ge 51, 3) := by decide +kernel
theorem dX12_windByScore_28 : decode cX12_windByScore 28 = .ok (.iload_n 3, 1) := by decide +kernel
theorem dX12_windByScore_29 : decode cX12_windByScore 29 = .ok (.aload_n 0, 1) := by decide +kernel
theorem dX12_windByScore_30 : decode cX12_windByScore 30 = .ok (.iload 4, 2) := by decide +kernel
theorem dX12_windByScore_32 : decode cX12_windByScore 32 = .ok (.invokevirtual 155, 3) := by decide +kernel
theorem dX12_windByScore_35 : decode cX12_windByScore 35 = .ok (.aload_n 0, 1) := by decide +kernel
theorem dX12_windByScore_36 : decode cX12_windByScore 36 = .ok (.iload_n 2, 1) := by decide +kernel
theorem dX12_windByScore_37 : decode cX12_windByScore 37 = .ok (.invokevirtual 155, 3) := by decide +kernel
theorem dX12_windByScore_40 : decode cX12_windByScore 40 = .ok (.if_icmp .gt 23, 3) := by decide +kernel
theorem dX12_windByScore_43 : decode cX12_windByScore 43 = .ok (.aload_n 0, 1) := by decide +kernel
theorem dX12_windByScore_44 : decode cX12_windByScore 44 = .ok (.iload 4, 2) := by decide +kernel
theorem dX12_windByScore_46 : decode cX12_windByScore 46 = .ok (.invokevirtual 155, 3) := by decide +kernel
theorem dX12_windByScore_49 : decode cX12_windByScore 49 = .ok (.aload_n 0, 1) := by decide +kernel
theorem dX12_windByScore_50 : decode cX12_windByScore 50 = .ok (.iload_n 2, 1) := by decide +kernel
theorem dX12_windByScore_51 : decode cX12_windByScore 51 = .ok (.invokevirtual 155, 3) := by decide +kernel
theorem dX12_windByScore_54 : decode cX12_windByScore 54 = .ok (.if_icmp .ne 13, 3) := by decide +kernel
theorem dX12_windByScore_57 : decode cX12_windByScore 57 = .ok (.iload 4, 2) := by decide +kernel
theorem dX12_windByScore_59 : decode cX12_windByScore 59 = .ok (.iload_n 2, 1) := by decide +kernel
theorem dX12_windByScore_60 : decode cX12_windByScore 60 = .ok (.if_icmp .ge 7, 3) := by decide +kernel
theorem dX12_windByScore_63 : decode cX12_windByScore 63 = .ok (.iconst 1, 1) := by decide +kernel
theorem dX12_windByScore_64 : decode cX12_windByScore 64 = .ok (.goto 4, 3) := by decide +kernel
theorem dX12_windByScore_67 : decode cX12_windByScore 67 = .ok (.iconst 0, 1) := by decide +kernel
theorem dX12_windByScore_68 : decode cX12_windByScore 68 = .ok (.iadd, 1) := by decide +kernel
theorem dX12_windByScore_69 : decode cX12_windByScore 69 = .ok (.istore_n 3, 1) := by decide +kernel
theorem dX12_windByScore_70 : decode cX12_windByScore 70 = .ok (.iinc 4 1, 3) := by decide +kernel
theorem dX12_windByScore_73 : decode cX12_windByScore 73 = .ok (.goto (-56), 3) := by decide +kernel
theorem dX12_windByScore_76 : decode cX12_windByScore 76 = .ok (.iload_n 3, 1) := by decide +kernel
theorem dX12_windByScore_77 : decode cX12_windByScore 77 = .ok (.iload_n 1, 1) := by decide +kernel
theorem dX12_windByScore_78 : decode cX12_windByScore 78 = .ok (.if_icmp .eq 6, 3) := by decide +kernel
theorem dX12_windByScore_81 : decode cX12_windByScore 81 = .ok (.goto 10, 3) := by decide +kernel
theorem dX12_windByScore_84 : decode cX12_windByScore 84 = .ok (.aload_n 0, 1) := by decide +kernel
theorem dX12_windByScore_85 : decode cX12_windByScore 85 = .ok (.iconst 0, 1) := by decide +kernel
theorem dX12_windByScore_86 : decode cX12_windByScore 86 = .ok (.putfield 52, 3) := by decide +kernel
theorem dX12_windByScore_89 : decode cX12_windByScore 89 = .ok (.iload_n 2, 1) := by decide +kernel
theorem dX12_windByScore_90 : decode cX12_windByScore 90 = .ok (.ireturn, 1) := by decide +kernel
theorem dX12_windByScore_91 : decode cX12_windByScore 91 = .ok (.iinc 2 1, 3) := by decide +kernel
theorem dX12_windByScore_94 : decode cX12_windByScore 94 = .ok (.goto (-92), 3) := by decide +kernel
theorem dX12_windByScore_97 : decode cX12_windByScore 97 = .ok (.aload_n 0, 1) := by decide +kernel
theorem dX12_windByScore_98 : decode cX12_windByScore 98 = .ok (.iconst 1, 1) := by decide +kernel
theorem dX12_windByScore_99 : decode cX12_windByScore 99 = .ok (.putfield 52, 3) := by decide +kernel
theorem dX12_windByScore_102 : decode cX12_windByScore 102 = .ok (.iconst 0, 1) := by decide +kernel
theorem dX12_windByScore_103 : decode cX12_windByScore 103 = .ok (.ireturn, 1) := by decide +kernel
theorem dX12_spin_0 : decode cX12_spin 0 = .ok (.aload_n 0, 1) := by decide +kernel
theorem dX12_spin_1 : decode cX12_spin 1 = .ok (.aload_n 0, 1) := by decide +kernel
theorem dX12_spin_2 : decode cX12_spin 2 = .ok (.getfield 7, 3) := by decide +kernel
theorem dX12_spin_5 : decode cX12_spin 5 = .ok (.invokevirtual 80, 3) := by decide +kernel
theorem dX12_spin_8 : decode cX12_spin 8 = .ok (.aload_n 0, 1) := by decide +kernel
theorem dX12_spin_9 : decode cX12_spin 9 = .ok (.getfield 7, 3) := by decide +kernel
theorem dX12_spin_12 : decode cX12_spin 12 = .ok (.iconst 2, 1) := by decide +kernel
theorem dX12_spin_13 : decode cX12_spin 13 = .ok (.iconst 5, 1) := by decide +kernel
theorem dX12_spin_14 : decode cX12_spin 14 = .ok (.aload_n 0, 1) := by decide +kernel
theorem dX12_spin_15 : decode cX12_spin 15 = .ok (.getfield 7, 3) := by decide +kernel
theorem dX12_spin_18 : decode cX12_spin 18 = .ok (.iconst 2, 1) := by decide +kernel
theorem dX12_spin_19 : decode cX12_spin 19 = .ok (.iaload, 1) := by decide +kernel
theorem dX12_spin_20 : decode cX12_spin 20 = .ok (.imul, 1) := by decide +kernel
theorem dX12_spin_21 : decode cX12_spin 21 = .ok (.iconst 3, 1) := by decide +kernel
theorem dX12_spin_22 : decode cX12_spin 22 = .ok (.iadd, 1) := by decide +kernel
theorem dX12_spin_23 : decode cX12_spin 23 = .ok (.bipush 16, 2) := by decide +kernel
theorem dX12_spin_25 : decode cX12_spin 25 = .ok (.irem, 1) := by decide +kernel
theorem dX12_spin_26 : decode cX12_spin 26 = .ok (.iastore, 1) := by decide +kernel
theorem dX12_spin_27 : decode cX12_spin 27 = .ok (.aload_n 0, 1) := by decide +kernel
theorem dX12_spin_28 : decode cX12_spin 28 = .ok (.getfield 7, 3) := by decide +kernel
theorem dX12_spin_31 : decode cX12_spin 31 = .ok (.iconst 2, 1) := by decide +kernel
theorem dX12_spin_32 : decode cX12_spin 32 = .ok (.iaload, 1) := by decide +kernel
theorem dX12_spin_33 : decode cX12_spin 33 = .ok (.ireturn, 1) := by decide +kernel
theorem dX12_spinValue_0 : decode cX12_spinValue 0 = .ok (.aload_n 0, 1) := by decide +kernel
theorem dX12_spinValue_1 : decode cX12_spinValue 1 = .ok (.iconst 0, 1) := by decide +kernel
theorem dX12_spinValue_2 : decode cX12_spinValue 2 = .ok (.putfield 52, 3) := by decide +kernel
theorem dX12_spinValue_5 : decode cX12_spinValue 5 = .ok (.aload_n 0, 1) := by decide +kernel
theorem dX12_spinValue_6 : decode cX12_spinValue 6 = .ok (.getfield 7, 3) := by decide +kernel
theorem dX12_spinValue_9 : decode cX12_spinValue 9 = .ok (.iconst 2, 1) := by decide +kernel
theorem dX12_spinValue_10 : decode cX12_spinValue 10 = .ok (.iaload, 1) := by decide +kernel
theorem dX12_spinValue_11 : decode cX12_spinValue 11 = .ok (.ireturn, 1) := by decide +kernel
theorem dX12_certify_0 : decode cX12_certify 0 = .ok (.aload_n 0, 1) := by decide +kernel
theorem dX12_certify_1 : decode cX12_certify 1 = .ok (.invokevirtual 133, 3) := by decide +kernel
theorem dX12_certify_4 : decode cX12_certify 4 = .ok (.istore_n 1, 1) := by decide +kernel
theorem dX12_certify_5 : decode cX12_certify 5 = .ok (.aload_n 0, 1) := by decide +kernel
theorem dX12_certify_6 : decode cX12_certify 6 = .ok (.getfield 52, 3) := by decide +kernel
theorem dX12_certify_9 : decode cX12_certify 9 = .ok (.ifCond .le 5, 3) := by decide +kernel
theorem dX12_certify_12 : decode cX12_certify 12 = .ok (.iconst 0, 1) := by decide +kernel
theorem dX12_certify_13 : decode cX12_certify 13 = .ok (.ireturn, 1) := by decide +kernel
theorem dX12_certify_14 : decode cX12_certify 14 = .ok (.aload_n 0, 1) := by decide +kernel
theorem dX12_certify_15 : decode cX12_certify 15 = .ok (.aload_n 0, 1) := by decide +kernel
theorem dX12_certify_16 : decode cX12_certify 16 = .ok (.getfield 7, 3) := by decide +kernel
theorem dX12_certify_19 : decode cX12_certify 19 = .ok (.invokevirtual 80, 3) := by decide +kernel
theorem dX12_certify_22 : decode cX12_certify 22 = .ok (.aload_n 0, 1) := by decide +kernel
theorem dX12_certify_23 : decode cX12_certify 23 = .ok (.getfield 7, 3) := by decide +kernel
theorem dX12_certify_26 : decode cX12_certify 26 = .ok (.iconst 2, 1) := by decide +kernel
theorem dX12_certify_27 : decode cX12_certify 27 = .ok (.aload_n 0, 1) := by decide +kernel
theorem dX12_certify_28 : decode cX12_certify 28 = .ok (.getfield 113, 3) := by decide +kernel
theorem dX12_certify_31 : decode cX12_certify 31 = .ok (.iastore, 1) := by decide +kernel
theorem dX12_certify_32 : decode cX12_certify 32 = .ok (.aload_n 0, 1) := by decide +kernel
theorem dX12_certify_33 : decode cX12_certify 33 = .ok (.getfield 7, 3) := by decide +kernel
theorem dX12_certify_36 : decode cX12_certify 36 = .ok (.iconst 4, 1) := by decide +kernel
theorem dX12_certify_37 : decode cX12_certify 37 = .ok (.iload_n 1, 1) := by decide +kernel
theorem dX12_certify_38 : decode cX12_certify 38 = .ok (.iadd, 1) := by decide +kernel
theorem dX12_certify_39 : decode cX12_certify 39 = .ok (.iconst 2, 1) := by decide +kernel
theorem dX12_certify_40 : decode cX12_certify 40 = .ok (.iastore, 1) := by decide +kernel
theorem dX12_certify_41 : decode cX12_certify 41 = .ok (.aload_n 0, 1) := by decide +kernel
theorem dX12_certify_42 : decode cX12_certify 42 = .ok (.getfield 7, 3) := by decide +kernel
theorem dX12_certify_45 : decode cX12_certify 45 = .ok (.bipush 12, 2) := by decide +kernel
theorem dX12_certify_47 : decode cX12_certify 47 = .ok (.aload_n 0, 1) := by decide +kernel
theorem dX12_certify_48 : decode cX12_certify 48 = .ok (.getfield 7, 3) := by decide +kernel
theorem dX12_certify_51 : decode cX12_certify 51 = .ok (.iconst 3, 1) := by decide +kernel
theorem dX12_certify_52 : decode cX12_certify 52 = .ok (.iaload, 1) := by decide +kernel
theorem dX12_certify_53 : decode cX12_certify 53 = .ok (.iadd, 1) := by decide +kernel
theorem dX12_certify_54 : decode cX12_certify 54 = .ok (.iload_n 1, 1) := by decide +kernel
theorem dX12_certify_55 : decode cX12_certify 55 = .ok (.iastore, 1) := by decide +kernel
theorem dX12_certify_56 : decode cX12_certify 56 = .ok (.aload_n 0, 1) := by decide +kernel
theorem dX12_certify_57 : decode cX12_certify 57 = .ok (.getfield 7, 3) := by decide +kernel
theorem dX12_certify_60 : decode cX12_certify 60 = .ok (.iconst 3, 1) := by decide +kernel
theorem dX12_certify_61 : decode cX12_certify 61 = .ok (.dup2, 1) := by decide +kernel
theorem dX12_certify_62 : decode cX12_certify 62 = .ok (.iaload, 1) := by decide +kernel
theorem dX12_certify_63 : decode cX12_certify 63 = .ok (.iconst 1, 1) := by decide +kernel
theorem dX12_certify_64 : decode cX12_certify 64 = .ok (.iadd, 1) := by decide +kernel
theorem dX12_certify_65 : decode cX12_certify 65 = .ok (.iastore, 1) := by decide +kernel
theorem dX12_certify_66 : decode cX12_certify 66 = .ok (.iload_n 1, 1) := by decide +kernel
theorem dX12_certify_67 : decode cX12_certify 67 = .ok (.ireturn, 1) := by decide +kernel
theorem dX12_seatCount_0 : decode cX12_seatCount 0 = .ok (.aload_n 0, 1) := by decide +kernel
theorem dX12_seatCount_1 : decode cX12_seatCount 1 = .ok (.iconst 0, 1) := by decide +kernel
theorem dX12_seatCount_2 : decode cX12_seatCount 2 = .ok (.putfield 52, 3) := by decide +kernel
theorem dX12_seatCount_5 : decode cX12_seatCount 5 = .ok (.aload_n 0, 1) := by decide +kernel
theorem dX12_seatCount_6 : decode cX12_seatCount 6 = .ok (.getfield 7, 3) := by decide +kernel
theorem dX12_seatCount_9 : decode cX12_seatCount 9 = .ok (.iconst 3, 1) := by decide +kernel
theorem dX12_seatCount_10 : decode cX12_seatCount 10 = .ok (.iaload, 1) := by decide +kernel
theorem dX12_seatCount_11 : decode cX12_seatCount 11 = .ok (.ireturn, 1) := by decide +kernel
theorem dX12_seatAt_0 : decode cX12_seatAt 0 = .ok (.aload_n 0, 1) := by decide +kernel
theorem dX12_seatAt_1 : decode cX12_seatAt 1 = .ok (.iload_n 1, 1) := by decide +kernel
theorem dX12_seatAt_2 : decode cX12_seatAt 2 = .ok (.iconst 0, 1) := by decide +kernel
theorem dX12_seatAt_3 : decode cX12_seatAt 3 = .ok (.aload_n 0, 1) := by decide +kernel
theorem dX12_seatAt_4 : decode cX12_seatAt 4 = .ok (.getfield 7, 3) := by decide +kernel
theorem dX12_seatAt_7 : decode cX12_seatAt 7 = .ok (.iconst 3, 1) := by decide +kernel
theorem dX12_seatAt_8 : decode cX12_seatAt 8 = .ok (.iaload, 1) := by decide +kernel
theorem dX12_seatAt_9 : decode cX12_seatAt 9 = .ok (.iconst 1, 1) := by decide +kernel
theorem dX12_seatAt_10 : decode cX12_seatAt 10 = .ok (.isub, 1) := by decide +kernel
theorem dX12_seatAt_11 : decode cX12_seatAt 11 = .ok (.invokestatic 66, 3) := by decide +kernel
theorem dX12_seatAt_14 : decode cX12_seatAt 14 = .ok (.ifCond .eq 7, 3) := by decide +kernel
theorem dX12_seatAt_17 : decode cX12_seatAt 17 = .ok (.iconst 0, 1) := by decide +kernel
theorem dX12_seatAt_18 : decode cX12_seatAt 18 = .ok (.goto 4, 3) := by decide +kernel
theorem dX12_seatAt_21 : decode cX12_seatAt 21 = .ok (.iconst 1, 1) := by decide +kernel
theorem dX12_seatAt_22 : decode cX12_seatAt 22 = .ok (.invokevirtual 77, 3) := by decide +kernel
theorem dX12_seatAt_25 : decode cX12_seatAt 25 = .ok (.ifCond .eq 7, 3) := by decide +kernel
theorem dX12_seatAt_28 : decode cX12_seatAt 28 = .ok (.iconst 0, 1) := by decide +kernel
theorem dX12_seatAt_29 : decode cX12_seatAt 29 = .ok (.goto 12, 3) := by decide +kernel
theorem dX12_seatAt_32 : decode cX12_seatAt 32 = .ok (.aload_n 0, 1) := by decide +kernel
theorem dX12_seatAt_33 : decode cX12_seatAt 33 = .ok (.getfield 7, 3) := by decide +kernel
theorem dX12_seatAt_36 : decode cX12_seatAt 36 = .ok (.bipush 12, 2) := by decide +kernel
theorem dX12_seatAt_38 : decode cX12_seatAt 38 = .ok (.iload_n 1, 1) := by decide +kernel
theorem dX12_seatAt_39 : decode cX12_seatAt 39 = .ok (.iadd, 1) := by decide +kernel
theorem dX12_seatAt_40 : decode cX12_seatAt 40 = .ok (.iaload, 1) := by decide +kernel
theorem dX12_seatAt_41 : decode cX12_seatAt 41 = .ok (.ireturn, 1) := by decide +kernel
theorem dX12_writes_0 : decode cX12_writes 0 = .ok (.aload_n 0, 1) := by decide +kernel
theorem dX12_writes_1 : decode cX12_writes 1 = .ok (.getfield 32, 3) := by decide +kernel
theorem dX12_writes_4 : decode cX12_writes 4 = .ok (.aload_n 0, 1) := by decide +kernel
theorem dX12_writes_5 : decode cX12_writes 5 = .ok (.getfield 158, 3) := by decide +kernel
theorem dX12_writes_8 : decode cX12_writes 8 = .ok (.iload_n 1, 1) := by decide +kernel
theorem dX12_writes_9 : decode cX12_writes 9 = .ok (.i2c, 1) := by decide +kernel
theorem dX12_writes_10 : decode cX12_writes 10 = .ok (.castore, 1) := by decide +kernel
theorem dX12_writes_11 : decode cX12_writes 11 = .ok (.aload_n 0, 1) := by decide +kernel
theorem dX12_writes_12 : decode cX12_writes 12 = .ok (.dup, 1) := by decide +kernel
theorem dX12_writes_13 : decode cX12_writes 13 = .ok (.getfield 158, 3) := by decide +kernel
theorem dX12_writes_16 : decode cX12_writes 16 = .ok (.iconst 1, 1) := by decide +kernel
theorem dX12_writes_17 : decode cX12_writes 17 = .ok (.iadd, 1) := by decide +kernel
theorem dX12_writes_18 : decode cX12_writes 18 = .ok (.putfield 158, 3) := by decide +kernel
theorem dX12_writes_21 : decode cX12_writes 21 = .ok (.return_, 1) := by decide +kernel
theorem dX12_writesNumber_0 : decode cX12_writesNumber 0 = .ok (.iload_n 1, 1) := by decide +kernel
theorem dX12_writesNumber_1 : decode cX12_writesNumber 1 = .ok (.bipush 9, 2) := by decide +kernel
theorem dX12_writesNumber_3 : decode cX12_writesNumber 3 = .ok (.if_icmp .le 14, 3) := by decide +kernel
theorem dX12_writesNumber_6 : decode cX12_writesNumber 6 = .ok (.aload_n 0, 1) := by decide +kernel
theorem dX12_writesNumber_7 : decode cX12_writesNumber 7 = .ok (.bipush 48, 2) := by decide +kernel
theorem dX12_writesNumber_9 : decode cX12_writesNumber 9 = .ok (.iload_n 1, 1) := by decide +kernel
theorem dX12_writesNumber_10 : decode cX12_writesNumber 10 = .ok (.bipush 10, 2) := by decide +kernel
theorem dX12_writesNumber_12 : decode cX12_writesNumber 12 = .ok (.idiv, 1) := by decide +kernel
theorem dX12_writesNumber_13 : decode cX12_writesNumber 13 = .ok (.iadd, 1) := by decide +kernel
theorem dX12_writesNumber_14 : decode cX12_writesNumber 14 = .ok (.invokevirtual 161, 3) := by decide +kernel
theorem dX12_writesNumber_17 : decode cX12_writesNumber 17 = .ok (.aload_n 0, 1) := by decide +kernel
theorem dX12_writesNumber_18 : decode cX12_writesNumber 18 = .ok (.bipush 48, 2) := by decide +kernel
theorem dX12_writesNumber_20 : decode cX12_writesNumber 20 = .ok (.iload_n 1, 1) := by decide +kernel
theorem dX12_writesNumber_21 : decode cX12_writesNumber 21 = .ok (.bipush 10, 2) := by decide +kernel
theorem dX12_writesNumber_23 : decode cX12_writesNumber 23 = .ok (.irem, 1) := by decide +kernel
theorem dX12_writesNumber_24 : decode cX12_writesNumber 24 = .ok (.iadd, 1) := by decide +kernel
theorem dX12_writesNumber_25 : decode cX12_writesNumber 25 = .ok (.invokevirtual 161, 3) := by decide +kernel
theorem dX12_writesNumber_28 : decode cX12_writesNumber 28 = .ok (.return_, 1) := by decide +kernel
theorem dX12_writeBallot_0 : decode cX12_writeBallot 0 = .ok (.aload_n 0, 1) := by decide +kernel
theorem dX12_writeBallot_1 : decode cX12_writeBallot 1 = .ok (.iload_n 1, 1) := by decide +kernel
theorem dX12_writeBallot_2 : decode cX12_writeBallot 2 = .ok (.invokevirtual 104, 3) := by decide +kernel
theorem dX12_writeBallot_5 : decode cX12_writeBallot 5 = .ok (.ifCond .eq 5, 3) := by decide +kernel
theorem dX12_writeBallot_8 : decode cX12_writeBallot 8 = .ok (.iconst 0, 1) := by decide +kernel
theorem dX12_writeBallot_9 : decode cX12_writeBallot 9 = .ok (.ireturn, 1) := by decide +kernel
theorem dX12_writeBallot_10 : decode cX12_writeBallot 10 = .ok (.aload_n 0, 1) := by decide +kernel
theorem dX12_writeBallot_11 : decode cX12_writeBallot 11 = .ok (.iconst 0, 1) := by decide +kernel
theorem dX12_writeBallot_12 : decode cX12_writeBallot 12 = .ok (.putfield 158, 3) := by decide +kernel
theorem dX12_writeBallot_15 : decode cX12_writeBallot 15 = .ok (.aload_n 0, 1) := by decide +kernel
theorem dX12_writeBallot_16 : decode cX12_writeBallot 16 = .ok (.aload_n 0, 1) := by decide +kernel
theorem dX12_writeBallot_17 : decode cX12_writeBallot 17 = .ok (.iload_n 1, 1) := by decide +kernel
theorem dX12_writeBallot_18 : decode cX12_writeBallot 18 = .ok (.iconst 0, 1) := by decide +kernel
theorem dX12_writeBallot_19 : decode cX12_writeBallot 19 = .ok (.invokevirtual 91, 3) := by decide +kernel
theorem dX12_writeBallot_22 : decode cX12_writeBallot 22 = .ok (.invokevirtual 164, 3) := by decide +kernel
theorem dX12_writeBallot_25 : decode cX12_writeBallot 25 = .ok (.aload_n 0, 1) := by decide +kernel
theorem dX12_writeBallot_26 : decode cX12_writeBallot 26 = .ok (.bipush 58, 2) := by decide +kernel
theorem dX12_writeBallot_28 : decode cX12_writeBallot 28 = .ok (.invokevirtual 161, 3) := by decide +kernel
theorem dX12_writeBallot_31 : decode cX12_writeBallot 31 = .ok (.aload_n 0, 1) := by decide +kernel
theorem dX12_writeBallot_32 : decode cX12_writeBallot 32 = .ok (.bipush 32, 2) := by decide +kernel
theorem dX12_writeBallot_34 : decode cX12_writeBallot 34 = .ok (.invokevirtual 161, 3) := by decide +kernel
theorem dX12_writeBallot_37 : decode cX12_writeBallot 37 = .ok (.iconst 0, 1) := by decide +kernel
theorem dX12_writeBallot_38 : decode cX12_writeBallot 38 = .ok (.istore_n 2, 1) := by decide +kernel
theorem dX12_writeBallot_39 : decode cX12_writeBallot 39 = .ok (.iload_n 2, 1) := by decide +kernel
theorem dX12_writeBallot_40 : decode cX12_writeBallot 40 = .ok (.aload_n 0, 1) := by decide +kernel
theorem dX12_writeBallot_41 : decode cX12_writeBallot 41 = .ok (.iload_n 1, 1) := by decide +kernel
theorem dX12_writeBallot_42 : decode cX12_writeBallot 42 = .ok (.iconst 1, 1) := by decide +kernel
theorem dX12_writeBallot_43 : decode cX12_writeBallot 43 = .ok (.invokevirtual 91, 3) := by decide +kernel
theorem dX12_writeBallot_46 : decode cX12_writeBallot 46 = .ok (.if_icmp .ge 31, 3) := by decide +kernel
theorem dX12_writeBallot_49 : decode cX12_writeBallot 49 = .ok (.iload_n 2, 1) := by decide +kernel
theorem dX12_writeBallot_50 : decode cX12_writeBallot 50 = .ok (.ifCond .le 9, 3) := by decide +kernel
theorem dX12_writeBallot_53 : decode cX12_writeBallot 53 = .ok (.aload_n 0, 1) := by decide +kernel
theorem dX12_writeBallot_54 : decode cX12_writeBallot 54 = .ok (.bipush 62, 2) := by decide +kernel
theorem dX12_writeBallot_56 : decode cX12_writeBallot 56 = .ok (.invokevirtual 161, 3) := by decide +kernel
theorem dX12_writeBallot_59 : decode cX12_writeBallot 59 = .ok (.aload_n 0, 1) := by decide +kernel
theorem dX12_writeBallot_60 : decode cX12_writeBallot 60 = .ok (.aload_n 0, 1) := by decide +kernel
theorem dX12_writeBallot_61 : decode cX12_writeBallot 61 = .ok (.iload_n 1, 1) := by decide +kernel
theorem dX12_writeBallot_62 : decode cX12_writeBallot 62 = .ok (.iconst 2, 1) := by decide +kernel
theorem dX12_writeBallot_63 : decode cX12_writeBallot 63 = .ok (.iload_n 2, 1) := by decide +kernel
theorem dX12_writeBallot_64 : decode cX12_writeBallot 64 = .ok (.iadd, 1) := by decide +kernel
theorem dX12_writeBallot_65 : decode cX12_writeBallot 65 = .ok (.invokevirtual 91, 3) := by decide +kernel
theorem dX12_writeBallot_68 : decode cX12_writeBallot 68 = .ok (.invokevirtual 164, 3) := by decide +kernel
theorem dX12_writeBallot_71 : decode cX12_writeBallot 71 = .ok (.iinc 2 1, 3) := by decide +kernel
theorem dX12_writeBallot_74 : decode cX12_writeBallot 74 = .ok (.goto (-35), 3) := by decide +kernel
theorem dX12_writeBallot_77 : decode cX12_writeBallot 77 = .ok (.aload_n 0, 1) := by decide +kernel
theorem dX12_writeBallot_78 : decode cX12_writeBallot 78 = .ok (.getfield 158, 3) := by decide +kernel
theorem dX12_writeBallot_81 : decode cX12_writeBallot 81 = .ok (.ireturn, 1) := by decide +kernel
theorem dX12_writeCount_0 : decode cX12_writeCount 0 = .ok (.aload_n 0, 1) := by decide +kernel
theorem dX12_writeCount_1 : decode cX12_writeCount 1 = .ok (.iconst 0, 1) := by decide +kernel
theorem dX12_writeCount_2 : decode cX12_writeCount 2 = .ok (.putfield 52, 3) := by decide +kernel
theorem dX12_writeCount_5 : decode cX12_writeCount 5 = .ok (.aload_n 0, 1) := by decide +kernel
theorem dX12_writeCount_6 : decode cX12_writeCount 6 = .ok (.invokevirtual 130, 3) := by decide +kernel
theorem dX12_writeCount_9 : decode cX12_writeCount 9 = .ok (.aload_n 0, 1) := by decide +kernel
theorem dX12_writeCount_10 : decode cX12_writeCount 10 = .ok (.iconst 0, 1) := by decide +kernel
theorem dX12_writeCount_11 : decode cX12_writeCount 11 = .ok (.putfield 158, 3) := by decide +kernel
theorem dX12_writeCount_14 : decode cX12_writeCount 14 = .ok (.iconst 0, 1) := by decide +kernel
theorem dX12_writeCount_15 : decode cX12_writeCount 15 = .ok (.istore_n 1, 1) := by decide +kernel
theorem dX12_writeCount_16 : decode cX12_writeCount 16 = .ok (.iload_n 1, 1) := by decide +kernel
theorem dX12_writeCount_17 : decode cX12_writeCount 17 = .ok (.aload_n 0, 1) := by decide +kernel
theorem dX12_writeCount_18 : decode cX12_writeCount 18 = .ok (.getfield 110, 3) := by decide +kernel
theorem dX12_writeCount_21 : decode cX12_writeCount 21 = .ok (.if_icmp .ge 69, 3) := by decide +kernel
theorem dX12_writeCount_24 : decode cX12_writeCount 24 = .ok (.aload_n 0, 1) := by decide +kernel
theorem dX12_writeCount_25 : decode cX12_writeCount 25 = .ok (.aload_n 0, 1) := by decide +kernel
theorem dX12_writeCount_26 : decode cX12_writeCount 26 = .ok (.getfield 42, 3) := by decide +kernel
theorem dX12_writeCount_29 : decode cX12_writeCount 29 = .ok (.iload_n 1, 1) := by decide +kernel
theorem dX12_writeCount_30 : decode cX12_writeCount 30 = .ok (.iaload, 1) := by decide +kernel
theorem dX12_writeCount_31 : decode cX12_writeCount 31 = .ok (.ifCond .ge 10, 3) := by decide +kernel
theorem dX12_writeCount_34 : decode cX12_writeCount 34 = .ok (.aload_n 0, 1) := by decide +kernel
theorem dX12_writeCount_35 : decode cX12_writeCount 35 = .ok (.getfield 116, 3) := by decide +kernel
theorem dX12_writeCount_38 : decode cX12_writeCount 38 = .ok (.goto 9, 3) := by decide +kernel
theorem dX12_writeCount_41 : decode cX12_writeCount 41 = .ok (.aload_n 0, 1) := by decide +kernel
theorem dX12_writeCount_42 : decode cX12_writeCount 42 = .ok (.getfield 42, 3) := by decide +kernel
theorem dX12_writeCount_45 : decode cX12_writeCount 45 = .ok (.iload_n 1, 1) := by decide +kernel
theorem dX12_writeCount_46 : decode cX12_writeCount 46 = .ok (.iaload, 1) := by decide +kernel
theorem dX12_writeCount_47 : decode cX12_writeCount 47 = .ok (.invokevirtual 164, 3) := by decide +kernel
theorem dX12_writeCount_50 : decode cX12_writeCount 50 = .ok (.aload_n 0, 1) := by decide +kernel
theorem dX12_writeCount_51 : decode cX12_writeCount 51 = .ok (.aload_n 0, 1) := by decide +kernel
theorem dX12_writeCount_52 : decode cX12_writeCount 52 = .ok (.getfield 42, 3) := by decide +kernel
theorem dX12_writeCount_55 : decode cX12_writeCount 55 = .ok (.iload_n 1, 1) := by decide +kernel
theorem dX12_writeCount_56 : decode cX12_writeCount 56 = .ok (.iaload, 1) := by decide +kernel
theorem dX12_writeCount_57 : decode cX12_writeCount 57 = .ok (.ifCond .ge 8, 3) := by decide +kernel
theorem dX12_writeCount_60 : decode cX12_writeCount 60 = .ok (.bipush 33, 2) := by decide +kernel
theorem dX12_writeCount_62 : decode cX12_writeCount 62 = .ok (.goto 19, 3) := by decide +kernel
theorem dX12_writeCount_65 : decode cX12_writeCount 65 = .ok (.aload_n 0, 1) := by decide +kernel
theorem dX12_writeCount_66 : decode cX12_writeCount 66 = .ok (.getfield 45, 3) := by decide +kernel
theorem dX12_writeCount_69 : decode cX12_writeCount 69 = .ok (.iload_n 1, 1) := by decide +kernel
theorem dX12_writeCount_70 : decode cX12_writeCount 70 = .ok (.baload, 1) := by decide +kernel
theorem dX12_writeCount_71 : decode cX12_writeCount 71 = .ok (.ifCond .eq 8, 3) := by decide +kernel
theorem dX12_writeCount_74 : decode cX12_writeCount 74 = .ok (.bipush 42, 2) := by decide +kernel
theorem dX12_writeCount_76 : decode cX12_writeCount 76 = .ok (.goto 5, 3) := by decide +kernel
theorem dX12_writeCount_79 : decode cX12_writeCount 79 = .ok (.bipush 45, 2) := by decide +kernel
theorem dX12_writeCount_81 : decode cX12_writeCount 81 = .ok (.invokevirtual 161, 3) := by decide +kernel
theorem dX12_writeCount_84 : decode cX12_writeCount 84 = .ok (.iinc 1 1, 3) := by decide +kernel
theorem dX12_writeCount_87 : decode cX12_writeCount 87 = .ok (.goto (-71), 3) := by decide +kernel
theorem dX12_writeCount_90 : decode cX12_writeCount 90 = .ok (.aload_n 0, 1) := by decide +kernel
theorem dX12_writeCount_91 : decode cX12_writeCount 91 = .ok (.getfield 158, 3) := by decide +kernel
theorem dX12_writeCount_94 : decode cX12_writeCount 94 = .ok (.ireturn, 1) := by decide +kernel
theorem dX12_lineAt_0 : decode cX12_lineAt 0 = .ok (.aload_n 0, 1) := by decide +kernel
theorem dX12_lineAt_1 : decode cX12_lineAt 1 = .ok (.iload_n 1, 1) := by decide +kernel
theorem dX12_lineAt_2 : decode cX12_lineAt 2 = .ok (.iconst 0, 1) := by decide +kernel
theorem dX12_lineAt_3 : decode cX12_lineAt 3 = .ok (.aload_n 0, 1) := by decide +kernel
theorem dX12_lineAt_4 : decode cX12_lineAt 4 = .ok (.getfield 158, 3) := by decide +kernel
theorem dX12_lineAt_7 : decode cX12_lineAt 7 = .ok (.iconst 1, 1) := by decide +kernel
theorem dX12_lineAt_8 : decode cX12_lineAt 8 = .ok (.isub, 1) := by decide +kernel
theorem dX12_lineAt_9 : decode cX12_lineAt 9 = .ok (.invokestatic 66, 3) := by decide +kernel
theorem dX12_lineAt_12 : decode cX12_lineAt 12 = .ok (.ifCond .eq 7, 3) := by decide +kernel
theorem dX12_lineAt_15 : decode cX12_lineAt 15 = .ok (.iconst 0, 1) := by decide +kernel
theorem dX12_lineAt_16 : decode cX12_lineAt 16 = .ok (.goto 4, 3) := by decide +kernel
theorem dX12_lineAt_19 : decode cX12_lineAt 19 = .ok (.iconst 1, 1) := by decide +kernel
theorem dX12_lineAt_20 : decode cX12_lineAt 20 = .ok (.invokevirtual 77, 3) := by decide +kernel
theorem dX12_lineAt_23 : decode cX12_lineAt 23 = .ok (.ifCond .eq 8, 3) := by decide +kernel
theorem dX12_lineAt_26 : decode cX12_lineAt 26 = .ok (.bipush 32, 2) := by decide +kernel
theorem dX12_lineAt_28 : decode cX12_lineAt 28 = .ok (.goto 9, 3) := by decide +kernel
theorem dX12_lineAt_31 : decode cX12_lineAt 31 = .ok (.aload_n 0, 1) := by decide +kernel
theorem dX12_lineAt_32 : decode cX12_lineAt 32 = .ok (.getfield 32, 3) := by decide +kernel
theorem dX12_lineAt_35 : decode cX12_lineAt 35 = .ok (.iload_n 1, 1) := by decide +kernel
theorem dX12_lineAt_36 : decode cX12_lineAt 36 = .ok (.caload, 1) := by decide +kernel
theorem dX12_lineAt_37 : decode cX12_lineAt 37 = .ok (.ireturn, 1) := by decide +kernel
theorem dX12_meanRanks_0 : decode cX12_meanRanks 0 = .ok (.aload_n 0, 1) := by decide +kernel
theorem dX12_meanRanks_1 : decode cX12_meanRanks 1 = .ok (.aload_n 0, 1) := by decide +kernel
theorem dX12_meanRanks_2 : decode cX12_meanRanks 2 = .ok (.getfield 7, 3) := by decide +kernel
theorem dX12_meanRanks_5 : decode cX12_meanRanks 5 = .ok (.iconst 1, 1) := by decide +kernel
theorem dX12_meanRanks_6 : decode cX12_meanRanks 6 = .ok (.iaload, 1) := by decide +kernel
theorem dX12_meanRanks_7 : decode cX12_meanRanks 7 = .ok (.ifCond .ne 7, 3) := by decide +kernel
theorem dX12_meanRanks_10 : decode cX12_meanRanks 10 = .ok (.iconst 1, 1) := by decide +kernel
theorem dX12_meanRanks_11 : decode cX12_meanRanks 11 = .ok (.goto 4, 3) := by decide +kernel
theorem dX12_meanRanks_14 : decode cX12_meanRanks 14 = .ok (.iconst 0, 1) := by decide +kernel
theorem dX12_meanRanks_15 : decode cX12_meanRanks 15 = .ok (.invokevirtual 77, 3) := by decide +kernel
theorem dX12_meanRanks_18 : decode cX12_meanRanks 18 = .ok (.ifCond .eq 5, 3) := by decide +kernel
theorem dX12_meanRanks_21 : decode cX12_meanRanks 21 = .ok (.dconst 0, 1) := by decide +kernel
theorem dX12_meanRanks_22 : decode cX12_meanRanks 22 = .ok (.dreturn, 1) := by decide +kernel
theorem dX12_meanRanks_23 : decode cX12_meanRanks 23 = .ok (.iconst 0, 1) := by decide +kernel
theorem dX12_meanRanks_24 : decode cX12_meanRanks 24 = .ok (.istore_n 1, 1) := by decide +kernel
theorem dX12_meanRanks_25 : decode cX12_meanRanks 25 = .ok (.iconst 0, 1) := by decide +kernel
theorem dX12_meanRanks_26 : decode cX12_meanRanks 26 = .ok (.istore_n 2, 1) := by decide +kernel
theorem dX12_meanRanks_27 : decode cX12_meanRanks 27 = .ok (.iload_n 2, 1) := by decide +kernel
theorem dX12_meanRanks_28 : decode cX12_meanRanks 28 = .ok (.aload_n 0, 1) := by decide +kernel
theorem dX12_meanRanks_29 : decode cX12_meanRanks 29 = .ok (.getfield 7, 3) := by decide +kernel
theorem dX12_meanRanks_32 : decode cX12_meanRanks 32 = .ok (.iconst 1, 1) := by decide +kernel
theorem dX12_meanRanks_33 : decode cX12_meanRanks 33 = .ok (.iaload, 1) := by decide +kernel
theorem dX12_meanRanks_34 : decode cX12_meanRanks 34 = .ok (.if_icmp .ge 18, 3) := by decide +kernel
theorem dX12_meanRanks_37 : decode cX12_meanRanks 37 = .ok (.iload_n 1, 1) := by decide +kernel
theorem dX12_meanRanks_38 : decode cX12_meanRanks 38 = .ok (.aload_n 0, 1) := by decide +kernel
theorem dX12_meanRanks_39 : decode cX12_meanRanks 39 = .ok (.iload_n 2, 1) := by decide +kernel
theorem dX12_meanRanks_40 : decode cX12_meanRanks 40 = .ok (.iconst 1, 1) := by decide +kernel
theorem dX12_meanRanks_41 : decode cX12_meanRanks 41 = .ok (.invokevirtual 91, 3) := by decide +kernel
theorem dX12_meanRanks_44 : decode cX12_meanRanks 44 = .ok (.iadd, 1) := by decide +kernel
theorem dX12_meanRanks_45 : decode cX12_meanRanks 45 = .ok (.istore_n 1, 1) := by decide +kernel
theorem dX12_meanRanks_46 : decode cX12_meanRanks 46 = .ok (.iinc 2 1, 3) := by decide +kernel
theorem dX12_meanRanks_49 : decode cX12_meanRanks 49 = .ok (.goto (-22), 3) := by decide +kernel
theorem dX12_meanRanks_52 : decode cX12_meanRanks 52 = .ok (.iload_n 1, 1) := by decide +kernel
theorem dX12_meanRanks_53 : decode cX12_meanRanks 53 = .ok (.i2d, 1) := by decide +kernel
theorem dX12_meanRanks_54 : decode cX12_meanRanks 54 = .ok (.aload_n 0, 1) := by decide +kernel
theorem dX12_meanRanks_55 : decode cX12_meanRanks 55 = .ok (.getfield 7, 3) := by decide +kernel
theorem dX12_meanRanks_58 : decode cX12_meanRanks 58 = .ok (.iconst 1, 1) := by decide +kernel
theorem dX12_meanRanks_59 : decode cX12_meanRanks 59 = .ok (.iaload, 1) := by decide +kernel
theorem dX12_meanRanks_60 : decode cX12_meanRanks 60 = .ok (.i2d, 1) := by decide +kernel
theorem dX12_meanRanks_61 : decode cX12_meanRanks 61 = .ok (.ddiv, 1) := by decide +kernel
theorem dX12_meanRanks_62 : decode cX12_meanRanks 62 = .ok (.dreturn, 1) := by decide +kernel
theorem dX12_isConsistent_0 : decode cX12_isConsistent 0 = .ok (.aload_n 0, 1) := by decide +kernel
theorem dX12_isConsistent_1 : decode cX12_isConsistent 1 = .ok (.iconst 0, 1) := by decide +kernel
theorem dX12_isConsistent_2 : decode cX12_isConsistent 2 = .ok (.putfield 52, 3) := by decide +kernel
theorem dX12_isConsistent_5 : decode cX12_isConsistent 5 = .ok (.iconst 1, 1) := by decide +kernel
theorem dX12_isConsistent_6 : decode cX12_isConsistent 6 = .ok (.ireturn, 1) := by decide +kernel
theorem dX12_type_0 : decode cX12_type 0 = .ok (.aload_n 0, 1) := by decide +kernel
theorem dX12_type_1 : decode cX12_type 1 = .ok (.iload_n 1, 1) := by decide +kernel
theorem dX12_type_2 : decode cX12_type 2 = .ok (.bipush 32, 2) := by decide +kernel
theorem dX12_type_4 : decode cX12_type 4 = .ok (.bipush 126, 2) := by decide +kernel
theorem dX12_type_6 : decode cX12_type 6 = .ok (.invokestatic 66, 3) := by decide +kernel
theorem dX12_type_9 : decode cX12_type 9 = .ok (.ifCond .ne 7, 3) := by decide +kernel
theorem dX12_type_12 : decode cX12_type 12 = .ok (.iconst 1, 1) := by decide +kernel
theorem dX12_type_13 : decode cX12_type 13 = .ok (.goto 17, 3) := by decide +kernel
theorem dX12_type_16 : decode cX12_type 16 = .ok (.aload_n 0, 1) := by decide +kernel
theorem dX12_type_17 : decode cX12_type 17 = .ok (.getfield 167, 3) := by decide +kernel
theorem dX12_type_20 : decode cX12_type 20 = .ok (.bipush 60, 2) := by decide +kernel
theorem dX12_type_22 : decode cX12_type 22 = .ok (.if_icmp .ne 7, 3) := by decide +kernel
theorem dX12_type_25 : decode cX12_type 25 = .ok (.iconst 2, 1) := by decide +kernel
theorem dX12_type_26 : decode cX12_type 26 = .ok (.goto 4, 3) := by decide +kernel
theorem dX12_type_29 : decode cX12_type 29 = .ok (.iconst 0, 1) := by decide +kernel
theorem dX12_type_30 : decode cX12_type 30 = .ok (.invokevirtual 77, 3) := by decide +kernel
theorem dX12_type_33 : decode cX12_type 33 = .ok (.ifCond .eq 5, 3) := by decide +kernel
theorem dX12_type_36 : decode cX12_type 36 = .ok (.iconst 0, 1) := by decide +kernel
theorem dX12_type_37 : decode cX12_type 37 = .ok (.ireturn, 1) := by decide +kernel
theorem dX12_type_38 : decode cX12_type 38 = .ok (.aload_n 0, 1) := by decide +kernel
theorem dX12_type_39 : decode cX12_type 39 = .ok (.getfield 22, 3) := by decide +kernel
theorem dX12_type_42 : decode cX12_type 42 = .ok (.aload_n 0, 1) := by decide +kernel
theorem dX12_type_43 : decode cX12_type 43 = .ok (.getfield 167, 3) := by decide +kernel
theorem dX12_type_46 : decode cX12_type 46 = .ok (.iload_n 1, 1) := by decide +kernel
theorem dX12_type_47 : decode cX12_type 47 = .ok (.iastore, 1) := by decide +kernel
theorem dX12_type_48 : decode cX12_type 48 = .ok (.aload_n 0, 1) := by decide +kernel
theorem dX12_type_49 : decode cX12_type 49 = .ok (.dup, 1) := by decide +kernel
theorem dX12_type_50 : decode cX12_type 50 = .ok (.getfield 167, 3) := by decide +kernel
theorem dX12_type_53 : decode cX12_type 53 = .ok (.iconst 1, 1) := by decide +kernel
theorem dX12_type_54 : decode cX12_type 54 = .ok (.iadd, 1) := by decide +kernel
theorem dX12_type_55 : decode cX12_type 55 = .ok (.putfield 167, 3) := by decide +kernel
theorem dX12_type_58 : decode cX12_type 58 = .ok (.aload_n 0, 1) := by decide +kernel
theorem dX12_type_59 : decode cX12_type 59 = .ok (.getfield 167, 3) := by decide +kernel
theorem dX12_type_62 : decode cX12_type 62 = .ok (.ireturn, 1) := by decide +kernel
theorem dX12_here_0 : decode cX12_here 0 = .ok (.aload_n 0, 1) := by decide +kernel
theorem dX12_here_1 : decode cX12_here 1 = .ok (.getfield 170, 3) := by decide +kernel
theorem dX12_here_4 : decode cX12_here 4 = .ok (.aload_n 0, 1) := by decide +kernel
theorem dX12_here_5 : decode cX12_here 5 = .ok (.getfield 167, 3) := by decide +kernel
theorem dX12_here_8 : decode cX12_here 8 = .ok (.if_icmp .ge 15, 3) := by decide +kernel
theorem dX12_here_11 : decode cX12_here 11 = .ok (.aload_n 0, 1) := by decide +kernel
theorem dX12_here_12 : decode cX12_here 12 = .ok (.getfield 22, 3) := by decide +kernel
theorem dX12_here_15 : decode cX12_here 15 = .ok (.aload_n 0, 1) := by decide +kernel
theorem dX12_here_16 : decode cX12_here 16 = .ok (.getfield 170, 3) := by decide +kernel
theorem dX12_here_19 : decode cX12_here 19 = .ok (.iaload, 1) := by decide +kernel
theorem dX12_here_20 : decode cX12_here 20 = .ok (.goto 4, 3) := by decide +kernel
theorem dX12_here_23 : decode cX12_here 23 = .ok (.iconst (-1), 1) := by decide +kernel
theorem dX12_here_24 : decode cX12_here 24 = .ok (.ireturn, 1) := by decide +kernel
theorem dX12_skips_0 : decode cX12_skips 0 = .ok (.aload_n 0, 1) := by decide +kernel
theorem dX12_skips_1 : decode cX12_skips 1 = .ok (.invokevirtual 173, 3) := by decide +kernel
theorem dX12_skips_4 : decode cX12_skips 4 = .ok (.iload_n 1, 1) := by decide +kernel
theorem dX12_skips_5 : decode cX12_skips 5 = .ok (.if_icmp .eq 5, 3) := by decide +kernel
theorem dX12_skips_8 : decode cX12_skips 8 = .ok (.iconst 0, 1) := by decide +kernel
theorem dX12_skips_9 : decode cX12_skips 9 = .ok (.ireturn, 1) := by decide +kernel
theorem dX12_skips_10 : decode cX12_skips 10 = .ok (.aload_n 0, 1) := by decide +kernel
theorem dX12_skips_11 : decode cX12_skips 11 = .ok (.dup, 1) := by decide +kernel
theorem dX12_skips_12 : decode cX12_skips 12 = .ok (.getfield 170, 3) := by decide +kernel
theorem dX12_skips_15 : decode cX12_skips 15 = .ok (.iconst 1, 1) := by decide +kernel
theorem dX12_skips_16 : decode cX12_skips 16 = .ok (.iadd, 1) := by decide +kernel
theorem dX12_skips_17 : decode cX12_skips 17 = .ok (.putfield 170, 3) := by decide +kernel
theorem dX12_skips_20 : decode cX12_skips 20 = .ok (.iconst 1, 1) := by decide +kernel
theorem dX12_skips_21 : decode cX12_skips 21 = .ok (.ireturn, 1) := by decide +kernel
theorem dX12_isWord_0 : decode cX12_isWord 0 = .ok (.aload_n 0, 1) := by decide +kernel
theorem dX12_isWord_1 : decode cX12_isWord 1 = .ok (.getfield 49, 3) := by decide +kernel
theorem dX12_isWord_4 : decode cX12_isWord 4 = .ok (.iconst 5, 1) := by decide +kernel
theorem dX12_isWord_5 : decode cX12_isWord 5 = .ok (.aload_n 0, 1) := by decide +kernel
theorem dX12_isWord_6 : decode cX12_isWord 6 = .ok (.getfield 176, 3) := by decide +kernel
theorem dX12_isWord_9 : decode cX12_isWord 9 = .ok (.imul, 1) := by decide +kernel
theorem dX12_isWord_10 : decode cX12_isWord 10 = .ok (.iload_n 1, 1) := by decide +kernel
theorem dX12_isWord_11 : decode cX12_isWord 11 = .ok (.iastore, 1) := by decide +kernel
theorem dX12_isWord_12 : decode cX12_isWord 12 = .ok (.iconst 0, 1) := by decide +kernel
theorem dX12_isWord_13 : decode cX12_isWord 13 = .ok (.istore_n 3, 1) := by decide +kernel
theorem dX12_isWord_14 : decode cX12_isWord 14 = .ok (.iload_n 3, 1) := by decide +kernel
theorem dX12_isWord_15 : decode cX12_isWord 15 = .ok (.aload_n 2, 1) := by decide +kernel
theorem dX12_isWord_16 : decode cX12_isWord 16 = .ok (.invokevirtual 179, 3) := by decide +kernel
theorem dX12_isWord_19 : decode cX12_isWord 19 = .ok (.if_icmp .ge 23, 3) := by decide +kernel
theorem dX12_isWord_22 : decode cX12_isWord 22 = .ok (.aload_n 0, 1) := by decide +kernel
theorem dX12_isWord_23 : decode cX12_isWord 23 = .ok (.aload_n 2, 1) := by decide +kernel
theorem dX12_isWord_24 : decode cX12_isWord 24 = .ok (.iload_n 3, 1) := by decide +kernel
theorem dX12_isWord_25 : decode cX12_isWord 25 = .ok (.invokevirtual 183, 3) := by decide +kernel
theorem dX12_isWord_28 : decode cX12_isWord 28 = .ok (.invokevirtual 187, 3) := by decide +kernel
theorem dX12_isWord_31 : decode cX12_isWord 31 = .ok (.ifCond .ne 5, 3) := by decide +kernel
theorem dX12_isWord_34 : decode cX12_isWord 34 = .ok (.iconst 0, 1) := by decide +kernel
theorem dX12_isWord_35 : decode cX12_isWord 35 = .ok (.ireturn, 1) := by decide +kernel
theorem dX12_isWord_36 : decode cX12_isWord 36 = .ok (.iinc 3 1, 3) := by decide +kernel
theorem dX12_isWord_39 : decode cX12_isWord 39 = .ok (.goto (-25), 3) := by decide +kernel
theorem dX12_isWord_42 : decode cX12_isWord 42 = .ok (.iconst 1, 1) := by decide +kernel
theorem dX12_isWord_43 : decode cX12_isWord 43 = .ok (.ireturn, 1) := by decide +kernel
theorem dX12_digits_0 : decode cX12_digits 0 = .ok (.aload_n 0, 1) := by decide +kernel
theorem dX12_digits_1 : decode cX12_digits 1 = .ok (.invokevirtual 173, 3) := by decide +kernel
theorem dX12_digits_4 : decode cX12_digits 4 = .ok (.bipush 48, 2) := by decide +kernel
theorem dX12_digits_6 : decode cX12_digits 6 = .ok (.bipush 57, 2) := by decide +kernel
theorem dX12_digits_8 : decode cX12_digits 8 = .ok (.invokestatic 66, 3) := by decide +kernel
theorem dX12_digits_11 : decode cX12_digits 11 = .ok (.ifCond .ne 5, 3) := by decide +kernel
theorem dX12_digits_14 : decode cX12_digits 14 = .ok (.iconst 0, 1) := by decide +kernel
theorem dX12_digits_15 : decode cX12_digits 15 = .ok (.ireturn, 1) := by decide +kernel
theorem dX12_digits_16 : decode cX12_digits 16 = .ok (.aload_n 0, 1) := by decide +kernel
theorem dX12_digits_17 : decode cX12_digits 17 = .ok (.getfield 49, 3) := by decide +kernel
theorem dX12_digits_20 : decode cX12_digits 20 = .ok (.iload_n 1, 1) := by decide +kernel
theorem dX12_digits_21 : decode cX12_digits 21 = .ok (.iconst 0, 1) := by decide +kernel
theorem dX12_digits_22 : decode cX12_digits 22 = .ok (.iastore, 1) := by decide +kernel
theorem dX12_digits_23 : decode cX12_digits 23 = .ok (.iconst 0, 1) := by decide +kernel
theorem dX12_digits_24 : decode cX12_digits 24 = .ok (.istore_n 3, 1) := by decide +kernel
theorem dX12_digits_25 : decode cX12_digits 25 = .ok (.iload_n 3, 1) := by decide +kernel
theorem dX12_digits_26 : decode cX12_digits 26 = .ok (.iload_n 2, 1) := by decide +kernel
theorem dX12_digits_27 : decode cX12_digits 27 = .ok (.if_icmp .ge 56, 3) := by decide +kernel
theorem dX12_digits_30 : decode cX12_digits 30 = .ok (.aload_n 0, 1) := by decide +kernel
theorem dX12_digits_31 : decode cX12_digits 31 = .ok (.invokevirtual 173, 3) := by decide +kernel
theorem dX12_digits_34 : decode cX12_digits 34 = .ok (.bipush 48, 2) := by decide +kernel
theorem dX12_digits_36 : decode cX12_digits 36 = .ok (.bipush 57, 2) := by decide +kernel
theorem dX12_digits_38 : decode cX12_digits 38 = .ok (.invokestatic 66, 3) := by decide +kernel
theorem dX12_digits_41 : decode cX12_digits 41 = .ok (.ifCond .eq 42, 3) := by decide +kernel
theorem dX12_digits_44 : decode cX12_digits 44 = .ok (.aload_n 0, 1) := by decide +kernel
theorem dX12_digits_45 : decode cX12_digits 45 = .ok (.getfield 49, 3) := by decide +kernel
theorem dX12_digits_48 : decode cX12_digits 48 = .ok (.iload_n 1, 1) := by decide +kernel
theorem dX12_digits_49 : decode cX12_digits 49 = .ok (.bipush 10, 2) := by decide +kernel
theorem dX12_digits_51 : decode cX12_digits 51 = .ok (.aload_n 0, 1) := by decide +kernel
theorem dX12_digits_52 : decode cX12_digits 52 = .ok (.getfield 49, 3) := by decide +kernel
theorem dX12_digits_55 : decode cX12_digits 55 = .ok (.iload_n 1, 1) := by decide +kernel
theorem dX12_digits_56 : decode cX12_digits 56 = .ok (.iaload, 1) := by decide +kernel
theorem dX12_digits_57 : decode cX12_digits 57 = .ok (.imul, 1) := by decide +kernel
theorem dX12_digits_58 : decode cX12_digits 58 = .ok (.aload_n 0, 1) := by decide +kernel
theorem dX12_digits_59 : decode cX12_digits 59 = .ok (.invokevirtual 173, 3) := by decide +kernel
theorem dX12_digits_62 : decode cX12_digits 62 = .ok (.iadd, 1) := by decide +kernel
theorem dX12_digits_63 : decode cX12_digits 63 = .ok (.bipush 48, 2) := by decide +kernel
theorem dX12_digits_65 : decode cX12_digits 65 = .ok (.isub, 1) := by decide +kernel
theorem dX12_digits_66 : decode cX12_digits 66 = .ok (.iastore, 1) := by decide +kernel
theorem dX12_digits_67 : decode cX12_digits 67 = .ok (.aload_n 0, 1) := by decide +kernel
theorem dX12_digits_68 : decode cX12_digits 68 = .ok (.dup, 1) := by decide +kernel
theorem dX12_digits_69 : decode cX12_digits 69 = .ok (.getfield 170, 3) := by decide +kernel
theorem dX12_digits_72 : decode cX12_digits 72 = .ok (.iconst 1, 1) := by decide +kernel
theorem dX12_digits_73 : decode cX12_digits 73 = .ok (.iadd, 1) := by decide +kernel
theorem dX12_digits_74 : decode cX12_digits 74 = .ok (.putfield 170, 3) := by decide +kernel
theorem dX12_digits_77 : decode cX12_digits 77 = .ok (.iinc 3 1, 3) := by decide +kernel
theorem dX12_digits_80 : decode cX12_digits 80 = .ok (.goto (-55), 3) := by decide +kernel
theorem dX12_digits_83 : decode cX12_digits 83 = .ok (.iconst 1, 1) := by decide +kernel
theorem dX12_digits_84 : decode cX12_digits 84 = .ok (.ireturn, 1) := by decide +kernel
theorem dX12_figures_0 : decode cX12_figures 0 = .ok (.aload_n 0, 1) := by decide +kernel
theorem dX12_figures_1 : decode cX12_figures 1 = .ok (.bipush 32, 2) := by decide +kernel
theorem dX12_figures_3 : decode cX12_figures 3 = .ok (.invokevirtual 187, 3) := by decide +kernel
theorem dX12_figures_6 : decode cX12_figures 6 = .ok (.ifCond .eq 16, 3) := by decide +kernel
theorem dX12_figures_9 : decode cX12_figures 9 = .ok (.aload_n 0, 1) := by decide +kernel
theorem dX12_figures_10 : decode cX12_figures 10 = .ok (.iload_n 1, 1) := by decide +kernel
theorem dX12_figures_11 : decode cX12_figures 11 = .ok (.iload_n 2, 1) := by decide +kernel
theorem dX12_figures_12 : decode cX12_figures 12 = .ok (.invokevirtual 190, 3) := by decide +kernel
theorem dX12_figures_15 : decode cX12_figures 15 = .ok (.ifCond .eq 7, 3) := by decide +kernel
theorem dX12_figures_18 : decode cX12_figures 18 = .ok (.iconst 1, 1) := by decide +kernel
theorem dX12_figures_19 : decode cX12_figures 19 = .ok (.goto 4, 3) := by decide +kernel
theorem dX12_figures_22 : decode cX12_figures 22 = .ok (.iconst 0, 1) := by decide +kernel
theorem dX12_figures_23 : decode cX12_figures 23 = .ok (.ireturn, 1) := by decide +kernel
theorem dX12_windsHere_0 : decode cX12_windsHere 0 = .ok (.aload_n 0, 1) := by decide +kernel
theorem dX12_windsHere_1 : decode cX12_windsHere 1 = .ok (.getfield 49, 3) := by decide +kernel
theorem dX12_windsHere_4 : decode cX12_windsHere 4 = .ok (.iload_n 1, 1) := by decide +kernel
theorem dX12_windsHere_5 : decode cX12_windsHere 5 = .ok (.iconst 2, 1) := by decide +kernel
theorem dX12_windsHere_6 : decode cX12_windsHere 6 = .ok (.iadd, 1) := by decide +kernel
theorem dX12_windsHere_7 : decode cX12_windsHere 7 = .ok (.aload_n 0, 1) := by decide +kernel
theorem dX12_windsHere_8 : decode cX12_windsHere 8 = .ok (.getfield 170, 3) := by decide +kernel
theorem dX12_windsHere_11 : decode cX12_windsHere 11 = .ok (.iastore, 1) := by decide +kernel
theorem dX12_windsHere_12 : decode cX12_windsHere 12 = .ok (.aload_n 0, 1) := by decide +kernel
theorem dX12_windsHere_13 : decode cX12_windsHere 13 = .ok (.getfield 49, 3) := by decide +kernel
theorem dX12_windsHere_16 : decode cX12_windsHere 16 = .ok (.iload_n 1, 1) := by decide +kernel
theorem dX12_windsHere_17 : decode cX12_windsHere 17 = .ok (.iconst 3, 1) := by decide +kernel
theorem dX12_windsHere_18 : decode cX12_windsHere 18 = .ok (.iadd, 1) := by decide +kernel
theorem dX12_windsHere_19 : decode cX12_windsHere 19 = .ok (.iconst 0, 1) := by decide +kernel
theorem dX12_windsHere_20 : decode cX12_windsHere 20 = .ok (.iastore, 1) := by decide +kernel
theorem dX12_windsHere_21 : decode cX12_windsHere 21 = .ok (.aload_n 0, 1) := by decide +kernel
theorem dX12_windsHere_22 : decode cX12_windsHere 22 = .ok (.bipush 62, 2) := by decide +kernel
theorem dX12_windsHere_24 : decode cX12_windsHere 24 = .ok (.invokevirtual 187, 3) := by decide +kernel
theorem dX12_windsHere_27 : decode cX12_windsHere 27 = .ok (.ifCond .eq 44, 3) := by decide +kernel
theorem dX12_windsHere_30 : decode cX12_windsHere 30 = .ok (.aload_n 0, 1) := by decide +kernel
theorem dX12_windsHere_31 : decode cX12_windsHere 31 = .ok (.invokevirtual 173, 3) := by decide +kernel
theorem dX12_windsHere_34 : decode cX12_windsHere 34 = .ok (.bipush 48, 2) := by decide +kernel
theorem dX12_windsHere_36 : decode cX12_windsHere 36 = .ok (.bipush 57, 2) := by decide +kernel
theorem dX12_windsHere_38 : decode cX12_windsHere 38 = .ok (.invokestatic 66, 3) := by decide +kernel
theorem dX12_windsHere_41 : decode cX12_windsHere 41 = .ok (.ifCond .ne 5, 3) := by decide +kernel
theorem dX12_windsHere_44 : decode cX12_windsHere 44 = .ok (.iconst 0, 1) := by decide +kernel
theorem dX12_windsHere_45 : decode cX12_windsHere 45 = .ok (.ireturn, 1) := by decide +kernel
theorem dX12_windsHere_46 : decode cX12_windsHere 46 = .ok (.aload_n 0, 1) := by decide +kernel
theorem dX12_windsHere_47 : decode cX12_windsHere 47 = .ok (.dup, 1) := by decide +kernel
theorem dX12_windsHere_48 : decode cX12_windsHere 48 = .ok (.getfield 170, 3) := by decide +kernel
theorem dX12_windsHere_51 : decode cX12_windsHere 51 = .ok (.iconst 1, 1) := by decide +kernel
theorem dX12_windsHere_52 : decode cX12_windsHere 52 = .ok (.iadd, 1) := by decide +kernel
theorem dX12_windsHere_53 : decode cX12_windsHere 53 = .ok (.putfield 170, 3) := by decide +kernel
theorem dX12_windsHere_56 : decode cX12_windsHere 56 = .ok (.aload_n 0, 1) := by decide +kernel
theorem dX12_windsHere_57 : decode cX12_windsHere 57 = .ok (.getfield 49, 3) := by decide +kernel
theorem dX12_windsHere_60 : decode cX12_windsHere 60 = .ok (.iload_n 1, 1) := by decide +kernel
theorem dX12_windsHere_61 : decode cX12_windsHere 61 = .ok (.iconst 3, 1) := by decide +kernel
theorem dX12_windsHere_62 : decode cX12_windsHere 62 = .ok (.iadd, 1) := by decide +kernel
theorem dX12_windsHere_63 : decode cX12_windsHere 63 = .ok (.dup2, 1) := by decide +kernel
theorem dX12_windsHere_64 : decode cX12_windsHere 64 = .ok (.iaload, 1) := by decide +kernel
theorem dX12_windsHere_65 : decode cX12_windsHere 65 = .ok (.iconst 1, 1) := by decide +kernel
theorem dX12_windsHere_66 : decode cX12_windsHere 66 = .ok (.iadd, 1) := by decide +kernel
theorem dX12_windsHere_67 : decode cX12_windsHere 67 = .ok (.iastore, 1) := by decide +kernel
theorem dX12_windsHere_68 : decode cX12_windsHere 68 = .ok (.goto (-47), 3) := by decide +kernel
theorem dX12_windsHere_71 : decode cX12_windsHere 71 = .ok (.iconst 1, 1) := by decide +kernel
theorem dX12_windsHere_72 : decode cX12_windsHere 72 = .ok (.ireturn, 1) := by decide +kernel
theorem dX12_withR_0 : decode cX12_withR 0 = .ok (.aload_n 0, 1) := by decide +kernel
theorem dX12_withR_1 : decode cX12_withR 1 = .ok (.bipush 97, 2) := by decide +kernel
theorem dX12_withR_3 : decode cX12_withR 3 = .ok (.invokevirtual 187, 3) := by decide +kernel
theorem dX12_withR_6 : decode cX12_withR 6 = .ok (.ifCond .eq 39, 3) := by decide +kernel
theorem dX12_withR_9 : decode cX12_withR 9 = .ok (.aload_n 0, 1) := by decide +kernel
theorem dX12_withR_10 : decode cX12_withR 10 = .ok (.iconst 3, 1) := by decide +kernel
theorem dX12_withR_11 : decode cX12_withR 11 = .ok (.ldc 193, 2) := by decide +kernel
theorem dX12_withR_13 : decode cX12_withR 13 = .ok (.invokevirtual 195, 3) := by decide +kernel
theorem dX12_withR_16 : decode cX12_withR 16 = .ok (.ifCond .eq 27, 3) := by decide +kernel
theorem dX12_withR_19 : decode cX12_withR 19 = .ok (.aload_n 0, 1) := by decide +kernel
theorem dX12_withR_20 : decode cX12_withR 20 = .ok (.iload_n 1, 1) := by decide +kernel
theorem dX12_withR_21 : decode cX12_withR 21 = .ok (.iconst 2, 1) := by decide +kernel
theorem dX12_withR_22 : decode cX12_withR 22 = .ok (.invokevirtual 199, 3) := by decide +kernel
theorem dX12_withR_25 : decode cX12_withR 25 = .ok (.ifCond .eq 18, 3) := by decide +kernel
theorem dX12_withR_28 : decode cX12_withR 28 = .ok (.aload_n 0, 1) := by decide +kernel
theorem dX12_withR_29 : decode cX12_withR 29 = .ok (.iload_n 1, 1) := by decide +kernel
theorem dX12_withR_30 : decode cX12_withR 30 = .ok (.iconst 1, 1) := by decide +kernel
theorem dX12_withR_31 : decode cX12_withR 31 = .ok (.iadd, 1) := by decide +kernel
theorem dX12_withR_32 : decode cX12_withR 32 = .ok (.iconst 1, 1) := by decide +kernel
theorem dX12_withR_33 : decode cX12_withR 33 = .ok (.invokevirtual 199, 3) := by decide +kernel
theorem dX12_withR_36 : decode cX12_withR 36 = .ok (.ifCond .eq 7, 3) := by decide +kernel
theorem dX12_withR_39 : decode cX12_withR 39 = .ok (.iconst 1, 1) := by decide +kernel
theorem dX12_withR_40 : decode cX12_withR 40 = .ok (.goto 4, 3) := by decide +kernel
theorem dX12_withR_43 : decode cX12_withR 43 = .ok (.iconst 0, 1) := by decide +kernel
theorem dX12_withR_44 : decode cX12_withR 44 = .ok (.ireturn, 1) := by decide +kernel
theorem dX12_withR_45 : decode cX12_withR 45 = .ok (.aload_n 0, 1) := by decide +kernel
theorem dX12_withR_46 : decode cX12_withR 46 = .ok (.bipush 101, 2) := by decide +kernel
theorem dX12_withR_48 : decode cX12_withR 48 = .ok (.invokevirtual 187, 3) := by decide +kernel
theorem dX12_withR_51 : decode cX12_withR 51 = .ok (.ifCond .ne 5, 3) := by decide +kernel
theorem dX12_withR_54 : decode cX12_withR 54 = .ok (.iconst 0, 1) := by decide +kernel
theorem dX12_withR_55 : decode cX12_withR 55 = .ok (.ireturn, 1) := by decide +kernel
theorem dX12_withR_56 : decode cX12_withR 56 = .ok (.aload_n 0, 1) := by decide +kernel
theorem dX12_withR_57 : decode cX12_withR 57 = .ok (.bipush 109, 2) := by decide +kernel
theorem dX12_withR_59 : decode cX12_withR 59 = .ok (.invokevirtual 187, 3) := by decide +kernel
theorem dX12_withR_62 : decode cX12_withR 62 = .ok (.ifCond .eq 28, 3) := by decide +kernel
theorem dX12_withR_65 : decode cX12_withR 65 = .ok (.aload_n 0, 1) := by decide +kernel
theorem dX12_withR_66 : decode cX12_withR 66 = .ok (.iconst 4, 1) := by decide +kernel
theorem dX12_withR_67 : decode cX12_withR 67 = .ok (.ldc 202, 2) := by decide +kernel
theorem dX12_withR_69 : decode cX12_withR 69 = .ok (.invokevirtual 195, 3) := by decide +kernel
theorem dX12_withR_72 : decode cX12_withR 72 = .ok (.ifCond .eq 16, 3) := by decide +kernel
theorem dX12_withR_75 : decode cX12_withR 75 = .ok (.aload_n 0, 1) := by decide +kernel
theorem dX12_withR_76 : decode cX12_withR 76 = .ok (.iload_n 1, 1) := by decide +kernel
theorem dX12_withR_77 : decode cX12_withR 77 = .ok (.iconst 2, 1) := by decide +kernel
theorem dX12_withR_78 : decode cX12_withR 78 = .ok (.invokevirtual 199, 3) := by decide +kernel
theorem dX12_withR_81 : decode cX12_withR 81 = .ok (.ifCond .eq 7, 3) := by decide +kernel
theorem dX12_withR_84 : decode cX12_withR 84 = .ok (.iconst 1, 1) := by decide +kernel
theorem dX12_withR_85 : decode cX12_withR 85 = .ok (.goto 4, 3) := by decide +kernel
theorem dX12_withR_88 : decode cX12_withR 88 = .ok (.iconst 0, 1) := by decide +kernel
theorem dX12_withR_89 : decode cX12_withR 89 = .ok (.ireturn, 1) := by decide +kernel
theorem dX12_withR_90 : decode cX12_withR 90 = .ok (.aload_n 0, 1) := by decide +kernel
theorem dX12_withR_91 : decode cX12_withR 91 = .ok (.bipush 99, 2) := by decide +kernel
theorem dX12_withR_93 : decode cX12_withR 93 = .ok (.invokevirtual 187, 3) := by decide +kernel
theorem dX12_withR_96 : decode cX12_withR 96 = .ok (.ifCond .eq 37, 3) := by decide +kernel
theorem dX12_withR_99 : decode cX12_withR 99 = .ok (.aload_n 0, 1) := by decide +kernel
theorem dX12_withR_100 : decode cX12_withR 100 = .ok (.iconst 5, 1) := by decide +kernel
theorem dX12_withR_101 : decode cX12_withR 101 = .ok (.ldc 204, 2) := by decide +kernel
theorem dX12_withR_103 : decode cX12_withR 103 = .ok (.invokevirtual 195, 3) := by decide +kernel
theorem dX12_withR_106 : decode cX12_withR 106 = .ok (.ifCond .eq 27, 3) := by decide +kernel
theorem dX12_withR_109 : decode cX12_withR 109 = .ok (.aload_n 0, 1) := by decide +kernel
theorem dX12_withR_110 : decode cX12_withR 110 = .ok (.iload_n 1, 1) := by decide +kernel
theorem dX12_withR_111 : decode cX12_withR 111 = .ok (.iconst 2, 1) := by decide +kernel
theorem dX12_withR_112 : decode cX12_withR 112 = .ok (.invokevirtual 199, 3) := by decide +kernel
theorem dX12_withR_115 : decode cX12_withR 115 = .ok (.ifCond .eq 18, 3) := by decide +kernel
theorem dX12_withR_118 : decode cX12_withR 118 = .ok (.aload_n 0, 1) := by decide +kernel
theorem dX12_withR_119 : decode cX12_withR 119 = .ok (.iload_n 1, 1) := by decide +kernel
theorem dX12_withR_120 : decode cX12_withR 120 = .ok (.iconst 1, 1) := by decide +kernel
theorem dX12_withR_121 : decode cX12_withR 121 = .ok (.iadd, 1) := by decide +kernel
theorem dX12_withR_122 : decode cX12_withR 122 = .ok (.iconst 2, 1) := by decide +kernel
theorem dX12_withR_123 : decode cX12_withR 123 = .ok (.invokevirtual 199, 3) := by decide +kernel
