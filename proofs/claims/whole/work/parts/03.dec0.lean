theorem dX1_init_0 : decode cX1_init 0 = .ok (.aload_n 0, 1) := by decide +kernel
theorem dX1_init_1 : decode cX1_init 1 = .ok (.invokespecial 3, 3) := by decide +kernel
theorem dX1_init_4 : decode cX1_init 4 = .ok (.aload_n 0, 1) := by decide +kernel
theorem dX1_init_5 : decode cX1_init 5 = .ok (.iconst 0, 1) := by decide +kernel
theorem dX1_init_6 : decode cX1_init 6 = .ok (.putfield 9, 3) := by decide +kernel
theorem dX1_init_9 : decode cX1_init 9 = .ok (.aload_n 0, 1) := by decide +kernel
theorem dX1_init_10 : decode cX1_init 10 = .ok (.bipush 8, 2) := by decide +kernel
theorem dX1_init_12 : decode cX1_init 12 = .ok (.newarray .boolean, 2) := by decide +kernel
theorem dX1_init_14 : decode cX1_init 14 = .ok (.putfield 15, 3) := by decide +kernel
theorem dX1_init_17 : decode cX1_init 17 = .ok (.aload_n 0, 1) := by decide +kernel
theorem dX1_init_18 : decode cX1_init 18 = .ok (.bipush 8, 2) := by decide +kernel
theorem dX1_init_20 : decode cX1_init 20 = .ok (.newarray .int, 2) := by decide +kernel
theorem dX1_init_22 : decode cX1_init 22 = .ok (.putfield 19, 3) := by decide +kernel
theorem dX1_init_25 : decode cX1_init 25 = .ok (.aload_n 0, 1) := by decide +kernel
theorem dX1_init_26 : decode cX1_init 26 = .ok (.iconst 0, 1) := by decide +kernel
theorem dX1_init_27 : decode cX1_init 27 = .ok (.putfield 23, 3) := by decide +kernel
theorem dX1_init_30 : decode cX1_init 30 = .ok (.aload_n 0, 1) := by decide +kernel
theorem dX1_init_31 : decode cX1_init 31 = .ok (.iconst 0, 1) := by decide +kernel
theorem dX1_init_32 : decode cX1_init 32 = .ok (.putfield 26, 3) := by decide +kernel
theorem dX1_init_35 : decode cX1_init 35 = .ok (.aload_n 0, 1) := by decide +kernel
theorem dX1_init_36 : decode cX1_init 36 = .ok (.bipush 20, 2) := by decide +kernel
theorem dX1_init_38 : decode cX1_init 38 = .ok (.anewarray 29, 3) := by decide +kernel
theorem dX1_init_41 : decode cX1_init 41 = .ok (.putfield 31, 3) := by decide +kernel
theorem dX1_init_44 : decode cX1_init 44 = .ok (.aload_n 0, 1) := by decide +kernel
theorem dX1_init_45 : decode cX1_init 45 = .ok (.iconst 0, 1) := by decide +kernel
theorem dX1_init_46 : decode cX1_init 46 = .ok (.putfield 35, 3) := by decide +kernel
theorem dX1_init_49 : decode cX1_init 49 = .ok (.iconst 0, 1) := by decide +kernel
theorem dX1_init_50 : decode cX1_init 50 = .ok (.istore_n 1, 1) := by decide +kernel
theorem dX1_init_51 : decode cX1_init 51 = .ok (.iload_n 1, 1) := by decide +kernel
theorem dX1_init_52 : decode cX1_init 52 = .ok (.bipush 20, 2) := by decide +kernel
theorem dX1_init_54 : decode cX1_init 54 = .ok (.if_icmp .ge 22, 3) := by decide +kernel
theorem dX1_init_57 : decode cX1_init 57 = .ok (.aload_n 0, 1) := by decide +kernel
theorem dX1_init_58 : decode cX1_init 58 = .ok (.getfield 31, 3) := by decide +kernel
theorem dX1_init_61 : decode cX1_init 61 = .ok (.iload_n 1, 1) := by decide +kernel
theorem dX1_init_62 : decode cX1_init 62 = .ok (.new 29, 3) := by decide +kernel
theorem dX1_init_65 : decode cX1_init 65 = .ok (.dup, 1) := by decide +kernel
theorem dX1_init_66 : decode cX1_init 66 = .ok (.invokespecial 38, 3) := by decide +kernel
theorem dX1_init_69 : decode cX1_init 69 = .ok (.aastore, 1) := by decide +kernel
theorem dX1_init_70 : decode cX1_init 70 = .ok (.iinc 1 1, 3) := by decide +kernel
theorem dX1_init_73 : decode cX1_init 73 = .ok (.goto (-22), 3) := by decide +kernel
theorem dX1_init_76 : decode cX1_init 76 = .ok (.return_, 1) := by decide +kernel
theorem dX1_copyFrom_0 : decode cX1_copyFrom 0 = .ok (.aload_n 0, 1) := by decide +kernel
theorem dX1_copyFrom_1 : decode cX1_copyFrom 1 = .ok (.aload_n 1, 1) := by decide +kernel
theorem dX1_copyFrom_2 : decode cX1_copyFrom 2 = .ok (.getfield 9, 3) := by decide +kernel
theorem dX1_copyFrom_5 : decode cX1_copyFrom 5 = .ok (.putfield 9, 3) := by decide +kernel
theorem dX1_copyFrom_8 : decode cX1_copyFrom 8 = .ok (.iconst 0, 1) := by decide +kernel
theorem dX1_copyFrom_9 : decode cX1_copyFrom 9 = .ok (.istore_n 2, 1) := by decide +kernel
theorem dX1_copyFrom_10 : decode cX1_copyFrom 10 = .ok (.iload_n 2, 1) := by decide +kernel
theorem dX1_copyFrom_11 : decode cX1_copyFrom 11 = .ok (.bipush 8, 2) := by decide +kernel
theorem dX1_copyFrom_13 : decode cX1_copyFrom 13 = .ok (.if_icmp .ge 33, 3) := by decide +kernel
theorem dX1_copyFrom_16 : decode cX1_copyFrom 16 = .ok (.aload_n 0, 1) := by decide +kernel
theorem dX1_copyFrom_17 : decode cX1_copyFrom 17 = .ok (.getfield 15, 3) := by decide +kernel
theorem dX1_copyFrom_20 : decode cX1_copyFrom 20 = .ok (.iload_n 2, 1) := by decide +kernel
theorem dX1_copyFrom_21 : decode cX1_copyFrom 21 = .ok (.aload_n 1, 1) := by decide +kernel
theorem dX1_copyFrom_22 : decode cX1_copyFrom 22 = .ok (.getfield 15, 3) := by decide +kernel
theorem dX1_copyFrom_25 : decode cX1_copyFrom 25 = .ok (.iload_n 2, 1) := by decide +kernel
theorem dX1_copyFrom_26 : decode cX1_copyFrom 26 = .ok (.baload, 1) := by decide +kernel
theorem dX1_copyFrom_27 : decode cX1_copyFrom 27 = .ok (.bastore, 1) := by decide +kernel
theorem dX1_copyFrom_28 : decode cX1_copyFrom 28 = .ok (.aload_n 0, 1) := by decide +kernel
theorem dX1_copyFrom_29 : decode cX1_copyFrom 29 = .ok (.getfield 19, 3) := by decide +kernel
theorem dX1_copyFrom_32 : decode cX1_copyFrom 32 = .ok (.iload_n 2, 1) := by decide +kernel
theorem dX1_copyFrom_33 : decode cX1_copyFrom 33 = .ok (.aload_n 1, 1) := by decide +kernel
theorem dX1_copyFrom_34 : decode cX1_copyFrom 34 = .ok (.getfield 19, 3) := by decide +kernel
theorem dX1_copyFrom_37 : decode cX1_copyFrom 37 = .ok (.iload_n 2, 1) := by decide +kernel
theorem dX1_copyFrom_38 : decode cX1_copyFrom 38 = .ok (.iaload, 1) := by decide +kernel
theorem dX1_copyFrom_39 : decode cX1_copyFrom 39 = .ok (.iastore, 1) := by decide +kernel
theorem dX1_copyFrom_40 : decode cX1_copyFrom 40 = .ok (.iinc 2 1, 3) := by decide +kernel
theorem dX1_copyFrom_43 : decode cX1_copyFrom 43 = .ok (.goto (-33), 3) := by decide +kernel
theorem dX1_copyFrom_46 : decode cX1_copyFrom 46 = .ok (.aload_n 0, 1) := by decide +kernel
theorem dX1_copyFrom_47 : decode cX1_copyFrom 47 = .ok (.aload_n 1, 1) := by decide +kernel
theorem dX1_copyFrom_48 : decode cX1_copyFrom 48 = .ok (.getfield 23, 3) := by decide +kernel
theorem dX1_copyFrom_51 : decode cX1_copyFrom 51 = .ok (.putfield 23, 3) := by decide +kernel
theorem dX1_copyFrom_54 : decode cX1_copyFrom 54 = .ok (.aload_n 0, 1) := by decide +kernel
theorem dX1_copyFrom_55 : decode cX1_copyFrom 55 = .ok (.aload_n 1, 1) := by decide +kernel
theorem dX1_copyFrom_56 : decode cX1_copyFrom 56 = .ok (.getfield 26, 3) := by decide +kernel
theorem dX1_copyFrom_59 : decode cX1_copyFrom 59 = .ok (.putfield 26, 3) := by decide +kernel
theorem dX1_copyFrom_62 : decode cX1_copyFrom 62 = .ok (.iconst 0, 1) := by decide +kernel
theorem dX1_copyFrom_63 : decode cX1_copyFrom 63 = .ok (.istore_n 2, 1) := by decide +kernel
theorem dX1_copyFrom_64 : decode cX1_copyFrom 64 = .ok (.iload_n 2, 1) := by decide +kernel
theorem dX1_copyFrom_65 : decode cX1_copyFrom 65 = .ok (.aload_n 1, 1) := by decide +kernel
theorem dX1_copyFrom_66 : decode cX1_copyFrom 66 = .ok (.getfield 26, 3) := by decide +kernel
theorem dX1_copyFrom_69 : decode cX1_copyFrom 69 = .ok (.if_icmp .ge 24, 3) := by decide +kernel
theorem dX1_copyFrom_72 : decode cX1_copyFrom 72 = .ok (.aload_n 0, 1) := by decide +kernel
theorem dX1_copyFrom_73 : decode cX1_copyFrom 73 = .ok (.getfield 31, 3) := by decide +kernel
theorem dX1_copyFrom_76 : decode cX1_copyFrom 76 = .ok (.iload_n 2, 1) := by decide +kernel
theorem dX1_copyFrom_77 : decode cX1_copyFrom 77 = .ok (.aaload, 1) := by decide +kernel
theorem dX1_copyFrom_78 : decode cX1_copyFrom 78 = .ok (.aload_n 1, 1) := by decide +kernel
theorem dX1_copyFrom_79 : decode cX1_copyFrom 79 = .ok (.getfield 31, 3) := by decide +kernel
theorem dX1_copyFrom_82 : decode cX1_copyFrom 82 = .ok (.iload_n 2, 1) := by decide +kernel
theorem dX1_copyFrom_83 : decode cX1_copyFrom 83 = .ok (.aaload, 1) := by decide +kernel
theorem dX1_copyFrom_84 : decode cX1_copyFrom 84 = .ok (.invokevirtual 39, 3) := by decide +kernel
theorem dX1_copyFrom_87 : decode cX1_copyFrom 87 = .ok (.iinc 2 1, 3) := by decide +kernel
theorem dX1_copyFrom_90 : decode cX1_copyFrom 90 = .ok (.goto (-26), 3) := by decide +kernel
theorem dX1_copyFrom_93 : decode cX1_copyFrom 93 = .ok (.aload_n 0, 1) := by decide +kernel
theorem dX1_copyFrom_94 : decode cX1_copyFrom 94 = .ok (.aload_n 1, 1) := by decide +kernel
theorem dX1_copyFrom_95 : decode cX1_copyFrom 95 = .ok (.getfield 35, 3) := by decide +kernel
theorem dX1_copyFrom_98 : decode cX1_copyFrom 98 = .ok (.putfield 35, 3) := by decide +kernel
theorem dX1_copyFrom_101 : decode cX1_copyFrom 101 = .ok (.return_, 1) := by decide +kernel
theorem dX1_hasWind_0 : decode cX1_hasWind 0 = .ok (.iload_n 1, 1) := by decide +kernel
theorem dX1_hasWind_1 : decode cX1_hasWind 1 = .ok (.ifCond .lt 15, 3) := by decide +kernel
theorem dX1_hasWind_4 : decode cX1_hasWind 4 = .ok (.iload_n 1, 1) := by decide +kernel
theorem dX1_hasWind_5 : decode cX1_hasWind 5 = .ok (.aload_n 0, 1) := by decide +kernel
theorem dX1_hasWind_6 : decode cX1_hasWind 6 = .ok (.getfield 9, 3) := by decide +kernel
theorem dX1_hasWind_9 : decode cX1_hasWind 9 = .ok (.if_icmp .ge 7, 3) := by decide +kernel
theorem dX1_hasWind_12 : decode cX1_hasWind 12 = .ok (.iconst 1, 1) := by decide +kernel
theorem dX1_hasWind_13 : decode cX1_hasWind 13 = .ok (.goto 4, 3) := by decide +kernel
theorem dX1_hasWind_16 : decode cX1_hasWind 16 = .ok (.iconst 0, 1) := by decide +kernel
theorem dX1_hasWind_17 : decode cX1_hasWind 17 = .ok (.ireturn, 1) := by decide +kernel
theorem dX1_hasBallot_0 : decode cX1_hasBallot 0 = .ok (.iload_n 1, 1) := by decide +kernel
theorem dX1_hasBallot_1 : decode cX1_hasBallot 1 = .ok (.ifCond .lt 15, 3) := by decide +kernel
theorem dX1_hasBallot_4 : decode cX1_hasBallot 4 = .ok (.iload_n 1, 1) := by decide +kernel
theorem dX1_hasBallot_5 : decode cX1_hasBallot 5 = .ok (.aload_n 0, 1) := by decide +kernel
theorem dX1_hasBallot_6 : decode cX1_hasBallot 6 = .ok (.getfield 26, 3) := by decide +kernel
theorem dX1_hasBallot_9 : decode cX1_hasBallot 9 = .ok (.if_icmp .ge 7, 3) := by decide +kernel
theorem dX1_hasBallot_12 : decode cX1_hasBallot 12 = .ok (.iconst 1, 1) := by decide +kernel
theorem dX1_hasBallot_13 : decode cX1_hasBallot 13 = .ok (.goto 4, 3) := by decide +kernel
theorem dX1_hasBallot_16 : decode cX1_hasBallot 16 = .ok (.iconst 0, 1) := by decide +kernel
theorem dX1_hasBallot_17 : decode cX1_hasBallot 17 = .ok (.ireturn, 1) := by decide +kernel
theorem dX1_putWind_0 : decode cX1_putWind 0 = .ok (.aload_n 0, 1) := by decide +kernel
theorem dX1_putWind_1 : decode cX1_putWind 1 = .ok (.getfield 9, 3) := by decide +kernel
theorem dX1_putWind_4 : decode cX1_putWind 4 = .ok (.bipush 8, 2) := by decide +kernel
theorem dX1_putWind_6 : decode cX1_putWind 6 = .ok (.if_icmp .lt 7, 3) := by decide +kernel
theorem dX1_putWind_9 : decode cX1_putWind 9 = .ok (.getstatic 43, 3) := by decide +kernel
theorem dX1_putWind_12 : decode cX1_putWind 12 = .ok (.areturn, 1) := by decide +kernel
theorem dX1_putWind_13 : decode cX1_putWind 13 = .ok (.aload_n 0, 1) := by decide +kernel
theorem dX1_putWind_14 : decode cX1_putWind 14 = .ok (.getfield 15, 3) := by decide +kernel
theorem dX1_putWind_17 : decode cX1_putWind 17 = .ok (.aload_n 0, 1) := by decide +kernel
theorem dX1_putWind_18 : decode cX1_putWind 18 = .ok (.getfield 9, 3) := by decide +kernel
theorem dX1_putWind_21 : decode cX1_putWind 21 = .ok (.iconst 1, 1) := by decide +kernel
theorem dX1_putWind_22 : decode cX1_putWind 22 = .ok (.bastore, 1) := by decide +kernel
theorem dX1_putWind_23 : decode cX1_putWind 23 = .ok (.aload_n 0, 1) := by decide +kernel
theorem dX1_putWind_24 : decode cX1_putWind 24 = .ok (.getfield 19, 3) := by decide +kernel
theorem dX1_putWind_27 : decode cX1_putWind 27 = .ok (.aload_n 0, 1) := by decide +kernel
theorem dX1_putWind_28 : decode cX1_putWind 28 = .ok (.getfield 9, 3) := by decide +kernel
theorem dX1_putWind_31 : decode cX1_putWind 31 = .ok (.iconst (-1), 1) := by decide +kernel
theorem dX1_putWind_32 : decode cX1_putWind 32 = .ok (.iastore, 1) := by decide +kernel
theorem dX1_putWind_33 : decode cX1_putWind 33 = .ok (.aload_n 0, 1) := by decide +kernel
theorem dX1_putWind_34 : decode cX1_putWind 34 = .ok (.dup, 1) := by decide +kernel
theorem dX1_putWind_35 : decode cX1_putWind 35 = .ok (.getfield 9, 3) := by decide +kernel
theorem dX1_putWind_38 : decode cX1_putWind 38 = .ok (.iconst 1, 1) := by decide +kernel
theorem dX1_putWind_39 : decode cX1_putWind 39 = .ok (.iadd, 1) := by decide +kernel
theorem dX1_putWind_40 : decode cX1_putWind 40 = .ok (.putfield 9, 3) := by decide +kernel
theorem dX1_putWind_43 : decode cX1_putWind 43 = .ok (.getstatic 49, 3) := by decide +kernel
theorem dX1_putWind_46 : decode cX1_putWind 46 = .ok (.areturn, 1) := by decide +kernel
theorem dX1_letGo_0 : decode cX1_letGo 0 = .ok (.aload_n 0, 1) := by decide +kernel
theorem dX1_letGo_1 : decode cX1_letGo 1 = .ok (.iload_n 1, 1) := by decide +kernel
theorem dX1_letGo_2 : decode cX1_letGo 2 = .ok (.invokevirtual 52, 3) := by decide +kernel
theorem dX1_letGo_5 : decode cX1_letGo 5 = .ok (.ifCond .ne 7, 3) := by decide +kernel
theorem dX1_letGo_8 : decode cX1_letGo 8 = .ok (.getstatic 56, 3) := by decide +kernel
theorem dX1_letGo_11 : decode cX1_letGo 11 = .ok (.areturn, 1) := by decide +kernel
theorem dX1_letGo_12 : decode cX1_letGo 12 = .ok (.aload_n 0, 1) := by decide +kernel
theorem dX1_letGo_13 : decode cX1_letGo 13 = .ok (.getfield 15, 3) := by decide +kernel
theorem dX1_letGo_16 : decode cX1_letGo 16 = .ok (.iload_n 1, 1) := by decide +kernel
theorem dX1_letGo_17 : decode cX1_letGo 17 = .ok (.baload, 1) := by decide +kernel
theorem dX1_letGo_18 : decode cX1_letGo 18 = .ok (.ifCond .ne 7, 3) := by decide +kernel
theorem dX1_letGo_21 : decode cX1_letGo 21 = .ok (.getstatic 59, 3) := by decide +kernel
theorem dX1_letGo_24 : decode cX1_letGo 24 = .ok (.areturn, 1) := by decide +kernel
theorem dX1_letGo_25 : decode cX1_letGo 25 = .ok (.aload_n 0, 1) := by decide +kernel
theorem dX1_letGo_26 : decode cX1_letGo 26 = .ok (.getfield 15, 3) := by decide +kernel
theorem dX1_letGo_29 : decode cX1_letGo 29 = .ok (.iload_n 1, 1) := by decide +kernel
theorem dX1_letGo_30 : decode cX1_letGo 30 = .ok (.iconst 0, 1) := by decide +kernel
theorem dX1_letGo_31 : decode cX1_letGo 31 = .ok (.bastore, 1) := by decide +kernel
theorem dX1_letGo_32 : decode cX1_letGo 32 = .ok (.getstatic 49, 3) := by decide +kernel
theorem dX1_letGo_35 : decode cX1_letGo 35 = .ok (.areturn, 1) := by decide +kernel
theorem dX1_putBallot_0 : decode cX1_putBallot 0 = .ok (.aload_n 0, 1) := by decide +kernel
theorem dX1_putBallot_1 : decode cX1_putBallot 1 = .ok (.iload_n 2, 1) := by decide +kernel
theorem dX1_putBallot_2 : decode cX1_putBallot 2 = .ok (.invokevirtual 52, 3) := by decide +kernel
theorem dX1_putBallot_5 : decode cX1_putBallot 5 = .ok (.ifCond .ne 7, 3) := by decide +kernel
theorem dX1_putBallot_8 : decode cX1_putBallot 8 = .ok (.getstatic 56, 3) := by decide +kernel
theorem dX1_putBallot_11 : decode cX1_putBallot 11 = .ok (.areturn, 1) := by decide +kernel
theorem dX1_putBallot_12 : decode cX1_putBallot 12 = .ok (.iload_n 1, 1) := by decide +kernel
theorem dX1_putBallot_13 : decode cX1_putBallot 13 = .ok (.invokestatic 62, 3) := by decide +kernel
theorem dX1_putBallot_16 : decode cX1_putBallot 16 = .ok (.ifCond .ne 7, 3) := by decide +kernel
theorem dX1_putBallot_19 : decode cX1_putBallot 19 = .ok (.getstatic 65, 3) := by decide +kernel
theorem dX1_putBallot_22 : decode cX1_putBallot 22 = .ok (.areturn, 1) := by decide +kernel
theorem dX1_putBallot_23 : decode cX1_putBallot 23 = .ok (.aload_n 0, 1) := by decide +kernel
theorem dX1_putBallot_24 : decode cX1_putBallot 24 = .ok (.getfield 26, 3) := by decide +kernel
theorem dX1_putBallot_27 : decode cX1_putBallot 27 = .ok (.bipush 20, 2) := by decide +kernel
theorem dX1_putBallot_29 : decode cX1_putBallot 29 = .ok (.if_icmp .lt 7, 3) := by decide +kernel
theorem dX1_putBallot_32 : decode cX1_putBallot 32 = .ok (.getstatic 68, 3) := by decide +kernel
theorem dX1_putBallot_35 : decode cX1_putBallot 35 = .ok (.areturn, 1) := by decide +kernel
theorem dX1_putBallot_36 : decode cX1_putBallot 36 = .ok (.aload_n 0, 1) := by decide +kernel
theorem dX1_putBallot_37 : decode cX1_putBallot 37 = .ok (.getfield 31, 3) := by decide +kernel
theorem dX1_putBallot_40 : decode cX1_putBallot 40 = .ok (.aload_n 0, 1) := by decide +kernel
theorem dX1_putBallot_41 : decode cX1_putBallot 41 = .ok (.getfield 26, 3) := by decide +kernel
theorem dX1_putBallot_44 : decode cX1_putBallot 44 = .ok (.aaload, 1) := by decide +kernel
theorem dX1_putBallot_45 : decode cX1_putBallot 45 = .ok (.iload_n 1, 1) := by decide +kernel
theorem dX1_putBallot_46 : decode cX1_putBallot 46 = .ok (.iload_n 2, 1) := by decide +kernel
theorem dX1_putBallot_47 : decode cX1_putBallot 47 = .ok (.invokevirtual 71, 3) := by decide +kernel
theorem dX1_putBallot_50 : decode cX1_putBallot 50 = .ok (.aload_n 0, 1) := by decide +kernel
theorem dX1_putBallot_51 : decode cX1_putBallot 51 = .ok (.dup, 1) := by decide +kernel
theorem dX1_putBallot_52 : decode cX1_putBallot 52 = .ok (.getfield 26, 3) := by decide +kernel
theorem dX1_putBallot_55 : decode cX1_putBallot 55 = .ok (.iconst 1, 1) := by decide +kernel
theorem dX1_putBallot_56 : decode cX1_putBallot 56 = .ok (.iadd, 1) := by decide +kernel
theorem dX1_putBallot_57 : decode cX1_putBallot 57 = .ok (.putfield 26, 3) := by decide +kernel
theorem dX1_putBallot_60 : decode cX1_putBallot 60 = .ok (.getstatic 49, 3) := by decide +kernel
theorem dX1_putBallot_63 : decode cX1_putBallot 63 = .ok (.areturn, 1) := by decide +kernel
theorem dX1_extendBallot_0 : decode cX1_extendBallot 0 = .ok (.aload_n 0, 1) := by decide +kernel
theorem dX1_extendBallot_1 : decode cX1_extendBallot 1 = .ok (.iload_n 1, 1) := by decide +kernel
theorem dX1_extendBallot_2 : decode cX1_extendBallot 2 = .ok (.invokevirtual 75, 3) := by decide +kernel
theorem dX1_extendBallot_5 : decode cX1_extendBallot 5 = .ok (.ifCond .ne 7, 3) := by decide +kernel
theorem dX1_extendBallot_8 : decode cX1_extendBallot 8 = .ok (.getstatic 78, 3) := by decide +kernel
theorem dX1_extendBallot_11 : decode cX1_extendBallot 11 = .ok (.areturn, 1) := by decide +kernel
theorem dX1_extendBallot_12 : decode cX1_extendBallot 12 = .ok (.aload_n 0, 1) := by decide +kernel
theorem dX1_extendBallot_13 : decode cX1_extendBallot 13 = .ok (.iload_n 2, 1) := by decide +kernel
theorem dX1_extendBallot_14 : decode cX1_extendBallot 14 = .ok (.invokevirtual 52, 3) := by decide +kernel
theorem dX1_extendBallot_17 : decode cX1_extendBallot 17 = .ok (.ifCond .ne 7, 3) := by decide +kernel
theorem dX1_extendBallot_20 : decode cX1_extendBallot 20 = .ok (.getstatic 56, 3) := by decide +kernel
theorem dX1_extendBallot_23 : decode cX1_extendBallot 23 = .ok (.areturn, 1) := by decide +kernel
theorem dX1_extendBallot_24 : decode cX1_extendBallot 24 = .ok (.aload_n 0, 1) := by decide +kernel
theorem dX1_extendBallot_25 : decode cX1_extendBallot 25 = .ok (.getfield 31, 3) := by decide +kernel
theorem dX1_extendBallot_28 : decode cX1_extendBallot 28 = .ok (.iload_n 1, 1) := by decide +kernel
theorem dX1_extendBallot_29 : decode cX1_extendBallot 29 = .ok (.aaload, 1) := by decide +kernel
theorem dX1_extendBallot_30 : decode cX1_extendBallot 30 = .ok (.iload_n 2, 1) := by decide +kernel
theorem dX1_extendBallot_31 : decode cX1_extendBallot 31 = .ok (.invokevirtual 81, 3) := by decide +kernel
theorem dX1_extendBallot_34 : decode cX1_extendBallot 34 = .ok (.iconst (-1), 1) := by decide +kernel
theorem dX1_extendBallot_35 : decode cX1_extendBallot 35 = .ok (.if_icmp .eq 7, 3) := by decide +kernel
theorem dX1_extendBallot_38 : decode cX1_extendBallot 38 = .ok (.getstatic 85, 3) := by decide +kernel
theorem dX1_extendBallot_41 : decode cX1_extendBallot 41 = .ok (.areturn, 1) := by decide +kernel
theorem dX1_extendBallot_42 : decode cX1_extendBallot 42 = .ok (.aload_n 0, 1) := by decide +kernel
theorem dX1_extendBallot_43 : decode cX1_extendBallot 43 = .ok (.getfield 31, 3) := by decide +kernel
theorem dX1_extendBallot_46 : decode cX1_extendBallot 46 = .ok (.iload_n 1, 1) := by decide +kernel
theorem dX1_extendBallot_47 : decode cX1_extendBallot 47 = .ok (.aaload, 1) := by decide +kernel
theorem dX1_extendBallot_48 : decode cX1_extendBallot 48 = .ok (.iload_n 2, 1) := by decide +kernel
theorem dX1_extendBallot_49 : decode cX1_extendBallot 49 = .ok (.invokevirtual 88, 3) := by decide +kernel
theorem dX1_extendBallot_52 : decode cX1_extendBallot 52 = .ok (.ifCond .eq 9, 3) := by decide +kernel
theorem dX1_extendBallot_55 : decode cX1_extendBallot 55 = .ok (.getstatic 49, 3) := by decide +kernel
theorem dX1_extendBallot_58 : decode cX1_extendBallot 58 = .ok (.goto 6, 3) := by decide +kernel
theorem dX1_extendBallot_61 : decode cX1_extendBallot 61 = .ok (.getstatic 91, 3) := by decide +kernel
theorem dX1_extendBallot_64 : decode cX1_extendBallot 64 = .ok (.areturn, 1) := by decide +kernel
theorem dX1_dropBallot_0 : decode cX1_dropBallot 0 = .ok (.aload_n 0, 1) := by decide +kernel
theorem dX1_dropBallot_1 : decode cX1_dropBallot 1 = .ok (.iload_n 1, 1) := by decide +kernel
theorem dX1_dropBallot_2 : decode cX1_dropBallot 2 = .ok (.invokevirtual 75, 3) := by decide +kernel
theorem dX1_dropBallot_5 : decode cX1_dropBallot 5 = .ok (.ifCond .ne 7, 3) := by decide +kernel
theorem dX1_dropBallot_8 : decode cX1_dropBallot 8 = .ok (.getstatic 78, 3) := by decide +kernel
theorem dX1_dropBallot_11 : decode cX1_dropBallot 11 = .ok (.areturn, 1) := by decide +kernel
theorem dX1_dropBallot_12 : decode cX1_dropBallot 12 = .ok (.aload_n 0, 1) := by decide +kernel
theorem dX1_dropBallot_13 : decode cX1_dropBallot 13 = .ok (.getfield 31, 3) := by decide +kernel
theorem dX1_dropBallot_16 : decode cX1_dropBallot 16 = .ok (.iload_n 1, 1) := by decide +kernel
theorem dX1_dropBallot_17 : decode cX1_dropBallot 17 = .ok (.aaload, 1) := by decide +kernel
theorem dX1_dropBallot_18 : decode cX1_dropBallot 18 = .ok (.astore_n 2, 1) := by decide +kernel
theorem dX1_dropBallot_19 : decode cX1_dropBallot 19 = .ok (.iload_n 1, 1) := by decide +kernel
theorem dX1_dropBallot_20 : decode cX1_dropBallot 20 = .ok (.iconst 1, 1) := by decide +kernel
theorem dX1_dropBallot_21 : decode cX1_dropBallot 21 = .ok (.iadd, 1) := by decide +kernel
theorem dX1_dropBallot_22 : decode cX1_dropBallot 22 = .ok (.istore_n 3, 1) := by decide +kernel
theorem dX1_dropBallot_23 : decode cX1_dropBallot 23 = .ok (.iload_n 3, 1) := by decide +kernel
theorem dX1_dropBallot_24 : decode cX1_dropBallot 24 = .ok (.aload_n 0, 1) := by decide +kernel
theorem dX1_dropBallot_25 : decode cX1_dropBallot 25 = .ok (.getfield 26, 3) := by decide +kernel
theorem dX1_dropBallot_28 : decode cX1_dropBallot 28 = .ok (.if_icmp .ge 23, 3) := by decide +kernel
theorem dX1_dropBallot_31 : decode cX1_dropBallot 31 = .ok (.aload_n 0, 1) := by decide +kernel
theorem dX1_dropBallot_32 : decode cX1_dropBallot 32 = .ok (.getfield 31, 3) := by decide +kernel
theorem dX1_dropBallot_35 : decode cX1_dropBallot 35 = .ok (.iload_n 3, 1) := by decide +kernel
theorem dX1_dropBallot_36 : decode cX1_dropBallot 36 = .ok (.iconst 1, 1) := by decide +kernel
theorem dX1_dropBallot_37 : decode cX1_dropBallot 37 = .ok (.isub, 1) := by decide +kernel
theorem dX1_dropBallot_38 : decode cX1_dropBallot 38 = .ok (.aload_n 0, 1) := by decide +kernel
theorem dX1_dropBallot_39 : decode cX1_dropBallot 39 = .ok (.getfield 31, 3) := by decide +kernel
theorem dX1_dropBallot_42 : decode cX1_dropBallot 42 = .ok (.iload_n 3, 1) := by decide +kernel
theorem dX1_dropBallot_43 : decode cX1_dropBallot 43 = .ok (.aaload, 1) := by decide +kernel
theorem dX1_dropBallot_44 : decode cX1_dropBallot 44 = .ok (.aastore, 1) := by decide +kernel
theorem dX1_dropBallot_45 : decode cX1_dropBallot 45 = .ok (.iinc 3 1, 3) := by decide +kernel
theorem dX1_dropBallot_48 : decode cX1_dropBallot 48 = .ok (.goto (-25), 3) := by decide +kernel
theorem dX1_dropBallot_51 : decode cX1_dropBallot 51 = .ok (.aload_n 0, 1) := by decide +kernel
theorem dX1_dropBallot_52 : decode cX1_dropBallot 52 = .ok (.dup, 1) := by decide +kernel
theorem dX1_dropBallot_53 : decode cX1_dropBallot 53 = .ok (.getfield 26, 3) := by decide +kernel
theorem dX1_dropBallot_56 : decode cX1_dropBallot 56 = .ok (.iconst 1, 1) := by decide +kernel
theorem dX1_dropBallot_57 : decode cX1_dropBallot 57 = .ok (.isub, 1) := by decide +kernel
theorem dX1_dropBallot_58 : decode cX1_dropBallot 58 = .ok (.putfield 26, 3) := by decide +kernel
theorem dX1_dropBallot_61 : decode cX1_dropBallot 61 = .ok (.aload_n 0, 1) := by decide +kernel
theorem dX1_dropBallot_62 : decode cX1_dropBallot 62 = .ok (.getfield 31, 3) := by decide +kernel
theorem dX1_dropBallot_65 : decode cX1_dropBallot 65 = .ok (.aload_n 0, 1) := by decide +kernel
theorem dX1_dropBallot_66 : decode cX1_dropBallot 66 = .ok (.getfield 26, 3) := by decide +kernel
theorem dX1_dropBallot_69 : decode cX1_dropBallot 69 = .ok (.aload_n 2, 1) := by decide +kernel
theorem dX1_dropBallot_70 : decode cX1_dropBallot 70 = .ok (.aastore, 1) := by decide +kernel
theorem dX1_dropBallot_71 : decode cX1_dropBallot 71 = .ok (.getstatic 49, 3) := by decide +kernel
theorem dX1_dropBallot_74 : decode cX1_dropBallot 74 = .ok (.areturn, 1) := by decide +kernel
theorem dX1_reweigh_0 : decode cX1_reweigh 0 = .ok (.aload_n 0, 1) := by decide +kernel
theorem dX1_reweigh_1 : decode cX1_reweigh 1 = .ok (.iload_n 1, 1) := by decide +kernel
theorem dX1_reweigh_2 : decode cX1_reweigh 2 = .ok (.invokevirtual 75, 3) := by decide +kernel
theorem dX1_reweigh_5 : decode cX1_reweigh 5 = .ok (.ifCond .ne 7, 3) := by decide +kernel
theorem dX1_reweigh_8 : decode cX1_reweigh 8 = .ok (.getstatic 78, 3) := by decide +kernel
theorem dX1_reweigh_11 : decode cX1_reweigh 11 = .ok (.areturn, 1) := by decide +kernel
theorem dX1_reweigh_12 : decode cX1_reweigh 12 = .ok (.iload_n 2, 1) := by decide +kernel
theorem dX1_reweigh_13 : decode cX1_reweigh 13 = .ok (.invokestatic 62, 3) := by decide +kernel
theorem dX1_reweigh_16 : decode cX1_reweigh 16 = .ok (.ifCond .ne 7, 3) := by decide +kernel
theorem dX1_reweigh_19 : decode cX1_reweigh 19 = .ok (.getstatic 65, 3) := by decide +kernel
theorem dX1_reweigh_22 : decode cX1_reweigh 22 = .ok (.areturn, 1) := by decide +kernel
theorem dX1_reweigh_23 : decode cX1_reweigh 23 = .ok (.aload_n 0, 1) := by decide +kernel
theorem dX1_reweigh_24 : decode cX1_reweigh 24 = .ok (.getfield 31, 3) := by decide +kernel
theorem dX1_reweigh_27 : decode cX1_reweigh 27 = .ok (.iload_n 1, 1) := by decide +kernel
theorem dX1_reweigh_28 : decode cX1_reweigh 28 = .ok (.aaload, 1) := by decide +kernel
theorem dX1_reweigh_29 : decode cX1_reweigh 29 = .ok (.iload_n 2, 1) := by decide +kernel
theorem dX1_reweigh_30 : decode cX1_reweigh 30 = .ok (.putfield 94, 3) := by decide +kernel
theorem dX1_reweigh_33 : decode cX1_reweigh 33 = .ok (.getstatic 49, 3) := by decide +kernel
theorem dX1_reweigh_36 : decode cX1_reweigh 36 = .ok (.areturn, 1) := by decide +kernel
theorem dX1_turnSpinner_0 : decode cX1_turnSpinner 0 = .ok (.aload_n 0, 1) := by decide +kernel
theorem dX1_turnSpinner_1 : decode cX1_turnSpinner 1 = .ok (.aload_n 0, 1) := by decide +kernel
theorem dX1_turnSpinner_2 : decode cX1_turnSpinner 2 = .ok (.getfield 35, 3) := by decide +kernel
theorem dX1_turnSpinner_5 : decode cX1_turnSpinner 5 = .ok (.invokestatic 97, 3) := by decide +kernel
theorem dX1_turnSpinner_8 : decode cX1_turnSpinner 8 = .ok (.putfield 35, 3) := by decide +kernel
theorem dX1_turnSpinner_11 : decode cX1_turnSpinner 11 = .ok (.getstatic 49, 3) := by decide +kernel
theorem dX1_turnSpinner_14 : decode cX1_turnSpinner 14 = .ok (.areturn, 1) := by decide +kernel
theorem dX1_giveSeat_0 : decode cX1_giveSeat 0 = .ok (.aload_n 0, 1) := by decide +kernel
theorem dX1_giveSeat_1 : decode cX1_giveSeat 1 = .ok (.getfield 15, 3) := by decide +kernel
theorem dX1_giveSeat_4 : decode cX1_giveSeat 4 = .ok (.iload_n 1, 1) := by decide +kernel
theorem dX1_giveSeat_5 : decode cX1_giveSeat 5 = .ok (.iconst 0, 1) := by decide +kernel
theorem dX1_giveSeat_6 : decode cX1_giveSeat 6 = .ok (.bastore, 1) := by decide +kernel
theorem dX1_giveSeat_7 : decode cX1_giveSeat 7 = .ok (.aload_n 0, 1) := by decide +kernel
theorem dX1_giveSeat_8 : decode cX1_giveSeat 8 = .ok (.getfield 19, 3) := by decide +kernel
theorem dX1_giveSeat_11 : decode cX1_giveSeat 11 = .ok (.iload_n 1, 1) := by decide +kernel
theorem dX1_giveSeat_12 : decode cX1_giveSeat 12 = .ok (.aload_n 0, 1) := by decide +kernel
theorem dX1_giveSeat_13 : decode cX1_giveSeat 13 = .ok (.getfield 23, 3) := by decide +kernel
theorem dX1_giveSeat_16 : decode cX1_giveSeat 16 = .ok (.iastore, 1) := by decide +kernel
theorem dX1_giveSeat_17 : decode cX1_giveSeat 17 = .ok (.aload_n 0, 1) := by decide +kernel
theorem dX1_giveSeat_18 : decode cX1_giveSeat 18 = .ok (.dup, 1) := by decide +kernel
theorem dX1_giveSeat_19 : decode cX1_giveSeat 19 = .ok (.getfield 23, 3) := by decide +kernel
theorem dX1_giveSeat_22 : decode cX1_giveSeat 22 = .ok (.iconst 1, 1) := by decide +kernel
theorem dX1_giveSeat_23 : decode cX1_giveSeat 23 = .ok (.iadd, 1) := by decide +kernel
theorem dX1_giveSeat_24 : decode cX1_giveSeat 24 = .ok (.putfield 23, 3) := by decide +kernel
theorem dX1_giveSeat_27 : decode cX1_giveSeat 27 = .ok (.return_, 1) := by decide +kernel
theorem dX1_isWeight_0 : decode cX1_isWeight 0 = .ok (.iload_n 0, 1) := by decide +kernel
theorem dX1_isWeight_1 : decode cX1_isWeight 1 = .ok (.iconst 1, 1) := by decide +kernel
theorem dX1_isWeight_2 : decode cX1_isWeight 2 = .ok (.if_icmp .lt 13, 3) := by decide +kernel
theorem dX1_isWeight_5 : decode cX1_isWeight 5 = .ok (.iload_n 0, 1) := by decide +kernel
theorem dX1_isWeight_6 : decode cX1_isWeight 6 = .ok (.bipush 99, 2) := by decide +kernel
theorem dX1_isWeight_8 : decode cX1_isWeight 8 = .ok (.if_icmp .gt 7, 3) := by decide +kernel
theorem dX1_isWeight_11 : decode cX1_isWeight 11 = .ok (.iconst 1, 1) := by decide +kernel
theorem dX1_isWeight_12 : decode cX1_isWeight 12 = .ok (.goto 4, 3) := by decide +kernel
theorem dX1_isWeight_15 : decode cX1_isWeight 15 = .ok (.iconst 0, 1) := by decide +kernel
theorem dX1_isWeight_16 : decode cX1_isWeight 16 = .ok (.ireturn, 1) := by decide +kernel
theorem dX1_standingWinds_0 : decode cX1_standingWinds 0 = .ok (.iconst 0, 1) := by decide +kernel
theorem dX1_standingWinds_1 : decode cX1_standingWinds 1 = .ok (.istore_n 1, 1) := by decide +kernel
theorem dX1_standingWinds_2 : decode cX1_standingWinds 2 = .ok (.iconst 0, 1) := by decide +kernel
theorem dX1_standingWinds_3 : decode cX1_standingWinds 3 = .ok (.istore_n 2, 1) := by decide +kernel
theorem dX1_standingWinds_4 : decode cX1_standingWinds 4 = .ok (.iload_n 2, 1) := by decide +kernel
theorem dX1_standingWinds_5 : decode cX1_standingWinds 5 = .ok (.aload_n 0, 1) := by decide +kernel
theorem dX1_standingWinds_6 : decode cX1_standingWinds 6 = .ok (.getfield 9, 3) := by decide +kernel
theorem dX1_standingWinds_9 : decode cX1_standingWinds 9 = .ok (.if_icmp .ge 21, 3) := by decide +kernel
theorem dX1_standingWinds_12 : decode cX1_standingWinds 12 = .ok (.aload_n 0, 1) := by decide +kernel
theorem dX1_standingWinds_13 : decode cX1_standingWinds 13 = .ok (.getfield 15, 3) := by decide +kernel
theorem dX1_standingWinds_16 : decode cX1_standingWinds 16 = .ok (.iload_n 2, 1) := by decide +kernel
theorem dX1_standingWinds_17 : decode cX1_standingWinds 17 = .ok (.baload, 1) := by decide +kernel
theorem dX1_standingWinds_18 : decode cX1_standingWinds 18 = .ok (.ifCond .eq 6, 3) := by decide +kernel
theorem dX1_standingWinds_21 : decode cX1_standingWinds 21 = .ok (.iinc 1 1, 3) := by decide +kernel
theorem dX1_standingWinds_24 : decode cX1_standingWinds 24 = .ok (.iinc 2 1, 3) := by decide +kernel
theorem dX1_standingWinds_27 : decode cX1_standingWinds 27 = .ok (.goto (-23), 3) := by decide +kernel
theorem dX1_standingWinds_30 : decode cX1_standingWinds 30 = .ok (.iload_n 1, 1) := by decide +kernel
theorem dX1_standingWinds_31 : decode cX1_standingWinds 31 = .ok (.ireturn, 1) := by decide +kernel
theorem dX1_windInSeat_0 : decode cX1_windInSeat 0 = .ok (.iconst 0, 1) := by decide +kernel
theorem dX1_windInSeat_1 : decode cX1_windInSeat 1 = .ok (.istore_n 2, 1) := by decide +kernel
theorem dX1_windInSeat_2 : decode cX1_windInSeat 2 = .ok (.iload_n 2, 1) := by decide +kernel
theorem dX1_windInSeat_3 : decode cX1_windInSeat 3 = .ok (.aload_n 0, 1) := by decide +kernel
theorem dX1_windInSeat_4 : decode cX1_windInSeat 4 = .ok (.getfield 9, 3) := by decide +kernel
theorem dX1_windInSeat_7 : decode cX1_windInSeat 7 = .ok (.if_icmp .ge 31, 3) := by decide +kernel
theorem dX1_windInSeat_10 : decode cX1_windInSeat 10 = .ok (.aload_n 0, 1) := by decide +kernel
theorem dX1_windInSeat_11 : decode cX1_windInSeat 11 = .ok (.getfield 19, 3) := by decide +kernel
theorem dX1_windInSeat_14 : decode cX1_windInSeat 14 = .ok (.iload_n 2, 1) := by decide +kernel
theorem dX1_windInSeat_15 : decode cX1_windInSeat 15 = .ok (.iaload, 1) := by decide +kernel
theorem dX1_windInSeat_16 : decode cX1_windInSeat 16 = .ok (.iconst (-1), 1) := by decide +kernel
theorem dX1_windInSeat_17 : decode cX1_windInSeat 17 = .ok (.if_icmp .eq 15, 3) := by decide +kernel
theorem dX1_windInSeat_20 : decode cX1_windInSeat 20 = .ok (.aload_n 0, 1) := by decide +kernel
theorem dX1_windInSeat_21 : decode cX1_windInSeat 21 = .ok (.getfield 19, 3) := by decide +kernel
theorem dX1_windInSeat_24 : decode cX1_windInSeat 24 = .ok (.iload_n 2, 1) := by decide +kernel
theorem dX1_windInSeat_25 : decode cX1_windInSeat 25 = .ok (.iaload, 1) := by decide +kernel
theorem dX1_windInSeat_26 : decode cX1_windInSeat 26 = .ok (.iload_n 1, 1) := by decide +kernel
theorem dX1_windInSeat_27 : decode cX1_windInSeat 27 = .ok (.if_icmp .ne 5, 3) := by decide +kernel
theorem dX1_windInSeat_30 : decode cX1_windInSeat 30 = .ok (.iload_n 2, 1) := by decide +kernel
theorem dX1_windInSeat_31 : decode cX1_windInSeat 31 = .ok (.ireturn, 1) := by decide +kernel
theorem dX1_windInSeat_32 : decode cX1_windInSeat 32 = .ok (.iinc 2 1, 3) := by decide +kernel
theorem dX1_windInSeat_35 : decode cX1_windInSeat 35 = .ok (.goto (-33), 3) := by decide +kernel
theorem dX1_windInSeat_38 : decode cX1_windInSeat 38 = .ok (.iconst (-1), 1) := by decide +kernel
theorem dX1_windInSeat_39 : decode cX1_windInSeat 39 = .ok (.ireturn, 1) := by decide +kernel
theorem dX1_weightOfAll_0 : decode cX1_weightOfAll 0 = .ok (.iconst 0, 1) := by decide +kernel
theorem dX1_weightOfAll_1 : decode cX1_weightOfAll 1 = .ok (.istore_n 1, 1) := by decide +kernel
theorem dX1_weightOfAll_2 : decode cX1_weightOfAll 2 = .ok (.iconst 0, 1) := by decide +kernel
theorem dX1_weightOfAll_3 : decode cX1_weightOfAll 3 = .ok (.istore_n 2, 1) := by decide +kernel
theorem dX1_weightOfAll_4 : decode cX1_weightOfAll 4 = .ok (.iload_n 2, 1) := by decide +kernel
theorem dX1_weightOfAll_5 : decode cX1_weightOfAll 5 = .ok (.aload_n 0, 1) := by decide +kernel
theorem dX1_weightOfAll_6 : decode cX1_weightOfAll 6 = .ok (.getfield 26, 3) := by decide +kernel
theorem dX1_weightOfAll_9 : decode cX1_weightOfAll 9 = .ok (.if_icmp .ge 21, 3) := by decide +kernel
theorem dX1_weightOfAll_12 : decode cX1_weightOfAll 12 = .ok (.iload_n 1, 1) := by decide +kernel
theorem dX1_weightOfAll_13 : decode cX1_weightOfAll 13 = .ok (.aload_n 0, 1) := by decide +kernel
theorem dX1_weightOfAll_14 : decode cX1_weightOfAll 14 = .ok (.getfield 31, 3) := by decide +kernel
theorem dX1_weightOfAll_17 : decode cX1_weightOfAll 17 = .ok (.iload_n 2, 1) := by decide +kernel
theorem dX1_weightOfAll_18 : decode cX1_weightOfAll 18 = .ok (.aaload, 1) := by decide +kernel
theorem dX1_weightOfAll_19 : decode cX1_weightOfAll 19 = .ok (.getfield 94, 3) := by decide +kernel
theorem dX1_weightOfAll_22 : decode cX1_weightOfAll 22 = .ok (.iadd, 1) := by decide +kernel
theorem dX1_weightOfAll_23 : decode cX1_weightOfAll 23 = .ok (.istore_n 1, 1) := by decide +kernel
theorem dX1_weightOfAll_24 : decode cX1_weightOfAll 24 = .ok (.iinc 2 1, 3) := by decide +kernel
theorem dX1_weightOfAll_27 : decode cX1_weightOfAll 27 = .ok (.goto (-23), 3) := by decide +kernel
theorem dX1_weightOfAll_30 : decode cX1_weightOfAll 30 = .ok (.iload_n 1, 1) := by decide +kernel
theorem dX1_weightOfAll_31 : decode cX1_weightOfAll 31 = .ok (.ireturn, 1) := by decide +kernel
theorem dX1_ranksOfAll_0 : decode cX1_ranksOfAll 0 = .ok (.iconst 0, 1) := by decide +kernel
theorem dX1_ranksOfAll_1 : decode cX1_ranksOfAll 1 = .ok (.istore_n 1, 1) := by decide +kernel
theorem dX1_ranksOfAll_2 : decode cX1_ranksOfAll 2 = .ok (.iconst 0, 1) := by decide +kernel
theorem dX1_ranksOfAll_3 : decode cX1_ranksOfAll 3 = .ok (.istore_n 2, 1) := by decide +kernel
theorem dX1_ranksOfAll_4 : decode cX1_ranksOfAll 4 = .ok (.iload_n 2, 1) := by decide +kernel
theorem dX1_ranksOfAll_5 : decode cX1_ranksOfAll 5 = .ok (.aload_n 0, 1) := by decide +kernel
theorem dX1_ranksOfAll_6 : decode cX1_ranksOfAll 6 = .ok (.getfield 26, 3) := by decide +kernel
theorem dX1_ranksOfAll_9 : decode cX1_ranksOfAll 9 = .ok (.if_icmp .ge 21, 3) := by decide +kernel
theorem dX1_ranksOfAll_12 : decode cX1_ranksOfAll 12 = .ok (.iload_n 1, 1) := by decide +kernel
theorem dX1_ranksOfAll_13 : decode cX1_ranksOfAll 13 = .ok (.aload_n 0, 1) := by decide +kernel
theorem dX1_ranksOfAll_14 : decode cX1_ranksOfAll 14 = .ok (.getfield 31, 3) := by decide +kernel
theorem dX1_ranksOfAll_17 : decode cX1_ranksOfAll 17 = .ok (.iload_n 2, 1) := by decide +kernel
theorem dX1_ranksOfAll_18 : decode cX1_ranksOfAll 18 = .ok (.aaload, 1) := by decide +kernel
theorem dX1_ranksOfAll_19 : decode cX1_ranksOfAll 19 = .ok (.getfield 100, 3) := by decide +kernel
theorem dX1_ranksOfAll_22 : decode cX1_ranksOfAll 22 = .ok (.iadd, 1) := by decide +kernel
theorem dX1_ranksOfAll_23 : decode cX1_ranksOfAll 23 = .ok (.istore_n 1, 1) := by decide +kernel
theorem dX1_ranksOfAll_24 : decode cX1_ranksOfAll 24 = .ok (.iinc 2 1, 3) := by decide +kernel
theorem dX1_ranksOfAll_27 : decode cX1_ranksOfAll 27 = .ok (.goto (-23), 3) := by decide +kernel
theorem dX1_ranksOfAll_30 : decode cX1_ranksOfAll 30 = .ok (.iload_n 1, 1) := by decide +kernel
theorem dX1_ranksOfAll_31 : decode cX1_ranksOfAll 31 = .ok (.ireturn, 1) := by decide +kernel
theorem dX1_weightPreferring_0 : decode cX1_weightPreferring 0 = .ok (.iconst 0, 1) := by decide +kernel
theorem dX1_weightPreferring_1 : decode cX1_weightPreferring 1 = .ok (.istore_n 3, 1) := by decide +kernel
theorem dX1_weightPreferring_2 : decode cX1_weightPreferring 2 = .ok (.iconst 0, 1) := by decide +kernel
theorem dX1_weightPreferring_3 : decode cX1_weightPreferring 3 = .ok (.istore 4, 2) := by decide +kernel
theorem dX1_weightPreferring_5 : decode cX1_weightPreferring 5 = .ok (.iload 4, 2) := by decide +kernel
theorem dX1_weightPreferring_7 : decode cX1_weightPreferring 7 = .ok (.aload_n 0, 1) := by decide +kernel
theorem dX1_weightPreferring_8 : decode cX1_weightPreferring 8 = .ok (.getfield 26, 3) := by decide +kernel
theorem dX1_weightPreferring_11 : decode cX1_weightPreferring 11 = .ok (.if_icmp .ge 37, 3) := by decide +kernel
theorem dX1_weightPreferring_14 : decode cX1_weightPreferring 14 = .ok (.aload_n 0, 1) := by decide +kernel
theorem dX1_weightPreferring_15 : decode cX1_weightPreferring 15 = .ok (.getfield 31, 3) := by decide +kernel
theorem dX1_weightPreferring_18 : decode cX1_weightPreferring 18 = .ok (.iload 4, 2) := by decide +kernel
theorem dX1_weightPreferring_20 : decode cX1_weightPreferring 20 = .ok (.aaload, 1) := by decide +kernel
theorem dX1_weightPreferring_21 : decode cX1_weightPreferring 21 = .ok (.iload_n 1, 1) := by decide +kernel
theorem dX1_weightPreferring_22 : decode cX1_weightPreferring 22 = .ok (.iload_n 2, 1) := by decide +kernel
theorem dX1_weightPreferring_23 : decode cX1_weightPreferring 23 = .ok (.invokevirtual 103, 3) := by decide +kernel
theorem dX1_weightPreferring_26 : decode cX1_weightPreferring 26 = .ok (.ifCond .eq 16, 3) := by decide +kernel
theorem dX1_weightPreferring_29 : decode cX1_weightPreferring 29 = .ok (.iload_n 3, 1) := by decide +kernel
theorem dX1_weightPreferring_30 : decode cX1_weightPreferring 30 = .ok (.aload_n 0, 1) := by decide +kernel
theorem dX1_weightPreferring_31 : decode cX1_weightPreferring 31 = .ok (.getfield 31, 3) := by decide +kernel
theorem dX1_weightPreferring_34 : decode cX1_weightPreferring 34 = .ok (.iload 4, 2) := by decide +kernel
theorem dX1_weightPreferring_36 : decode cX1_weightPreferring 36 = .ok (.aaload, 1) := by decide +kernel
theorem dX1_weightPreferring_37 : decode cX1_weightPreferring 37 = .ok (.getfield 94, 3) := by decide +kernel
theorem dX1_weightPreferring_40 : decode cX1_weightPreferring 40 = .ok (.iadd, 1) := by decide +kernel
theorem dX1_weightPreferring_41 : decode cX1_weightPreferring 41 = .ok (.istore_n 3, 1) := by decide +kernel
theorem dX1_weightPreferring_42 : decode cX1_weightPreferring 42 = .ok (.iinc 4 1, 3) := by decide +kernel
theorem dX1_weightPreferring_45 : decode cX1_weightPreferring 45 = .ok (.goto (-40), 3) := by decide +kernel
theorem dX1_weightPreferring_48 : decode cX1_weightPreferring 48 = .ok (.iload_n 3, 1) := by decide +kernel
theorem dX1_weightPreferring_49 : decode cX1_weightPreferring 49 = .ok (.ireturn, 1) := by decide +kernel
theorem dX1_isStronger_0 : decode cX1_isStronger 0 = .ok (.aload_n 0, 1) := by decide +kernel
theorem dX1_isStronger_1 : decode cX1_isStronger 1 = .ok (.iload_n 1, 1) := by decide +kernel
theorem dX1_isStronger_2 : decode cX1_isStronger 2 = .ok (.iload_n 2, 1) := by decide +kernel
theorem dX1_isStronger_3 : decode cX1_isStronger 3 = .ok (.invokevirtual 107, 3) := by decide +kernel
theorem dX1_isStronger_6 : decode cX1_isStronger 6 = .ok (.aload_n 0, 1) := by decide +kernel
theorem dX1_isStronger_7 : decode cX1_isStronger 7 = .ok (.iload_n 2, 1) := by decide +kernel
theorem dX1_isStronger_8 : decode cX1_isStronger 8 = .ok (.iload_n 1, 1) := by decide +kernel
theorem dX1_isStronger_9 : decode cX1_isStronger 9 = .ok (.invokevirtual 107, 3) := by decide +kernel
theorem dX1_isStronger_12 : decode cX1_isStronger 12 = .ok (.if_icmp .le 7, 3) := by decide +kernel
theorem dX1_isStronger_15 : decode cX1_isStronger 15 = .ok (.iconst 1, 1) := by decide +kernel
theorem dX1_isStronger_16 : decode cX1_isStronger 16 = .ok (.goto 4, 3) := by decide +kernel
theorem dX1_isStronger_19 : decode cX1_isStronger 19 = .ok (.iconst 0, 1) := by decide +kernel
theorem dX1_isStronger_20 : decode cX1_isStronger 20 = .ok (.ireturn, 1) := by decide +kernel
theorem dX1_standingWindsBeatenBy_0 : decode cX1_standingWindsBeatenBy 0 = .ok (.iconst 0, 1) := by decide +kernel
theorem dX1_standingWindsBeatenBy_1 : decode cX1_standingWindsBeatenBy 1 = .ok (.istore_n 2, 1) := by decide +kernel
theorem dX1_standingWindsBeatenBy_2 : decode cX1_standingWindsBeatenBy 2 = .ok (.iconst 0, 1) := by decide +kernel
theorem dX1_standingWindsBeatenBy_3 : decode cX1_standingWindsBeatenBy 3 = .ok (.istore_n 3, 1) := by decide +kernel
theorem dX1_standingWindsBeatenBy_4 : decode cX1_standingWindsBeatenBy 4 = .ok (.iload_n 3, 1) := by decide +kernel
theorem dX1_standingWindsBeatenBy_5 : decode cX1_standingWindsBeatenBy 5 = .ok (.aload_n 0, 1) := by decide +kernel
theorem dX1_standingWindsBeatenBy_6 : decode cX1_standingWindsBeatenBy 6 = .ok (.getfield 9, 3) := by decide +kernel
theorem dX1_standingWindsBeatenBy_9 : decode cX1_standingWindsBeatenBy 9 = .ok (.if_icmp .ge 30, 3) := by decide +kernel
theorem dX1_standingWindsBeatenBy_12 : decode cX1_standingWindsBeatenBy 12 = .ok (.aload_n 0, 1) := by decide +kernel
theorem dX1_standingWindsBeatenBy_13 : decode cX1_standingWindsBeatenBy 13 = .ok (.getfield 15, 3) := by decide +kernel
theorem dX1_standingWindsBeatenBy_16 : decode cX1_standingWindsBeatenBy 16 = .ok (.iload_n 3, 1) := by decide +kernel
theorem dX1_standingWindsBeatenBy_17 : decode cX1_standingWindsBeatenBy 17 = .ok (.baload, 1) := by decide +kernel
theorem dX1_standingWindsBeatenBy_18 : decode cX1_standingWindsBeatenBy 18 = .ok (.ifCond .eq 15, 3) := by decide +kernel
theorem dX1_standingWindsBeatenBy_21 : decode cX1_standingWindsBeatenBy 21 = .ok (.aload_n 0, 1) := by decide +kernel
theorem dX1_standingWindsBeatenBy_22 : decode cX1_standingWindsBeatenBy 22 = .ok (.iload_n 1, 1) := by decide +kernel
theorem dX1_standingWindsBeatenBy_23 : decode cX1_standingWindsBeatenBy 23 = .ok (.iload_n 3, 1) := by decide +kernel
theorem dX1_standingWindsBeatenBy_24 : decode cX1_standingWindsBeatenBy 24 = .ok (.invokevirtual 111, 3) := by decide +kernel
theorem dX1_standingWindsBeatenBy_27 : decode cX1_standingWindsBeatenBy 27 = .ok (.ifCond .eq 6, 3) := by decide +kernel
theorem dX1_standingWindsBeatenBy_30 : decode cX1_standingWindsBeatenBy 30 = .ok (.iinc 2 1, 3) := by decide +kernel
theorem dX1_standingWindsBeatenBy_33 : decode cX1_standingWindsBeatenBy 33 = .ok (.iinc 3 1, 3) := by decide +kernel
theorem dX1_standingWindsBeatenBy_36 : decode cX1_standingWindsBeatenBy 36 = .ok (.goto (-32), 3) := by decide +kernel
theorem dX1_standingWindsBeatenBy_39 : decode cX1_standingWindsBeatenBy 39 = .ok (.iload_n 2, 1) := by decide +kernel
theorem dX1_standingWindsBeatenBy_40 : decode cX1_standingWindsBeatenBy 40 = .ok (.ireturn, 1) := by decide +kernel
theorem dX1_championAmongPairs_0 : decode cX1_championAmongPairs 0 = .ok (.aload_n 0, 1) := by decide +kernel
theorem dX1_championAmongPairs_1 : decode cX1_championAmongPairs 1 = .ok (.invokevirtual 114, 3) := by decide +kernel
theorem dX1_championAmongPairs_4 : decode cX1_championAmongPairs 4 = .ok (.iconst 1, 1) := by decide +kernel
theorem dX1_championAmongPairs_5 : decode cX1_championAmongPairs 5 = .ok (.isub, 1) := by decide +kernel
theorem dX1_championAmongPairs_6 : decode cX1_championAmongPairs 6 = .ok (.istore_n 1, 1) := by decide +kernel
theorem dX1_championAmongPairs_7 : decode cX1_championAmongPairs 7 = .ok (.iconst 0, 1) := by decide +kernel
theorem dX1_championAmongPairs_8 : decode cX1_championAmongPairs 8 = .ok (.istore_n 2, 1) := by decide +kernel
theorem dX1_championAmongPairs_9 : decode cX1_championAmongPairs 9 = .ok (.iload_n 2, 1) := by decide +kernel
theorem dX1_championAmongPairs_10 : decode cX1_championAmongPairs 10 = .ok (.aload_n 0, 1) := by decide +kernel
theorem dX1_championAmongPairs_11 : decode cX1_championAmongPairs 11 = .ok (.getfield 9, 3) := by decide +kernel
theorem dX1_championAmongPairs_14 : decode cX1_championAmongPairs 14 = .ok (.if_icmp .ge 29, 3) := by decide +kernel
theorem dX1_championAmongPairs_17 : decode cX1_championAmongPairs 17 = .ok (.aload_n 0, 1) := by decide +kernel
theorem dX1_championAmongPairs_18 : decode cX1_championAmongPairs 18 = .ok (.getfield 15, 3) := by decide +kernel
theorem dX1_championAmongPairs_21 : decode cX1_championAmongPairs 21 = .ok (.iload_n 2, 1) := by decide +kernel
theorem dX1_championAmongPairs_22 : decode cX1_championAmongPairs 22 = .ok (.baload, 1) := by decide +kernel
theorem dX1_championAmongPairs_23 : decode cX1_championAmongPairs 23 = .ok (.ifCond .eq 14, 3) := by decide +kernel
theorem dX1_championAmongPairs_26 : decode cX1_championAmongPairs 26 = .ok (.aload_n 0, 1) := by decide +kernel
theorem dX1_championAmongPairs_27 : decode cX1_championAmongPairs 27 = .ok (.iload_n 2, 1) := by decide +kernel
theorem dX1_championAmongPairs_28 : decode cX1_championAmongPairs 28 = .ok (.invokevirtual 118, 3) := by decide +kernel
theorem dX1_championAmongPairs_31 : decode cX1_championAmongPairs 31 = .ok (.iload_n 1, 1) := by decide +kernel
theorem dX1_championAmongPairs_32 : decode cX1_championAmongPairs 32 = .ok (.if_icmp .ne 5, 3) := by decide +kernel
theorem dX1_championAmongPairs_35 : decode cX1_championAmongPairs 35 = .ok (.iload_n 2, 1) := by decide +kernel
theorem dX1_championAmongPairs_36 : decode cX1_championAmongPairs 36 = .ok (.ireturn, 1) := by decide +kernel
theorem dX1_championAmongPairs_37 : decode cX1_championAmongPairs 37 = .ok (.iinc 2 1, 3) := by decide +kernel
theorem dX1_championAmongPairs_40 : decode cX1_championAmongPairs 40 = .ok (.goto (-31), 3) := by decide +kernel
theorem dX1_championAmongPairs_43 : decode cX1_championAmongPairs 43 = .ok (.iconst (-1), 1) := by decide +kernel
theorem dX1_championAmongPairs_44 : decode cX1_championAmongPairs 44 = .ok (.ireturn, 1) := by decide +kernel
theorem dX1_championAfterDuels_0 : decode cX1_championAfterDuels 0 = .ok (.iconst (-1), 1) := by decide +kernel
theorem dX1_championAfterDuels_1 : decode cX1_championAfterDuels 1 = .ok (.istore_n 1, 1) := by decide +kernel
theorem dX1_championAfterDuels_2 : decode cX1_championAfterDuels 2 = .ok (.iconst 0, 1) := by decide +kernel
theorem dX1_championAfterDuels_3 : decode cX1_championAfterDuels 3 = .ok (.istore_n 2, 1) := by decide +kernel
theorem dX1_championAfterDuels_4 : decode cX1_championAfterDuels 4 = .ok (.iload_n 2, 1) := by decide +kernel
theorem dX1_championAfterDuels_5 : decode cX1_championAfterDuels 5 = .ok (.aload_n 0, 1) := by decide +kernel
theorem dX1_championAfterDuels_6 : decode cX1_championAfterDuels 6 = .ok (.getfield 9, 3) := by decide +kernel
theorem dX1_championAfterDuels_9 : decode cX1_championAfterDuels 9 = .ok (.if_icmp .ge 34, 3) := by decide +kernel
theorem dX1_championAfterDuels_12 : decode cX1_championAfterDuels 12 = .ok (.aload_n 0, 1) := by decide +kernel
theorem dX1_championAfterDuels_13 : decode cX1_championAfterDuels 13 = .ok (.getfield 15, 3) := by decide +kernel
theorem dX1_championAfterDuels_16 : decode cX1_championAfterDuels 16 = .ok (.iload_n 2, 1) := by decide +kernel
theorem dX1_championAfterDuels_17 : decode cX1_championAfterDuels 17 = .ok (.baload, 1) := by decide +kernel
theorem dX1_championAfterDuels_18 : decode cX1_championAfterDuels 18 = .ok (.ifCond .eq 19, 3) := by decide +kernel
theorem dX1_championAfterDuels_21 : decode cX1_championAfterDuels 21 = .ok (.iload_n 1, 1) := by decide +kernel
theorem dX1_championAfterDuels_22 : decode cX1_championAfterDuels 22 = .ok (.iconst (-1), 1) := by decide +kernel
theorem dX1_championAfterDuels_23 : decode cX1_championAfterDuels 23 = .ok (.if_icmp .eq 12, 3) := by decide +kernel
theorem dX1_championAfterDuels_26 : decode cX1_championAfterDuels 26 = .ok (.aload_n 0, 1) := by decide +kernel
theorem dX1_championAfterDuels_27 : decode cX1_championAfterDuels 27 = .ok (.iload_n 2, 1) := by decide +kernel
theorem dX1_championAfterDuels_28 : decode cX1_championAfterDuels 28 = .ok (.iload_n 1, 1) := by decide +kernel
theorem dX1_championAfterDuels_29 : decode cX1_championAfterDuels 29 = .ok (.invokevirtual 111, 3) := by decide +kernel
theorem dX1_championAfterDuels_32 : decode cX1_championAfterDuels 32 = .ok (.ifCond .eq 5, 3) := by decide +kernel
theorem dX1_championAfterDuels_35 : decode cX1_championAfterDuels 35 = .ok (.iload_n 2, 1) := by decide +kernel
theorem dX1_championAfterDuels_36 : decode cX1_championAfterDuels 36 = .ok (.istore_n 1, 1) := by decide +kernel
theorem dX1_championAfterDuels_37 : decode cX1_championAfterDuels 37 = .ok (.iinc 2 1, 3) := by decide +kernel
theorem dX1_championAfterDuels_40 : decode cX1_championAfterDuels 40 = .ok (.goto (-36), 3) := by decide +kernel
theorem dX1_championAfterDuels_43 : decode cX1_championAfterDuels 43 = .ok (.iload_n 1, 1) := by decide +kernel
theorem dX1_championAfterDuels_44 : decode cX1_championAfterDuels 44 = .ok (.iconst (-1), 1) := by decide +kernel
theorem dX1_championAfterDuels_45 : decode cX1_championAfterDuels 45 = .ok (.if_icmp .eq 17, 3) := by decide +kernel
theorem dX1_championAfterDuels_48 : decode cX1_championAfterDuels 48 = .ok (.aload_n 0, 1) := by decide +kernel
theorem dX1_championAfterDuels_49 : decode cX1_championAfterDuels 49 = .ok (.iload_n 1, 1) := by decide +kernel
theorem dX1_championAfterDuels_50 : decode cX1_championAfterDuels 50 = .ok (.invokevirtual 118, 3) := by decide +kernel
theorem dX1_championAfterDuels_53 : decode cX1_championAfterDuels 53 = .ok (.aload_n 0, 1) := by decide +kernel
theorem dX1_championAfterDuels_54 : decode cX1_championAfterDuels 54 = .ok (.invokevirtual 114, 3) := by decide +kernel
theorem dX1_championAfterDuels_57 : decode cX1_championAfterDuels 57 = .ok (.iconst 1, 1) := by decide +kernel
theorem dX1_championAfterDuels_58 : decode cX1_championAfterDuels 58 = .ok (.isub, 1) := by decide +kernel
theorem dX1_championAfterDuels_59 : decode cX1_championAfterDuels 59 = .ok (.if_icmp .eq 5, 3) := by decide +kernel
theorem dX1_championAfterDuels_62 : decode cX1_championAfterDuels 62 = .ok (.iconst (-1), 1) := by decide +kernel
theorem dX1_championAfterDuels_63 : decode cX1_championAfterDuels 63 = .ok (.ireturn, 1) := by decide +kernel
theorem dX1_championAfterDuels_64 : decode cX1_championAfterDuels 64 = .ok (.iload_n 1, 1) := by decide +kernel
theorem dX1_championAfterDuels_65 : decode cX1_championAfterDuels 65 = .ok (.ireturn, 1) := by decide +kernel
theorem dX1_scoreFor_0 : decode cX1_scoreFor 0 = .ok (.iconst 0, 1) := by decide +kernel
theorem dX1_scoreFor_1 : decode cX1_scoreFor 1 = .ok (.istore_n 2, 1) := by decide +kernel
theorem dX1_scoreFor_2 : decode cX1_scoreFor 2 = .ok (.iconst 0, 1) := by decide +kernel
theorem dX1_scoreFor_3 : decode cX1_scoreFor 3 = .ok (.istore_n 3, 1) := by decide +kernel
theorem dX1_scoreFor_4 : decode cX1_scoreFor 4 = .ok (.iload_n 3, 1) := by decide +kernel
theorem dX1_scoreFor_5 : decode cX1_scoreFor 5 = .ok (.aload_n 0, 1) := by decide +kernel
theorem dX1_scoreFor_6 : decode cX1_scoreFor 6 = .ok (.getfield 26, 3) := by decide +kernel
theorem dX1_scoreFor_9 : decode cX1_scoreFor 9 = .ok (.if_icmp .ge 44, 3) := by decide +kernel
theorem dX1_scoreFor_12 : decode cX1_scoreFor 12 = .ok (.aload_n 0, 1) := by decide +kernel
theorem dX1_scoreFor_13 : decode cX1_scoreFor 13 = .ok (.getfield 31, 3) := by decide +kernel
theorem dX1_scoreFor_16 : decode cX1_scoreFor 16 = .ok (.iload_n 3, 1) := by decide +kernel
theorem dX1_scoreFor_17 : decode cX1_scoreFor 17 = .ok (.aaload, 1) := by decide +kernel
theorem dX1_scoreFor_18 : decode cX1_scoreFor 18 = .ok (.iload_n 1, 1) := by decide +kernel
theorem dX1_scoreFor_19 : decode cX1_scoreFor 19 = .ok (.invokevirtual 81, 3) := by decide +kernel
theorem dX1_scoreFor_22 : decode cX1_scoreFor 22 = .ok (.istore 4, 2) := by decide +kernel
theorem dX1_scoreFor_24 : decode cX1_scoreFor 24 = .ok (.iload 4, 2) := by decide +kernel
theorem dX1_scoreFor_26 : decode cX1_scoreFor 26 = .ok (.iconst (-1), 1) := by decide +kernel
theorem dX1_scoreFor_27 : decode cX1_scoreFor 27 = .ok (.if_icmp .eq 20, 3) := by decide +kernel
theorem dX1_scoreFor_30 : decode cX1_scoreFor 30 = .ok (.iload_n 2, 1) := by decide +kernel
theorem dX1_scoreFor_31 : decode cX1_scoreFor 31 = .ok (.aload_n 0, 1) := by decide +kernel
theorem dX1_scoreFor_32 : decode cX1_scoreFor 32 = .ok (.getfield 31, 3) := by decide +kernel
theorem dX1_scoreFor_35 : decode cX1_scoreFor 35 = .ok (.iload_n 3, 1) := by decide +kernel
theorem dX1_scoreFor_36 : decode cX1_scoreFor 36 = .ok (.aaload, 1) := by decide +kernel
theorem dX1_scoreFor_37 : decode cX1_scoreFor 37 = .ok (.getfield 94, 3) := by decide +kernel
theorem dX1_scoreFor_40 : decode cX1_scoreFor 40 = .ok (.iconst 5, 1) := by decide +kernel
theorem dX1_scoreFor_41 : decode cX1_scoreFor 41 = .ok (.iload 4, 2) := by decide +kernel
theorem dX1_scoreFor_43 : decode cX1_scoreFor 43 = .ok (.isub, 1) := by decide +kernel
theorem dX1_scoreFor_44 : decode cX1_scoreFor 44 = .ok (.imul, 1) := by decide +kernel
theorem dX1_scoreFor_45 : decode cX1_scoreFor 45 = .ok (.iadd, 1) := by decide +kernel
theorem dX1_scoreFor_46 : decode cX1_scoreFor 46 = .ok (.istore_n 2, 1) := by decide +kernel
theorem dX1_scoreFor_47 : decode cX1_scoreFor 47 = .ok (.iinc 3 1, 3) := by decide +kernel
theorem dX1_scoreFor_50 : decode cX1_scoreFor 50 = .ok (.goto (-46), 3) := by decide +kernel
theorem dX1_scoreFor_53 : decode cX1_scoreFor 53 = .ok (.iload_n 2, 1) := by decide +kernel
theorem dX1_scoreFor_54 : decode cX1_scoreFor 54 = .ok (.ireturn, 1) := by decide +kernel
theorem dX2_init_0 : decode cX2_init 0 = .ok (.aload_n 0, 1) := by decide +kernel
theorem dX2_init_1 : decode cX2_init 1 = .ok (.invokespecial 3, 3) := by decide +kernel
theorem dX2_init_4 : decode cX2_init 4 = .ok (.aload_n 0, 1) := by decide +kernel
theorem dX2_init_5 : decode cX2_init 5 = .ok (.iconst 5, 1) := by decide +kernel
theorem dX2_init_6 : decode cX2_init 6 = .ok (.newarray .int, 2) := by decide +kernel
theorem dX2_init_8 : decode cX2_init 8 = .ok (.putfield 9, 3) := by decide +kernel
theorem dX2_init_11 : decode cX2_init 11 = .ok (.return_, 1) := by decide +kernel
theorem dX2_start_0 : decode cX2_start 0 = .ok (.aload_n 0, 1) := by decide +kernel
theorem dX2_start_1 : decode cX2_start 1 = .ok (.iload_n 1, 1) := by decide +kernel
theorem dX2_start_2 : decode cX2_start 2 = .ok (.putfield 15, 3) := by decide +kernel
theorem dX2_start_5 : decode cX2_start 5 = .ok (.aload_n 0, 1) := by decide +kernel
theorem dX2_start_6 : decode cX2_start 6 = .ok (.iconst 1, 1) := by decide +kernel
theorem dX2_start_7 : decode cX2_start 7 = .ok (.putfield 19, 3) := by decide +kernel
theorem dX2_start_10 : decode cX2_start 10 = .ok (.aload_n 0, 1) := by decide +kernel
theorem dX2_start_11 : decode cX2_start 11 = .ok (.getfield 9, 3) := by decide +kernel
theorem dX2_start_14 : decode cX2_start 14 = .ok (.iconst 0, 1) := by decide +kernel
theorem dX2_start_15 : decode cX2_start 15 = .ok (.iload_n 2, 1) := by decide +kernel
theorem dX2_start_16 : decode cX2_start 16 = .ok (.iastore, 1) := by decide +kernel
theorem dX2_start_17 : decode cX2_start 17 = .ok (.return_, 1) := by decide +kernel
theorem dX2_append_0 : decode cX2_append 0 = .ok (.aload_n 0, 1) := by decide +kernel
theorem dX2_append_1 : decode cX2_append 1 = .ok (.getfield 19, 3) := by decide +kernel
theorem dX2_append_4 : decode cX2_append 4 = .ok (.iconst 5, 1) := by decide +kernel
theorem dX2_append_5 : decode cX2_append 5 = .ok (.if_icmp .lt 5, 3) := by decide +kernel
theorem dX2_append_8 : decode cX2_append 8 = .ok (.iconst 0, 1) := by decide +kernel
theorem dX2_append_9 : decode cX2_append 9 = .ok (.ireturn, 1) := by decide +kernel
theorem dX2_append_10 : decode cX2_append 10 = .ok (.aload_n 0, 1) := by decide +kernel
theorem dX2_append_11 : decode cX2_append 11 = .ok (.getfield 9, 3) := by decide +kernel
theorem dX2_append_14 : decode cX2_append 14 = .ok (.aload_n 0, 1) := by decide +kernel
theorem dX2_append_15 : decode cX2_append 15 = .ok (.getfield 19, 3) := by decide +kernel
theorem dX2_append_18 : decode cX2_append 18 = .ok (.iload_n 1, 1) := by decide +kernel
theorem dX2_append_19 : decode cX2_append 19 = .ok (.iastore, 1) := by decide +kernel
theorem dX2_append_20 : decode cX2_append 20 = .ok (.aload_n 0, 1) := by decide +kernel
theorem dX2_append_21 : decode cX2_append 21 = .ok (.dup, 1) := by decide +kernel
theorem dX2_append_22 : decode cX2_append 22 = .ok (.getfield 19, 3) := by decide +kernel
theorem dX2_append_25 : decode cX2_append 25 = .ok (.iconst 1, 1) := by decide +kernel
theorem dX2_append_26 : decode cX2_append 26 = .ok (.iadd, 1) := by decide +kernel
theorem dX2_append_27 : decode cX2_append 27 = .ok (.putfield 19, 3) := by decide +kernel
theorem dX2_append_30 : decode cX2_append 30 = .ok (.iconst 1, 1) := by decide +kernel
theorem dX2_append_31 : decode cX2_append 31 = .ok (.ireturn, 1) := by decide +kernel
theorem dX2_placeOf_0 : decode cX2_placeOf 0 = .ok (.iconst 0, 1) := by decide +kernel
theorem dX2_placeOf_1 : decode cX2_placeOf 1 = .ok (.istore_n 2, 1) := by decide +kernel
theorem dX2_placeOf_2 : decode cX2_placeOf 2 = .ok (.iload_n 2, 1) := by decide +kernel
theorem dX2_placeOf_3 : decode cX2_placeOf 3 = .ok (.aload_n 0, 1) := by decide +kernel
theorem dX2_placeOf_4 : decode cX2_placeOf 4 = .ok (.getfield 19, 3) := by decide +kernel
theorem dX2_placeOf_7 : decode cX2_placeOf 7 = .ok (.if_icmp .ge 21, 3) := by decide +kernel
theorem dX2_placeOf_10 : decode cX2_placeOf 10 = .ok (.aload_n 0, 1) := by decide +kernel
theorem dX2_placeOf_11 : decode cX2_placeOf 11 = .ok (.getfield 9, 3) := by decide +kernel
theorem dX2_placeOf_14 : decode cX2_placeOf 14 = .ok (.iload_n 2, 1) := by decide +kernel
theorem dX2_placeOf_15 : decode cX2_placeOf 15 = .ok (.iaload, 1) := by decide +kernel
theorem dX2_placeOf_16 : decode cX2_placeOf 16 = .ok (.iload_n 1, 1) := by decide +kernel
theorem dX2_placeOf_17 : decode cX2_placeOf 17 = .ok (.if_icmp .ne 5, 3) := by decide +kernel
theorem dX2_placeOf_20 : decode cX2_placeOf 20 = .ok (.iload_n 2, 1) := by decide +kernel
theorem dX2_placeOf_21 : decode cX2_placeOf 21 = .ok (.ireturn, 1) := by decide +kernel
theorem dX2_placeOf_22 : decode cX2_placeOf 22 = .ok (.iinc 2 1, 3) := by decide +kernel
theorem dX2_placeOf_25 : decode cX2_placeOf 25 = .ok (.goto (-23), 3) := by decide +kernel
theorem dX2_placeOf_28 : decode cX2_placeOf 28 = .ok (.iconst (-1), 1) := by decide +kernel
theorem dX2_placeOf_29 : decode cX2_placeOf 29 = .ok (.ireturn, 1) := by decide +kernel
theorem dX2_prefers_0 : decode cX2_prefers 0 = .ok (.aload_n 0, 1) := by decide +kernel
theorem dX2_prefers_1 : decode cX2_prefers 1 = .ok (.iload_n 1, 1) := by decide +kernel
theorem dX2_prefers_2 : decode cX2_prefers 2 = .ok (.invokevirtual 22, 3) := by decide +kernel
theorem dX2_prefers_5 : decode cX2_prefers 5 = .ok (.istore_n 3, 1) := by decide +kernel
theorem dX2_prefers_6 : decode cX2_prefers 6 = .ok (.aload_n 0, 1) := by decide +kernel
theorem dX2_prefers_7 : decode cX2_prefers 7 = .ok (.iload_n 2, 1) := by decide +kernel
theorem dX2_prefers_8 : decode cX2_prefers 8 = .ok (.invokevirtual 22, 3) := by decide +kernel
theorem dX2_prefers_11 : decode cX2_prefers 11 = .ok (.istore 4, 2) := by decide +kernel
theorem dX2_prefers_13 : decode cX2_prefers 13 = .ok (.iload_n 3, 1) := by decide +kernel
theorem dX2_prefers_14 : decode cX2_prefers 14 = .ok (.iconst (-1), 1) := by decide +kernel
theorem dX2_prefers_15 : decode cX2_prefers 15 = .ok (.if_icmp .eq 19, 3) := by decide +kernel
theorem dX2_prefers_18 : decode cX2_prefers 18 = .ok (.iload 4, 2) := by decide +kernel
theorem dX2_prefers_20 : decode cX2_prefers 20 = .ok (.iconst (-1), 1) := by decide +kernel
theorem dX2_prefers_21 : decode cX2_prefers 21 = .ok (.if_icmp .eq 9, 3) := by decide +kernel
theorem dX2_prefers_24 : decode cX2_prefers 24 = .ok (.iload_n 3, 1) := by decide +kernel
theorem dX2_prefers_25 : decode cX2_prefers 25 = .ok (.iload 4, 2) := by decide +kernel
theorem dX2_prefers_27 : decode cX2_prefers 27 = .ok (.if_icmp .ge 7, 3) := by decide +kernel
theorem dX2_prefers_30 : decode cX2_prefers 30 = .ok (.iconst 1, 1) := by decide +kernel
theorem dX2_prefers_31 : decode cX2_prefers 31 = .ok (.goto 4, 3) := by decide +kernel
theorem dX2_prefers_34 : decode cX2_prefers 34 = .ok (.iconst 0, 1) := by decide +kernel
theorem dX2_prefers_35 : decode cX2_prefers 35 = .ok (.ireturn, 1) := by decide +kernel
theorem dX2_copyFrom_0 : decode cX2_copyFrom 0 = .ok (.aload_n 0, 1) := by decide +kernel
theorem dX2_copyFrom_1 : decode cX2_copyFrom 1 = .ok (.aload_n 1, 1) := by decide +kernel
theorem dX2_copyFrom_2 : decode cX2_copyFrom 2 = .ok (.getfield 15, 3) := by decide +kernel
theorem dX2_copyFrom_5 : decode cX2_copyFrom 5 = .ok (.putfield 15, 3) := by decide +kernel
theorem dX2_copyFrom_8 : decode cX2_copyFrom 8 = .ok (.aload_n 0, 1) := by decide +kernel
theorem dX2_copyFrom_9 : decode cX2_copyFrom 9 = .ok (.aload_n 1, 1) := by decide +kernel
theorem dX2_copyFrom_10 : decode cX2_copyFrom 10 = .ok (.getfield 19, 3) := by decide +kernel
theorem dX2_copyFrom_13 : decode cX2_copyFrom 13 = .ok (.putfield 19, 3) := by decide +kernel
theorem dX2_copyFrom_16 : decode cX2_copyFrom 16 = .ok (.aload_n 1, 1) := by decide +kernel
theorem dX2_copyFrom_17 : decode cX2_copyFrom 17 = .ok (.getfield 9, 3) := by decide +kernel
theorem dX2_copyFrom_20 : decode cX2_copyFrom 20 = .ok (.iconst 0, 1) := by decide +kernel
theorem dX2_copyFrom_21 : decode cX2_copyFrom 21 = .ok (.aload_n 0, 1) := by decide +kernel
theorem dX2_copyFrom_22 : decode cX2_copyFrom 22 = .ok (.getfield 9, 3) := by decide +kernel
theorem dX2_copyFrom_25 : decode cX2_copyFrom 25 = .ok (.iconst 0, 1) := by decide +kernel
theorem dX2_copyFrom_26 : decode cX2_copyFrom 26 = .ok (.iconst 5, 1) := by decide +kernel
theorem dX2_copyFrom_27 : decode cX2_copyFrom 27 = .ok (.invokestatic 26, 3) := by decide +kernel
theorem dX2_copyFrom_30 : decode cX2_copyFrom 30 = .ok (.return_, 1) := by decide +kernel
theorem dX3_init_0 : decode cX3_init 0 = .ok (.aload_n 0, 1) := by decide +kernel
theorem dX3_init_1 : decode cX3_init 1 = .ok (.invokespecial 3, 3) := by decide +kernel
theorem dX3_init_4 : decode cX3_init 4 = .ok (.aload_n 0, 1) := by decide +kernel
theorem dX3_init_5 : decode cX3_init 5 = .ok (.bipush 8, 2) := by decide +kernel
theorem dX3_init_7 : decode cX3_init 7 = .ok (.anewarray 9, 3) := by decide +kernel
theorem dX3_init_10 : decode cX3_init 10 = .ok (.putfield 11, 3) := by decide +kernel
theorem dX3_init_13 : decode cX3_init 13 = .ok (.aload_n 0, 1) := by decide +kernel
theorem dX3_init_14 : decode cX3_init 14 = .ok (.iconst 0, 1) := by decide +kernel
theorem dX3_init_15 : decode cX3_init 15 = .ok (.putfield 17, 3) := by decide +kernel
theorem dX3_init_18 : decode cX3_init 18 = .ok (.aload_n 0, 1) := by decide +kernel
theorem dX3_init_19 : decode cX3_init 19 = .ok (.iconst (-1), 1) := by decide +kernel
theorem dX3_init_20 : decode cX3_init 20 = .ok (.putfield 21, 3) := by decide +kernel
theorem dX3_init_23 : decode cX3_init 23 = .ok (.aload_n 0, 1) := by decide +kernel
theorem dX3_init_24 : decode cX3_init 24 = .ok (.iconst 0, 1) := by decide +kernel
theorem dX3_init_25 : decode cX3_init 25 = .ok (.putfield 24, 3) := by decide +kernel
theorem dX3_init_28 : decode cX3_init 28 = .ok (.iconst 0, 1) := by decide +kernel
theorem dX3_init_29 : decode cX3_init 29 = .ok (.istore_n 1, 1) := by decide +kernel
theorem dX3_init_30 : decode cX3_init 30 = .ok (.iload_n 1, 1) := by decide +kernel
theorem dX3_init_31 : decode cX3_init 31 = .ok (.bipush 8, 2) := by decide +kernel
theorem dX3_init_33 : decode cX3_init 33 = .ok (.if_icmp .ge 22, 3) := by decide +kernel
theorem dX3_init_36 : decode cX3_init 36 = .ok (.aload_n 0, 1) := by decide +kernel
theorem dX3_init_37 : decode cX3_init 37 = .ok (.getfield 11, 3) := by decide +kernel
theorem dX3_init_40 : decode cX3_init 40 = .ok (.iload_n 1, 1) := by decide +kernel
theorem dX3_init_41 : decode cX3_init 41 = .ok (.new 9, 3) := by decide +kernel
theorem dX3_init_44 : decode cX3_init 44 = .ok (.dup, 1) := by decide +kernel
theorem dX3_init_45 : decode cX3_init 45 = .ok (.invokespecial 27, 3) := by decide +kernel
theorem dX3_init_48 : decode cX3_init 48 = .ok (.aastore, 1) := by decide +kernel
theorem dX3_init_49 : decode cX3_init 49 = .ok (.iinc 1 1, 3) := by decide +kernel
theorem dX3_init_52 : decode cX3_init 52 = .ok (.goto (-22), 3) := by decide +kernel
theorem dX3_init_55 : decode cX3_init 55 = .ok (.return_, 1) := by decide +kernel
theorem dX3_take_0 : decode cX3_take 0 = .ok (.aload_n 0, 1) := by decide +kernel
theorem dX3_take_1 : decode cX3_take 1 = .ok (.iconst 0, 1) := by decide +kernel
theorem dX3_take_2 : decode cX3_take 2 = .ok (.putfield 17, 3) := by decide +kernel
theorem dX3_take_5 : decode cX3_take 5 = .ok (.aload_n 0, 1) := by decide +kernel
theorem dX3_take_6 : decode cX3_take 6 = .ok (.iconst (-1), 1) := by decide +kernel
theorem dX3_take_7 : decode cX3_take 7 = .ok (.putfield 21, 3) := by decide +kernel
theorem dX3_take_10 : decode cX3_take 10 = .ok (.aload_n 0, 1) := by decide +kernel
theorem dX3_take_11 : decode cX3_take 11 = .ok (.aload_n 1, 1) := by decide +kernel
theorem dX3_take_12 : decode cX3_take 12 = .ok (.getfield 28, 3) := by decide +kernel
theorem dX3_take_15 : decode cX3_take 15 = .ok (.putfield 24, 3) := by decide +kernel
theorem dX3_take_18 : decode cX3_take 18 = .ok (.aload_n 1, 1) := by decide +kernel
theorem dX3_take_19 : decode cX3_take 19 = .ok (.invokevirtual 31, 3) := by decide +kernel
theorem dX3_take_22 : decode cX3_take 22 = .ok (.ifCond .ne 4, 3) := by decide +kernel
theorem dX3_take_25 : decode cX3_take 25 = .ok (.return_, 1) := by decide +kernel
theorem dX3_take_26 : decode cX3_take 26 = .ok (.aload_n 0, 1) := by decide +kernel
theorem dX3_take_27 : decode cX3_take 27 = .ok (.getfield 11, 3) := by decide +kernel
theorem dX3_take_30 : decode cX3_take 30 = .ok (.iconst 0, 1) := by decide +kernel
theorem dX3_take_31 : decode cX3_take 31 = .ok (.aaload, 1) := by decide +kernel
theorem dX3_take_32 : decode cX3_take 32 = .ok (.aload_n 1, 1) := by decide +kernel
theorem dX3_take_33 : decode cX3_take 33 = .ok (.invokevirtual 35, 3) := by decide +kernel
theorem dX3_take_36 : decode cX3_take 36 = .ok (.iconst 0, 1) := by decide +kernel
theorem dX3_take_37 : decode cX3_take 37 = .ok (.istore_n 2, 1) := by decide +kernel
theorem dX3_take_38 : decode cX3_take 38 = .ok (.iload_n 2, 1) := by decide +kernel
theorem dX3_take_39 : decode cX3_take 39 = .ok (.bipush 8, 2) := by decide +kernel
theorem dX3_take_41 : decode cX3_take 41 = .ok (.if_icmp .ge 97, 3) := by decide +kernel
theorem dX3_take_44 : decode cX3_take 44 = .ok (.aload_n 0, 1) := by decide +kernel
theorem dX3_take_45 : decode cX3_take 45 = .ok (.getfield 21, 3) := by decide +kernel
theorem dX3_take_48 : decode cX3_take 48 = .ok (.iconst (-1), 1) := by decide +kernel
theorem dX3_take_49 : decode cX3_take 49 = .ok (.if_icmp .ne 89, 3) := by decide +kernel
theorem dX3_take_52 : decode cX3_take 52 = .ok (.aload_n 0, 1) := by decide +kernel
theorem dX3_take_53 : decode cX3_take 53 = .ok (.getfield 11, 3) := by decide +kernel
theorem dX3_take_56 : decode cX3_take 56 = .ok (.iload_n 2, 1) := by decide +kernel
theorem dX3_take_57 : decode cX3_take 57 = .ok (.aaload, 1) := by decide +kernel
theorem dX3_take_58 : decode cX3_take 58 = .ok (.astore_n 3, 1) := by decide +kernel
theorem dX3_take_59 : decode cX3_take 59 = .ok (.iload_n 2, 1) := by decide +kernel
theorem dX3_take_60 : decode cX3_take 60 = .ok (.ifCond .le 15, 3) := by decide +kernel
theorem dX3_take_63 : decode cX3_take 63 = .ok (.aload_n 3, 1) := by decide +kernel
theorem dX3_take_64 : decode cX3_take 64 = .ok (.aload_n 0, 1) := by decide +kernel
theorem dX3_take_65 : decode cX3_take 65 = .ok (.getfield 11, 3) := by decide +kernel
theorem dX3_take_68 : decode cX3_take 68 = .ok (.iload_n 2, 1) := by decide +kernel
theorem dX3_take_69 : decode cX3_take 69 = .ok (.iconst 1, 1) := by decide +kernel
theorem dX3_take_70 : decode cX3_take 70 = .ok (.isub, 1) := by decide +kernel
theorem dX3_take_71 : decode cX3_take 71 = .ok (.aaload, 1) := by decide +kernel
theorem dX3_take_72 : decode cX3_take 72 = .ok (.invokevirtual 39, 3) := by decide +kernel
theorem dX3_take_75 : decode cX3_take 75 = .ok (.iconst 0, 1) := by decide +kernel
theorem dX3_take_76 : decode cX3_take 76 = .ok (.istore 4, 2) := by decide +kernel
theorem dX3_take_78 : decode cX3_take 78 = .ok (.iload 4, 2) := by decide +kernel
theorem dX3_take_80 : decode cX3_take 80 = .ok (.aload_n 1, 1) := by decide +kernel
theorem dX3_take_81 : decode cX3_take 81 = .ok (.getfield 43, 3) := by decide +kernel
theorem dX3_take_84 : decode cX3_take 84 = .ok (.if_icmp .ge 21, 3) := by decide +kernel
theorem dX3_take_87 : decode cX3_take 87 = .ok (.aload_n 3, 1) := by decide +kernel
theorem dX3_take_88 : decode cX3_take 88 = .ok (.aload_n 1, 1) := by decide +kernel
theorem dX3_take_89 : decode cX3_take 89 = .ok (.getfield 46, 3) := by decide +kernel
theorem dX3_take_92 : decode cX3_take 92 = .ok (.iload 4, 2) := by decide +kernel
theorem dX3_take_94 : decode cX3_take 94 = .ok (.aaload, 1) := by decide +kernel
theorem dX3_take_95 : decode cX3_take 95 = .ok (.invokevirtual 50, 3) := by decide +kernel
theorem dX3_take_98 : decode cX3_take 98 = .ok (.pop, 1) := by decide +kernel
theorem dX3_take_99 : decode cX3_take 99 = .ok (.iinc 4 1, 3) := by decide +kernel
theorem dX3_take_102 : decode cX3_take 102 = .ok (.goto (-24), 3) := by decide +kernel
theorem dX3_take_105 : decode cX3_take 105 = .ok (.aload_n 0, 1) := by decide +kernel
theorem dX3_take_106 : decode cX3_take 106 = .ok (.aload_n 3, 1) := by decide +kernel
theorem dX3_take_107 : decode cX3_take 107 = .ok (.aload_n 0, 1) := by decide +kernel
theorem dX3_take_108 : decode cX3_take 108 = .ok (.getfield 24, 3) := by decide +kernel
theorem dX3_take_111 : decode cX3_take 111 = .ok (.invokevirtual 54, 3) := by decide +kernel
theorem dX3_take_114 : decode cX3_take 114 = .ok (.putfield 24, 3) := by decide +kernel
theorem dX3_take_117 : decode cX3_take 117 = .ok (.aload_n 0, 1) := by decide +kernel
theorem dX3_take_118 : decode cX3_take 118 = .ok (.aload_n 3, 1) := by decide +kernel
theorem dX3_take_119 : decode cX3_take 119 = .ok (.getfield 58, 3) := by decide +kernel
theorem dX3_take_122 : decode cX3_take 122 = .ok (.putfield 21, 3) := by decide +kernel
theorem dX3_take_125 : decode cX3_take 125 = .ok (.aload_n 0, 1) := by decide +kernel
theorem dX3_take_126 : decode cX3_take 126 = .ok (.iload_n 2, 1) := by decide +kernel
theorem dX3_take_127 : decode cX3_take 127 = .ok (.iconst 1, 1) := by decide +kernel
theorem dX3_take_128 : decode cX3_take 128 = .ok (.iadd, 1) := by decide +kernel
theorem dX3_take_129 : decode cX3_take 129 = .ok (.putfield 17, 3) := by decide +kernel
theorem dX3_take_132 : decode cX3_take 132 = .ok (.iinc 2 1, 3) := by decide +kernel
theorem dX3_take_135 : decode cX3_take 135 = .ok (.goto (-97), 3) := by decide +kernel
theorem dX3_take_138 : decode cX3_take 138 = .ok (.return_, 1) := by decide +kernel
theorem dX3_roundThatEliminates_0 : decode cX3_roundThatEliminates 0 = .ok (.iconst 0, 1) := by decide +kernel
theorem dX3_roundThatEliminates_1 : decode cX3_roundThatEliminates 1 = .ok (.istore_n 2, 1) := by decide +kernel
theorem dX3_roundThatEliminates_2 : decode cX3_roundThatEliminates 2 = .ok (.iload_n 2, 1) := by decide +kernel
theorem dX3_roundThatEliminates_3 : decode cX3_roundThatEliminates 3 = .ok (.aload_n 0, 1) := by decide +kernel
theorem dX3_roundThatEliminates_4 : decode cX3_roundThatEliminates 4 = .ok (.getfield 17, 3) := by decide +kernel
theorem dX3_roundThatEliminates_7 : decode cX3_roundThatEliminates 7 = .ok (.if_icmp .ge 24, 3) := by decide +kernel
theorem dX3_roundThatEliminates_10 : decode cX3_roundThatEliminates 10 = .ok (.aload_n 0, 1) := by decide +kernel
theorem dX3_roundThatEliminates_11 : decode cX3_roundThatEliminates 11 = .ok (.getfield 11, 3) := by decide +kernel
theorem dX3_roundThatEliminates_14 : decode cX3_roundThatEliminates 14 = .ok (.iload_n 2, 1) := by decide +kernel
theorem dX3_roundThatEliminates_15 : decode cX3_roundThatEliminates 15 = .ok (.aaload, 1) := by decide +kernel
theorem dX3_roundThatEliminates_16 : decode cX3_roundThatEliminates 16 = .ok (.getfield 59, 3) := by decide +kernel
theorem dX3_roundThatEliminates_19 : decode cX3_roundThatEliminates 19 = .ok (.iload_n 1, 1) := by decide +kernel
theorem dX3_roundThatEliminates_20 : decode cX3_roundThatEliminates 20 = .ok (.if_icmp .ne 5, 3) := by decide +kernel
theorem dX3_roundThatEliminates_23 : decode cX3_roundThatEliminates 23 = .ok (.iload_n 2, 1) := by decide +kernel
theorem dX3_roundThatEliminates_24 : decode cX3_roundThatEliminates 24 = .ok (.ireturn, 1) := by decide +kernel
theorem dX3_roundThatEliminates_25 : decode cX3_roundThatEliminates 25 = .ok (.iinc 2 1, 3) := by decide +kernel
theorem dX3_roundThatEliminates_28 : decode cX3_roundThatEliminates 28 = .ok (.goto (-26), 3) := by decide +kernel
theorem dX3_roundThatEliminates_31 : decode cX3_roundThatEliminates 31 = .ok (.iconst (-1), 1) := by decide +kernel
theorem dX3_roundThatEliminates_32 : decode cX3_roundThatEliminates 32 = .ok (.ireturn, 1) := by decide +kernel
theorem dX3_addsUpTo_0 : decode cX3_addsUpTo 0 = .ok (.iconst 0, 1) := by decide +kernel
theorem dX3_addsUpTo_1 : decode cX3_addsUpTo 1 = .ok (.istore_n 2, 1) := by decide +kernel
theorem dX3_addsUpTo_2 : decode cX3_addsUpTo 2 = .ok (.iload_n 2, 1) := by decide +kernel
theorem dX3_addsUpTo_3 : decode cX3_addsUpTo 3 = .ok (.aload_n 0, 1) := by decide +kernel
theorem dX3_addsUpTo_4 : decode cX3_addsUpTo 4 = .ok (.getfield 17, 3) := by decide +kernel
theorem dX3_addsUpTo_7 : decode cX3_addsUpTo 7 = .ok (.if_icmp .ge 34, 3) := by decide +kernel
theorem dX3_addsUpTo_10 : decode cX3_addsUpTo 10 = .ok (.aload_n 0, 1) := by decide +kernel
theorem dX3_addsUpTo_11 : decode cX3_addsUpTo 11 = .ok (.getfield 11, 3) := by decide +kernel
theorem dX3_addsUpTo_14 : decode cX3_addsUpTo 14 = .ok (.iload_n 2, 1) := by decide +kernel
theorem dX3_addsUpTo_15 : decode cX3_addsUpTo 15 = .ok (.aaload, 1) := by decide +kernel
theorem dX3_addsUpTo_16 : decode cX3_addsUpTo 16 = .ok (.invokevirtual 62, 3) := by decide +kernel
theorem dX3_addsUpTo_19 : decode cX3_addsUpTo 19 = .ok (.aload_n 0, 1) := by decide +kernel
theorem dX3_addsUpTo_20 : decode cX3_addsUpTo 20 = .ok (.getfield 11, 3) := by decide +kernel
theorem dX3_addsUpTo_23 : decode cX3_addsUpTo 23 = .ok (.iload_n 2, 1) := by decide +kernel
theorem dX3_addsUpTo_24 : decode cX3_addsUpTo 24 = .ok (.aaload, 1) := by decide +kernel
theorem dX3_addsUpTo_25 : decode cX3_addsUpTo 25 = .ok (.getfield 65, 3) := by decide +kernel
theorem dX3_addsUpTo_28 : decode cX3_addsUpTo 28 = .ok (.iadd, 1) := by decide +kernel
theorem dX3_addsUpTo_29 : decode cX3_addsUpTo 29 = .ok (.iload_n 1, 1) := by decide +kernel
theorem dX3_addsUpTo_30 : decode cX3_addsUpTo 30 = .ok (.if_icmp .eq 5, 3) := by decide +kernel
theorem dX3_addsUpTo_33 : decode cX3_addsUpTo 33 = .ok (.iconst 0, 1) := by decide +kernel
theorem dX3_addsUpTo_34 : decode cX3_addsUpTo 34 = .ok (.ireturn, 1) := by decide +kernel
theorem dX3_addsUpTo_35 : decode cX3_addsUpTo 35 = .ok (.iinc 2 1, 3) := by decide +kernel
theorem dX3_addsUpTo_38 : decode cX3_addsUpTo 38 = .ok (.goto (-36), 3) := by decide +kernel
theorem dX3_addsUpTo_41 : decode cX3_addsUpTo 41 = .ok (.iconst 1, 1) := by decide +kernel
theorem dX3_addsUpTo_42 : decode cX3_addsUpTo 42 = .ok (.ireturn, 1) := by decide +kernel
theorem dX5_init_0 : decode cX5_init 0 = .ok (.aload_n 0, 1) := by decide +kernel
theorem dX5_init_1 : decode cX5_init 1 = .ok (.invokespecial 3, 3) := by decide +kernel
theorem dX5_init_4 : decode cX5_init 4 = .ok (.aload_n 0, 1) := by decide +kernel
theorem dX5_init_5 : decode cX5_init 5 = .ok (.bipush 8, 2) := by decide +kernel
theorem dX5_init_7 : decode cX5_init 7 = .ok (.anewarray 9, 3) := by decide +kernel
theorem dX5_init_10 : decode cX5_init 10 = .ok (.putfield 11, 3) := by decide +kernel
theorem dX5_init_13 : decode cX5_init 13 = .ok (.aload_n 0, 1) := by decide +kernel
theorem dX5_init_14 : decode cX5_init 14 = .ok (.iconst 0, 1) := by decide +kernel
theorem dX5_init_15 : decode cX5_init 15 = .ok (.putfield 17, 3) := by decide +kernel
theorem dX5_init_18 : decode cX5_init 18 = .ok (.aload_n 0, 1) := by decide +kernel
theorem dX5_init_19 : decode cX5_init 19 = .ok (.iconst 0, 1) := by decide +kernel
theorem dX5_init_20 : decode cX5_init 20 = .ok (.putfield 21, 3) := by decide +kernel
theorem dX5_init_23 : decode cX5_init 23 = .ok (.iconst 0, 1) := by decide +kernel
theorem dX5_init_24 : decode cX5_init 24 = .ok (.istore_n 1, 1) := by decide +kernel
theorem dX5_init_25 : decode cX5_init 25 = .ok (.iload_n 1, 1) := by decide +kernel
theorem dX5_init_26 : decode cX5_init 26 = .ok (.bipush 8, 2) := by decide +kernel
theorem dX5_init_28 : decode cX5_init 28 = .ok (.if_icmp .ge 22, 3) := by decide +kernel
theorem dX5_init_31 : decode cX5_init 31 = .ok (.aload_n 0, 1) := by decide +kernel
theorem dX5_init_32 : decode cX5_init 32 = .ok (.getfield 11, 3) := by decide +kernel
theorem dX5_init_35 : decode cX5_init 35 = .ok (.iload_n 1, 1) := by decide +kernel
theorem dX5_init_36 : decode cX5_init 36 = .ok (.new 9, 3) := by decide +kernel
theorem dX5_init_39 : decode cX5_init 39 = .ok (.dup, 1) := by decide +kernel
theorem dX5_init_40 : decode cX5_init 40 = .ok (.invokespecial 24, 3) := by decide +kernel
theorem dX5_init_43 : decode cX5_init 43 = .ok (.aastore, 1) := by decide +kernel
theorem dX5_init_44 : decode cX5_init 44 = .ok (.iinc 1 1, 3) := by decide +kernel
theorem dX5_init_47 : decode cX5_init 47 = .ok (.goto (-22), 3) := by decide +kernel
theorem dX5_init_50 : decode cX5_init 50 = .ok (.return_, 1) := by decide +kernel
theorem dX5_remember_0 : decode cX5_remember 0 = .ok (.aload_n 0, 1) := by decide +kernel
theorem dX5_remember_1 : decode cX5_remember 1 = .ok (.getfield 11, 3) := by decide +kernel
theorem dX5_remember_4 : decode cX5_remember 4 = .ok (.aload_n 0, 1) := by decide +kernel
theorem dX5_remember_5 : decode cX5_remember 5 = .ok (.getfield 17, 3) := by decide +kernel
theorem dX5_remember_8 : decode cX5_remember 8 = .ok (.aload_n 0, 1) := by decide +kernel
theorem dX5_remember_9 : decode cX5_remember 9 = .ok (.getfield 21, 3) := by decide +kernel
theorem dX5_remember_12 : decode cX5_remember 12 = .ok (.iadd, 1) := by decide +kernel
theorem dX5_remember_13 : decode cX5_remember 13 = .ok (.bipush 8, 2) := by decide +kernel
theorem dX5_remember_15 : decode cX5_remember 15 = .ok (.irem, 1) := by decide +kernel
theorem dX5_remember_16 : decode cX5_remember 16 = .ok (.aaload, 1) := by decide +kernel
theorem dX5_remember_17 : decode cX5_remember 17 = .ok (.aload_n 1, 1) := by decide +kernel
theorem dX5_remember_18 : decode cX5_remember 18 = .ok (.invokevirtual 25, 3) := by decide +kernel
theorem dX5_remember_21 : decode cX5_remember 21 = .ok (.aload_n 0, 1) := by decide +kernel
theorem dX5_remember_22 : decode cX5_remember 22 = .ok (.getfield 21, 3) := by decide +kernel
theorem dX5_remember_25 : decode cX5_remember 25 = .ok (.bipush 8, 2) := by decide +kernel
theorem dX5_remember_27 : decode cX5_remember 27 = .ok (.if_icmp .ge 16, 3) := by decide +kernel
theorem dX5_remember_30 : decode cX5_remember 30 = .ok (.aload_n 0, 1) := by decide +kernel
theorem dX5_remember_31 : decode cX5_remember 31 = .ok (.dup, 1) := by decide +kernel
theorem dX5_remember_32 : decode cX5_remember 32 = .ok (.getfield 21, 3) := by decide +kernel
theorem dX5_remember_35 : decode cX5_remember 35 = .ok (.iconst 1, 1) := by decide +kernel
theorem dX5_remember_36 : decode cX5_remember 36 = .ok (.iadd, 1) := by decide +kernel
theorem dX5_remember_37 : decode cX5_remember 37 = .ok (.putfield 21, 3) := by decide +kernel
theorem dX5_remember_40 : decode cX5_remember 40 = .ok (.goto 16, 3) := by decide +kernel
theorem dX5_remember_43 : decode cX5_remember 43 = .ok (.aload_n 0, 1) := by decide +kernel
theorem dX5_remember_44 : decode cX5_remember 44 = .ok (.aload_n 0, 1) := by decide +kernel
theorem dX5_remember_45 : decode cX5_remember 45 = .ok (.getfield 17, 3) := by decide +kernel
theorem dX5_remember_48 : decode cX5_remember 48 = .ok (.iconst 1, 1) := by decide +kernel
theorem dX5_remember_49 : decode cX5_remember 49 = .ok (.iadd, 1) := by decide +kernel
theorem dX5_remember_50 : decode cX5_remember 50 = .ok (.bipush 8, 2) := by decide +kernel
theorem dX5_remember_52 : decode cX5_remember 52 = .ok (.irem, 1) := by decide +kernel
theorem dX5_remember_53 : decode cX5_remember 53 = .ok (.putfield 17, 3) := by decide +kernel
theorem dX5_remember_56 : decode cX5_remember 56 = .ok (.return_, 1) := by decide +kernel
theorem dX5_takeBack_0 : decode cX5_takeBack 0 = .ok (.aload_n 0, 1) := by decide +kernel
theorem dX5_takeBack_1 : decode cX5_takeBack 1 = .ok (.getfield 21, 3) := by decide +kernel
theorem dX5_takeBack_4 : decode cX5_takeBack 4 = .ok (.ifCond .ne 5, 3) := by decide +kernel
theorem dX5_takeBack_7 : decode cX5_takeBack 7 = .ok (.iconst 0, 1) := by decide +kernel
theorem dX5_takeBack_8 : decode cX5_takeBack 8 = .ok (.ireturn, 1) := by decide +kernel
theorem dX5_takeBack_9 : decode cX5_takeBack 9 = .ok (.aload_n 0, 1) := by decide +kernel
theorem dX5_takeBack_10 : decode cX5_takeBack 10 = .ok (.dup, 1) := by decide +kernel
theorem dX5_takeBack_11 : decode cX5_takeBack 11 = .ok (.getfield 21, 3) := by decide +kernel
theorem dX5_takeBack_14 : decode cX5_takeBack 14 = .ok (.iconst 1, 1) := by decide +kernel
theorem dX5_takeBack_15 : decode cX5_takeBack 15 = .ok (.isub, 1) := by decide +kernel
theorem dX5_takeBack_16 : decode cX5_takeBack 16 = .ok (.putfield 21, 3) := by decide +kernel
theorem dX5_takeBack_19 : decode cX5_takeBack 19 = .ok (.aload_n 1, 1) := by decide +kernel
theorem dX5_takeBack_20 : decode cX5_takeBack 20 = .ok (.aload_n 0, 1) := by decide +kernel
theorem dX5_takeBack_21 : decode cX5_takeBack 21 = .ok (.getfield 11, 3) := by decide +kernel
theorem dX5_takeBack_24 : decode cX5_takeBack 24 = .ok (.aload_n 0, 1) := by decide +kernel
theorem dX5_takeBack_25 : decode cX5_takeBack 25 = .ok (.getfield 17, 3) := by decide +kernel
theorem dX5_takeBack_28 : decode cX5_takeBack 28 = .ok (.aload_n 0, 1) := by decide +kernel
theorem dX5_takeBack_29 : decode cX5_takeBack 29 = .ok (.getfield 21, 3) := by decide +kernel
theorem dX5_takeBack_32 : decode cX5_takeBack 32 = .ok (.iadd, 1) := by decide +kernel
theorem dX5_takeBack_33 : decode cX5_takeBack 33 = .ok (.bipush 8, 2) := by decide +kernel
theorem dX5_takeBack_35 : decode cX5_takeBack 35 = .ok (.irem, 1) := by decide +kernel
theorem dX5_takeBack_36 : decode cX5_takeBack 36 = .ok (.aaload, 1) := by decide +kernel
theorem dX5_takeBack_37 : decode cX5_takeBack 37 = .ok (.invokevirtual 25, 3) := by decide +kernel
theorem dX5_takeBack_40 : decode cX5_takeBack 40 = .ok (.iconst 1, 1) := by decide +kernel
theorem dX5_takeBack_41 : decode cX5_takeBack 41 = .ok (.ireturn, 1) := by decide +kernel
theorem dX5_forget_0 : decode cX5_forget 0 = .ok (.aload_n 0, 1) := by decide +kernel
theorem dX5_forget_1 : decode cX5_forget 1 = .ok (.iconst 0, 1) := by decide +kernel
theorem dX5_forget_2 : decode cX5_forget 2 = .ok (.putfield 21, 3) := by decide +kernel
theorem dX5_forget_5 : decode cX5_forget 5 = .ok (.return_, 1) := by decide +kernel
theorem dX6_init_0 : decode cX6_init 0 = .ok (.aload_n 0, 1) := by decide +kernel
theorem dX6_init_1 : decode cX6_init 1 = .ok (.invokespecial 3, 3) := by decide +kernel
theorem dX6_init_4 : decode cX6_init 4 = .ok (.aload_n 0, 1) := by decide +kernel
theorem dX6_init_5 : decode cX6_init 5 = .ok (.bipush 20, 2) := by decide +kernel
theorem dX6_init_7 : decode cX6_init 7 = .ok (.newarray .int, 2) := by decide +kernel
theorem dX6_init_9 : decode cX6_init 9 = .ok (.putfield 9, 3) := by decide +kernel
theorem dX6_init_12 : decode cX6_init 12 = .ok (.aload_n 0, 1) := by decide +kernel
theorem dX6_init_13 : decode cX6_init 13 = .ok (.new 15, 3) := by decide +kernel
theorem dX6_init_16 : decode cX6_init 16 = .ok (.dup, 1) := by decide +kernel
theorem dX6_init_17 : decode cX6_init 17 = .ok (.invokespecial 17, 3) := by decide +kernel
theorem dX6_init_20 : decode cX6_init 20 = .ok (.putfield 18, 3) := by decide +kernel
theorem dX6_init_23 : decode cX6_init 23 = .ok (.return_, 1) := by decide +kernel
theorem dX6_elect_0 : decode cX6_elect 0 = .ok (.aload_n 1, 1) := by decide +kernel
theorem dX6_elect_1 : decode cX6_elect 1 = .ok (.invokevirtual 22, 3) := by decide +kernel
theorem dX6_elect_4 : decode cX6_elect 4 = .ok (.ifCond .ne 5, 3) := by decide +kernel
theorem dX6_elect_7 : decode cX6_elect 7 = .ok (.iconst (-1), 1) := by decide +kernel
theorem dX6_elect_8 : decode cX6_elect 8 = .ok (.ireturn, 1) := by decide +kernel
theorem dX6_elect_9 : decode cX6_elect 9 = .ok (.aload_n 0, 1) := by decide +kernel
theorem dX6_elect_10 : decode cX6_elect 10 = .ok (.getfield 18, 3) := by decide +kernel
theorem dX6_elect_13 : decode cX6_elect 13 = .ok (.aload_n 1, 1) := by decide +kernel
theorem dX6_elect_14 : decode cX6_elect 14 = .ok (.invokevirtual 28, 3) := by decide +kernel
theorem dX6_elect_17 : decode cX6_elect 17 = .ok (.iconst 0, 1) := by decide +kernel
theorem dX6_elect_18 : decode cX6_elect 18 = .ok (.istore_n 2, 1) := by decide +kernel
theorem dX6_elect_19 : decode cX6_elect 19 = .ok (.iload_n 2, 1) := by decide +kernel
theorem dX6_elect_20 : decode cX6_elect 20 = .ok (.aload_n 1, 1) := by decide +kernel
theorem dX6_elect_21 : decode cX6_elect 21 = .ok (.getfield 32, 3) := by decide +kernel
theorem dX6_elect_24 : decode cX6_elect 24 = .ok (.if_icmp .ge 28, 3) := by decide +kernel
theorem dX6_elect_27 : decode cX6_elect 27 = .ok (.aload_n 0, 1) := by decide +kernel
theorem dX6_elect_28 : decode cX6_elect 28 = .ok (.getfield 9, 3) := by decide +kernel
theorem dX6_elect_31 : decode cX6_elect 31 = .ok (.iload_n 2, 1) := by decide +kernel
theorem dX6_elect_32 : decode cX6_elect 32 = .ok (.aload_n 0, 1) := by decide +kernel
theorem dX6_elect_33 : decode cX6_elect 33 = .ok (.getfield 18, 3) := by decide +kernel
theorem dX6_elect_36 : decode cX6_elect 36 = .ok (.aload_n 1, 1) := by decide +kernel
theorem dX6_elect_37 : decode cX6_elect 37 = .ok (.getfield 36, 3) := by decide +kernel
theorem dX6_elect_40 : decode cX6_elect 40 = .ok (.iload_n 2, 1) := by decide +kernel
theorem dX6_elect_41 : decode cX6_elect 41 = .ok (.aaload, 1) := by decide +kernel
theorem dX6_elect_42 : decode cX6_elect 42 = .ok (.invokevirtual 40, 3) := by decide +kernel
theorem dX6_elect_45 : decode cX6_elect 45 = .ok (.iastore, 1) := by decide +kernel
theorem dX6_elect_46 : decode cX6_elect 46 = .ok (.iinc 2 1, 3) := by decide +kernel
theorem dX6_elect_49 : decode cX6_elect 49 = .ok (.goto (-30), 3) := by decide +kernel
theorem dX6_elect_52 : decode cX6_elect 52 = .ok (.aload_n 0, 1) := by decide +kernel
theorem dX6_elect_53 : decode cX6_elect 53 = .ok (.getfield 18, 3) := by decide +kernel
theorem dX6_elect_56 : decode cX6_elect 56 = .ok (.aload_n 1, 1) := by decide +kernel
theorem dX6_elect_57 : decode cX6_elect 57 = .ok (.getfield 44, 3) := by decide +kernel
theorem dX6_elect_60 : decode cX6_elect 60 = .ok (.invokevirtual 47, 3) := by decide +kernel
theorem dX6_elect_63 : decode cX6_elect 63 = .ok (.istore_n 2, 1) := by decide +kernel
theorem dX6_elect_64 : decode cX6_elect 64 = .ok (.iconst 1, 1) := by decide +kernel
theorem dX6_elect_65 : decode cX6_elect 65 = .ok (.istore_n 3, 1) := by decide +kernel
theorem dX6_elect_66 : decode cX6_elect 66 = .ok (.iload_n 3, 1) := by decide +kernel
theorem dX6_elect_67 : decode cX6_elect 67 = .ok (.bipush 8, 2) := by decide +kernel
theorem dX6_elect_69 : decode cX6_elect 69 = .ok (.if_icmp .ge 41, 3) := by decide +kernel
theorem dX6_elect_72 : decode cX6_elect 72 = .ok (.aload_n 0, 1) := by decide +kernel
theorem dX6_elect_73 : decode cX6_elect 73 = .ok (.getfield 18, 3) := by decide +kernel
theorem dX6_elect_76 : decode cX6_elect 76 = .ok (.getfield 51, 3) := by decide +kernel
theorem dX6_elect_79 : decode cX6_elect 79 = .ok (.iconst (-1), 1) := by decide +kernel
theorem dX6_elect_80 : decode cX6_elect 80 = .ok (.if_icmp .ne 30, 3) := by decide +kernel
theorem dX6_elect_83 : decode cX6_elect 83 = .ok (.aload_n 0, 1) := by decide +kernel
theorem dX6_elect_84 : decode cX6_elect 84 = .ok (.aload_n 1, 1) := by decide +kernel
theorem dX6_elect_85 : decode cX6_elect 85 = .ok (.aload_n 0, 1) := by decide +kernel
theorem dX6_elect_86 : decode cX6_elect 86 = .ok (.getfield 18, 3) := by decide +kernel
theorem dX6_elect_89 : decode cX6_elect 89 = .ok (.getfield 54, 3) := by decide +kernel
theorem dX6_elect_92 : decode cX6_elect 92 = .ok (.invokevirtual 57, 3) := by decide +kernel
theorem dX6_elect_95 : decode cX6_elect 95 = .ok (.aload_n 0, 1) := by decide +kernel
theorem dX6_elect_96 : decode cX6_elect 96 = .ok (.getfield 18, 3) := by decide +kernel
theorem dX6_elect_99 : decode cX6_elect 99 = .ok (.iload_n 2, 1) := by decide +kernel
theorem dX6_elect_100 : decode cX6_elect 100 = .ok (.invokevirtual 47, 3) := by decide +kernel
theorem dX6_elect_103 : decode cX6_elect 103 = .ok (.istore_n 2, 1) := by decide +kernel
theorem dX6_elect_104 : decode cX6_elect 104 = .ok (.iinc 3 1, 3) := by decide +kernel
theorem dX6_elect_107 : decode cX6_elect 107 = .ok (.goto (-41), 3) := by decide +kernel
theorem dX6_elect_110 : decode cX6_elect 110 = .ok (.aload_n 0, 1) := by decide +kernel
theorem dX6_elect_111 : decode cX6_elect 111 = .ok (.getfield 18, 3) := by decide +kernel
theorem dX6_elect_114 : decode cX6_elect 114 = .ok (.getfield 51, 3) := by decide +kernel
theorem dX6_elect_117 : decode cX6_elect 117 = .ok (.ireturn, 1) := by decide +kernel
theorem dX6_transfer_0 : decode cX6_transfer 0 = .ok (.aload_n 0, 1) := by decide +kernel
theorem dX6_transfer_1 : decode cX6_transfer 1 = .ok (.getfield 18, 3) := by decide +kernel
theorem dX6_transfer_4 : decode cX6_transfer 4 = .ok (.iload_n 2, 1) := by decide +kernel
theorem dX6_transfer_5 : decode cX6_transfer 5 = .ok (.invokevirtual 61, 3) := by decide +kernel
theorem dX6_transfer_8 : decode cX6_transfer 8 = .ok (.ifCond .ne 4, 3) := by decide +kernel
theorem dX6_transfer_11 : decode cX6_transfer 11 = .ok (.return_, 1) := by decide +kernel
theorem dX6_transfer_12 : decode cX6_transfer 12 = .ok (.aload_n 0, 1) := by decide +kernel
theorem dX6_transfer_13 : decode cX6_transfer 13 = .ok (.getfield 18, 3) := by decide +kernel
theorem dX6_transfer_16 : decode cX6_transfer 16 = .ok (.getfield 65, 3) := by decide +kernel
theorem dX6_transfer_19 : decode cX6_transfer 19 = .ok (.iload_n 2, 1) := by decide +kernel
theorem dX6_transfer_20 : decode cX6_transfer 20 = .ok (.iconst (-1), 1) := by decide +kernel
theorem dX6_transfer_21 : decode cX6_transfer 21 = .ok (.iastore, 1) := by decide +kernel
theorem dX6_transfer_22 : decode cX6_transfer 22 = .ok (.iconst 0, 1) := by decide +kernel
theorem dX6_transfer_23 : decode cX6_transfer 23 = .ok (.istore_n 3, 1) := by decide +kernel
theorem dX6_transfer_24 : decode cX6_transfer 24 = .ok (.iload_n 3, 1) := by decide +kernel
theorem dX6_transfer_25 : decode cX6_transfer 25 = .ok (.aload_n 1, 1) := by decide +kernel
theorem dX6_transfer_26 : decode cX6_transfer 26 = .ok (.getfield 32, 3) := by decide +kernel
theorem dX6_transfer_29 : decode cX6_transfer 29 = .ok (.if_icmp .ge 38, 3) := by decide +kernel
theorem dX6_transfer_32 : decode cX6_transfer 32 = .ok (.aload_n 0, 1) := by decide +kernel
theorem dX6_transfer_33 : decode cX6_transfer 33 = .ok (.getfield 9, 3) := by decide +kernel
theorem dX6_transfer_36 : decode cX6_transfer 36 = .ok (.iload_n 3, 1) := by decide +kernel
theorem dX6_transfer_37 : decode cX6_transfer 37 = .ok (.iaload, 1) := by decide +kernel
theorem dX6_transfer_38 : decode cX6_transfer 38 = .ok (.iload_n 2, 1) := by decide +kernel
theorem dX6_transfer_39 : decode cX6_transfer 39 = .ok (.if_icmp .ne 22, 3) := by decide +kernel
theorem dX6_transfer_42 : decode cX6_transfer 42 = .ok (.aload_n 0, 1) := by decide +kernel
theorem dX6_transfer_43 : decode cX6_transfer 43 = .ok (.getfield 9, 3) := by decide +kernel
theorem dX6_transfer_46 : decode cX6_transfer 46 = .ok (.iload_n 3, 1) := by decide +kernel
theorem dX6_transfer_47 : decode cX6_transfer 47 = .ok (.aload_n 0, 1) := by decide +kernel
theorem dX6_transfer_48 : decode cX6_transfer 48 = .ok (.getfield 18, 3) := by decide +kernel
theorem dX6_transfer_51 : decode cX6_transfer 51 = .ok (.aload_n 1, 1) := by decide +kernel
theorem dX6_transfer_52 : decode cX6_transfer 52 = .ok (.getfield 36, 3) := by decide +kernel
theorem dX6_transfer_55 : decode cX6_transfer 55 = .ok (.iload_n 3, 1) := by decide +kernel
theorem dX6_transfer_56 : decode cX6_transfer 56 = .ok (.aaload, 1) := by decide +kernel
theorem dX6_transfer_57 : decode cX6_transfer 57 = .ok (.invokevirtual 40, 3) := by decide +kernel
theorem dX6_transfer_60 : decode cX6_transfer 60 = .ok (.iastore, 1) := by decide +kernel
theorem dX6_transfer_61 : decode cX6_transfer 61 = .ok (.iinc 3 1, 3) := by decide +kernel
theorem dX6_transfer_64 : decode cX6_transfer 64 = .ok (.goto (-40), 3) := by decide +kernel
theorem dX6_transfer_67 : decode cX6_transfer 67 = .ok (.return_, 1) := by decide +kernel
theorem dX7_init_0 : decode cX7_init 0 = .ok (.aload_n 0, 1) := by decide +kernel
theorem dX7_init_1 : decode cX7_init 1 = .ok (.invokespecial 3, 3) := by decide +kernel
theorem dX7_init_4 : decode cX7_init 4 = .ok (.aload_n 0, 1) := by decide +kernel
theorem dX7_init_5 : decode cX7_init 5 = .ok (.new 9, 3) := by decide +kernel
theorem dX7_init_8 : decode cX7_init 8 = .ok (.dup, 1) := by decide +kernel
theorem dX7_init_9 : decode cX7_init 9 = .ok (.invokespecial 11, 3) := by decide +kernel
theorem dX7_init_12 : decode cX7_init 12 = .ok (.putfield 12, 3) := by decide +kernel
theorem dX7_init_15 : decode cX7_init 15 = .ok (.aload_n 0, 1) := by decide +kernel
theorem dX7_init_16 : decode cX7_init 16 = .ok (.iconst 0, 1) := by decide +kernel
theorem dX7_init_17 : decode cX7_init 17 = .ok (.putfield 18, 3) := by decide +kernel
theorem dX7_init_20 : decode cX7_init 20 = .ok (.aload_n 0, 1) := by decide +kernel
theorem dX7_init_21 : decode cX7_init 21 = .ok (.getstatic 22, 3) := by decide +kernel
theorem dX7_init_24 : decode cX7_init 24 = .ok (.putfield 28, 3) := by decide +kernel
theorem dX7_init_27 : decode cX7_init 27 = .ok (.aload_n 0, 1) := by decide +kernel
theorem dX7_init_28 : decode cX7_init 28 = .ok (.bipush 30, 2) := by decide +kernel
theorem dX7_init_30 : decode cX7_init 30 = .ok (.newarray .int, 2) := by decide +kernel
theorem dX7_init_32 : decode cX7_init 32 = .ok (.putfield 31, 3) := by decide +kernel
theorem dX7_init_35 : decode cX7_init 35 = .ok (.aload_n 0, 1) := by decide +kernel
theorem dX7_init_36 : decode cX7_init 36 = .ok (.iconst 0, 1) := by decide +kernel
theorem dX7_init_37 : decode cX7_init 37 = .ok (.putfield 35, 3) := by decide +kernel
theorem dX7_init_40 : decode cX7_init 40 = .ok (.return_, 1) := by decide +kernel
theorem dX7_rewind_0 : decode cX7_rewind 0 = .ok (.aload_n 0, 1) := by decide +kernel
theorem dX7_rewind_1 : decode cX7_rewind 1 = .ok (.iconst 0, 1) := by decide +kernel
theorem dX7_rewind_2 : decode cX7_rewind 2 = .ok (.putfield 18, 3) := by decide +kernel
theorem dX7_rewind_5 : decode cX7_rewind 5 = .ok (.return_, 1) := by decide +kernel
theorem dX7_countCommands_0 : decode cX7_countCommands 0 = .ok (.aload_n 0, 1) := by decide +kernel
theorem dX7_countCommands_1 : decode cX7_countCommands 1 = .ok (.invokevirtual 38, 3) := by decide +kernel
theorem dX7_countCommands_4 : decode cX7_countCommands 4 = .ok (.iconst 1, 1) := by decide +kernel
theorem dX7_countCommands_5 : decode cX7_countCommands 5 = .ok (.istore_n 1, 1) := by decide +kernel
theorem dX7_countCommands_6 : decode cX7_countCommands 6 = .ok (.iload_n 1, 1) := by decide +kernel
theorem dX7_countCommands_7 : decode cX7_countCommands 7 = .ok (.bipush 60, 2) := by decide +kernel
theorem dX7_countCommands_9 : decode cX7_countCommands 9 = .ok (.if_icmp .gt 34, 3) := by decide +kernel
theorem dX7_countCommands_12 : decode cX7_countCommands 12 = .ok (.aload_n 0, 1) := by decide +kernel
theorem dX7_countCommands_13 : decode cX7_countCommands 13 = .ok (.invokevirtual 41, 3) := by decide +kernel
theorem dX7_countCommands_16 : decode cX7_countCommands 16 = .ok (.ifCond .ne 5, 3) := by decide +kernel
theorem dX7_countCommands_19 : decode cX7_countCommands 19 = .ok (.iconst (-1), 1) := by decide +kernel
theorem dX7_countCommands_20 : decode cX7_countCommands 20 = .ok (.ireturn, 1) := by decide +kernel
theorem dX7_countCommands_21 : decode cX7_countCommands 21 = .ok (.aload_n 0, 1) := by decide +kernel
theorem dX7_countCommands_22 : decode cX7_countCommands 22 = .ok (.getfield 18, 3) := by decide +kernel
theorem dX7_countCommands_25 : decode cX7_countCommands 25 = .ok (.aload_n 0, 1) := by decide +kernel
theorem dX7_countCommands_26 : decode cX7_countCommands 26 = .ok (.getfield 12, 3) := by decide +kernel
theorem dX7_countCommands_29 : decode cX7_countCommands 29 = .ok (.getfield 45, 3) := by decide +kernel
theorem dX7_countCommands_32 : decode cX7_countCommands 32 = .ok (.if_icmp .ne 5, 3) := by decide +kernel
theorem dX7_countCommands_35 : decode cX7_countCommands 35 = .ok (.iload_n 1, 1) := by decide +kernel
theorem dX7_countCommands_36 : decode cX7_countCommands 36 = .ok (.ireturn, 1) := by decide +kernel
theorem dX7_countCommands_37 : decode cX7_countCommands 37 = .ok (.iinc 1 1, 3) := by decide +kernel
theorem dX7_countCommands_40 : decode cX7_countCommands 40 = .ok (.goto (-34), 3) := by decide +kernel
theorem dX7_countCommands_43 : decode cX7_countCommands 43 = .ok (.iconst (-1), 1) := by decide +kernel
theorem dX7_countCommands_44 : decode cX7_countCommands 44 = .ok (.ireturn, 1) := by decide +kernel
theorem dX7_readCommand_0 : decode cX7_readCommand 0 = .ok (.aload_n 0, 1) := by decide +kernel
theorem dX7_readCommand_1 : decode cX7_readCommand 1 = .ok (.iconst 0, 1) := by decide +kernel
theorem dX7_readCommand_2 : decode cX7_readCommand 2 = .ok (.putfield 35, 3) := by decide +kernel
theorem dX7_readCommand_5 : decode cX7_readCommand 5 = .ok (.aload_n 0, 1) := by decide +kernel
theorem dX7_readCommand_6 : decode cX7_readCommand 6 = .ok (.getfield 18, 3) := by decide +kernel
theorem dX7_readCommand_9 : decode cX7_readCommand 9 = .ok (.ifCond .le 14, 3) := by decide +kernel
theorem dX7_readCommand_12 : decode cX7_readCommand 12 = .ok (.aload_n 0, 1) := by decide +kernel
theorem dX7_readCommand_13 : decode cX7_readCommand 13 = .ok (.bipush 59, 2) := by decide +kernel
theorem dX7_readCommand_15 : decode cX7_readCommand 15 = .ok (.invokevirtual 48, 3) := by decide +kernel
theorem dX7_readCommand_18 : decode cX7_readCommand 18 = .ok (.ifCond .ne 5, 3) := by decide +kernel
theorem dX7_readCommand_21 : decode cX7_readCommand 21 = .ok (.iconst 0, 1) := by decide +kernel
theorem dX7_readCommand_22 : decode cX7_readCommand 22 = .ok (.ireturn, 1) := by decide +kernel
theorem dX7_readCommand_23 : decode cX7_readCommand 23 = .ok (.aload_n 0, 1) := by decide +kernel
theorem dX7_readCommand_24 : decode cX7_readCommand 24 = .ok (.invokevirtual 52, 3) := by decide +kernel
theorem dX7_readCommand_27 : decode cX7_readCommand 27 = .ok (.ifCond .eq 31, 3) := by decide +kernel
theorem dX7_readCommand_30 : decode cX7_readCommand 30 = .ok (.aload_n 0, 1) := by decide +kernel
theorem dX7_readCommand_31 : decode cX7_readCommand 31 = .ok (.aload_n 0, 1) := by decide +kernel
theorem dX7_readCommand_32 : decode cX7_readCommand 32 = .ok (.getfield 28, 3) := by decide +kernel
theorem dX7_readCommand_35 : decode cX7_readCommand 35 = .ok (.getfield 55, 3) := by decide +kernel
theorem dX7_readCommand_38 : decode cX7_readCommand 38 = .ok (.invokevirtual 58, 3) := by decide +kernel
theorem dX7_readCommand_41 : decode cX7_readCommand 41 = .ok (.ifCond .eq 17, 3) := by decide +kernel
theorem dX7_readCommand_44 : decode cX7_readCommand 44 = .ok (.aload_n 0, 1) := by decide +kernel
theorem dX7_readCommand_45 : decode cX7_readCommand 45 = .ok (.aload_n 0, 1) := by decide +kernel
theorem dX7_readCommand_46 : decode cX7_readCommand 46 = .ok (.getfield 28, 3) := by decide +kernel
theorem dX7_readCommand_49 : decode cX7_readCommand 49 = .ok (.getfield 62, 3) := by decide +kernel
theorem dX7_readCommand_52 : decode cX7_readCommand 52 = .ok (.invokevirtual 58, 3) := by decide +kernel
theorem dX7_readCommand_55 : decode cX7_readCommand 55 = .ok (.ifCond .ne 5, 3) := by decide +kernel
theorem dX7_readCommand_58 : decode cX7_readCommand 58 = .ok (.iconst 0, 1) := by decide +kernel
theorem dX7_readCommand_59 : decode cX7_readCommand 59 = .ok (.ireturn, 1) := by decide +kernel
theorem dX7_readCommand_60 : decode cX7_readCommand 60 = .ok (.aload_n 0, 1) := by decide +kernel
theorem dX7_readCommand_61 : decode cX7_readCommand 61 = .ok (.getfield 28, 3) := by decide +kernel
theorem dX7_readCommand_64 : decode cX7_readCommand 64 = .ok (.getstatic 65, 3) := by decide +kernel
theorem dX7_readCommand_67 : decode cX7_readCommand 67 = .ok (.if_acmp .ne 10, 3) := by decide +kernel
theorem dX7_readCommand_70 : decode cX7_readCommand 70 = .ok (.aload_n 0, 1) := by decide +kernel
theorem dX7_readCommand_71 : decode cX7_readCommand 71 = .ok (.invokevirtual 68, 3) := by decide +kernel
theorem dX7_readCommand_74 : decode cX7_readCommand 74 = .ok (.ifCond .eq 7, 3) := by decide +kernel
theorem dX7_readCommand_77 : decode cX7_readCommand 77 = .ok (.iconst 1, 1) := by decide +kernel
theorem dX7_readCommand_78 : decode cX7_readCommand 78 = .ok (.goto 4, 3) := by decide +kernel
theorem dX7_readCommand_81 : decode cX7_readCommand 81 = .ok (.iconst 0, 1) := by decide +kernel
theorem dX7_readCommand_82 : decode cX7_readCommand 82 = .ok (.ireturn, 1) := by decide +kernel
theorem dX7_readWord_0 : decode cX7_readWord 0 = .ok (.iconst 0, 1) := by decide +kernel
theorem dX7_readWord_1 : decode cX7_readWord 1 = .ok (.istore_n 1, 1) := by decide +kernel
theorem dX7_readWord_2 : decode cX7_readWord 2 = .ok (.iconst 0, 1) := by decide +kernel
theorem dX7_readWord_3 : decode cX7_readWord 3 = .ok (.istore_n 2, 1) := by decide +kernel
theorem dX7_readWord_4 : decode cX7_readWord 4 = .ok (.iload_n 2, 1) := by decide +kernel
theorem dX7_readWord_5 : decode cX7_readWord 5 = .ok (.getstatic 71, 3) := by decide +kernel
theorem dX7_readWord_8 : decode cX7_readWord 8 = .ok (.arraylength, 1) := by decide +kernel
theorem dX7_readWord_9 : decode cX7_readWord 9 = .ok (.if_icmp .ge 64, 3) := by decide +kernel
theorem dX7_readWord_12 : decode cX7_readWord 12 = .ok (.aload_n 0, 1) := by decide +kernel
theorem dX7_readWord_13 : decode cX7_readWord 13 = .ok (.getstatic 71, 3) := by decide +kernel
theorem dX7_readWord_16 : decode cX7_readWord 16 = .ok (.iload_n 2, 1) := by decide +kernel
theorem dX7_readWord_17 : decode cX7_readWord 17 = .ok (.aaload, 1) := by decide +kernel
theorem dX7_readWord_18 : decode cX7_readWord 18 = .ok (.getfield 75, 3) := by decide +kernel
theorem dX7_readWord_21 : decode cX7_readWord 21 = .ok (.invokevirtual 79, 3) := by decide +kernel
theorem dX7_readWord_24 : decode cX7_readWord 24 = .ok (.istore_n 3, 1) := by decide +kernel
theorem dX7_readWord_25 : decode cX7_readWord 25 = .ok (.iload_n 1, 1) := by decide +kernel
theorem dX7_readWord_26 : decode cX7_readWord 26 = .ok (.iload_n 3, 1) := by decide +kernel
theorem dX7_readWord_27 : decode cX7_readWord 27 = .ok (.invokestatic 83, 3) := by decide +kernel
theorem dX7_readWord_30 : decode cX7_readWord 30 = .ok (.istore_n 1, 1) := by decide +kernel
theorem dX7_readWord_31 : decode cX7_readWord 31 = .ok (.iload_n 3, 1) := by decide +kernel
theorem dX7_readWord_32 : decode cX7_readWord 32 = .ok (.getstatic 71, 3) := by decide +kernel
theorem dX7_readWord_35 : decode cX7_readWord 35 = .ok (.iload_n 2, 1) := by decide +kernel
theorem dX7_readWord_36 : decode cX7_readWord 36 = .ok (.aaload, 1) := by decide +kernel
theorem dX7_readWord_37 : decode cX7_readWord 37 = .ok (.getfield 75, 3) := by decide +kernel
theorem dX7_readWord_40 : decode cX7_readWord 40 = .ok (.invokevirtual 89, 3) := by decide +kernel
theorem dX7_readWord_43 : decode cX7_readWord 43 = .ok (.if_icmp .ne 24, 3) := by decide +kernel
theorem dX7_readWord_46 : decode cX7_readWord 46 = .ok (.aload_n 0, 1) := by decide +kernel
theorem dX7_readWord_47 : decode cX7_readWord 47 = .ok (.getstatic 71, 3) := by decide +kernel
theorem dX7_readWord_50 : decode cX7_readWord 50 = .ok (.iload_n 2, 1) := by decide +kernel
theorem dX7_readWord_51 : decode cX7_readWord 51 = .ok (.aaload, 1) := by decide +kernel
theorem dX7_readWord_52 : decode cX7_readWord 52 = .ok (.putfield 28, 3) := by decide +kernel
theorem dX7_readWord_55 : decode cX7_readWord 55 = .ok (.aload_n 0, 1) := by decide +kernel
theorem dX7_readWord_56 : decode cX7_readWord 56 = .ok (.dup, 1) := by decide +kernel
theorem dX7_readWord_57 : decode cX7_readWord 57 = .ok (.getfield 18, 3) := by decide +kernel
theorem dX7_readWord_60 : decode cX7_readWord 60 = .ok (.iload_n 3, 1) := by decide +kernel
theorem dX7_readWord_61 : decode cX7_readWord 61 = .ok (.iadd, 1) := by decide +kernel
theorem dX7_readWord_62 : decode cX7_readWord 62 = .ok (.putfield 18, 3) := by decide +kernel
theorem dX7_readWord_65 : decode cX7_readWord 65 = .ok (.iconst 1, 1) := by decide +kernel
theorem dX7_readWord_66 : decode cX7_readWord 66 = .ok (.ireturn, 1) := by decide +kernel
theorem dX7_readWord_67 : decode cX7_readWord 67 = .ok (.iinc 2 1, 3) := by decide +kernel
theorem dX7_readWord_70 : decode cX7_readWord 70 = .ok (.goto (-66), 3) := by decide +kernel
theorem dX7_readWord_73 : decode cX7_readWord 73 = .ok (.aload_n 0, 1) := by decide +kernel
theorem dX7_readWord_74 : decode cX7_readWord 74 = .ok (.dup, 1) := by decide +kernel
theorem dX7_readWord_75 : decode cX7_readWord 75 = .ok (.getfield 18, 3) := by decide +kernel
theorem dX7_readWord_78 : decode cX7_readWord 78 = .ok (.iload_n 1, 1) := by decide +kernel
theorem dX7_readWord_79 : decode cX7_readWord 79 = .ok (.iadd, 1) := by decide +kernel
theorem dX7_readWord_80 : decode cX7_readWord 80 = .ok (.putfield 18, 3) := by decide +kernel
theorem dX7_readWord_83 : decode cX7_readWord 83 = .ok (.iconst 0, 1) := by decide +kernel
theorem dX7_readWord_84 : decode cX7_readWord 84 = .ok (.ireturn, 1) := by decide +kernel
theorem dX7_lettersRead_0 : decode cX7_lettersRead 0 = .ok (.iconst 0, 1) := by decide +kernel
theorem dX7_lettersRead_1 : decode cX7_lettersRead 1 = .ok (.istore_n 2, 1) := by decide +kernel
theorem dX7_lettersRead_2 : decode cX7_lettersRead 2 = .ok (.iload_n 2, 1) := by decide +kernel
theorem dX7_lettersRead_3 : decode cX7_lettersRead 3 = .ok (.aload_n 1, 1) := by decide +kernel
theorem dX7_lettersRead_4 : decode cX7_lettersRead 4 = .ok (.invokevirtual 89, 3) := by decide +kernel
theorem dX7_lettersRead_7 : decode cX7_lettersRead 7 = .ok (.if_icmp .ge 30, 3) := by decide +kernel
theorem dX7_lettersRead_10 : decode cX7_lettersRead 10 = .ok (.aload_n 0, 1) := by decide +kernel
theorem dX7_lettersRead_11 : decode cX7_lettersRead 11 = .ok (.getfield 12, 3) := by decide +kernel
theorem dX7_lettersRead_14 : decode cX7_lettersRead 14 = .ok (.aload_n 0, 1) := by decide +kernel
theorem dX7_lettersRead_15 : decode cX7_lettersRead 15 = .ok (.getfield 18, 3) := by decide +kernel
theorem dX7_lettersRead_18 : decode cX7_lettersRead 18 = .ok (.iload_n 2, 1) := by decide +kernel
theorem dX7_lettersRead_19 : decode cX7_lettersRead 19 = .ok (.iadd, 1) := by decide +kernel
theorem dX7_lettersRead_20 : decode cX7_lettersRead 20 = .ok (.aload_n 1, 1) := by decide +kernel
theorem dX7_lettersRead_21 : decode cX7_lettersRead 21 = .ok (.iload_n 2, 1) := by decide +kernel
theorem dX7_lettersRead_22 : decode cX7_lettersRead 22 = .ok (.invokevirtual 94, 3) := by decide +kernel
theorem dX7_lettersRead_25 : decode cX7_lettersRead 25 = .ok (.invokevirtual 98, 3) := by decide +kernel
theorem dX7_lettersRead_28 : decode cX7_lettersRead 28 = .ok (.ifCond .eq 9, 3) := by decide +kernel
theorem dX7_lettersRead_31 : decode cX7_lettersRead 31 = .ok (.iinc 2 1, 3) := by decide +kernel
theorem dX7_lettersRead_34 : decode cX7_lettersRead 34 = .ok (.goto (-32), 3) := by decide +kernel
theorem dX7_lettersRead_37 : decode cX7_lettersRead 37 = .ok (.iload_n 2, 1) := by decide +kernel
theorem dX7_lettersRead_38 : decode cX7_lettersRead 38 = .ok (.ireturn, 1) := by decide +kernel
theorem dX7_readParameter_0 : decode cX7_readParameter 0 = .ok (.iload_n 1, 1) := by decide +kernel
theorem dX7_readParameter_1 : decode cX7_readParameter 1 = .ok (.ifCond .eq 20, 3) := by decide +kernel
theorem dX7_readParameter_4 : decode cX7_readParameter 4 = .ok (.aload_n 0, 1) := by decide +kernel
theorem dX7_readParameter_5 : decode cX7_readParameter 5 = .ok (.bipush 32, 2) := by decide +kernel
theorem dX7_readParameter_7 : decode cX7_readParameter 7 = .ok (.invokevirtual 48, 3) := by decide +kernel
theorem dX7_readParameter_10 : decode cX7_readParameter 10 = .ok (.ifCond .eq 15, 3) := by decide +kernel
theorem dX7_readParameter_13 : decode cX7_readParameter 13 = .ok (.aload_n 0, 1) := by decide +kernel
theorem dX7_readParameter_14 : decode cX7_readParameter 14 = .ok (.iload_n 1, 1) := by decide +kernel
theorem dX7_readParameter_15 : decode cX7_readParameter 15 = .ok (.invokevirtual 102, 3) := by decide +kernel
theorem dX7_readParameter_18 : decode cX7_readParameter 18 = .ok (.ifCond .eq 7, 3) := by decide +kernel
theorem dX7_readParameter_21 : decode cX7_readParameter 21 = .ok (.iconst 1, 1) := by decide +kernel
theorem dX7_readParameter_22 : decode cX7_readParameter 22 = .ok (.goto 4, 3) := by decide +kernel
theorem dX7_readParameter_25 : decode cX7_readParameter 25 = .ok (.iconst 0, 1) := by decide +kernel
theorem dX7_readParameter_26 : decode cX7_readParameter 26 = .ok (.ireturn, 1) := by decide +kernel
theorem dX7_readFurtherWinds_0 : decode cX7_readFurtherWinds 0 = .ok (.iconst 0, 1) := by decide +kernel
theorem dX7_readFurtherWinds_1 : decode cX7_readFurtherWinds 1 = .ok (.istore_n 1, 1) := by decide +kernel
theorem dX7_readFurtherWinds_2 : decode cX7_readFurtherWinds 2 = .ok (.iload_n 1, 1) := by decide +kernel
theorem dX7_readFurtherWinds_3 : decode cX7_readFurtherWinds 3 = .ok (.bipush 60, 2) := by decide +kernel
theorem dX7_readFurtherWinds_5 : decode cX7_readFurtherWinds 5 = .ok (.if_icmp .ge 30, 3) := by decide +kernel
theorem dX7_readFurtherWinds_8 : decode cX7_readFurtherWinds 8 = .ok (.aload_n 0, 1) := by decide +kernel
theorem dX7_readFurtherWinds_9 : decode cX7_readFurtherWinds 9 = .ok (.bipush 62, 2) := by decide +kernel
theorem dX7_readFurtherWinds_11 : decode cX7_readFurtherWinds 11 = .ok (.invokevirtual 48, 3) := by decide +kernel
theorem dX7_readFurtherWinds_14 : decode cX7_readFurtherWinds 14 = .ok (.ifCond .ne 5, 3) := by decide +kernel
theorem dX7_readFurtherWinds_17 : decode cX7_readFurtherWinds 17 = .ok (.iconst 1, 1) := by decide +kernel
theorem dX7_readFurtherWinds_18 : decode cX7_readFurtherWinds 18 = .ok (.ireturn, 1) := by decide +kernel
theorem dX7_readFurtherWinds_19 : decode cX7_readFurtherWinds 19 = .ok (.aload_n 0, 1) := by decide +kernel
theorem dX7_readFurtherWinds_20 : decode cX7_readFurtherWinds 20 = .ok (.iconst 1, 1) := by decide +kernel
theorem dX7_readFurtherWinds_21 : decode cX7_readFurtherWinds 21 = .ok (.invokevirtual 102, 3) := by decide +kernel
theorem dX7_readFurtherWinds_24 : decode cX7_readFurtherWinds 24 = .ok (.ifCond .ne 5, 3) := by decide +kernel
theorem dX7_readFurtherWinds_27 : decode cX7_readFurtherWinds 27 = .ok (.iconst 0, 1) := by decide +kernel
theorem dX7_readFurtherWinds_28 : decode cX7_readFurtherWinds 28 = .ok (.ireturn, 1) := by decide +kernel
theorem dX7_readFurtherWinds_29 : decode cX7_readFurtherWinds 29 = .ok (.iinc 1 1, 3) := by decide +kernel
theorem dX7_readFurtherWinds_32 : decode cX7_readFurtherWinds 32 = .ok (.goto (-30), 3) := by decide +kernel
theorem dX7_readFurtherWinds_35 : decode cX7_readFurtherWinds 35 = .ok (.iconst 0, 1) := by decide +kernel
theorem dX7_readFurtherWinds_36 : decode cX7_readFurtherWinds 36 = .ok (.ireturn, 1) := by decide +kernel
theorem dX7_readNumber_0 : decode cX7_readNumber 0 = .ok (.aload_n 0, 1) := by decide +kernel
theorem dX7_readNumber_1 : decode cX7_readNumber 1 = .ok (.getfield 12, 3) := by decide +kernel
theorem dX7_readNumber_4 : decode cX7_readNumber 4 = .ok (.aload_n 0, 1) := by decide +kernel
theorem dX7_readNumber_5 : decode cX7_readNumber 5 = .ok (.getfield 18, 3) := by decide +kernel
theorem dX7_readNumber_8 : decode cX7_readNumber 8 = .ok (.invokevirtual 105, 3) := by decide +kernel
theorem dX7_readNumber_11 : decode cX7_readNumber 11 = .ok (.istore_n 2, 1) := by decide +kernel
theorem dX7_readNumber_12 : decode cX7_readNumber 12 = .ok (.iload_n 2, 1) := by decide +kernel
theorem dX7_readNumber_13 : decode cX7_readNumber 13 = .ok (.iconst (-1), 1) := by decide +kernel
theorem dX7_readNumber_14 : decode cX7_readNumber 14 = .ok (.if_icmp .eq 15, 3) := by decide +kernel
theorem dX7_readNumber_17 : decode cX7_readNumber 17 = .ok (.aload_n 0, 1) := by decide +kernel
theorem dX7_readNumber_18 : decode cX7_readNumber 18 = .ok (.getfield 35, 3) := by decide +kernel
theorem dX7_readNumber_21 : decode cX7_readNumber 21 = .ok (.aload_n 0, 1) := by decide +kernel
theorem dX7_readNumber_22 : decode cX7_readNumber 22 = .ok (.getfield 31, 3) := by decide +kernel
theorem dX7_readNumber_25 : decode cX7_readNumber 25 = .ok (.arraylength, 1) := by decide +kernel
theorem dX7_readNumber_26 : decode cX7_readNumber 26 = .ok (.if_icmp .lt 5, 3) := by decide +kernel
theorem dX7_readNumber_29 : decode cX7_readNumber 29 = .ok (.iconst 0, 1) := by decide +kernel
theorem dX7_readNumber_30 : decode cX7_readNumber 30 = .ok (.ireturn, 1) := by decide +kernel
theorem dX7_readNumber_31 : decode cX7_readNumber 31 = .ok (.aload_n 0, 1) := by decide +kernel
theorem dX7_readNumber_32 : decode cX7_readNumber 32 = .ok (.dup, 1) := by decide +kernel
theorem dX7_readNumber_33 : decode cX7_readNumber 33 = .ok (.getfield 18, 3) := by decide +kernel
theorem dX7_readNumber_36 : decode cX7_readNumber 36 = .ok (.iconst 1, 1) := by decide +kernel
theorem dX7_readNumber_37 : decode cX7_readNumber 37 = .ok (.iadd, 1) := by decide +kernel
theorem dX7_readNumber_38 : decode cX7_readNumber 38 = .ok (.putfield 18, 3) := by decide +kernel
theorem dX7_readNumber_41 : decode cX7_readNumber 41 = .ok (.aload_n 0, 1) := by decide +kernel
theorem dX7_readNumber_42 : decode cX7_readNumber 42 = .ok (.getfield 12, 3) := by decide +kernel
theorem dX7_readNumber_45 : decode cX7_readNumber 45 = .ok (.aload_n 0, 1) := by decide +kernel
theorem dX7_readNumber_46 : decode cX7_readNumber 46 = .ok (.getfield 18, 3) := by decide +kernel
theorem dX7_readNumber_49 : decode cX7_readNumber 49 = .ok (.invokevirtual 105, 3) := by decide +kernel
theorem dX7_readNumber_52 : decode cX7_readNumber 52 = .ok (.istore_n 3, 1) := by decide +kernel
theorem dX7_readNumber_53 : decode cX7_readNumber 53 = .ok (.iload_n 1, 1) := by decide +kernel
theorem dX7_readNumber_54 : decode cX7_readNumber 54 = .ok (.iconst 2, 1) := by decide +kernel
theorem dX7_readNumber_55 : decode cX7_readNumber 55 = .ok (.if_icmp .ne 25, 3) := by decide +kernel
theorem dX7_readNumber_58 : decode cX7_readNumber 58 = .ok (.iload_n 3, 1) := by decide +kernel
theorem dX7_readNumber_59 : decode cX7_readNumber 59 = .ok (.iconst (-1), 1) := by decide +kernel
theorem dX7_readNumber_60 : decode cX7_readNumber 60 = .ok (.if_icmp .eq 20, 3) := by decide +kernel
theorem dX7_readNumber_63 : decode cX7_readNumber 63 = .ok (.bipush 10, 2) := by decide +kernel
theorem dX7_readNumber_65 : decode cX7_readNumber 65 = .ok (.iload_n 2, 1) := by decide +kernel
theorem dX7_readNumber_66 : decode cX7_readNumber 66 = .ok (.imul, 1) := by decide +kernel
theorem dX7_readNumber_67 : decode cX7_readNumber 67 = .ok (.iload_n 3, 1) := by decide +kernel
theorem dX7_readNumber_68 : decode cX7_readNumber 68 = .ok (.iadd, 1) := by decide +kernel
theorem dX7_readNumber_69 : decode cX7_readNumber 69 = .ok (.istore_n 2, 1) := by decide +kernel
theorem dX7_readNumber_70 : decode cX7_readNumber 70 = .ok (.aload_n 0, 1) := by decide +kernel
theorem dX7_readNumber_71 : decode cX7_readNumber 71 = .ok (.dup, 1) := by decide +kernel
theorem dX7_readNumber_72 : decode cX7_readNumber 72 = .ok (.getfield 18, 3) := by decide +kernel
theorem dX7_readNumber_75 : decode cX7_readNumber 75 = .ok (.iconst 1, 1) := by decide +kernel
theorem dX7_readNumber_76 : decode cX7_readNumber 76 = .ok (.iadd, 1) := by decide +kernel
theorem dX7_readNumber_77 : decode cX7_readNumber 77 = .ok (.putfield 18, 3) := by decide +kernel
theorem dX7_readNumber_80 : decode cX7_readNumber 80 = .ok (.aload_n 0, 1) := by decide +kernel
theorem dX7_readNumber_81 : decode cX7_readNumber 81 = .ok (.getfield 31, 3) := by decide +kernel
theorem dX7_readNumber_84 : decode cX7_readNumber 84 = .ok (.aload_n 0, 1) := by decide +kernel
theorem dX7_readNumber_85 : decode cX7_readNumber 85 = .ok (.getfield 35, 3) := by decide +kernel
theorem dX7_readNumber_88 : decode cX7_readNumber 88 = .ok (.iload_n 2, 1) := by decide +kernel
theorem dX7_readNumber_89 : decode cX7_readNumber 89 = .ok (.iastore, 1) := by decide +kernel
theorem dX7_readNumber_90 : decode cX7_readNumber 90 = .ok (.aload_n 0, 1) := by decide +kernel
theorem dX7_readNumber_91 : decode cX7_readNumber 91 = .ok (.dup, 1) := by decide +kernel
theorem dX7_readNumber_92 : decode cX7_readNumber 92 = .ok (.getfield 35, 3) := by decide +kernel
theorem dX7_readNumber_95 : decode cX7_readNumber 95 = .ok (.iconst 1, 1) := by decide +kernel
theorem dX7_readNumber_96 : decode cX7_readNumber 96 = .ok (.iadd, 1) := by decide +kernel
theorem dX7_readNumber_97 : decode cX7_readNumber 97 = .ok (.putfield 35, 3) := by decide +kernel
theorem dX7_readNumber_100 : decode cX7_readNumber 100 = .ok (.iconst 1, 1) := by decide +kernel
theorem dX7_readNumber_101 : decode cX7_readNumber 101 = .ok (.ireturn, 1) := by decide +kernel
theorem dX7_accept_0 : decode cX7_accept 0 = .ok (.aload_n 0, 1) := by decide +kernel
theorem dX7_accept_1 : decode cX7_accept 1 = .ok (.getfield 12, 3) := by decide +kernel
theorem dX7_accept_4 : decode cX7_accept 4 = .ok (.aload_n 0, 1) := by decide +kernel
theorem dX7_accept_5 : decode cX7_accept 5 = .ok (.getfield 18, 3) := by decide +kernel
theorem dX7_accept_8 : decode cX7_accept 8 = .ok (.iload_n 1, 1) := by decide +kernel
theorem dX7_accept_9 : decode cX7_accept 9 = .ok (.invokevirtual 98, 3) := by decide +kernel
theorem dX7_accept_12 : decode cX7_accept 12 = .ok (.ifCond .ne 5, 3) := by decide +kernel
theorem dX7_accept_15 : decode cX7_accept 15 = .ok (.iconst 0, 1) := by decide +kernel
theorem dX7_accept_16 : decode cX7_accept 16 = .ok (.ireturn, 1) := by decide +kernel
theorem dX7_accept_17 : decode cX7_accept 17 = .ok (.aload_n 0, 1) := by decide +kernel
theorem dX7_accept_18 : decode cX7_accept 18 = .ok (.dup, 1) := by decide +kernel
theorem dX7_accept_19 : decode cX7_accept 19 = .ok (.getfield 18, 3) := by decide +kernel
theorem dX7_accept_22 : decode cX7_accept 22 = .ok (.iconst 1, 1) := by decide +kernel
theorem dX7_accept_23 : decode cX7_accept 23 = .ok (.iadd, 1) := by decide +kernel
theorem dX7_accept_24 : decode cX7_accept 24 = .ok (.putfield 18, 3) := by decide +kernel
theorem dX7_accept_27 : decode cX7_accept 27 = .ok (.iconst 1, 1) := by decide +kernel
theorem dX7_accept_28 : decode cX7_accept 28 = .ok (.ireturn, 1) := by decide +kernel
theorem dX8_init_0 : decode cX8_init 0 = .ok (.aload_n 0, 1) := by decide +kernel
theorem dX8_init_1 : decode cX8_init 1 = .ok (.invokespecial 3, 3) := by decide +kernel
theorem dX8_init_4 : decode cX8_init 4 = .ok (.aload_n 0, 1) := by decide +kernel
theorem dX8_init_5 : decode cX8_init 5 = .ok (.bipush 8, 2) := by decide +kernel
theorem dX8_init_7 : decode cX8_init 7 = .ok (.newarray .int, 2) := by decide +kernel
theorem dX8_init_9 : decode cX8_init 9 = .ok (.putfield 9, 3) := by decide +kernel
theorem dX8_init_12 : decode cX8_init 12 = .ok (.aload_n 0, 1) := by decide +kernel
theorem dX8_init_13 : decode cX8_init 13 = .ok (.iconst 0, 1) := by decide +kernel
theorem dX8_init_14 : decode cX8_init 14 = .ok (.putfield 15, 3) := by decide +kernel
theorem dX8_init_17 : decode cX8_init 17 = .ok (.aload_n 0, 1) := by decide +kernel
theorem dX8_init_18 : decode cX8_init 18 = .ok (.iconst (-1), 1) := by decide +kernel
theorem dX8_init_19 : decode cX8_init 19 = .ok (.putfield 19, 3) := by decide +kernel
theorem dX8_init_22 : decode cX8_init 22 = .ok (.aload_n 0, 1) := by decide +kernel
theorem dX8_init_23 : decode cX8_init 23 = .ok (.iconst (-1), 1) := by decide +kernel
theorem dX8_init_24 : decode cX8_init 24 = .ok (.putfield 22, 3) := by decide +kernel
theorem dX8_init_27 : decode cX8_init 27 = .ok (.aload_n 0, 1) := by decide +kernel
theorem dX8_init_28 : decode cX8_init 28 = .ok (.iconst 0, 1) := by decide +kernel
theorem dX8_init_29 : decode cX8_init 29 = .ok (.putfield 25, 3) := by decide +kernel
theorem dX8_init_32 : decode cX8_init 32 = .ok (.return_, 1) := by decide +kernel
theorem dX8_openFirst_0 : decode cX8_openFirst 0 = .ok (.iconst 0, 1) := by decide +kernel
theorem dX8_openFirst_1 : decode cX8_openFirst 1 = .ok (.istore_n 2, 1) := by decide +kernel
theorem dX8_openFirst_2 : decode cX8_openFirst 2 = .ok (.iload_n 2, 1) := by decide +kernel
theorem dX8_openFirst_3 : decode cX8_openFirst 3 = .ok (.bipush 8, 2) := by decide +kernel
theorem dX8_openFirst_5 : decode cX8_openFirst 5 = .ok (.if_icmp .ge 37, 3) := by decide +kernel
theorem dX8_openFirst_8 : decode cX8_openFirst 8 = .ok (.aload_n 0, 1) := by decide +kernel
theorem dX8_openFirst_9 : decode cX8_openFirst 9 = .ok (.getfield 9, 3) := by decide +kernel
theorem dX8_openFirst_12 : decode cX8_openFirst 12 = .ok (.iload_n 2, 1) := by decide +kernel
theorem dX8_openFirst_13 : decode cX8_openFirst 13 = .ok (.aload_n 1, 1) := by decide +kernel
theorem dX8_openFirst_14 : decode cX8_openFirst 14 = .ok (.iload_n 2, 1) := by decide +kernel
theorem dX8_openFirst_15 : decode cX8_openFirst 15 = .ok (.invokevirtual 29, 3) := by decide +kernel
theorem dX8_openFirst_18 : decode cX8_openFirst 18 = .ok (.ifCond .eq 16, 3) := by decide +kernel
theorem dX8_openFirst_21 : decode cX8_openFirst 21 = .ok (.aload_n 1, 1) := by decide +kernel
theorem dX8_openFirst_22 : decode cX8_openFirst 22 = .ok (.getfield 35, 3) := by decide +kernel
theorem dX8_openFirst_25 : decode cX8_openFirst 25 = .ok (.iload_n 2, 1) := by decide +kernel
theorem dX8_openFirst_26 : decode cX8_openFirst 26 = .ok (.baload, 1) := by decide +kernel
theorem dX8_openFirst_27 : decode cX8_openFirst 27 = .ok (.ifCond .eq 7, 3) := by decide +kernel
theorem dX8_openFirst_30 : decode cX8_openFirst 30 = .ok (.iconst 0, 1) := by decide +kernel
theorem dX8_openFirst_31 : decode cX8_openFirst 31 = .ok (.goto 4, 3) := by decide +kernel
theorem dX8_openFirst_34 : decode cX8_openFirst 34 = .ok (.iconst (-1), 1) := by decide +kernel
theorem dX8_openFirst_35 : decode cX8_openFirst 35 = .ok (.iastore, 1) := by decide +kernel
theorem dX8_openFirst_36 : decode cX8_openFirst 36 = .ok (.iinc 2 1, 3) := by decide +kernel
theorem dX8_openFirst_39 : decode cX8_openFirst 39 = .ok (.goto (-37), 3) := by decide +kernel
theorem dX8_openFirst_42 : decode cX8_openFirst 42 = .ok (.aload_n 0, 1) := by decide +kernel
theorem dX8_openFirst_43 : decode cX8_openFirst 43 = .ok (.iconst 0, 1) := by decide +kernel
theorem dX8_openFirst_44 : decode cX8_openFirst 44 = .ok (.putfield 15, 3) := by decide +kernel
theorem dX8_openFirst_47 : decode cX8_openFirst 47 = .ok (.return_, 1) := by decide +kernel
theorem dX8_openAfter_0 : decode cX8_openAfter 0 = .ok (.iconst 0, 1) := by decide +kernel
theorem dX8_openAfter_1 : decode cX8_openAfter 1 = .ok (.istore_n 2, 1) := by decide +kernel
theorem dX8_openAfter_2 : decode cX8_openAfter 2 = .ok (.iload_n 2, 1) := by decide +kernel
theorem dX8_openAfter_3 : decode cX8_openAfter 3 = .ok (.bipush 8, 2) := by decide +kernel
theorem dX8_openAfter_5 : decode cX8_openAfter 5 = .ok (.if_icmp .ge 36, 3) := by decide +kernel
theorem dX8_openAfter_8 : decode cX8_openAfter 8 = .ok (.aload_n 0, 1) := by decide +kernel
theorem dX8_openAfter_9 : decode cX8_openAfter 9 = .ok (.getfield 9, 3) := by decide +kernel
theorem dX8_openAfter_12 : decode cX8_openAfter 12 = .ok (.iload_n 2, 1) := by decide +kernel
theorem dX8_openAfter_13 : decode cX8_openAfter 13 = .ok (.aload_n 1, 1) := by decide +kernel
theorem dX8_openAfter_14 : decode cX8_openAfter 14 = .ok (.iload_n 2, 1) := by decide +kernel
theorem dX8_openAfter_15 : decode cX8_openAfter 15 = .ok (.invokevirtual 39, 3) := by decide +kernel
theorem dX8_openAfter_18 : decode cX8_openAfter 18 = .ok (.ifCond .eq 15, 3) := by decide +kernel
theorem dX8_openAfter_21 : decode cX8_openAfter 21 = .ok (.iload_n 2, 1) := by decide +kernel
theorem dX8_openAfter_22 : decode cX8_openAfter 22 = .ok (.aload_n 1, 1) := by decide +kernel
theorem dX8_openAfter_23 : decode cX8_openAfter 23 = .ok (.getfield 22, 3) := by decide +kernel
theorem dX8_openAfter_26 : decode cX8_openAfter 26 = .ok (.if_icmp .eq 7, 3) := by decide +kernel
theorem dX8_openAfter_29 : decode cX8_openAfter 29 = .ok (.iconst 0, 1) := by decide +kernel
theorem dX8_openAfter_30 : decode cX8_openAfter 30 = .ok (.goto 4, 3) := by decide +kernel
theorem dX8_openAfter_33 : decode cX8_openAfter 33 = .ok (.iconst (-1), 1) := by decide +kernel
theorem dX8_openAfter_34 : decode cX8_openAfter 34 = .ok (.iastore, 1) := by decide +kernel
theorem dX8_openAfter_35 : decode cX8_openAfter 35 = .ok (.iinc 2 1, 3) := by decide +kernel
theorem dX8_openAfter_38 : decode cX8_openAfter 38 = .ok (.goto (-36), 3) := by decide +kernel
theorem dX8_openAfter_41 : decode cX8_openAfter 41 = .ok (.aload_n 0, 1) := by decide +kernel
theorem dX8_openAfter_42 : decode cX8_openAfter 42 = .ok (.iconst 0, 1) := by decide +kernel
theorem dX8_openAfter_43 : decode cX8_openAfter 43 = .ok (.putfield 15, 3) := by decide +kernel
theorem dX8_openAfter_46 : decode cX8_openAfter 46 = .ok (.return_, 1) := by decide +kernel
theorem dX8_continues_0 : decode cX8_continues 0 = .ok (.iload_n 1, 1) := by decide +kernel
theorem dX8_continues_1 : decode cX8_continues 1 = .ok (.ifCond .lt 23, 3) := by decide +kernel
theorem dX8_continues_4 : decode cX8_continues 4 = .ok (.iload_n 1, 1) := by decide +kernel
theorem dX8_continues_5 : decode cX8_continues 5 = .ok (.bipush 8, 2) := by decide +kernel
theorem dX8_continues_7 : decode cX8_continues 7 = .ok (.if_icmp .ge 17, 3) := by decide +kernel
theorem dX8_continues_10 : decode cX8_continues 10 = .ok (.aload_n 0, 1) := by decide +kernel
theorem dX8_continues_11 : decode cX8_continues 11 = .ok (.getfield 9, 3) := by decide +kernel
theorem dX8_continues_14 : decode cX8_continues 14 = .ok (.iload_n 1, 1) := by decide +kernel
theorem dX8_continues_15 : decode cX8_continues 15 = .ok (.iaload, 1) := by decide +kernel
theorem dX8_continues_16 : decode cX8_continues 16 = .ok (.iconst (-1), 1) := by decide +kernel
theorem dX8_continues_17 : decode cX8_continues 17 = .ok (.if_icmp .eq 7, 3) := by decide +kernel
theorem dX8_continues_20 : decode cX8_continues 20 = .ok (.iconst 1, 1) := by decide +kernel
theorem dX8_continues_21 : decode cX8_continues 21 = .ok (.goto 4, 3) := by decide +kernel
theorem dX8_continues_24 : decode cX8_continues 24 = .ok (.iconst 0, 1) := by decide +kernel
theorem dX8_continues_25 : decode cX8_continues 25 = .ok (.ireturn, 1) := by decide +kernel
theorem dX8_votesOf_0 : decode cX8_votesOf 0 = .ok (.aload_n 0, 1) := by decide +kernel
theorem dX8_votesOf_1 : decode cX8_votesOf 1 = .ok (.iload_n 1, 1) := by decide +kernel
theorem dX8_votesOf_2 : decode cX8_votesOf 2 = .ok (.invokevirtual 39, 3) := by decide +kernel
theorem dX8_votesOf_5 : decode cX8_votesOf 5 = .ok (.ifCond .eq 12, 3) := by decide +kernel
theorem dX8_votesOf_8 : decode cX8_votesOf 8 = .ok (.aload_n 0, 1) := by decide +kernel
theorem dX8_votesOf_9 : decode cX8_votesOf 9 = .ok (.getfield 9, 3) := by decide +kernel
theorem dX8_votesOf_12 : decode cX8_votesOf 12 = .ok (.iload_n 1, 1) := by decide +kernel
theorem dX8_votesOf_13 : decode cX8_votesOf 13 = .ok (.iaload, 1) := by decide +kernel
theorem dX8_votesOf_14 : decode cX8_votesOf 14 = .ok (.goto 4, 3) := by decide +kernel
theorem dX8_votesOf_17 : decode cX8_votesOf 17 = .ok (.iconst 0, 1) := by decide +kernel
theorem dX8_votesOf_18 : decode cX8_votesOf 18 = .ok (.ireturn, 1) := by decide +kernel
theorem dX8_add_0 : decode cX8_add 0 = .ok (.iconst 0, 1) := by decide +kernel
theorem dX8_add_1 : decode cX8_add 1 = .ok (.istore_n 2, 1) := by decide +kernel
theorem dX8_add_2 : decode cX8_add 2 = .ok (.iload_n 2, 1) := by decide +kernel
theorem dX8_add_3 : decode cX8_add 3 = .ok (.aload_n 1, 1) := by decide +kernel
theorem dX8_add_4 : decode cX8_add 4 = .ok (.getfield 42, 3) := by decide +kernel
theorem dX8_add_7 : decode cX8_add 7 = .ok (.if_icmp .ge 39, 3) := by decide +kernel
theorem dX8_add_10 : decode cX8_add 10 = .ok (.aload_n 1, 1) := by decide +kernel
theorem dX8_add_11 : decode cX8_add 11 = .ok (.getfield 47, 3) := by decide +kernel
theorem dX8_add_14 : decode cX8_add 14 = .ok (.iload_n 2, 1) := by decide +kernel
theorem dX8_add_15 : decode cX8_add 15 = .ok (.iaload, 1) := by decide +kernel
theorem dX8_add_16 : decode cX8_add 16 = .ok (.istore_n 3, 1) := by decide +kernel
theorem dX8_add_17 : decode cX8_add 17 = .ok (.aload_n 0, 1) := by decide +kernel
theorem dX8_add_18 : decode cX8_add 18 = .ok (.iload_n 3, 1) := by decide +kernel
theorem dX8_add_19 : decode cX8_add 19 = .ok (.invokevirtual 39, 3) := by decide +kernel
theorem dX8_add_22 : decode cX8_add 22 = .ok (.ifCond .eq 18, 3) := by decide +kernel
theorem dX8_add_25 : decode cX8_add 25 = .ok (.aload_n 0, 1) := by decide +kernel
theorem dX8_add_26 : decode cX8_add 26 = .ok (.getfield 9, 3) := by decide +kernel
theorem dX8_add_29 : decode cX8_add 29 = .ok (.iload_n 3, 1) := by decide +kernel
theorem dX8_add_30 : decode cX8_add 30 = .ok (.dup2, 1) := by decide +kernel
theorem dX8_add_31 : decode cX8_add 31 = .ok (.iaload, 1) := by decide +kernel
theorem dX8_add_32 : decode cX8_add 32 = .ok (.aload_n 1, 1) := by decide +kernel
theorem dX8_add_33 : decode cX8_add 33 = .ok (.getfield 50, 3) := by decide +kernel
theorem dX8_add_36 : decode cX8_add 36 = .ok (.iadd, 1) := by decide +kernel
theorem dX8_add_37 : decode cX8_add 37 = .ok (.iastore, 1) := by decide +kernel
theorem dX8_add_38 : decode cX8_add 38 = .ok (.iload_n 3, 1) := by decide +kernel
theorem dX8_add_39 : decode cX8_add 39 = .ok (.ireturn, 1) := by decide +kernel
theorem dX8_add_40 : decode cX8_add 40 = .ok (.iinc 2 1, 3) := by decide +kernel
theorem dX8_add_43 : decode cX8_add 43 = .ok (.goto (-41), 3) := by decide +kernel
theorem dX8_add_46 : decode cX8_add 46 = .ok (.aload_n 0, 1) := by decide +kernel
theorem dX8_add_47 : decode cX8_add 47 = .ok (.dup, 1) := by decide +kernel
theorem dX8_add_48 : decode cX8_add 48 = .ok (.getfield 15, 3) := by decide +kernel
theorem dX8_add_51 : decode cX8_add 51 = .ok (.aload_n 1, 1) := by decide +kernel
theorem dX8_add_52 : decode cX8_add 52 = .ok (.getfield 50, 3) := by decide +kernel
theorem dX8_add_55 : decode cX8_add 55 = .ok (.iadd, 1) := by decide +kernel
theorem dX8_add_56 : decode cX8_add 56 = .ok (.putfield 15, 3) := by decide +kernel
theorem dX8_add_59 : decode cX8_add 59 = .ok (.iconst (-1), 1) := by decide +kernel
theorem dX8_add_60 : decode cX8_add 60 = .ok (.ireturn, 1) := by decide +kernel
theorem dX8_decide_0 : decode cX8_decide 0 = .ok (.aload_n 0, 1) := by decide +kernel
theorem dX8_decide_1 : decode cX8_decide 1 = .ok (.iconst 0, 1) := by decide +kernel
theorem dX8_decide_2 : decode cX8_decide 2 = .ok (.putfield 25, 3) := by decide +kernel
theorem dX8_decide_5 : decode cX8_decide 5 = .ok (.aload_n 0, 1) := by decide +kernel
theorem dX8_decide_6 : decode cX8_decide 6 = .ok (.iconst (-1), 1) := by decide +kernel
theorem dX8_decide_7 : decode cX8_decide 7 = .ok (.putfield 22, 3) := by decide +kernel
theorem dX8_decide_10 : decode cX8_decide 10 = .ok (.aload_n 0, 1) := by decide +kernel
theorem dX8_decide_11 : decode cX8_decide 11 = .ok (.aload_n 0, 1) := by decide +kernel
theorem dX8_decide_12 : decode cX8_decide 12 = .ok (.aload_n 0, 1) := by decide +kernel
theorem dX8_decide_13 : decode cX8_decide 13 = .ok (.invokevirtual 53, 3) := by decide +kernel
theorem dX8_decide_16 : decode cX8_decide 16 = .ok (.aload_n 0, 1) := by decide +kernel
theorem dX8_decide_17 : decode cX8_decide 17 = .ok (.invokevirtual 57, 3) := by decide +kernel
theorem dX8_decide_20 : decode cX8_decide 20 = .ok (.invokevirtual 60, 3) := by decide +kernel
theorem dX8_decide_23 : decode cX8_decide 23 = .ok (.putfield 19, 3) := by decide +kernel
theorem dX8_decide_26 : decode cX8_decide 26 = .ok (.aload_n 0, 1) := by decide +kernel
theorem dX8_decide_27 : decode cX8_decide 27 = .ok (.getfield 19, 3) := by decide +kernel
theorem dX8_decide_30 : decode cX8_decide 30 = .ok (.iconst (-1), 1) := by decide +kernel
theorem dX8_decide_31 : decode cX8_decide 31 = .ok (.if_icmp .eq 5, 3) := by decide +kernel
theorem dX8_decide_34 : decode cX8_decide 34 = .ok (.iload_n 1, 1) := by decide +kernel
theorem dX8_decide_35 : decode cX8_decide 35 = .ok (.ireturn, 1) := by decide +kernel
theorem dX8_decide_36 : decode cX8_decide 36 = .ok (.aload_n 0, 1) := by decide +kernel
theorem dX8_decide_37 : decode cX8_decide 37 = .ok (.invokevirtual 64, 3) := by decide +kernel
theorem dX8_decide_40 : decode cX8_decide 40 = .ok (.istore_n 2, 1) := by decide +kernel
theorem dX8_decide_41 : decode cX8_decide 41 = .ok (.aload_n 0, 1) := by decide +kernel
theorem dX8_decide_42 : decode cX8_decide 42 = .ok (.iload_n 2, 1) := by decide +kernel
theorem dX8_decide_43 : decode cX8_decide 43 = .ok (.invokevirtual 67, 3) := by decide +kernel
theorem dX8_decide_46 : decode cX8_decide 46 = .ok (.istore_n 3, 1) := by decide +kernel
theorem dX8_decide_47 : decode cX8_decide 47 = .ok (.iload_n 3, 1) := by decide +kernel
theorem dX8_decide_48 : decode cX8_decide 48 = .ok (.iconst 2, 1) := by decide +kernel
theorem dX8_decide_49 : decode cX8_decide 49 = .ok (.if_icmp .ge 15, 3) := by decide +kernel
theorem dX8_decide_52 : decode cX8_decide 52 = .ok (.aload_n 0, 1) := by decide +kernel
theorem dX8_decide_53 : decode cX8_decide 53 = .ok (.aload_n 0, 1) := by decide +kernel
theorem dX8_decide_54 : decode cX8_decide 54 = .ok (.iload_n 2, 1) := by decide +kernel
theorem dX8_decide_55 : decode cX8_decide 55 = .ok (.iconst 0, 1) := by decide +kernel
theorem dX8_decide_56 : decode cX8_decide 56 = .ok (.invokevirtual 71, 3) := by decide +kernel
theorem dX8_decide_59 : decode cX8_decide 59 = .ok (.putfield 22, 3) := by decide +kernel
theorem dX8_decide_62 : decode cX8_decide 62 = .ok (.iload_n 1, 1) := by decide +kernel
theorem dX8_decide_63 : decode cX8_decide 63 = .ok (.ireturn, 1) := by decide +kernel
theorem dX8_decide_64 : decode cX8_decide 64 = .ok (.aload_n 0, 1) := by decide +kernel
theorem dX8_decide_65 : decode cX8_decide 65 = .ok (.iconst 1, 1) := by decide +kernel
theorem dX8_decide_66 : decode cX8_decide 66 = .ok (.putfield 25, 3) := by decide +kernel
theorem dX8_decide_69 : decode cX8_decide 69 = .ok (.iload_n 1, 1) := by decide +kernel
theorem dX8_decide_70 : decode cX8_decide 70 = .ok (.invokestatic 74, 3) := by decide +kernel
theorem dX8_decide_73 : decode cX8_decide 73 = .ok (.istore 4, 2) := by decide +kernel
theorem dX8_decide_75 : decode cX8_decide 75 = .ok (.aload_n 0, 1) := by decide +kernel
theorem dX8_decide_76 : decode cX8_decide 76 = .ok (.aload_n 0, 1) := by decide +kernel
theorem dX8_decide_77 : decode cX8_decide 77 = .ok (.iload_n 2, 1) := by decide +kernel
theorem dX8_decide_78 : decode cX8_decide 78 = .ok (.iload 4, 2) := by decide +kernel
theorem dX8_decide_80 : decode cX8_decide 80 = .ok (.iload_n 3, 1) := by decide +kernel
theorem dX8_decide_81 : decode cX8_decide 81 = .ok (.irem, 1) := by decide +kernel
theorem dX8_decide_82 : decode cX8_decide 82 = .ok (.invokevirtual 71, 3) := by decide +kernel
theorem dX8_decide_85 : decode cX8_decide 85 = .ok (.putfield 22, 3) := by decide +kernel
theorem dX8_decide_88 : decode cX8_decide 88 = .ok (.iload 4, 2) := by decide +kernel
theorem dX8_decide_90 : decode cX8_decide 90 = .ok (.ireturn, 1) := by decide +kernel
theorem dX8_windThatWins_0 : decode cX8_windThatWins 0 = .ok (.iconst 0, 1) := by decide +kernel
theorem dX8_windThatWins_1 : decode cX8_windThatWins 1 = .ok (.istore_n 3, 1) := by decide +kernel
theorem dX8_windThatWins_2 : decode cX8_windThatWins 2 = .ok (.iload_n 3, 1) := by decide +kernel
theorem dX8_windThatWins_3 : decode cX8_windThatWins 3 = .ok (.bipush 8, 2) := by decide +kernel
theorem dX8_windThatWins_5 : decode cX8_windThatWins 5 = .ok (.if_icmp .ge 38, 3) := by decide +kernel
theorem dX8_windThatWins_8 : decode cX8_windThatWins 8 = .ok (.aload_n 0, 1) := by decide +kernel
theorem dX8_windThatWins_9 : decode cX8_windThatWins 9 = .ok (.getfield 9, 3) := by decide +kernel
theorem dX8_windThatWins_12 : decode cX8_windThatWins 12 = .ok (.iload_n 3, 1) := by decide +kernel
theorem dX8_windThatWins_13 : decode cX8_windThatWins 13 = .ok (.iaload, 1) := by decide +kernel
theorem dX8_windThatWins_14 : decode cX8_windThatWins 14 = .ok (.iconst (-1), 1) := by decide +kernel
theorem dX8_windThatWins_15 : decode cX8_windThatWins 15 = .ok (.if_icmp .eq 22, 3) := by decide +kernel
theorem dX8_windThatWins_18 : decode cX8_windThatWins 18 = .ok (.iload_n 2, 1) := by decide +kernel
theorem dX8_windThatWins_19 : decode cX8_windThatWins 19 = .ok (.iconst 1, 1) := by decide +kernel
theorem dX8_windThatWins_20 : decode cX8_windThatWins 20 = .ok (.if_icmp .eq 15, 3) := by decide +kernel
theorem dX8_windThatWins_23 : decode cX8_windThatWins 23 = .ok (.iconst 2, 1) := by decide +kernel
theorem dX8_windThatWins_24 : decode cX8_windThatWins 24 = .ok (.aload_n 0, 1) := by decide +kernel
theorem dX8_windThatWins_25 : decode cX8_windThatWins 25 = .ok (.getfield 9, 3) := by decide +kernel
theorem dX8_windThatWins_28 : decode cX8_windThatWins 28 = .ok (.iload_n 3, 1) := by decide +kernel
theorem dX8_windThatWins_29 : decode cX8_windThatWins 29 = .ok (.iaload, 1) := by decide +kernel
theorem dX8_windThatWins_30 : decode cX8_windThatWins 30 = .ok (.imul, 1) := by decide +kernel
theorem dX8_windThatWins_31 : decode cX8_windThatWins 31 = .ok (.iload_n 1, 1) := by decide +kernel
theorem dX8_windThatWins_32 : decode cX8_windThatWins 32 = .ok (.if_icmp .le 5, 3) := by decide +kernel
theorem dX8_windThatWins_35 : decode cX8_windThatWins 35 = .ok (.iload_n 3, 1) := by decide +kernel
theorem dX8_windThatWins_36 : decode cX8_windThatWins 36 = .ok (.ireturn, 1) := by decide +kernel
theorem dX8_windThatWins_37 : decode cX8_windThatWins 37 = .ok (.iinc 3 1, 3) := by decide +kernel
theorem dX8_windThatWins_40 : decode cX8_windThatWins 40 = .ok (.goto (-38), 3) := by decide +kernel
theorem dX8_windThatWins_43 : decode cX8_windThatWins 43 = .ok (.iconst (-1), 1) := by decide +kernel
theorem dX8_windThatWins_44 : decode cX8_windThatWins 44 = .ok (.ireturn, 1) := by decide +kernel
theorem dX8_sumOfVotes_0 : decode cX8_sumOfVotes 0 = .ok (.iconst 0, 1) := by decide +kernel
theorem dX8_sumOfVotes_1 : decode cX8_sumOfVotes 1 = .ok (.istore_n 1, 1) := by decide +kernel
theorem dX8_sumOfVotes_2 : decode cX8_sumOfVotes 2 = .ok (.iconst 0, 1) := by decide +kernel
theorem dX8_sumOfVotes_3 : decode cX8_sumOfVotes 3 = .ok (.istore_n 2, 1) := by decide +kernel
theorem dX8_sumOfVotes_4 : decode cX8_sumOfVotes 4 = .ok (.iload_n 2, 1) := by decide +kernel
theorem dX8_sumOfVotes_5 : decode cX8_sumOfVotes 5 = .ok (.bipush 8, 2) := by decide +kernel
theorem dX8_sumOfVotes_7 : decode cX8_sumOfVotes 7 = .ok (.if_icmp .ge 28, 3) := by decide +kernel
theorem dX8_sumOfVotes_10 : decode cX8_sumOfVotes 10 = .ok (.aload_n 0, 1) := by decide +kernel
theorem dX8_sumOfVotes_11 : decode cX8_sumOfVotes 11 = .ok (.getfield 9, 3) := by decide +kernel
theorem dX8_sumOfVotes_14 : decode cX8_sumOfVotes 14 = .ok (.iload_n 2, 1) := by decide +kernel
theorem dX8_sumOfVotes_15 : decode cX8_sumOfVotes 15 = .ok (.iaload, 1) := by decide +kernel
theorem dX8_sumOfVotes_16 : decode cX8_sumOfVotes 16 = .ok (.iconst (-1), 1) := by decide +kernel
theorem dX8_sumOfVotes_17 : decode cX8_sumOfVotes 17 = .ok (.if_icmp .eq 12, 3) := by decide +kernel
theorem dX8_sumOfVotes_20 : decode cX8_sumOfVotes 20 = .ok (.iload_n 1, 1) := by decide +kernel
theorem dX8_sumOfVotes_21 : decode cX8_sumOfVotes 21 = .ok (.aload_n 0, 1) := by decide +kernel
theorem dX8_sumOfVotes_22 : decode cX8_sumOfVotes 22 = .ok (.getfield 9, 3) := by decide +kernel
theorem dX8_sumOfVotes_25 : decode cX8_sumOfVotes 25 = .ok (.iload_n 2, 1) := by decide +kernel
theorem dX8_sumOfVotes_26 : decode cX8_sumOfVotes 26 = .ok (.iaload, 1) := by decide +kernel
theorem dX8_sumOfVotes_27 : decode cX8_sumOfVotes 27 = .ok (.iadd, 1) := by decide +kernel
theorem dX8_sumOfVotes_28 : decode cX8_sumOfVotes 28 = .ok (.istore_n 1, 1) := by decide +kernel
theorem dX8_sumOfVotes_29 : decode cX8_sumOfVotes 29 = .ok (.iinc 2 1, 3) := by decide +kernel
theorem dX8_sumOfVotes_32 : decode cX8_sumOfVotes 32 = .ok (.goto (-28), 3) := by decide +kernel
theorem dX8_sumOfVotes_35 : decode cX8_sumOfVotes 35 = .ok (.iload_n 1, 1) := by decide +kernel
theorem dX8_sumOfVotes_36 : decode cX8_sumOfVotes 36 = .ok (.ireturn, 1) := by decide +kernel
theorem dX8_continuingWinds_0 : decode cX8_continuingWinds 0 = .ok (.iconst 0, 1) := by decide +kernel
theorem dX8_continuingWinds_1 : decode cX8_continuingWinds 1 = .ok (.istore_n 1, 1) := by decide +kernel
theorem dX8_continuingWinds_2 : decode cX8_continuingWinds 2 = .ok (.iconst 0, 1) := by decide +kernel
theorem dX8_continuingWinds_3 : decode cX8_continuingWinds 3 = .ok (.istore_n 2, 1) := by decide +kernel
theorem dX8_continuingWinds_4 : decode cX8_continuingWinds 4 = .ok (.iload_n 2, 1) := by decide +kernel
theorem dX8_continuingWinds_5 : decode cX8_continuingWinds 5 = .ok (.bipush 8, 2) := by decide +kernel
theorem dX8_continuingWinds_7 : decode cX8_continuingWinds 7 = .ok (.if_icmp .ge 22, 3) := by decide +kernel
theorem dX8_continuingWinds_10 : decode cX8_continuingWinds 10 = .ok (.aload_n 0, 1) := by decide +kernel
theorem dX8_continuingWinds_11 : decode cX8_continuingWinds 11 = .ok (.getfield 9, 3) := by decide +kernel
theorem dX8_continuingWinds_14 : decode cX8_continuingWinds 14 = .ok (.iload_n 2, 1) := by decide +kernel
theorem dX8_continuingWinds_15 : decode cX8_continuingWinds 15 = .ok (.iaload, 1) := by decide +kernel
theorem dX8_continuingWinds_16 : decode cX8_continuingWinds 16 = .ok (.iconst (-1), 1) := by decide +kernel
theorem dX8_continuingWinds_17 : decode cX8_continuingWinds 17 = .ok (.if_icmp .eq 6, 3) := by decide +kernel
theorem dX8_continuingWinds_20 : decode cX8_continuingWinds 20 = .ok (.iinc 1 1, 3) := by decide +kernel
theorem dX8_continuingWinds_23 : decode cX8_continuingWinds 23 = .ok (.iinc 2 1, 3) := by decide +kernel
theorem dX8_continuingWinds_26 : decode cX8_continuingWinds 26 = .ok (.goto (-22), 3) := by decide +kernel
theorem dX8_continuingWinds_29 : decode cX8_continuingWinds 29 = .ok (.iload_n 1, 1) := by decide +kernel
theorem dX8_continuingWinds_30 : decode cX8_continuingWinds 30 = .ok (.ireturn, 1) := by decide +kernel
theorem dX8_fewestVotes_0 : decode cX8_fewestVotes 0 = .ok (.iconst (-1), 1) := by decide +kernel
theorem dX8_fewestVotes_1 : decode cX8_fewestVotes 1 = .ok (.istore_n 1, 1) := by decide +kernel
theorem dX8_fewestVotes_2 : decode cX8_fewestVotes 2 = .ok (.iconst 0, 1) := by decide +kernel
theorem dX8_fewestVotes_3 : decode cX8_fewestVotes 3 = .ok (.istore_n 2, 1) := by decide +kernel
theorem dX8_fewestVotes_4 : decode cX8_fewestVotes 4 = .ok (.iload_n 2, 1) := by decide +kernel
theorem dX8_fewestVotes_5 : decode cX8_fewestVotes 5 = .ok (.bipush 8, 2) := by decide +kernel
theorem dX8_fewestVotes_7 : decode cX8_fewestVotes 7 = .ok (.if_icmp .ge 41, 3) := by decide +kernel
theorem dX8_fewestVotes_10 : decode cX8_fewestVotes 10 = .ok (.aload_n 0, 1) := by decide +kernel
theorem dX8_fewestVotes_11 : decode cX8_fewestVotes 11 = .ok (.getfield 9, 3) := by decide +kernel
theorem dX8_fewestVotes_14 : decode cX8_fewestVotes 14 = .ok (.iload_n 2, 1) := by decide +kernel
theorem dX8_fewestVotes_15 : decode cX8_fewestVotes 15 = .ok (.iaload, 1) := by decide +kernel
theorem dX8_fewestVotes_16 : decode cX8_fewestVotes 16 = .ok (.iconst (-1), 1) := by decide +kernel
theorem dX8_fewestVotes_17 : decode cX8_fewestVotes 17 = .ok (.if_icmp .eq 25, 3) := by decide +kernel
theorem dX8_fewestVotes_20 : decode cX8_fewestVotes 20 = .ok (.iload_n 1, 1) := by decide +kernel
theorem dX8_fewestVotes_21 : decode cX8_fewestVotes 21 = .ok (.iconst (-1), 1) := by decide +kernel
theorem dX8_fewestVotes_22 : decode cX8_fewestVotes 22 = .ok (.if_icmp .eq 13, 3) := by decide +kernel
theorem dX8_fewestVotes_25 : decode cX8_fewestVotes 25 = .ok (.aload_n 0, 1) := by decide +kernel
theorem dX8_fewestVotes_26 : decode cX8_fewestVotes 26 = .ok (.getfield 9, 3) := by decide +kernel
theorem dX8_fewestVotes_29 : decode cX8_fewestVotes 29 = .ok (.iload_n 2, 1) := by decide +kernel
theorem dX8_fewestVotes_30 : decode cX8_fewestVotes 30 = .ok (.iaload, 1) := by decide +kernel
theorem dX8_fewestVotes_31 : decode cX8_fewestVotes 31 = .ok (.iload_n 1, 1) := by decide +kernel
theorem dX8_fewestVotes_32 : decode cX8_fewestVotes 32 = .ok (.if_icmp .ge 10, 3) := by decide +kernel
theorem dX8_fewestVotes_35 : decode cX8_fewestVotes 35 = .ok (.aload_n 0, 1) := by decide +kernel
theorem dX8_fewestVotes_36 : decode cX8_fewestVotes 36 = .ok (.getfield 9, 3) := by decide +kernel
theorem dX8_fewestVotes_39 : decode cX8_fewestVotes 39 = .ok (.iload_n 2, 1) := by decide +kernel
theorem dX8_fewestVotes_40 : decode cX8_fewestVotes 40 = .ok (.iaload, 1) := by decide +kernel
theorem dX8_fewestVotes_41 : decode cX8_fewestVotes 41 = .ok (.istore_n 1, 1) := by decide +kernel
theorem dX8_fewestVotes_42 : decode cX8_fewestVotes 42 = .ok (.iinc 2 1, 3) := by decide +kernel
theorem dX8_fewestVotes_45 : decode cX8_fewestVotes 45 = .ok (.goto (-41), 3) := by decide +kernel
theorem dX8_fewestVotes_48 : decode cX8_fewestVotes 48 = .ok (.iload_n 1, 1) := by decide +kernel
theorem dX8_fewestVotes_49 : decode cX8_fewestVotes 49 = .ok (.ireturn, 1) := by decide +kernel
theorem dX8_windsWith_0 : decode cX8_windsWith 0 = .ok (.iconst 0, 1) := by decide +kernel
theorem dX8_windsWith_1 : decode cX8_windsWith 1 = .ok (.istore_n 2, 1) := by decide +kernel
theorem dX8_windsWith_2 : decode cX8_windsWith 2 = .ok (.iconst 0, 1) := by decide +kernel
theorem dX8_windsWith_3 : decode cX8_windsWith 3 = .ok (.istore_n 3, 1) := by decide +kernel
theorem dX8_windsWith_4 : decode cX8_windsWith 4 = .ok (.iload_n 3, 1) := by decide +kernel
theorem dX8_windsWith_5 : decode cX8_windsWith 5 = .ok (.bipush 8, 2) := by decide +kernel
theorem dX8_windsWith_7 : decode cX8_windsWith 7 = .ok (.if_icmp .ge 22, 3) := by decide +kernel
theorem dX8_windsWith_10 : decode cX8_windsWith 10 = .ok (.aload_n 0, 1) := by decide +kernel
theorem dX8_windsWith_11 : decode cX8_windsWith 11 = .ok (.getfield 9, 3) := by decide +kernel
theorem dX8_windsWith_14 : decode cX8_windsWith 14 = .ok (.iload_n 3, 1) := by decide +kernel
theorem dX8_windsWith_15 : decode cX8_windsWith 15 = .ok (.iaload, 1) := by decide +kernel
theorem dX8_windsWith_16 : decode cX8_windsWith 16 = .ok (.iload_n 1, 1) := by decide +kernel
theorem dX8_windsWith_17 : decode cX8_windsWith 17 = .ok (.if_icmp .ne 6, 3) := by decide +kernel
theorem dX8_windsWith_20 : decode cX8_windsWith 20 = .ok (.iinc 2 1, 3) := by decide +kernel
theorem dX8_windsWith_23 : decode cX8_windsWith 23 = .ok (.iinc 3 1, 3) := by decide +kernel
theorem dX8_windsWith_26 : decode cX8_windsWith 26 = .ok (.goto (-22), 3) := by decide +kernel
theorem dX8_windsWith_29 : decode cX8_windsWith 29 = .ok (.iload_n 2, 1) := by decide +kernel
theorem dX8_windsWith_30 : decode cX8_windsWith 30 = .ok (.ireturn, 1) := by decide +kernel
theorem dX8_windWith_0 : decode cX8_windWith 0 = .ok (.iconst 0, 1) := by decide +kernel
theorem dX8_windWith_1 : decode cX8_windWith 1 = .ok (.istore_n 3, 1) := by decide +kernel
theorem dX8_windWith_2 : decode cX8_windWith 2 = .ok (.iconst 0, 1) := by decide +kernel
theorem dX8_windWith_3 : decode cX8_windWith 3 = .ok (.istore 4, 2) := by decide +kernel
theorem dX8_windWith_5 : decode cX8_windWith 5 = .ok (.iload 4, 2) := by decide +kernel
theorem dX8_windWith_7 : decode cX8_windWith 7 = .ok (.bipush 8, 2) := by decide +kernel
theorem dX8_windWith_9 : decode cX8_windWith 9 = .ok (.if_icmp .ge 31, 3) := by decide +kernel
theorem dX8_windWith_12 : decode cX8_windWith 12 = .ok (.aload_n 0, 1) := by decide +kernel
theorem dX8_windWith_13 : decode cX8_windWith 13 = .ok (.getfield 9, 3) := by decide +kernel
theorem dX8_windWith_16 : decode cX8_windWith 16 = .ok (.iload 4, 2) := by decide +kernel
theorem dX8_windWith_18 : decode cX8_windWith 18 = .ok (.iaload, 1) := by decide +kernel
theorem dX8_windWith_19 : decode cX8_windWith 19 = .ok (.iload_n 1, 1) := by decide +kernel
theorem dX8_windWith_20 : decode cX8_windWith 20 = .ok (.if_icmp .ne 14, 3) := by decide +kernel
theorem dX8_windWith_23 : decode cX8_windWith 23 = .ok (.iload_n 3, 1) := by decide +kernel
theorem dX8_windWith_24 : decode cX8_windWith 24 = .ok (.iload_n 2, 1) := by decide +kernel
theorem dX8_windWith_25 : decode cX8_windWith 25 = .ok (.if_icmp .ne 6, 3) := by decide +kernel
theorem dX8_windWith_28 : decode cX8_windWith 28 = .ok (.iload 4, 2) := by decide +kernel
theorem dX8_windWith_30 : decode cX8_windWith 30 = .ok (.ireturn, 1) := by decide +kernel
theorem dX8_windWith_31 : decode cX8_windWith 31 = .ok (.iinc 3 1, 3) := by decide +kernel
theorem dX8_windWith_34 : decode cX8_windWith 34 = .ok (.iinc 4 1, 3) := by decide +kernel
theorem dX8_windWith_37 : decode cX8_windWith 37 = .ok (.goto (-32), 3) := by decide +kernel
theorem dX8_windWith_40 : decode cX8_windWith 40 = .ok (.iconst (-1), 1) := by decide +kernel
theorem dX8_windWith_41 : decode cX8_windWith 41 = .ok (.ireturn, 1) := by decide +kernel
theorem dX9_init_0 : decode cX9_init 0 = .ok (.aload_n 0, 1) := by decide +kernel
theorem dX9_init_1 : decode cX9_init 1 = .ok (.invokespecial 3, 3) := by decide +kernel
theorem dX9_init_4 : decode cX9_init 4 = .ok (.aload_n 0, 1) := by decide +kernel
theorem dX9_init_5 : decode cX9_init 5 = .ok (.bipush 60, 2) := by decide +kernel
theorem dX9_init_7 : decode cX9_init 7 = .ok (.newarray .char, 2) := by decide +kernel
theorem dX9_init_9 : decode cX9_init 9 = .ok (.putfield 9, 3) := by decide +kernel
theorem dX9_init_12 : decode cX9_init 12 = .ok (.aload_n 0, 1) := by decide +kernel
theorem dX9_init_13 : decode cX9_init 13 = .ok (.iconst 0, 1) := by decide +kernel
theorem dX9_init_14 : decode cX9_init 14 = .ok (.putfield 15, 3) := by decide +kernel
theorem dX9_init_17 : decode cX9_init 17 = .ok (.return_, 1) := by decide +kernel
theorem dX9_clear_0 : decode cX9_clear 0 = .ok (.aload_n 0, 1) := by decide +kernel
theorem dX9_clear_1 : decode cX9_clear 1 = .ok (.iconst 0, 1) := by decide +kernel
theorem dX9_clear_2 : decode cX9_clear 2 = .ok (.putfield 15, 3) := by decide +kernel
theorem dX9_clear_5 : decode cX9_clear 5 = .ok (.return_, 1) := by decide +kernel
theorem dX9_append_0 : decode cX9_append 0 = .ok (.aload_n 0, 1) := by decide +kernel
theorem dX9_append_1 : decode cX9_append 1 = .ok (.getfield 15, 3) := by decide +kernel
theorem dX9_append_4 : decode cX9_append 4 = .ok (.bipush 60, 2) := by decide +kernel
theorem dX9_append_6 : decode cX9_append 6 = .ok (.if_icmp .lt 5, 3) := by decide +kernel
theorem dX9_append_9 : decode cX9_append 9 = .ok (.iconst 0, 1) := by decide +kernel
theorem dX9_append_10 : decode cX9_append 10 = .ok (.ireturn, 1) := by decide +kernel
theorem dX9_append_11 : decode cX9_append 11 = .ok (.aload_n 0, 1) := by decide +kernel
theorem dX9_append_12 : decode cX9_append 12 = .ok (.getfield 9, 3) := by decide +kernel
theorem dX9_append_15 : decode cX9_append 15 = .ok (.aload_n 0, 1) := by decide +kernel
theorem dX9_append_16 : decode cX9_append 16 = .ok (.getfield 15, 3) := by decide +kernel
theorem dX9_append_19 : decode cX9_append 19 = .ok (.iload_n 1, 1) := by decide +kernel
theorem dX9_append_20 : decode cX9_append 20 = .ok (.castore, 1) := by decide +kernel
theorem dX9_append_21 : decode cX9_append 21 = .ok (.aload_n 0, 1) := by decide +kernel
theorem dX9_append_22 : decode cX9_append 22 = .ok (.dup, 1) := by decide +kernel
theorem dX9_append_23 : decode cX9_append 23 = .ok (.getfield 15, 3) := by decide +kernel
theorem dX9_append_26 : decode cX9_append 26 = .ok (.iconst 1, 1) := by decide +kernel
theorem dX9_append_27 : decode cX9_append 27 = .ok (.iadd, 1) := by decide +kernel
theorem dX9_append_28 : decode cX9_append 28 = .ok (.putfield 15, 3) := by decide +kernel
theorem dX9_append_31 : decode cX9_append 31 = .ok (.iconst 1, 1) := by decide +kernel
theorem dX9_append_32 : decode cX9_append 32 = .ok (.ireturn, 1) := by decide +kernel
theorem dX9_appendNumber_0 : decode cX9_appendNumber 0 = .ok (.iload_n 1, 1) := by decide +kernel
theorem dX9_appendNumber_1 : decode cX9_appendNumber 1 = .ok (.bipush 10, 2) := by decide +kernel
theorem dX9_appendNumber_3 : decode cX9_appendNumber 3 = .ok (.if_icmp .lt 16, 3) := by decide +kernel
theorem dX9_appendNumber_6 : decode cX9_appendNumber 6 = .ok (.aload_n 0, 1) := by decide +kernel
theorem dX9_appendNumber_7 : decode cX9_appendNumber 7 = .ok (.bipush 48, 2) := by decide +kernel
theorem dX9_appendNumber_9 : decode cX9_appendNumber 9 = .ok (.iload_n 1, 1) := by decide +kernel
theorem dX9_appendNumber_10 : decode cX9_appendNumber 10 = .ok (.bipush 10, 2) := by decide +kernel
theorem dX9_appendNumber_12 : decode cX9_appendNumber 12 = .ok (.idiv, 1) := by decide +kernel
theorem dX9_appendNumber_13 : decode cX9_appendNumber 13 = .ok (.iadd, 1) := by decide +kernel
theorem dX9_appendNumber_14 : decode cX9_appendNumber 14 = .ok (.i2c, 1) := by decide +kernel
theorem dX9_appendNumber_15 : decode cX9_appendNumber 15 = .ok (.invokevirtual 19, 3) := by decide +kernel
theorem dX9_appendNumber_18 : decode cX9_appendNumber 18 = .ok (.pop, 1) := by decide +kernel
theorem dX9_appendNumber_19 : decode cX9_appendNumber 19 = .ok (.aload_n 0, 1) := by decide +kernel
theorem dX9_appendNumber_20 : decode cX9_appendNumber 20 = .ok (.bipush 48, 2) := by decide +kernel
theorem dX9_appendNumber_22 : decode cX9_appendNumber 22 = .ok (.iload_n 1, 1) := by decide +kernel
theorem dX9_appendNumber_23 : decode cX9_appendNumber 23 = .ok (.bipush 10, 2) := by decide +kernel
theorem dX9_appendNumber_25 : decode cX9_appendNumber 25 = .ok (.irem, 1) := by decide +kernel
theorem dX9_appendNumber_26 : decode cX9_appendNumber 26 = .ok (.iadd, 1) := by decide +kernel
theorem dX9_appendNumber_27 : decode cX9_appendNumber 27 = .ok (.i2c, 1) := by decide +kernel
theorem dX9_appendNumber_28 : decode cX9_appendNumber 28 = .ok (.invokevirtual 19, 3) := by decide +kernel
theorem dX9_appendNumber_31 : decode cX9_appendNumber 31 = .ok (.pop, 1) := by decide +kernel
theorem dX9_appendNumber_32 : decode cX9_appendNumber 32 = .ok (.return_, 1) := by decide +kernel
theorem dX9_hasAt_0 : decode cX9_hasAt 0 = .ok (.iload_n 1, 1) := by decide +kernel
theorem dX9_hasAt_1 : decode cX9_hasAt 1 = .ok (.ifCond .lt 25, 3) := by decide +kernel
theorem dX9_hasAt_4 : decode cX9_hasAt 4 = .ok (.iload_n 1, 1) := by decide +kernel
theorem dX9_hasAt_5 : decode cX9_hasAt 5 = .ok (.aload_n 0, 1) := by decide +kernel
theorem dX9_hasAt_6 : decode cX9_hasAt 6 = .ok (.getfield 15, 3) := by decide +kernel
theorem dX9_hasAt_9 : decode cX9_hasAt 9 = .ok (.if_icmp .ge 17, 3) := by decide +kernel
theorem dX9_hasAt_12 : decode cX9_hasAt 12 = .ok (.aload_n 0, 1) := by decide +kernel
theorem dX9_hasAt_13 : decode cX9_hasAt 13 = .ok (.getfield 9, 3) := by decide +kernel
theorem dX9_hasAt_16 : decode cX9_hasAt 16 = .ok (.iload_n 1, 1) := by decide +kernel
theorem dX9_hasAt_17 : decode cX9_hasAt 17 = .ok (.caload, 1) := by decide +kernel
theorem dX9_hasAt_18 : decode cX9_hasAt 18 = .ok (.iload_n 2, 1) := by decide +kernel
theorem dX9_hasAt_19 : decode cX9_hasAt 19 = .ok (.if_icmp .ne 7, 3) := by decide +kernel
theorem dX9_hasAt_22 : decode cX9_hasAt 22 = .ok (.iconst 1, 1) := by decide +kernel
theorem dX9_hasAt_23 : decode cX9_hasAt 23 = .ok (.goto 4, 3) := by decide +kernel
theorem dX9_hasAt_26 : decode cX9_hasAt 26 = .ok (.iconst 0, 1) := by decide +kernel
theorem dX9_hasAt_27 : decode cX9_hasAt 27 = .ok (.ireturn, 1) := by decide +kernel
theorem dX9_digitAt_0 : decode cX9_digitAt 0 = .ok (.iload_n 1, 1) := by decide +kernel
theorem dX9_digitAt_1 : decode cX9_digitAt 1 = .ok (.ifCond .lt 33, 3) := by decide +kernel
theorem dX9_digitAt_4 : decode cX9_digitAt 4 = .ok (.iload_n 1, 1) := by decide +kernel
theorem dX9_digitAt_5 : decode cX9_digitAt 5 = .ok (.aload_n 0, 1) := by decide +kernel
theorem dX9_digitAt_6 : decode cX9_digitAt 6 = .ok (.getfield 15, 3) := by decide +kernel
theorem dX9_digitAt_9 : decode cX9_digitAt 9 = .ok (.if_icmp .ge 25, 3) := by decide +kernel
theorem dX9_digitAt_12 : decode cX9_digitAt 12 = .ok (.aload_n 0, 1) := by decide +kernel
theorem dX9_digitAt_13 : decode cX9_digitAt 13 = .ok (.getfield 9, 3) := by decide +kernel
theorem dX9_digitAt_16 : decode cX9_digitAt 16 = .ok (.iload_n 1, 1) := by decide +kernel
theorem dX9_digitAt_17 : decode cX9_digitAt 17 = .ok (.caload, 1) := by decide +kernel
theorem dX9_digitAt_18 : decode cX9_digitAt 18 = .ok (.bipush 48, 2) := by decide +kernel
theorem dX9_digitAt_20 : decode cX9_digitAt 20 = .ok (.if_icmp .lt 14, 3) := by decide +kernel
theorem dX9_digitAt_23 : decode cX9_digitAt 23 = .ok (.aload_n 0, 1) := by decide +kernel
theorem dX9_digitAt_24 : decode cX9_digitAt 24 = .ok (.getfield 9, 3) := by decide +kernel
theorem dX9_digitAt_27 : decode cX9_digitAt 27 = .ok (.iload_n 1, 1) := by decide +kernel
theorem dX9_digitAt_28 : decode cX9_digitAt 28 = .ok (.caload, 1) := by decide +kernel
theorem dX9_digitAt_29 : decode cX9_digitAt 29 = .ok (.bipush 57, 2) := by decide +kernel
theorem dX9_digitAt_31 : decode cX9_digitAt 31 = .ok (.if_icmp .le 5, 3) := by decide +kernel
theorem dX9_digitAt_34 : decode cX9_digitAt 34 = .ok (.iconst (-1), 1) := by decide +kernel
theorem dX9_digitAt_35 : decode cX9_digitAt 35 = .ok (.ireturn, 1) := by decide +kernel
theorem dX9_digitAt_36 : decode cX9_digitAt 36 = .ok (.aload_n 0, 1) := by decide +kernel
theorem dX9_digitAt_37 : decode cX9_digitAt 37 = .ok (.getfield 9, 3) := by decide +kernel
theorem dX9_digitAt_40 : decode cX9_digitAt 40 = .ok (.iload_n 1, 1) := by decide +kernel
theorem dX9_digitAt_41 : decode cX9_digitAt 41 = .ok (.caload, 1) := by decide +kernel
theorem dX9_digitAt_42 : decode cX9_digitAt 42 = .ok (.bipush 48, 2) := by decide +kernel
theorem dX9_digitAt_44 : decode cX9_digitAt 44 = .ok (.isub, 1) := by decide +kernel
theorem dX9_digitAt_45 : decode cX9_digitAt 45 = .ok (.ireturn, 1) := by decide +kernel
theorem dX11_init_0 : decode cX11_init 0 = .ok (.aload_n 0, 1) := by decide +kernel
theorem dX11_init_1 : decode cX11_init 1 = .ok (.invokespecial 1, 3) := by decide +kernel
theorem dX11_init_4 : decode cX11_init 4 = .ok (.aload_n 0, 1) := by decide +kernel
theorem dX11_init_5 : decode cX11_init 5 = .ok (.new 7, 3) := by decide +kernel
theorem dX11_init_8 : decode cX11_init 8 = .ok (.dup, 1) := by decide +kernel
theorem dX11_init_9 : decode cX11_init 9 = .ok (.invokespecial 9, 3) := by decide +kernel
theorem dX11_init_12 : decode cX11_init 12 = .ok (.putfield 10, 3) := by decide +kernel
theorem dX11_init_15 : decode cX11_init 15 = .ok (.aload_n 0, 1) := by decide +kernel
theorem dX11_init_16 : decode cX11_init 16 = .ok (.new 7, 3) := by decide +kernel
theorem dX11_init_19 : decode cX11_init 19 = .ok (.dup, 1) := by decide +kernel
theorem dX11_init_20 : decode cX11_init 20 = .ok (.invokespecial 9, 3) := by decide +kernel
theorem dX11_init_23 : decode cX11_init 23 = .ok (.putfield 16, 3) := by decide +kernel
theorem dX11_init_26 : decode cX11_init 26 = .ok (.aload_n 0, 1) := by decide +kernel
theorem dX11_init_27 : decode cX11_init 27 = .ok (.new 7, 3) := by decide +kernel
theorem dX11_init_30 : decode cX11_init 30 = .ok (.dup, 1) := by decide +kernel
theorem dX11_init_31 : decode cX11_init 31 = .ok (.invokespecial 9, 3) := by decide +kernel
theorem dX11_init_34 : decode cX11_init 34 = .ok (.putfield 19, 3) := by decide +kernel
theorem dX11_init_37 : decode cX11_init 37 = .ok (.aload_n 0, 1) := by decide +kernel
theorem dX11_init_38 : decode cX11_init 38 = .ok (.iconst 0, 1) := by decide +kernel
theorem dX11_init_39 : decode cX11_init 39 = .ok (.putfield 22, 3) := by decide +kernel
theorem dX11_init_42 : decode cX11_init 42 = .ok (.aload_n 0, 1) := by decide +kernel
theorem dX11_init_43 : decode cX11_init 43 = .ok (.new 26, 3) := by decide +kernel
theorem dX11_init_46 : decode cX11_init 46 = .ok (.dup, 1) := by decide +kernel
theorem dX11_init_47 : decode cX11_init 47 = .ok (.invokespecial 28, 3) := by decide +kernel
theorem dX11_init_50 : decode cX11_init 50 = .ok (.putfield 29, 3) := by decide +kernel
theorem dX11_init_53 : decode cX11_init 53 = .ok (.aload_n 0, 1) := by decide +kernel
theorem dX11_init_54 : decode cX11_init 54 = .ok (.new 33, 3) := by decide +kernel
theorem dX11_init_57 : decode cX11_init 57 = .ok (.dup, 1) := by decide +kernel
theorem dX11_init_58 : decode cX11_init 58 = .ok (.invokespecial 35, 3) := by decide +kernel
theorem dX11_init_61 : decode cX11_init 61 = .ok (.putfield 36, 3) := by decide +kernel
theorem dX11_init_64 : decode cX11_init 64 = .ok (.aload_n 0, 1) := by decide +kernel
theorem dX11_init_65 : decode cX11_init 65 = .ok (.new 40, 3) := by decide +kernel
theorem dX11_init_68 : decode cX11_init 68 = .ok (.dup, 1) := by decide +kernel
theorem dX11_init_69 : decode cX11_init 69 = .ok (.invokespecial 42, 3) := by decide +kernel
theorem dX11_init_72 : decode cX11_init 72 = .ok (.putfield 43, 3) := by decide +kernel
theorem dX11_init_75 : decode cX11_init 75 = .ok (.aload_n 0, 1) := by decide +kernel
theorem dX11_init_76 : decode cX11_init 76 = .ok (.bipush 8, 2) := by decide +kernel
theorem dX11_init_78 : decode cX11_init 78 = .ok (.newarray .int, 2) := by decide +kernel
theorem dX11_init_80 : decode cX11_init 80 = .ok (.putfield 47, 3) := by decide +kernel
theorem dX11_init_83 : decode cX11_init 83 = .ok (.aload_n 0, 1) := by decide +kernel
theorem dX11_init_84 : decode cX11_init 84 = .ok (.new 51, 3) := by decide +kernel
theorem dX11_init_87 : decode cX11_init 87 = .ok (.dup, 1) := by decide +kernel
theorem dX11_init_88 : decode cX11_init 88 = .ok (.invokespecial 53, 3) := by decide +kernel
theorem dX11_init_91 : decode cX11_init 91 = .ok (.putfield 54, 3) := by decide +kernel
theorem dX11_init_94 : decode cX11_init 94 = .ok (.aload_n 0, 1) := by decide +kernel
theorem dX11_init_95 : decode cX11_init 95 = .ok (.new 58, 3) := by decide +kernel
theorem dX11_init_98 : decode cX11_init 98 = .ok (.dup, 1) := by decide +kernel
theorem dX11_init_99 : decode cX11_init 99 = .ok (.invokespecial 60, 3) := by decide +kernel
theorem dX11_init_102 : decode cX11_init 102 = .ok (.putfield 61, 3) := by decide +kernel
theorem dX11_init_105 : decode cX11_init 105 = .ok (.aload_n 0, 1) := by decide +kernel
theorem dX11_init_106 : decode cX11_init 106 = .ok (.iconst (-1), 1) := by decide +kernel
theorem dX11_init_107 : decode cX11_init 107 = .ok (.putfield 65, 3) := by decide +kernel
theorem dX11_init_110 : decode cX11_init 110 = .ok (.aload_n 0, 1) := by decide +kernel
theorem dX11_init_111 : decode cX11_init 111 = .ok (.iconst (-1), 1) := by decide +kernel
theorem dX11_init_112 : decode cX11_init 112 = .ok (.putfield 69, 3) := by decide +kernel
theorem dX11_init_115 : decode cX11_init 115 = .ok (.return_, 1) := by decide +kernel
theorem dX11_addWind_0 : decode cX11_addWind 0 = .ok (.aload_n 0, 1) := by decide +kernel
theorem dX11_addWind_1 : decode cX11_addWind 1 = .ok (.getfield 16, 3) := by decide +kernel
theorem dX11_addWind_4 : decode cX11_addWind 4 = .ok (.aload_n 0, 1) := by decide +kernel
theorem dX11_addWind_5 : decode cX11_addWind 5 = .ok (.getfield 10, 3) := by decide +kernel
theorem dX11_addWind_8 : decode cX11_addWind 8 = .ok (.invokevirtual 72, 3) := by decide +kernel
theorem dX11_addWind_11 : decode cX11_addWind 11 = .ok (.aload_n 0, 1) := by decide +kernel
theorem dX11_addWind_12 : decode cX11_addWind 12 = .ok (.aload_n 0, 1) := by decide +kernel
theorem dX11_addWind_13 : decode cX11_addWind 13 = .ok (.getfield 10, 3) := by decide +kernel
theorem dX11_addWind_16 : decode cX11_addWind 16 = .ok (.invokevirtual 76, 3) := by decide +kernel
theorem dX11_addWind_19 : decode cX11_addWind 19 = .ok (.invokevirtual 80, 3) := by decide +kernel
theorem dX11_addWind_22 : decode cX11_addWind 22 = .ok (.aload_n 0, 1) := by decide +kernel
theorem dX11_addWind_23 : decode cX11_addWind 23 = .ok (.getfield 10, 3) := by decide +kernel
theorem dX11_addWind_26 : decode cX11_addWind 26 = .ok (.getfield 84, 3) := by decide +kernel
theorem dX11_addWind_29 : decode cX11_addWind 29 = .ok (.iconst 1, 1) := by decide +kernel
theorem dX11_addWind_30 : decode cX11_addWind 30 = .ok (.isub, 1) := by decide +kernel
theorem dX11_addWind_31 : decode cX11_addWind 31 = .ok (.ireturn, 1) := by decide +kernel
theorem dX11_withdraw_0 : decode cX11_withdraw 0 = .ok (.aload_n 0, 1) := by decide +kernel
theorem dX11_withdraw_1 : decode cX11_withdraw 1 = .ok (.getfield 16, 3) := by decide +kernel
theorem dX11_withdraw_4 : decode cX11_withdraw 4 = .ok (.aload_n 0, 1) := by decide +kernel
theorem dX11_withdraw_5 : decode cX11_withdraw 5 = .ok (.getfield 10, 3) := by decide +kernel
theorem dX11_withdraw_8 : decode cX11_withdraw 8 = .ok (.invokevirtual 72, 3) := by decide +kernel
theorem dX11_withdraw_11 : decode cX11_withdraw 11 = .ok (.aload_n 0, 1) := by decide +kernel
theorem dX11_withdraw_12 : decode cX11_withdraw 12 = .ok (.aload_n 0, 1) := by decide +kernel
theorem dX11_withdraw_13 : decode cX11_withdraw 13 = .ok (.getfield 10, 3) := by decide +kernel
theorem dX11_withdraw_16 : decode cX11_withdraw 16 = .ok (.iload_n 1, 1) := by decide +kernel
theorem dX11_withdraw_17 : decode cX11_withdraw 17 = .ok (.invokevirtual 87, 3) := by decide +kernel
theorem dX11_withdraw_20 : decode cX11_withdraw 20 = .ok (.invokevirtual 80, 3) := by decide +kernel
theorem dX11_withdraw_23 : decode cX11_withdraw 23 = .ok (.aload_n 0, 1) := by decide +kernel
theorem dX11_withdraw_24 : decode cX11_withdraw 24 = .ok (.getfield 10, 3) := by decide +kernel
theorem dX11_withdraw_27 : decode cX11_withdraw 27 = .ok (.invokevirtual 91, 3) := by decide +kernel
theorem dX11_withdraw_30 : decode cX11_withdraw 30 = .ok (.ireturn, 1) := by decide +kernel
theorem dX11_windCount_0 : decode cX11_windCount 0 = .ok (.aload_n 0, 1) := by decide +kernel
theorem dX11_windCount_1 : decode cX11_windCount 1 = .ok (.getfield 10, 3) := by decide +kernel
theorem dX11_windCount_4 : decode cX11_windCount 4 = .ok (.getfield 84, 3) := by decide +kernel
theorem dX11_windCount_7 : decode cX11_windCount 7 = .ok (.ireturn, 1) := by decide +kernel
theorem dX11_standingCount_0 : decode cX11_standingCount 0 = .ok (.aload_n 0, 1) := by decide +kernel
theorem dX11_standingCount_1 : decode cX11_standingCount 1 = .ok (.getfield 10, 3) := by decide +kernel
theorem dX11_standingCount_4 : decode cX11_standingCount 4 = .ok (.invokevirtual 91, 3) := by decide +kernel
theorem dX11_standingCount_7 : decode cX11_standingCount 7 = .ok (.ireturn, 1) := by decide +kernel
theorem dX11_isStanding_0 : decode cX11_isStanding 0 = .ok (.aload_n 0, 1) := by decide +kernel
theorem dX11_isStanding_1 : decode cX11_isStanding 1 = .ok (.iload_n 1, 1) := by decide +kernel
theorem dX11_isStanding_2 : decode cX11_isStanding 2 = .ok (.invokevirtual 95, 3) := by decide +kernel
theorem dX11_isStanding_5 : decode cX11_isStanding 5 = .ok (.aload_n 0, 1) := by decide +kernel
theorem dX11_isStanding_6 : decode cX11_isStanding 6 = .ok (.getfield 10, 3) := by decide +kernel
theorem dX11_isStanding_9 : decode cX11_isStanding 9 = .ok (.getfield 99, 3) := by decide +kernel
theorem dX11_isStanding_12 : decode cX11_isStanding 12 = .ok (.iload_n 1, 1) := by decide +kernel
theorem dX11_isStanding_13 : decode cX11_isStanding 13 = .ok (.baload, 1) := by decide +kernel
theorem dX11_isStanding_14 : decode cX11_isStanding 14 = .ok (.ireturn, 1) := by decide +kernel
theorem dX11_hasSeat_0 : decode cX11_hasSeat 0 = .ok (.aload_n 0, 1) := by decide +kernel
theorem dX11_hasSeat_1 : decode cX11_hasSeat 1 = .ok (.iload_n 1, 1) := by decide +kernel
theorem dX11_hasSeat_2 : decode cX11_hasSeat 2 = .ok (.invokevirtual 95, 3) := by decide +kernel
theorem dX11_hasSeat_5 : decode cX11_hasSeat 5 = .ok (.aload_n 0, 1) := by decide +kernel
theorem dX11_hasSeat_6 : decode cX11_hasSeat 6 = .ok (.getfield 10, 3) := by decide +kernel
theorem dX11_hasSeat_9 : decode cX11_hasSeat 9 = .ok (.getfield 103, 3) := by decide +kernel
theorem dX11_hasSeat_12 : decode cX11_hasSeat 12 = .ok (.iload_n 1, 1) := by decide +kernel
theorem dX11_hasSeat_13 : decode cX11_hasSeat 13 = .ok (.iaload, 1) := by decide +kernel
theorem dX11_hasSeat_14 : decode cX11_hasSeat 14 = .ok (.iconst (-1), 1) := by decide +kernel
theorem dX11_hasSeat_15 : decode cX11_hasSeat 15 = .ok (.if_icmp .eq 7, 3) := by decide +kernel
theorem dX11_hasSeat_18 : decode cX11_hasSeat 18 = .ok (.iconst 1, 1) := by decide +kernel
theorem dX11_hasSeat_19 : decode cX11_hasSeat 19 = .ok (.goto 4, 3) := by decide +kernel
theorem dX11_hasSeat_22 : decode cX11_hasSeat 22 = .ok (.iconst 0, 1) := by decide +kernel
theorem dX11_hasSeat_23 : decode cX11_hasSeat 23 = .ok (.ireturn, 1) := by decide +kernel
theorem dX11_addBallot_0 : decode cX11_addBallot 0 = .ok (.aload_n 0, 1) := by decide +kernel
theorem dX11_addBallot_1 : decode cX11_addBallot 1 = .ok (.getfield 16, 3) := by decide +kernel
theorem dX11_addBallot_4 : decode cX11_addBallot 4 = .ok (.aload_n 0, 1) := by decide +kernel
theorem dX11_addBallot_5 : decode cX11_addBallot 5 = .ok (.getfield 10, 3) := by decide +kernel
theorem dX11_addBallot_8 : decode cX11_addBallot 8 = .ok (.invokevirtual 72, 3) := by decide +kernel
theorem dX11_addBallot_11 : decode cX11_addBallot 11 = .ok (.aload_n 0, 1) := by decide +kernel
theorem dX11_addBallot_12 : decode cX11_addBallot 12 = .ok (.aload_n 0, 1) := by decide +kernel
theorem dX11_addBallot_13 : decode cX11_addBallot 13 = .ok (.getfield 10, 3) := by decide +kernel
theorem dX11_addBallot_16 : decode cX11_addBallot 16 = .ok (.iload_n 1, 1) := by decide +kernel
theorem dX11_addBallot_17 : decode cX11_addBallot 17 = .ok (.iload_n 2, 1) := by decide +kernel
theorem dX11_addBallot_18 : decode cX11_addBallot 18 = .ok (.invokevirtual 106, 3) := by decide +kernel
theorem dX11_addBallot_21 : decode cX11_addBallot 21 = .ok (.invokevirtual 80, 3) := by decide +kernel
theorem dX11_addBallot_24 : decode cX11_addBallot 24 = .ok (.aload_n 0, 1) := by decide +kernel
theorem dX11_addBallot_25 : decode cX11_addBallot 25 = .ok (.getfield 10, 3) := by decide +kernel
theorem dX11_addBallot_28 : decode cX11_addBallot 28 = .ok (.getfield 110, 3) := by decide +kernel
theorem dX11_addBallot_31 : decode cX11_addBallot 31 = .ok (.iconst 1, 1) := by decide +kernel
theorem dX11_addBallot_32 : decode cX11_addBallot 32 = .ok (.isub, 1) := by decide +kernel
theorem dX11_addBallot_33 : decode cX11_addBallot 33 = .ok (.ireturn, 1) := by decide +kernel
theorem dX11_rank_0 : decode cX11_rank 0 = .ok (.aload_n 0, 1) := by decide +kernel
theorem dX11_rank_1 : decode cX11_rank 1 = .ok (.getfield 16, 3) := by decide +kernel
theorem dX11_rank_4 : decode cX11_rank 4 = .ok (.aload_n 0, 1) := by decide +kernel
theorem dX11_rank_5 : decode cX11_rank 5 = .ok (.getfield 10, 3) := by decide +kernel
theorem dX11_rank_8 : decode cX11_rank 8 = .ok (.invokevirtual 72, 3) := by decide +kernel
theorem dX11_rank_11 : decode cX11_rank 11 = .ok (.aload_n 0, 1) := by decide +kernel
theorem dX11_rank_12 : decode cX11_rank 12 = .ok (.aload_n 0, 1) := by decide +kernel
theorem dX11_rank_13 : decode cX11_rank 13 = .ok (.getfield 10, 3) := by decide +kernel
theorem dX11_rank_16 : decode cX11_rank 16 = .ok (.iload_n 1, 1) := by decide +kernel
theorem dX11_rank_17 : decode cX11_rank 17 = .ok (.iload_n 2, 1) := by decide +kernel
theorem dX11_rank_18 : decode cX11_rank 18 = .ok (.invokevirtual 113, 3) := by decide +kernel
theorem dX11_rank_21 : decode cX11_rank 21 = .ok (.invokevirtual 80, 3) := by decide +kernel
theorem dX11_rank_24 : decode cX11_rank 24 = .ok (.aload_n 0, 1) := by decide +kernel
theorem dX11_rank_25 : decode cX11_rank 25 = .ok (.iload_n 1, 1) := by decide +kernel
theorem dX11_rank_26 : decode cX11_rank 26 = .ok (.invokevirtual 116, 3) := by decide +kernel
theorem dX11_rank_29 : decode cX11_rank 29 = .ok (.getfield 120, 3) := by decide +kernel
theorem dX11_rank_32 : decode cX11_rank 32 = .ok (.iconst 1, 1) := by decide +kernel
theorem dX11_rank_33 : decode cX11_rank 33 = .ok (.isub, 1) := by decide +kernel
theorem dX11_rank_34 : decode cX11_rank 34 = .ok (.ireturn, 1) := by decide +kernel
theorem dX11_removeBallot_0 : decode cX11_removeBallot 0 = .ok (.aload_n 0, 1) := by decide +kernel
theorem dX11_removeBallot_1 : decode cX11_removeBallot 1 = .ok (.iload_n 1, 1) := by decide +kernel
theorem dX11_removeBallot_2 : decode cX11_removeBallot 2 = .ok (.invokevirtual 116, 3) := by decide +kernel
theorem dX11_removeBallot_5 : decode cX11_removeBallot 5 = .ok (.getfield 125, 3) := by decide +kernel
theorem dX11_removeBallot_8 : decode cX11_removeBallot 8 = .ok (.istore_n 2, 1) := by decide +kernel
theorem dX11_removeBallot_9 : decode cX11_removeBallot 9 = .ok (.aload_n 0, 1) := by decide +kernel
theorem dX11_removeBallot_10 : decode cX11_removeBallot 10 = .ok (.getfield 16, 3) := by decide +kernel
theorem dX11_removeBallot_13 : decode cX11_removeBallot 13 = .ok (.aload_n 0, 1) := by decide +kernel
theorem dX11_removeBallot_14 : decode cX11_removeBallot 14 = .ok (.getfield 10, 3) := by decide +kernel
theorem dX11_removeBallot_17 : decode cX11_removeBallot 17 = .ok (.invokevirtual 72, 3) := by decide +kernel
theorem dX11_removeBallot_20 : decode cX11_removeBallot 20 = .ok (.aload_n 0, 1) := by decide +kernel
theorem dX11_removeBallot_21 : decode cX11_removeBallot 21 = .ok (.aload_n 0, 1) := by decide +kernel
theorem dX11_removeBallot_22 : decode cX11_removeBallot 22 = .ok (.getfield 10, 3) := by decide +kernel
theorem dX11_removeBallot_25 : decode cX11_removeBallot 25 = .ok (.iload_n 1, 1) := by decide +kernel
theorem dX11_removeBallot_26 : decode cX11_removeBallot 26 = .ok (.invokevirtual 128, 3) := by decide +kernel
theorem dX11_removeBallot_29 : decode cX11_removeBallot 29 = .ok (.invokevirtual 80, 3) := by decide +kernel
theorem dX11_removeBallot_32 : decode cX11_removeBallot 32 = .ok (.iload_n 2, 1) := by decide +kernel
theorem dX11_removeBallot_33 : decode cX11_removeBallot 33 = .ok (.ireturn, 1) := by decide +kernel
theorem dX11_recount_0 : decode cX11_recount 0 = .ok (.aload_n 0, 1) := by decide +kernel
theorem dX11_recount_1 : decode cX11_recount 1 = .ok (.iload_n 1, 1) := by decide +kernel
theorem dX11_recount_2 : decode cX11_recount 2 = .ok (.invokevirtual 116, 3) := by decide +kernel
theorem dX11_recount_5 : decode cX11_recount 5 = .ok (.getfield 125, 3) := by decide +kernel
theorem dX11_recount_8 : decode cX11_recount 8 = .ok (.istore_n 3, 1) := by decide +kernel
theorem dX11_recount_9 : decode cX11_recount 9 = .ok (.aload_n 0, 1) := by decide +kernel
theorem dX11_recount_10 : decode cX11_recount 10 = .ok (.getfield 16, 3) := by decide +kernel
theorem dX11_recount_13 : decode cX11_recount 13 = .ok (.aload_n 0, 1) := by decide +kernel
theorem dX11_recount_14 : decode cX11_recount 14 = .ok (.getfield 10, 3) := by decide +kernel
theorem dX11_recount_17 : decode cX11_recount 17 = .ok (.invokevirtual 72, 3) := by decide +kernel
theorem dX11_recount_20 : decode cX11_recount 20 = .ok (.aload_n 0, 1) := by decide +kernel
theorem dX11_recount_21 : decode cX11_recount 21 = .ok (.aload_n 0, 1) := by decide +kernel
theorem dX11_recount_22 : decode cX11_recount 22 = .ok (.getfield 10, 3) := by decide +kernel
theorem dX11_recount_25 : decode cX11_recount 25 = .ok (.iload_n 1, 1) := by decide +kernel
theorem dX11_recount_26 : decode cX11_recount 26 = .ok (.iload_n 2, 1) := by decide +kernel
theorem dX11_recount_27 : decode cX11_recount 27 = .ok (.invokevirtual 131, 3) := by decide +kernel
theorem dX11_recount_30 : decode cX11_recount 30 = .ok (.invokevirtual 80, 3) := by decide +kernel
theorem dX11_recount_33 : decode cX11_recount 33 = .ok (.iload_n 3, 1) := by decide +kernel
theorem dX11_recount_34 : decode cX11_recount 34 = .ok (.ireturn, 1) := by decide +kernel
theorem dX11_ballotCount_0 : decode cX11_ballotCount 0 = .ok (.aload_n 0, 1) := by decide +kernel
theorem dX11_ballotCount_1 : decode cX11_ballotCount 1 = .ok (.getfield 10, 3) := by decide +kernel
theorem dX11_ballotCount_4 : decode cX11_ballotCount 4 = .ok (.getfield 110, 3) := by decide +kernel
theorem dX11_ballotCount_7 : decode cX11_ballotCount 7 = .ok (.ireturn, 1) := by decide +kernel
theorem dX11_weightOf_0 : decode cX11_weightOf 0 = .ok (.aload_n 0, 1) := by decide +kernel
theorem dX11_weightOf_1 : decode cX11_weightOf 1 = .ok (.iload_n 1, 1) := by decide +kernel
theorem dX11_weightOf_2 : decode cX11_weightOf 2 = .ok (.invokevirtual 116, 3) := by decide +kernel
theorem dX11_weightOf_5 : decode cX11_weightOf 5 = .ok (.getfield 125, 3) := by decide +kernel
theorem dX11_weightOf_8 : decode cX11_weightOf 8 = .ok (.ireturn, 1) := by decide +kernel
theorem dX11_rankCount_0 : decode cX11_rankCount 0 = .ok (.aload_n 0, 1) := by decide +kernel
theorem dX11_rankCount_1 : decode cX11_rankCount 1 = .ok (.iload_n 1, 1) := by decide +kernel
theorem dX11_rankCount_2 : decode cX11_rankCount 2 = .ok (.invokevirtual 116, 3) := by decide +kernel
theorem dX11_rankCount_5 : decode cX11_rankCount 5 = .ok (.getfield 120, 3) := by decide +kernel
theorem dX11_rankCount_8 : decode cX11_rankCount 8 = .ok (.ireturn, 1) := by decide +kernel
theorem dX11_windAt_0 : decode cX11_windAt 0 = .ok (.aload_n 0, 1) := by decide +kernel
theorem dX11_windAt_1 : decode cX11_windAt 1 = .ok (.iload_n 1, 1) := by decide +kernel
theorem dX11_windAt_2 : decode cX11_windAt 2 = .ok (.invokevirtual 116, 3) := by decide +kernel
theorem dX11_windAt_5 : decode cX11_windAt 5 = .ok (.astore_n 3, 1) := by decide +kernel
theorem dX11_windAt_6 : decode cX11_windAt 6 = .ok (.iload_n 2, 1) := by decide +kernel
theorem dX11_windAt_7 : decode cX11_windAt 7 = .ok (.ifCond .lt 11, 3) := by decide +kernel
theorem dX11_windAt_10 : decode cX11_windAt 10 = .ok (.iload_n 2, 1) := by decide +kernel
theorem dX11_windAt_11 : decode cX11_windAt 11 = .ok (.aload_n 3, 1) := by decide +kernel
theorem dX11_windAt_12 : decode cX11_windAt 12 = .ok (.getfield 120, 3) := by decide +kernel
theorem dX11_windAt_15 : decode cX11_windAt 15 = .ok (.if_icmp .lt 13, 3) := by decide +kernel
theorem dX11_windAt_18 : decode cX11_windAt 18 = .ok (.new 134, 3) := by decide +kernel
theorem dX11_windAt_21 : decode cX11_windAt 21 = .ok (.dup, 1) := by decide +kernel
theorem dX11_windAt_22 : decode cX11_windAt 22 = .ok (.ldc 136, 2) := by decide +kernel
theorem dX11_windAt_24 : decode cX11_windAt 24 = .ok (.invokespecial 138, 3) := by decide +kernel
theorem dX11_windAt_27 : decode cX11_windAt 27 = .ok (.athrow, 1) := by decide +kernel
theorem dX11_windAt_28 : decode cX11_windAt 28 = .ok (.aload_n 3, 1) := by decide +kernel
theorem dX11_windAt_29 : decode cX11_windAt 29 = .ok (.getfield 141, 3) := by decide +kernel
theorem dX11_windAt_32 : decode cX11_windAt 32 = .ok (.iload_n 2, 1) := by decide +kernel
theorem dX11_windAt_33 : decode cX11_windAt 33 = .ok (.iaload, 1) := by decide +kernel
theorem dX11_windAt_34 : decode cX11_windAt 34 = .ok (.ireturn, 1) := by decide +kernel
theorem dX11_rankOf_0 : decode cX11_rankOf 0 = .ok (.aload_n 0, 1) := by decide +kernel
theorem dX11_rankOf_1 : decode cX11_rankOf 1 = .ok (.iload_n 1, 1) := by decide +kernel
theorem dX11_rankOf_2 : decode cX11_rankOf 2 = .ok (.invokevirtual 116, 3) := by decide +kernel
theorem dX11_rankOf_5 : decode cX11_rankOf 5 = .ok (.astore_n 3, 1) := by decide +kernel
theorem dX11_rankOf_6 : decode cX11_rankOf 6 = .ok (.aload_n 0, 1) := by decide +kernel
theorem dX11_rankOf_7 : decode cX11_rankOf 7 = .ok (.iload_n 2, 1) := by decide +kernel
theorem dX11_rankOf_8 : decode cX11_rankOf 8 = .ok (.invokevirtual 95, 3) := by decide +kernel
theorem dX11_rankOf_11 : decode cX11_rankOf 11 = .ok (.aload_n 3, 1) := by decide +kernel
theorem dX11_rankOf_12 : decode cX11_rankOf 12 = .ok (.iload_n 2, 1) := by decide +kernel
theorem dX11_rankOf_13 : decode cX11_rankOf 13 = .ok (.invokevirtual 143, 3) := by decide +kernel
theorem dX11_rankOf_16 : decode cX11_rankOf 16 = .ok (.invokestatic 147, 3) := by decide +kernel
theorem dX11_rankOf_19 : decode cX11_rankOf 19 = .ok (.ireturn, 1) := by decide +kernel
theorem dX11_totalWeight_0 : decode cX11_totalWeight 0 = .ok (.aload_n 0, 1) := by decide +kernel
theorem dX11_totalWeight_1 : decode cX11_totalWeight 1 = .ok (.getfield 10, 3) := by decide +kernel
theorem dX11_totalWeight_4 : decode cX11_totalWeight 4 = .ok (.invokevirtual 150, 3) := by decide +kernel
theorem dX11_totalWeight_7 : decode cX11_totalWeight 7 = .ok (.ireturn, 1) := by decide +kernel
theorem dX11_winner_0 : decode cX11_winner 0 = .ok (.aload_n 0, 1) := by decide +kernel
theorem dX11_winner_1 : decode cX11_winner 1 = .ok (.getfield 36, 3) := by decide +kernel
theorem dX11_winner_4 : decode cX11_winner 4 = .ok (.aload_n 0, 1) := by decide +kernel
theorem dX11_winner_5 : decode cX11_winner 5 = .ok (.getfield 10, 3) := by decide +kernel
theorem dX11_winner_8 : decode cX11_winner 8 = .ok (.invokevirtual 153, 3) := by decide +kernel
theorem dX11_winner_11 : decode cX11_winner 11 = .ok (.aload_n 0, 1) := by decide +kernel
theorem dX11_winner_12 : decode cX11_winner 12 = .ok (.getfield 36, 3) := by decide +kernel
theorem dX11_winner_15 : decode cX11_winner 15 = .ok (.getfield 156, 3) := by decide +kernel
theorem dX11_winner_18 : decode cX11_winner 18 = .ok (.invokestatic 147, 3) := by decide +kernel
theorem dX11_winner_21 : decode cX11_winner 21 = .ok (.ireturn, 1) := by decide +kernel
theorem dX11_winnerByTransfers_0 : decode cX11_winnerByTransfers 0 = .ok (.aload_n 0, 1) := by decide +kernel
theorem dX11_winnerByTransfers_1 : decode cX11_winnerByTransfers 1 = .ok (.getfield 43, 3) := by decide +kernel
theorem dX11_winnerByTransfers_4 : decode cX11_winnerByTransfers 4 = .ok (.aload_n 0, 1) := by decide +kernel
theorem dX11_winnerByTransfers_5 : decode cX11_winnerByTransfers 5 = .ok (.getfield 10, 3) := by decide +kernel
theorem dX11_winnerByTransfers_8 : decode cX11_winnerByTransfers 8 = .ok (.invokevirtual 159, 3) := by decide +kernel
theorem dX11_winnerByTransfers_11 : decode cX11_winnerByTransfers 11 = .ok (.invokestatic 147, 3) := by decide +kernel
theorem dX11_winnerByTransfers_14 : decode cX11_winnerByTransfers 14 = .ok (.ireturn, 1) := by decide +kernel
theorem dX11_roundCount_0 : decode cX11_roundCount 0 = .ok (.aload_n 0, 1) := by decide +kernel
theorem dX11_roundCount_1 : decode cX11_roundCount 1 = .ok (.getfield 36, 3) := by decide +kernel
theorem dX11_roundCount_4 : decode cX11_roundCount 4 = .ok (.aload_n 0, 1) := by decide +kernel
theorem dX11_roundCount_5 : decode cX11_roundCount 5 = .ok (.getfield 10, 3) := by decide +kernel
theorem dX11_roundCount_8 : decode cX11_roundCount 8 = .ok (.invokevirtual 153, 3) := by decide +kernel
theorem dX11_roundCount_11 : decode cX11_roundCount 11 = .ok (.aload_n 0, 1) := by decide +kernel
theorem dX11_roundCount_12 : decode cX11_roundCount 12 = .ok (.getfield 36, 3) := by decide +kernel
theorem dX11_roundCount_15 : decode cX11_roundCount 15 = .ok (.getfield 163, 3) := by decide +kernel
theorem dX11_roundCount_18 : decode cX11_roundCount 18 = .ok (.ireturn, 1) := by decide +kernel
theorem dX11_votesIn_0 : decode cX11_votesIn 0 = .ok (.aload_n 0, 1) := by decide +kernel
theorem dX11_votesIn_1 : decode cX11_votesIn 1 = .ok (.iload_n 2, 1) := by decide +kernel
theorem dX11_votesIn_2 : decode cX11_votesIn 2 = .ok (.invokevirtual 95, 3) := by decide +kernel
theorem dX11_votesIn_5 : decode cX11_votesIn 5 = .ok (.aload_n 0, 1) := by decide +kernel
theorem dX11_votesIn_6 : decode cX11_votesIn 6 = .ok (.iload_n 1, 1) := by decide +kernel
theorem dX11_votesIn_7 : decode cX11_votesIn 7 = .ok (.invokevirtual 164, 3) := by decide +kernel
theorem dX11_votesIn_10 : decode cX11_votesIn 10 = .ok (.astore_n 3, 1) := by decide +kernel
theorem dX11_votesIn_11 : decode cX11_votesIn 11 = .ok (.aload_n 3, 1) := by decide +kernel
theorem dX11_votesIn_12 : decode cX11_votesIn 12 = .ok (.iload_n 2, 1) := by decide +kernel
theorem dX11_votesIn_13 : decode cX11_votesIn 13 = .ok (.invokevirtual 168, 3) := by decide +kernel
theorem dX11_votesIn_16 : decode cX11_votesIn 16 = .ok (.ifCond .ne 13, 3) := by decide +kernel
theorem dX11_votesIn_19 : decode cX11_votesIn 19 = .ok (.new 134, 3) := by decide +kernel
theorem dX11_votesIn_22 : decode cX11_votesIn 22 = .ok (.dup, 1) := by decide +kernel
theorem dX11_votesIn_23 : decode cX11_votesIn 23 = .ok (.ldc 174, 2) := by decide +kernel
theorem dX11_votesIn_25 : decode cX11_votesIn 25 = .ok (.invokespecial 138, 3) := by decide +kernel
theorem dX11_votesIn_28 : decode cX11_votesIn 28 = .ok (.athrow, 1) := by decide +kernel
theorem dX11_votesIn_29 : decode cX11_votesIn 29 = .ok (.aload_n 3, 1) := by decide +kernel
theorem dX11_votesIn_30 : decode cX11_votesIn 30 = .ok (.getfield 176, 3) := by decide +kernel
theorem dX11_votesIn_33 : decode cX11_votesIn 33 = .ok (.iload_n 2, 1) := by decide +kernel
theorem dX11_votesIn_34 : decode cX11_votesIn 34 = .ok (.iaload, 1) := by decide +kernel
theorem dX11_votesIn_35 : decode cX11_votesIn 35 = .ok (.ireturn, 1) := by decide +kernel
theorem dX11_exhaustedIn_0 : decode cX11_exhaustedIn 0 = .ok (.aload_n 0, 1) := by decide +kernel
theorem dX11_exhaustedIn_1 : decode cX11_exhaustedIn 1 = .ok (.iload_n 1, 1) := by decide +kernel
theorem dX11_exhaustedIn_2 : decode cX11_exhaustedIn 2 = .ok (.invokevirtual 164, 3) := by decide +kernel
theorem dX11_exhaustedIn_5 : decode cX11_exhaustedIn 5 = .ok (.getfield 179, 3) := by decide +kernel
theorem dX11_exhaustedIn_8 : decode cX11_exhaustedIn 8 = .ok (.ireturn, 1) := by decide +kernel
theorem dX11_eliminatedIn_0 : decode cX11_eliminatedIn 0 = .ok (.aload_n 0, 1) := by decide +kernel
theorem dX11_eliminatedIn_1 : decode cX11_eliminatedIn 1 = .ok (.iload_n 1, 1) := by decide +kernel
theorem dX11_eliminatedIn_2 : decode cX11_eliminatedIn 2 = .ok (.invokevirtual 164, 3) := by decide +kernel
theorem dX11_eliminatedIn_5 : decode cX11_eliminatedIn 5 = .ok (.getfield 182, 3) := by decide +kernel
theorem dX11_eliminatedIn_8 : decode cX11_eliminatedIn 8 = .ok (.invokestatic 147, 3) := by decide +kernel
theorem dX11_eliminatedIn_11 : decode cX11_eliminatedIn 11 = .ok (.ireturn, 1) := by decide +kernel
theorem dX11_isTieIn_0 : decode cX11_isTieIn 0 = .ok (.aload_n 0, 1) := by decide +kernel
theorem dX11_isTieIn_1 : decode cX11_isTieIn 1 = .ok (.iload_n 1, 1) := by decide +kernel
theorem dX11_isTieIn_2 : decode cX11_isTieIn 2 = .ok (.invokevirtual 164, 3) := by decide +kernel
theorem dX11_isTieIn_5 : decode cX11_isTieIn 5 = .ok (.getfield 185, 3) := by decide +kernel
theorem dX11_isTieIn_8 : decode cX11_isTieIn 8 = .ok (.ireturn, 1) := by decide +kernel
theorem dX11_roundOfElimination_0 : decode cX11_roundOfElimination 0 = .ok (.aload_n 0, 1) := by decide +kernel
theorem dX11_roundOfElimination_1 : decode cX11_roundOfElimination 1 = .ok (.iload_n 1, 1) := by decide +kernel
theorem dX11_roundOfElimination_2 : decode cX11_roundOfElimination 2 = .ok (.invokevirtual 95, 3) := by decide +kernel
theorem dX11_roundOfElimination_5 : decode cX11_roundOfElimination 5 = .ok (.aload_n 0, 1) := by decide +kernel
theorem dX11_roundOfElimination_6 : decode cX11_roundOfElimination 6 = .ok (.getfield 36, 3) := by decide +kernel
theorem dX11_roundOfElimination_9 : decode cX11_roundOfElimination 9 = .ok (.aload_n 0, 1) := by decide +kernel
theorem dX11_roundOfElimination_10 : decode cX11_roundOfElimination 10 = .ok (.getfield 10, 3) := by decide +kernel
theorem dX11_roundOfElimination_13 : decode cX11_roundOfElimination 13 = .ok (.invokevirtual 153, 3) := by decide +kernel
theorem dX11_roundOfElimination_16 : decode cX11_roundOfElimination 16 = .ok (.aload_n 0, 1) := by decide +kernel
theorem dX11_roundOfElimination_17 : decode cX11_roundOfElimination 17 = .ok (.getfield 36, 3) := by decide +kernel
theorem dX11_roundOfElimination_20 : decode cX11_roundOfElimination 20 = .ok (.iload_n 1, 1) := by decide +kernel
theorem dX11_roundOfElimination_21 : decode cX11_roundOfElimination 21 = .ok (.invokevirtual 188, 3) := by decide +kernel
theorem dX11_roundOfElimination_24 : decode cX11_roundOfElimination 24 = .ok (.invokestatic 147, 3) := by decide +kernel
theorem dX11_roundOfElimination_27 : decode cX11_roundOfElimination 27 = .ok (.ireturn, 1) := by decide +kernel
theorem dX11_winnerShare_0 : decode cX11_winnerShare 0 = .ok (.aload_n 0, 1) := by decide +kernel
theorem dX11_winnerShare_1 : decode cX11_winnerShare 1 = .ok (.getfield 36, 3) := by decide +kernel
theorem dX11_winnerShare_4 : decode cX11_winnerShare 4 = .ok (.aload_n 0, 1) := by decide +kernel
theorem dX11_winnerShare_5 : decode cX11_winnerShare 5 = .ok (.getfield 10, 3) := by decide +kernel
theorem dX11_winnerShare_8 : decode cX11_winnerShare 8 = .ok (.invokevirtual 153, 3) := by decide +kernel
theorem dX11_winnerShare_11 : decode cX11_winnerShare 11 = .ok (.aload_n 0, 1) := by decide +kernel
theorem dX11_winnerShare_12 : decode cX11_winnerShare 12 = .ok (.getfield 36, 3) := by decide +kernel
theorem dX11_winnerShare_15 : decode cX11_winnerShare 15 = .ok (.getfield 163, 3) := by decide +kernel
theorem dX11_winnerShare_18 : decode cX11_winnerShare 18 = .ok (.ifCond .ne 13, 3) := by decide +kernel
theorem dX11_winnerShare_21 : decode cX11_winnerShare 21 = .ok (.new 134, 3) := by decide +kernel
theorem dX11_winnerShare_24 : decode cX11_winnerShare 24 = .ok (.dup, 1) := by decide +kernel
theorem dX11_winnerShare_25 : decode cX11_winnerShare 25 = .ok (.ldc 191, 2) := by decide +kernel
theorem dX11_winnerShare_27 : decode cX11_winnerShare 27 = .ok (.invokespecial 138, 3) := by decide +kernel
theorem dX11_winnerShare_30 : decode cX11_winnerShare 30 = .ok (.athrow, 1) := by decide +kernel
theorem dX11_winnerShare_31 : decode cX11_winnerShare 31 = .ok (.aload_n 0, 1) := by decide +kernel
theorem dX11_winnerShare_32 : decode cX11_winnerShare 32 = .ok (.getfield 36, 3) := by decide +kernel
theorem dX11_winnerShare_35 : decode cX11_winnerShare 35 = .ok (.getfield 193, 3) := by decide +kernel
theorem dX11_winnerShare_38 : decode cX11_winnerShare 38 = .ok (.aload_n 0, 1) := by decide +kernel
theorem dX11_winnerShare_39 : decode cX11_winnerShare 39 = .ok (.getfield 36, 3) := by decide +kernel
theorem dX11_winnerShare_42 : decode cX11_winnerShare 42 = .ok (.getfield 163, 3) := by decide +kernel
theorem dX11_winnerShare_45 : decode cX11_winnerShare 45 = .ok (.iconst 1, 1) := by decide +kernel
theorem dX11_winnerShare_46 : decode cX11_winnerShare 46 = .ok (.isub, 1) := by decide +kernel
theorem dX11_winnerShare_47 : decode cX11_winnerShare 47 = .ok (.aaload, 1) := by decide +kernel
theorem dX11_winnerShare_48 : decode cX11_winnerShare 48 = .ok (.astore_n 1, 1) := by decide +kernel
theorem dX11_winnerShare_49 : decode cX11_winnerShare 49 = .ok (.aload_n 1, 1) := by decide +kernel
theorem dX11_winnerShare_50 : decode cX11_winnerShare 50 = .ok (.invokevirtual 197, 3) := by decide +kernel
theorem dX11_winnerShare_53 : decode cX11_winnerShare 53 = .ok (.istore_n 2, 1) := by decide +kernel
theorem dX11_winnerShare_54 : decode cX11_winnerShare 54 = .ok (.iload_n 2, 1) := by decide +kernel
theorem dX11_winnerShare_55 : decode cX11_winnerShare 55 = .ok (.ifCond .ne 13, 3) := by decide +kernel
theorem dX11_winnerShare_58 : decode cX11_winnerShare 58 = .ok (.new 200, 3) := by decide +kernel
theorem dX11_winnerShare_61 : decode cX11_winnerShare 61 = .ok (.dup, 1) := by decide +kernel
theorem dX11_winnerShare_62 : decode cX11_winnerShare 62 = .ok (.ldc 202, 2) := by decide +kernel
theorem dX11_winnerShare_64 : decode cX11_winnerShare 64 = .ok (.invokespecial 204, 3) := by decide +kernel
theorem dX11_winnerShare_67 : decode cX11_winnerShare 67 = .ok (.athrow, 1) := by decide +kernel
theorem dX11_winnerShare_68 : decode cX11_winnerShare 68 = .ok (.aload_n 1, 1) := by decide +kernel
theorem dX11_winnerShare_69 : decode cX11_winnerShare 69 = .ok (.aload_n 0, 1) := by decide +kernel
theorem dX11_winnerShare_70 : decode cX11_winnerShare 70 = .ok (.getfield 36, 3) := by decide +kernel
theorem dX11_winnerShare_73 : decode cX11_winnerShare 73 = .ok (.getfield 156, 3) := by decide +kernel
theorem dX11_winnerShare_76 : decode cX11_winnerShare 76 = .ok (.invokevirtual 205, 3) := by decide +kernel
theorem dX11_winnerShare_79 : decode cX11_winnerShare 79 = .ok (.i2f, 1) := by decide +kernel
theorem dX11_winnerShare_80 : decode cX11_winnerShare 80 = .ok (.iload_n 2, 1) := by decide +kernel
theorem dX11_winnerShare_81 : decode cX11_winnerShare 81 = .ok (.i2f, 1) := by decide +kernel
theorem dX11_winnerShare_82 : decode cX11_winnerShare 82 = .ok (.fdiv, 1) := by decide +kernel
theorem dX11_winnerShare_83 : decode cX11_winnerShare 83 = .ok (.freturn, 1) := by decide +kernel
theorem dX11_preference_0 : decode cX11_preference 0 = .ok (.aload_n 0, 1) := by decide +kernel
theorem dX11_preference_1 : decode cX11_preference 1 = .ok (.iload_n 1, 1) := by decide +kernel
theorem dX11_preference_2 : decode cX11_preference 2 = .ok (.invokevirtual 95, 3) := by decide +kernel
theorem dX11_preference_5 : decode cX11_preference 5 = .ok (.aload_n 0, 1) := by decide +kernel
theorem dX11_preference_6 : decode cX11_preference 6 = .ok (.iload_n 2, 1) := by decide +kernel
theorem dX11_preference_7 : decode cX11_preference 7 = .ok (.invokevirtual 95, 3) := by decide +kernel
theorem dX11_preference_10 : decode cX11_preference 10 = .ok (.aload_n 0, 1) := by decide +kernel
theorem dX11_preference_11 : decode cX11_preference 11 = .ok (.getfield 10, 3) := by decide +kernel
theorem dX11_preference_14 : decode cX11_preference 14 = .ok (.iload_n 1, 1) := by decide +kernel
theorem dX11_preference_15 : decode cX11_preference 15 = .ok (.iload_n 2, 1) := by decide +kernel
theorem dX11_preference_16 : decode cX11_preference 16 = .ok (.invokevirtual 208, 3) := by decide +kernel
theorem dX11_preference_19 : decode cX11_preference 19 = .ok (.ireturn, 1) := by decide +kernel
theorem dX11_beats_0 : decode cX11_beats 0 = .ok (.aload_n 0, 1) := by decide +kernel
theorem dX11_beats_1 : decode cX11_beats 1 = .ok (.iload_n 1, 1) := by decide +kernel
theorem dX11_beats_2 : decode cX11_beats 2 = .ok (.invokevirtual 95, 3) := by decide +kernel
theorem dX11_beats_5 : decode cX11_beats 5 = .ok (.aload_n 0, 1) := by decide +kernel
theorem dX11_beats_6 : decode cX11_beats 6 = .ok (.iload_n 2, 1) := by decide +kernel
theorem dX11_beats_7 : decode cX11_beats 7 = .ok (.invokevirtual 95, 3) := by decide +kernel
theorem dX11_beats_10 : decode cX11_beats 10 = .ok (.aload_n 0, 1) := by decide +kernel
theorem dX11_beats_11 : decode cX11_beats 11 = .ok (.getfield 10, 3) := by decide +kernel
theorem dX11_beats_14 : decode cX11_beats 14 = .ok (.iload_n 1, 1) := by decide +kernel
theorem dX11_beats_15 : decode cX11_beats 15 = .ok (.iload_n 2, 1) := by decide +kernel
theorem dX11_beats_16 : decode cX11_beats 16 = .ok (.invokevirtual 212, 3) := by decide +kernel
theorem dX11_beats_19 : decode cX11_beats 19 = .ok (.ireturn, 1) := by decide +kernel
theorem dX11_victories_0 : decode cX11_victories 0 = .ok (.aload_n 0, 1) := by decide +kernel
theorem dX11_victories_1 : decode cX11_victories 1 = .ok (.iload_n 1, 1) := by decide +kernel
theorem dX11_victories_2 : decode cX11_victories 2 = .ok (.invokevirtual 95, 3) := by decide +kernel
theorem dX11_victories_5 : decode cX11_victories 5 = .ok (.aload_n 0, 1) := by decide +kernel
theorem dX11_victories_6 : decode cX11_victories 6 = .ok (.getfield 10, 3) := by decide +kernel
theorem dX11_victories_9 : decode cX11_victories 9 = .ok (.iload_n 1, 1) := by decide +kernel
theorem dX11_victories_10 : decode cX11_victories 10 = .ok (.invokevirtual 216, 3) := by decide +kernel
theorem dX11_victories_13 : decode cX11_victories 13 = .ok (.ireturn, 1) := by decide +kernel
theorem dX11_championOfPairs_0 : decode cX11_championOfPairs 0 = .ok (.aload_n 0, 1) := by decide +kernel
theorem dX11_championOfPairs_1 : decode cX11_championOfPairs 1 = .ok (.getfield 10, 3) := by decide +kernel
theorem dX11_championOfPairs_4 : decode cX11_championOfPairs 4 = .ok (.invokevirtual 219, 3) := by decide +kernel
theorem dX11_championOfPairs_7 : decode cX11_championOfPairs 7 = .ok (.invokestatic 147, 3) := by decide +kernel
theorem dX11_championOfPairs_10 : decode cX11_championOfPairs 10 = .ok (.ireturn, 1) := by decide +kernel
theorem dX11_championByDuels_0 : decode cX11_championByDuels 0 = .ok (.aload_n 0, 1) := by decide +kernel
theorem dX11_championByDuels_1 : decode cX11_championByDuels 1 = .ok (.getfield 10, 3) := by decide +kernel
theorem dX11_championByDuels_4 : decode cX11_championByDuels 4 = .ok (.invokevirtual 222, 3) := by decide +kernel
theorem dX11_championByDuels_7 : decode cX11_championByDuels 7 = .ok (.invokestatic 147, 3) := by decide +kernel
theorem dX11_championByDuels_10 : decode cX11_championByDuels 10 = .ok (.ireturn, 1) := by decide +kernel
theorem dX11_scoreOf_0 : decode cX11_scoreOf 0 = .ok (.aload_n 0, 1) := by decide +kernel
theorem dX11_scoreOf_1 : decode cX11_scoreOf 1 = .ok (.iload_n 1, 1) := by decide +kernel
theorem dX11_scoreOf_2 : decode cX11_scoreOf 2 = .ok (.invokevirtual 95, 3) := by decide +kernel
theorem dX11_scoreOf_5 : decode cX11_scoreOf 5 = .ok (.aload_n 0, 1) := by decide +kernel
theorem dX11_scoreOf_6 : decode cX11_scoreOf 6 = .ok (.getfield 10, 3) := by decide +kernel
theorem dX11_scoreOf_9 : decode cX11_scoreOf 9 = .ok (.iload_n 1, 1) := by decide +kernel
theorem dX11_scoreOf_10 : decode cX11_scoreOf 10 = .ok (.invokevirtual 225, 3) := by decide +kernel
theorem dX11_scoreOf_13 : decode cX11_scoreOf 13 = .ok (.ireturn, 1) := by decide +kernel
theorem dX11_windByScore_0 : decode cX11_windByScore 0 = .ok (.iconst 0, 1) := by decide +kernel
theorem dX11_windByScore_1 : decode cX11_windByScore 1 = .ok (.istore_n 2, 1) := by decide +kernel
theorem dX11_windByScore_2 : decode cX11_windByScore 2 = .ok (.iload_n 2, 1) := by decide +kernel
theorem dX11_windByScore_3 : decode cX11_windByScore 3 = .ok (.aload_n 0, 1) := by decide +kernel
theorem dX11_windByScore_4 : decode cX11_windByScore 4 = .ok (.getfield 10, 3) := by decide +kernel
theorem dX11_windByScore_7 : decode cX11_windByScore 7 = .ok (.getfield 84, 3) := by decide +kernel
theorem dX11_windByScore_10 : decode cX11_windByScore 10 = .ok (.if_icmp .ge 23, 3) := by decide +kernel
theorem dX11_windByScore_13 : decode cX11_windByScore 13 = .ok (.aload_n 0, 1) := by decide +kernel
theorem dX11_windByScore_14 : decode cX11_windByScore 14 = .ok (.getfield 47, 3) := by decide +kernel
theorem dX11_windByScore_17 : decode cX11_windByScore 17 = .ok (.iload_n 2, 1) := by decide +kernel
theorem dX11_windByScore_18 : decode cX11_windByScore 18 = .ok (.aload_n 0, 1) := by decide +kernel
theorem dX11_windByScore_19 : decode cX11_windByScore 19 = .ok (.getfield 10, 3) := by decide +kernel
theorem dX11_windByScore_22 : decode cX11_windByScore 22 = .ok (.iload_n 2, 1) := by decide +kernel
theorem dX11_windByScore_23 : decode cX11_windByScore 23 = .ok (.invokevirtual 225, 3) := by decide +kernel
theorem dX11_windByScore_26 : decode cX11_windByScore 26 = .ok (.iastore, 1) := by decide +kernel
theorem dX11_windByScore_27 : decode cX11_windByScore 27 = .ok (.iinc 2 1, 3) := by decide +kernel
theorem dX11_windByScore_30 : decode cX11_windByScore 30 = .ok (.goto (-28), 3) := by decide +kernel
theorem dX11_windByScore_33 : decode cX11_windByScore 33 = .ok (.iconst (-1), 1) := by decide +kernel
theorem dX11_windByScore_34 : decode cX11_windByScore 34 = .ok (.istore_n 2, 1) := by decide +kernel
theorem dX11_windByScore_35 : decode cX11_windByScore 35 = .ok (.iconst 0, 1) := by decide +kernel
theorem dX11_windByScore_36 : decode cX11_windByScore 36 = .ok (.istore_n 3, 1) := by decide +kernel
theorem dX11_windByScore_37 : decode cX11_windByScore 37 = .ok (.iload_n 3, 1) := by decide +kernel
theorem dX11_windByScore_38 : decode cX11_windByScore 38 = .ok (.aload_n 0, 1) := by decide +kernel
theorem dX11_windByScore_39 : decode cX11_windByScore 39 = .ok (.getfield 10, 3) := by decide +kernel
theorem dX11_windByScore_42 : decode cX11_windByScore 42 = .ok (.getfield 84, 3) := by decide +kernel
theorem dX11_windByScore_45 : decode cX11_windByScore 45 = .ok (.if_icmp .ge 20, 3) := by decide +kernel
theorem dX11_windByScore_48 : decode cX11_windByScore 48 = .ok (.aload_n 0, 1) := by decide +kernel
theorem dX11_windByScore_49 : decode cX11_windByScore 49 = .ok (.iload_n 3, 1) := by decide +kernel
theorem dX11_windByScore_50 : decode cX11_windByScore 50 = .ok (.invokevirtual 228, 3) := by decide +kernel
theorem dX11_windByScore_53 : decode cX11_windByScore 53 = .ok (.iload_n 1, 1) := by decide +kernel
theorem dX11_windByScore_54 : decode cX11_windByScore 54 = .ok (.if_icmp .ne 5, 3) := by decide +kernel
theorem dX11_windByScore_57 : decode cX11_windByScore 57 = .ok (.iload_n 3, 1) := by decide +kernel
theorem dX11_windByScore_58 : decode cX11_windByScore 58 = .ok (.istore_n 2, 1) := by decide +kernel
theorem dX11_windByScore_59 : decode cX11_windByScore 59 = .ok (.iinc 3 1, 3) := by decide +kernel
theorem dX11_windByScore_62 : decode cX11_windByScore 62 = .ok (.goto (-25), 3) := by decide +kernel
theorem dX11_windByScore_65 : decode cX11_windByScore 65 = .ok (.iload_n 2, 1) := by decide +kernel
theorem dX11_windByScore_66 : decode cX11_windByScore 66 = .ok (.invokestatic 147, 3) := by decide +kernel
theorem dX11_windByScore_69 : decode cX11_windByScore 69 = .ok (.ireturn, 1) := by decide +kernel
theorem dX11_spin_0 : decode cX11_spin 0 = .ok (.aload_n 0, 1) := by decide +kernel
theorem dX11_spin_1 : decode cX11_spin 1 = .ok (.getfield 16, 3) := by decide +kernel
theorem dX11_spin_4 : decode cX11_spin 4 = .ok (.aload_n 0, 1) := by decide +kernel
theorem dX11_spin_5 : decode cX11_spin 5 = .ok (.getfield 10, 3) := by decide +kernel
theorem dX11_spin_8 : decode cX11_spin 8 = .ok (.invokevirtual 72, 3) := by decide +kernel
theorem dX11_spin_11 : decode cX11_spin 11 = .ok (.aload_n 0, 1) := by decide +kernel
theorem dX11_spin_12 : decode cX11_spin 12 = .ok (.aload_n 0, 1) := by decide +kernel
theorem dX11_spin_13 : decode cX11_spin 13 = .ok (.getfield 10, 3) := by decide +kernel
theorem dX11_spin_16 : decode cX11_spin 16 = .ok (.invokevirtual 231, 3) := by decide +kernel
theorem dX11_spin_19 : decode cX11_spin 19 = .ok (.invokevirtual 80, 3) := by decide +kernel
theorem dX11_spin_22 : decode cX11_spin 22 = .ok (.aload_n 0, 1) := by decide +kernel
theorem dX11_spin_23 : decode cX11_spin 23 = .ok (.getfield 10, 3) := by decide +kernel
theorem dX11_spin_26 : decode cX11_spin 26 = .ok (.getfield 234, 3) := by decide +kernel
theorem dX11_spin_29 : decode cX11_spin 29 = .ok (.ireturn, 1) := by decide +kernel
theorem dX11_spinValue_0 : decode cX11_spinValue 0 = .ok (.aload_n 0, 1) := by decide +kernel
theorem dX11_spinValue_1 : decode cX11_spinValue 1 = .ok (.getfield 10, 3) := by decide +kernel
theorem dX11_spinValue_4 : decode cX11_spinValue 4 = .ok (.getfield 234, 3) := by decide +kernel
theorem dX11_spinValue_7 : decode cX11_spinValue 7 = .ok (.ireturn, 1) := by decide +kernel
theorem dX11_certify_0 : decode cX11_certify 0 = .ok (.aload_n 0, 1) := by decide +kernel
theorem dX11_certify_1 : decode cX11_certify 1 = .ok (.getfield 16, 3) := by decide +kernel
theorem dX11_certify_4 : decode cX11_certify 4 = .ok (.aload_n 0, 1) := by decide +kernel
theorem dX11_certify_5 : decode cX11_certify 5 = .ok (.getfield 10, 3) := by decide +kernel
theorem dX11_certify_8 : decode cX11_certify 8 = .ok (.invokevirtual 72, 3) := by decide +kernel
theorem dX11_certify_11 : decode cX11_certify 11 = .ok (.aload_n 0, 1) := by decide +kernel
theorem dX11_certify_12 : decode cX11_certify 12 = .ok (.aload_n 0, 1) := by decide +kernel
theorem dX11_certify_13 : decode cX11_certify 13 = .ok (.invokevirtual 237, 3) := by decide +kernel
theorem dX11_certify_16 : decode cX11_certify 16 = .ok (.invokevirtual 80, 3) := by decide +kernel
theorem dX11_certify_19 : decode cX11_certify 19 = .ok (.aload_n 0, 1) := by decide +kernel
theorem dX11_certify_20 : decode cX11_certify 20 = .ok (.getfield 36, 3) := by decide +kernel
theorem dX11_certify_23 : decode cX11_certify 23 = .ok (.getfield 156, 3) := by decide +kernel
theorem dX11_certify_26 : decode cX11_certify 26 = .ok (.ireturn, 1) := by decide +kernel
theorem dX11_seatCount_0 : decode cX11_seatCount 0 = .ok (.aload_n 0, 1) := by decide +kernel
theorem dX11_seatCount_1 : decode cX11_seatCount 1 = .ok (.getfield 10, 3) := by decide +kernel
theorem dX11_seatCount_4 : decode cX11_seatCount 4 = .ok (.getfield 240, 3) := by decide +kernel
theorem dX11_seatCount_7 : decode cX11_seatCount 7 = .ok (.ireturn, 1) := by decide +kernel
theorem dX11_seatAt_0 : decode cX11_seatAt 0 = .ok (.aload_n 0, 1) := by decide +kernel
theorem dX11_seatAt_1 : decode cX11_seatAt 1 = .ok (.getfield 10, 3) := by decide +kernel
theorem dX11_seatAt_4 : decode cX11_seatAt 4 = .ok (.iload_n 1, 1) := by decide +kernel
theorem dX11_seatAt_5 : decode cX11_seatAt 5 = .ok (.invokevirtual 243, 3) := by decide +kernel
theorem dX11_seatAt_8 : decode cX11_seatAt 8 = .ok (.invokestatic 147, 3) := by decide +kernel
theorem dX11_seatAt_11 : decode cX11_seatAt 11 = .ok (.ireturn, 1) := by decide +kernel
theorem dX11_writeBallot_0 : decode cX11_writeBallot 0 = .ok (.aload_n 0, 1) := by decide +kernel
theorem dX11_writeBallot_1 : decode cX11_writeBallot 1 = .ok (.iload_n 1, 1) := by decide +kernel
theorem dX11_writeBallot_2 : decode cX11_writeBallot 2 = .ok (.invokevirtual 116, 3) := by decide +kernel
theorem dX11_writeBallot_5 : decode cX11_writeBallot 5 = .ok (.astore_n 2, 1) := by decide +kernel
theorem dX11_writeBallot_6 : decode cX11_writeBallot 6 = .ok (.aload_n 0, 1) := by decide +kernel
theorem dX11_writeBallot_7 : decode cX11_writeBallot 7 = .ok (.getfield 54, 3) := by decide +kernel
theorem dX11_writeBallot_10 : decode cX11_writeBallot 10 = .ok (.invokevirtual 246, 3) := by decide +kernel
theorem dX11_writeBallot_13 : decode cX11_writeBallot 13 = .ok (.aload_n 0, 1) := by decide +kernel
theorem dX11_writeBallot_14 : decode cX11_writeBallot 14 = .ok (.getfield 54, 3) := by decide +kernel
theorem dX11_writeBallot_17 : decode cX11_writeBallot 17 = .ok (.aload_n 2, 1) := by decide +kernel
theorem dX11_writeBallot_18 : decode cX11_writeBallot 18 = .ok (.getfield 125, 3) := by decide +kernel
theorem dX11_writeBallot_21 : decode cX11_writeBallot 21 = .ok (.invokevirtual 249, 3) := by decide +kernel
theorem dX11_writeBallot_24 : decode cX11_writeBallot 24 = .ok (.aload_n 0, 1) := by decide +kernel
theorem dX11_writeBallot_25 : decode cX11_writeBallot 25 = .ok (.getfield 54, 3) := by decide +kernel
theorem dX11_writeBallot_28 : decode cX11_writeBallot 28 = .ok (.bipush 58, 2) := by decide +kernel
theorem dX11_writeBallot_30 : decode cX11_writeBallot 30 = .ok (.invokevirtual 252, 3) := by decide +kernel
theorem dX11_writeBallot_33 : decode cX11_writeBallot 33 = .ok (.pop, 1) := by decide +kernel
theorem dX11_writeBallot_34 : decode cX11_writeBallot 34 = .ok (.aload_n 0, 1) := by decide +kernel
theorem dX11_writeBallot_35 : decode cX11_writeBallot 35 = .ok (.getfield 54, 3) := by decide +kernel
theorem dX11_writeBallot_38 : decode cX11_writeBallot 38 = .ok (.bipush 32, 2) := by decide +kernel
theorem dX11_writeBallot_40 : decode cX11_writeBallot 40 = .ok (.invokevirtual 252, 3) := by decide +kernel
theorem dX11_writeBallot_43 : decode cX11_writeBallot 43 = .ok (.pop, 1) := by decide +kernel
theorem dX11_writeBallot_44 : decode cX11_writeBallot 44 = .ok (.iconst 0, 1) := by decide +kernel
theorem dX11_writeBallot_45 : decode cX11_writeBallot 45 = .ok (.istore_n 3, 1) := by decide +kernel
theorem dX11_writeBallot_46 : decode cX11_writeBallot 46 = .ok (.iload_n 3, 1) := by decide +kernel
theorem dX11_writeBallot_47 : decode cX11_writeBallot 47 = .ok (.aload_n 2, 1) := by decide +kernel
theorem dX11_writeBallot_48 : decode cX11_writeBallot 48 = .ok (.getfield 120, 3) := by decide +kernel
theorem dX11_writeBallot_51 : decode cX11_writeBallot 51 = .ok (.if_icmp .ge 36, 3) := by decide +kernel
theorem dX11_writeBallot_54 : decode cX11_writeBallot 54 = .ok (.iload_n 3, 1) := by decide +kernel
theorem dX11_writeBallot_55 : decode cX11_writeBallot 55 = .ok (.ifCond .le 13, 3) := by decide +kernel
theorem dX11_writeBallot_58 : decode cX11_writeBallot 58 = .ok (.aload_n 0, 1) := by decide +kernel
theorem dX11_writeBallot_59 : decode cX11_writeBallot 59 = .ok (.getfield 54, 3) := by decide +kernel
theorem dX11_writeBallot_62 : decode cX11_writeBallot 62 = .ok (.bipush 62, 2) := by decide +kernel
theorem dX11_writeBallot_64 : decode cX11_writeBallot 64 = .ok (.invokevirtual 252, 3) := by decide +kernel
theorem dX11_writeBallot_67 : decode cX11_writeBallot 67 = .ok (.pop, 1) := by decide +kernel
theorem dX11_writeBallot_68 : decode cX11_writeBallot 68 = .ok (.aload_n 0, 1) := by decide +kernel
theorem dX11_writeBallot_69 : decode cX11_writeBallot 69 = .ok (.getfield 54, 3) := by decide +kernel
theorem dX11_writeBallot_72 : decode cX11_writeBallot 72 = .ok (.aload_n 2, 1) := by decide +kernel
theorem dX11_writeBallot_73 : decode cX11_writeBallot 73 = .ok (.getfield 141, 3) := by decide +kernel
theorem dX11_writeBallot_76 : decode cX11_writeBallot 76 = .ok (.iload_n 3, 1) := by decide +kernel
theorem dX11_writeBallot_77 : decode cX11_writeBallot 77 = .ok (.iaload, 1) := by decide +kernel
theorem dX11_writeBallot_78 : decode cX11_writeBallot 78 = .ok (.invokevirtual 249, 3) := by decide +kernel
theorem dX11_writeBallot_81 : decode cX11_writeBallot 81 = .ok (.iinc 3 1, 3) := by decide +kernel
theorem dX11_writeBallot_84 : decode cX11_writeBallot 84 = .ok (.goto (-38), 3) := by decide +kernel
theorem dX11_writeBallot_87 : decode cX11_writeBallot 87 = .ok (.aload_n 0, 1) := by decide +kernel
theorem dX11_writeBallot_88 : decode cX11_writeBallot 88 = .ok (.getfield 54, 3) := by decide +kernel
theorem dX11_writeBallot_91 : decode cX11_writeBallot 91 = .ok (.getfield 256, 3) := by decide +kernel
theorem dX11_writeBallot_94 : decode cX11_writeBallot 94 = .ok (.ireturn, 1) := by decide +kernel
theorem dX11_writeCount_0 : decode cX11_writeCount 0 = .ok (.aload_n 0, 1) := by decide +kernel
theorem dX11_writeCount_1 : decode cX11_writeCount 1 = .ok (.getfield 36, 3) := by decide +kernel
theorem dX11_writeCount_4 : decode cX11_writeCount 4 = .ok (.aload_n 0, 1) := by decide +kernel
theorem dX11_writeCount_5 : decode cX11_writeCount 5 = .ok (.getfield 10, 3) := by decide +kernel
theorem dX11_writeCount_8 : decode cX11_writeCount 8 = .ok (.invokevirtual 153, 3) := by decide +kernel
theorem dX11_writeCount_11 : decode cX11_writeCount 11 = .ok (.aload_n 0, 1) := by decide +kernel
theorem dX11_writeCount_12 : decode cX11_writeCount 12 = .ok (.getfield 54, 3) := by decide +kernel
theorem dX11_writeCount_15 : decode cX11_writeCount 15 = .ok (.invokevirtual 246, 3) := by decide +kernel
theorem dX11_writeCount_18 : decode cX11_writeCount 18 = .ok (.iconst 0, 1) := by decide +kernel
theorem dX11_writeCount_19 : decode cX11_writeCount 19 = .ok (.istore_n 1, 1) := by decide +kernel
theorem dX11_writeCount_20 : decode cX11_writeCount 20 = .ok (.iload_n 1, 1) := by decide +kernel
theorem dX11_writeCount_21 : decode cX11_writeCount 21 = .ok (.aload_n 0, 1) := by decide +kernel
theorem dX11_writeCount_22 : decode cX11_writeCount 22 = .ok (.getfield 36, 3) := by decide +kernel
theorem dX11_writeCount_25 : decode cX11_writeCount 25 = .ok (.getfield 163, 3) := by decide +kernel
theorem dX11_writeCount_28 : decode cX11_writeCount 28 = .ok (.if_icmp .ge 22, 3) := by decide +kernel
theorem dX11_writeCount_31 : decode cX11_writeCount 31 = .ok (.aload_n 0, 1) := by decide +kernel
theorem dX11_writeCount_32 : decode cX11_writeCount 32 = .ok (.aload_n 0, 1) := by decide +kernel
theorem dX11_writeCount_33 : decode cX11_writeCount 33 = .ok (.getfield 36, 3) := by decide +kernel
theorem dX11_writeCount_36 : decode cX11_writeCount 36 = .ok (.getfield 193, 3) := by decide +kernel
theorem dX11_writeCount_39 : decode cX11_writeCount 39 = .ok (.iload_n 1, 1) := by decide +kernel
theorem dX11_writeCount_40 : decode cX11_writeCount 40 = .ok (.aaload, 1) := by decide +kernel
theorem dX11_writeCount_41 : decode cX11_writeCount 41 = .ok (.invokevirtual 259, 3) := by decide +kernel
theorem dX11_writeCount_44 : decode cX11_writeCount 44 = .ok (.iinc 1 1, 3) := by decide +kernel
theorem dX11_writeCount_47 : decode cX11_writeCount 47 = .ok (.goto (-27), 3) := by decide +kernel
theorem dX11_writeCount_50 : decode cX11_writeCount 50 = .ok (.aload_n 0, 1) := by decide +kernel
theorem dX11_writeCount_51 : decode cX11_writeCount 51 = .ok (.getfield 54, 3) := by decide +kernel
theorem dX11_writeCount_54 : decode cX11_writeCount 54 = .ok (.getfield 256, 3) := by decide +kernel
theorem dX11_writeCount_57 : decode cX11_writeCount 57 = .ok (.ireturn, 1) := by decide +kernel
theorem dX11_lineAt_0 : decode cX11_lineAt 0 = .ok (.iload_n 1, 1) := by decide +kernel
theorem dX11_lineAt_1 : decode cX11_lineAt 1 = .ok (.ifCond .lt 14, 3) := by decide +kernel
theorem dX11_lineAt_4 : decode cX11_lineAt 4 = .ok (.iload_n 1, 1) := by decide +kernel
theorem dX11_lineAt_5 : decode cX11_lineAt 5 = .ok (.aload_n 0, 1) := by decide +kernel
theorem dX11_lineAt_6 : decode cX11_lineAt 6 = .ok (.getfield 54, 3) := by decide +kernel
theorem dX11_lineAt_9 : decode cX11_lineAt 9 = .ok (.getfield 256, 3) := by decide +kernel
theorem dX11_lineAt_12 : decode cX11_lineAt 12 = .ok (.if_icmp .lt 14, 3) := by decide +kernel
theorem dX11_lineAt_15 : decode cX11_lineAt 15 = .ok (.new 263, 3) := by decide +kernel
theorem dX11_lineAt_18 : decode cX11_lineAt 18 = .ok (.dup, 1) := by decide +kernel
theorem dX11_lineAt_19 : decode cX11_lineAt 19 = .ok (.ldc_w 265, 3) := by decide +kernel
theorem dX11_lineAt_22 : decode cX11_lineAt 22 = .ok (.invokespecial 267, 3) := by decide +kernel
theorem dX11_lineAt_25 : decode cX11_lineAt 25 = .ok (.athrow, 1) := by decide +kernel
theorem dX11_lineAt_26 : decode cX11_lineAt 26 = .ok (.aload_n 0, 1) := by decide +kernel
theorem dX11_lineAt_27 : decode cX11_lineAt 27 = .ok (.getfield 54, 3) := by decide +kernel
theorem dX11_lineAt_30 : decode cX11_lineAt 30 = .ok (.getfield 268, 3) := by decide +kernel
theorem dX11_lineAt_33 : decode cX11_lineAt 33 = .ok (.iload_n 1, 1) := by decide +kernel
theorem dX11_lineAt_34 : decode cX11_lineAt 34 = .ok (.caload, 1) := by decide +kernel
theorem dX11_lineAt_35 : decode cX11_lineAt 35 = .ok (.ireturn, 1) := by decide +kernel
theorem dX11_meanRanks_0 : decode cX11_meanRanks 0 = .ok (.aload_n 0, 1) := by decide +kernel
theorem dX11_meanRanks_1 : decode cX11_meanRanks 1 = .ok (.getfield 10, 3) := by decide +kernel
theorem dX11_meanRanks_4 : decode cX11_meanRanks 4 = .ok (.getfield 110, 3) := by decide +kernel
theorem dX11_meanRanks_7 : decode cX11_meanRanks 7 = .ok (.ifCond .ne 14, 3) := by decide +kernel
theorem dX11_meanRanks_10 : decode cX11_meanRanks 10 = .ok (.new 200, 3) := by decide +kernel
theorem dX11_meanRanks_13 : decode cX11_meanRanks 13 = .ok (.dup, 1) := by decide +kernel
theorem dX11_meanRanks_14 : decode cX11_meanRanks 14 = .ok (.ldc_w 272, 3) := by decide +kernel
theorem dX11_meanRanks_17 : decode cX11_meanRanks 17 = .ok (.invokespecial 204, 3) := by decide +kernel
theorem dX11_meanRanks_20 : decode cX11_meanRanks 20 = .ok (.athrow, 1) := by decide +kernel
theorem dX11_meanRanks_21 : decode cX11_meanRanks 21 = .ok (.aload_n 0, 1) := by decide +kernel
theorem dX11_meanRanks_22 : decode cX11_meanRanks 22 = .ok (.getfield 10, 3) := by decide +kernel
theorem dX11_meanRanks_25 : decode cX11_meanRanks 25 = .ok (.invokevirtual 274, 3) := by decide +kernel
theorem dX11_meanRanks_28 : decode cX11_meanRanks 28 = .ok (.i2d, 1) := by decide +kernel
theorem dX11_meanRanks_29 : decode cX11_meanRanks 29 = .ok (.aload_n 0, 1) := by decide +kernel
theorem dX11_meanRanks_30 : decode cX11_meanRanks 30 = .ok (.getfield 10, 3) := by decide +kernel
theorem dX11_meanRanks_33 : decode cX11_meanRanks 33 = .ok (.getfield 110, 3) := by decide +kernel
theorem dX11_meanRanks_36 : decode cX11_meanRanks 36 = .ok (.i2d, 1) := by decide +kernel
theorem dX11_meanRanks_37 : decode cX11_meanRanks 37 = .ok (.ddiv, 1) := by decide +kernel
theorem dX11_meanRanks_38 : decode cX11_meanRanks 38 = .ok (.dreturn, 1) := by decide +kernel
theorem dX11_isConsistent_0 : decode cX11_isConsistent 0 = .ok (.aload_n 0, 1) := by decide +kernel
theorem dX11_isConsistent_1 : decode cX11_isConsistent 1 = .ok (.getfield 36, 3) := by decide +kernel
theorem dX11_isConsistent_4 : decode cX11_isConsistent 4 = .ok (.aload_n 0, 1) := by decide +kernel
theorem dX11_isConsistent_5 : decode cX11_isConsistent 5 = .ok (.getfield 10, 3) := by decide +kernel
theorem dX11_isConsistent_8 : decode cX11_isConsistent 8 = .ok (.invokevirtual 153, 3) := by decide +kernel
theorem dX11_isConsistent_11 : decode cX11_isConsistent 11 = .ok (.aload_n 0, 1) := by decide +kernel
theorem dX11_isConsistent_12 : decode cX11_isConsistent 12 = .ok (.getfield 36, 3) := by decide +kernel
theorem dX11_isConsistent_15 : decode cX11_isConsistent 15 = .ok (.getfield 156, 3) := by decide +kernel
theorem dX11_isConsistent_18 : decode cX11_isConsistent 18 = .ok (.aload_n 0, 1) := by decide +kernel
theorem dX11_isConsistent_19 : decode cX11_isConsistent 19 = .ok (.getfield 43, 3) := by decide +kernel
theorem dX11_isConsistent_22 : decode cX11_isConsistent 22 = .ok (.aload_n 0, 1) := by decide +kernel
theorem dX11_isConsistent_23 : decode cX11_isConsistent 23 = .ok (.getfield 10, 3) := by decide +kernel
theorem dX11_isConsistent_26 : decode cX11_isConsistent 26 = .ok (.invokevirtual 159, 3) := by decide +kernel
theorem dX11_isConsistent_29 : decode cX11_isConsistent 29 = .ok (.if_icmp .ne 41, 3) := by decide +kernel
theorem dX11_isConsistent_32 : decode cX11_isConsistent 32 = .ok (.aload_n 0, 1) := by decide +kernel
theorem dX11_isConsistent_33 : decode cX11_isConsistent 33 = .ok (.getfield 10, 3) := by decide +kernel
theorem dX11_isConsistent_36 : decode cX11_isConsistent 36 = .ok (.invokevirtual 219, 3) := by decide +kernel
theorem dX11_isConsistent_39 : decode cX11_isConsistent 39 = .ok (.aload_n 0, 1) := by decide +kernel
theorem dX11_isConsistent_40 : decode cX11_isConsistent 40 = .ok (.getfield 10, 3) := by decide +kernel
theorem dX11_isConsistent_43 : decode cX11_isConsistent 43 = .ok (.invokevirtual 222, 3) := by decide +kernel
theorem dX11_isConsistent_46 : decode cX11_isConsistent 46 = .ok (.if_icmp .ne 24, 3) := by decide +kernel
theorem dX11_isConsistent_49 : decode cX11_isConsistent 49 = .ok (.aload_n 0, 1) := by decide +kernel
theorem dX11_isConsistent_50 : decode cX11_isConsistent 50 = .ok (.getfield 36, 3) := by decide +kernel
theorem dX11_isConsistent_53 : decode cX11_isConsistent 53 = .ok (.aload_n 0, 1) := by decide +kernel
theorem dX11_isConsistent_54 : decode cX11_isConsistent 54 = .ok (.getfield 10, 3) := by decide +kernel
theorem dX11_isConsistent_57 : decode cX11_isConsistent 57 = .ok (.invokevirtual 150, 3) := by decide +kernel
theorem dX11_isConsistent_60 : decode cX11_isConsistent 60 = .ok (.invokevirtual 277, 3) := by decide +kernel
theorem dX11_isConsistent_63 : decode cX11_isConsistent 63 = .ok (.ifCond .eq 7, 3) := by decide +kernel
theorem dX11_isConsistent_66 : decode cX11_isConsistent 66 = .ok (.iconst 1, 1) := by decide +kernel
theorem dX11_isConsistent_67 : decode cX11_isConsistent 67 = .ok (.goto 4, 3) := by decide +kernel
theorem dX11_isConsistent_70 : decode cX11_isConsistent 70 = .ok (.iconst 0, 1) := by decide +kernel
theorem dX11_isConsistent_71 : decode cX11_isConsistent 71 = .ok (.ireturn, 1) := by decide +kernel
theorem dX11_type_0 : decode cX11_type 0 = .ok (.iload_n 1, 1) := by decide +kernel
theorem dX11_type_1 : decode cX11_type 1 = .ok (.bipush 32, 2) := by decide +kernel
theorem dX11_type_3 : decode cX11_type 3 = .ok (.if_icmp .lt 9, 3) := by decide +kernel
theorem dX11_type_6 : decode cX11_type 6 = .ok (.iload_n 1, 1) := by decide +kernel
theorem dX11_type_7 : decode cX11_type 7 = .ok (.bipush 126, 2) := by decide +kernel
theorem dX11_type_9 : decode cX11_type 9 = .ok (.if_icmp .le 14, 3) := by decide +kernel
theorem dX11_type_12 : decode cX11_type 12 = .ok (.new 280, 3) := by decide +kernel
theorem dX11_type_15 : decode cX11_type 15 = .ok (.dup, 1) := by decide +kernel
theorem dX11_type_16 : decode cX11_type 16 = .ok (.ldc_w 282, 3) := by decide +kernel
theorem dX11_type_19 : decode cX11_type 19 = .ok (.invokespecial 284, 3) := by decide +kernel
theorem dX11_type_22 : decode cX11_type 22 = .ok (.athrow, 1) := by decide +kernel
theorem dX11_type_23 : decode cX11_type 23 = .ok (.aload_n 0, 1) := by decide +kernel
theorem dX11_type_24 : decode cX11_type 24 = .ok (.getfield 61, 3) := by decide +kernel
theorem dX11_type_27 : decode cX11_type 27 = .ok (.getfield 285, 3) := by decide +kernel
theorem dX11_type_30 : decode cX11_type 30 = .ok (.iload_n 1, 1) := by decide +kernel
theorem dX11_type_31 : decode cX11_type 31 = .ok (.invokevirtual 252, 3) := by decide +kernel
theorem dX11_type_34 : decode cX11_type 34 = .ok (.ifCond .ne 14, 3) := by decide +kernel
theorem dX11_type_37 : decode cX11_type 37 = .ok (.new 288, 3) := by decide +kernel
theorem dX11_type_40 : decode cX11_type 40 = .ok (.dup, 1) := by decide +kernel
theorem dX11_type_41 : decode cX11_type 41 = .ok (.ldc_w 290, 3) := by decide +kernel
theorem dX11_type_44 : decode cX11_type 44 = .ok (.invokespecial 292, 3) := by decide +kernel
theorem dX11_type_47 : decode cX11_type 47 = .ok (.athrow, 1) := by decide +kernel
theorem dX11_type_48 : decode cX11_type 48 = .ok (.aload_n 0, 1) := by decide +kernel
theorem dX11_type_49 : decode cX11_type 49 = .ok (.getfield 61, 3) := by decide +kernel
theorem dX11_type_52 : decode cX11_type 52 = .ok (.getfield 285, 3) := by decide +kernel
theorem dX11_type_55 : decode cX11_type 55 = .ok (.getfield 256, 3) := by decide +kernel
theorem dX11_type_58 : decode cX11_type 58 = .ok (.ireturn, 1) := by decide +kernel
theorem dX11_execute_0 : decode cX11_execute 0 = .ok (.aload_n 0, 1) := by decide +kernel
theorem dX11_execute_1 : decode cX11_execute 1 = .ok (.getfield 61, 3) := by decide +kernel
theorem dX11_execute_4 : decode cX11_execute 4 = .ok (.invokevirtual 293, 3) := by decide +kernel
theorem dX11_execute_7 : decode cX11_execute 7 = .ok (.istore_n 1, 1) := by decide +kernel
theorem dX11_execute_8 : decode cX11_execute 8 = .ok (.iload_n 1, 1) := by decide +kernel
theorem dX11_execute_9 : decode cX11_execute 9 = .ok (.iconst (-1), 1) := by decide +kernel
theorem dX11_execute_10 : decode cX11_execute 10 = .ok (.if_icmp .ne 7, 3) := by decide +kernel
theorem dX11_execute_13 : decode cX11_execute 13 = .ok (.iconst (-1), 1) := by decide +kernel
theorem dX11_execute_14 : decode cX11_execute 14 = .ok (.goto 8, 3) := by decide +kernel
theorem dX11_execute_17 : decode cX11_execute 17 = .ok (.aload_n 0, 1) := by decide +kernel
theorem dX11_execute_18 : decode cX11_execute 18 = .ok (.iload_n 1, 1) := by decide +kernel
theorem dX11_execute_19 : decode cX11_execute 19 = .ok (.invokevirtual 296, 3) := by decide +kernel
theorem dX11_execute_22 : decode cX11_execute 22 = .ok (.istore_n 2, 1) := by decide +kernel
theorem dX11_execute_23 : decode cX11_execute 23 = .ok (.aload_n 0, 1) := by decide +kernel
theorem dX11_execute_24 : decode cX11_execute 24 = .ok (.getfield 61, 3) := by decide +kernel
theorem dX11_execute_27 : decode cX11_execute 27 = .ok (.getfield 285, 3) := by decide +kernel
theorem dX11_execute_30 : decode cX11_execute 30 = .ok (.invokevirtual 246, 3) := by decide +kernel
theorem dX11_execute_33 : decode cX11_execute 33 = .ok (.iload_n 1, 1) := by decide +kernel
theorem dX11_execute_34 : decode cX11_execute 34 = .ok (.iconst (-1), 1) := by decide +kernel
theorem dX11_execute_35 : decode cX11_execute 35 = .ok (.if_icmp .ne 25, 3) := by decide +kernel
theorem dX11_execute_38 : decode cX11_execute 38 = .ok (.aload_n 0, 1) := by decide +kernel
theorem dX11_execute_39 : decode cX11_execute 39 = .ok (.aload_n 0, 1) := by decide +kernel
theorem dX11_execute_40 : decode cX11_execute 40 = .ok (.getfield 61, 3) := by decide +kernel
theorem dX11_execute_43 : decode cX11_execute 43 = .ok (.getfield 299, 3) := by decide +kernel
theorem dX11_execute_46 : decode cX11_execute 46 = .ok (.putfield 65, 3) := by decide +kernel
theorem dX11_execute_49 : decode cX11_execute 49 = .ok (.new 280, 3) := by decide +kernel
theorem dX11_execute_52 : decode cX11_execute 52 = .ok (.dup, 1) := by decide +kernel
theorem dX11_execute_53 : decode cX11_execute 53 = .ok (.ldc_w 302, 3) := by decide +kernel
theorem dX11_execute_56 : decode cX11_execute 56 = .ok (.invokespecial 284, 3) := by decide +kernel
theorem dX11_execute_59 : decode cX11_execute 59 = .ok (.athrow, 1) := by decide +kernel
theorem dX11_execute_60 : decode cX11_execute 60 = .ok (.iload_n 2, 1) := by decide +kernel
theorem dX11_execute_61 : decode cX11_execute 61 = .ok (.iconst (-1), 1) := by decide +kernel
theorem dX11_execute_62 : decode cX11_execute 62 = .ok (.if_icmp .eq 19, 3) := by decide +kernel
theorem dX11_execute_65 : decode cX11_execute 65 = .ok (.aload_n 0, 1) := by decide +kernel
theorem dX11_execute_66 : decode cX11_execute 66 = .ok (.iload_n 2, 1) := by decide +kernel
theorem dX11_execute_67 : decode cX11_execute 67 = .ok (.putfield 69, 3) := by decide +kernel
theorem dX11_execute_70 : decode cX11_execute 70 = .ok (.new 288, 3) := by decide +kernel
theorem dX11_execute_73 : decode cX11_execute 73 = .ok (.dup, 1) := by decide +kernel
theorem dX11_execute_74 : decode cX11_execute 74 = .ok (.ldc_w 304, 3) := by decide +kernel
theorem dX11_execute_77 : decode cX11_execute 77 = .ok (.invokespecial 292, 3) := by decide +kernel
theorem dX11_execute_80 : decode cX11_execute 80 = .ok (.athrow, 1) := by decide +kernel
theorem dX11_execute_81 : decode cX11_execute 81 = .ok (.iload_n 1, 1) := by decide +kernel
theorem dX11_execute_82 : decode cX11_execute 82 = .ok (.ireturn, 1) := by decide +kernel
theorem dX11_errorPosition_0 : decode cX11_errorPosition 0 = .ok (.aload_n 0, 1) := by decide +kernel
theorem dX11_errorPosition_1 : decode cX11_errorPosition 1 = .ok (.getfield 65, 3) := by decide +kernel
theorem dX11_errorPosition_4 : decode cX11_errorPosition 4 = .ok (.invokestatic 147, 3) := by decide +kernel
theorem dX11_errorPosition_7 : decode cX11_errorPosition 7 = .ok (.ireturn, 1) := by decide +kernel
theorem dX11_failedCommand_0 : decode cX11_failedCommand 0 = .ok (.aload_n 0, 1) := by decide +kernel
theorem dX11_failedCommand_1 : decode cX11_failedCommand 1 = .ok (.getfield 69, 3) := by decide +kernel
theorem dX11_failedCommand_4 : decode cX11_failedCommand 4 = .ok (.invokestatic 147, 3) := by decide +kernel
theorem dX11_failedCommand_7 : decode cX11_failedCommand 7 = .ok (.ireturn, 1) := by decide +kernel
theorem dX11_undo_0 : decode cX11_undo 0 = .ok (.aload_n 0, 1) := by decide +kernel
theorem dX11_undo_1 : decode cX11_undo 1 = .ok (.getfield 29, 3) := by decide +kernel
theorem dX11_undo_4 : decode cX11_undo 4 = .ok (.aload_n 0, 1) := by decide +kernel
theorem dX11_undo_5 : decode cX11_undo 5 = .ok (.getfield 10, 3) := by decide +kernel
theorem dX11_undo_8 : decode cX11_undo 8 = .ok (.invokevirtual 306, 3) := by decide +kernel
theorem dX11_undo_11 : decode cX11_undo 11 = .ok (.ifCond .ne 14, 3) := by decide +kernel
theorem dX11_undo_14 : decode cX11_undo 14 = .ok (.new 288, 3) := by decide +kernel
theorem dX11_undo_17 : decode cX11_undo 17 = .ok (.dup, 1) := by decide +kernel
theorem dX11_undo_18 : decode cX11_undo 18 = .ok (.ldc_w 310, 3) := by decide +kernel
theorem dX11_undo_21 : decode cX11_undo 21 = .ok (.invokespecial 292, 3) := by decide +kernel
theorem dX11_undo_24 : decode cX11_undo 24 = .ok (.athrow, 1) := by decide +kernel
theorem dX11_undo_25 : decode cX11_undo 25 = .ok (.aload_n 0, 1) := by decide +kernel
theorem dX11_undo_26 : decode cX11_undo 26 = .ok (.getfield 29, 3) := by decide +kernel
theorem dX11_undo_29 : decode cX11_undo 29 = .ok (.getfield 312, 3) := by decide +kernel
theorem dX11_undo_32 : decode cX11_undo 32 = .ok (.ireturn, 1) := by decide +kernel
theorem dX11_save_0 : decode cX11_save 0 = .ok (.aload_n 0, 1) := by decide +kernel
theorem dX11_save_1 : decode cX11_save 1 = .ok (.getfield 19, 3) := by decide +kernel
theorem dX11_save_4 : decode cX11_save 4 = .ok (.aload_n 0, 1) := by decide +kernel
theorem dX11_save_5 : decode cX11_save 5 = .ok (.getfield 10, 3) := by decide +kernel
theorem dX11_save_8 : decode cX11_save 8 = .ok (.invokevirtual 72, 3) := by decide +kernel
theorem dX11_save_11 : decode cX11_save 11 = .ok (.aload_n 0, 1) := by decide +kernel
theorem dX11_save_12 : decode cX11_save 12 = .ok (.iconst 1, 1) := by decide +kernel
theorem dX11_save_13 : decode cX11_save 13 = .ok (.putfield 22, 3) := by decide +kernel
theorem dX11_save_16 : decode cX11_save 16 = .ok (.aload_n 0, 1) := by decide +kernel
theorem dX11_save_17 : decode cX11_save 17 = .ok (.getfield 10, 3) := by decide +kernel
theorem dX11_save_20 : decode cX11_save 20 = .ok (.getfield 110, 3) := by decide +kernel
theorem dX11_save_23 : decode cX11_save 23 = .ok (.ireturn, 1) := by decide +kernel
theorem dX11_restore_0 : decode cX11_restore 0 = .ok (.aload_n 0, 1) := by decide +kernel
theorem dX11_restore_1 : decode cX11_restore 1 = .ok (.getfield 22, 3) := by decide +kernel
theorem dX11_restore_4 : decode cX11_restore 4 = .ok (.ifCond .ne 14, 3) := by decide +kernel
theorem dX11_restore_7 : decode cX11_restore 7 = .ok (.new 288, 3) := by decide +kernel
theorem dX11_restore_10 : decode cX11_restore 10 = .ok (.dup, 1) := by decide +kernel
theorem dX11_restore_11 : decode cX11_restore 11 = .ok (.ldc_w 313, 3) := by decide +kernel
theorem dX11_restore_14 : decode cX11_restore 14 = .ok (.invokespecial 292, 3) := by decide +kernel
theorem dX11_restore_17 : decode cX11_restore 17 = .ok (.athrow, 1) := by decide +kernel
theorem dX11_restore_18 : decode cX11_restore 18 = .ok (.aload_n 0, 1) := by decide +kernel
theorem dX11_restore_19 : decode cX11_restore 19 = .ok (.getfield 10, 3) := by decide +kernel
theorem dX11_restore_22 : decode cX11_restore 22 = .ok (.aload_n 0, 1) := by decide +kernel
theorem dX11_restore_23 : decode cX11_restore 23 = .ok (.getfield 19, 3) := by decide +kernel
theorem dX11_restore_26 : decode cX11_restore 26 = .ok (.invokevirtual 72, 3) := by decide +kernel
theorem dX11_restore_29 : decode cX11_restore 29 = .ok (.aload_n 0, 1) := by decide +kernel
theorem dX11_restore_30 : decode cX11_restore 30 = .ok (.getfield 29, 3) := by decide +kernel
theorem dX11_restore_33 : decode cX11_restore 33 = .ok (.invokevirtual 315, 3) := by decide +kernel
theorem dX11_restore_36 : decode cX11_restore 36 = .ok (.aload_n 0, 1) := by decide +kernel
theorem dX11_restore_37 : decode cX11_restore 37 = .ok (.getfield 10, 3) := by decide +kernel
theorem dX11_restore_40 : decode cX11_restore 40 = .ok (.getfield 110, 3) := by decide +kernel
theorem dX11_restore_43 : decode cX11_restore 43 = .ok (.ireturn, 1) := by decide +kernel
theorem dX11_checkWind_0 : decode cX11_checkWind 0 = .ok (.aload_n 0, 1) := by decide +kernel
theorem dX11_checkWind_1 : decode cX11_checkWind 1 = .ok (.getfield 10, 3) := by decide +kernel
theorem dX11_checkWind_4 : decode cX11_checkWind 4 = .ok (.iload_n 1, 1) := by decide +kernel
theorem dX11_checkWind_5 : decode cX11_checkWind 5 = .ok (.invokevirtual 318, 3) := by decide +kernel
theorem dX11_checkWind_8 : decode cX11_checkWind 8 = .ok (.ifCond .ne 14, 3) := by decide +kernel
theorem dX11_checkWind_11 : decode cX11_checkWind 11 = .ok (.new 263, 3) := by decide +kernel
theorem dX11_checkWind_14 : decode cX11_checkWind 14 = .ok (.dup, 1) := by decide +kernel
theorem dX11_checkWind_15 : decode cX11_checkWind 15 = .ok (.ldc_w 321, 3) := by decide +kernel
theorem dX11_checkWind_18 : decode cX11_checkWind 18 = .ok (.invokespecial 267, 3) := by decide +kernel
theorem dX11_checkWind_21 : decode cX11_checkWind 21 = .ok (.athrow, 1) := by decide +kernel
theorem dX11_checkWind_22 : decode cX11_checkWind 22 = .ok (.return_, 1) := by decide +kernel
theorem dX11_ballotNumbered_0 : decode cX11_ballotNumbered 0 = .ok (.aload_n 0, 1) := by decide +kernel
theorem dX11_ballotNumbered_1 : decode cX11_ballotNumbered 1 = .ok (.getfield 10, 3) := by decide +kernel
theorem dX11_ballotNumbered_4 : decode cX11_ballotNumbered 4 = .ok (.iload_n 1, 1) := by decide +kernel
theorem dX11_ballotNumbered_5 : decode cX11_ballotNumbered 5 = .ok (.invokevirtual 323, 3) := by decide +kernel
theorem dX11_ballotNumbered_8 : decode cX11_ballotNumbered 8 = .ok (.ifCond .ne 14, 3) := by decide +kernel
theorem dX11_ballotNumbered_11 : decode cX11_ballotNumbered 11 = .ok (.new 263, 3) := by decide +kernel
theorem dX11_ballotNumbered_14 : decode cX11_ballotNumbered 14 = .ok (.dup, 1) := by decide +kernel
theorem dX11_ballotNumbered_15 : decode cX11_ballotNumbered 15 = .ok (.ldc_w 326, 3) := by decide +kernel
theorem dX11_ballotNumbered_18 : decode cX11_ballotNumbered 18 = .ok (.invokespecial 267, 3) := by decide +kernel
theorem dX11_ballotNumbered_21 : decode cX11_ballotNumbered 21 = .ok (.athrow, 1) := by decide +kernel
theorem dX11_ballotNumbered_22 : decode cX11_ballotNumbered 22 = .ok (.aload_n 0, 1) := by decide +kernel
theorem dX11_ballotNumbered_23 : decode cX11_ballotNumbered 23 = .ok (.getfield 10, 3) := by decide +kernel
theorem dX11_ballotNumbered_26 : decode cX11_ballotNumbered 26 = .ok (.getfield 328, 3) := by decide +kernel
theorem dX11_ballotNumbered_29 : decode cX11_ballotNumbered 29 = .ok (.iload_n 1, 1) := by decide +kernel
theorem dX11_ballotNumbered_30 : decode cX11_ballotNumbered 30 = .ok (.aaload, 1) := by decide +kernel
theorem dX11_ballotNumbered_31 : decode cX11_ballotNumbered 31 = .ok (.areturn, 1) := by decide +kernel
theorem dX11_roundNumbered_0 : decode cX11_roundNumbered 0 = .ok (.aload_n 0, 1) := by decide +kernel
theorem dX11_roundNumbered_1 : decode cX11_roundNumbered 1 = .ok (.getfield 36, 3) := by decide +kernel
theorem dX11_roundNumbered_4 : decode cX11_roundNumbered 4 = .ok (.aload_n 0, 1) := by decide +kernel
theorem dX11_roundNumbered_5 : decode cX11_roundNumbered 5 = .ok (.getfield 10, 3) := by decide +kernel
theorem dX11_roundNumbered_8 : decode cX11_roundNumbered 8 = .ok (.invokevirtual 153, 3) := by decide +kernel
theorem dX11_roundNumbered_11 : decode cX11_roundNumbered 11 = .ok (.iload_n 1, 1) := by decide +kernel
theorem dX11_roundNumbered_12 : decode cX11_roundNumbered 12 = .ok (.ifCond .lt 14, 3) := by decide +kernel
theorem dX11_roundNumbered_15 : decode cX11_roundNumbered 15 = .ok (.iload_n 1, 1) := by decide +kernel
theorem dX11_roundNumbered_16 : decode cX11_roundNumbered 16 = .ok (.aload_n 0, 1) := by decide +kernel
theorem dX11_roundNumbered_17 : decode cX11_roundNumbered 17 = .ok (.getfield 36, 3) := by decide +kernel
theorem dX11_roundNumbered_20 : decode cX11_roundNumbered 20 = .ok (.getfield 163, 3) := by decide +kernel
