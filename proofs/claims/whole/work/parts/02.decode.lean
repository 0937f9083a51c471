theorem dX0_init_0 : decode cX0_init 0 = .ok (.aload_n 0, 1) := by decide +kernel
theorem dX0_init_1 : decode cX0_init 1 = .ok (.invokespecial 3, 3) := by decide +kernel
theorem dX0_init_4 : decode cX0_init 4 = .ok (.aload_n 0, 1) := by decide +kernel
theorem dX0_init_5 : decode cX0_init 5 = .ok (.sipush 164, 3) := by decide +kernel
theorem dX0_init_8 : decode cX0_init 8 = .ok (.newarray .int, 2) := by decide +kernel
theorem dX0_init_10 : decode cX0_init 10 = .ok (.putfield 9, 3) := by decide +kernel
theorem dX0_init_13 : decode cX0_init 13 = .ok (.aload_n 0, 1) := by decide +kernel
theorem dX0_init_14 : decode cX0_init 14 = .ok (.bipush 17, 2) := by decide +kernel
theorem dX0_init_16 : decode cX0_init 16 = .ok (.newarray .int, 2) := by decide +kernel
theorem dX0_init_18 : decode cX0_init 18 = .ok (.putfield 15, 3) := by decide +kernel
theorem dX0_init_21 : decode cX0_init 21 = .ok (.aload_n 0, 1) := by decide +kernel
theorem dX0_init_22 : decode cX0_init 22 = .ok (.bipush 10, 2) := by decide +kernel
theorem dX0_init_24 : decode cX0_init 24 = .ok (.newarray .int, 2) := by decide +kernel
theorem dX0_init_26 : decode cX0_init 26 = .ok (.putfield 18, 3) := by decide +kernel
theorem dX0_init_29 : decode cX0_init 29 = .ok (.aload_n 0, 1) := by decide +kernel
theorem dX0_init_30 : decode cX0_init 30 = .ok (.bipush 10, 2) := by decide +kernel
theorem dX0_init_32 : decode cX0_init 32 = .ok (.newarray .int, 2) := by decide +kernel
theorem dX0_init_34 : decode cX0_init 34 = .ok (.putfield 21, 3) := by decide +kernel
theorem dX0_init_37 : decode cX0_init 37 = .ok (.return_, 1) := by decide +kernel
theorem dX0_copyFrom_0 : decode cX0_copyFrom 0 = .ok (.aload_n 1, 1) := by decide +kernel
theorem dX0_copyFrom_1 : decode cX0_copyFrom 1 = .ok (.getfield 9, 3) := by decide +kernel
theorem dX0_copyFrom_4 : decode cX0_copyFrom 4 = .ok (.iconst 0, 1) := by decide +kernel
theorem dX0_copyFrom_5 : decode cX0_copyFrom 5 = .ok (.aload_n 0, 1) := by decide +kernel
theorem dX0_copyFrom_6 : decode cX0_copyFrom 6 = .ok (.getfield 9, 3) := by decide +kernel
theorem dX0_copyFrom_9 : decode cX0_copyFrom 9 = .ok (.iconst 0, 1) := by decide +kernel
theorem dX0_copyFrom_10 : decode cX0_copyFrom 10 = .ok (.sipush 164, 3) := by decide +kernel
theorem dX0_copyFrom_13 : decode cX0_copyFrom 13 = .ok (.invokestatic 24, 3) := by decide +kernel
theorem dX0_copyFrom_16 : decode cX0_copyFrom 16 = .ok (.aload_n 1, 1) := by decide +kernel
theorem dX0_copyFrom_17 : decode cX0_copyFrom 17 = .ok (.getfield 15, 3) := by decide +kernel
theorem dX0_copyFrom_20 : decode cX0_copyFrom 20 = .ok (.iconst 0, 1) := by decide +kernel
theorem dX0_copyFrom_21 : decode cX0_copyFrom 21 = .ok (.aload_n 0, 1) := by decide +kernel
theorem dX0_copyFrom_22 : decode cX0_copyFrom 22 = .ok (.getfield 15, 3) := by decide +kernel
theorem dX0_copyFrom_25 : decode cX0_copyFrom 25 = .ok (.iconst 0, 1) := by decide +kernel
theorem dX0_copyFrom_26 : decode cX0_copyFrom 26 = .ok (.bipush 17, 2) := by decide +kernel
theorem dX0_copyFrom_28 : decode cX0_copyFrom 28 = .ok (.invokestatic 24, 3) := by decide +kernel
theorem dX0_copyFrom_31 : decode cX0_copyFrom 31 = .ok (.aload_n 1, 1) := by decide +kernel
theorem dX0_copyFrom_32 : decode cX0_copyFrom 32 = .ok (.getfield 18, 3) := by decide +kernel
theorem dX0_copyFrom_35 : decode cX0_copyFrom 35 = .ok (.iconst 0, 1) := by decide +kernel
theorem dX0_copyFrom_36 : decode cX0_copyFrom 36 = .ok (.aload_n 0, 1) := by decide +kernel
theorem dX0_copyFrom_37 : decode cX0_copyFrom 37 = .ok (.getfield 18, 3) := by decide +kernel
theorem dX0_copyFrom_40 : decode cX0_copyFrom 40 = .ok (.iconst 0, 1) := by decide +kernel
theorem dX0_copyFrom_41 : decode cX0_copyFrom 41 = .ok (.bipush 10, 2) := by decide +kernel
theorem dX0_copyFrom_43 : decode cX0_copyFrom 43 = .ok (.invokestatic 24, 3) := by decide +kernel
theorem dX0_copyFrom_46 : decode cX0_copyFrom 46 = .ok (.aload_n 1, 1) := by decide +kernel
theorem dX0_copyFrom_47 : decode cX0_copyFrom 47 = .ok (.getfield 21, 3) := by decide +kernel
theorem dX0_copyFrom_50 : decode cX0_copyFrom 50 = .ok (.iconst 0, 1) := by decide +kernel
theorem dX0_copyFrom_51 : decode cX0_copyFrom 51 = .ok (.aload_n 0, 1) := by decide +kernel
theorem dX0_copyFrom_52 : decode cX0_copyFrom 52 = .ok (.getfield 21, 3) := by decide +kernel
theorem dX0_copyFrom_55 : decode cX0_copyFrom 55 = .ok (.iconst 0, 1) := by decide +kernel
theorem dX0_copyFrom_56 : decode cX0_copyFrom 56 = .ok (.bipush 10, 2) := by decide +kernel
theorem dX0_copyFrom_58 : decode cX0_copyFrom 58 = .ok (.invokestatic 24, 3) := by decide +kernel
theorem dX0_copyFrom_61 : decode cX0_copyFrom 61 = .ok (.aload_n 0, 1) := by decide +kernel
theorem dX0_copyFrom_62 : decode cX0_copyFrom 62 = .ok (.aload_n 1, 1) := by decide +kernel
theorem dX0_copyFrom_63 : decode cX0_copyFrom 63 = .ok (.getfield 30, 3) := by decide +kernel
theorem dX0_copyFrom_66 : decode cX0_copyFrom 66 = .ok (.putfield 30, 3) := by decide +kernel
theorem dX0_copyFrom_69 : decode cX0_copyFrom 69 = .ok (.aload_n 0, 1) := by decide +kernel
theorem dX0_copyFrom_70 : decode cX0_copyFrom 70 = .ok (.aload_n 1, 1) := by decide +kernel
theorem dX0_copyFrom_71 : decode cX0_copyFrom 71 = .ok (.getfield 34, 3) := by decide +kernel
theorem dX0_copyFrom_74 : decode cX0_copyFrom 74 = .ok (.putfield 34, 3) := by decide +kernel
theorem dX0_copyFrom_77 : decode cX0_copyFrom 77 = .ok (.aload_n 0, 1) := by decide +kernel
theorem dX0_copyFrom_78 : decode cX0_copyFrom 78 = .ok (.aload_n 1, 1) := by decide +kernel
theorem dX0_copyFrom_79 : decode cX0_copyFrom 79 = .ok (.getfield 37, 3) := by decide +kernel
theorem dX0_copyFrom_82 : decode cX0_copyFrom 82 = .ok (.putfield 37, 3) := by decide +kernel
theorem dX0_copyFrom_85 : decode cX0_copyFrom 85 = .ok (.aload_n 0, 1) := by decide +kernel
theorem dX0_copyFrom_86 : decode cX0_copyFrom 86 = .ok (.aload_n 1, 1) := by decide +kernel
theorem dX0_copyFrom_87 : decode cX0_copyFrom 87 = .ok (.getfield 40, 3) := by decide +kernel
theorem dX0_copyFrom_90 : decode cX0_copyFrom 90 = .ok (.putfield 40, 3) := by decide +kernel
theorem dX0_copyFrom_93 : decode cX0_copyFrom 93 = .ok (.aload_n 0, 1) := by decide +kernel
theorem dX0_copyFrom_94 : decode cX0_copyFrom 94 = .ok (.aload_n 1, 1) := by decide +kernel
theorem dX0_copyFrom_95 : decode cX0_copyFrom 95 = .ok (.getfield 43, 3) := by decide +kernel
theorem dX0_copyFrom_98 : decode cX0_copyFrom 98 = .ok (.putfield 43, 3) := by decide +kernel
theorem dX0_copyFrom_101 : decode cX0_copyFrom 101 = .ok (.aload_n 0, 1) := by decide +kernel
theorem dX0_copyFrom_102 : decode cX0_copyFrom 102 = .ok (.aload_n 1, 1) := by decide +kernel
theorem dX0_copyFrom_103 : decode cX0_copyFrom 103 = .ok (.getfield 46, 3) := by decide +kernel
theorem dX0_copyFrom_106 : decode cX0_copyFrom 106 = .ok (.putfield 46, 3) := by decide +kernel
theorem dX0_copyFrom_109 : decode cX0_copyFrom 109 = .ok (.aload_n 0, 1) := by decide +kernel
theorem dX0_copyFrom_110 : decode cX0_copyFrom 110 = .ok (.aload_n 1, 1) := by decide +kernel
theorem dX0_copyFrom_111 : decode cX0_copyFrom 111 = .ok (.getfield 49, 3) := by decide +kernel
theorem dX0_copyFrom_114 : decode cX0_copyFrom 114 = .ok (.putfield 49, 3) := by decide +kernel
theorem dX0_copyFrom_117 : decode cX0_copyFrom 117 = .ok (.aload_n 0, 1) := by decide +kernel
theorem dX0_copyFrom_118 : decode cX0_copyFrom 118 = .ok (.aload_n 1, 1) := by decide +kernel
theorem dX0_copyFrom_119 : decode cX0_copyFrom 119 = .ok (.getfield 52, 3) := by decide +kernel
theorem dX0_copyFrom_122 : decode cX0_copyFrom 122 = .ok (.putfield 52, 3) := by decide +kernel
theorem dX0_copyFrom_125 : decode cX0_copyFrom 125 = .ok (.aload_n 0, 1) := by decide +kernel
theorem dX0_copyFrom_126 : decode cX0_copyFrom 126 = .ok (.aload_n 1, 1) := by decide +kernel
theorem dX0_copyFrom_127 : decode cX0_copyFrom 127 = .ok (.getfield 55, 3) := by decide +kernel
theorem dX0_copyFrom_130 : decode cX0_copyFrom 130 = .ok (.putfield 55, 3) := by decide +kernel
theorem dX0_copyFrom_133 : decode cX0_copyFrom 133 = .ok (.aload_n 0, 1) := by decide +kernel
theorem dX0_copyFrom_134 : decode cX0_copyFrom 134 = .ok (.aload_n 1, 1) := by decide +kernel
theorem dX0_copyFrom_135 : decode cX0_copyFrom 135 = .ok (.getfield 58, 3) := by decide +kernel
theorem dX0_copyFrom_138 : decode cX0_copyFrom 138 = .ok (.putfield 58, 3) := by decide +kernel
theorem dX0_copyFrom_141 : decode cX0_copyFrom 141 = .ok (.return_, 1) := by decide +kernel
theorem dX0_startGame_0 : decode cX0_startGame 0 = .ok (.iload_n 1, 1) := by decide +kernel
theorem dX0_startGame_1 : decode cX0_startGame 1 = .ok (.iconst 2, 1) := by decide +kernel
theorem dX0_startGame_2 : decode cX0_startGame 2 = .ok (.if_icmp .lt 8, 3) := by decide +kernel
theorem dX0_startGame_5 : decode cX0_startGame 5 = .ok (.iload_n 1, 1) := by decide +kernel
theorem dX0_startGame_6 : decode cX0_startGame 6 = .ok (.iconst 4, 1) := by decide +kernel
theorem dX0_startGame_7 : decode cX0_startGame 7 = .ok (.if_icmp .le 6, 3) := by decide +kernel
theorem dX0_startGame_10 : decode cX0_startGame 10 = .ok (.ldc 62, 2) := by decide +kernel
theorem dX0_startGame_12 : decode cX0_startGame 12 = .ok (.ireturn, 1) := by decide +kernel
theorem dX0_startGame_13 : decode cX0_startGame 13 = .ok (.aload_n 0, 1) := by decide +kernel
theorem dX0_startGame_14 : decode cX0_startGame 14 = .ok (.iload_n 1, 1) := by decide +kernel
theorem dX0_startGame_15 : decode cX0_startGame 15 = .ok (.putfield 30, 3) := by decide +kernel
theorem dX0_startGame_18 : decode cX0_startGame 18 = .ok (.aload_n 0, 1) := by decide +kernel
theorem dX0_startGame_19 : decode cX0_startGame 19 = .ok (.iconst 0, 1) := by decide +kernel
theorem dX0_startGame_20 : decode cX0_startGame 20 = .ok (.putfield 34, 3) := by decide +kernel
theorem dX0_startGame_23 : decode cX0_startGame 23 = .ok (.aload_n 0, 1) := by decide +kernel
theorem dX0_startGame_24 : decode cX0_startGame 24 = .ok (.iconst 0, 1) := by decide +kernel
theorem dX0_startGame_25 : decode cX0_startGame 25 = .ok (.putfield 49, 3) := by decide +kernel
theorem dX0_startGame_28 : decode cX0_startGame 28 = .ok (.aload_n 0, 1) := by decide +kernel
theorem dX0_startGame_29 : decode cX0_startGame 29 = .ok (.iconst 0, 1) := by decide +kernel
theorem dX0_startGame_30 : decode cX0_startGame 30 = .ok (.putfield 55, 3) := by decide +kernel
theorem dX0_startGame_33 : decode cX0_startGame 33 = .ok (.aload_n 0, 1) := by decide +kernel
theorem dX0_startGame_34 : decode cX0_startGame 34 = .ok (.iconst 0, 1) := by decide +kernel
theorem dX0_startGame_35 : decode cX0_startGame 35 = .ok (.putfield 58, 3) := by decide +kernel
theorem dX0_startGame_38 : decode cX0_startGame 38 = .ok (.getstatic 63, 3) := by decide +kernel
theorem dX0_startGame_41 : decode cX0_startGame 41 = .ok (.iconst 0, 1) := by decide +kernel
theorem dX0_startGame_42 : decode cX0_startGame 42 = .ok (.aload_n 0, 1) := by decide +kernel
theorem dX0_startGame_43 : decode cX0_startGame 43 = .ok (.getfield 18, 3) := by decide +kernel
theorem dX0_startGame_46 : decode cX0_startGame 46 = .ok (.iconst 0, 1) := by decide +kernel
theorem dX0_startGame_47 : decode cX0_startGame 47 = .ok (.bipush 10, 2) := by decide +kernel
theorem dX0_startGame_49 : decode cX0_startGame 49 = .ok (.invokestatic 24, 3) := by decide +kernel
theorem dX0_startGame_52 : decode cX0_startGame 52 = .ok (.aload_n 0, 1) := by decide +kernel
theorem dX0_startGame_53 : decode cX0_startGame 53 = .ok (.getfield 21, 3) := by decide +kernel
theorem dX0_startGame_56 : decode cX0_startGame 56 = .ok (.iconst 0, 1) := by decide +kernel
theorem dX0_startGame_57 : decode cX0_startGame 57 = .ok (.invokestatic 66, 3) := by decide +kernel
theorem dX0_startGame_60 : decode cX0_startGame 60 = .ok (.aload_n 0, 1) := by decide +kernel
theorem dX0_startGame_61 : decode cX0_startGame 61 = .ok (.invokevirtual 72, 3) := by decide +kernel
theorem dX0_startGame_64 : decode cX0_startGame 64 = .ok (.iconst 0, 1) := by decide +kernel
theorem dX0_startGame_65 : decode cX0_startGame 65 = .ok (.istore_n 2, 1) := by decide +kernel
theorem dX0_startGame_66 : decode cX0_startGame 66 = .ok (.iload_n 2, 1) := by decide +kernel
theorem dX0_startGame_67 : decode cX0_startGame 67 = .ok (.aload_n 0, 1) := by decide +kernel
theorem dX0_startGame_68 : decode cX0_startGame 68 = .ok (.getfield 30, 3) := by decide +kernel
theorem dX0_startGame_71 : decode cX0_startGame 71 = .ok (.if_icmp .ge 15, 3) := by decide +kernel
theorem dX0_startGame_74 : decode cX0_startGame 74 = .ok (.aload_n 0, 1) := by decide +kernel
theorem dX0_startGame_75 : decode cX0_startGame 75 = .ok (.iload_n 2, 1) := by decide +kernel
theorem dX0_startGame_76 : decode cX0_startGame 76 = .ok (.iconst 5, 1) := by decide +kernel
theorem dX0_startGame_77 : decode cX0_startGame 77 = .ok (.invokevirtual 75, 3) := by decide +kernel
theorem dX0_startGame_80 : decode cX0_startGame 80 = .ok (.iinc 2 1, 3) := by decide +kernel
theorem dX0_startGame_83 : decode cX0_startGame 83 = .ok (.goto (-17), 3) := by decide +kernel
theorem dX0_startGame_86 : decode cX0_startGame 86 = .ok (.aload_n 0, 1) := by decide +kernel
theorem dX0_startGame_87 : decode cX0_startGame 87 = .ok (.invokevirtual 79, 3) := by decide +kernel
theorem dX0_startGame_90 : decode cX0_startGame 90 = .ok (.aload_n 0, 1) := by decide +kernel
theorem dX0_startGame_91 : decode cX0_startGame 91 = .ok (.getfield 18, 3) := by decide +kernel
theorem dX0_startGame_94 : decode cX0_startGame 94 = .ok (.iconst 0, 1) := by decide +kernel
theorem dX0_startGame_95 : decode cX0_startGame 95 = .ok (.iaload, 1) := by decide +kernel
theorem dX0_startGame_96 : decode cX0_startGame 96 = .ok (.ireturn, 1) := by decide +kernel
theorem dX0_dealDecks_0 : decode cX0_dealDecks 0 = .ok (.iconst 0, 1) := by decide +kernel
theorem dX0_dealDecks_1 : decode cX0_dealDecks 1 = .ok (.istore_n 1, 1) := by decide +kernel
theorem dX0_dealDecks_2 : decode cX0_dealDecks 2 = .ok (.iconst 0, 1) := by decide +kernel
theorem dX0_dealDecks_3 : decode cX0_dealDecks 3 = .ok (.istore_n 2, 1) := by decide +kernel
theorem dX0_dealDecks_4 : decode cX0_dealDecks 4 = .ok (.iload_n 2, 1) := by decide +kernel
theorem dX0_dealDecks_5 : decode cX0_dealDecks 5 = .ok (.iconst 4, 1) := by decide +kernel
theorem dX0_dealDecks_6 : decode cX0_dealDecks 6 = .ok (.if_icmp .ge 103, 3) := by decide +kernel
theorem dX0_dealDecks_9 : decode cX0_dealDecks 9 = .ok (.aload_n 0, 1) := by decide +kernel
theorem dX0_dealDecks_10 : decode cX0_dealDecks 10 = .ok (.getfield 15, 3) := by decide +kernel
theorem dX0_dealDecks_13 : decode cX0_dealDecks 13 = .ok (.iload_n 2, 1) := by decide +kernel
theorem dX0_dealDecks_14 : decode cX0_dealDecks 14 = .ok (.iconst 4, 1) := by decide +kernel
theorem dX0_dealDecks_15 : decode cX0_dealDecks 15 = .ok (.imul, 1) := by decide +kernel
theorem dX0_dealDecks_16 : decode cX0_dealDecks 16 = .ok (.iconst 0, 1) := by decide +kernel
theorem dX0_dealDecks_17 : decode cX0_dealDecks 17 = .ok (.iadd, 1) := by decide +kernel
theorem dX0_dealDecks_18 : decode cX0_dealDecks 18 = .ok (.iload_n 1, 1) := by decide +kernel
theorem dX0_dealDecks_19 : decode cX0_dealDecks 19 = .ok (.iastore, 1) := by decide +kernel
theorem dX0_dealDecks_20 : decode cX0_dealDecks 20 = .ok (.iconst 0, 1) := by decide +kernel
theorem dX0_dealDecks_21 : decode cX0_dealDecks 21 = .ok (.istore_n 3, 1) := by decide +kernel
theorem dX0_dealDecks_22 : decode cX0_dealDecks 22 = .ok (.iload_n 3, 1) := by decide +kernel
theorem dX0_dealDecks_23 : decode cX0_dealDecks 23 = .ok (.bipush 10, 2) := by decide +kernel
theorem dX0_dealDecks_25 : decode cX0_dealDecks 25 = .ok (.if_icmp .ge 45, 3) := by decide +kernel
theorem dX0_dealDecks_28 : decode cX0_dealDecks 28 = .ok (.iload_n 2, 1) := by decide +kernel
theorem dX0_dealDecks_29 : decode cX0_dealDecks 29 = .ok (.aload_n 0, 1) := by decide +kernel
theorem dX0_dealDecks_30 : decode cX0_dealDecks 30 = .ok (.getfield 30, 3) := by decide +kernel
theorem dX0_dealDecks_33 : decode cX0_dealDecks 33 = .ok (.if_icmp .ge 37, 3) := by decide +kernel
theorem dX0_dealDecks_36 : decode cX0_dealDecks 36 = .ok (.aload_n 0, 1) := by decide +kernel
theorem dX0_dealDecks_37 : decode cX0_dealDecks 37 = .ok (.getfield 9, 3) := by decide +kernel
theorem dX0_dealDecks_40 : decode cX0_dealDecks 40 = .ok (.iload_n 1, 1) := by decide +kernel
theorem dX0_dealDecks_41 : decode cX0_dealDecks 41 = .ok (.getstatic 82, 3) := by decide +kernel
theorem dX0_dealDecks_44 : decode cX0_dealDecks 44 = .ok (.iload_n 3, 1) := by decide +kernel
theorem dX0_dealDecks_45 : decode cX0_dealDecks 45 = .ok (.iaload, 1) := by decide +kernel
theorem dX0_dealDecks_46 : decode cX0_dealDecks 46 = .ok (.iastore, 1) := by decide +kernel
theorem dX0_dealDecks_47 : decode cX0_dealDecks 47 = .ok (.aload_n 0, 1) := by decide +kernel
theorem dX0_dealDecks_48 : decode cX0_dealDecks 48 = .ok (.getfield 18, 3) := by decide +kernel
theorem dX0_dealDecks_51 : decode cX0_dealDecks 51 = .ok (.getstatic 82, 3) := by decide +kernel
theorem dX0_dealDecks_54 : decode cX0_dealDecks 54 = .ok (.iload_n 3, 1) := by decide +kernel
theorem dX0_dealDecks_55 : decode cX0_dealDecks 55 = .ok (.iaload, 1) := by decide +kernel
theorem dX0_dealDecks_56 : decode cX0_dealDecks 56 = .ok (.dup2, 1) := by decide +kernel
theorem dX0_dealDecks_57 : decode cX0_dealDecks 57 = .ok (.iaload, 1) := by decide +kernel
theorem dX0_dealDecks_58 : decode cX0_dealDecks 58 = .ok (.iconst 1, 1) := by decide +kernel
theorem dX0_dealDecks_59 : decode cX0_dealDecks 59 = .ok (.isub, 1) := by decide +kernel
theorem dX0_dealDecks_60 : decode cX0_dealDecks 60 = .ok (.iastore, 1) := by decide +kernel
theorem dX0_dealDecks_61 : decode cX0_dealDecks 61 = .ok (.iinc 1 1, 3) := by decide +kernel
theorem dX0_dealDecks_64 : decode cX0_dealDecks 64 = .ok (.iinc 3 1, 3) := by decide +kernel
theorem dX0_dealDecks_67 : decode cX0_dealDecks 67 = .ok (.goto (-45), 3) := by decide +kernel
theorem dX0_dealDecks_70 : decode cX0_dealDecks 70 = .ok (.aload_n 0, 1) := by decide +kernel
theorem dX0_dealDecks_71 : decode cX0_dealDecks 71 = .ok (.getfield 15, 3) := by decide +kernel
theorem dX0_dealDecks_74 : decode cX0_dealDecks 74 = .ok (.iload_n 2, 1) := by decide +kernel
theorem dX0_dealDecks_75 : decode cX0_dealDecks 75 = .ok (.iconst 4, 1) := by decide +kernel
theorem dX0_dealDecks_76 : decode cX0_dealDecks 76 = .ok (.imul, 1) := by decide +kernel
theorem dX0_dealDecks_77 : decode cX0_dealDecks 77 = .ok (.iconst 1, 1) := by decide +kernel
theorem dX0_dealDecks_78 : decode cX0_dealDecks 78 = .ok (.iadd, 1) := by decide +kernel
theorem dX0_dealDecks_79 : decode cX0_dealDecks 79 = .ok (.iload_n 1, 1) := by decide +kernel
theorem dX0_dealDecks_80 : decode cX0_dealDecks 80 = .ok (.iastore, 1) := by decide +kernel
theorem dX0_dealDecks_81 : decode cX0_dealDecks 81 = .ok (.aload_n 0, 1) := by decide +kernel
theorem dX0_dealDecks_82 : decode cX0_dealDecks 82 = .ok (.getfield 15, 3) := by decide +kernel
theorem dX0_dealDecks_85 : decode cX0_dealDecks 85 = .ok (.iload_n 2, 1) := by decide +kernel
theorem dX0_dealDecks_86 : decode cX0_dealDecks 86 = .ok (.iconst 4, 1) := by decide +kernel
theorem dX0_dealDecks_87 : decode cX0_dealDecks 87 = .ok (.imul, 1) := by decide +kernel
theorem dX0_dealDecks_88 : decode cX0_dealDecks 88 = .ok (.iconst 2, 1) := by decide +kernel
theorem dX0_dealDecks_89 : decode cX0_dealDecks 89 = .ok (.iadd, 1) := by decide +kernel
theorem dX0_dealDecks_90 : decode cX0_dealDecks 90 = .ok (.iload_n 1, 1) := by decide +kernel
theorem dX0_dealDecks_91 : decode cX0_dealDecks 91 = .ok (.iastore, 1) := by decide +kernel
theorem dX0_dealDecks_92 : decode cX0_dealDecks 92 = .ok (.aload_n 0, 1) := by decide +kernel
theorem dX0_dealDecks_93 : decode cX0_dealDecks 93 = .ok (.getfield 15, 3) := by decide +kernel
theorem dX0_dealDecks_96 : decode cX0_dealDecks 96 = .ok (.iload_n 2, 1) := by decide +kernel
theorem dX0_dealDecks_97 : decode cX0_dealDecks 97 = .ok (.iconst 4, 1) := by decide +kernel
theorem dX0_dealDecks_98 : decode cX0_dealDecks 98 = .ok (.imul, 1) := by decide +kernel
theorem dX0_dealDecks_99 : decode cX0_dealDecks 99 = .ok (.iconst 3, 1) := by decide +kernel
theorem dX0_dealDecks_100 : decode cX0_dealDecks 100 = .ok (.iadd, 1) := by decide +kernel
theorem dX0_dealDecks_101 : decode cX0_dealDecks 101 = .ok (.iload_n 1, 1) := by decide +kernel
theorem dX0_dealDecks_102 : decode cX0_dealDecks 102 = .ok (.iastore, 1) := by decide +kernel
theorem dX0_dealDecks_103 : decode cX0_dealDecks 103 = .ok (.iinc 2 1, 3) := by decide +kernel
theorem dX0_dealDecks_106 : decode cX0_dealDecks 106 = .ok (.goto (-102), 3) := by decide +kernel
theorem dX0_dealDecks_109 : decode cX0_dealDecks 109 = .ok (.aload_n 0, 1) := by decide +kernel
theorem dX0_dealDecks_110 : decode cX0_dealDecks 110 = .ok (.getfield 15, 3) := by decide +kernel
theorem dX0_dealDecks_113 : decode cX0_dealDecks 113 = .ok (.bipush 16, 2) := by decide +kernel
theorem dX0_dealDecks_115 : decode cX0_dealDecks 115 = .ok (.iload_n 1, 1) := by decide +kernel
theorem dX0_dealDecks_116 : decode cX0_dealDecks 116 = .ok (.iastore, 1) := by decide +kernel
theorem dX0_dealDecks_117 : decode cX0_dealDecks 117 = .ok (.return_, 1) := by decide +kernel
theorem dX0_beginTurn_0 : decode cX0_beginTurn 0 = .ok (.aload_n 0, 1) := by decide +kernel
theorem dX0_beginTurn_1 : decode cX0_beginTurn 1 = .ok (.iconst 0, 1) := by decide +kernel
theorem dX0_beginTurn_2 : decode cX0_beginTurn 2 = .ok (.putfield 37, 3) := by decide +kernel
theorem dX0_beginTurn_5 : decode cX0_beginTurn 5 = .ok (.aload_n 0, 1) := by decide +kernel
theorem dX0_beginTurn_6 : decode cX0_beginTurn 6 = .ok (.iconst 1, 1) := by decide +kernel
theorem dX0_beginTurn_7 : decode cX0_beginTurn 7 = .ok (.putfield 40, 3) := by decide +kernel
theorem dX0_beginTurn_10 : decode cX0_beginTurn 10 = .ok (.aload_n 0, 1) := by decide +kernel
theorem dX0_beginTurn_11 : decode cX0_beginTurn 11 = .ok (.iconst 1, 1) := by decide +kernel
theorem dX0_beginTurn_12 : decode cX0_beginTurn 12 = .ok (.putfield 43, 3) := by decide +kernel
theorem dX0_beginTurn_15 : decode cX0_beginTurn 15 = .ok (.aload_n 0, 1) := by decide +kernel
theorem dX0_beginTurn_16 : decode cX0_beginTurn 16 = .ok (.iconst 0, 1) := by decide +kernel
theorem dX0_beginTurn_17 : decode cX0_beginTurn 17 = .ok (.putfield 46, 3) := by decide +kernel
theorem dX0_beginTurn_20 : decode cX0_beginTurn 20 = .ok (.return_, 1) := by decide +kernel
theorem dX0_playCard_0 : decode cX0_playCard 0 = .ok (.aload_n 0, 1) := by decide +kernel
theorem dX0_playCard_1 : decode cX0_playCard 1 = .ok (.aload_n 0, 1) := by decide +kernel
theorem dX0_playCard_2 : decode cX0_playCard 2 = .ok (.getfield 34, 3) := by decide +kernel
theorem dX0_playCard_5 : decode cX0_playCard 5 = .ok (.iconst 2, 1) := by decide +kernel
theorem dX0_playCard_6 : decode cX0_playCard 6 = .ok (.iload_n 1, 1) := by decide +kernel
theorem dX0_playCard_7 : decode cX0_playCard 7 = .ok (.invokevirtual 85, 3) := by decide +kernel
theorem dX0_playCard_10 : decode cX0_playCard 10 = .ok (.istore_n 2, 1) := by decide +kernel
theorem dX0_playCard_11 : decode cX0_playCard 11 = .ok (.iload_n 2, 1) := by decide +kernel
theorem dX0_playCard_12 : decode cX0_playCard 12 = .ok (.ifCond .ge 6, 3) := by decide +kernel
theorem dX0_playCard_15 : decode cX0_playCard 15 = .ok (.ldc 62, 2) := by decide +kernel
theorem dX0_playCard_17 : decode cX0_playCard 17 = .ok (.ireturn, 1) := by decide +kernel
theorem dX0_playCard_18 : decode cX0_playCard 18 = .ok (.iload_n 2, 1) := by decide +kernel
theorem dX0_playCard_19 : decode cX0_playCard 19 = .ok (.bipush 6, 2) := by decide +kernel
theorem dX0_playCard_21 : decode cX0_playCard 21 = .ok (.if_icmp .lt 7, 3) := by decide +kernel
theorem dX0_playCard_24 : decode cX0_playCard 24 = .ok (.iconst 1, 1) := by decide +kernel
theorem dX0_playCard_25 : decode cX0_playCard 25 = .ok (.goto 4, 3) := by decide +kernel
theorem dX0_playCard_28 : decode cX0_playCard 28 = .ok (.iconst 0, 1) := by decide +kernel
theorem dX0_playCard_29 : decode cX0_playCard 29 = .ok (.istore_n 3, 1) := by decide +kernel
theorem dX0_playCard_30 : decode cX0_playCard 30 = .ok (.aload_n 0, 1) := by decide +kernel
theorem dX0_playCard_31 : decode cX0_playCard 31 = .ok (.getfield 58, 3) := by decide +kernel
theorem dX0_playCard_34 : decode cX0_playCard 34 = .ok (.ifCond .ne 23, 3) := by decide +kernel
theorem dX0_playCard_37 : decode cX0_playCard 37 = .ok (.iload_n 3, 1) := by decide +kernel
theorem dX0_playCard_38 : decode cX0_playCard 38 = .ok (.ifCond .ne 8, 3) := by decide +kernel
theorem dX0_playCard_41 : decode cX0_playCard 41 = .ok (.iload_n 2, 1) := by decide +kernel
theorem dX0_playCard_42 : decode cX0_playCard 42 = .ok (.iconst 2, 1) := by decide +kernel
theorem dX0_playCard_43 : decode cX0_playCard 43 = .ok (.if_icmp .gt 14, 3) := by decide +kernel
theorem dX0_playCard_46 : decode cX0_playCard 46 = .ok (.iload_n 3, 1) := by decide +kernel
theorem dX0_playCard_47 : decode cX0_playCard 47 = .ok (.ifCond .eq 13, 3) := by decide +kernel
theorem dX0_playCard_50 : decode cX0_playCard 50 = .ok (.aload_n 0, 1) := by decide +kernel
theorem dX0_playCard_51 : decode cX0_playCard 51 = .ok (.getfield 43, 3) := by decide +kernel
theorem dX0_playCard_54 : decode cX0_playCard 54 = .ok (.ifCond .gt 6, 3) := by decide +kernel
theorem dX0_playCard_57 : decode cX0_playCard 57 = .ok (.ldc 89, 2) := by decide +kernel
theorem dX0_playCard_59 : decode cX0_playCard 59 = .ok (.ireturn, 1) := by decide +kernel
theorem dX0_playCard_60 : decode cX0_playCard 60 = .ok (.iload_n 3, 1) := by decide +kernel
theorem dX0_playCard_61 : decode cX0_playCard 61 = .ok (.ifCond .eq 13, 3) := by decide +kernel
theorem dX0_playCard_64 : decode cX0_playCard 64 = .ok (.aload_n 0, 1) := by decide +kernel
theorem dX0_playCard_65 : decode cX0_playCard 65 = .ok (.dup, 1) := by decide +kernel
theorem dX0_playCard_66 : decode cX0_playCard 66 = .ok (.getfield 43, 3) := by decide +kernel
theorem dX0_playCard_69 : decode cX0_playCard 69 = .ok (.iconst 1, 1) := by decide +kernel
theorem dX0_playCard_70 : decode cX0_playCard 70 = .ok (.isub, 1) := by decide +kernel
theorem dX0_playCard_71 : decode cX0_playCard 71 = .ok (.putfield 43, 3) := by decide +kernel
theorem dX0_playCard_74 : decode cX0_playCard 74 = .ok (.aload_n 0, 1) := by decide +kernel
theorem dX0_playCard_75 : decode cX0_playCard 75 = .ok (.aload_n 0, 1) := by decide +kernel
theorem dX0_playCard_76 : decode cX0_playCard 76 = .ok (.getfield 34, 3) := by decide +kernel
theorem dX0_playCard_79 : decode cX0_playCard 79 = .ok (.iconst 4, 1) := by decide +kernel
theorem dX0_playCard_80 : decode cX0_playCard 80 = .ok (.imul, 1) := by decide +kernel
theorem dX0_playCard_81 : decode cX0_playCard 81 = .ok (.iconst 2, 1) := by decide +kernel
theorem dX0_playCard_82 : decode cX0_playCard 82 = .ok (.iadd, 1) := by decide +kernel
theorem dX0_playCard_83 : decode cX0_playCard 83 = .ok (.iload_n 1, 1) := by decide +kernel
theorem dX0_playCard_84 : decode cX0_playCard 84 = .ok (.aload_n 0, 1) := by decide +kernel
theorem dX0_playCard_85 : decode cX0_playCard 85 = .ok (.getfield 34, 3) := by decide +kernel
theorem dX0_playCard_88 : decode cX0_playCard 88 = .ok (.iconst 4, 1) := by decide +kernel
theorem dX0_playCard_89 : decode cX0_playCard 89 = .ok (.imul, 1) := by decide +kernel
theorem dX0_playCard_90 : decode cX0_playCard 90 = .ok (.iconst 3, 1) := by decide +kernel
theorem dX0_playCard_91 : decode cX0_playCard 91 = .ok (.iadd, 1) := by decide +kernel
theorem dX0_playCard_92 : decode cX0_playCard 92 = .ok (.invokevirtual 90, 3) := by decide +kernel
theorem dX0_playCard_95 : decode cX0_playCard 95 = .ok (.aload_n 0, 1) := by decide +kernel
theorem dX0_playCard_96 : decode cX0_playCard 96 = .ok (.dup, 1) := by decide +kernel
theorem dX0_playCard_97 : decode cX0_playCard 97 = .ok (.getfield 37, 3) := by decide +kernel
theorem dX0_playCard_100 : decode cX0_playCard 100 = .ok (.getstatic 94, 3) := by decide +kernel
theorem dX0_playCard_103 : decode cX0_playCard 103 = .ok (.iload_n 2, 1) := by decide +kernel
theorem dX0_playCard_104 : decode cX0_playCard 104 = .ok (.iaload, 1) := by decide +kernel
theorem dX0_playCard_105 : decode cX0_playCard 105 = .ok (.iadd, 1) := by decide +kernel
theorem dX0_playCard_106 : decode cX0_playCard 106 = .ok (.putfield 37, 3) := by decide +kernel
theorem dX0_playCard_109 : decode cX0_playCard 109 = .ok (.aload_n 0, 1) := by decide +kernel
theorem dX0_playCard_110 : decode cX0_playCard 110 = .ok (.aload_n 0, 1) := by decide +kernel
theorem dX0_playCard_111 : decode cX0_playCard 111 = .ok (.getfield 34, 3) := by decide +kernel
theorem dX0_playCard_114 : decode cX0_playCard 114 = .ok (.getstatic 97, 3) := by decide +kernel
theorem dX0_playCard_117 : decode cX0_playCard 117 = .ok (.iload_n 2, 1) := by decide +kernel
theorem dX0_playCard_118 : decode cX0_playCard 118 = .ok (.iaload, 1) := by decide +kernel
theorem dX0_playCard_119 : decode cX0_playCard 119 = .ok (.invokevirtual 75, 3) := by decide +kernel
theorem dX0_playCard_122 : decode cX0_playCard 122 = .ok (.aload_n 0, 1) := by decide +kernel
theorem dX0_playCard_123 : decode cX0_playCard 123 = .ok (.dup, 1) := by decide +kernel
theorem dX0_playCard_124 : decode cX0_playCard 124 = .ok (.getfield 40, 3) := by decide +kernel
theorem dX0_playCard_127 : decode cX0_playCard 127 = .ok (.getstatic 100, 3) := by decide +kernel
theorem dX0_playCard_130 : decode cX0_playCard 130 = .ok (.iload_n 2, 1) := by decide +kernel
theorem dX0_playCard_131 : decode cX0_playCard 131 = .ok (.iaload, 1) := by decide +kernel
theorem dX0_playCard_132 : decode cX0_playCard 132 = .ok (.iadd, 1) := by decide +kernel
theorem dX0_playCard_133 : decode cX0_playCard 133 = .ok (.putfield 40, 3) := by decide +kernel
theorem dX0_playCard_136 : decode cX0_playCard 136 = .ok (.aload_n 0, 1) := by decide +kernel
theorem dX0_playCard_137 : decode cX0_playCard 137 = .ok (.dup, 1) := by decide +kernel
theorem dX0_playCard_138 : decode cX0_playCard 138 = .ok (.getfield 43, 3) := by decide +kernel
theorem dX0_playCard_141 : decode cX0_playCard 141 = .ok (.getstatic 103, 3) := by decide +kernel
theorem dX0_playCard_144 : decode cX0_playCard 144 = .ok (.iload_n 2, 1) := by decide +kernel
theorem dX0_playCard_145 : decode cX0_playCard 145 = .ok (.iaload, 1) := by decide +kernel
theorem dX0_playCard_146 : decode cX0_playCard 146 = .ok (.iadd, 1) := by decide +kernel
theorem dX0_playCard_147 : decode cX0_playCard 147 = .ok (.putfield 43, 3) := by decide +kernel
theorem dX0_playCard_150 : decode cX0_playCard 150 = .ok (.iconst 0, 1) := by decide +kernel
theorem dX0_playCard_151 : decode cX0_playCard 151 = .ok (.istore 4, 2) := by decide +kernel
theorem dX0_playCard_153 : decode cX0_playCard 153 = .ok (.iload 4, 2) := by decide +kernel
theorem dX0_playCard_155 : decode cX0_playCard 155 = .ok (.getstatic 106, 3) := by decide +kernel
theorem dX0_playCard_158 : decode cX0_playCard 158 = .ok (.iload_n 2, 1) := by decide +kernel
theorem dX0_playCard_159 : decode cX0_playCard 159 = .ok (.iaload, 1) := by decide +kernel
theorem dX0_playCard_160 : decode cX0_playCard 160 = .ok (.if_icmp .ge 13, 3) := by decide +kernel
theorem dX0_playCard_163 : decode cX0_playCard 163 = .ok (.aload_n 0, 1) := by decide +kernel
theorem dX0_playCard_164 : decode cX0_playCard 164 = .ok (.invokevirtual 109, 3) := by decide +kernel
theorem dX0_playCard_167 : decode cX0_playCard 167 = .ok (.iinc 4 1, 3) := by decide +kernel
theorem dX0_playCard_170 : decode cX0_playCard 170 = .ok (.goto (-17), 3) := by decide +kernel
theorem dX0_playCard_173 : decode cX0_playCard 173 = .ok (.aload_n 0, 1) := by decide +kernel
theorem dX0_playCard_174 : decode cX0_playCard 174 = .ok (.dup, 1) := by decide +kernel
theorem dX0_playCard_175 : decode cX0_playCard 175 = .ok (.getfield 46, 3) := by decide +kernel
theorem dX0_playCard_178 : decode cX0_playCard 178 = .ok (.getstatic 112, 3) := by decide +kernel
theorem dX0_playCard_181 : decode cX0_playCard 181 = .ok (.iload_n 2, 1) := by decide +kernel
theorem dX0_playCard_182 : decode cX0_playCard 182 = .ok (.iaload, 1) := by decide +kernel
theorem dX0_playCard_183 : decode cX0_playCard 183 = .ok (.iadd, 1) := by decide +kernel
theorem dX0_playCard_184 : decode cX0_playCard 184 = .ok (.putfield 46, 3) := by decide +kernel
theorem dX0_playCard_187 : decode cX0_playCard 187 = .ok (.iload_n 2, 1) := by decide +kernel
theorem dX0_playCard_188 : decode cX0_playCard 188 = .ok (.ireturn, 1) := by decide +kernel
theorem dX0_giveCurses_0 : decode cX0_giveCurses 0 = .ok (.aload_n 0, 1) := by decide +kernel
theorem dX0_giveCurses_1 : decode cX0_giveCurses 1 = .ok (.aload_n 0, 1) := by decide +kernel
theorem dX0_giveCurses_2 : decode cX0_giveCurses 2 = .ok (.getfield 34, 3) := by decide +kernel
theorem dX0_giveCurses_5 : decode cX0_giveCurses 5 = .ok (.invokevirtual 115, 3) := by decide +kernel
theorem dX0_giveCurses_8 : decode cX0_giveCurses 8 = .ok (.istore_n 1, 1) := by decide +kernel
theorem dX0_giveCurses_9 : decode cX0_giveCurses 9 = .ok (.iconst 1, 1) := by decide +kernel
theorem dX0_giveCurses_10 : decode cX0_giveCurses 10 = .ok (.istore_n 2, 1) := by decide +kernel
theorem dX0_giveCurses_11 : decode cX0_giveCurses 11 = .ok (.iload_n 2, 1) := by decide +kernel
theorem dX0_giveCurses_12 : decode cX0_giveCurses 12 = .ok (.aload_n 0, 1) := by decide +kernel
theorem dX0_giveCurses_13 : decode cX0_giveCurses 13 = .ok (.getfield 30, 3) := by decide +kernel
theorem dX0_giveCurses_16 : decode cX0_giveCurses 16 = .ok (.if_icmp .ge 21, 3) := by decide +kernel
theorem dX0_giveCurses_19 : decode cX0_giveCurses 19 = .ok (.aload_n 0, 1) := by decide +kernel
theorem dX0_giveCurses_20 : decode cX0_giveCurses 20 = .ok (.iload_n 1, 1) := by decide +kernel
theorem dX0_giveCurses_21 : decode cX0_giveCurses 21 = .ok (.iconst 5, 1) := by decide +kernel
theorem dX0_giveCurses_22 : decode cX0_giveCurses 22 = .ok (.invokevirtual 119, 3) := by decide +kernel
theorem dX0_giveCurses_25 : decode cX0_giveCurses 25 = .ok (.aload_n 0, 1) := by decide +kernel
theorem dX0_giveCurses_26 : decode cX0_giveCurses 26 = .ok (.iload_n 1, 1) := by decide +kernel
theorem dX0_giveCurses_27 : decode cX0_giveCurses 27 = .ok (.invokevirtual 115, 3) := by decide +kernel
theorem dX0_giveCurses_30 : decode cX0_giveCurses 30 = .ok (.istore_n 1, 1) := by decide +kernel
theorem dX0_giveCurses_31 : decode cX0_giveCurses 31 = .ok (.iinc 2 1, 3) := by decide +kernel
theorem dX0_giveCurses_34 : decode cX0_giveCurses 34 = .ok (.goto (-23), 3) := by decide +kernel
theorem dX0_giveCurses_37 : decode cX0_giveCurses 37 = .ok (.return_, 1) := by decide +kernel
theorem dX0_buyCard_0 : decode cX0_buyCard 0 = .ok (.iload_n 1, 1) := by decide +kernel
theorem dX0_buyCard_1 : decode cX0_buyCard 1 = .ok (.ifCond .lt 9, 3) := by decide +kernel
theorem dX0_buyCard_4 : decode cX0_buyCard 4 = .ok (.iload_n 1, 1) := by decide +kernel
theorem dX0_buyCard_5 : decode cX0_buyCard 5 = .ok (.bipush 10, 2) := by decide +kernel
theorem dX0_buyCard_7 : decode cX0_buyCard 7 = .ok (.if_icmp .lt 6, 3) := by decide +kernel
theorem dX0_buyCard_10 : decode cX0_buyCard 10 = .ok (.ldc 62, 2) := by decide +kernel
theorem dX0_buyCard_12 : decode cX0_buyCard 12 = .ok (.ireturn, 1) := by decide +kernel
theorem dX0_buyCard_13 : decode cX0_buyCard 13 = .ok (.aload_n 0, 1) := by decide +kernel
theorem dX0_buyCard_14 : decode cX0_buyCard 14 = .ok (.iload_n 1, 1) := by decide +kernel
theorem dX0_buyCard_15 : decode cX0_buyCard 15 = .ok (.invokevirtual 122, 3) := by decide +kernel
theorem dX0_buyCard_18 : decode cX0_buyCard 18 = .ok (.ifCond .eq 6, 3) := by decide +kernel
theorem dX0_buyCard_21 : decode cX0_buyCard 21 = .ok (.ldc 89, 2) := by decide +kernel
theorem dX0_buyCard_23 : decode cX0_buyCard 23 = .ok (.ireturn, 1) := by decide +kernel
theorem dX0_buyCard_24 : decode cX0_buyCard 24 = .ok (.aload_n 0, 1) := by decide +kernel
theorem dX0_buyCard_25 : decode cX0_buyCard 25 = .ok (.dup, 1) := by decide +kernel
theorem dX0_buyCard_26 : decode cX0_buyCard 26 = .ok (.getfield 37, 3) := by decide +kernel
theorem dX0_buyCard_29 : decode cX0_buyCard 29 = .ok (.getstatic 125, 3) := by decide +kernel
theorem dX0_buyCard_32 : decode cX0_buyCard 32 = .ok (.iload_n 1, 1) := by decide +kernel
theorem dX0_buyCard_33 : decode cX0_buyCard 33 = .ok (.iaload, 1) := by decide +kernel
theorem dX0_buyCard_34 : decode cX0_buyCard 34 = .ok (.isub, 1) := by decide +kernel
theorem dX0_buyCard_35 : decode cX0_buyCard 35 = .ok (.putfield 37, 3) := by decide +kernel
theorem dX0_buyCard_38 : decode cX0_buyCard 38 = .ok (.aload_n 0, 1) := by decide +kernel
theorem dX0_buyCard_39 : decode cX0_buyCard 39 = .ok (.dup, 1) := by decide +kernel
theorem dX0_buyCard_40 : decode cX0_buyCard 40 = .ok (.getfield 40, 3) := by decide +kernel
theorem dX0_buyCard_43 : decode cX0_buyCard 43 = .ok (.iconst 1, 1) := by decide +kernel
theorem dX0_buyCard_44 : decode cX0_buyCard 44 = .ok (.isub, 1) := by decide +kernel
theorem dX0_buyCard_45 : decode cX0_buyCard 45 = .ok (.putfield 40, 3) := by decide +kernel
theorem dX0_buyCard_48 : decode cX0_buyCard 48 = .ok (.aload_n 0, 1) := by decide +kernel
theorem dX0_buyCard_49 : decode cX0_buyCard 49 = .ok (.aload_n 0, 1) := by decide +kernel
theorem dX0_buyCard_50 : decode cX0_buyCard 50 = .ok (.getfield 34, 3) := by decide +kernel
theorem dX0_buyCard_53 : decode cX0_buyCard 53 = .ok (.iload_n 1, 1) := by decide +kernel
theorem dX0_buyCard_54 : decode cX0_buyCard 54 = .ok (.invokevirtual 119, 3) := by decide +kernel
theorem dX0_buyCard_57 : decode cX0_buyCard 57 = .ok (.aload_n 0, 1) := by decide +kernel
theorem dX0_buyCard_58 : decode cX0_buyCard 58 = .ok (.getfield 18, 3) := by decide +kernel
theorem dX0_buyCard_61 : decode cX0_buyCard 61 = .ok (.iload_n 1, 1) := by decide +kernel
theorem dX0_buyCard_62 : decode cX0_buyCard 62 = .ok (.iaload, 1) := by decide +kernel
theorem dX0_buyCard_63 : decode cX0_buyCard 63 = .ok (.ireturn, 1) := by decide +kernel
theorem dX0_scrapCard_0 : decode cX0_scrapCard 0 = .ok (.aload_n 0, 1) := by decide +kernel
theorem dX0_scrapCard_1 : decode cX0_scrapCard 1 = .ok (.aload_n 0, 1) := by decide +kernel
theorem dX0_scrapCard_2 : decode cX0_scrapCard 2 = .ok (.getfield 34, 3) := by decide +kernel
theorem dX0_scrapCard_5 : decode cX0_scrapCard 5 = .ok (.iconst 2, 1) := by decide +kernel
theorem dX0_scrapCard_6 : decode cX0_scrapCard 6 = .ok (.iload_n 1, 1) := by decide +kernel
theorem dX0_scrapCard_7 : decode cX0_scrapCard 7 = .ok (.invokevirtual 85, 3) := by decide +kernel
theorem dX0_scrapCard_10 : decode cX0_scrapCard 10 = .ok (.istore_n 2, 1) := by decide +kernel
theorem dX0_scrapCard_11 : decode cX0_scrapCard 11 = .ok (.iload_n 2, 1) := by decide +kernel
theorem dX0_scrapCard_12 : decode cX0_scrapCard 12 = .ok (.ifCond .ge 6, 3) := by decide +kernel
theorem dX0_scrapCard_15 : decode cX0_scrapCard 15 = .ok (.ldc 62, 2) := by decide +kernel
theorem dX0_scrapCard_17 : decode cX0_scrapCard 17 = .ok (.ireturn, 1) := by decide +kernel
theorem dX0_scrapCard_18 : decode cX0_scrapCard 18 = .ok (.aload_n 0, 1) := by decide +kernel
theorem dX0_scrapCard_19 : decode cX0_scrapCard 19 = .ok (.getfield 58, 3) := by decide +kernel
theorem dX0_scrapCard_22 : decode cX0_scrapCard 22 = .ok (.ifCond .ne 10, 3) := by decide +kernel
theorem dX0_scrapCard_25 : decode cX0_scrapCard 25 = .ok (.aload_n 0, 1) := by decide +kernel
theorem dX0_scrapCard_26 : decode cX0_scrapCard 26 = .ok (.getfield 46, 3) := by decide +kernel
theorem dX0_scrapCard_29 : decode cX0_scrapCard 29 = .ok (.ifCond .gt 6, 3) := by decide +kernel
theorem dX0_scrapCard_32 : decode cX0_scrapCard 32 = .ok (.ldc 89, 2) := by decide +kernel
theorem dX0_scrapCard_34 : decode cX0_scrapCard 34 = .ok (.ireturn, 1) := by decide +kernel
theorem dX0_scrapCard_35 : decode cX0_scrapCard 35 = .ok (.aload_n 0, 1) := by decide +kernel
theorem dX0_scrapCard_36 : decode cX0_scrapCard 36 = .ok (.dup, 1) := by decide +kernel
theorem dX0_scrapCard_37 : decode cX0_scrapCard 37 = .ok (.getfield 46, 3) := by decide +kernel
theorem dX0_scrapCard_40 : decode cX0_scrapCard 40 = .ok (.iconst 1, 1) := by decide +kernel
theorem dX0_scrapCard_41 : decode cX0_scrapCard 41 = .ok (.isub, 1) := by decide +kernel
theorem dX0_scrapCard_42 : decode cX0_scrapCard 42 = .ok (.putfield 46, 3) := by decide +kernel
theorem dX0_scrapCard_45 : decode cX0_scrapCard 45 = .ok (.aload_n 0, 1) := by decide +kernel
theorem dX0_scrapCard_46 : decode cX0_scrapCard 46 = .ok (.getfield 21, 3) := by decide +kernel
theorem dX0_scrapCard_49 : decode cX0_scrapCard 49 = .ok (.iload_n 2, 1) := by decide +kernel
theorem dX0_scrapCard_50 : decode cX0_scrapCard 50 = .ok (.dup2, 1) := by decide +kernel
theorem dX0_scrapCard_51 : decode cX0_scrapCard 51 = .ok (.iaload, 1) := by decide +kernel
theorem dX0_scrapCard_52 : decode cX0_scrapCard 52 = .ok (.iconst 1, 1) := by decide +kernel
theorem dX0_scrapCard_53 : decode cX0_scrapCard 53 = .ok (.iadd, 1) := by decide +kernel
theorem dX0_scrapCard_54 : decode cX0_scrapCard 54 = .ok (.iastore, 1) := by decide +kernel
theorem dX0_scrapCard_55 : decode cX0_scrapCard 55 = .ok (.aload_n 0, 1) := by decide +kernel
theorem dX0_scrapCard_56 : decode cX0_scrapCard 56 = .ok (.aload_n 0, 1) := by decide +kernel
theorem dX0_scrapCard_57 : decode cX0_scrapCard 57 = .ok (.getfield 34, 3) := by decide +kernel
theorem dX0_scrapCard_60 : decode cX0_scrapCard 60 = .ok (.iconst 4, 1) := by decide +kernel
theorem dX0_scrapCard_61 : decode cX0_scrapCard 61 = .ok (.imul, 1) := by decide +kernel
theorem dX0_scrapCard_62 : decode cX0_scrapCard 62 = .ok (.iconst 2, 1) := by decide +kernel
theorem dX0_scrapCard_63 : decode cX0_scrapCard 63 = .ok (.iadd, 1) := by decide +kernel
theorem dX0_scrapCard_64 : decode cX0_scrapCard 64 = .ok (.iload_n 1, 1) := by decide +kernel
theorem dX0_scrapCard_65 : decode cX0_scrapCard 65 = .ok (.bipush 15, 2) := by decide +kernel
theorem dX0_scrapCard_67 : decode cX0_scrapCard 67 = .ok (.invokevirtual 90, 3) := by decide +kernel
theorem dX0_scrapCard_70 : decode cX0_scrapCard 70 = .ok (.aload_n 0, 1) := by decide +kernel
theorem dX0_scrapCard_71 : decode cX0_scrapCard 71 = .ok (.getfield 15, 3) := by decide +kernel
theorem dX0_scrapCard_74 : decode cX0_scrapCard 74 = .ok (.bipush 16, 2) := by decide +kernel
theorem dX0_scrapCard_76 : decode cX0_scrapCard 76 = .ok (.dup2, 1) := by decide +kernel
theorem dX0_scrapCard_77 : decode cX0_scrapCard 77 = .ok (.iaload, 1) := by decide +kernel
theorem dX0_scrapCard_78 : decode cX0_scrapCard 78 = .ok (.iconst 1, 1) := by decide +kernel
theorem dX0_scrapCard_79 : decode cX0_scrapCard 79 = .ok (.isub, 1) := by decide +kernel
theorem dX0_scrapCard_80 : decode cX0_scrapCard 80 = .ok (.iastore, 1) := by decide +kernel
theorem dX0_scrapCard_81 : decode cX0_scrapCard 81 = .ok (.iload_n 2, 1) := by decide +kernel
theorem dX0_scrapCard_82 : decode cX0_scrapCard 82 = .ok (.ireturn, 1) := by decide +kernel
theorem dX0_endTurn_0 : decode cX0_endTurn 0 = .ok (.aload_n 0, 1) := by decide +kernel
theorem dX0_endTurn_1 : decode cX0_endTurn 1 = .ok (.getfield 58, 3) := by decide +kernel
theorem dX0_endTurn_4 : decode cX0_endTurn 4 = .ok (.ifCond .eq 6, 3) := by decide +kernel
theorem dX0_endTurn_7 : decode cX0_endTurn 7 = .ok (.ldc 89, 2) := by decide +kernel
theorem dX0_endTurn_9 : decode cX0_endTurn 9 = .ok (.ireturn, 1) := by decide +kernel
theorem dX0_endTurn_10 : decode cX0_endTurn 10 = .ok (.aload_n 0, 1) := by decide +kernel
theorem dX0_endTurn_11 : decode cX0_endTurn 11 = .ok (.getfield 15, 3) := by decide +kernel
theorem dX0_endTurn_14 : decode cX0_endTurn 14 = .ok (.aload_n 0, 1) := by decide +kernel
theorem dX0_endTurn_15 : decode cX0_endTurn 15 = .ok (.getfield 34, 3) := by decide +kernel
theorem dX0_endTurn_18 : decode cX0_endTurn 18 = .ok (.iconst 4, 1) := by decide +kernel
theorem dX0_endTurn_19 : decode cX0_endTurn 19 = .ok (.imul, 1) := by decide +kernel
theorem dX0_endTurn_20 : decode cX0_endTurn 20 = .ok (.iconst 4, 1) := by decide +kernel
theorem dX0_endTurn_21 : decode cX0_endTurn 21 = .ok (.iadd, 1) := by decide +kernel
theorem dX0_endTurn_22 : decode cX0_endTurn 22 = .ok (.iaload, 1) := by decide +kernel
theorem dX0_endTurn_23 : decode cX0_endTurn 23 = .ok (.istore_n 1, 1) := by decide +kernel
theorem dX0_endTurn_24 : decode cX0_endTurn 24 = .ok (.aload_n 0, 1) := by decide +kernel
theorem dX0_endTurn_25 : decode cX0_endTurn 25 = .ok (.getfield 15, 3) := by decide +kernel
theorem dX0_endTurn_28 : decode cX0_endTurn 28 = .ok (.aload_n 0, 1) := by decide +kernel
theorem dX0_endTurn_29 : decode cX0_endTurn 29 = .ok (.getfield 34, 3) := by decide +kernel
theorem dX0_endTurn_32 : decode cX0_endTurn 32 = .ok (.iconst 4, 1) := by decide +kernel
theorem dX0_endTurn_33 : decode cX0_endTurn 33 = .ok (.imul, 1) := by decide +kernel
theorem dX0_endTurn_34 : decode cX0_endTurn 34 = .ok (.iconst 2, 1) := by decide +kernel
theorem dX0_endTurn_35 : decode cX0_endTurn 35 = .ok (.iadd, 1) := by decide +kernel
theorem dX0_endTurn_36 : decode cX0_endTurn 36 = .ok (.iload_n 1, 1) := by decide +kernel
theorem dX0_endTurn_37 : decode cX0_endTurn 37 = .ok (.iastore, 1) := by decide +kernel
theorem dX0_endTurn_38 : decode cX0_endTurn 38 = .ok (.aload_n 0, 1) := by decide +kernel
theorem dX0_endTurn_39 : decode cX0_endTurn 39 = .ok (.getfield 15, 3) := by decide +kernel
theorem dX0_endTurn_42 : decode cX0_endTurn 42 = .ok (.aload_n 0, 1) := by decide +kernel
theorem dX0_endTurn_43 : decode cX0_endTurn 43 = .ok (.getfield 34, 3) := by decide +kernel
theorem dX0_endTurn_46 : decode cX0_endTurn 46 = .ok (.iconst 4, 1) := by decide +kernel
theorem dX0_endTurn_47 : decode cX0_endTurn 47 = .ok (.imul, 1) := by decide +kernel
theorem dX0_endTurn_48 : decode cX0_endTurn 48 = .ok (.iconst 3, 1) := by decide +kernel
theorem dX0_endTurn_49 : decode cX0_endTurn 49 = .ok (.iadd, 1) := by decide +kernel
theorem dX0_endTurn_50 : decode cX0_endTurn 50 = .ok (.iload_n 1, 1) := by decide +kernel
theorem dX0_endTurn_51 : decode cX0_endTurn 51 = .ok (.iastore, 1) := by decide +kernel
theorem dX0_endTurn_52 : decode cX0_endTurn 52 = .ok (.aload_n 0, 1) := by decide +kernel
theorem dX0_endTurn_53 : decode cX0_endTurn 53 = .ok (.aload_n 0, 1) := by decide +kernel
theorem dX0_endTurn_54 : decode cX0_endTurn 54 = .ok (.getfield 34, 3) := by decide +kernel
theorem dX0_endTurn_57 : decode cX0_endTurn 57 = .ok (.iconst 5, 1) := by decide +kernel
theorem dX0_endTurn_58 : decode cX0_endTurn 58 = .ok (.invokevirtual 75, 3) := by decide +kernel
theorem dX0_endTurn_61 : decode cX0_endTurn 61 = .ok (.aload_n 0, 1) := by decide +kernel
theorem dX0_endTurn_62 : decode cX0_endTurn 62 = .ok (.aload_n 0, 1) := by decide +kernel
theorem dX0_endTurn_63 : decode cX0_endTurn 63 = .ok (.getfield 49, 3) := by decide +kernel
theorem dX0_endTurn_66 : decode cX0_endTurn 66 = .ok (.aload_n 0, 1) := by decide +kernel
theorem dX0_endTurn_67 : decode cX0_endTurn 67 = .ok (.getfield 52, 3) := by decide +kernel
theorem dX0_endTurn_70 : decode cX0_endTurn 70 = .ok (.iadd, 1) := by decide +kernel
theorem dX0_endTurn_71 : decode cX0_endTurn 71 = .ok (.bipush 10, 2) := by decide +kernel
theorem dX0_endTurn_73 : decode cX0_endTurn 73 = .ok (.irem, 1) := by decide +kernel
theorem dX0_endTurn_74 : decode cX0_endTurn 74 = .ok (.putfield 49, 3) := by decide +kernel
theorem dX0_endTurn_77 : decode cX0_endTurn 77 = .ok (.aload_n 0, 1) := by decide +kernel
theorem dX0_endTurn_78 : decode cX0_endTurn 78 = .ok (.aload_n 0, 1) := by decide +kernel
theorem dX0_endTurn_79 : decode cX0_endTurn 79 = .ok (.aload_n 0, 1) := by decide +kernel
theorem dX0_endTurn_80 : decode cX0_endTurn 80 = .ok (.getfield 34, 3) := by decide +kernel
theorem dX0_endTurn_83 : decode cX0_endTurn 83 = .ok (.invokevirtual 115, 3) := by decide +kernel
theorem dX0_endTurn_86 : decode cX0_endTurn 86 = .ok (.putfield 34, 3) := by decide +kernel
theorem dX0_endTurn_89 : decode cX0_endTurn 89 = .ok (.aload_n 0, 1) := by decide +kernel
theorem dX0_endTurn_90 : decode cX0_endTurn 90 = .ok (.invokevirtual 79, 3) := by decide +kernel
theorem dX0_endTurn_93 : decode cX0_endTurn 93 = .ok (.aload_n 0, 1) := by decide +kernel
theorem dX0_endTurn_94 : decode cX0_endTurn 94 = .ok (.dup, 1) := by decide +kernel
theorem dX0_endTurn_95 : decode cX0_endTurn 95 = .ok (.getfield 55, 3) := by decide +kernel
theorem dX0_endTurn_98 : decode cX0_endTurn 98 = .ok (.iconst 1, 1) := by decide +kernel
theorem dX0_endTurn_99 : decode cX0_endTurn 99 = .ok (.iadd, 1) := by decide +kernel
theorem dX0_endTurn_100 : decode cX0_endTurn 100 = .ok (.putfield 55, 3) := by decide +kernel
theorem dX0_endTurn_103 : decode cX0_endTurn 103 = .ok (.aload_n 0, 1) := by decide +kernel
theorem dX0_endTurn_104 : decode cX0_endTurn 104 = .ok (.aload_n 0, 1) := by decide +kernel
theorem dX0_endTurn_105 : decode cX0_endTurn 105 = .ok (.getfield 18, 3) := by decide +kernel
theorem dX0_endTurn_108 : decode cX0_endTurn 108 = .ok (.iconst 4, 1) := by decide +kernel
theorem dX0_endTurn_109 : decode cX0_endTurn 109 = .ok (.iaload, 1) := by decide +kernel
theorem dX0_endTurn_110 : decode cX0_endTurn 110 = .ok (.ifCond .le 11, 3) := by decide +kernel
theorem dX0_endTurn_113 : decode cX0_endTurn 113 = .ok (.aload_n 0, 1) := by decide +kernel
theorem dX0_endTurn_114 : decode cX0_endTurn 114 = .ok (.invokevirtual 128, 3) := by decide +kernel
theorem dX0_endTurn_117 : decode cX0_endTurn 117 = .ok (.iconst 3, 1) := by decide +kernel
theorem dX0_endTurn_118 : decode cX0_endTurn 118 = .ok (.if_icmp .lt 7, 3) := by decide +kernel
theorem dX0_endTurn_121 : decode cX0_endTurn 121 = .ok (.iconst 1, 1) := by decide +kernel
theorem dX0_endTurn_122 : decode cX0_endTurn 122 = .ok (.goto 4, 3) := by decide +kernel
theorem dX0_endTurn_125 : decode cX0_endTurn 125 = .ok (.iconst 0, 1) := by decide +kernel
theorem dX0_endTurn_126 : decode cX0_endTurn 126 = .ok (.putfield 58, 3) := by decide +kernel
theorem dX0_endTurn_129 : decode cX0_endTurn 129 = .ok (.aload_n 0, 1) := by decide +kernel
theorem dX0_endTurn_130 : decode cX0_endTurn 130 = .ok (.getfield 34, 3) := by decide +kernel
theorem dX0_endTurn_133 : decode cX0_endTurn 133 = .ok (.ireturn, 1) := by decide +kernel
theorem dX0_goOnAlike_0 : decode cX0_goOnAlike 0 = .ok (.iconst 0, 1) := by decide +kernel
theorem dX0_goOnAlike_1 : decode cX0_goOnAlike 1 = .ok (.istore_n 2, 1) := by decide +kernel
theorem dX0_goOnAlike_2 : decode cX0_goOnAlike 2 = .ok (.iload_n 2, 1) := by decide +kernel
theorem dX0_goOnAlike_3 : decode cX0_goOnAlike 3 = .ok (.iload_n 1, 1) := by decide +kernel
theorem dX0_goOnAlike_4 : decode cX0_goOnAlike 4 = .ok (.if_icmp .ge 20, 3) := by decide +kernel
theorem dX0_goOnAlike_7 : decode cX0_goOnAlike 7 = .ok (.aload_n 0, 1) := by decide +kernel
theorem dX0_goOnAlike_8 : decode cX0_goOnAlike 8 = .ok (.getfield 58, 3) := by decide +kernel
theorem dX0_goOnAlike_11 : decode cX0_goOnAlike 11 = .ok (.ifCond .ne 13, 3) := by decide +kernel
theorem dX0_goOnAlike_14 : decode cX0_goOnAlike 14 = .ok (.aload_n 0, 1) := by decide +kernel
theorem dX0_goOnAlike_15 : decode cX0_goOnAlike 15 = .ok (.invokevirtual 132, 3) := by decide +kernel
theorem dX0_goOnAlike_18 : decode cX0_goOnAlike 18 = .ok (.iinc 2 1, 3) := by decide +kernel
theorem dX0_goOnAlike_21 : decode cX0_goOnAlike 21 = .ok (.goto (-19), 3) := by decide +kernel
theorem dX0_goOnAlike_24 : decode cX0_goOnAlike 24 = .ok (.iload_n 2, 1) := by decide +kernel
theorem dX0_goOnAlike_25 : decode cX0_goOnAlike 25 = .ok (.ireturn, 1) := by decide +kernel
theorem dX0_playTurnAlike_0 : decode cX0_playTurnAlike 0 = .ok (.iconst 0, 1) := by decide +kernel
theorem dX0_playTurnAlike_1 : decode cX0_playTurnAlike 1 = .ok (.istore_n 1, 1) := by decide +kernel
theorem dX0_playTurnAlike_2 : decode cX0_playTurnAlike 2 = .ok (.iload_n 1, 1) := by decide +kernel
theorem dX0_playTurnAlike_3 : decode cX0_playTurnAlike 3 = .ok (.sipush 164, 3) := by decide +kernel
theorem dX0_playTurnAlike_6 : decode cX0_playTurnAlike 6 = .ok (.if_icmp .ge 42, 3) := by decide +kernel
theorem dX0_playTurnAlike_9 : decode cX0_playTurnAlike 9 = .ok (.aload_n 0, 1) := by decide +kernel
theorem dX0_playTurnAlike_10 : decode cX0_playTurnAlike 10 = .ok (.getfield 43, 3) := by decide +kernel
theorem dX0_playTurnAlike_13 : decode cX0_playTurnAlike 13 = .ok (.ifCond .le 14, 3) := by decide +kernel
theorem dX0_playTurnAlike_16 : decode cX0_playTurnAlike 16 = .ok (.aload_n 0, 1) := by decide +kernel
theorem dX0_playTurnAlike_17 : decode cX0_playTurnAlike 17 = .ok (.bipush 6, 2) := by decide +kernel
theorem dX0_playTurnAlike_19 : decode cX0_playTurnAlike 19 = .ok (.bipush 9, 2) := by decide +kernel
theorem dX0_playTurnAlike_21 : decode cX0_playTurnAlike 21 = .ok (.invokevirtual 135, 3) := by decide +kernel
theorem dX0_playTurnAlike_24 : decode cX0_playTurnAlike 24 = .ok (.goto 4, 3) := by decide +kernel
theorem dX0_playTurnAlike_27 : decode cX0_playTurnAlike 27 = .ok (.iconst (-1), 1) := by decide +kernel
theorem dX0_playTurnAlike_28 : decode cX0_playTurnAlike 28 = .ok (.istore_n 2, 1) := by decide +kernel
theorem dX0_playTurnAlike_29 : decode cX0_playTurnAlike 29 = .ok (.iload_n 2, 1) := by decide +kernel
theorem dX0_playTurnAlike_30 : decode cX0_playTurnAlike 30 = .ok (.ifCond .ge 6, 3) := by decide +kernel
theorem dX0_playTurnAlike_33 : decode cX0_playTurnAlike 33 = .ok (.goto 15, 3) := by decide +kernel
theorem dX0_playTurnAlike_36 : decode cX0_playTurnAlike 36 = .ok (.aload_n 0, 1) := by decide +kernel
theorem dX0_playTurnAlike_37 : decode cX0_playTurnAlike 37 = .ok (.iload_n 2, 1) := by decide +kernel
theorem dX0_playTurnAlike_38 : decode cX0_playTurnAlike 38 = .ok (.invokevirtual 139, 3) := by decide +kernel
theorem dX0_playTurnAlike_41 : decode cX0_playTurnAlike 41 = .ok (.pop, 1) := by decide +kernel
theorem dX0_playTurnAlike_42 : decode cX0_playTurnAlike 42 = .ok (.iinc 1 1, 3) := by decide +kernel
theorem dX0_playTurnAlike_45 : decode cX0_playTurnAlike 45 = .ok (.goto (-43), 3) := by decide +kernel
theorem dX0_playTurnAlike_48 : decode cX0_playTurnAlike 48 = .ok (.iconst 0, 1) := by decide +kernel
theorem dX0_playTurnAlike_49 : decode cX0_playTurnAlike 49 = .ok (.istore_n 1, 1) := by decide +kernel
theorem dX0_playTurnAlike_50 : decode cX0_playTurnAlike 50 = .ok (.iload_n 1, 1) := by decide +kernel
theorem dX0_playTurnAlike_51 : decode cX0_playTurnAlike 51 = .ok (.sipush 164, 3) := by decide +kernel
theorem dX0_playTurnAlike_54 : decode cX0_playTurnAlike 54 = .ok (.if_icmp .ge 29, 3) := by decide +kernel
theorem dX0_playTurnAlike_57 : decode cX0_playTurnAlike 57 = .ok (.aload_n 0, 1) := by decide +kernel
theorem dX0_playTurnAlike_58 : decode cX0_playTurnAlike 58 = .ok (.iconst 0, 1) := by decide +kernel
theorem dX0_playTurnAlike_59 : decode cX0_playTurnAlike 59 = .ok (.iconst 2, 1) := by decide +kernel
theorem dX0_playTurnAlike_60 : decode cX0_playTurnAlike 60 = .ok (.invokevirtual 135, 3) := by decide +kernel
theorem dX0_playTurnAlike_63 : decode cX0_playTurnAlike 63 = .ok (.istore_n 2, 1) := by decide +kernel
theorem dX0_playTurnAlike_64 : decode cX0_playTurnAlike 64 = .ok (.iload_n 2, 1) := by decide +kernel
theorem dX0_playTurnAlike_65 : decode cX0_playTurnAlike 65 = .ok (.ifCond .ge 6, 3) := by decide +kernel
theorem dX0_playTurnAlike_68 : decode cX0_playTurnAlike 68 = .ok (.goto 15, 3) := by decide +kernel
theorem dX0_playTurnAlike_71 : decode cX0_playTurnAlike 71 = .ok (.aload_n 0, 1) := by decide +kernel
theorem dX0_playTurnAlike_72 : decode cX0_playTurnAlike 72 = .ok (.iload_n 2, 1) := by decide +kernel
theorem dX0_playTurnAlike_73 : decode cX0_playTurnAlike 73 = .ok (.invokevirtual 139, 3) := by decide +kernel
theorem dX0_playTurnAlike_76 : decode cX0_playTurnAlike 76 = .ok (.pop, 1) := by decide +kernel
theorem dX0_playTurnAlike_77 : decode cX0_playTurnAlike 77 = .ok (.iinc 1 1, 3) := by decide +kernel
theorem dX0_playTurnAlike_80 : decode cX0_playTurnAlike 80 = .ok (.goto (-30), 3) := by decide +kernel
theorem dX0_playTurnAlike_83 : decode cX0_playTurnAlike 83 = .ok (.iconst 0, 1) := by decide +kernel
theorem dX0_playTurnAlike_84 : decode cX0_playTurnAlike 84 = .ok (.istore_n 1, 1) := by decide +kernel
theorem dX0_playTurnAlike_85 : decode cX0_playTurnAlike 85 = .ok (.iload_n 1, 1) := by decide +kernel
theorem dX0_playTurnAlike_86 : decode cX0_playTurnAlike 86 = .ok (.sipush 164, 3) := by decide +kernel
theorem dX0_playTurnAlike_89 : decode cX0_playTurnAlike 89 = .ok (.if_icmp .ge 27, 3) := by decide +kernel
theorem dX0_playTurnAlike_92 : decode cX0_playTurnAlike 92 = .ok (.aload_n 0, 1) := by decide +kernel
theorem dX0_playTurnAlike_93 : decode cX0_playTurnAlike 93 = .ok (.invokevirtual 142, 3) := by decide +kernel
theorem dX0_playTurnAlike_96 : decode cX0_playTurnAlike 96 = .ok (.istore_n 2, 1) := by decide +kernel
theorem dX0_playTurnAlike_97 : decode cX0_playTurnAlike 97 = .ok (.iload_n 2, 1) := by decide +kernel
theorem dX0_playTurnAlike_98 : decode cX0_playTurnAlike 98 = .ok (.ifCond .ge 6, 3) := by decide +kernel
theorem dX0_playTurnAlike_101 : decode cX0_playTurnAlike 101 = .ok (.goto 15, 3) := by decide +kernel
theorem dX0_playTurnAlike_104 : decode cX0_playTurnAlike 104 = .ok (.aload_n 0, 1) := by decide +kernel
theorem dX0_playTurnAlike_105 : decode cX0_playTurnAlike 105 = .ok (.iload_n 2, 1) := by decide +kernel
theorem dX0_playTurnAlike_106 : decode cX0_playTurnAlike 106 = .ok (.invokevirtual 145, 3) := by decide +kernel
theorem dX0_playTurnAlike_109 : decode cX0_playTurnAlike 109 = .ok (.pop, 1) := by decide +kernel
theorem dX0_playTurnAlike_110 : decode cX0_playTurnAlike 110 = .ok (.iinc 1 1, 3) := by decide +kernel
theorem dX0_playTurnAlike_113 : decode cX0_playTurnAlike 113 = .ok (.goto (-28), 3) := by decide +kernel
theorem dX0_playTurnAlike_116 : decode cX0_playTurnAlike 116 = .ok (.aload_n 0, 1) := by decide +kernel
theorem dX0_playTurnAlike_117 : decode cX0_playTurnAlike 117 = .ok (.invokevirtual 148, 3) := by decide +kernel
theorem dX0_playTurnAlike_120 : decode cX0_playTurnAlike 120 = .ok (.pop, 1) := by decide +kernel
theorem dX0_playTurnAlike_121 : decode cX0_playTurnAlike 121 = .ok (.return_, 1) := by decide +kernel
theorem dX0_firstInHand_0 : decode cX0_firstInHand 0 = .ok (.aload_n 0, 1) := by decide +kernel
theorem dX0_firstInHand_1 : decode cX0_firstInHand 1 = .ok (.getfield 15, 3) := by decide +kernel
theorem dX0_firstInHand_4 : decode cX0_firstInHand 4 = .ok (.aload_n 0, 1) := by decide +kernel
theorem dX0_firstInHand_5 : decode cX0_firstInHand 5 = .ok (.getfield 34, 3) := by decide +kernel
theorem dX0_firstInHand_8 : decode cX0_firstInHand 8 = .ok (.iconst 4, 1) := by decide +kernel
theorem dX0_firstInHand_9 : decode cX0_firstInHand 9 = .ok (.imul, 1) := by decide +kernel
theorem dX0_firstInHand_10 : decode cX0_firstInHand 10 = .ok (.iconst 2, 1) := by decide +kernel
theorem dX0_firstInHand_11 : decode cX0_firstInHand 11 = .ok (.iadd, 1) := by decide +kernel
theorem dX0_firstInHand_12 : decode cX0_firstInHand 12 = .ok (.iaload, 1) := by decide +kernel
theorem dX0_firstInHand_13 : decode cX0_firstInHand 13 = .ok (.istore_n 3, 1) := by decide +kernel
theorem dX0_firstInHand_14 : decode cX0_firstInHand 14 = .ok (.aload_n 0, 1) := by decide +kernel
theorem dX0_firstInHand_15 : decode cX0_firstInHand 15 = .ok (.getfield 15, 3) := by decide +kernel
theorem dX0_firstInHand_18 : decode cX0_firstInHand 18 = .ok (.aload_n 0, 1) := by decide +kernel
theorem dX0_firstInHand_19 : decode cX0_firstInHand 19 = .ok (.getfield 34, 3) := by decide +kernel
theorem dX0_firstInHand_22 : decode cX0_firstInHand 22 = .ok (.iconst 4, 1) := by decide +kernel
theorem dX0_firstInHand_23 : decode cX0_firstInHand 23 = .ok (.imul, 1) := by decide +kernel
theorem dX0_firstInHand_24 : decode cX0_firstInHand 24 = .ok (.iconst 3, 1) := by decide +kernel
theorem dX0_firstInHand_25 : decode cX0_firstInHand 25 = .ok (.iadd, 1) := by decide +kernel
theorem dX0_firstInHand_26 : decode cX0_firstInHand 26 = .ok (.iaload, 1) := by decide +kernel
theorem dX0_firstInHand_27 : decode cX0_firstInHand 27 = .ok (.istore 4, 2) := by decide +kernel
theorem dX0_firstInHand_29 : decode cX0_firstInHand 29 = .ok (.iload_n 3, 1) := by decide +kernel
theorem dX0_firstInHand_30 : decode cX0_firstInHand 30 = .ok (.istore 5, 2) := by decide +kernel
theorem dX0_firstInHand_32 : decode cX0_firstInHand 32 = .ok (.iload 5, 2) := by decide +kernel
theorem dX0_firstInHand_34 : decode cX0_firstInHand 34 = .ok (.iload 4, 2) := by decide +kernel
theorem dX0_firstInHand_36 : decode cX0_firstInHand 36 = .ok (.if_icmp .ge 34, 3) := by decide +kernel
theorem dX0_firstInHand_39 : decode cX0_firstInHand 39 = .ok (.aload_n 0, 1) := by decide +kernel
theorem dX0_firstInHand_40 : decode cX0_firstInHand 40 = .ok (.iload 5, 2) := by decide +kernel
theorem dX0_firstInHand_42 : decode cX0_firstInHand 42 = .ok (.invokevirtual 151, 3) := by decide +kernel
theorem dX0_firstInHand_45 : decode cX0_firstInHand 45 = .ok (.istore 6, 2) := by decide +kernel
theorem dX0_firstInHand_47 : decode cX0_firstInHand 47 = .ok (.iload 6, 2) := by decide +kernel
theorem dX0_firstInHand_49 : decode cX0_firstInHand 49 = .ok (.iload_n 1, 1) := by decide +kernel
theorem dX0_firstInHand_50 : decode cX0_firstInHand 50 = .ok (.if_icmp .lt 14, 3) := by decide +kernel
theorem dX0_firstInHand_53 : decode cX0_firstInHand 53 = .ok (.iload 6, 2) := by decide +kernel
theorem dX0_firstInHand_55 : decode cX0_firstInHand 55 = .ok (.iload_n 2, 1) := by decide +kernel
theorem dX0_firstInHand_56 : decode cX0_firstInHand 56 = .ok (.if_icmp .gt 8, 3) := by decide +kernel
theorem dX0_firstInHand_59 : decode cX0_firstInHand 59 = .ok (.iload 5, 2) := by decide +kernel
theorem dX0_firstInHand_61 : decode cX0_firstInHand 61 = .ok (.iload_n 3, 1) := by decide +kernel
theorem dX0_firstInHand_62 : decode cX0_firstInHand 62 = .ok (.isub, 1) := by decide +kernel
theorem dX0_firstInHand_63 : decode cX0_firstInHand 63 = .ok (.ireturn, 1) := by decide +kernel
theorem dX0_firstInHand_64 : decode cX0_firstInHand 64 = .ok (.iinc 5 1, 3) := by decide +kernel
theorem dX0_firstInHand_67 : decode cX0_firstInHand 67 = .ok (.goto (-35), 3) := by decide +kernel
theorem dX0_firstInHand_70 : decode cX0_firstInHand 70 = .ok (.iconst (-1), 1) := by decide +kernel
theorem dX0_firstInHand_71 : decode cX0_firstInHand 71 = .ok (.ireturn, 1) := by decide +kernel
theorem dX0_dearestToBuy_0 : decode cX0_dearestToBuy 0 = .ok (.iconst (-1), 1) := by decide +kernel
theorem dX0_dearestToBuy_1 : decode cX0_dearestToBuy 1 = .ok (.istore_n 1, 1) := by decide +kernel
theorem dX0_dearestToBuy_2 : decode cX0_dearestToBuy 2 = .ok (.iconst 1, 1) := by decide +kernel
theorem dX0_dearestToBuy_3 : decode cX0_dearestToBuy 3 = .ok (.istore_n 2, 1) := by decide +kernel
theorem dX0_dearestToBuy_4 : decode cX0_dearestToBuy 4 = .ok (.iconst 0, 1) := by decide +kernel
theorem dX0_dearestToBuy_5 : decode cX0_dearestToBuy 5 = .ok (.istore_n 3, 1) := by decide +kernel
theorem dX0_dearestToBuy_6 : decode cX0_dearestToBuy 6 = .ok (.iload_n 3, 1) := by decide +kernel
theorem dX0_dearestToBuy_7 : decode cX0_dearestToBuy 7 = .ok (.bipush 10, 2) := by decide +kernel
theorem dX0_dearestToBuy_9 : decode cX0_dearestToBuy 9 = .ok (.if_icmp .ge 34, 3) := by decide +kernel
theorem dX0_dearestToBuy_12 : decode cX0_dearestToBuy 12 = .ok (.getstatic 125, 3) := by decide +kernel
theorem dX0_dearestToBuy_15 : decode cX0_dearestToBuy 15 = .ok (.iload_n 3, 1) := by decide +kernel
theorem dX0_dearestToBuy_16 : decode cX0_dearestToBuy 16 = .ok (.iaload, 1) := by decide +kernel
theorem dX0_dearestToBuy_17 : decode cX0_dearestToBuy 17 = .ok (.iload_n 2, 1) := by decide +kernel
theorem dX0_dearestToBuy_18 : decode cX0_dearestToBuy 18 = .ok (.if_icmp .lt 19, 3) := by decide +kernel
theorem dX0_dearestToBuy_21 : decode cX0_dearestToBuy 21 = .ok (.aload_n 0, 1) := by decide +kernel
theorem dX0_dearestToBuy_22 : decode cX0_dearestToBuy 22 = .ok (.iload_n 3, 1) := by decide +kernel
theorem dX0_dearestToBuy_23 : decode cX0_dearestToBuy 23 = .ok (.invokevirtual 122, 3) := by decide +kernel
theorem dX0_dearestToBuy_26 : decode cX0_dearestToBuy 26 = .ok (.ifCond .ne 11, 3) := by decide +kernel
theorem dX0_dearestToBuy_29 : decode cX0_dearestToBuy 29 = .ok (.iload_n 3, 1) := by decide +kernel
theorem dX0_dearestToBuy_30 : decode cX0_dearestToBuy 30 = .ok (.istore_n 1, 1) := by decide +kernel
theorem dX0_dearestToBuy_31 : decode cX0_dearestToBuy 31 = .ok (.getstatic 125, 3) := by decide +kernel
theorem dX0_dearestToBuy_34 : decode cX0_dearestToBuy 34 = .ok (.iload_n 3, 1) := by decide +kernel
theorem dX0_dearestToBuy_35 : decode cX0_dearestToBuy 35 = .ok (.iaload, 1) := by decide +kernel
theorem dX0_dearestToBuy_36 : decode cX0_dearestToBuy 36 = .ok (.istore_n 2, 1) := by decide +kernel
theorem dX0_dearestToBuy_37 : decode cX0_dearestToBuy 37 = .ok (.iinc 3 1, 3) := by decide +kernel
theorem dX0_dearestToBuy_40 : decode cX0_dearestToBuy 40 = .ok (.goto (-34), 3) := by decide +kernel
theorem dX0_dearestToBuy_43 : decode cX0_dearestToBuy 43 = .ok (.iload_n 1, 1) := by decide +kernel
theorem dX0_dearestToBuy_44 : decode cX0_dearestToBuy 44 = .ok (.ireturn, 1) := by decide +kernel
theorem dX0_drawCards_0 : decode cX0_drawCards 0 = .ok (.iload_n 1, 1) := by decide +kernel
theorem dX0_drawCards_1 : decode cX0_drawCards 1 = .ok (.iconst 4, 1) := by decide +kernel
theorem dX0_drawCards_2 : decode cX0_drawCards 2 = .ok (.imul, 1) := by decide +kernel
theorem dX0_drawCards_3 : decode cX0_drawCards 3 = .ok (.iconst 0, 1) := by decide +kernel
theorem dX0_drawCards_4 : decode cX0_drawCards 4 = .ok (.iadd, 1) := by decide +kernel
theorem dX0_drawCards_5 : decode cX0_drawCards 5 = .ok (.istore_n 3, 1) := by decide +kernel
theorem dX0_drawCards_6 : decode cX0_drawCards 6 = .ok (.iconst 0, 1) := by decide +kernel
theorem dX0_drawCards_7 : decode cX0_drawCards 7 = .ok (.istore 4, 2) := by decide +kernel
theorem dX0_drawCards_9 : decode cX0_drawCards 9 = .ok (.iload 4, 2) := by decide +kernel
theorem dX0_drawCards_11 : decode cX0_drawCards 11 = .ok (.iload_n 2, 1) := by decide +kernel
theorem dX0_drawCards_12 : decode cX0_drawCards 12 = .ok (.if_icmp .ge 69, 3) := by decide +kernel
theorem dX0_drawCards_15 : decode cX0_drawCards 15 = .ok (.aload_n 0, 1) := by decide +kernel
theorem dX0_drawCards_16 : decode cX0_drawCards 16 = .ok (.getfield 15, 3) := by decide +kernel
theorem dX0_drawCards_19 : decode cX0_drawCards 19 = .ok (.iload_n 3, 1) := by decide +kernel
theorem dX0_drawCards_20 : decode cX0_drawCards 20 = .ok (.iaload, 1) := by decide +kernel
theorem dX0_drawCards_21 : decode cX0_drawCards 21 = .ok (.aload_n 0, 1) := by decide +kernel
theorem dX0_drawCards_22 : decode cX0_drawCards 22 = .ok (.getfield 15, 3) := by decide +kernel
theorem dX0_drawCards_25 : decode cX0_drawCards 25 = .ok (.iload_n 3, 1) := by decide +kernel
theorem dX0_drawCards_26 : decode cX0_drawCards 26 = .ok (.iconst 1, 1) := by decide +kernel
theorem dX0_drawCards_27 : decode cX0_drawCards 27 = .ok (.iadd, 1) := by decide +kernel
theorem dX0_drawCards_28 : decode cX0_drawCards 28 = .ok (.iaload, 1) := by decide +kernel
theorem dX0_drawCards_29 : decode cX0_drawCards 29 = .ok (.if_icmp .ne 19, 3) := by decide +kernel
theorem dX0_drawCards_32 : decode cX0_drawCards 32 = .ok (.aload_n 0, 1) := by decide +kernel
theorem dX0_drawCards_33 : decode cX0_drawCards 33 = .ok (.getfield 15, 3) := by decide +kernel
theorem dX0_drawCards_36 : decode cX0_drawCards 36 = .ok (.iload_n 3, 1) := by decide +kernel
theorem dX0_drawCards_37 : decode cX0_drawCards 37 = .ok (.iconst 1, 1) := by decide +kernel
theorem dX0_drawCards_38 : decode cX0_drawCards 38 = .ok (.iadd, 1) := by decide +kernel
theorem dX0_drawCards_39 : decode cX0_drawCards 39 = .ok (.aload_n 0, 1) := by decide +kernel
theorem dX0_drawCards_40 : decode cX0_drawCards 40 = .ok (.getfield 15, 3) := by decide +kernel
theorem dX0_drawCards_43 : decode cX0_drawCards 43 = .ok (.iload_n 3, 1) := by decide +kernel
theorem dX0_drawCards_44 : decode cX0_drawCards 44 = .ok (.iconst 2, 1) := by decide +kernel
theorem dX0_drawCards_45 : decode cX0_drawCards 45 = .ok (.iadd, 1) := by decide +kernel
theorem dX0_drawCards_46 : decode cX0_drawCards 46 = .ok (.iaload, 1) := by decide +kernel
theorem dX0_drawCards_47 : decode cX0_drawCards 47 = .ok (.iastore, 1) := by decide +kernel
theorem dX0_drawCards_48 : decode cX0_drawCards 48 = .ok (.aload_n 0, 1) := by decide +kernel
theorem dX0_drawCards_49 : decode cX0_drawCards 49 = .ok (.getfield 15, 3) := by decide +kernel
theorem dX0_drawCards_52 : decode cX0_drawCards 52 = .ok (.iload_n 3, 1) := by decide +kernel
theorem dX0_drawCards_53 : decode cX0_drawCards 53 = .ok (.iaload, 1) := by decide +kernel
theorem dX0_drawCards_54 : decode cX0_drawCards 54 = .ok (.aload_n 0, 1) := by decide +kernel
theorem dX0_drawCards_55 : decode cX0_drawCards 55 = .ok (.getfield 15, 3) := by decide +kernel
theorem dX0_drawCards_58 : decode cX0_drawCards 58 = .ok (.iload_n 3, 1) := by decide +kernel
theorem dX0_drawCards_59 : decode cX0_drawCards 59 = .ok (.iconst 1, 1) := by decide +kernel
theorem dX0_drawCards_60 : decode cX0_drawCards 60 = .ok (.iadd, 1) := by decide +kernel
theorem dX0_drawCards_61 : decode cX0_drawCards 61 = .ok (.iaload, 1) := by decide +kernel
theorem dX0_drawCards_62 : decode cX0_drawCards 62 = .ok (.if_icmp .ne 4, 3) := by decide +kernel
theorem dX0_drawCards_65 : decode cX0_drawCards 65 = .ok (.return_, 1) := by decide +kernel
theorem dX0_drawCards_66 : decode cX0_drawCards 66 = .ok (.aload_n 0, 1) := by decide +kernel
theorem dX0_drawCards_67 : decode cX0_drawCards 67 = .ok (.iload_n 3, 1) := by decide +kernel
theorem dX0_drawCards_68 : decode cX0_drawCards 68 = .ok (.iconst 0, 1) := by decide +kernel
theorem dX0_drawCards_69 : decode cX0_drawCards 69 = .ok (.iload_n 3, 1) := by decide +kernel
theorem dX0_drawCards_70 : decode cX0_drawCards 70 = .ok (.iconst 2, 1) := by decide +kernel
theorem dX0_drawCards_71 : decode cX0_drawCards 71 = .ok (.iadd, 1) := by decide +kernel
theorem dX0_drawCards_72 : decode cX0_drawCards 72 = .ok (.invokevirtual 90, 3) := by decide +kernel
theorem dX0_drawCards_75 : decode cX0_drawCards 75 = .ok (.iinc 4 1, 3) := by decide +kernel
theorem dX0_drawCards_78 : decode cX0_drawCards 78 = .ok (.goto (-69), 3) := by decide +kernel
theorem dX0_drawCards_81 : decode cX0_drawCards 81 = .ok (.return_, 1) := by decide +kernel
theorem dX0_moveToEnd_0 : decode cX0_moveToEnd 0 = .ok (.aload_n 0, 1) := by decide +kernel
theorem dX0_moveToEnd_1 : decode cX0_moveToEnd 1 = .ok (.getfield 15, 3) := by decide +kernel
theorem dX0_moveToEnd_4 : decode cX0_moveToEnd 4 = .ok (.iload_n 1, 1) := by decide +kernel
theorem dX0_moveToEnd_5 : decode cX0_moveToEnd 5 = .ok (.iaload, 1) := by decide +kernel
theorem dX0_moveToEnd_6 : decode cX0_moveToEnd 6 = .ok (.iload_n 2, 1) := by decide +kernel
theorem dX0_moveToEnd_7 : decode cX0_moveToEnd 7 = .ok (.iadd, 1) := by decide +kernel
theorem dX0_moveToEnd_8 : decode cX0_moveToEnd 8 = .ok (.istore 4, 2) := by decide +kernel
theorem dX0_moveToEnd_10 : decode cX0_moveToEnd 10 = .ok (.aload_n 0, 1) := by decide +kernel
theorem dX0_moveToEnd_11 : decode cX0_moveToEnd 11 = .ok (.getfield 15, 3) := by decide +kernel
theorem dX0_moveToEnd_14 : decode cX0_moveToEnd 14 = .ok (.iload_n 3, 1) := by decide +kernel
theorem dX0_moveToEnd_15 : decode cX0_moveToEnd 15 = .ok (.iconst 1, 1) := by decide +kernel
theorem dX0_moveToEnd_16 : decode cX0_moveToEnd 16 = .ok (.iadd, 1) := by decide +kernel
theorem dX0_moveToEnd_17 : decode cX0_moveToEnd 17 = .ok (.iaload, 1) := by decide +kernel
theorem dX0_moveToEnd_18 : decode cX0_moveToEnd 18 = .ok (.iconst 1, 1) := by decide +kernel
theorem dX0_moveToEnd_19 : decode cX0_moveToEnd 19 = .ok (.isub, 1) := by decide +kernel
theorem dX0_moveToEnd_20 : decode cX0_moveToEnd 20 = .ok (.istore 5, 2) := by decide +kernel
theorem dX0_moveToEnd_22 : decode cX0_moveToEnd 22 = .ok (.iload 4, 2) := by decide +kernel
theorem dX0_moveToEnd_24 : decode cX0_moveToEnd 24 = .ok (.ifCond .lt 29, 3) := by decide +kernel
theorem dX0_moveToEnd_27 : decode cX0_moveToEnd 27 = .ok (.iload 4, 2) := by decide +kernel
theorem dX0_moveToEnd_29 : decode cX0_moveToEnd 29 = .ok (.aload_n 0, 1) := by decide +kernel
theorem dX0_moveToEnd_30 : decode cX0_moveToEnd 30 = .ok (.getfield 15, 3) := by decide +kernel
theorem dX0_moveToEnd_33 : decode cX0_moveToEnd 33 = .ok (.iload_n 1, 1) := by decide +kernel
theorem dX0_moveToEnd_34 : decode cX0_moveToEnd 34 = .ok (.iaload, 1) := by decide +kernel
theorem dX0_moveToEnd_35 : decode cX0_moveToEnd 35 = .ok (.if_icmp .lt 18, 3) := by decide +kernel
theorem dX0_moveToEnd_38 : decode cX0_moveToEnd 38 = .ok (.iload 4, 2) := by decide +kernel
theorem dX0_moveToEnd_40 : decode cX0_moveToEnd 40 = .ok (.iload 5, 2) := by decide +kernel
theorem dX0_moveToEnd_42 : decode cX0_moveToEnd 42 = .ok (.if_icmp .gt 11, 3) := by decide +kernel
theorem dX0_moveToEnd_45 : decode cX0_moveToEnd 45 = .ok (.iload 5, 2) := by decide +kernel
theorem dX0_moveToEnd_47 : decode cX0_moveToEnd 47 = .ok (.sipush 164, 3) := by decide +kernel
theorem dX0_moveToEnd_50 : decode cX0_moveToEnd 50 = .ok (.if_icmp .lt 4, 3) := by decide +kernel
theorem dX0_moveToEnd_53 : decode cX0_moveToEnd 53 = .ok (.return_, 1) := by decide +kernel
theorem dX0_moveToEnd_54 : decode cX0_moveToEnd 54 = .ok (.aload_n 0, 1) := by decide +kernel
theorem dX0_moveToEnd_55 : decode cX0_moveToEnd 55 = .ok (.getfield 9, 3) := by decide +kernel
theorem dX0_moveToEnd_58 : decode cX0_moveToEnd 58 = .ok (.iload 4, 2) := by decide +kernel
theorem dX0_moveToEnd_60 : decode cX0_moveToEnd 60 = .ok (.iaload, 1) := by decide +kernel
theorem dX0_moveToEnd_61 : decode cX0_moveToEnd 61 = .ok (.istore 6, 2) := by decide +kernel
theorem dX0_moveToEnd_63 : decode cX0_moveToEnd 63 = .ok (.aload_n 0, 1) := by decide +kernel
theorem dX0_moveToEnd_64 : decode cX0_moveToEnd 64 = .ok (.getfield 9, 3) := by decide +kernel
theorem dX0_moveToEnd_67 : decode cX0_moveToEnd 67 = .ok (.iload 4, 2) := by decide +kernel
theorem dX0_moveToEnd_69 : decode cX0_moveToEnd 69 = .ok (.iconst 1, 1) := by decide +kernel
theorem dX0_moveToEnd_70 : decode cX0_moveToEnd 70 = .ok (.iadd, 1) := by decide +kernel
theorem dX0_moveToEnd_71 : decode cX0_moveToEnd 71 = .ok (.aload_n 0, 1) := by decide +kernel
theorem dX0_moveToEnd_72 : decode cX0_moveToEnd 72 = .ok (.getfield 9, 3) := by decide +kernel
theorem dX0_moveToEnd_75 : decode cX0_moveToEnd 75 = .ok (.iload 4, 2) := by decide +kernel
theorem dX0_moveToEnd_77 : decode cX0_moveToEnd 77 = .ok (.iload 5, 2) := by decide +kernel
theorem dX0_moveToEnd_79 : decode cX0_moveToEnd 79 = .ok (.iload 4, 2) := by decide +kernel
theorem dX0_moveToEnd_81 : decode cX0_moveToEnd 81 = .ok (.isub, 1) := by decide +kernel
theorem dX0_moveToEnd_82 : decode cX0_moveToEnd 82 = .ok (.invokestatic 24, 3) := by decide +kernel
theorem dX0_moveToEnd_85 : decode cX0_moveToEnd 85 = .ok (.aload_n 0, 1) := by decide +kernel
theorem dX0_moveToEnd_86 : decode cX0_moveToEnd 86 = .ok (.getfield 9, 3) := by decide +kernel
theorem dX0_moveToEnd_89 : decode cX0_moveToEnd 89 = .ok (.iload 5, 2) := by decide +kernel
theorem dX0_moveToEnd_91 : decode cX0_moveToEnd 91 = .ok (.iload 6, 2) := by decide +kernel
theorem dX0_moveToEnd_93 : decode cX0_moveToEnd 93 = .ok (.iastore, 1) := by decide +kernel
theorem dX0_moveToEnd_94 : decode cX0_moveToEnd 94 = .ok (.iload_n 1, 1) := by decide +kernel
theorem dX0_moveToEnd_95 : decode cX0_moveToEnd 95 = .ok (.iconst 1, 1) := by decide +kernel
theorem dX0_moveToEnd_96 : decode cX0_moveToEnd 96 = .ok (.iadd, 1) := by decide +kernel
theorem dX0_moveToEnd_97 : decode cX0_moveToEnd 97 = .ok (.istore 7, 2) := by decide +kernel
theorem dX0_moveToEnd_99 : decode cX0_moveToEnd 99 = .ok (.iload 7, 2) := by decide +kernel
theorem dX0_moveToEnd_101 : decode cX0_moveToEnd 101 = .ok (.iload_n 3, 1) := by decide +kernel
theorem dX0_moveToEnd_102 : decode cX0_moveToEnd 102 = .ok (.if_icmp .gt 20, 3) := by decide +kernel
theorem dX0_moveToEnd_105 : decode cX0_moveToEnd 105 = .ok (.aload_n 0, 1) := by decide +kernel
theorem dX0_moveToEnd_106 : decode cX0_moveToEnd 106 = .ok (.getfield 15, 3) := by decide +kernel
theorem dX0_moveToEnd_109 : decode cX0_moveToEnd 109 = .ok (.iload 7, 2) := by decide +kernel
theorem dX0_moveToEnd_111 : decode cX0_moveToEnd 111 = .ok (.dup2, 1) := by decide +kernel
theorem dX0_moveToEnd_112 : decode cX0_moveToEnd 112 = .ok (.iaload, 1) := by decide +kernel
theorem dX0_moveToEnd_113 : decode cX0_moveToEnd 113 = .ok (.iconst 1, 1) := by decide +kernel
theorem dX0_moveToEnd_114 : decode cX0_moveToEnd 114 = .ok (.isub, 1) := by decide +kernel
theorem dX0_moveToEnd_115 : decode cX0_moveToEnd 115 = .ok (.iastore, 1) := by decide +kernel
theorem dX0_moveToEnd_116 : decode cX0_moveToEnd 116 = .ok (.iinc 7 1, 3) := by decide +kernel
theorem dX0_moveToEnd_119 : decode cX0_moveToEnd 119 = .ok (.goto (-20), 3) := by decide +kernel
theorem dX0_moveToEnd_122 : decode cX0_moveToEnd 122 = .ok (.return_, 1) := by decide +kernel
theorem dX0_takeFromPile_0 : decode cX0_takeFromPile 0 = .ok (.aload_n 0, 1) := by decide +kernel
theorem dX0_takeFromPile_1 : decode cX0_takeFromPile 1 = .ok (.getfield 15, 3) := by decide +kernel
theorem dX0_takeFromPile_4 : decode cX0_takeFromPile 4 = .ok (.iload_n 1, 1) := by decide +kernel
theorem dX0_takeFromPile_5 : decode cX0_takeFromPile 5 = .ok (.iconst 4, 1) := by decide +kernel
theorem dX0_takeFromPile_6 : decode cX0_takeFromPile 6 = .ok (.imul, 1) := by decide +kernel
theorem dX0_takeFromPile_7 : decode cX0_takeFromPile 7 = .ok (.iconst 2, 1) := by decide +kernel
theorem dX0_takeFromPile_8 : decode cX0_takeFromPile 8 = .ok (.iadd, 1) := by decide +kernel
theorem dX0_takeFromPile_9 : decode cX0_takeFromPile 9 = .ok (.iaload, 1) := by decide +kernel
theorem dX0_takeFromPile_10 : decode cX0_takeFromPile 10 = .ok (.istore_n 3, 1) := by decide +kernel
theorem dX0_takeFromPile_11 : decode cX0_takeFromPile 11 = .ok (.aload_n 0, 1) := by decide +kernel
theorem dX0_takeFromPile_12 : decode cX0_takeFromPile 12 = .ok (.getfield 15, 3) := by decide +kernel
theorem dX0_takeFromPile_15 : decode cX0_takeFromPile 15 = .ok (.bipush 16, 2) := by decide +kernel
theorem dX0_takeFromPile_17 : decode cX0_takeFromPile 17 = .ok (.iaload, 1) := by decide +kernel
theorem dX0_takeFromPile_18 : decode cX0_takeFromPile 18 = .ok (.istore 4, 2) := by decide +kernel
theorem dX0_takeFromPile_20 : decode cX0_takeFromPile 20 = .ok (.aload_n 0, 1) := by decide +kernel
theorem dX0_takeFromPile_21 : decode cX0_takeFromPile 21 = .ok (.getfield 18, 3) := by decide +kernel
theorem dX0_takeFromPile_24 : decode cX0_takeFromPile 24 = .ok (.iload_n 2, 1) := by decide +kernel
theorem dX0_takeFromPile_25 : decode cX0_takeFromPile 25 = .ok (.iaload, 1) := by decide +kernel
theorem dX0_takeFromPile_26 : decode cX0_takeFromPile 26 = .ok (.ifCond .le 21, 3) := by decide +kernel
theorem dX0_takeFromPile_29 : decode cX0_takeFromPile 29 = .ok (.iload_n 3, 1) := by decide +kernel
theorem dX0_takeFromPile_30 : decode cX0_takeFromPile 30 = .ok (.ifCond .lt 17, 3) := by decide +kernel
theorem dX0_takeFromPile_33 : decode cX0_takeFromPile 33 = .ok (.iload_n 3, 1) := by decide +kernel
theorem dX0_takeFromPile_34 : decode cX0_takeFromPile 34 = .ok (.iload 4, 2) := by decide +kernel
theorem dX0_takeFromPile_36 : decode cX0_takeFromPile 36 = .ok (.if_icmp .gt 11, 3) := by decide +kernel
theorem dX0_takeFromPile_39 : decode cX0_takeFromPile 39 = .ok (.iload 4, 2) := by decide +kernel
theorem dX0_takeFromPile_41 : decode cX0_takeFromPile 41 = .ok (.sipush 164, 3) := by decide +kernel
theorem dX0_takeFromPile_44 : decode cX0_takeFromPile 44 = .ok (.if_icmp .lt 4, 3) := by decide +kernel
theorem dX0_takeFromPile_47 : decode cX0_takeFromPile 47 = .ok (.return_, 1) := by decide +kernel
theorem dX0_takeFromPile_48 : decode cX0_takeFromPile 48 = .ok (.aload_n 0, 1) := by decide +kernel
theorem dX0_takeFromPile_49 : decode cX0_takeFromPile 49 = .ok (.getfield 9, 3) := by decide +kernel
theorem dX0_takeFromPile_52 : decode cX0_takeFromPile 52 = .ok (.iload_n 3, 1) := by decide +kernel
theorem dX0_takeFromPile_53 : decode cX0_takeFromPile 53 = .ok (.aload_n 0, 1) := by decide +kernel
theorem dX0_takeFromPile_54 : decode cX0_takeFromPile 54 = .ok (.getfield 9, 3) := by decide +kernel
theorem dX0_takeFromPile_57 : decode cX0_takeFromPile 57 = .ok (.iload_n 3, 1) := by decide +kernel
theorem dX0_takeFromPile_58 : decode cX0_takeFromPile 58 = .ok (.iconst 1, 1) := by decide +kernel
theorem dX0_takeFromPile_59 : decode cX0_takeFromPile 59 = .ok (.iadd, 1) := by decide +kernel
theorem dX0_takeFromPile_60 : decode cX0_takeFromPile 60 = .ok (.iload 4, 2) := by decide +kernel
theorem dX0_takeFromPile_62 : decode cX0_takeFromPile 62 = .ok (.iload_n 3, 1) := by decide +kernel
theorem dX0_takeFromPile_63 : decode cX0_takeFromPile 63 = .ok (.isub, 1) := by decide +kernel
theorem dX0_takeFromPile_64 : decode cX0_takeFromPile 64 = .ok (.invokestatic 24, 3) := by decide +kernel
theorem dX0_takeFromPile_67 : decode cX0_takeFromPile 67 = .ok (.aload_n 0, 1) := by decide +kernel
theorem dX0_takeFromPile_68 : decode cX0_takeFromPile 68 = .ok (.getfield 9, 3) := by decide +kernel
theorem dX0_takeFromPile_71 : decode cX0_takeFromPile 71 = .ok (.iload_n 3, 1) := by decide +kernel
theorem dX0_takeFromPile_72 : decode cX0_takeFromPile 72 = .ok (.iload_n 2, 1) := by decide +kernel
theorem dX0_takeFromPile_73 : decode cX0_takeFromPile 73 = .ok (.iastore, 1) := by decide +kernel
theorem dX0_takeFromPile_74 : decode cX0_takeFromPile 74 = .ok (.iload_n 1, 1) := by decide +kernel
theorem dX0_takeFromPile_75 : decode cX0_takeFromPile 75 = .ok (.iconst 4, 1) := by decide +kernel
theorem dX0_takeFromPile_76 : decode cX0_takeFromPile 76 = .ok (.imul, 1) := by decide +kernel
theorem dX0_takeFromPile_77 : decode cX0_takeFromPile 77 = .ok (.iconst 2, 1) := by decide +kernel
theorem dX0_takeFromPile_78 : decode cX0_takeFromPile 78 = .ok (.iadd, 1) := by decide +kernel
theorem dX0_takeFromPile_79 : decode cX0_takeFromPile 79 = .ok (.istore 5, 2) := by decide +kernel
theorem dX0_takeFromPile_81 : decode cX0_takeFromPile 81 = .ok (.iload 5, 2) := by decide +kernel
theorem dX0_takeFromPile_83 : decode cX0_takeFromPile 83 = .ok (.bipush 16, 2) := by decide +kernel
theorem dX0_takeFromPile_85 : decode cX0_takeFromPile 85 = .ok (.if_icmp .gt 20, 3) := by decide +kernel
theorem dX0_takeFromPile_88 : decode cX0_takeFromPile 88 = .ok (.aload_n 0, 1) := by decide +kernel
theorem dX0_takeFromPile_89 : decode cX0_takeFromPile 89 = .ok (.getfield 15, 3) := by decide +kernel
theorem dX0_takeFromPile_92 : decode cX0_takeFromPile 92 = .ok (.iload 5, 2) := by decide +kernel
theorem dX0_takeFromPile_94 : decode cX0_takeFromPile 94 = .ok (.dup2, 1) := by decide +kernel
theorem dX0_takeFromPile_95 : decode cX0_takeFromPile 95 = .ok (.iaload, 1) := by decide +kernel
theorem dX0_takeFromPile_96 : decode cX0_takeFromPile 96 = .ok (.iconst 1, 1) := by decide +kernel
theorem dX0_takeFromPile_97 : decode cX0_takeFromPile 97 = .ok (.iadd, 1) := by decide +kernel
theorem dX0_takeFromPile_98 : decode cX0_takeFromPile 98 = .ok (.iastore, 1) := by decide +kernel
theorem dX0_takeFromPile_99 : decode cX0_takeFromPile 99 = .ok (.iinc 5 1, 3) := by decide +kernel
theorem dX0_takeFromPile_102 : decode cX0_takeFromPile 102 = .ok (.goto (-21), 3) := by decide +kernel
theorem dX0_takeFromPile_105 : decode cX0_takeFromPile 105 = .ok (.aload_n 0, 1) := by decide +kernel
theorem dX0_takeFromPile_106 : decode cX0_takeFromPile 106 = .ok (.getfield 18, 3) := by decide +kernel
theorem dX0_takeFromPile_109 : decode cX0_takeFromPile 109 = .ok (.iload_n 2, 1) := by decide +kernel
theorem dX0_takeFromPile_110 : decode cX0_takeFromPile 110 = .ok (.dup2, 1) := by decide +kernel
theorem dX0_takeFromPile_111 : decode cX0_takeFromPile 111 = .ok (.iaload, 1) := by decide +kernel
theorem dX0_takeFromPile_112 : decode cX0_takeFromPile 112 = .ok (.iconst 1, 1) := by decide +kernel
theorem dX0_takeFromPile_113 : decode cX0_takeFromPile 113 = .ok (.isub, 1) := by decide +kernel
theorem dX0_takeFromPile_114 : decode cX0_takeFromPile 114 = .ok (.iastore, 1) := by decide +kernel
theorem dX0_takeFromPile_115 : decode cX0_takeFromPile 115 = .ok (.return_, 1) := by decide +kernel
theorem dX0_hasPlayer_0 : decode cX0_hasPlayer 0 = .ok (.iload_n 1, 1) := by decide +kernel
theorem dX0_hasPlayer_1 : decode cX0_hasPlayer 1 = .ok (.ifCond .lt 15, 3) := by decide +kernel
theorem dX0_hasPlayer_4 : decode cX0_hasPlayer 4 = .ok (.iload_n 1, 1) := by decide +kernel
theorem dX0_hasPlayer_5 : decode cX0_hasPlayer 5 = .ok (.aload_n 0, 1) := by decide +kernel
theorem dX0_hasPlayer_6 : decode cX0_hasPlayer 6 = .ok (.getfield 30, 3) := by decide +kernel
theorem dX0_hasPlayer_9 : decode cX0_hasPlayer 9 = .ok (.if_icmp .ge 7, 3) := by decide +kernel
theorem dX0_hasPlayer_12 : decode cX0_hasPlayer 12 = .ok (.iconst 1, 1) := by decide +kernel
theorem dX0_hasPlayer_13 : decode cX0_hasPlayer 13 = .ok (.goto 4, 3) := by decide +kernel
theorem dX0_hasPlayer_16 : decode cX0_hasPlayer 16 = .ok (.iconst 0, 1) := by decide +kernel
theorem dX0_hasPlayer_17 : decode cX0_hasPlayer 17 = .ok (.ireturn, 1) := by decide +kernel
theorem dX0_playerBehind_0 : decode cX0_playerBehind 0 = .ok (.iload_n 1, 1) := by decide +kernel
theorem dX0_playerBehind_1 : decode cX0_playerBehind 1 = .ok (.iconst 1, 1) := by decide +kernel
theorem dX0_playerBehind_2 : decode cX0_playerBehind 2 = .ok (.iadd, 1) := by decide +kernel
theorem dX0_playerBehind_3 : decode cX0_playerBehind 3 = .ok (.aload_n 0, 1) := by decide +kernel
theorem dX0_playerBehind_4 : decode cX0_playerBehind 4 = .ok (.getfield 30, 3) := by decide +kernel
theorem dX0_playerBehind_7 : decode cX0_playerBehind 7 = .ok (.if_icmp .ge 9, 3) := by decide +kernel
theorem dX0_playerBehind_10 : decode cX0_playerBehind 10 = .ok (.iload_n 1, 1) := by decide +kernel
theorem dX0_playerBehind_11 : decode cX0_playerBehind 11 = .ok (.iconst 1, 1) := by decide +kernel
theorem dX0_playerBehind_12 : decode cX0_playerBehind 12 = .ok (.iadd, 1) := by decide +kernel
theorem dX0_playerBehind_13 : decode cX0_playerBehind 13 = .ok (.goto 4, 3) := by decide +kernel
theorem dX0_playerBehind_16 : decode cX0_playerBehind 16 = .ok (.iconst 0, 1) := by decide +kernel
theorem dX0_playerBehind_17 : decode cX0_playerBehind 17 = .ok (.ireturn, 1) := by decide +kernel
theorem dX0_cardOf_0 : decode cX0_cardOf 0 = .ok (.aload_n 0, 1) := by decide +kernel
theorem dX0_cardOf_1 : decode cX0_cardOf 1 = .ok (.getfield 15, 3) := by decide +kernel
theorem dX0_cardOf_4 : decode cX0_cardOf 4 = .ok (.iload_n 1, 1) := by decide +kernel
theorem dX0_cardOf_5 : decode cX0_cardOf 5 = .ok (.iconst 4, 1) := by decide +kernel
theorem dX0_cardOf_6 : decode cX0_cardOf 6 = .ok (.imul, 1) := by decide +kernel
theorem dX0_cardOf_7 : decode cX0_cardOf 7 = .ok (.iload_n 2, 1) := by decide +kernel
theorem dX0_cardOf_8 : decode cX0_cardOf 8 = .ok (.iadd, 1) := by decide +kernel
theorem dX0_cardOf_9 : decode cX0_cardOf 9 = .ok (.iaload, 1) := by decide +kernel
theorem dX0_cardOf_10 : decode cX0_cardOf 10 = .ok (.istore 4, 2) := by decide +kernel
theorem dX0_cardOf_12 : decode cX0_cardOf 12 = .ok (.aload_n 0, 1) := by decide +kernel
theorem dX0_cardOf_13 : decode cX0_cardOf 13 = .ok (.getfield 15, 3) := by decide +kernel
theorem dX0_cardOf_16 : decode cX0_cardOf 16 = .ok (.iload_n 1, 1) := by decide +kernel
theorem dX0_cardOf_17 : decode cX0_cardOf 17 = .ok (.iconst 4, 1) := by decide +kernel
theorem dX0_cardOf_18 : decode cX0_cardOf 18 = .ok (.imul, 1) := by decide +kernel
theorem dX0_cardOf_19 : decode cX0_cardOf 19 = .ok (.iload_n 2, 1) := by decide +kernel
theorem dX0_cardOf_20 : decode cX0_cardOf 20 = .ok (.iadd, 1) := by decide +kernel
theorem dX0_cardOf_21 : decode cX0_cardOf 21 = .ok (.iconst 1, 1) := by decide +kernel
theorem dX0_cardOf_22 : decode cX0_cardOf 22 = .ok (.iadd, 1) := by decide +kernel
theorem dX0_cardOf_23 : decode cX0_cardOf 23 = .ok (.iaload, 1) := by decide +kernel
theorem dX0_cardOf_24 : decode cX0_cardOf 24 = .ok (.iload 4, 2) := by decide +kernel
theorem dX0_cardOf_26 : decode cX0_cardOf 26 = .ok (.isub, 1) := by decide +kernel
theorem dX0_cardOf_27 : decode cX0_cardOf 27 = .ok (.istore 5, 2) := by decide +kernel
theorem dX0_cardOf_29 : decode cX0_cardOf 29 = .ok (.iload_n 3, 1) := by decide +kernel
theorem dX0_cardOf_30 : decode cX0_cardOf 30 = .ok (.ifCond .lt 9, 3) := by decide +kernel
theorem dX0_cardOf_33 : decode cX0_cardOf 33 = .ok (.iload_n 3, 1) := by decide +kernel
theorem dX0_cardOf_34 : decode cX0_cardOf 34 = .ok (.iload 5, 2) := by decide +kernel
theorem dX0_cardOf_36 : decode cX0_cardOf 36 = .ok (.if_icmp .lt 7, 3) := by decide +kernel
theorem dX0_cardOf_39 : decode cX0_cardOf 39 = .ok (.iconst (-1), 1) := by decide +kernel
theorem dX0_cardOf_40 : decode cX0_cardOf 40 = .ok (.goto 11, 3) := by decide +kernel
theorem dX0_cardOf_43 : decode cX0_cardOf 43 = .ok (.aload_n 0, 1) := by decide +kernel
theorem dX0_cardOf_44 : decode cX0_cardOf 44 = .ok (.iload 4, 2) := by decide +kernel
theorem dX0_cardOf_46 : decode cX0_cardOf 46 = .ok (.iload_n 3, 1) := by decide +kernel
theorem dX0_cardOf_47 : decode cX0_cardOf 47 = .ok (.iadd, 1) := by decide +kernel
theorem dX0_cardOf_48 : decode cX0_cardOf 48 = .ok (.invokevirtual 151, 3) := by decide +kernel
theorem dX0_cardOf_51 : decode cX0_cardOf 51 = .ok (.ireturn, 1) := by decide +kernel
theorem dX0_kindAt_0 : decode cX0_kindAt 0 = .ok (.iload_n 1, 1) := by decide +kernel
theorem dX0_kindAt_1 : decode cX0_kindAt 1 = .ok (.ifCond .lt 10, 3) := by decide +kernel
theorem dX0_kindAt_4 : decode cX0_kindAt 4 = .ok (.iload_n 1, 1) := by decide +kernel
theorem dX0_kindAt_5 : decode cX0_kindAt 5 = .ok (.sipush 164, 3) := by decide +kernel
theorem dX0_kindAt_8 : decode cX0_kindAt 8 = .ok (.if_icmp .lt 7, 3) := by decide +kernel
theorem dX0_kindAt_11 : decode cX0_kindAt 11 = .ok (.iconst (-1), 1) := by decide +kernel
theorem dX0_kindAt_12 : decode cX0_kindAt 12 = .ok (.goto 9, 3) := by decide +kernel
theorem dX0_kindAt_15 : decode cX0_kindAt 15 = .ok (.aload_n 0, 1) := by decide +kernel
theorem dX0_kindAt_16 : decode cX0_kindAt 16 = .ok (.getfield 9, 3) := by decide +kernel
theorem dX0_kindAt_19 : decode cX0_kindAt 19 = .ok (.iload_n 1, 1) := by decide +kernel
theorem dX0_kindAt_20 : decode cX0_kindAt 20 = .ok (.iaload, 1) := by decide +kernel
theorem dX0_kindAt_21 : decode cX0_kindAt 21 = .ok (.ireturn, 1) := by decide +kernel
theorem dX0_howMany_0 : decode cX0_howMany 0 = .ok (.aload_n 0, 1) := by decide +kernel
theorem dX0_howMany_1 : decode cX0_howMany 1 = .ok (.getfield 15, 3) := by decide +kernel
theorem dX0_howMany_4 : decode cX0_howMany 4 = .ok (.iload_n 1, 1) := by decide +kernel
theorem dX0_howMany_5 : decode cX0_howMany 5 = .ok (.iconst 4, 1) := by decide +kernel
theorem dX0_howMany_6 : decode cX0_howMany 6 = .ok (.imul, 1) := by decide +kernel
theorem dX0_howMany_7 : decode cX0_howMany 7 = .ok (.iload_n 2, 1) := by decide +kernel
theorem dX0_howMany_8 : decode cX0_howMany 8 = .ok (.iadd, 1) := by decide +kernel
theorem dX0_howMany_9 : decode cX0_howMany 9 = .ok (.iaload, 1) := by decide +kernel
theorem dX0_howMany_10 : decode cX0_howMany 10 = .ok (.istore 5, 2) := by decide +kernel
theorem dX0_howMany_12 : decode cX0_howMany 12 = .ok (.aload_n 0, 1) := by decide +kernel
theorem dX0_howMany_13 : decode cX0_howMany 13 = .ok (.getfield 15, 3) := by decide +kernel
theorem dX0_howMany_16 : decode cX0_howMany 16 = .ok (.iload_n 1, 1) := by decide +kernel
theorem dX0_howMany_17 : decode cX0_howMany 17 = .ok (.iconst 4, 1) := by decide +kernel
theorem dX0_howMany_18 : decode cX0_howMany 18 = .ok (.imul, 1) := by decide +kernel
theorem dX0_howMany_19 : decode cX0_howMany 19 = .ok (.iload_n 3, 1) := by decide +kernel
theorem dX0_howMany_20 : decode cX0_howMany 20 = .ok (.iadd, 1) := by decide +kernel
theorem dX0_howMany_21 : decode cX0_howMany 21 = .ok (.iconst 1, 1) := by decide +kernel
theorem dX0_howMany_22 : decode cX0_howMany 22 = .ok (.iadd, 1) := by decide +kernel
theorem dX0_howMany_23 : decode cX0_howMany 23 = .ok (.iaload, 1) := by decide +kernel
theorem dX0_howMany_24 : decode cX0_howMany 24 = .ok (.istore 6, 2) := by decide +kernel
theorem dX0_howMany_26 : decode cX0_howMany 26 = .ok (.iload 4, 2) := by decide +kernel
theorem dX0_howMany_28 : decode cX0_howMany 28 = .ok (.bipush 10, 2) := by decide +kernel
theorem dX0_howMany_30 : decode cX0_howMany 30 = .ok (.if_icmp .ne 9, 3) := by decide +kernel
theorem dX0_howMany_33 : decode cX0_howMany 33 = .ok (.iload 6, 2) := by decide +kernel
theorem dX0_howMany_35 : decode cX0_howMany 35 = .ok (.iload 5, 2) := by decide +kernel
theorem dX0_howMany_37 : decode cX0_howMany 37 = .ok (.isub, 1) := by decide +kernel
theorem dX0_howMany_38 : decode cX0_howMany 38 = .ok (.ireturn, 1) := by decide +kernel
theorem dX0_howMany_39 : decode cX0_howMany 39 = .ok (.iconst 0, 1) := by decide +kernel
theorem dX0_howMany_40 : decode cX0_howMany 40 = .ok (.istore 7, 2) := by decide +kernel
theorem dX0_howMany_42 : decode cX0_howMany 42 = .ok (.iload 5, 2) := by decide +kernel
theorem dX0_howMany_44 : decode cX0_howMany 44 = .ok (.istore 8, 2) := by decide +kernel
theorem dX0_howMany_46 : decode cX0_howMany 46 = .ok (.iload 8, 2) := by decide +kernel
theorem dX0_howMany_48 : decode cX0_howMany 48 = .ok (.iload 6, 2) := by decide +kernel
theorem dX0_howMany_50 : decode cX0_howMany 50 = .ok (.if_icmp .ge 23, 3) := by decide +kernel
theorem dX0_howMany_53 : decode cX0_howMany 53 = .ok (.aload_n 0, 1) := by decide +kernel
theorem dX0_howMany_54 : decode cX0_howMany 54 = .ok (.iload 8, 2) := by decide +kernel
theorem dX0_howMany_56 : decode cX0_howMany 56 = .ok (.invokevirtual 151, 3) := by decide +kernel
theorem dX0_howMany_59 : decode cX0_howMany 59 = .ok (.iload 4, 2) := by decide +kernel
theorem dX0_howMany_61 : decode cX0_howMany 61 = .ok (.if_icmp .ne 6, 3) := by decide +kernel
theorem dX0_howMany_64 : decode cX0_howMany 64 = .ok (.iinc 7 1, 3) := by decide +kernel
theorem dX0_howMany_67 : decode cX0_howMany 67 = .ok (.iinc 8 1, 3) := by decide +kernel
theorem dX0_howMany_70 : decode cX0_howMany 70 = .ok (.goto (-24), 3) := by decide +kernel
theorem dX0_howMany_73 : decode cX0_howMany 73 = .ok (.iload 7, 2) := by decide +kernel
theorem dX0_howMany_75 : decode cX0_howMany 75 = .ok (.ireturn, 1) := by decide +kernel
theorem dX0_sumOf_0 : decode cX0_sumOf 0 = .ok (.iconst 0, 1) := by decide +kernel
theorem dX0_sumOf_1 : decode cX0_sumOf 1 = .ok (.istore_n 3, 1) := by decide +kernel
theorem dX0_sumOf_2 : decode cX0_sumOf 2 = .ok (.iconst 0, 1) := by decide +kernel
theorem dX0_sumOf_3 : decode cX0_sumOf 3 = .ok (.istore 4, 2) := by decide +kernel
theorem dX0_sumOf_5 : decode cX0_sumOf 5 = .ok (.iload 4, 2) := by decide +kernel
theorem dX0_sumOf_7 : decode cX0_sumOf 7 = .ok (.aload_n 2, 1) := by decide +kernel
theorem dX0_sumOf_8 : decode cX0_sumOf 8 = .ok (.arraylength, 1) := by decide +kernel
theorem dX0_sumOf_9 : decode cX0_sumOf 9 = .ok (.if_icmp .ge 26, 3) := by decide +kernel
theorem dX0_sumOf_12 : decode cX0_sumOf 12 = .ok (.iload_n 3, 1) := by decide +kernel
theorem dX0_sumOf_13 : decode cX0_sumOf 13 = .ok (.aload_n 2, 1) := by decide +kernel
theorem dX0_sumOf_14 : decode cX0_sumOf 14 = .ok (.iload 4, 2) := by decide +kernel
theorem dX0_sumOf_16 : decode cX0_sumOf 16 = .ok (.iaload, 1) := by decide +kernel
theorem dX0_sumOf_17 : decode cX0_sumOf 17 = .ok (.aload_n 0, 1) := by decide +kernel
theorem dX0_sumOf_18 : decode cX0_sumOf 18 = .ok (.iload_n 1, 1) := by decide +kernel
theorem dX0_sumOf_19 : decode cX0_sumOf 19 = .ok (.iconst 0, 1) := by decide +kernel
theorem dX0_sumOf_20 : decode cX0_sumOf 20 = .ok (.iconst 3, 1) := by decide +kernel
theorem dX0_sumOf_21 : decode cX0_sumOf 21 = .ok (.iload 4, 2) := by decide +kernel
theorem dX0_sumOf_23 : decode cX0_sumOf 23 = .ok (.invokevirtual 154, 3) := by decide +kernel
theorem dX0_sumOf_26 : decode cX0_sumOf 26 = .ok (.imul, 1) := by decide +kernel
theorem dX0_sumOf_27 : decode cX0_sumOf 27 = .ok (.iadd, 1) := by decide +kernel
theorem dX0_sumOf_28 : decode cX0_sumOf 28 = .ok (.istore_n 3, 1) := by decide +kernel
theorem dX0_sumOf_29 : decode cX0_sumOf 29 = .ok (.iinc 4 1, 3) := by decide +kernel
theorem dX0_sumOf_32 : decode cX0_sumOf 32 = .ok (.goto (-27), 3) := by decide +kernel
theorem dX0_sumOf_35 : decode cX0_sumOf 35 = .ok (.iload_n 3, 1) := by decide +kernel
theorem dX0_sumOf_36 : decode cX0_sumOf 36 = .ok (.ireturn, 1) := by decide +kernel
theorem dX0_leader_0 : decode cX0_leader 0 = .ok (.iconst 0, 1) := by decide +kernel
theorem dX0_leader_1 : decode cX0_leader 1 = .ok (.istore_n 1, 1) := by decide +kernel
theorem dX0_leader_2 : decode cX0_leader 2 = .ok (.iconst 1, 1) := by decide +kernel
theorem dX0_leader_3 : decode cX0_leader 3 = .ok (.istore_n 2, 1) := by decide +kernel
theorem dX0_leader_4 : decode cX0_leader 4 = .ok (.iload_n 2, 1) := by decide +kernel
theorem dX0_leader_5 : decode cX0_leader 5 = .ok (.aload_n 0, 1) := by decide +kernel
theorem dX0_leader_6 : decode cX0_leader 6 = .ok (.getfield 30, 3) := by decide +kernel
theorem dX0_leader_9 : decode cX0_leader 9 = .ok (.if_icmp .ge 30, 3) := by decide +kernel
theorem dX0_leader_12 : decode cX0_leader 12 = .ok (.aload_n 0, 1) := by decide +kernel
theorem dX0_leader_13 : decode cX0_leader 13 = .ok (.iload_n 2, 1) := by decide +kernel
theorem dX0_leader_14 : decode cX0_leader 14 = .ok (.getstatic 158, 3) := by decide +kernel
theorem dX0_leader_17 : decode cX0_leader 17 = .ok (.invokevirtual 161, 3) := by decide +kernel
theorem dX0_leader_20 : decode cX0_leader 20 = .ok (.aload_n 0, 1) := by decide +kernel
theorem dX0_leader_21 : decode cX0_leader 21 = .ok (.iload_n 1, 1) := by decide +kernel
theorem dX0_leader_22 : decode cX0_leader 22 = .ok (.getstatic 158, 3) := by decide +kernel
theorem dX0_leader_25 : decode cX0_leader 25 = .ok (.invokevirtual 161, 3) := by decide +kernel
theorem dX0_leader_28 : decode cX0_leader 28 = .ok (.if_icmp .le 5, 3) := by decide +kernel
theorem dX0_leader_31 : decode cX0_leader 31 = .ok (.iload_n 2, 1) := by decide +kernel
theorem dX0_leader_32 : decode cX0_leader 32 = .ok (.istore_n 1, 1) := by decide +kernel
theorem dX0_leader_33 : decode cX0_leader 33 = .ok (.iinc 2 1, 3) := by decide +kernel
theorem dX0_leader_36 : decode cX0_leader 36 = .ok (.goto (-32), 3) := by decide +kernel
theorem dX0_leader_39 : decode cX0_leader 39 = .ok (.iload_n 1, 1) := by decide +kernel
theorem dX0_leader_40 : decode cX0_leader 40 = .ok (.ireturn, 1) := by decide +kernel
theorem dX0_emptyPiles_0 : decode cX0_emptyPiles 0 = .ok (.iconst 0, 1) := by decide +kernel
theorem dX0_emptyPiles_1 : decode cX0_emptyPiles 1 = .ok (.istore_n 1, 1) := by decide +kernel
theorem dX0_emptyPiles_2 : decode cX0_emptyPiles 2 = .ok (.iconst 0, 1) := by decide +kernel
theorem dX0_emptyPiles_3 : decode cX0_emptyPiles 3 = .ok (.istore_n 2, 1) := by decide +kernel
theorem dX0_emptyPiles_4 : decode cX0_emptyPiles 4 = .ok (.iload_n 2, 1) := by decide +kernel
theorem dX0_emptyPiles_5 : decode cX0_emptyPiles 5 = .ok (.bipush 10, 2) := by decide +kernel
theorem dX0_emptyPiles_7 : decode cX0_emptyPiles 7 = .ok (.if_icmp .ge 21, 3) := by decide +kernel
theorem dX0_emptyPiles_10 : decode cX0_emptyPiles 10 = .ok (.aload_n 0, 1) := by decide +kernel
theorem dX0_emptyPiles_11 : decode cX0_emptyPiles 11 = .ok (.getfield 18, 3) := by decide +kernel
theorem dX0_emptyPiles_14 : decode cX0_emptyPiles 14 = .ok (.iload_n 2, 1) := by decide +kernel
theorem dX0_emptyPiles_15 : decode cX0_emptyPiles 15 = .ok (.iaload, 1) := by decide +kernel
theorem dX0_emptyPiles_16 : decode cX0_emptyPiles 16 = .ok (.ifCond .gt 6, 3) := by decide +kernel
theorem dX0_emptyPiles_19 : decode cX0_emptyPiles 19 = .ok (.iinc 1 1, 3) := by decide +kernel
theorem dX0_emptyPiles_22 : decode cX0_emptyPiles 22 = .ok (.iinc 2 1, 3) := by decide +kernel
theorem dX0_emptyPiles_25 : decode cX0_emptyPiles 25 = .ok (.goto (-21), 3) := by decide +kernel
theorem dX0_emptyPiles_28 : decode cX0_emptyPiles 28 = .ok (.iload_n 1, 1) := by decide +kernel
theorem dX0_emptyPiles_29 : decode cX0_emptyPiles 29 = .ok (.ireturn, 1) := by decide +kernel
theorem dX0_isInRow_0 : decode cX0_isInRow 0 = .ok (.iload_n 1, 1) := by decide +kernel
theorem dX0_isInRow_1 : decode cX0_isInRow 1 = .ok (.aload_n 0, 1) := by decide +kernel
theorem dX0_isInRow_2 : decode cX0_isInRow 2 = .ok (.getfield 49, 3) := by decide +kernel
theorem dX0_isInRow_5 : decode cX0_isInRow 5 = .ok (.isub, 1) := by decide +kernel
theorem dX0_isInRow_6 : decode cX0_isInRow 6 = .ok (.bipush 10, 2) := by decide +kernel
theorem dX0_isInRow_8 : decode cX0_isInRow 8 = .ok (.iadd, 1) := by decide +kernel
theorem dX0_isInRow_9 : decode cX0_isInRow 9 = .ok (.bipush 10, 2) := by decide +kernel
theorem dX0_isInRow_11 : decode cX0_isInRow 11 = .ok (.irem, 1) := by decide +kernel
theorem dX0_isInRow_12 : decode cX0_isInRow 12 = .ok (.bipush 6, 2) := by decide +kernel
theorem dX0_isInRow_14 : decode cX0_isInRow 14 = .ok (.if_icmp .ge 7, 3) := by decide +kernel
theorem dX0_isInRow_17 : decode cX0_isInRow 17 = .ok (.iconst 1, 1) := by decide +kernel
theorem dX0_isInRow_18 : decode cX0_isInRow 18 = .ok (.goto 4, 3) := by decide +kernel
theorem dX0_isInRow_21 : decode cX0_isInRow 21 = .ok (.iconst 0, 1) := by decide +kernel
theorem dX0_isInRow_22 : decode cX0_isInRow 22 = .ok (.ireturn, 1) := by decide +kernel
theorem dX0_whyNotBought_0 : decode cX0_whyNotBought 0 = .ok (.aload_n 0, 1) := by decide +kernel
theorem dX0_whyNotBought_1 : decode cX0_whyNotBought 1 = .ok (.getfield 58, 3) := by decide +kernel
theorem dX0_whyNotBought_4 : decode cX0_whyNotBought 4 = .ok (.ifCond .eq 5, 3) := by decide +kernel
theorem dX0_whyNotBought_7 : decode cX0_whyNotBought 7 = .ok (.iconst 1, 1) := by decide +kernel
theorem dX0_whyNotBought_8 : decode cX0_whyNotBought 8 = .ok (.ireturn, 1) := by decide +kernel
theorem dX0_whyNotBought_9 : decode cX0_whyNotBought 9 = .ok (.aload_n 0, 1) := by decide +kernel
theorem dX0_whyNotBought_10 : decode cX0_whyNotBought 10 = .ok (.iload_n 1, 1) := by decide +kernel
theorem dX0_whyNotBought_11 : decode cX0_whyNotBought 11 = .ok (.invokevirtual 165, 3) := by decide +kernel
theorem dX0_whyNotBought_14 : decode cX0_whyNotBought 14 = .ok (.ifCond .ne 5, 3) := by decide +kernel
theorem dX0_whyNotBought_17 : decode cX0_whyNotBought 17 = .ok (.iconst 2, 1) := by decide +kernel
theorem dX0_whyNotBought_18 : decode cX0_whyNotBought 18 = .ok (.ireturn, 1) := by decide +kernel
theorem dX0_whyNotBought_19 : decode cX0_whyNotBought 19 = .ok (.aload_n 0, 1) := by decide +kernel
theorem dX0_whyNotBought_20 : decode cX0_whyNotBought 20 = .ok (.getfield 18, 3) := by decide +kernel
theorem dX0_whyNotBought_23 : decode cX0_whyNotBought 23 = .ok (.iload_n 1, 1) := by decide +kernel
theorem dX0_whyNotBought_24 : decode cX0_whyNotBought 24 = .ok (.iaload, 1) := by decide +kernel
theorem dX0_whyNotBought_25 : decode cX0_whyNotBought 25 = .ok (.ifCond .gt 5, 3) := by decide +kernel
theorem dX0_whyNotBought_28 : decode cX0_whyNotBought 28 = .ok (.iconst 3, 1) := by decide +kernel
theorem dX0_whyNotBought_29 : decode cX0_whyNotBought 29 = .ok (.ireturn, 1) := by decide +kernel
theorem dX0_whyNotBought_30 : decode cX0_whyNotBought 30 = .ok (.aload_n 0, 1) := by decide +kernel
theorem dX0_whyNotBought_31 : decode cX0_whyNotBought 31 = .ok (.getfield 40, 3) := by decide +kernel
theorem dX0_whyNotBought_34 : decode cX0_whyNotBought 34 = .ok (.ifCond .gt 5, 3) := by decide +kernel
theorem dX0_whyNotBought_37 : decode cX0_whyNotBought 37 = .ok (.iconst 4, 1) := by decide +kernel
theorem dX0_whyNotBought_38 : decode cX0_whyNotBought 38 = .ok (.ireturn, 1) := by decide +kernel
theorem dX0_whyNotBought_39 : decode cX0_whyNotBought 39 = .ok (.aload_n 0, 1) := by decide +kernel
theorem dX0_whyNotBought_40 : decode cX0_whyNotBought 40 = .ok (.getfield 37, 3) := by decide +kernel
theorem dX0_whyNotBought_43 : decode cX0_whyNotBought 43 = .ok (.getstatic 125, 3) := by decide +kernel
theorem dX0_whyNotBought_46 : decode cX0_whyNotBought 46 = .ok (.iload_n 1, 1) := by decide +kernel
theorem dX0_whyNotBought_47 : decode cX0_whyNotBought 47 = .ok (.iaload, 1) := by decide +kernel
theorem dX0_whyNotBought_48 : decode cX0_whyNotBought 48 = .ok (.if_icmp .ge 7, 3) := by decide +kernel
theorem dX0_whyNotBought_51 : decode cX0_whyNotBought 51 = .ok (.iconst 5, 1) := by decide +kernel
theorem dX0_whyNotBought_52 : decode cX0_whyNotBought 52 = .ok (.goto 4, 3) := by decide +kernel
theorem dX0_whyNotBought_55 : decode cX0_whyNotBought 55 = .ok (.iconst 0, 1) := by decide +kernel
theorem dX0_whyNotBought_56 : decode cX0_whyNotBought 56 = .ok (.ireturn, 1) := by decide +kernel
theorem dX0_kindsToBuy_0 : decode cX0_kindsToBuy 0 = .ok (.iconst 0, 1) := by decide +kernel
theorem dX0_kindsToBuy_1 : decode cX0_kindsToBuy 1 = .ok (.istore_n 1, 1) := by decide +kernel
theorem dX0_kindsToBuy_2 : decode cX0_kindsToBuy 2 = .ok (.iconst 0, 1) := by decide +kernel
theorem dX0_kindsToBuy_3 : decode cX0_kindsToBuy 3 = .ok (.istore_n 2, 1) := by decide +kernel
theorem dX0_kindsToBuy_4 : decode cX0_kindsToBuy 4 = .ok (.iload_n 2, 1) := by decide +kernel
theorem dX0_kindsToBuy_5 : decode cX0_kindsToBuy 5 = .ok (.bipush 10, 2) := by decide +kernel
theorem dX0_kindsToBuy_7 : decode cX0_kindsToBuy 7 = .ok (.if_icmp .ge 23, 3) := by decide +kernel
theorem dX0_kindsToBuy_10 : decode cX0_kindsToBuy 10 = .ok (.aload_n 0, 1) := by decide +kernel
theorem dX0_kindsToBuy_11 : decode cX0_kindsToBuy 11 = .ok (.iload_n 2, 1) := by decide +kernel
theorem dX0_kindsToBuy_12 : decode cX0_kindsToBuy 12 = .ok (.invokevirtual 122, 3) := by decide +kernel
theorem dX0_kindsToBuy_15 : decode cX0_kindsToBuy 15 = .ok (.ifCond .ne 9, 3) := by decide +kernel
theorem dX0_kindsToBuy_18 : decode cX0_kindsToBuy 18 = .ok (.iload_n 1, 1) := by decide +kernel
theorem dX0_kindsToBuy_19 : decode cX0_kindsToBuy 19 = .ok (.iconst 1, 1) := by decide +kernel
theorem dX0_kindsToBuy_20 : decode cX0_kindsToBuy 20 = .ok (.iload_n 2, 1) := by decide +kernel
theorem dX0_kindsToBuy_21 : decode cX0_kindsToBuy 21 = .ok (.ishl, 1) := by decide +kernel
theorem dX0_kindsToBuy_22 : decode cX0_kindsToBuy 22 = .ok (.ior, 1) := by decide +kernel
theorem dX0_kindsToBuy_23 : decode cX0_kindsToBuy 23 = .ok (.istore_n 1, 1) := by decide +kernel
theorem dX0_kindsToBuy_24 : decode cX0_kindsToBuy 24 = .ok (.iinc 2 1, 3) := by decide +kernel
theorem dX0_kindsToBuy_27 : decode cX0_kindsToBuy 27 = .ok (.goto (-23), 3) := by decide +kernel
theorem dX0_kindsToBuy_30 : decode cX0_kindsToBuy 30 = .ok (.iload_n 1, 1) := by decide +kernel
theorem dX0_kindsToBuy_31 : decode cX0_kindsToBuy 31 = .ok (.ireturn, 1) := by decide +kernel
theorem dX1_init_0 : decode cX1_init 0 = .ok (.aload_n 0, 1) := by decide +kernel
theorem dX1_init_1 : decode cX1_init 1 = .ok (.invokespecial 1, 3) := by decide +kernel
theorem dX1_init_4 : decode cX1_init 4 = .ok (.aload_n 0, 1) := by decide +kernel
theorem dX1_init_5 : decode cX1_init 5 = .ok (.new 7, 3) := by decide +kernel
theorem dX1_init_8 : decode cX1_init 8 = .ok (.dup, 1) := by decide +kernel
theorem dX1_init_9 : decode cX1_init 9 = .ok (.invokespecial 9, 3) := by decide +kernel
theorem dX1_init_12 : decode cX1_init 12 = .ok (.putfield 10, 3) := by decide +kernel
theorem dX1_init_15 : decode cX1_init 15 = .ok (.aload_n 0, 1) := by decide +kernel
theorem dX1_init_16 : decode cX1_init 16 = .ok (.new 7, 3) := by decide +kernel
theorem dX1_init_19 : decode cX1_init 19 = .ok (.dup, 1) := by decide +kernel
theorem dX1_init_20 : decode cX1_init 20 = .ok (.invokespecial 9, 3) := by decide +kernel
theorem dX1_init_23 : decode cX1_init 23 = .ok (.putfield 16, 3) := by decide +kernel
theorem dX1_init_26 : decode cX1_init 26 = .ok (.aload_n 0, 1) := by decide +kernel
theorem dX1_init_27 : decode cX1_init 27 = .ok (.iconst 4, 1) := by decide +kernel
theorem dX1_init_28 : decode cX1_init 28 = .ok (.anewarray 7, 3) := by decide +kernel
theorem dX1_init_31 : decode cX1_init 31 = .ok (.putfield 19, 3) := by decide +kernel
theorem dX1_init_34 : decode cX1_init 34 = .ok (.iconst 0, 1) := by decide +kernel
theorem dX1_init_35 : decode cX1_init 35 = .ok (.istore_n 1, 1) := by decide +kernel
theorem dX1_init_36 : decode cX1_init 36 = .ok (.iload_n 1, 1) := by decide +kernel
theorem dX1_init_37 : decode cX1_init 37 = .ok (.iconst 4, 1) := by decide +kernel
theorem dX1_init_38 : decode cX1_init 38 = .ok (.if_icmp .ge 22, 3) := by decide +kernel
theorem dX1_init_41 : decode cX1_init 41 = .ok (.aload_n 0, 1) := by decide +kernel
theorem dX1_init_42 : decode cX1_init 42 = .ok (.getfield 19, 3) := by decide +kernel
theorem dX1_init_45 : decode cX1_init 45 = .ok (.iload_n 1, 1) := by decide +kernel
theorem dX1_init_46 : decode cX1_init 46 = .ok (.new 7, 3) := by decide +kernel
theorem dX1_init_49 : decode cX1_init 49 = .ok (.dup, 1) := by decide +kernel
theorem dX1_init_50 : decode cX1_init 50 = .ok (.invokespecial 9, 3) := by decide +kernel
theorem dX1_init_53 : decode cX1_init 53 = .ok (.aastore, 1) := by decide +kernel
theorem dX1_init_54 : decode cX1_init 54 = .ok (.iinc 1 1, 3) := by decide +kernel
theorem dX1_init_57 : decode cX1_init 57 = .ok (.goto (-21), 3) := by decide +kernel
theorem dX1_init_60 : decode cX1_init 60 = .ok (.aload_n 0, 1) := by decide +kernel
theorem dX1_init_61 : decode cX1_init 61 = .ok (.bipush 60, 2) := by decide +kernel
theorem dX1_init_63 : decode cX1_init 63 = .ok (.newarray .char, 2) := by decide +kernel
theorem dX1_init_65 : decode cX1_init 65 = .ok (.putfield 23, 3) := by decide +kernel
theorem dX1_init_68 : decode cX1_init 68 = .ok (.aload_n 0, 1) := by decide +kernel
theorem dX1_init_69 : decode cX1_init 69 = .ok (.getfield 10, 3) := by decide +kernel
theorem dX1_init_72 : decode cX1_init 72 = .ok (.iconst 1, 1) := by decide +kernel
theorem dX1_init_73 : decode cX1_init 73 = .ok (.putfield 27, 3) := by decide +kernel
theorem dX1_init_76 : decode cX1_init 76 = .ok (.aload_n 0, 1) := by decide +kernel
theorem dX1_init_77 : decode cX1_init 77 = .ok (.getfield 10, 3) := by decide +kernel
theorem dX1_init_80 : decode cX1_init 80 = .ok (.iconst 2, 1) := by decide +kernel
theorem dX1_init_81 : decode cX1_init 81 = .ok (.invokevirtual 31, 3) := by decide +kernel
theorem dX1_init_84 : decode cX1_init 84 = .ok (.pop, 1) := by decide +kernel
theorem dX1_init_85 : decode cX1_init 85 = .ok (.return_, 1) := by decide +kernel
theorem dX1_begin_0 : decode cX1_begin 0 = .ok (.aload_n 0, 1) := by decide +kernel
theorem dX1_begin_1 : decode cX1_begin 1 = .ok (.aload_n 0, 1) := by decide +kernel
theorem dX1_begin_2 : decode cX1_begin 2 = .ok (.invokevirtual 35, 3) := by decide +kernel
theorem dX1_begin_5 : decode cX1_begin 5 = .ok (.iload_n 1, 1) := by decide +kernel
theorem dX1_begin_6 : decode cX1_begin 6 = .ok (.invokevirtual 31, 3) := by decide +kernel
theorem dX1_begin_9 : decode cX1_begin 9 = .ok (.invokevirtual 39, 3) := by decide +kernel
theorem dX1_begin_12 : decode cX1_begin 12 = .ok (.ireturn, 1) := by decide +kernel
theorem dX1_play_0 : decode cX1_play 0 = .ok (.aload_n 0, 1) := by decide +kernel
theorem dX1_play_1 : decode cX1_play 1 = .ok (.aload_n 0, 1) := by decide +kernel
theorem dX1_play_2 : decode cX1_play 2 = .ok (.invokevirtual 35, 3) := by decide +kernel
theorem dX1_play_5 : decode cX1_play 5 = .ok (.iload_n 1, 1) := by decide +kernel
theorem dX1_play_6 : decode cX1_play 6 = .ok (.invokevirtual 42, 3) := by decide +kernel
theorem dX1_play_9 : decode cX1_play 9 = .ok (.invokevirtual 39, 3) := by decide +kernel
theorem dX1_play_12 : decode cX1_play 12 = .ok (.ireturn, 1) := by decide +kernel
theorem dX1_buy_0 : decode cX1_buy 0 = .ok (.aload_n 0, 1) := by decide +kernel
theorem dX1_buy_1 : decode cX1_buy 1 = .ok (.aload_n 0, 1) := by decide +kernel
theorem dX1_buy_2 : decode cX1_buy 2 = .ok (.invokevirtual 35, 3) := by decide +kernel
theorem dX1_buy_5 : decode cX1_buy 5 = .ok (.iload_n 1, 1) := by decide +kernel
theorem dX1_buy_6 : decode cX1_buy 6 = .ok (.invokevirtual 45, 3) := by decide +kernel
theorem dX1_buy_9 : decode cX1_buy 9 = .ok (.invokevirtual 39, 3) := by decide +kernel
theorem dX1_buy_12 : decode cX1_buy 12 = .ok (.ireturn, 1) := by decide +kernel
theorem dX1_scrap_0 : decode cX1_scrap 0 = .ok (.aload_n 0, 1) := by decide +kernel
theorem dX1_scrap_1 : decode cX1_scrap 1 = .ok (.aload_n 0, 1) := by decide +kernel
theorem dX1_scrap_2 : decode cX1_scrap 2 = .ok (.invokevirtual 35, 3) := by decide +kernel
theorem dX1_scrap_5 : decode cX1_scrap 5 = .ok (.iload_n 1, 1) := by decide +kernel
theorem dX1_scrap_6 : decode cX1_scrap 6 = .ok (.invokevirtual 48, 3) := by decide +kernel
theorem dX1_scrap_9 : decode cX1_scrap 9 = .ok (.invokevirtual 39, 3) := by decide +kernel
theorem dX1_scrap_12 : decode cX1_scrap 12 = .ok (.ireturn, 1) := by decide +kernel
theorem dX1_end_0 : decode cX1_end 0 = .ok (.aload_n 0, 1) := by decide +kernel
theorem dX1_end_1 : decode cX1_end 1 = .ok (.aload_n 0, 1) := by decide +kernel
theorem dX1_end_2 : decode cX1_end 2 = .ok (.invokevirtual 35, 3) := by decide +kernel
theorem dX1_end_5 : decode cX1_end 5 = .ok (.invokevirtual 51, 3) := by decide +kernel
theorem dX1_end_8 : decode cX1_end 8 = .ok (.invokevirtual 39, 3) := by decide +kernel
theorem dX1_end_11 : decode cX1_end 11 = .ok (.ireturn, 1) := by decide +kernel
theorem dX1_alike_0 : decode cX1_alike 0 = .ok (.iload_n 1, 1) := by decide +kernel
theorem dX1_alike_1 : decode cX1_alike 1 = .ok (.iconst 1, 1) := by decide +kernel
theorem dX1_alike_2 : decode cX1_alike 2 = .ok (.if_icmp .lt 9, 3) := by decide +kernel
theorem dX1_alike_5 : decode cX1_alike 5 = .ok (.iload_n 1, 1) := by decide +kernel
theorem dX1_alike_6 : decode cX1_alike 6 = .ok (.bipush 20, 2) := by decide +kernel
theorem dX1_alike_8 : decode cX1_alike 8 = .ok (.if_icmp .le 6, 3) := by decide +kernel
theorem dX1_alike_11 : decode cX1_alike 11 = .ok (.ldc 55, 2) := by decide +kernel
theorem dX1_alike_13 : decode cX1_alike 13 = .ok (.ireturn, 1) := by decide +kernel
theorem dX1_alike_14 : decode cX1_alike 14 = .ok (.aload_n 0, 1) := by decide +kernel
theorem dX1_alike_15 : decode cX1_alike 15 = .ok (.getfield 10, 3) := by decide +kernel
theorem dX1_alike_18 : decode cX1_alike 18 = .ok (.getfield 56, 3) := by decide +kernel
theorem dX1_alike_21 : decode cX1_alike 21 = .ok (.ifCond .eq 6, 3) := by decide +kernel
theorem dX1_alike_24 : decode cX1_alike 24 = .ok (.ldc 60, 2) := by decide +kernel
theorem dX1_alike_26 : decode cX1_alike 26 = .ok (.ireturn, 1) := by decide +kernel
theorem dX1_alike_27 : decode cX1_alike 27 = .ok (.aload_n 0, 1) := by decide +kernel
theorem dX1_alike_28 : decode cX1_alike 28 = .ok (.aload_n 0, 1) := by decide +kernel
theorem dX1_alike_29 : decode cX1_alike 29 = .ok (.invokevirtual 35, 3) := by decide +kernel
theorem dX1_alike_32 : decode cX1_alike 32 = .ok (.iload_n 1, 1) := by decide +kernel
theorem dX1_alike_33 : decode cX1_alike 33 = .ok (.invokevirtual 61, 3) := by decide +kernel
theorem dX1_alike_36 : decode cX1_alike 36 = .ok (.invokevirtual 39, 3) := by decide +kernel
theorem dX1_alike_39 : decode cX1_alike 39 = .ok (.ireturn, 1) := by decide +kernel
theorem dX1_set_0 : decode cX1_set 0 = .ok (.iload_n 1, 1) := by decide +kernel
theorem dX1_set_1 : decode cX1_set 1 = .ok (.ifCond .ne 13, 3) := by decide +kernel
theorem dX1_set_4 : decode cX1_set 4 = .ok (.iload_n 2, 1) := by decide +kernel
theorem dX1_set_5 : decode cX1_set 5 = .ok (.ifCond .lt 9, 3) := by decide +kernel
theorem dX1_set_8 : decode cX1_set 8 = .ok (.iload_n 2, 1) := by decide +kernel
theorem dX1_set_9 : decode cX1_set 9 = .ok (.bipush 9, 2) := by decide +kernel
theorem dX1_set_11 : decode cX1_set 11 = .ok (.if_icmp .le 6, 3) := by decide +kernel
theorem dX1_set_14 : decode cX1_set 14 = .ok (.ldc 55, 2) := by decide +kernel
theorem dX1_set_16 : decode cX1_set 16 = .ok (.ireturn, 1) := by decide +kernel
theorem dX1_set_17 : decode cX1_set 17 = .ok (.aload_n 0, 1) := by decide +kernel
theorem dX1_set_18 : decode cX1_set 18 = .ok (.getfield 10, 3) := by decide +kernel
theorem dX1_set_21 : decode cX1_set 21 = .ok (.getfield 27, 3) := by decide +kernel
theorem dX1_set_24 : decode cX1_set 24 = .ok (.istore_n 3, 1) := by decide +kernel
theorem dX1_set_25 : decode cX1_set 25 = .ok (.aload_n 0, 1) := by decide +kernel
theorem dX1_set_26 : decode cX1_set 26 = .ok (.invokevirtual 35, 3) := by decide +kernel
theorem dX1_set_29 : decode cX1_set 29 = .ok (.iload_n 2, 1) := by decide +kernel
theorem dX1_set_30 : decode cX1_set 30 = .ok (.putfield 27, 3) := by decide +kernel
theorem dX1_set_33 : decode cX1_set 33 = .ok (.aload_n 0, 1) := by decide +kernel
theorem dX1_set_34 : decode cX1_set 34 = .ok (.iload_n 3, 1) := by decide +kernel
theorem dX1_set_35 : decode cX1_set 35 = .ok (.invokevirtual 39, 3) := by decide +kernel
theorem dX1_set_38 : decode cX1_set 38 = .ok (.ireturn, 1) := by decide +kernel
theorem dX1_card_0 : decode cX1_card 0 = .ok (.aload_n 0, 1) := by decide +kernel
theorem dX1_card_1 : decode cX1_card 1 = .ok (.getfield 10, 3) := by decide +kernel
theorem dX1_card_4 : decode cX1_card 4 = .ok (.iload_n 1, 1) := by decide +kernel
theorem dX1_card_5 : decode cX1_card 5 = .ok (.invokevirtual 64, 3) := by decide +kernel
theorem dX1_card_8 : decode cX1_card 8 = .ok (.ifCond .eq 16, 3) := by decide +kernel
theorem dX1_card_11 : decode cX1_card 11 = .ok (.iload_n 2, 1) := by decide +kernel
theorem dX1_card_12 : decode cX1_card 12 = .ok (.ifCond .lt 12, 3) := by decide +kernel
theorem dX1_card_15 : decode cX1_card 15 = .ok (.iload_n 2, 1) := by decide +kernel
theorem dX1_card_16 : decode cX1_card 16 = .ok (.iconst 4, 1) := by decide +kernel
theorem dX1_card_17 : decode cX1_card 17 = .ok (.if_icmp .ge 7, 3) := by decide +kernel
theorem dX1_card_20 : decode cX1_card 20 = .ok (.iload_n 3, 1) := by decide +kernel
theorem dX1_card_21 : decode cX1_card 21 = .ok (.ifCond .ge 6, 3) := by decide +kernel
theorem dX1_card_24 : decode cX1_card 24 = .ok (.ldc 55, 2) := by decide +kernel
theorem dX1_card_26 : decode cX1_card 26 = .ok (.ireturn, 1) := by decide +kernel
theorem dX1_card_27 : decode cX1_card 27 = .ok (.aload_n 0, 1) := by decide +kernel
theorem dX1_card_28 : decode cX1_card 28 = .ok (.getfield 10, 3) := by decide +kernel
theorem dX1_card_31 : decode cX1_card 31 = .ok (.iload_n 1, 1) := by decide +kernel
theorem dX1_card_32 : decode cX1_card 32 = .ok (.iload_n 2, 1) := by decide +kernel
theorem dX1_card_33 : decode cX1_card 33 = .ok (.invokestatic 68, 3) := by decide +kernel
theorem dX1_card_36 : decode cX1_card 36 = .ok (.iload_n 3, 1) := by decide +kernel
theorem dX1_card_37 : decode cX1_card 37 = .ok (.invokevirtual 71, 3) := by decide +kernel
theorem dX1_card_40 : decode cX1_card 40 = .ok (.istore 4, 2) := by decide +kernel
theorem dX1_card_42 : decode cX1_card 42 = .ok (.iload 4, 2) := by decide +kernel
theorem dX1_card_44 : decode cX1_card 44 = .ok (.ifCond .ge 8, 3) := by decide +kernel
theorem dX1_card_47 : decode cX1_card 47 = .ok (.ldc 75, 2) := by decide +kernel
theorem dX1_card_49 : decode cX1_card 49 = .ok (.goto 5, 3) := by decide +kernel
theorem dX1_card_52 : decode cX1_card 52 = .ok (.iload 4, 2) := by decide +kernel
theorem dX1_card_54 : decode cX1_card 54 = .ok (.ireturn, 1) := by decide +kernel
theorem dX1_many_0 : decode cX1_many 0 = .ok (.aload_n 0, 1) := by decide +kernel
theorem dX1_many_1 : decode cX1_many 1 = .ok (.getfield 10, 3) := by decide +kernel
theorem dX1_many_4 : decode cX1_many 4 = .ok (.iload_n 1, 1) := by decide +kernel
theorem dX1_many_5 : decode cX1_many 5 = .ok (.invokevirtual 64, 3) := by decide +kernel
theorem dX1_many_8 : decode cX1_many 8 = .ok (.ifCond .eq 22, 3) := by decide +kernel
theorem dX1_many_11 : decode cX1_many 11 = .ok (.iload_n 2, 1) := by decide +kernel
theorem dX1_many_12 : decode cX1_many 12 = .ok (.ifCond .lt 18, 3) := by decide +kernel
theorem dX1_many_15 : decode cX1_many 15 = .ok (.iload_n 2, 1) := by decide +kernel
theorem dX1_many_16 : decode cX1_many 16 = .ok (.iconst 4, 1) := by decide +kernel
theorem dX1_many_17 : decode cX1_many 17 = .ok (.if_icmp .gt 13, 3) := by decide +kernel
theorem dX1_many_20 : decode cX1_many 20 = .ok (.iload_n 3, 1) := by decide +kernel
theorem dX1_many_21 : decode cX1_many 21 = .ok (.ifCond .lt 9, 3) := by decide +kernel
theorem dX1_many_24 : decode cX1_many 24 = .ok (.iload_n 3, 1) := by decide +kernel
theorem dX1_many_25 : decode cX1_many 25 = .ok (.bipush 10, 2) := by decide +kernel
theorem dX1_many_27 : decode cX1_many 27 = .ok (.if_icmp .le 6, 3) := by decide +kernel
theorem dX1_many_30 : decode cX1_many 30 = .ok (.ldc 55, 2) := by decide +kernel
theorem dX1_many_32 : decode cX1_many 32 = .ok (.ireturn, 1) := by decide +kernel
theorem dX1_many_33 : decode cX1_many 33 = .ok (.iload_n 2, 1) := by decide +kernel
theorem dX1_many_34 : decode cX1_many 34 = .ok (.iconst 4, 1) := by decide +kernel
theorem dX1_many_35 : decode cX1_many 35 = .ok (.if_icmp .ne 15, 3) := by decide +kernel
theorem dX1_many_38 : decode cX1_many 38 = .ok (.aload_n 0, 1) := by decide +kernel
theorem dX1_many_39 : decode cX1_many 39 = .ok (.getfield 10, 3) := by decide +kernel
theorem dX1_many_42 : decode cX1_many 42 = .ok (.iload_n 1, 1) := by decide +kernel
theorem dX1_many_43 : decode cX1_many 43 = .ok (.iconst 0, 1) := by decide +kernel
theorem dX1_many_44 : decode cX1_many 44 = .ok (.iconst 3, 1) := by decide +kernel
theorem dX1_many_45 : decode cX1_many 45 = .ok (.iload_n 3, 1) := by decide +kernel
theorem dX1_many_46 : decode cX1_many 46 = .ok (.invokevirtual 76, 3) := by decide +kernel
theorem dX1_many_49 : decode cX1_many 49 = .ok (.ireturn, 1) := by decide +kernel
theorem dX1_many_50 : decode cX1_many 50 = .ok (.iload_n 2, 1) := by decide +kernel
theorem dX1_many_51 : decode cX1_many 51 = .ok (.invokestatic 68, 3) := by decide +kernel
theorem dX1_many_54 : decode cX1_many 54 = .ok (.istore 4, 2) := by decide +kernel
theorem dX1_many_56 : decode cX1_many 56 = .ok (.aload_n 0, 1) := by decide +kernel
theorem dX1_many_57 : decode cX1_many 57 = .ok (.getfield 10, 3) := by decide +kernel
theorem dX1_many_60 : decode cX1_many 60 = .ok (.iload_n 1, 1) := by decide +kernel
theorem dX1_many_61 : decode cX1_many 61 = .ok (.iload 4, 2) := by decide +kernel
theorem dX1_many_63 : decode cX1_many 63 = .ok (.iload 4, 2) := by decide +kernel
theorem dX1_many_65 : decode cX1_many 65 = .ok (.iload_n 3, 1) := by decide +kernel
theorem dX1_many_66 : decode cX1_many 66 = .ok (.invokevirtual 76, 3) := by decide +kernel
theorem dX1_many_69 : decode cX1_many 69 = .ok (.ireturn, 1) := by decide +kernel
theorem dX1_points_0 : decode cX1_points 0 = .ok (.aload_n 0, 1) := by decide +kernel
theorem dX1_points_1 : decode cX1_points 1 = .ok (.getfield 10, 3) := by decide +kernel
theorem dX1_points_4 : decode cX1_points 4 = .ok (.iload_n 1, 1) := by decide +kernel
theorem dX1_points_5 : decode cX1_points 5 = .ok (.invokevirtual 64, 3) := by decide +kernel
theorem dX1_points_8 : decode cX1_points 8 = .ok (.ifCond .ne 6, 3) := by decide +kernel
theorem dX1_points_11 : decode cX1_points 11 = .ok (.ldc 55, 2) := by decide +kernel
theorem dX1_points_13 : decode cX1_points 13 = .ok (.ireturn, 1) := by decide +kernel
theorem dX1_points_14 : decode cX1_points 14 = .ok (.aload_n 0, 1) := by decide +kernel
theorem dX1_points_15 : decode cX1_points 15 = .ok (.getfield 10, 3) := by decide +kernel
theorem dX1_points_18 : decode cX1_points 18 = .ok (.iload_n 1, 1) := by decide +kernel
theorem dX1_points_19 : decode cX1_points 19 = .ok (.getstatic 80, 3) := by decide +kernel
theorem dX1_points_22 : decode cX1_points 22 = .ok (.invokevirtual 84, 3) := by decide +kernel
theorem dX1_points_25 : decode cX1_points 25 = .ok (.bipush 100, 2) := by decide +kernel
theorem dX1_points_27 : decode cX1_points 27 = .ok (.iadd, 1) := by decide +kernel
theorem dX1_points_28 : decode cX1_points 28 = .ok (.ireturn, 1) := by decide +kernel
theorem dX1_kindOf_0 : decode cX1_kindOf 0 = .ok (.iload_n 1, 1) := by decide +kernel
theorem dX1_kindOf_1 : decode cX1_kindOf 1 = .ok (.ifCond .lt 9, 3) := by decide +kernel
theorem dX1_kindOf_4 : decode cX1_kindOf 4 = .ok (.iload_n 1, 1) := by decide +kernel
theorem dX1_kindOf_5 : decode cX1_kindOf 5 = .ok (.bipush 10, 2) := by decide +kernel
theorem dX1_kindOf_7 : decode cX1_kindOf 7 = .ok (.if_icmp .lt 6, 3) := by decide +kernel
theorem dX1_kindOf_10 : decode cX1_kindOf 10 = .ok (.ldc 55, 2) := by decide +kernel
theorem dX1_kindOf_12 : decode cX1_kindOf 12 = .ok (.ireturn, 1) := by decide +kernel
theorem dX1_kindOf_13 : decode cX1_kindOf 13 = .ok (.iload_n 2, 1) := by decide +kernel
theorem dX1_kindOf_14 : decode cX1_kindOf 14 = .ok (.tableswitch 86 0 4 #[34, 40, 50, 67, 77], 34) := by decide +kernel
theorem dX1_kindOf_48 : decode cX1_kindOf 48 = .ok (.getstatic 88, 3) := by decide +kernel
theorem dX1_kindOf_51 : decode cX1_kindOf 51 = .ok (.iload_n 1, 1) := by decide +kernel
theorem dX1_kindOf_52 : decode cX1_kindOf 52 = .ok (.iaload, 1) := by decide +kernel
theorem dX1_kindOf_53 : decode cX1_kindOf 53 = .ok (.ireturn, 1) := by decide +kernel
theorem dX1_kindOf_54 : decode cX1_kindOf 54 = .ok (.aload_n 0, 1) := by decide +kernel
theorem dX1_kindOf_55 : decode cX1_kindOf 55 = .ok (.getfield 10, 3) := by decide +kernel
theorem dX1_kindOf_58 : decode cX1_kindOf 58 = .ok (.getfield 91, 3) := by decide +kernel
theorem dX1_kindOf_61 : decode cX1_kindOf 61 = .ok (.iload_n 1, 1) := by decide +kernel
theorem dX1_kindOf_62 : decode cX1_kindOf 62 = .ok (.iaload, 1) := by decide +kernel
theorem dX1_kindOf_63 : decode cX1_kindOf 63 = .ok (.ireturn, 1) := by decide +kernel
theorem dX1_kindOf_64 : decode cX1_kindOf 64 = .ok (.aload_n 0, 1) := by decide +kernel
theorem dX1_kindOf_65 : decode cX1_kindOf 65 = .ok (.getfield 10, 3) := by decide +kernel
theorem dX1_kindOf_68 : decode cX1_kindOf 68 = .ok (.iload_n 1, 1) := by decide +kernel
theorem dX1_kindOf_69 : decode cX1_kindOf 69 = .ok (.invokevirtual 94, 3) := by decide +kernel
theorem dX1_kindOf_72 : decode cX1_kindOf 72 = .ok (.ifCond .eq 7, 3) := by decide +kernel
theorem dX1_kindOf_75 : decode cX1_kindOf 75 = .ok (.iconst 1, 1) := by decide +kernel
theorem dX1_kindOf_76 : decode cX1_kindOf 76 = .ok (.goto 4, 3) := by decide +kernel
theorem dX1_kindOf_79 : decode cX1_kindOf 79 = .ok (.iconst 0, 1) := by decide +kernel
theorem dX1_kindOf_80 : decode cX1_kindOf 80 = .ok (.ireturn, 1) := by decide +kernel
theorem dX1_kindOf_81 : decode cX1_kindOf 81 = .ok (.aload_n 0, 1) := by decide +kernel
theorem dX1_kindOf_82 : decode cX1_kindOf 82 = .ok (.getfield 10, 3) := by decide +kernel
theorem dX1_kindOf_85 : decode cX1_kindOf 85 = .ok (.getfield 97, 3) := by decide +kernel
theorem dX1_kindOf_88 : decode cX1_kindOf 88 = .ok (.iload_n 1, 1) := by decide +kernel
theorem dX1_kindOf_89 : decode cX1_kindOf 89 = .ok (.iaload, 1) := by decide +kernel
theorem dX1_kindOf_90 : decode cX1_kindOf 90 = .ok (.ireturn, 1) := by decide +kernel
theorem dX1_kindOf_91 : decode cX1_kindOf 91 = .ok (.aload_n 0, 1) := by decide +kernel
theorem dX1_kindOf_92 : decode cX1_kindOf 92 = .ok (.getfield 10, 3) := by decide +kernel
theorem dX1_kindOf_95 : decode cX1_kindOf 95 = .ok (.iload_n 1, 1) := by decide +kernel
theorem dX1_kindOf_96 : decode cX1_kindOf 96 = .ok (.invokevirtual 100, 3) := by decide +kernel
theorem dX1_kindOf_99 : decode cX1_kindOf 99 = .ok (.ireturn, 1) := by decide +kernel
theorem dX1_kindOf_100 : decode cX1_kindOf 100 = .ok (.ldc 55, 2) := by decide +kernel
theorem dX1_kindOf_102 : decode cX1_kindOf 102 = .ok (.ireturn, 1) := by decide +kernel
theorem dX1_turn_0 : decode cX1_turn 0 = .ok (.iload_n 1, 1) := by decide +kernel
theorem dX1_turn_1 : decode cX1_turn 1 = .ok (.tableswitch 99 0 6 #[43, 51, 59, 67, 75, 83, 91], 43) := by decide +kernel
theorem dX1_turn_44 : decode cX1_turn 44 = .ok (.aload_n 0, 1) := by decide +kernel
theorem dX1_turn_45 : decode cX1_turn 45 = .ok (.getfield 10, 3) := by decide +kernel
theorem dX1_turn_48 : decode cX1_turn 48 = .ok (.getfield 103, 3) := by decide +kernel
theorem dX1_turn_51 : decode cX1_turn 51 = .ok (.ireturn, 1) := by decide +kernel
theorem dX1_turn_52 : decode cX1_turn 52 = .ok (.aload_n 0, 1) := by decide +kernel
theorem dX1_turn_53 : decode cX1_turn 53 = .ok (.getfield 10, 3) := by decide +kernel
theorem dX1_turn_56 : decode cX1_turn 56 = .ok (.getfield 106, 3) := by decide +kernel
theorem dX1_turn_59 : decode cX1_turn 59 = .ok (.ireturn, 1) := by decide +kernel
theorem dX1_turn_60 : decode cX1_turn 60 = .ok (.aload_n 0, 1) := by decide +kernel
theorem dX1_turn_61 : decode cX1_turn 61 = .ok (.getfield 10, 3) := by decide +kernel
theorem dX1_turn_64 : decode cX1_turn 64 = .ok (.getfield 109, 3) := by decide +kernel
theorem dX1_turn_67 : decode cX1_turn 67 = .ok (.ireturn, 1) := by decide +kernel
theorem dX1_turn_68 : decode cX1_turn 68 = .ok (.aload_n 0, 1) := by decide +kernel
theorem dX1_turn_69 : decode cX1_turn 69 = .ok (.getfield 10, 3) := by decide +kernel
theorem dX1_turn_72 : decode cX1_turn 72 = .ok (.getfield 112, 3) := by decide +kernel
theorem dX1_turn_75 : decode cX1_turn 75 = .ok (.ireturn, 1) := by decide +kernel
theorem dX1_turn_76 : decode cX1_turn 76 = .ok (.aload_n 0, 1) := by decide +kernel
theorem dX1_turn_77 : decode cX1_turn 77 = .ok (.getfield 10, 3) := by decide +kernel
theorem dX1_turn_80 : decode cX1_turn 80 = .ok (.getfield 115, 3) := by decide +kernel
theorem dX1_turn_83 : decode cX1_turn 83 = .ok (.ireturn, 1) := by decide +kernel
theorem dX1_turn_84 : decode cX1_turn 84 = .ok (.aload_n 0, 1) := by decide +kernel
theorem dX1_turn_85 : decode cX1_turn 85 = .ok (.getfield 10, 3) := by decide +kernel
theorem dX1_turn_88 : decode cX1_turn 88 = .ok (.invokevirtual 118, 3) := by decide +kernel
theorem dX1_turn_91 : decode cX1_turn 91 = .ok (.ireturn, 1) := by decide +kernel
theorem dX1_turn_92 : decode cX1_turn 92 = .ok (.aload_n 0, 1) := by decide +kernel
theorem dX1_turn_93 : decode cX1_turn 93 = .ok (.getfield 10, 3) := by decide +kernel
theorem dX1_turn_96 : decode cX1_turn 96 = .ok (.getfield 121, 3) := by decide +kernel
theorem dX1_turn_99 : decode cX1_turn 99 = .ok (.ireturn, 1) := by decide +kernel
theorem dX1_turn_100 : decode cX1_turn 100 = .ok (.ldc 55, 2) := by decide +kernel
theorem dX1_turn_102 : decode cX1_turn 102 = .ok (.ireturn, 1) := by decide +kernel
theorem dX1_purse_0 : decode cX1_purse 0 = .ok (.aload_n 0, 1) := by decide +kernel
theorem dX1_purse_1 : decode cX1_purse 1 = .ok (.getfield 10, 3) := by decide +kernel
theorem dX1_purse_4 : decode cX1_purse 4 = .ok (.getfield 106, 3) := by decide +kernel
theorem dX1_purse_7 : decode cX1_purse 7 = .ok (.istore_n 1, 1) := by decide +kernel
theorem dX1_purse_8 : decode cX1_purse 8 = .ok (.iconst 0, 1) := by decide +kernel
theorem dX1_purse_9 : decode cX1_purse 9 = .ok (.istore_n 2, 1) := by decide +kernel
theorem dX1_purse_10 : decode cX1_purse 10 = .ok (.iload_n 2, 1) := by decide +kernel
theorem dX1_purse_11 : decode cX1_purse 11 = .ok (.iconst 2, 1) := by decide +kernel
theorem dX1_purse_12 : decode cX1_purse 12 = .ok (.if_icmp .gt 35, 3) := by decide +kernel
theorem dX1_purse_15 : decode cX1_purse 15 = .ok (.iload_n 1, 1) := by decide +kernel
theorem dX1_purse_16 : decode cX1_purse 16 = .ok (.getstatic 124, 3) := by decide +kernel
theorem dX1_purse_19 : decode cX1_purse 19 = .ok (.iload_n 2, 1) := by decide +kernel
theorem dX1_purse_20 : decode cX1_purse 20 = .ok (.iaload, 1) := by decide +kernel
theorem dX1_purse_21 : decode cX1_purse 21 = .ok (.aload_n 0, 1) := by decide +kernel
theorem dX1_purse_22 : decode cX1_purse 22 = .ok (.getfield 10, 3) := by decide +kernel
theorem dX1_purse_25 : decode cX1_purse 25 = .ok (.aload_n 0, 1) := by decide +kernel
theorem dX1_purse_26 : decode cX1_purse 26 = .ok (.getfield 10, 3) := by decide +kernel
theorem dX1_purse_29 : decode cX1_purse 29 = .ok (.getfield 103, 3) := by decide +kernel
theorem dX1_purse_32 : decode cX1_purse 32 = .ok (.iconst 2, 1) := by decide +kernel
theorem dX1_purse_33 : decode cX1_purse 33 = .ok (.iconst 2, 1) := by decide +kernel
theorem dX1_purse_34 : decode cX1_purse 34 = .ok (.iload_n 2, 1) := by decide +kernel
theorem dX1_purse_35 : decode cX1_purse 35 = .ok (.invokevirtual 76, 3) := by decide +kernel
theorem dX1_purse_38 : decode cX1_purse 38 = .ok (.imul, 1) := by decide +kernel
theorem dX1_purse_39 : decode cX1_purse 39 = .ok (.iadd, 1) := by decide +kernel
theorem dX1_purse_40 : decode cX1_purse 40 = .ok (.istore_n 1, 1) := by decide +kernel
theorem dX1_purse_41 : decode cX1_purse 41 = .ok (.iinc 2 1, 3) := by decide +kernel
theorem dX1_purse_44 : decode cX1_purse 44 = .ok (.goto (-34), 3) := by decide +kernel
theorem dX1_purse_47 : decode cX1_purse 47 = .ok (.iload_n 1, 1) := by decide +kernel
theorem dX1_purse_48 : decode cX1_purse 48 = .ok (.ireturn, 1) := by decide +kernel
theorem dX1_outcome_0 : decode cX1_outcome 0 = .ok (.iload_n 1, 1) := by decide +kernel
theorem dX1_outcome_1 : decode cX1_outcome 1 = .ok (.ifCond .lt 8, 3) := by decide +kernel
theorem dX1_outcome_4 : decode cX1_outcome 4 = .ok (.iload_n 1, 1) := by decide +kernel
theorem dX1_outcome_5 : decode cX1_outcome 5 = .ok (.iconst 4, 1) := by decide +kernel
theorem dX1_outcome_6 : decode cX1_outcome 6 = .ok (.if_icmp .le 6, 3) := by decide +kernel
theorem dX1_outcome_9 : decode cX1_outcome 9 = .ok (.ldc 55, 2) := by decide +kernel
theorem dX1_outcome_11 : decode cX1_outcome 11 = .ok (.ireturn, 1) := by decide +kernel
theorem dX1_outcome_12 : decode cX1_outcome 12 = .ok (.aload_n 0, 1) := by decide +kernel
theorem dX1_outcome_13 : decode cX1_outcome 13 = .ok (.invokevirtual 35, 3) := by decide +kernel
theorem dX1_outcome_16 : decode cX1_outcome 16 = .ok (.astore_n 2, 1) := by decide +kernel
theorem dX1_outcome_17 : decode cX1_outcome 17 = .ok (.aload_n 2, 1) := by decide +kernel
theorem dX1_outcome_18 : decode cX1_outcome 18 = .ok (.bipush 60, 2) := by decide +kernel
theorem dX1_outcome_20 : decode cX1_outcome 20 = .ok (.invokevirtual 61, 3) := by decide +kernel
theorem dX1_outcome_23 : decode cX1_outcome 23 = .ok (.istore_n 3, 1) := by decide +kernel
theorem dX1_outcome_24 : decode cX1_outcome 24 = .ok (.aload_n 2, 1) := by decide +kernel
theorem dX1_outcome_25 : decode cX1_outcome 25 = .ok (.invokevirtual 127, 3) := by decide +kernel
theorem dX1_outcome_28 : decode cX1_outcome 28 = .ok (.istore 4, 2) := by decide +kernel
theorem dX1_outcome_30 : decode cX1_outcome 30 = .ok (.iload_n 1, 1) := by decide +kernel
theorem dX1_outcome_31 : decode cX1_outcome 31 = .ok (.tableswitch 60 0 3 #[29, 32, 45, 47], 29) := by decide +kernel
theorem dX1_outcome_60 : decode cX1_outcome 60 = .ok (.iload 4, 2) := by decide +kernel
theorem dX1_outcome_62 : decode cX1_outcome 62 = .ok (.ireturn, 1) := by decide +kernel
theorem dX1_outcome_63 : decode cX1_outcome 63 = .ok (.aload_n 2, 1) := by decide +kernel
theorem dX1_outcome_64 : decode cX1_outcome 64 = .ok (.iload 4, 2) := by decide +kernel
theorem dX1_outcome_66 : decode cX1_outcome 66 = .ok (.getstatic 80, 3) := by decide +kernel
theorem dX1_outcome_69 : decode cX1_outcome 69 = .ok (.invokevirtual 84, 3) := by decide +kernel
theorem dX1_outcome_72 : decode cX1_outcome 72 = .ok (.bipush 100, 2) := by decide +kernel
theorem dX1_outcome_74 : decode cX1_outcome 74 = .ok (.iadd, 1) := by decide +kernel
theorem dX1_outcome_75 : decode cX1_outcome 75 = .ok (.ireturn, 1) := by decide +kernel
theorem dX1_outcome_76 : decode cX1_outcome 76 = .ok (.iload_n 3, 1) := by decide +kernel
theorem dX1_outcome_77 : decode cX1_outcome 77 = .ok (.ireturn, 1) := by decide +kernel
theorem dX1_outcome_78 : decode cX1_outcome 78 = .ok (.aload_n 2, 1) := by decide +kernel
theorem dX1_outcome_79 : decode cX1_outcome 79 = .ok (.getfield 56, 3) := by decide +kernel
theorem dX1_outcome_82 : decode cX1_outcome 82 = .ok (.ifCond .eq 7, 3) := by decide +kernel
theorem dX1_outcome_85 : decode cX1_outcome 85 = .ok (.iconst 1, 1) := by decide +kernel
theorem dX1_outcome_86 : decode cX1_outcome 86 = .ok (.goto 4, 3) := by decide +kernel
theorem dX1_outcome_89 : decode cX1_outcome 89 = .ok (.iconst 0, 1) := by decide +kernel
theorem dX1_outcome_90 : decode cX1_outcome 90 = .ok (.ireturn, 1) := by decide +kernel
theorem dX1_outcome_91 : decode cX1_outcome 91 = .ok (.aload_n 2, 1) := by decide +kernel
theorem dX1_outcome_92 : decode cX1_outcome 92 = .ok (.getfield 91, 3) := by decide +kernel
theorem dX1_outcome_95 : decode cX1_outcome 95 = .ok (.iconst 5, 1) := by decide +kernel
theorem dX1_outcome_96 : decode cX1_outcome 96 = .ok (.iaload, 1) := by decide +kernel
theorem dX1_outcome_97 : decode cX1_outcome 97 = .ok (.ireturn, 1) := by decide +kernel
theorem dX1_advice_0 : decode cX1_advice 0 = .ok (.iload_n 1, 1) := by decide +kernel
theorem dX1_advice_1 : decode cX1_advice 1 = .ok (.ifCond .lt 8, 3) := by decide +kernel
theorem dX1_advice_4 : decode cX1_advice 4 = .ok (.iload_n 1, 1) := by decide +kernel
theorem dX1_advice_5 : decode cX1_advice 5 = .ok (.iconst 1, 1) := by decide +kernel
theorem dX1_advice_6 : decode cX1_advice 6 = .ok (.if_icmp .le 6, 3) := by decide +kernel
theorem dX1_advice_9 : decode cX1_advice 9 = .ok (.ldc 55, 2) := by decide +kernel
theorem dX1_advice_11 : decode cX1_advice 11 = .ok (.ireturn, 1) := by decide +kernel
theorem dX1_advice_12 : decode cX1_advice 12 = .ok (.aload_n 0, 1) := by decide +kernel
theorem dX1_advice_13 : decode cX1_advice 13 = .ok (.getfield 10, 3) := by decide +kernel
theorem dX1_advice_16 : decode cX1_advice 16 = .ok (.invokevirtual 118, 3) := by decide +kernel
theorem dX1_advice_19 : decode cX1_advice 19 = .ok (.ifCond .ne 6, 3) := by decide +kernel
theorem dX1_advice_22 : decode cX1_advice 22 = .ok (.ldc 75, 2) := by decide +kernel
theorem dX1_advice_24 : decode cX1_advice 24 = .ok (.ireturn, 1) := by decide +kernel
theorem dX1_advice_25 : decode cX1_advice 25 = .ok (.bipush 10, 2) := by decide +kernel
theorem dX1_advice_27 : decode cX1_advice 27 = .ok (.istore_n 2, 1) := by decide +kernel
theorem dX1_advice_28 : decode cX1_advice 28 = .ok (.iconst 0, 1) := by decide +kernel
theorem dX1_advice_29 : decode cX1_advice 29 = .ok (.istore_n 3, 1) := by decide +kernel
theorem dX1_advice_30 : decode cX1_advice 30 = .ok (.iconst 0, 1) := by decide +kernel
theorem dX1_advice_31 : decode cX1_advice 31 = .ok (.istore 4, 2) := by decide +kernel
theorem dX1_advice_33 : decode cX1_advice 33 = .ok (.iload 4, 2) := by decide +kernel
theorem dX1_advice_35 : decode cX1_advice 35 = .ok (.bipush 10, 2) := by decide +kernel
theorem dX1_advice_37 : decode cX1_advice 37 = .ok (.if_icmp .ge 47, 3) := by decide +kernel
theorem dX1_advice_40 : decode cX1_advice 40 = .ok (.aload_n 0, 1) := by decide +kernel
theorem dX1_advice_41 : decode cX1_advice 41 = .ok (.getfield 10, 3) := by decide +kernel
theorem dX1_advice_44 : decode cX1_advice 44 = .ok (.iload 4, 2) := by decide +kernel
theorem dX1_advice_46 : decode cX1_advice 46 = .ok (.invokevirtual 100, 3) := by decide +kernel
theorem dX1_advice_49 : decode cX1_advice 49 = .ok (.ifCond .ne 29, 3) := by decide +kernel
theorem dX1_advice_52 : decode cX1_advice 52 = .ok (.aload_n 0, 1) := by decide +kernel
theorem dX1_advice_53 : decode cX1_advice 53 = .ok (.iload 4, 2) := by decide +kernel
theorem dX1_advice_55 : decode cX1_advice 55 = .ok (.invokevirtual 130, 3) := by decide +kernel
theorem dX1_advice_58 : decode cX1_advice 58 = .ok (.istore 5, 2) := by decide +kernel
theorem dX1_advice_60 : decode cX1_advice 60 = .ok (.iload_n 2, 1) := by decide +kernel
theorem dX1_advice_61 : decode cX1_advice 61 = .ok (.bipush 10, 2) := by decide +kernel
theorem dX1_advice_63 : decode cX1_advice 63 = .ok (.if_icmp .eq 9, 3) := by decide +kernel
theorem dX1_advice_66 : decode cX1_advice 66 = .ok (.iload 5, 2) := by decide +kernel
theorem dX1_advice_68 : decode cX1_advice 68 = .ok (.iload_n 3, 1) := by decide +kernel
theorem dX1_advice_69 : decode cX1_advice 69 = .ok (.if_icmp .le 9, 3) := by decide +kernel
theorem dX1_advice_72 : decode cX1_advice 72 = .ok (.iload 4, 2) := by decide +kernel
theorem dX1_advice_74 : decode cX1_advice 74 = .ok (.istore_n 2, 1) := by decide +kernel
theorem dX1_advice_75 : decode cX1_advice 75 = .ok (.iload 5, 2) := by decide +kernel
theorem dX1_advice_77 : decode cX1_advice 77 = .ok (.istore_n 3, 1) := by decide +kernel
theorem dX1_advice_78 : decode cX1_advice 78 = .ok (.iinc 4 1, 3) := by decide +kernel
theorem dX1_advice_81 : decode cX1_advice 81 = .ok (.goto (-48), 3) := by decide +kernel
theorem dX1_advice_84 : decode cX1_advice 84 = .ok (.aload_n 0, 1) := by decide +kernel
theorem dX1_advice_85 : decode cX1_advice 85 = .ok (.bipush 10, 2) := by decide +kernel
theorem dX1_advice_87 : decode cX1_advice 87 = .ok (.invokevirtual 130, 3) := by decide +kernel
theorem dX1_advice_90 : decode cX1_advice 90 = .ok (.istore 4, 2) := by decide +kernel
theorem dX1_advice_92 : decode cX1_advice 92 = .ok (.iload 4, 2) := by decide +kernel
theorem dX1_advice_94 : decode cX1_advice 94 = .ok (.iload_n 3, 1) := by decide +kernel
theorem dX1_advice_95 : decode cX1_advice 95 = .ok (.if_icmp .le 9, 3) := by decide +kernel
theorem dX1_advice_98 : decode cX1_advice 98 = .ok (.bipush 10, 2) := by decide +kernel
theorem dX1_advice_100 : decode cX1_advice 100 = .ok (.istore_n 2, 1) := by decide +kernel
theorem dX1_advice_101 : decode cX1_advice 101 = .ok (.iload 4, 2) := by decide +kernel
theorem dX1_advice_103 : decode cX1_advice 103 = .ok (.istore_n 3, 1) := by decide +kernel
theorem dX1_advice_104 : decode cX1_advice 104 = .ok (.iload_n 1, 1) := by decide +kernel
theorem dX1_advice_105 : decode cX1_advice 105 = .ok (.ifCond .ne 7, 3) := by decide +kernel
theorem dX1_advice_108 : decode cX1_advice 108 = .ok (.iload_n 2, 1) := by decide +kernel
theorem dX1_advice_109 : decode cX1_advice 109 = .ok (.goto 7, 3) := by decide +kernel
theorem dX1_advice_112 : decode cX1_advice 112 = .ok (.iload_n 3, 1) := by decide +kernel
theorem dX1_advice_113 : decode cX1_advice 113 = .ok (.bipush 100, 2) := by decide +kernel
theorem dX1_advice_115 : decode cX1_advice 115 = .ok (.iadd, 1) := by decide +kernel
theorem dX1_advice_116 : decode cX1_advice 116 = .ok (.ireturn, 1) := by decide +kernel
theorem dX1_wealth_0 : decode cX1_wealth 0 = .ok (.aload_n 0, 1) := by decide +kernel
theorem dX1_wealth_1 : decode cX1_wealth 1 = .ok (.getfield 10, 3) := by decide +kernel
theorem dX1_wealth_4 : decode cX1_wealth 4 = .ok (.iload_n 1, 1) := by decide +kernel
theorem dX1_wealth_5 : decode cX1_wealth 5 = .ok (.invokevirtual 64, 3) := by decide +kernel
theorem dX1_wealth_8 : decode cX1_wealth 8 = .ok (.ifCond .ne 6, 3) := by decide +kernel
theorem dX1_wealth_11 : decode cX1_wealth 11 = .ok (.ldc 55, 2) := by decide +kernel
theorem dX1_wealth_13 : decode cX1_wealth 13 = .ok (.ireturn, 1) := by decide +kernel
theorem dX1_wealth_14 : decode cX1_wealth 14 = .ok (.aload_n 0, 1) := by decide +kernel
theorem dX1_wealth_15 : decode cX1_wealth 15 = .ok (.getfield 10, 3) := by decide +kernel
theorem dX1_wealth_18 : decode cX1_wealth 18 = .ok (.iload_n 1, 1) := by decide +kernel
theorem dX1_wealth_19 : decode cX1_wealth 19 = .ok (.iconst 0, 1) := by decide +kernel
theorem dX1_wealth_20 : decode cX1_wealth 20 = .ok (.iconst 3, 1) := by decide +kernel
theorem dX1_wealth_21 : decode cX1_wealth 21 = .ok (.bipush 10, 2) := by decide +kernel
theorem dX1_wealth_23 : decode cX1_wealth 23 = .ok (.invokevirtual 76, 3) := by decide +kernel
theorem dX1_wealth_26 : decode cX1_wealth 26 = .ok (.istore_n 2, 1) := by decide +kernel
theorem dX1_wealth_27 : decode cX1_wealth 27 = .ok (.iload_n 2, 1) := by decide +kernel
theorem dX1_wealth_28 : decode cX1_wealth 28 = .ok (.ifCond .gt 6, 3) := by decide +kernel
theorem dX1_wealth_31 : decode cX1_wealth 31 = .ok (.ldc 75, 2) := by decide +kernel
theorem dX1_wealth_33 : decode cX1_wealth 33 = .ok (.ireturn, 1) := by decide +kernel
theorem dX1_wealth_34 : decode cX1_wealth 34 = .ok (.aload_n 0, 1) := by decide +kernel
theorem dX1_wealth_35 : decode cX1_wealth 35 = .ok (.getfield 10, 3) := by decide +kernel
theorem dX1_wealth_38 : decode cX1_wealth 38 = .ok (.iload_n 1, 1) := by decide +kernel
theorem dX1_wealth_39 : decode cX1_wealth 39 = .ok (.getstatic 124, 3) := by decide +kernel
theorem dX1_wealth_42 : decode cX1_wealth 42 = .ok (.invokevirtual 84, 3) := by decide +kernel
theorem dX1_wealth_45 : decode cX1_wealth 45 = .ok (.istore_n 3, 1) := by decide +kernel
theorem dX1_wealth_46 : decode cX1_wealth 46 = .ok (.iload_n 3, 1) := by decide +kernel
theorem dX1_wealth_47 : decode cX1_wealth 47 = .ok (.i2f, 1) := by decide +kernel
theorem dX1_wealth_48 : decode cX1_wealth 48 = .ok (.iload_n 2, 1) := by decide +kernel
theorem dX1_wealth_49 : decode cX1_wealth 49 = .ok (.i2f, 1) := by decide +kernel
theorem dX1_wealth_50 : decode cX1_wealth 50 = .ok (.fdiv, 1) := by decide +kernel
theorem dX1_wealth_51 : decode cX1_wealth 51 = .ok (.invokestatic 133, 3) := by decide +kernel
theorem dX1_wealth_54 : decode cX1_wealth 54 = .ok (.ireturn, 1) := by decide +kernel
theorem dX1_count_0 : decode cX1_count 0 = .ok (.iload_n 1, 1) := by decide +kernel
theorem dX1_count_1 : decode cX1_count 1 = .ok (.tableswitch 179 0 20 #[99, 107, 115, 131, 139, 150, 161, 166, 179, 179, 179, 179, 179, 179, 179, 179, 179, 179, 179, 179, 171], 99) := by decide +kernel
theorem dX1_count_100 : decode cX1_count 100 = .ok (.aload_n 0, 1) := by decide +kernel
theorem dX1_count_101 : decode cX1_count 101 = .ok (.getfield 10, 3) := by decide +kernel
theorem dX1_count_104 : decode cX1_count 104 = .ok (.getfield 137, 3) := by decide +kernel
theorem dX1_count_107 : decode cX1_count 107 = .ok (.ireturn, 1) := by decide +kernel
theorem dX1_count_108 : decode cX1_count 108 = .ok (.aload_n 0, 1) := by decide +kernel
theorem dX1_count_109 : decode cX1_count 109 = .ok (.getfield 10, 3) := by decide +kernel
theorem dX1_count_112 : decode cX1_count 112 = .ok (.getfield 140, 3) := by decide +kernel
theorem dX1_count_115 : decode cX1_count 115 = .ok (.ireturn, 1) := by decide +kernel
theorem dX1_count_116 : decode cX1_count 116 = .ok (.aload_n 0, 1) := by decide +kernel
theorem dX1_count_117 : decode cX1_count 117 = .ok (.getfield 10, 3) := by decide +kernel
theorem dX1_count_120 : decode cX1_count 120 = .ok (.getfield 56, 3) := by decide +kernel
theorem dX1_count_123 : decode cX1_count 123 = .ok (.ifCond .eq 7, 3) := by decide +kernel
theorem dX1_count_126 : decode cX1_count 126 = .ok (.iconst 1, 1) := by decide +kernel
theorem dX1_count_127 : decode cX1_count 127 = .ok (.goto 4, 3) := by decide +kernel
theorem dX1_count_130 : decode cX1_count 130 = .ok (.iconst 0, 1) := by decide +kernel
theorem dX1_count_131 : decode cX1_count 131 = .ok (.ireturn, 1) := by decide +kernel
theorem dX1_count_132 : decode cX1_count 132 = .ok (.aload_n 0, 1) := by decide +kernel
theorem dX1_count_133 : decode cX1_count 133 = .ok (.getfield 10, 3) := by decide +kernel
theorem dX1_count_136 : decode cX1_count 136 = .ok (.invokevirtual 143, 3) := by decide +kernel
theorem dX1_count_139 : decode cX1_count 139 = .ok (.ireturn, 1) := by decide +kernel
theorem dX1_count_140 : decode cX1_count 140 = .ok (.aload_n 0, 1) := by decide +kernel
theorem dX1_count_141 : decode cX1_count 141 = .ok (.getfield 10, 3) := by decide +kernel
theorem dX1_count_144 : decode cX1_count 144 = .ok (.getfield 97, 3) := by decide +kernel
theorem dX1_count_147 : decode cX1_count 147 = .ok (.invokestatic 146, 3) := by decide +kernel
theorem dX1_count_150 : decode cX1_count 150 = .ok (.ireturn, 1) := by decide +kernel
theorem dX1_count_151 : decode cX1_count 151 = .ok (.aload_n 0, 1) := by decide +kernel
theorem dX1_count_152 : decode cX1_count 152 = .ok (.getfield 10, 3) := by decide +kernel
theorem dX1_count_155 : decode cX1_count 155 = .ok (.getfield 91, 3) := by decide +kernel
theorem dX1_count_158 : decode cX1_count 158 = .ok (.invokestatic 146, 3) := by decide +kernel
theorem dX1_count_161 : decode cX1_count 161 = .ok (.ireturn, 1) := by decide +kernel
theorem dX1_count_162 : decode cX1_count 162 = .ok (.aload_n 0, 1) := by decide +kernel
theorem dX1_count_163 : decode cX1_count 163 = .ok (.getfield 150, 3) := by decide +kernel
theorem dX1_count_166 : decode cX1_count 166 = .ok (.ireturn, 1) := by decide +kernel
theorem dX1_count_167 : decode cX1_count 167 = .ok (.aload_n 0, 1) := by decide +kernel
theorem dX1_count_168 : decode cX1_count 168 = .ok (.getfield 153, 3) := by decide +kernel
theorem dX1_count_171 : decode cX1_count 171 = .ok (.ireturn, 1) := by decide +kernel
theorem dX1_count_172 : decode cX1_count 172 = .ok (.aload_n 0, 1) := by decide +kernel
theorem dX1_count_173 : decode cX1_count 173 = .ok (.getfield 10, 3) := by decide +kernel
theorem dX1_count_176 : decode cX1_count 176 = .ok (.getfield 27, 3) := by decide +kernel
theorem dX1_count_179 : decode cX1_count 179 = .ok (.ireturn, 1) := by decide +kernel
theorem dX1_count_180 : decode cX1_count 180 = .ok (.ldc 55, 2) := by decide +kernel
theorem dX1_count_182 : decode cX1_count 182 = .ok (.ireturn, 1) := by decide +kernel
theorem dX1_undo_0 : decode cX1_undo 0 = .ok (.aload_n 0, 1) := by decide +kernel
theorem dX1_undo_1 : decode cX1_undo 1 = .ok (.getfield 150, 3) := by decide +kernel
theorem dX1_undo_4 : decode cX1_undo 4 = .ok (.ifCond .le 11, 3) := by decide +kernel
theorem dX1_undo_7 : decode cX1_undo 7 = .ok (.aload_n 0, 1) := by decide +kernel
theorem dX1_undo_8 : decode cX1_undo 8 = .ok (.getfield 150, 3) := by decide +kernel
theorem dX1_undo_11 : decode cX1_undo 11 = .ok (.iconst 4, 1) := by decide +kernel
theorem dX1_undo_12 : decode cX1_undo 12 = .ok (.if_icmp .le 6, 3) := by decide +kernel
theorem dX1_undo_15 : decode cX1_undo 15 = .ok (.ldc 60, 2) := by decide +kernel
theorem dX1_undo_17 : decode cX1_undo 17 = .ok (.ireturn, 1) := by decide +kernel
theorem dX1_undo_18 : decode cX1_undo 18 = .ok (.aload_n 0, 1) := by decide +kernel
theorem dX1_undo_19 : decode cX1_undo 19 = .ok (.dup, 1) := by decide +kernel
theorem dX1_undo_20 : decode cX1_undo 20 = .ok (.getfield 150, 3) := by decide +kernel
theorem dX1_undo_23 : decode cX1_undo 23 = .ok (.iconst 1, 1) := by decide +kernel
theorem dX1_undo_24 : decode cX1_undo 24 = .ok (.isub, 1) := by decide +kernel
theorem dX1_undo_25 : decode cX1_undo 25 = .ok (.putfield 150, 3) := by decide +kernel
theorem dX1_undo_28 : decode cX1_undo 28 = .ok (.aload_n 0, 1) := by decide +kernel
theorem dX1_undo_29 : decode cX1_undo 29 = .ok (.getfield 10, 3) := by decide +kernel
theorem dX1_undo_32 : decode cX1_undo 32 = .ok (.astore_n 1, 1) := by decide +kernel
theorem dX1_undo_33 : decode cX1_undo 33 = .ok (.aload_n 0, 1) := by decide +kernel
theorem dX1_undo_34 : decode cX1_undo 34 = .ok (.aload_n 0, 1) := by decide +kernel
theorem dX1_undo_35 : decode cX1_undo 35 = .ok (.getfield 19, 3) := by decide +kernel
theorem dX1_undo_38 : decode cX1_undo 38 = .ok (.aload_n 0, 1) := by decide +kernel
theorem dX1_undo_39 : decode cX1_undo 39 = .ok (.getfield 150, 3) := by decide +kernel
theorem dX1_undo_42 : decode cX1_undo 42 = .ok (.aaload, 1) := by decide +kernel
theorem dX1_undo_43 : decode cX1_undo 43 = .ok (.putfield 10, 3) := by decide +kernel
theorem dX1_undo_46 : decode cX1_undo 46 = .ok (.aload_n 0, 1) := by decide +kernel
theorem dX1_undo_47 : decode cX1_undo 47 = .ok (.getfield 19, 3) := by decide +kernel
theorem dX1_undo_50 : decode cX1_undo 50 = .ok (.aload_n 0, 1) := by decide +kernel
theorem dX1_undo_51 : decode cX1_undo 51 = .ok (.getfield 150, 3) := by decide +kernel
theorem dX1_undo_54 : decode cX1_undo 54 = .ok (.aload_n 1, 1) := by decide +kernel
theorem dX1_undo_55 : decode cX1_undo 55 = .ok (.aastore, 1) := by decide +kernel
theorem dX1_undo_56 : decode cX1_undo 56 = .ok (.aload_n 0, 1) := by decide +kernel
theorem dX1_undo_57 : decode cX1_undo 57 = .ok (.getfield 150, 3) := by decide +kernel
theorem dX1_undo_60 : decode cX1_undo 60 = .ok (.ireturn, 1) := by decide +kernel
theorem dX1_type_0 : decode cX1_type 0 = .ok (.iload_n 1, 1) := by decide +kernel
theorem dX1_type_1 : decode cX1_type 1 = .ok (.bipush 32, 2) := by decide +kernel
theorem dX1_type_3 : decode cX1_type 3 = .ok (.if_icmp .lt 9, 3) := by decide +kernel
theorem dX1_type_6 : decode cX1_type 6 = .ok (.iload_n 1, 1) := by decide +kernel
theorem dX1_type_7 : decode cX1_type 7 = .ok (.bipush 126, 2) := by decide +kernel
theorem dX1_type_9 : decode cX1_type 9 = .ok (.if_icmp .le 6, 3) := by decide +kernel
theorem dX1_type_12 : decode cX1_type 12 = .ok (.ldc 55, 2) := by decide +kernel
theorem dX1_type_14 : decode cX1_type 14 = .ok (.ireturn, 1) := by decide +kernel
theorem dX1_type_15 : decode cX1_type 15 = .ok (.aload_n 0, 1) := by decide +kernel
theorem dX1_type_16 : decode cX1_type 16 = .ok (.getfield 153, 3) := by decide +kernel
theorem dX1_type_19 : decode cX1_type 19 = .ok (.bipush 60, 2) := by decide +kernel
theorem dX1_type_21 : decode cX1_type 21 = .ok (.if_icmp .lt 6, 3) := by decide +kernel
theorem dX1_type_24 : decode cX1_type 24 = .ok (.ldc 156, 2) := by decide +kernel
theorem dX1_type_26 : decode cX1_type 26 = .ok (.ireturn, 1) := by decide +kernel
theorem dX1_type_27 : decode cX1_type 27 = .ok (.aload_n 0, 1) := by decide +kernel
theorem dX1_type_28 : decode cX1_type 28 = .ok (.getfield 23, 3) := by decide +kernel
theorem dX1_type_31 : decode cX1_type 31 = .ok (.aload_n 0, 1) := by decide +kernel
theorem dX1_type_32 : decode cX1_type 32 = .ok (.getfield 153, 3) := by decide +kernel
theorem dX1_type_35 : decode cX1_type 35 = .ok (.iload_n 1, 1) := by decide +kernel
theorem dX1_type_36 : decode cX1_type 36 = .ok (.i2c, 1) := by decide +kernel
theorem dX1_type_37 : decode cX1_type 37 = .ok (.castore, 1) := by decide +kernel
theorem dX1_type_38 : decode cX1_type 38 = .ok (.aload_n 0, 1) := by decide +kernel
theorem dX1_type_39 : decode cX1_type 39 = .ok (.dup, 1) := by decide +kernel
theorem dX1_type_40 : decode cX1_type 40 = .ok (.getfield 153, 3) := by decide +kernel
theorem dX1_type_43 : decode cX1_type 43 = .ok (.iconst 1, 1) := by decide +kernel
theorem dX1_type_44 : decode cX1_type 44 = .ok (.iadd, 1) := by decide +kernel
theorem dX1_type_45 : decode cX1_type 45 = .ok (.putfield 153, 3) := by decide +kernel
theorem dX1_type_48 : decode cX1_type 48 = .ok (.aload_n 0, 1) := by decide +kernel
theorem dX1_type_49 : decode cX1_type 49 = .ok (.getfield 153, 3) := by decide +kernel
theorem dX1_type_52 : decode cX1_type 52 = .ok (.ireturn, 1) := by decide +kernel
theorem dX1_clearText_0 : decode cX1_clearText 0 = .ok (.aload_n 0, 1) := by decide +kernel
theorem dX1_clearText_1 : decode cX1_clearText 1 = .ok (.getfield 153, 3) := by decide +kernel
theorem dX1_clearText_4 : decode cX1_clearText 4 = .ok (.istore_n 1, 1) := by decide +kernel
theorem dX1_clearText_5 : decode cX1_clearText 5 = .ok (.aload_n 0, 1) := by decide +kernel
theorem dX1_clearText_6 : decode cX1_clearText 6 = .ok (.iconst 0, 1) := by decide +kernel
theorem dX1_clearText_7 : decode cX1_clearText 7 = .ok (.putfield 153, 3) := by decide +kernel
theorem dX1_clearText_10 : decode cX1_clearText 10 = .ok (.iload_n 1, 1) := by decide +kernel
theorem dX1_clearText_11 : decode cX1_clearText 11 = .ok (.ireturn, 1) := by decide +kernel
theorem dX1_fault_0 : decode cX1_fault 0 = .ok (.iload_n 1, 1) := by decide +kernel
theorem dX1_fault_1 : decode cX1_fault 1 = .ok (.ifCond .lt 8, 3) := by decide +kernel
theorem dX1_fault_4 : decode cX1_fault 4 = .ok (.iload_n 1, 1) := by decide +kernel
theorem dX1_fault_5 : decode cX1_fault 5 = .ok (.iconst 2, 1) := by decide +kernel
theorem dX1_fault_6 : decode cX1_fault 6 = .ok (.if_icmp .le 6, 3) := by decide +kernel
theorem dX1_fault_9 : decode cX1_fault 9 = .ok (.ldc 55, 2) := by decide +kernel
theorem dX1_fault_11 : decode cX1_fault 11 = .ok (.ireturn, 1) := by decide +kernel
theorem dX1_fault_12 : decode cX1_fault 12 = .ok (.aload_n 0, 1) := by decide +kernel
theorem dX1_fault_13 : decode cX1_fault 13 = .ok (.invokevirtual 157, 3) := by decide +kernel
theorem dX1_fault_16 : decode cX1_fault 16 = .ok (.iconst (-1), 1) := by decide +kernel
theorem dX1_fault_17 : decode cX1_fault 17 = .ok (.if_icmp .eq 6, 3) := by decide +kernel
theorem dX1_fault_20 : decode cX1_fault 20 = .ok (.ldc 75, 2) := by decide +kernel
theorem dX1_fault_22 : decode cX1_fault 22 = .ok (.ireturn, 1) := by decide +kernel
theorem dX1_fault_23 : decode cX1_fault 23 = .ok (.iload_n 1, 1) := by decide +kernel
theorem dX1_fault_24 : decode cX1_fault 24 = .ok (.ifCond .ne 8, 3) := by decide +kernel
theorem dX1_fault_27 : decode cX1_fault 27 = .ok (.aload_n 0, 1) := by decide +kernel
theorem dX1_fault_28 : decode cX1_fault 28 = .ok (.getfield 160, 3) := by decide +kernel
theorem dX1_fault_31 : decode cX1_fault 31 = .ok (.ireturn, 1) := by decide +kernel
theorem dX1_fault_32 : decode cX1_fault 32 = .ok (.iload_n 1, 1) := by decide +kernel
theorem dX1_fault_33 : decode cX1_fault 33 = .ok (.iconst 1, 1) := by decide +kernel
theorem dX1_fault_34 : decode cX1_fault 34 = .ok (.if_icmp .ne 10, 3) := by decide +kernel
theorem dX1_fault_37 : decode cX1_fault 37 = .ok (.aload_n 0, 1) := by decide +kernel
theorem dX1_fault_38 : decode cX1_fault 38 = .ok (.getfield 163, 3) := by decide +kernel
theorem dX1_fault_41 : decode cX1_fault 41 = .ok (.goto 7, 3) := by decide +kernel
theorem dX1_fault_44 : decode cX1_fault 44 = .ok (.aload_n 0, 1) := by decide +kernel
theorem dX1_fault_45 : decode cX1_fault 45 = .ok (.getfield 166, 3) := by decide +kernel
theorem dX1_fault_48 : decode cX1_fault 48 = .ok (.ireturn, 1) := by decide +kernel
theorem dX1_perform_0 : decode cX1_perform 0 = .ok (.aload_n 0, 1) := by decide +kernel
theorem dX1_perform_1 : decode cX1_perform 1 = .ok (.invokevirtual 157, 3) := by decide +kernel
theorem dX1_perform_4 : decode cX1_perform 4 = .ok (.istore_n 1, 1) := by decide +kernel
theorem dX1_perform_5 : decode cX1_perform 5 = .ok (.iload_n 1, 1) := by decide +kernel
theorem dX1_perform_6 : decode cX1_perform 6 = .ok (.iconst (-1), 1) := by decide +kernel
theorem dX1_perform_7 : decode cX1_perform 7 = .ok (.if_icmp .ne 6, 3) := by decide +kernel
theorem dX1_perform_10 : decode cX1_perform 10 = .ok (.ldc 60, 2) := by decide +kernel
theorem dX1_perform_12 : decode cX1_perform 12 = .ok (.ireturn, 1) := by decide +kernel
theorem dX1_perform_13 : decode cX1_perform 13 = .ok (.aload_n 0, 1) := by decide +kernel
theorem dX1_perform_14 : decode cX1_perform 14 = .ok (.iload_n 1, 1) := by decide +kernel
theorem dX1_perform_15 : decode cX1_perform 15 = .ok (.invokevirtual 39, 3) := by decide +kernel
theorem dX1_perform_18 : decode cX1_perform 18 = .ok (.ireturn, 1) := by decide +kernel
theorem dX1_copyOfNow_0 : decode cX1_copyOfNow 0 = .ok (.aload_n 0, 1) := by decide +kernel
theorem dX1_copyOfNow_1 : decode cX1_copyOfNow 1 = .ok (.getfield 16, 3) := by decide +kernel
theorem dX1_copyOfNow_4 : decode cX1_copyOfNow 4 = .ok (.aload_n 0, 1) := by decide +kernel
theorem dX1_copyOfNow_5 : decode cX1_copyOfNow 5 = .ok (.getfield 10, 3) := by decide +kernel
theorem dX1_copyOfNow_8 : decode cX1_copyOfNow 8 = .ok (.invokevirtual 169, 3) := by decide +kernel
theorem dX1_copyOfNow_11 : decode cX1_copyOfNow 11 = .ok (.aload_n 0, 1) := by decide +kernel
theorem dX1_copyOfNow_12 : decode cX1_copyOfNow 12 = .ok (.getfield 16, 3) := by decide +kernel
theorem dX1_copyOfNow_15 : decode cX1_copyOfNow 15 = .ok (.areturn, 1) := by decide +kernel
theorem dX1_settle_0 : decode cX1_settle 0 = .ok (.iload_n 1, 1) := by decide +kernel
theorem dX1_settle_1 : decode cX1_settle 1 = .ok (.ifCond .ge 5, 3) := by decide +kernel
theorem dX1_settle_4 : decode cX1_settle 4 = .ok (.iload_n 1, 1) := by decide +kernel
theorem dX1_settle_5 : decode cX1_settle 5 = .ok (.ireturn, 1) := by decide +kernel
theorem dX1_settle_6 : decode cX1_settle 6 = .ok (.aload_n 0, 1) := by decide +kernel
theorem dX1_settle_7 : decode cX1_settle 7 = .ok (.getfield 150, 3) := by decide +kernel
theorem dX1_settle_10 : decode cX1_settle 10 = .ok (.iconst 4, 1) := by decide +kernel
theorem dX1_settle_11 : decode cX1_settle 11 = .ok (.if_icmp .lt 7, 3) := by decide +kernel
theorem dX1_settle_14 : decode cX1_settle 14 = .ok (.aload_n 0, 1) := by decide +kernel
theorem dX1_settle_15 : decode cX1_settle 15 = .ok (.invokevirtual 173, 3) := by decide +kernel
theorem dX1_settle_18 : decode cX1_settle 18 = .ok (.aload_n 0, 1) := by decide +kernel
theorem dX1_settle_19 : decode cX1_settle 19 = .ok (.getfield 19, 3) := by decide +kernel
theorem dX1_settle_22 : decode cX1_settle 22 = .ok (.aload_n 0, 1) := by decide +kernel
theorem dX1_settle_23 : decode cX1_settle 23 = .ok (.getfield 150, 3) := by decide +kernel
theorem dX1_settle_26 : decode cX1_settle 26 = .ok (.aaload, 1) := by decide +kernel
theorem dX1_settle_27 : decode cX1_settle 27 = .ok (.astore_n 2, 1) := by decide +kernel
theorem dX1_settle_28 : decode cX1_settle 28 = .ok (.aload_n 0, 1) := by decide +kernel
theorem dX1_settle_29 : decode cX1_settle 29 = .ok (.getfield 19, 3) := by decide +kernel
theorem dX1_settle_32 : decode cX1_settle 32 = .ok (.aload_n 0, 1) := by decide +kernel
theorem dX1_settle_33 : decode cX1_settle 33 = .ok (.getfield 150, 3) := by decide +kernel
theorem dX1_settle_36 : decode cX1_settle 36 = .ok (.aload_n 0, 1) := by decide +kernel
theorem dX1_settle_37 : decode cX1_settle 37 = .ok (.getfield 10, 3) := by decide +kernel
theorem dX1_settle_40 : decode cX1_settle 40 = .ok (.aastore, 1) := by decide +kernel
theorem dX1_settle_41 : decode cX1_settle 41 = .ok (.aload_n 0, 1) := by decide +kernel
theorem dX1_settle_42 : decode cX1_settle 42 = .ok (.dup, 1) := by decide +kernel
theorem dX1_settle_43 : decode cX1_settle 43 = .ok (.getfield 150, 3) := by decide +kernel
theorem dX1_settle_46 : decode cX1_settle 46 = .ok (.iconst 1, 1) := by decide +kernel
theorem dX1_settle_47 : decode cX1_settle 47 = .ok (.iadd, 1) := by decide +kernel
theorem dX1_settle_48 : decode cX1_settle 48 = .ok (.putfield 150, 3) := by decide +kernel
theorem dX1_settle_51 : decode cX1_settle 51 = .ok (.aload_n 0, 1) := by decide +kernel
theorem dX1_settle_52 : decode cX1_settle 52 = .ok (.aload_n 0, 1) := by decide +kernel
theorem dX1_settle_53 : decode cX1_settle 53 = .ok (.getfield 16, 3) := by decide +kernel
theorem dX1_settle_56 : decode cX1_settle 56 = .ok (.putfield 10, 3) := by decide +kernel
theorem dX1_settle_59 : decode cX1_settle 59 = .ok (.aload_n 0, 1) := by decide +kernel
theorem dX1_settle_60 : decode cX1_settle 60 = .ok (.aload_n 2, 1) := by decide +kernel
theorem dX1_settle_61 : decode cX1_settle 61 = .ok (.putfield 16, 3) := by decide +kernel
theorem dX1_settle_64 : decode cX1_settle 64 = .ok (.iload_n 1, 1) := by decide +kernel
theorem dX1_settle_65 : decode cX1_settle 65 = .ok (.ireturn, 1) := by decide +kernel
theorem dX1_dropOldestState_0 : decode cX1_dropOldestState 0 = .ok (.aload_n 0, 1) := by decide +kernel
theorem dX1_dropOldestState_1 : decode cX1_dropOldestState 1 = .ok (.getfield 19, 3) := by decide +kernel
theorem dX1_dropOldestState_4 : decode cX1_dropOldestState 4 = .ok (.iconst 0, 1) := by decide +kernel
theorem dX1_dropOldestState_5 : decode cX1_dropOldestState 5 = .ok (.aaload, 1) := by decide +kernel
theorem dX1_dropOldestState_6 : decode cX1_dropOldestState 6 = .ok (.astore_n 1, 1) := by decide +kernel
theorem dX1_dropOldestState_7 : decode cX1_dropOldestState 7 = .ok (.iconst 1, 1) := by decide +kernel
theorem dX1_dropOldestState_8 : decode cX1_dropOldestState 8 = .ok (.istore_n 2, 1) := by decide +kernel
theorem dX1_dropOldestState_9 : decode cX1_dropOldestState 9 = .ok (.iload_n 2, 1) := by decide +kernel
theorem dX1_dropOldestState_10 : decode cX1_dropOldestState 10 = .ok (.iconst 4, 1) := by decide +kernel
theorem dX1_dropOldestState_11 : decode cX1_dropOldestState 11 = .ok (.if_icmp .ge 23, 3) := by decide +kernel
theorem dX1_dropOldestState_14 : decode cX1_dropOldestState 14 = .ok (.aload_n 0, 1) := by decide +kernel
theorem dX1_dropOldestState_15 : decode cX1_dropOldestState 15 = .ok (.getfield 19, 3) := by decide +kernel
theorem dX1_dropOldestState_18 : decode cX1_dropOldestState 18 = .ok (.iload_n 2, 1) := by decide +kernel
theorem dX1_dropOldestState_19 : decode cX1_dropOldestState 19 = .ok (.iconst 1, 1) := by decide +kernel
theorem dX1_dropOldestState_20 : decode cX1_dropOldestState 20 = .ok (.isub, 1) := by decide +kernel
theorem dX1_dropOldestState_21 : decode cX1_dropOldestState 21 = .ok (.aload_n 0, 1) := by decide +kernel
theorem dX1_dropOldestState_22 : decode cX1_dropOldestState 22 = .ok (.getfield 19, 3) := by decide +kernel
theorem dX1_dropOldestState_25 : decode cX1_dropOldestState 25 = .ok (.iload_n 2, 1) := by decide +kernel
theorem dX1_dropOldestState_26 : decode cX1_dropOldestState 26 = .ok (.aaload, 1) := by decide +kernel
theorem dX1_dropOldestState_27 : decode cX1_dropOldestState 27 = .ok (.aastore, 1) := by decide +kernel
theorem dX1_dropOldestState_28 : decode cX1_dropOldestState 28 = .ok (.iinc 2 1, 3) := by decide +kernel
theorem dX1_dropOldestState_31 : decode cX1_dropOldestState 31 = .ok (.goto (-22), 3) := by decide +kernel
theorem dX1_dropOldestState_34 : decode cX1_dropOldestState 34 = .ok (.aload_n 0, 1) := by decide +kernel
theorem dX1_dropOldestState_35 : decode cX1_dropOldestState 35 = .ok (.getfield 19, 3) := by decide +kernel
theorem dX1_dropOldestState_38 : decode cX1_dropOldestState 38 = .ok (.iconst 3, 1) := by decide +kernel
theorem dX1_dropOldestState_39 : decode cX1_dropOldestState 39 = .ok (.aload_n 1, 1) := by decide +kernel
theorem dX1_dropOldestState_40 : decode cX1_dropOldestState 40 = .ok (.aastore, 1) := by decide +kernel
theorem dX1_dropOldestState_41 : decode cX1_dropOldestState 41 = .ok (.aload_n 0, 1) := by decide +kernel
theorem dX1_dropOldestState_42 : decode cX1_dropOldestState 42 = .ok (.iconst 3, 1) := by decide +kernel
theorem dX1_dropOldestState_43 : decode cX1_dropOldestState 43 = .ok (.putfield 150, 3) := by decide +kernel
theorem dX1_dropOldestState_46 : decode cX1_dropOldestState 46 = .ok (.return_, 1) := by decide +kernel
theorem dX1_pointsAfter_0 : decode cX1_pointsAfter 0 = .ok (.aload_n 0, 1) := by decide +kernel
theorem dX1_pointsAfter_1 : decode cX1_pointsAfter 1 = .ok (.invokevirtual 35, 3) := by decide +kernel
theorem dX1_pointsAfter_4 : decode cX1_pointsAfter 4 = .ok (.astore_n 2, 1) := by decide +kernel
theorem dX1_pointsAfter_5 : decode cX1_pointsAfter 5 = .ok (.iload_n 1, 1) := by decide +kernel
theorem dX1_pointsAfter_6 : decode cX1_pointsAfter 6 = .ok (.bipush 10, 2) := by decide +kernel
theorem dX1_pointsAfter_8 : decode cX1_pointsAfter 8 = .ok (.if_icmp .ge 9, 3) := by decide +kernel
theorem dX1_pointsAfter_11 : decode cX1_pointsAfter 11 = .ok (.aload_n 2, 1) := by decide +kernel
theorem dX1_pointsAfter_12 : decode cX1_pointsAfter 12 = .ok (.iload_n 1, 1) := by decide +kernel
theorem dX1_pointsAfter_13 : decode cX1_pointsAfter 13 = .ok (.invokevirtual 45, 3) := by decide +kernel
theorem dX1_pointsAfter_16 : decode cX1_pointsAfter 16 = .ok (.pop, 1) := by decide +kernel
theorem dX1_pointsAfter_17 : decode cX1_pointsAfter 17 = .ok (.aload_n 2, 1) := by decide +kernel
theorem dX1_pointsAfter_18 : decode cX1_pointsAfter 18 = .ok (.bipush 60, 2) := by decide +kernel
theorem dX1_pointsAfter_20 : decode cX1_pointsAfter 20 = .ok (.invokevirtual 61, 3) := by decide +kernel
theorem dX1_pointsAfter_23 : decode cX1_pointsAfter 23 = .ok (.pop, 1) := by decide +kernel
theorem dX1_pointsAfter_24 : decode cX1_pointsAfter 24 = .ok (.aload_n 2, 1) := by decide +kernel
theorem dX1_pointsAfter_25 : decode cX1_pointsAfter 25 = .ok (.aload_n 0, 1) := by decide +kernel
theorem dX1_pointsAfter_26 : decode cX1_pointsAfter 26 = .ok (.getfield 10, 3) := by decide +kernel
theorem dX1_pointsAfter_29 : decode cX1_pointsAfter 29 = .ok (.getfield 103, 3) := by decide +kernel
theorem dX1_pointsAfter_32 : decode cX1_pointsAfter 32 = .ok (.getstatic 80, 3) := by decide +kernel
theorem dX1_pointsAfter_35 : decode cX1_pointsAfter 35 = .ok (.invokevirtual 84, 3) := by decide +kernel
theorem dX1_pointsAfter_38 : decode cX1_pointsAfter 38 = .ok (.ireturn, 1) := by decide +kernel
theorem dX1_tryText_0 : decode cX1_tryText 0 = .ok (.aload_n 0, 1) := by decide +kernel
theorem dX1_tryText_1 : decode cX1_tryText 1 = .ok (.invokevirtual 35, 3) := by decide +kernel
theorem dX1_tryText_4 : decode cX1_tryText 4 = .ok (.pop, 1) := by decide +kernel
theorem dX1_tryText_5 : decode cX1_tryText 5 = .ok (.iconst 0, 1) := by decide +kernel
theorem dX1_tryText_6 : decode cX1_tryText 6 = .ok (.istore_n 1, 1) := by decide +kernel
theorem dX1_tryText_7 : decode cX1_tryText 7 = .ok (.iconst 0, 1) := by decide +kernel
theorem dX1_tryText_8 : decode cX1_tryText 8 = .ok (.istore_n 2, 1) := by decide +kernel
theorem dX1_tryText_9 : decode cX1_tryText 9 = .ok (.iload_n 2, 1) := by decide +kernel
theorem dX1_tryText_10 : decode cX1_tryText 10 = .ok (.bipush 60, 2) := by decide +kernel
theorem dX1_tryText_12 : decode cX1_tryText 12 = .ok (.if_icmp .ge 156, 3) := by decide +kernel
theorem dX1_tryText_15 : decode cX1_tryText 15 = .ok (.iload_n 1, 1) := by decide +kernel
theorem dX1_tryText_16 : decode cX1_tryText 16 = .ok (.aload_n 0, 1) := by decide +kernel
theorem dX1_tryText_17 : decode cX1_tryText 17 = .ok (.getfield 153, 3) := by decide +kernel
theorem dX1_tryText_20 : decode cX1_tryText 20 = .ok (.if_icmp .ge 148, 3) := by decide +kernel
theorem dX1_tryText_23 : decode cX1_tryText 23 = .ok (.aload_n 0, 1) := by decide +kernel
theorem dX1_tryText_24 : decode cX1_tryText 24 = .ok (.getfield 23, 3) := by decide +kernel
theorem dX1_tryText_27 : decode cX1_tryText 27 = .ok (.iload_n 1, 1) := by decide +kernel
theorem dX1_tryText_28 : decode cX1_tryText 28 = .ok (.caload, 1) := by decide +kernel
theorem dX1_tryText_29 : decode cX1_tryText 29 = .ok (.invokestatic 176, 3) := by decide +kernel
theorem dX1_tryText_32 : decode cX1_tryText 32 = .ok (.istore_n 3, 1) := by decide +kernel
theorem dX1_tryText_33 : decode cX1_tryText 33 = .ok (.iload_n 3, 1) := by decide +kernel
theorem dX1_tryText_34 : decode cX1_tryText 34 = .ok (.ifCond .ne 22, 3) := by decide +kernel
theorem dX1_tryText_37 : decode cX1_tryText 37 = .ok (.aload_n 0, 1) := by decide +kernel
theorem dX1_tryText_38 : decode cX1_tryText 38 = .ok (.getfield 23, 3) := by decide +kernel
theorem dX1_tryText_41 : decode cX1_tryText 41 = .ok (.iload_n 1, 1) := by decide +kernel
theorem dX1_tryText_42 : decode cX1_tryText 42 = .ok (.caload, 1) := by decide +kernel
theorem dX1_tryText_43 : decode cX1_tryText 43 = .ok (.bipush 101, 2) := by decide +kernel
theorem dX1_tryText_45 : decode cX1_tryText 45 = .ok (.if_icmp .eq 11, 3) := by decide +kernel
theorem dX1_tryText_48 : decode cX1_tryText 48 = .ok (.aload_n 0, 1) := by decide +kernel
theorem dX1_tryText_49 : decode cX1_tryText 49 = .ok (.iload_n 1, 1) := by decide +kernel
theorem dX1_tryText_50 : decode cX1_tryText 50 = .ok (.iconst 1, 1) := by decide +kernel
theorem dX1_tryText_51 : decode cX1_tryText 51 = .ok (.iconst 0, 1) := by decide +kernel
theorem dX1_tryText_52 : decode cX1_tryText 52 = .ok (.invokevirtual 180, 3) := by decide +kernel
theorem dX1_tryText_55 : decode cX1_tryText 55 = .ok (.ireturn, 1) := by decide +kernel
theorem dX1_tryText_56 : decode cX1_tryText 56 = .ok (.iload_n 3, 1) := by decide +kernel
theorem dX1_tryText_57 : decode cX1_tryText 57 = .ok (.ifCond .eq 13, 3) := by decide +kernel
theorem dX1_tryText_60 : decode cX1_tryText 60 = .ok (.aload_n 0, 1) := by decide +kernel
theorem dX1_tryText_61 : decode cX1_tryText 61 = .ok (.iload_n 1, 1) := by decide +kernel
theorem dX1_tryText_62 : decode cX1_tryText 62 = .ok (.iconst 1, 1) := by decide +kernel
theorem dX1_tryText_63 : decode cX1_tryText 63 = .ok (.iadd, 1) := by decide +kernel
theorem dX1_tryText_64 : decode cX1_tryText 64 = .ok (.invokevirtual 183, 3) := by decide +kernel
theorem dX1_tryText_67 : decode cX1_tryText 67 = .ok (.goto 4, 3) := by decide +kernel
theorem dX1_tryText_70 : decode cX1_tryText 70 = .ok (.iconst 0, 1) := by decide +kernel
theorem dX1_tryText_71 : decode cX1_tryText 71 = .ok (.istore 4, 2) := by decide +kernel
theorem dX1_tryText_73 : decode cX1_tryText 73 = .ok (.iload_n 1, 1) := by decide +kernel
theorem dX1_tryText_74 : decode cX1_tryText 74 = .ok (.iconst 1, 1) := by decide +kernel
theorem dX1_tryText_75 : decode cX1_tryText 75 = .ok (.iadd, 1) := by decide +kernel
theorem dX1_tryText_76 : decode cX1_tryText 76 = .ok (.iload 4, 2) := by decide +kernel
theorem dX1_tryText_78 : decode cX1_tryText 78 = .ok (.iadd, 1) := by decide +kernel
theorem dX1_tryText_79 : decode cX1_tryText 79 = .ok (.istore 5, 2) := by decide +kernel
theorem dX1_tryText_81 : decode cX1_tryText 81 = .ok (.iload_n 3, 1) := by decide +kernel
theorem dX1_tryText_82 : decode cX1_tryText 82 = .ok (.ifCond .eq 8, 3) := by decide +kernel
theorem dX1_tryText_85 : decode cX1_tryText 85 = .ok (.iload 4, 2) := by decide +kernel
theorem dX1_tryText_87 : decode cX1_tryText 87 = .ok (.ifCond .eq 24, 3) := by decide +kernel
theorem dX1_tryText_90 : decode cX1_tryText 90 = .ok (.iload 5, 2) := by decide +kernel
theorem dX1_tryText_92 : decode cX1_tryText 92 = .ok (.aload_n 0, 1) := by decide +kernel
theorem dX1_tryText_93 : decode cX1_tryText 93 = .ok (.getfield 153, 3) := by decide +kernel
theorem dX1_tryText_96 : decode cX1_tryText 96 = .ok (.if_icmp .ge 15, 3) := by decide +kernel
theorem dX1_tryText_99 : decode cX1_tryText 99 = .ok (.aload_n 0, 1) := by decide +kernel
theorem dX1_tryText_100 : decode cX1_tryText 100 = .ok (.getfield 23, 3) := by decide +kernel
theorem dX1_tryText_103 : decode cX1_tryText 103 = .ok (.iload 5, 2) := by decide +kernel
theorem dX1_tryText_105 : decode cX1_tryText 105 = .ok (.caload, 1) := by decide +kernel
theorem dX1_tryText_106 : decode cX1_tryText 106 = .ok (.bipush 59, 2) := by decide +kernel
theorem dX1_tryText_108 : decode cX1_tryText 108 = .ok (.if_icmp .eq 14, 3) := by decide +kernel
theorem dX1_tryText_111 : decode cX1_tryText 111 = .ok (.aload_n 0, 1) := by decide +kernel
theorem dX1_tryText_112 : decode cX1_tryText 112 = .ok (.iload_n 1, 1) := by decide +kernel
theorem dX1_tryText_113 : decode cX1_tryText 113 = .ok (.iconst 1, 1) := by decide +kernel
theorem dX1_tryText_114 : decode cX1_tryText 114 = .ok (.iload 5, 2) := by decide +kernel
theorem dX1_tryText_116 : decode cX1_tryText 116 = .ok (.iload_n 1, 1) := by decide +kernel
theorem dX1_tryText_117 : decode cX1_tryText 117 = .ok (.isub, 1) := by decide +kernel
theorem dX1_tryText_118 : decode cX1_tryText 118 = .ok (.invokevirtual 180, 3) := by decide +kernel
theorem dX1_tryText_121 : decode cX1_tryText 121 = .ok (.ireturn, 1) := by decide +kernel
theorem dX1_tryText_122 : decode cX1_tryText 122 = .ok (.aload_n 0, 1) := by decide +kernel
theorem dX1_tryText_123 : decode cX1_tryText 123 = .ok (.aload_n 0, 1) := by decide +kernel
theorem dX1_tryText_124 : decode cX1_tryText 124 = .ok (.getfield 23, 3) := by decide +kernel
theorem dX1_tryText_127 : decode cX1_tryText 127 = .ok (.iload_n 1, 1) := by decide +kernel
theorem dX1_tryText_128 : decode cX1_tryText 128 = .ok (.caload, 1) := by decide +kernel
theorem dX1_tryText_129 : decode cX1_tryText 129 = .ok (.aload_n 0, 1) := by decide +kernel
theorem dX1_tryText_130 : decode cX1_tryText 130 = .ok (.iload_n 1, 1) := by decide +kernel
theorem dX1_tryText_131 : decode cX1_tryText 131 = .ok (.iconst 1, 1) := by decide +kernel
theorem dX1_tryText_132 : decode cX1_tryText 132 = .ok (.iadd, 1) := by decide +kernel
theorem dX1_tryText_133 : decode cX1_tryText 133 = .ok (.iload 5, 2) := by decide +kernel
theorem dX1_tryText_135 : decode cX1_tryText 135 = .ok (.invokevirtual 186, 3) := by decide +kernel
theorem dX1_tryText_138 : decode cX1_tryText 138 = .ok (.invokevirtual 190, 3) := by decide +kernel
theorem dX1_tryText_141 : decode cX1_tryText 141 = .ok (.istore 6, 2) := by decide +kernel
theorem dX1_tryText_143 : decode cX1_tryText 143 = .ok (.iload 6, 2) := by decide +kernel
theorem dX1_tryText_145 : decode cX1_tryText 145 = .ok (.ifCond .ge 12, 3) := by decide +kernel
theorem dX1_tryText_148 : decode cX1_tryText 148 = .ok (.aload_n 0, 1) := by decide +kernel
theorem dX1_tryText_149 : decode cX1_tryText 149 = .ok (.iload_n 1, 1) := by decide +kernel
theorem dX1_tryText_150 : decode cX1_tryText 150 = .ok (.iconst 2, 1) := by decide +kernel
theorem dX1_tryText_151 : decode cX1_tryText 151 = .ok (.iload 6, 2) := by decide +kernel
theorem dX1_tryText_153 : decode cX1_tryText 153 = .ok (.invokevirtual 180, 3) := by decide +kernel
theorem dX1_tryText_156 : decode cX1_tryText 156 = .ok (.ireturn, 1) := by decide +kernel
theorem dX1_tryText_157 : decode cX1_tryText 157 = .ok (.iload 5, 2) := by decide +kernel
theorem dX1_tryText_159 : decode cX1_tryText 159 = .ok (.iconst 1, 1) := by decide +kernel
theorem dX1_tryText_160 : decode cX1_tryText 160 = .ok (.iadd, 1) := by decide +kernel
theorem dX1_tryText_161 : decode cX1_tryText 161 = .ok (.istore_n 1, 1) := by decide +kernel
theorem dX1_tryText_162 : decode cX1_tryText 162 = .ok (.iinc 2 1, 3) := by decide +kernel
theorem dX1_tryText_165 : decode cX1_tryText 165 = .ok (.goto (-156), 3) := by decide +kernel
theorem dX1_tryText_168 : decode cX1_tryText 168 = .ok (.iload_n 2, 1) := by decide +kernel
theorem dX1_tryText_169 : decode cX1_tryText 169 = .ok (.ireturn, 1) := by decide +kernel
theorem dX1_isNumberedOrder_0 : decode cX1_isNumberedOrder 0 = .ok (.iload_n 0, 1) := by decide +kernel
theorem dX1_isNumberedOrder_1 : decode cX1_isNumberedOrder 1 = .ok (.bipush 112, 2) := by decide +kernel
theorem dX1_isNumberedOrder_3 : decode cX1_isNumberedOrder 3 = .ok (.if_icmp .eq 21, 3) := by decide +kernel
theorem dX1_isNumberedOrder_6 : decode cX1_isNumberedOrder 6 = .ok (.iload_n 0, 1) := by decide +kernel
theorem dX1_isNumberedOrder_7 : decode cX1_isNumberedOrder 7 = .ok (.bipush 98, 2) := by decide +kernel
theorem dX1_isNumberedOrder_9 : decode cX1_isNumberedOrder 9 = .ok (.if_icmp .eq 15, 3) := by decide +kernel
theorem dX1_isNumberedOrder_12 : decode cX1_isNumberedOrder 12 = .ok (.iload_n 0, 1) := by decide +kernel
theorem dX1_isNumberedOrder_13 : decode cX1_isNumberedOrder 13 = .ok (.bipush 120, 2) := by decide +kernel
theorem dX1_isNumberedOrder_15 : decode cX1_isNumberedOrder 15 = .ok (.if_icmp .eq 9, 3) := by decide +kernel
theorem dX1_isNumberedOrder_18 : decode cX1_isNumberedOrder 18 = .ok (.iload_n 0, 1) := by decide +kernel
theorem dX1_isNumberedOrder_19 : decode cX1_isNumberedOrder 19 = .ok (.bipush 103, 2) := by decide +kernel
theorem dX1_isNumberedOrder_21 : decode cX1_isNumberedOrder 21 = .ok (.if_icmp .ne 7, 3) := by decide +kernel
theorem dX1_isNumberedOrder_24 : decode cX1_isNumberedOrder 24 = .ok (.iconst 1, 1) := by decide +kernel
theorem dX1_isNumberedOrder_25 : decode cX1_isNumberedOrder 25 = .ok (.goto 4, 3) := by decide +kernel
theorem dX1_isNumberedOrder_28 : decode cX1_isNumberedOrder 28 = .ok (.iconst 0, 1) := by decide +kernel
theorem dX1_isNumberedOrder_29 : decode cX1_isNumberedOrder 29 = .ok (.ireturn, 1) := by decide +kernel
theorem dX1_digitsFrom_0 : decode cX1_digitsFrom 0 = .ok (.iconst 0, 1) := by decide +kernel
theorem dX1_digitsFrom_1 : decode cX1_digitsFrom 1 = .ok (.istore_n 2, 1) := by decide +kernel
theorem dX1_digitsFrom_2 : decode cX1_digitsFrom 2 = .ok (.iload_n 1, 1) := by decide +kernel
theorem dX1_digitsFrom_3 : decode cX1_digitsFrom 3 = .ok (.istore_n 3, 1) := by decide +kernel
theorem dX1_digitsFrom_4 : decode cX1_digitsFrom 4 = .ok (.iload_n 3, 1) := by decide +kernel
theorem dX1_digitsFrom_5 : decode cX1_digitsFrom 5 = .ok (.aload_n 0, 1) := by decide +kernel
theorem dX1_digitsFrom_6 : decode cX1_digitsFrom 6 = .ok (.getfield 153, 3) := by decide +kernel
theorem dX1_digitsFrom_9 : decode cX1_digitsFrom 9 = .ok (.if_icmp .ge 41, 3) := by decide +kernel
theorem dX1_digitsFrom_12 : decode cX1_digitsFrom 12 = .ok (.iload_n 2, 1) := by decide +kernel
theorem dX1_digitsFrom_13 : decode cX1_digitsFrom 13 = .ok (.iconst 2, 1) := by decide +kernel
theorem dX1_digitsFrom_14 : decode cX1_digitsFrom 14 = .ok (.if_icmp .ge 36, 3) := by decide +kernel
theorem dX1_digitsFrom_17 : decode cX1_digitsFrom 17 = .ok (.aload_n 0, 1) := by decide +kernel
theorem dX1_digitsFrom_18 : decode cX1_digitsFrom 18 = .ok (.getfield 23, 3) := by decide +kernel
theorem dX1_digitsFrom_21 : decode cX1_digitsFrom 21 = .ok (.iload_n 3, 1) := by decide +kernel
theorem dX1_digitsFrom_22 : decode cX1_digitsFrom 22 = .ok (.caload, 1) := by decide +kernel
theorem dX1_digitsFrom_23 : decode cX1_digitsFrom 23 = .ok (.bipush 48, 2) := by decide +kernel
theorem dX1_digitsFrom_25 : decode cX1_digitsFrom 25 = .ok (.if_icmp .lt 14, 3) := by decide +kernel
theorem dX1_digitsFrom_28 : decode cX1_digitsFrom 28 = .ok (.aload_n 0, 1) := by decide +kernel
theorem dX1_digitsFrom_29 : decode cX1_digitsFrom 29 = .ok (.getfield 23, 3) := by decide +kernel
theorem dX1_digitsFrom_32 : decode cX1_digitsFrom 32 = .ok (.iload_n 3, 1) := by decide +kernel
theorem dX1_digitsFrom_33 : decode cX1_digitsFrom 33 = .ok (.caload, 1) := by decide +kernel
theorem dX1_digitsFrom_34 : decode cX1_digitsFrom 34 = .ok (.bipush 57, 2) := by decide +kernel
theorem dX1_digitsFrom_36 : decode cX1_digitsFrom 36 = .ok (.if_icmp .le 5, 3) := by decide +kernel
theorem dX1_digitsFrom_39 : decode cX1_digitsFrom 39 = .ok (.iload_n 2, 1) := by decide +kernel
theorem dX1_digitsFrom_40 : decode cX1_digitsFrom 40 = .ok (.ireturn, 1) := by decide +kernel
theorem dX1_digitsFrom_41 : decode cX1_digitsFrom 41 = .ok (.iinc 2 1, 3) := by decide +kernel
theorem dX1_digitsFrom_44 : decode cX1_digitsFrom 44 = .ok (.iinc 3 1, 3) := by decide +kernel
theorem dX1_digitsFrom_47 : decode cX1_digitsFrom 47 = .ok (.goto (-43), 3) := by decide +kernel
theorem dX1_digitsFrom_50 : decode cX1_digitsFrom 50 = .ok (.iload_n 2, 1) := by decide +kernel
theorem dX1_digitsFrom_51 : decode cX1_digitsFrom 51 = .ok (.ireturn, 1) := by decide +kernel
theorem dX1_numberBetween_0 : decode cX1_numberBetween 0 = .ok (.iconst 0, 1) := by decide +kernel
theorem dX1_numberBetween_1 : decode cX1_numberBetween 1 = .ok (.istore_n 3, 1) := by decide +kernel
theorem dX1_numberBetween_2 : decode cX1_numberBetween 2 = .ok (.iload_n 1, 1) := by decide +kernel
theorem dX1_numberBetween_3 : decode cX1_numberBetween 3 = .ok (.istore 4, 2) := by decide +kernel
theorem dX1_numberBetween_5 : decode cX1_numberBetween 5 = .ok (.iload 4, 2) := by decide +kernel
theorem dX1_numberBetween_7 : decode cX1_numberBetween 7 = .ok (.iload_n 2, 1) := by decide +kernel
theorem dX1_numberBetween_8 : decode cX1_numberBetween 8 = .ok (.if_icmp .ge 34, 3) := by decide +kernel
theorem dX1_numberBetween_11 : decode cX1_numberBetween 11 = .ok (.iload 4, 2) := by decide +kernel
theorem dX1_numberBetween_13 : decode cX1_numberBetween 13 = .ok (.aload_n 0, 1) := by decide +kernel
theorem dX1_numberBetween_14 : decode cX1_numberBetween 14 = .ok (.getfield 153, 3) := by decide +kernel
theorem dX1_numberBetween_17 : decode cX1_numberBetween 17 = .ok (.if_icmp .ge 25, 3) := by decide +kernel
theorem dX1_numberBetween_20 : decode cX1_numberBetween 20 = .ok (.iload_n 3, 1) := by decide +kernel
theorem dX1_numberBetween_21 : decode cX1_numberBetween 21 = .ok (.bipush 10, 2) := by decide +kernel
theorem dX1_numberBetween_23 : decode cX1_numberBetween 23 = .ok (.imul, 1) := by decide +kernel
theorem dX1_numberBetween_24 : decode cX1_numberBetween 24 = .ok (.aload_n 0, 1) := by decide +kernel
theorem dX1_numberBetween_25 : decode cX1_numberBetween 25 = .ok (.getfield 23, 3) := by decide +kernel
theorem dX1_numberBetween_28 : decode cX1_numberBetween 28 = .ok (.iload 4, 2) := by decide +kernel
theorem dX1_numberBetween_30 : decode cX1_numberBetween 30 = .ok (.caload, 1) := by decide +kernel
theorem dX1_numberBetween_31 : decode cX1_numberBetween 31 = .ok (.bipush 48, 2) := by decide +kernel
theorem dX1_numberBetween_33 : decode cX1_numberBetween 33 = .ok (.isub, 1) := by decide +kernel
theorem dX1_numberBetween_34 : decode cX1_numberBetween 34 = .ok (.iadd, 1) := by decide +kernel
theorem dX1_numberBetween_35 : decode cX1_numberBetween 35 = .ok (.istore_n 3, 1) := by decide +kernel
theorem dX1_numberBetween_36 : decode cX1_numberBetween 36 = .ok (.iinc 4 1, 3) := by decide +kernel
theorem dX1_numberBetween_39 : decode cX1_numberBetween 39 = .ok (.goto (-34), 3) := by decide +kernel
theorem dX1_numberBetween_42 : decode cX1_numberBetween 42 = .ok (.iload_n 3, 1) := by decide +kernel
theorem dX1_numberBetween_43 : decode cX1_numberBetween 43 = .ok (.ireturn, 1) := by decide +kernel
theorem dX1_doOrder_0 : decode cX1_doOrder 0 = .ok (.iload_n 1, 1) := by decide +kernel
theorem dX1_doOrder_1 : decode cX1_doOrder 1 = .ok (.lookupswitch 79 #[(98, 52), (103, 70), (112, 43), (120, 61)], 43) := by decide +kernel
theorem dX1_doOrder_44 : decode cX1_doOrder 44 = .ok (.aload_n 0, 1) := by decide +kernel
theorem dX1_doOrder_45 : decode cX1_doOrder 45 = .ok (.getfield 16, 3) := by decide +kernel
theorem dX1_doOrder_48 : decode cX1_doOrder 48 = .ok (.iload_n 2, 1) := by decide +kernel
theorem dX1_doOrder_49 : decode cX1_doOrder 49 = .ok (.invokevirtual 42, 3) := by decide +kernel
theorem dX1_doOrder_52 : decode cX1_doOrder 52 = .ok (.ireturn, 1) := by decide +kernel
theorem dX1_doOrder_53 : decode cX1_doOrder 53 = .ok (.aload_n 0, 1) := by decide +kernel
theorem dX1_doOrder_54 : decode cX1_doOrder 54 = .ok (.getfield 16, 3) := by decide +kernel
theorem dX1_doOrder_57 : decode cX1_doOrder 57 = .ok (.iload_n 2, 1) := by decide +kernel
theorem dX1_doOrder_58 : decode cX1_doOrder 58 = .ok (.invokevirtual 45, 3) := by decide +kernel
theorem dX1_doOrder_61 : decode cX1_doOrder 61 = .ok (.ireturn, 1) := by decide +kernel
theorem dX1_doOrder_62 : decode cX1_doOrder 62 = .ok (.aload_n 0, 1) := by decide +kernel
theorem dX1_doOrder_63 : decode cX1_doOrder 63 = .ok (.getfield 16, 3) := by decide +kernel
theorem dX1_doOrder_66 : decode cX1_doOrder 66 = .ok (.iload_n 2, 1) := by decide +kernel
theorem dX1_doOrder_67 : decode cX1_doOrder 67 = .ok (.invokevirtual 48, 3) := by decide +kernel
theorem dX1_doOrder_70 : decode cX1_doOrder 70 = .ok (.ireturn, 1) := by decide +kernel
theorem dX1_doOrder_71 : decode cX1_doOrder 71 = .ok (.aload_n 0, 1) := by decide +kernel
theorem dX1_doOrder_72 : decode cX1_doOrder 72 = .ok (.getfield 16, 3) := by decide +kernel
theorem dX1_doOrder_75 : decode cX1_doOrder 75 = .ok (.iload_n 2, 1) := by decide +kernel
theorem dX1_doOrder_76 : decode cX1_doOrder 76 = .ok (.invokevirtual 31, 3) := by decide +kernel
theorem dX1_doOrder_79 : decode cX1_doOrder 79 = .ok (.ireturn, 1) := by decide +kernel
theorem dX1_doOrder_80 : decode cX1_doOrder 80 = .ok (.aload_n 0, 1) := by decide +kernel
theorem dX1_doOrder_81 : decode cX1_doOrder 81 = .ok (.getfield 16, 3) := by decide +kernel
theorem dX1_doOrder_84 : decode cX1_doOrder 84 = .ok (.invokevirtual 51, 3) := by decide +kernel
theorem dX1_doOrder_87 : decode cX1_doOrder 87 = .ok (.ireturn, 1) := by decide +kernel
theorem dX1_keepFault_0 : decode cX1_keepFault 0 = .ok (.aload_n 0, 1) := by decide +kernel
theorem dX1_keepFault_1 : decode cX1_keepFault 1 = .ok (.iload_n 1, 1) := by decide +kernel
theorem dX1_keepFault_2 : decode cX1_keepFault 2 = .ok (.putfield 160, 3) := by decide +kernel
theorem dX1_keepFault_5 : decode cX1_keepFault 5 = .ok (.aload_n 0, 1) := by decide +kernel
theorem dX1_keepFault_6 : decode cX1_keepFault 6 = .ok (.iload_n 2, 1) := by decide +kernel
theorem dX1_keepFault_7 : decode cX1_keepFault 7 = .ok (.putfield 163, 3) := by decide +kernel
theorem dX1_keepFault_10 : decode cX1_keepFault 10 = .ok (.aload_n 0, 1) := by decide +kernel
theorem dX1_keepFault_11 : decode cX1_keepFault 11 = .ok (.iload_n 3, 1) := by decide +kernel
theorem dX1_keepFault_12 : decode cX1_keepFault 12 = .ok (.putfield 166, 3) := by decide +kernel
theorem dX1_keepFault_15 : decode cX1_keepFault 15 = .ok (.iconst (-1), 1) := by decide +kernel
theorem dX1_keepFault_16 : decode cX1_keepFault 16 = .ok (.ireturn, 1) := by decide +kernel
theorem dX1_partAt_0 : decode cX1_partAt 0 = .ok (.iload_n 0, 1) := by decide +kernel
theorem dX1_partAt_1 : decode cX1_partAt 1 = .ok (.tableswitch 33 0 2 #[27, 29, 31], 27) := by decide +kernel
theorem dX1_partAt_28 : decode cX1_partAt 28 = .ok (.iconst 0, 1) := by decide +kernel
theorem dX1_partAt_29 : decode cX1_partAt 29 = .ok (.ireturn, 1) := by decide +kernel
theorem dX1_partAt_30 : decode cX1_partAt 30 = .ok (.iconst 2, 1) := by decide +kernel
theorem dX1_partAt_31 : decode cX1_partAt 31 = .ok (.ireturn, 1) := by decide +kernel
theorem dX1_partAt_32 : decode cX1_partAt 32 = .ok (.iconst 3, 1) := by decide +kernel
theorem dX1_partAt_33 : decode cX1_partAt 33 = .ok (.ireturn, 1) := by decide +kernel
theorem dX1_partAt_34 : decode cX1_partAt 34 = .ok (.iconst 1, 1) := by decide +kernel
theorem dX1_partAt_35 : decode cX1_partAt 35 = .ok (.ireturn, 1) := by decide +kernel
theorem dX1_sum_0 : decode cX1_sum 0 = .ok (.iconst 0, 1) := by decide +kernel
theorem dX1_sum_1 : decode cX1_sum 1 = .ok (.istore_n 1, 1) := by decide +kernel
theorem dX1_sum_2 : decode cX1_sum 2 = .ok (.iconst 0, 1) := by decide +kernel
theorem dX1_sum_3 : decode cX1_sum 3 = .ok (.istore_n 2, 1) := by decide +kernel
theorem dX1_sum_4 : decode cX1_sum 4 = .ok (.iload_n 2, 1) := by decide +kernel
theorem dX1_sum_5 : decode cX1_sum 5 = .ok (.aload_n 0, 1) := by decide +kernel
theorem dX1_sum_6 : decode cX1_sum 6 = .ok (.arraylength, 1) := by decide +kernel
theorem dX1_sum_7 : decode cX1_sum 7 = .ok (.if_icmp .ge 15, 3) := by decide +kernel
theorem dX1_sum_10 : decode cX1_sum 10 = .ok (.iload_n 1, 1) := by decide +kernel
theorem dX1_sum_11 : decode cX1_sum 11 = .ok (.aload_n 0, 1) := by decide +kernel
theorem dX1_sum_12 : decode cX1_sum 12 = .ok (.iload_n 2, 1) := by decide +kernel
theorem dX1_sum_13 : decode cX1_sum 13 = .ok (.iaload, 1) := by decide +kernel
theorem dX1_sum_14 : decode cX1_sum 14 = .ok (.iadd, 1) := by decide +kernel
theorem dX1_sum_15 : decode cX1_sum 15 = .ok (.istore_n 1, 1) := by decide +kernel
theorem dX1_sum_16 : decode cX1_sum 16 = .ok (.iinc 2 1, 3) := by decide +kernel
theorem dX1_sum_19 : decode cX1_sum 19 = .ok (.goto (-15), 3) := by decide +kernel
theorem dX1_sum_22 : decode cX1_sum 22 = .ok (.iload_n 1, 1) := by decide +kernel
theorem dX1_sum_23 : decode cX1_sum 23 = .ok (.ireturn, 1) := by decide +kernel
theorem dX1_bitsOf_0 : decode cX1_bitsOf 0 = .ok (.fload_n 0, 1) := by decide +kernel
theorem dX1_bitsOf_1 : decode cX1_bitsOf 1 = .ok (.fconst 0, 1) := by decide +kernel
theorem dX1_bitsOf_2 : decode cX1_bitsOf 2 = .ok (.fcmp .g, 1) := by decide +kernel
theorem dX1_bitsOf_3 : decode cX1_bitsOf 3 = .ok (.ifCond .gt 5, 3) := by decide +kernel
theorem dX1_bitsOf_6 : decode cX1_bitsOf 6 = .ok (.iconst 0, 1) := by decide +kernel
theorem dX1_bitsOf_7 : decode cX1_bitsOf 7 = .ok (.ireturn, 1) := by decide +kernel
theorem dX1_bitsOf_8 : decode cX1_bitsOf 8 = .ok (.fload_n 0, 1) := by decide +kernel
theorem dX1_bitsOf_9 : decode cX1_bitsOf 9 = .ok (.fstore_n 1, 1) := by decide +kernel
theorem dX1_bitsOf_10 : decode cX1_bitsOf 10 = .ok (.bipush 127, 2) := by decide +kernel
theorem dX1_bitsOf_12 : decode cX1_bitsOf 12 = .ok (.istore_n 2, 1) := by decide +kernel
theorem dX1_bitsOf_13 : decode cX1_bitsOf 13 = .ok (.iconst 0, 1) := by decide +kernel
theorem dX1_bitsOf_14 : decode cX1_bitsOf 14 = .ok (.istore_n 3, 1) := by decide +kernel
theorem dX1_bitsOf_15 : decode cX1_bitsOf 15 = .ok (.iload_n 3, 1) := by decide +kernel
theorem dX1_bitsOf_16 : decode cX1_bitsOf 16 = .ok (.bipush 126, 2) := by decide +kernel
theorem dX1_bitsOf_18 : decode cX1_bitsOf 18 = .ok (.if_icmp .ge 22, 3) := by decide +kernel
theorem dX1_bitsOf_21 : decode cX1_bitsOf 21 = .ok (.fload_n 1, 1) := by decide +kernel
theorem dX1_bitsOf_22 : decode cX1_bitsOf 22 = .ok (.fconst 1, 1) := by decide +kernel
theorem dX1_bitsOf_23 : decode cX1_bitsOf 23 = .ok (.fcmp .g, 1) := by decide +kernel
theorem dX1_bitsOf_24 : decode cX1_bitsOf 24 = .ok (.ifCond .ge 16, 3) := by decide +kernel
theorem dX1_bitsOf_27 : decode cX1_bitsOf 27 = .ok (.fload_n 1, 1) := by decide +kernel
theorem dX1_bitsOf_28 : decode cX1_bitsOf 28 = .ok (.fconst 2, 1) := by decide +kernel
theorem dX1_bitsOf_29 : decode cX1_bitsOf 29 = .ok (.fmul, 1) := by decide +kernel
theorem dX1_bitsOf_30 : decode cX1_bitsOf 30 = .ok (.fstore_n 1, 1) := by decide +kernel
theorem dX1_bitsOf_31 : decode cX1_bitsOf 31 = .ok (.iinc 2 (-1), 3) := by decide +kernel
theorem dX1_bitsOf_34 : decode cX1_bitsOf 34 = .ok (.iinc 3 1, 3) := by decide +kernel
theorem dX1_bitsOf_37 : decode cX1_bitsOf 37 = .ok (.goto (-22), 3) := by decide +kernel
theorem dX1_bitsOf_40 : decode cX1_bitsOf 40 = .ok (.iconst 0, 1) := by decide +kernel
theorem dX1_bitsOf_41 : decode cX1_bitsOf 41 = .ok (.istore_n 3, 1) := by decide +kernel
theorem dX1_bitsOf_42 : decode cX1_bitsOf 42 = .ok (.iload_n 3, 1) := by decide +kernel
theorem dX1_bitsOf_43 : decode cX1_bitsOf 43 = .ok (.bipush 127, 2) := by decide +kernel
theorem dX1_bitsOf_45 : decode cX1_bitsOf 45 = .ok (.if_icmp .ge 22, 3) := by decide +kernel
theorem dX1_bitsOf_48 : decode cX1_bitsOf 48 = .ok (.fload_n 1, 1) := by decide +kernel
theorem dX1_bitsOf_49 : decode cX1_bitsOf 49 = .ok (.fconst 2, 1) := by decide +kernel
theorem dX1_bitsOf_50 : decode cX1_bitsOf 50 = .ok (.fcmp .l, 1) := by decide +kernel
theorem dX1_bitsOf_51 : decode cX1_bitsOf 51 = .ok (.ifCond .lt 16, 3) := by decide +kernel
theorem dX1_bitsOf_54 : decode cX1_bitsOf 54 = .ok (.fload_n 1, 1) := by decide +kernel
theorem dX1_bitsOf_55 : decode cX1_bitsOf 55 = .ok (.fconst 2, 1) := by decide +kernel
theorem dX1_bitsOf_56 : decode cX1_bitsOf 56 = .ok (.fdiv, 1) := by decide +kernel
theorem dX1_bitsOf_57 : decode cX1_bitsOf 57 = .ok (.fstore_n 1, 1) := by decide +kernel
theorem dX1_bitsOf_58 : decode cX1_bitsOf 58 = .ok (.iinc 2 1, 3) := by decide +kernel
theorem dX1_bitsOf_61 : decode cX1_bitsOf 61 = .ok (.iinc 3 1, 3) := by decide +kernel
theorem dX1_bitsOf_64 : decode cX1_bitsOf 64 = .ok (.goto (-22), 3) := by decide +kernel
theorem dX1_bitsOf_67 : decode cX1_bitsOf 67 = .ok (.fload_n 1, 1) := by decide +kernel
theorem dX1_bitsOf_68 : decode cX1_bitsOf 68 = .ok (.fconst 1, 1) := by decide +kernel
theorem dX1_bitsOf_69 : decode cX1_bitsOf 69 = .ok (.fsub, 1) := by decide +kernel
theorem dX1_bitsOf_70 : decode cX1_bitsOf 70 = .ok (.ldc 193, 2) := by decide +kernel
theorem dX1_bitsOf_72 : decode cX1_bitsOf 72 = .ok (.fmul, 1) := by decide +kernel
theorem dX1_bitsOf_73 : decode cX1_bitsOf 73 = .ok (.f2i, 1) := by decide +kernel
theorem dX1_bitsOf_74 : decode cX1_bitsOf 74 = .ok (.istore_n 3, 1) := by decide +kernel
theorem dX1_bitsOf_75 : decode cX1_bitsOf 75 = .ok (.iload_n 2, 1) := by decide +kernel
theorem dX1_bitsOf_76 : decode cX1_bitsOf 76 = .ok (.bipush 23, 2) := by decide +kernel
theorem dX1_bitsOf_78 : decode cX1_bitsOf 78 = .ok (.ishl, 1) := by decide +kernel
theorem dX1_bitsOf_79 : decode cX1_bitsOf 79 = .ok (.iload_n 3, 1) := by decide +kernel
theorem dX1_bitsOf_80 : decode cX1_bitsOf 80 = .ok (.ior, 1) := by decide +kernel
theorem dX1_bitsOf_81 : decode cX1_bitsOf 81 = .ok (.ireturn, 1) := by decide +kernel
theorem dX2_init_0 : decode cX2_init 0 = .ok (.aload_n 0, 1) := by decide +kernel
theorem dX2_init_1 : decode cX2_init 1 = .ok (.invokespecial 1, 3) := by decide +kernel
theorem dX2_init_4 : decode cX2_init 4 = .ok (.aload_n 0, 1) := by decide +kernel
theorem dX2_init_5 : decode cX2_init 5 = .ok (.sipush 2670, 3) := by decide +kernel
theorem dX2_init_8 : decode cX2_init 8 = .ok (.newarray .int, 2) := by decide +kernel
theorem dX2_init_10 : decode cX2_init 10 = .ok (.putfield 7, 3) := by decide +kernel
theorem dX2_init_13 : decode cX2_init 13 = .ok (.aload_n 0, 1) := by decide +kernel
theorem dX2_init_14 : decode cX2_init 14 = .ok (.sipush 2670, 3) := by decide +kernel
theorem dX2_init_17 : decode cX2_init 17 = .ok (.newarray .int, 2) := by decide +kernel
theorem dX2_init_19 : decode cX2_init 19 = .ok (.putfield 13, 3) := by decide +kernel
theorem dX2_init_22 : decode cX2_init 22 = .ok (.aload_n 0, 1) := by decide +kernel
theorem dX2_init_23 : decode cX2_init 23 = .ok (.sipush 10680, 3) := by decide +kernel
theorem dX2_init_26 : decode cX2_init 26 = .ok (.newarray .int, 2) := by decide +kernel
theorem dX2_init_28 : decode cX2_init 28 = .ok (.putfield 16, 3) := by decide +kernel
theorem dX2_init_31 : decode cX2_init 31 = .ok (.aload_n 0, 1) := by decide +kernel
theorem dX2_init_32 : decode cX2_init 32 = .ok (.bipush 60, 2) := by decide +kernel
theorem dX2_init_34 : decode cX2_init 34 = .ok (.newarray .int, 2) := by decide +kernel
theorem dX2_init_36 : decode cX2_init 36 = .ok (.putfield 19, 3) := by decide +kernel
theorem dX2_init_39 : decode cX2_init 39 = .ok (.aload_n 0, 1) := by decide +kernel
theorem dX2_init_40 : decode cX2_init 40 = .ok (.getfield 7, 3) := by decide +kernel
theorem dX2_init_43 : decode cX2_init 43 = .ok (.bipush 9, 2) := by decide +kernel
theorem dX2_init_45 : decode cX2_init 45 = .ok (.iconst 1, 1) := by decide +kernel
theorem dX2_init_46 : decode cX2_init 46 = .ok (.iastore, 1) := by decide +kernel
theorem dX2_init_47 : decode cX2_init 47 = .ok (.aload_n 0, 1) := by decide +kernel
theorem dX2_init_48 : decode cX2_init 48 = .ok (.iconst 2, 1) := by decide +kernel
theorem dX2_init_49 : decode cX2_init 49 = .ok (.invokevirtual 22, 3) := by decide +kernel
theorem dX2_init_52 : decode cX2_init 52 = .ok (.pop, 1) := by decide +kernel
theorem dX2_init_53 : decode cX2_init 53 = .ok (.return_, 1) := by decide +kernel
theorem dX2_in_0 : decode cX2_in 0 = .ok (.iload_n 0, 1) := by decide +kernel
theorem dX2_in_1 : decode cX2_in 1 = .ok (.iload_n 1, 1) := by decide +kernel
theorem dX2_in_2 : decode cX2_in 2 = .ok (.if_icmp .lt 12, 3) := by decide +kernel
theorem dX2_in_5 : decode cX2_in 5 = .ok (.iload_n 0, 1) := by decide +kernel
theorem dX2_in_6 : decode cX2_in 6 = .ok (.iload_n 2, 1) := by decide +kernel
theorem dX2_in_7 : decode cX2_in 7 = .ok (.if_icmp .gt 7, 3) := by decide +kernel
theorem dX2_in_10 : decode cX2_in 10 = .ok (.iconst 1, 1) := by decide +kernel
theorem dX2_in_11 : decode cX2_in 11 = .ok (.goto 4, 3) := by decide +kernel
theorem dX2_in_14 : decode cX2_in 14 = .ok (.iconst 0, 1) := by decide +kernel
theorem dX2_in_15 : decode cX2_in 15 = .ok (.ireturn, 1) := by decide +kernel
theorem dX2_price_0 : decode cX2_price 0 = .ok (.iload_n 0, 1) := by decide +kernel
theorem dX2_price_1 : decode cX2_price 1 = .ok (.tableswitch 65 1 9 #[51, 53, 56, 58, 65, 61, 61, 63, 51], 51) := by decide +kernel
theorem dX2_price_52 : decode cX2_price 52 = .ok (.iconst 3, 1) := by decide +kernel
theorem dX2_price_53 : decode cX2_price 53 = .ok (.ireturn, 1) := by decide +kernel
theorem dX2_price_54 : decode cX2_price 54 = .ok (.bipush 6, 2) := by decide +kernel
theorem dX2_price_56 : decode cX2_price 56 = .ok (.ireturn, 1) := by decide +kernel
theorem dX2_price_57 : decode cX2_price 57 = .ok (.iconst 2, 1) := by decide +kernel
theorem dX2_price_58 : decode cX2_price 58 = .ok (.ireturn, 1) := by decide +kernel
theorem dX2_price_59 : decode cX2_price 59 = .ok (.bipush 8, 2) := by decide +kernel
theorem dX2_price_61 : decode cX2_price 61 = .ok (.ireturn, 1) := by decide +kernel
theorem dX2_price_62 : decode cX2_price 62 = .ok (.iconst 5, 1) := by decide +kernel
theorem dX2_price_63 : decode cX2_price 63 = .ok (.ireturn, 1) := by decide +kernel
theorem dX2_price_64 : decode cX2_price 64 = .ok (.iconst 4, 1) := by decide +kernel
theorem dX2_price_65 : decode cX2_price 65 = .ok (.ireturn, 1) := by decide +kernel
theorem dX2_price_66 : decode cX2_price 66 = .ok (.iconst 0, 1) := by decide +kernel
theorem dX2_price_67 : decode cX2_price 67 = .ok (.ireturn, 1) := by decide +kernel
theorem dX2_coins_0 : decode cX2_coins 0 = .ok (.iload_n 0, 1) := by decide +kernel
theorem dX2_coins_1 : decode cX2_coins 1 = .ok (.iconst 3, 1) := by decide +kernel
theorem dX2_coins_2 : decode cX2_coins 2 = .ok (.if_icmp .ge 9, 3) := by decide +kernel
theorem dX2_coins_5 : decode cX2_coins 5 = .ok (.iload_n 0, 1) := by decide +kernel
theorem dX2_coins_6 : decode cX2_coins 6 = .ok (.iconst 1, 1) := by decide +kernel
theorem dX2_coins_7 : decode cX2_coins 7 = .ok (.iadd, 1) := by decide +kernel
theorem dX2_coins_8 : decode cX2_coins 8 = .ok (.goto 14, 3) := by decide +kernel
theorem dX2_coins_11 : decode cX2_coins 11 = .ok (.iload_n 0, 1) := by decide +kernel
theorem dX2_coins_12 : decode cX2_coins 12 = .ok (.bipush 7, 2) := by decide +kernel
theorem dX2_coins_14 : decode cX2_coins 14 = .ok (.if_icmp .ne 7, 3) := by decide +kernel
theorem dX2_coins_17 : decode cX2_coins 17 = .ok (.iconst 1, 1) := by decide +kernel
theorem dX2_coins_18 : decode cX2_coins 18 = .ok (.goto 4, 3) := by decide +kernel
theorem dX2_coins_21 : decode cX2_coins 21 = .ok (.iconst 0, 1) := by decide +kernel
theorem dX2_coins_22 : decode cX2_coins 22 = .ok (.ireturn, 1) := by decide +kernel
theorem dX2_cards_0 : decode cX2_cards 0 = .ok (.iload_n 0, 1) := by decide +kernel
theorem dX2_cards_1 : decode cX2_cards 1 = .ok (.bipush 6, 2) := by decide +kernel
theorem dX2_cards_3 : decode cX2_cards 3 = .ok (.if_icmp .eq 9, 3) := by decide +kernel
theorem dX2_cards_6 : decode cX2_cards 6 = .ok (.iload_n 0, 1) := by decide +kernel
theorem dX2_cards_7 : decode cX2_cards 7 = .ok (.bipush 9, 2) := by decide +kernel
theorem dX2_cards_9 : decode cX2_cards 9 = .ok (.if_icmp .ne 7, 3) := by decide +kernel
theorem dX2_cards_12 : decode cX2_cards 12 = .ok (.iconst 2, 1) := by decide +kernel
theorem dX2_cards_13 : decode cX2_cards 13 = .ok (.goto 14, 3) := by decide +kernel
theorem dX2_cards_16 : decode cX2_cards 16 = .ok (.iload_n 0, 1) := by decide +kernel
theorem dX2_cards_17 : decode cX2_cards 17 = .ok (.bipush 7, 2) := by decide +kernel
theorem dX2_cards_19 : decode cX2_cards 19 = .ok (.if_icmp .ne 7, 3) := by decide +kernel
theorem dX2_cards_22 : decode cX2_cards 22 = .ok (.iconst 1, 1) := by decide +kernel
theorem dX2_cards_23 : decode cX2_cards 23 = .ok (.goto 4, 3) := by decide +kernel
theorem dX2_cards_26 : decode cX2_cards 26 = .ok (.iconst 0, 1) := by decide +kernel
theorem dX2_cards_27 : decode cX2_cards 27 = .ok (.ireturn, 1) := by decide +kernel
theorem dX2_pointsOf_0 : decode cX2_pointsOf 0 = .ok (.iload_n 0, 1) := by decide +kernel
theorem dX2_pointsOf_1 : decode cX2_pointsOf 1 = .ok (.iconst 3, 1) := by decide +kernel
theorem dX2_pointsOf_2 : decode cX2_pointsOf 2 = .ok (.if_icmp .ne 7, 3) := by decide +kernel
theorem dX2_pointsOf_5 : decode cX2_pointsOf 5 = .ok (.iconst 1, 1) := by decide +kernel
theorem dX2_pointsOf_6 : decode cX2_pointsOf 6 = .ok (.goto 23, 3) := by decide +kernel
theorem dX2_pointsOf_9 : decode cX2_pointsOf 9 = .ok (.iload_n 0, 1) := by decide +kernel
theorem dX2_pointsOf_10 : decode cX2_pointsOf 10 = .ok (.iconst 4, 1) := by decide +kernel
theorem dX2_pointsOf_11 : decode cX2_pointsOf 11 = .ok (.if_icmp .ne 8, 3) := by decide +kernel
theorem dX2_pointsOf_14 : decode cX2_pointsOf 14 = .ok (.bipush 6, 2) := by decide +kernel
theorem dX2_pointsOf_16 : decode cX2_pointsOf 16 = .ok (.goto 13, 3) := by decide +kernel
theorem dX2_pointsOf_19 : decode cX2_pointsOf 19 = .ok (.iload_n 0, 1) := by decide +kernel
theorem dX2_pointsOf_20 : decode cX2_pointsOf 20 = .ok (.iconst 5, 1) := by decide +kernel
theorem dX2_pointsOf_21 : decode cX2_pointsOf 21 = .ok (.if_icmp .ne 7, 3) := by decide +kernel
theorem dX2_pointsOf_24 : decode cX2_pointsOf 24 = .ok (.iconst (-1), 1) := by decide +kernel
theorem dX2_pointsOf_25 : decode cX2_pointsOf 25 = .ok (.goto 4, 3) := by decide +kernel
theorem dX2_pointsOf_28 : decode cX2_pointsOf 28 = .ok (.iconst 0, 1) := by decide +kernel
theorem dX2_pointsOf_29 : decode cX2_pointsOf 29 = .ok (.ireturn, 1) := by decide +kernel
theorem dX2_inPile_0 : decode cX2_inPile 0 = .ok (.iload_n 0, 1) := by decide +kernel
theorem dX2_inPile_1 : decode cX2_inPile 1 = .ok (.tableswitch 57 0 5 #[39, 42, 45, 48, 51, 54], 39) := by decide +kernel
theorem dX2_inPile_40 : decode cX2_inPile 40 = .ok (.bipush 60, 2) := by decide +kernel
theorem dX2_inPile_42 : decode cX2_inPile 42 = .ok (.ireturn, 1) := by decide +kernel
theorem dX2_inPile_43 : decode cX2_inPile 43 = .ok (.bipush 20, 2) := by decide +kernel
theorem dX2_inPile_45 : decode cX2_inPile 45 = .ok (.ireturn, 1) := by decide +kernel
theorem dX2_inPile_46 : decode cX2_inPile 46 = .ok (.bipush 12, 2) := by decide +kernel
theorem dX2_inPile_48 : decode cX2_inPile 48 = .ok (.ireturn, 1) := by decide +kernel
theorem dX2_inPile_49 : decode cX2_inPile 49 = .ok (.bipush 24, 2) := by decide +kernel
theorem dX2_inPile_51 : decode cX2_inPile 51 = .ok (.ireturn, 1) := by decide +kernel
theorem dX2_inPile_52 : decode cX2_inPile 52 = .ok (.bipush 6, 2) := by decide +kernel
theorem dX2_inPile_54 : decode cX2_inPile 54 = .ok (.ireturn, 1) := by decide +kernel
theorem dX2_inPile_55 : decode cX2_inPile 55 = .ok (.bipush 10, 2) := by decide +kernel
theorem dX2_inPile_57 : decode cX2_inPile 57 = .ok (.ireturn, 1) := by decide +kernel
theorem dX2_inPile_58 : decode cX2_inPile 58 = .ok (.bipush 8, 2) := by decide +kernel
theorem dX2_inPile_60 : decode cX2_inPile 60 = .ok (.ireturn, 1) := by decide +kernel
theorem dX2_placeOf_0 : decode cX2_placeOf 0 = .ok (.bipush 30, 2) := by decide +kernel
theorem dX2_placeOf_2 : decode cX2_placeOf 2 = .ok (.sipush 165, 3) := by decide +kernel
theorem dX2_placeOf_5 : decode cX2_placeOf 5 = .ok (.iconst 4, 1) := by decide +kernel
theorem dX2_placeOf_6 : decode cX2_placeOf 6 = .ok (.iload_n 0, 1) := by decide +kernel
theorem dX2_placeOf_7 : decode cX2_placeOf 7 = .ok (.imul, 1) := by decide +kernel
theorem dX2_placeOf_8 : decode cX2_placeOf 8 = .ok (.iload_n 1, 1) := by decide +kernel
theorem dX2_placeOf_9 : decode cX2_placeOf 9 = .ok (.iadd, 1) := by decide +kernel
theorem dX2_placeOf_10 : decode cX2_placeOf 10 = .ok (.imul, 1) := by decide +kernel
theorem dX2_placeOf_11 : decode cX2_placeOf 11 = .ok (.iadd, 1) := by decide +kernel
theorem dX2_placeOf_12 : decode cX2_placeOf 12 = .ok (.ireturn, 1) := by decide +kernel
theorem dX2_manyAt_0 : decode cX2_manyAt 0 = .ok (.aload_n 0, 1) := by decide +kernel
theorem dX2_manyAt_1 : decode cX2_manyAt 1 = .ok (.getfield 7, 3) := by decide +kernel
theorem dX2_manyAt_4 : decode cX2_manyAt 4 = .ok (.iload_n 1, 1) := by decide +kernel
theorem dX2_manyAt_5 : decode cX2_manyAt 5 = .ok (.iload_n 2, 1) := by decide +kernel
theorem dX2_manyAt_6 : decode cX2_manyAt 6 = .ok (.invokestatic 26, 3) := by decide +kernel
theorem dX2_manyAt_9 : decode cX2_manyAt 9 = .ok (.iaload, 1) := by decide +kernel
theorem dX2_manyAt_10 : decode cX2_manyAt 10 = .ok (.ireturn, 1) := by decide +kernel
theorem dX2_put_0 : decode cX2_put 0 = .ok (.iload_n 1, 1) := by decide +kernel
theorem dX2_put_1 : decode cX2_put 1 = .ok (.iload_n 2, 1) := by decide +kernel
theorem dX2_put_2 : decode cX2_put 2 = .ok (.invokestatic 26, 3) := by decide +kernel
theorem dX2_put_5 : decode cX2_put 5 = .ok (.istore 4, 2) := by decide +kernel
theorem dX2_put_7 : decode cX2_put 7 = .ok (.aload_n 0, 1) := by decide +kernel
theorem dX2_put_8 : decode cX2_put 8 = .ok (.getfield 7, 3) := by decide +kernel
theorem dX2_put_11 : decode cX2_put 11 = .ok (.iload 4, 2) := by decide +kernel
theorem dX2_put_13 : decode cX2_put 13 = .ok (.dup2, 1) := by decide +kernel
theorem dX2_put_14 : decode cX2_put 14 = .ok (.iaload, 1) := by decide +kernel
theorem dX2_put_15 : decode cX2_put 15 = .ok (.iconst 1, 1) := by decide +kernel
theorem dX2_put_16 : decode cX2_put 16 = .ok (.iadd, 1) := by decide +kernel
theorem dX2_put_17 : decode cX2_put 17 = .ok (.iastore, 1) := by decide +kernel
theorem dX2_put_18 : decode cX2_put 18 = .ok (.aload_n 0, 1) := by decide +kernel
theorem dX2_put_19 : decode cX2_put 19 = .ok (.getfield 7, 3) := by decide +kernel
theorem dX2_put_22 : decode cX2_put 22 = .ok (.iload 4, 2) := by decide +kernel
theorem dX2_put_24 : decode cX2_put 24 = .ok (.aload_n 0, 1) := by decide +kernel
theorem dX2_put_25 : decode cX2_put 25 = .ok (.getfield 7, 3) := by decide +kernel
theorem dX2_put_28 : decode cX2_put 28 = .ok (.iload 4, 2) := by decide +kernel
theorem dX2_put_30 : decode cX2_put 30 = .ok (.iaload, 1) := by decide +kernel
theorem dX2_put_31 : decode cX2_put 31 = .ok (.iadd, 1) := by decide +kernel
theorem dX2_put_32 : decode cX2_put 32 = .ok (.iload_n 3, 1) := by decide +kernel
theorem dX2_put_33 : decode cX2_put 33 = .ok (.iastore, 1) := by decide +kernel
theorem dX2_put_34 : decode cX2_put 34 = .ok (.return_, 1) := by decide +kernel
theorem dX2_take_0 : decode cX2_take 0 = .ok (.iload_n 1, 1) := by decide +kernel
theorem dX2_take_1 : decode cX2_take 1 = .ok (.iload_n 2, 1) := by decide +kernel
theorem dX2_take_2 : decode cX2_take 2 = .ok (.invokestatic 26, 3) := by decide +kernel
theorem dX2_take_5 : decode cX2_take 5 = .ok (.istore 4, 2) := by decide +kernel
theorem dX2_take_7 : decode cX2_take 7 = .ok (.aload_n 0, 1) := by decide +kernel
theorem dX2_take_8 : decode cX2_take 8 = .ok (.getfield 7, 3) := by decide +kernel
theorem dX2_take_11 : decode cX2_take 11 = .ok (.iload 4, 2) := by decide +kernel
theorem dX2_take_13 : decode cX2_take 13 = .ok (.iconst 1, 1) := by decide +kernel
theorem dX2_take_14 : decode cX2_take 14 = .ok (.iadd, 1) := by decide +kernel
theorem dX2_take_15 : decode cX2_take 15 = .ok (.iload_n 3, 1) := by decide +kernel
theorem dX2_take_16 : decode cX2_take 16 = .ok (.iadd, 1) := by decide +kernel
theorem dX2_take_17 : decode cX2_take 17 = .ok (.iaload, 1) := by decide +kernel
theorem dX2_take_18 : decode cX2_take 18 = .ok (.istore 5, 2) := by decide +kernel
theorem dX2_take_20 : decode cX2_take 20 = .ok (.aload_n 0, 1) := by decide +kernel
theorem dX2_take_21 : decode cX2_take 21 = .ok (.getfield 7, 3) := by decide +kernel
theorem dX2_take_24 : decode cX2_take 24 = .ok (.iload 4, 2) := by decide +kernel
theorem dX2_take_26 : decode cX2_take 26 = .ok (.dup2, 1) := by decide +kernel
theorem dX2_take_27 : decode cX2_take 27 = .ok (.iaload, 1) := by decide +kernel
theorem dX2_take_28 : decode cX2_take 28 = .ok (.iconst 1, 1) := by decide +kernel
theorem dX2_take_29 : decode cX2_take 29 = .ok (.isub, 1) := by decide +kernel
theorem dX2_take_30 : decode cX2_take 30 = .ok (.iastore, 1) := by decide +kernel
theorem dX2_take_31 : decode cX2_take 31 = .ok (.iload 4, 2) := by decide +kernel
theorem dX2_take_33 : decode cX2_take 33 = .ok (.iconst 1, 1) := by decide +kernel
theorem dX2_take_34 : decode cX2_take 34 = .ok (.iadd, 1) := by decide +kernel
theorem dX2_take_35 : decode cX2_take 35 = .ok (.iload_n 3, 1) := by decide +kernel
theorem dX2_take_36 : decode cX2_take 36 = .ok (.iadd, 1) := by decide +kernel
theorem dX2_take_37 : decode cX2_take 37 = .ok (.istore 6, 2) := by decide +kernel
theorem dX2_take_39 : decode cX2_take 39 = .ok (.iload 6, 2) := by decide +kernel
theorem dX2_take_41 : decode cX2_take 41 = .ok (.iload 4, 2) := by decide +kernel
theorem dX2_take_43 : decode cX2_take 43 = .ok (.aload_n 0, 1) := by decide +kernel
theorem dX2_take_44 : decode cX2_take 44 = .ok (.getfield 7, 3) := by decide +kernel
theorem dX2_take_47 : decode cX2_take 47 = .ok (.iload 4, 2) := by decide +kernel
theorem dX2_take_49 : decode cX2_take 49 = .ok (.iaload, 1) := by decide +kernel
theorem dX2_take_50 : decode cX2_take 50 = .ok (.iadd, 1) := by decide +kernel
theorem dX2_take_51 : decode cX2_take 51 = .ok (.if_icmp .gt 25, 3) := by decide +kernel
theorem dX2_take_54 : decode cX2_take 54 = .ok (.aload_n 0, 1) := by decide +kernel
theorem dX2_take_55 : decode cX2_take 55 = .ok (.getfield 7, 3) := by decide +kernel
theorem dX2_take_58 : decode cX2_take 58 = .ok (.iload 6, 2) := by decide +kernel
theorem dX2_take_60 : decode cX2_take 60 = .ok (.aload_n 0, 1) := by decide +kernel
theorem dX2_take_61 : decode cX2_take 61 = .ok (.getfield 7, 3) := by decide +kernel
theorem dX2_take_64 : decode cX2_take 64 = .ok (.iload 6, 2) := by decide +kernel
theorem dX2_take_66 : decode cX2_take 66 = .ok (.iconst 1, 1) := by decide +kernel
theorem dX2_take_67 : decode cX2_take 67 = .ok (.iadd, 1) := by decide +kernel
theorem dX2_take_68 : decode cX2_take 68 = .ok (.iaload, 1) := by decide +kernel
theorem dX2_take_69 : decode cX2_take 69 = .ok (.iastore, 1) := by decide +kernel
theorem dX2_take_70 : decode cX2_take 70 = .ok (.iinc 6 1, 3) := by decide +kernel
theorem dX2_take_73 : decode cX2_take 73 = .ok (.goto (-34), 3) := by decide +kernel
theorem dX2_take_76 : decode cX2_take 76 = .ok (.iload 5, 2) := by decide +kernel
theorem dX2_take_78 : decode cX2_take 78 = .ok (.ireturn, 1) := by decide +kernel
theorem dX2_moveAll_0 : decode cX2_moveAll 0 = .ok (.iload_n 1, 1) := by decide +kernel
theorem dX2_moveAll_1 : decode cX2_moveAll 1 = .ok (.iload_n 2, 1) := by decide +kernel
theorem dX2_moveAll_2 : decode cX2_moveAll 2 = .ok (.invokestatic 26, 3) := by decide +kernel
theorem dX2_moveAll_5 : decode cX2_moveAll 5 = .ok (.istore 4, 2) := by decide +kernel
theorem dX2_moveAll_7 : decode cX2_moveAll 7 = .ok (.iconst 1, 1) := by decide +kernel
theorem dX2_moveAll_8 : decode cX2_moveAll 8 = .ok (.istore 5, 2) := by decide +kernel
theorem dX2_moveAll_10 : decode cX2_moveAll 10 = .ok (.iload 5, 2) := by decide +kernel
theorem dX2_moveAll_12 : decode cX2_moveAll 12 = .ok (.aload_n 0, 1) := by decide +kernel
theorem dX2_moveAll_13 : decode cX2_moveAll 13 = .ok (.getfield 7, 3) := by decide +kernel
theorem dX2_moveAll_16 : decode cX2_moveAll 16 = .ok (.iload 4, 2) := by decide +kernel
theorem dX2_moveAll_18 : decode cX2_moveAll 18 = .ok (.iaload, 1) := by decide +kernel
theorem dX2_moveAll_19 : decode cX2_moveAll 19 = .ok (.if_icmp .gt 25, 3) := by decide +kernel
theorem dX2_moveAll_22 : decode cX2_moveAll 22 = .ok (.aload_n 0, 1) := by decide +kernel
theorem dX2_moveAll_23 : decode cX2_moveAll 23 = .ok (.iload_n 1, 1) := by decide +kernel
theorem dX2_moveAll_24 : decode cX2_moveAll 24 = .ok (.iload_n 3, 1) := by decide +kernel
theorem dX2_moveAll_25 : decode cX2_moveAll 25 = .ok (.aload_n 0, 1) := by decide +kernel
theorem dX2_moveAll_26 : decode cX2_moveAll 26 = .ok (.getfield 7, 3) := by decide +kernel
theorem dX2_moveAll_29 : decode cX2_moveAll 29 = .ok (.iload 4, 2) := by decide +kernel
theorem dX2_moveAll_31 : decode cX2_moveAll 31 = .ok (.iload 5, 2) := by decide +kernel
theorem dX2_moveAll_33 : decode cX2_moveAll 33 = .ok (.iadd, 1) := by decide +kernel
theorem dX2_moveAll_34 : decode cX2_moveAll 34 = .ok (.iaload, 1) := by decide +kernel
theorem dX2_moveAll_35 : decode cX2_moveAll 35 = .ok (.invokevirtual 30, 3) := by decide +kernel
theorem dX2_moveAll_38 : decode cX2_moveAll 38 = .ok (.iinc 5 1, 3) := by decide +kernel
theorem dX2_moveAll_41 : decode cX2_moveAll 41 = .ok (.goto (-31), 3) := by decide +kernel
theorem dX2_moveAll_44 : decode cX2_moveAll 44 = .ok (.aload_n 0, 1) := by decide +kernel
theorem dX2_moveAll_45 : decode cX2_moveAll 45 = .ok (.getfield 7, 3) := by decide +kernel
theorem dX2_moveAll_48 : decode cX2_moveAll 48 = .ok (.iload 4, 2) := by decide +kernel
theorem dX2_moveAll_50 : decode cX2_moveAll 50 = .ok (.iconst 0, 1) := by decide +kernel
theorem dX2_moveAll_51 : decode cX2_moveAll 51 = .ok (.iastore, 1) := by decide +kernel
theorem dX2_moveAll_52 : decode cX2_moveAll 52 = .ok (.return_, 1) := by decide +kernel
theorem dX2_draw_0 : decode cX2_draw 0 = .ok (.iconst 0, 1) := by decide +kernel
theorem dX2_draw_1 : decode cX2_draw 1 = .ok (.istore_n 3, 1) := by decide +kernel
theorem dX2_draw_2 : decode cX2_draw 2 = .ok (.iload_n 3, 1) := by decide +kernel
theorem dX2_draw_3 : decode cX2_draw 3 = .ok (.iload_n 2, 1) := by decide +kernel
theorem dX2_draw_4 : decode cX2_draw 4 = .ok (.if_icmp .ge 47, 3) := by decide +kernel
theorem dX2_draw_7 : decode cX2_draw 7 = .ok (.aload_n 0, 1) := by decide +kernel
theorem dX2_draw_8 : decode cX2_draw 8 = .ok (.iload_n 1, 1) := by decide +kernel
theorem dX2_draw_9 : decode cX2_draw 9 = .ok (.iconst 0, 1) := by decide +kernel
theorem dX2_draw_10 : decode cX2_draw 10 = .ok (.invokevirtual 34, 3) := by decide +kernel
theorem dX2_draw_13 : decode cX2_draw 13 = .ok (.ifCond .ne 10, 3) := by decide +kernel
theorem dX2_draw_16 : decode cX2_draw 16 = .ok (.aload_n 0, 1) := by decide +kernel
theorem dX2_draw_17 : decode cX2_draw 17 = .ok (.iload_n 1, 1) := by decide +kernel
theorem dX2_draw_18 : decode cX2_draw 18 = .ok (.iconst 3, 1) := by decide +kernel
theorem dX2_draw_19 : decode cX2_draw 19 = .ok (.iconst 0, 1) := by decide +kernel
theorem dX2_draw_20 : decode cX2_draw 20 = .ok (.invokevirtual 37, 3) := by decide +kernel
theorem dX2_draw_23 : decode cX2_draw 23 = .ok (.aload_n 0, 1) := by decide +kernel
theorem dX2_draw_24 : decode cX2_draw 24 = .ok (.iload_n 1, 1) := by decide +kernel
theorem dX2_draw_25 : decode cX2_draw 25 = .ok (.iconst 0, 1) := by decide +kernel
theorem dX2_draw_26 : decode cX2_draw 26 = .ok (.invokevirtual 34, 3) := by decide +kernel
theorem dX2_draw_29 : decode cX2_draw 29 = .ok (.ifCond .le 16, 3) := by decide +kernel
theorem dX2_draw_32 : decode cX2_draw 32 = .ok (.aload_n 0, 1) := by decide +kernel
theorem dX2_draw_33 : decode cX2_draw 33 = .ok (.iload_n 1, 1) := by decide +kernel
theorem dX2_draw_34 : decode cX2_draw 34 = .ok (.iconst 1, 1) := by decide +kernel
theorem dX2_draw_35 : decode cX2_draw 35 = .ok (.aload_n 0, 1) := by decide +kernel
theorem dX2_draw_36 : decode cX2_draw 36 = .ok (.iload_n 1, 1) := by decide +kernel
theorem dX2_draw_37 : decode cX2_draw 37 = .ok (.iconst 0, 1) := by decide +kernel
theorem dX2_draw_38 : decode cX2_draw 38 = .ok (.iconst 0, 1) := by decide +kernel
theorem dX2_draw_39 : decode cX2_draw 39 = .ok (.invokevirtual 40, 3) := by decide +kernel
theorem dX2_draw_42 : decode cX2_draw 42 = .ok (.invokevirtual 30, 3) := by decide +kernel
theorem dX2_draw_45 : decode cX2_draw 45 = .ok (.iinc 3 1, 3) := by decide +kernel
theorem dX2_draw_48 : decode cX2_draw 48 = .ok (.goto (-46), 3) := by decide +kernel
theorem dX2_draw_51 : decode cX2_draw 51 = .ok (.return_, 1) := by decide +kernel
theorem dX2_know_0 : decode cX2_know 0 = .ok (.aload_n 0, 1) := by decide +kernel
theorem dX2_know_1 : decode cX2_know 1 = .ok (.getfield 44, 3) := by decide +kernel
theorem dX2_know_4 : decode cX2_know 4 = .ok (.iconst 4, 1) := by decide +kernel
theorem dX2_know_5 : decode cX2_know 5 = .ok (.if_icmp .ne 44, 3) := by decide +kernel
theorem dX2_know_8 : decode cX2_know 8 = .ok (.iconst 0, 1) := by decide +kernel
theorem dX2_know_9 : decode cX2_know 9 = .ok (.istore_n 1, 1) := by decide +kernel
theorem dX2_know_10 : decode cX2_know 10 = .ok (.iload_n 1, 1) := by decide +kernel
theorem dX2_know_11 : decode cX2_know 11 = .ok (.sipush 8010, 3) := by decide +kernel
theorem dX2_know_14 : decode cX2_know 14 = .ok (.if_icmp .ge 25, 3) := by decide +kernel
theorem dX2_know_17 : decode cX2_know 17 = .ok (.aload_n 0, 1) := by decide +kernel
theorem dX2_know_18 : decode cX2_know 18 = .ok (.getfield 16, 3) := by decide +kernel
theorem dX2_know_21 : decode cX2_know 21 = .ok (.iload_n 1, 1) := by decide +kernel
theorem dX2_know_22 : decode cX2_know 22 = .ok (.aload_n 0, 1) := by decide +kernel
theorem dX2_know_23 : decode cX2_know 23 = .ok (.getfield 16, 3) := by decide +kernel
theorem dX2_know_26 : decode cX2_know 26 = .ok (.sipush 2670, 3) := by decide +kernel
theorem dX2_know_29 : decode cX2_know 29 = .ok (.iload_n 1, 1) := by decide +kernel
theorem dX2_know_30 : decode cX2_know 30 = .ok (.iadd, 1) := by decide +kernel
theorem dX2_know_31 : decode cX2_know 31 = .ok (.iaload, 1) := by decide +kernel
theorem dX2_know_32 : decode cX2_know 32 = .ok (.iastore, 1) := by decide +kernel
theorem dX2_know_33 : decode cX2_know 33 = .ok (.iinc 1 1, 3) := by decide +kernel
theorem dX2_know_36 : decode cX2_know 36 = .ok (.goto (-26), 3) := by decide +kernel
theorem dX2_know_39 : decode cX2_know 39 = .ok (.aload_n 0, 1) := by decide +kernel
theorem dX2_know_40 : decode cX2_know 40 = .ok (.dup, 1) := by decide +kernel
theorem dX2_know_41 : decode cX2_know 41 = .ok (.getfield 44, 3) := by decide +kernel
theorem dX2_know_44 : decode cX2_know 44 = .ok (.iconst 1, 1) := by decide +kernel
theorem dX2_know_45 : decode cX2_know 45 = .ok (.isub, 1) := by decide +kernel
theorem dX2_know_46 : decode cX2_know 46 = .ok (.putfield 44, 3) := by decide +kernel
theorem dX2_know_49 : decode cX2_know 49 = .ok (.iconst 0, 1) := by decide +kernel
theorem dX2_know_50 : decode cX2_know 50 = .ok (.istore_n 1, 1) := by decide +kernel
theorem dX2_know_51 : decode cX2_know 51 = .ok (.iload_n 1, 1) := by decide +kernel
theorem dX2_know_52 : decode cX2_know 52 = .ok (.sipush 2670, 3) := by decide +kernel
theorem dX2_know_55 : decode cX2_know 55 = .ok (.if_icmp .ge 30, 3) := by decide +kernel
theorem dX2_know_58 : decode cX2_know 58 = .ok (.aload_n 0, 1) := by decide +kernel
theorem dX2_know_59 : decode cX2_know 59 = .ok (.getfield 16, 3) := by decide +kernel
theorem dX2_know_62 : decode cX2_know 62 = .ok (.sipush 2670, 3) := by decide +kernel
theorem dX2_know_65 : decode cX2_know 65 = .ok (.aload_n 0, 1) := by decide +kernel
theorem dX2_know_66 : decode cX2_know 66 = .ok (.getfield 44, 3) := by decide +kernel
theorem dX2_know_69 : decode cX2_know 69 = .ok (.imul, 1) := by decide +kernel
theorem dX2_know_70 : decode cX2_know 70 = .ok (.iload_n 1, 1) := by decide +kernel
theorem dX2_know_71 : decode cX2_know 71 = .ok (.iadd, 1) := by decide +kernel
theorem dX2_know_72 : decode cX2_know 72 = .ok (.aload_n 0, 1) := by decide +kernel
theorem dX2_know_73 : decode cX2_know 73 = .ok (.getfield 7, 3) := by decide +kernel
theorem dX2_know_76 : decode cX2_know 76 = .ok (.iload_n 1, 1) := by decide +kernel
theorem dX2_know_77 : decode cX2_know 77 = .ok (.iaload, 1) := by decide +kernel
theorem dX2_know_78 : decode cX2_know 78 = .ok (.iastore, 1) := by decide +kernel
theorem dX2_know_79 : decode cX2_know 79 = .ok (.iinc 1 1, 3) := by decide +kernel
theorem dX2_know_82 : decode cX2_know 82 = .ok (.goto (-31), 3) := by decide +kernel
theorem dX2_know_85 : decode cX2_know 85 = .ok (.aload_n 0, 1) := by decide +kernel
theorem dX2_know_86 : decode cX2_know 86 = .ok (.dup, 1) := by decide +kernel
theorem dX2_know_87 : decode cX2_know 87 = .ok (.getfield 44, 3) := by decide +kernel
theorem dX2_know_90 : decode cX2_know 90 = .ok (.iconst 1, 1) := by decide +kernel
theorem dX2_know_91 : decode cX2_know 91 = .ok (.iadd, 1) := by decide +kernel
theorem dX2_know_92 : decode cX2_know 92 = .ok (.putfield 44, 3) := by decide +kernel
theorem dX2_know_95 : decode cX2_know 95 = .ok (.return_, 1) := by decide +kernel
theorem dX2_putAside_0 : decode cX2_putAside 0 = .ok (.iconst 0, 1) := by decide +kernel
theorem dX2_putAside_1 : decode cX2_putAside 1 = .ok (.istore_n 1, 1) := by decide +kernel
theorem dX2_putAside_2 : decode cX2_putAside 2 = .ok (.iload_n 1, 1) := by decide +kernel
theorem dX2_putAside_3 : decode cX2_putAside 3 = .ok (.sipush 2670, 3) := by decide +kernel
theorem dX2_putAside_6 : decode cX2_putAside 6 = .ok (.if_icmp .ge 21, 3) := by decide +kernel
theorem dX2_putAside_9 : decode cX2_putAside 9 = .ok (.aload_n 0, 1) := by decide +kernel
theorem dX2_putAside_10 : decode cX2_putAside 10 = .ok (.getfield 13, 3) := by decide +kernel
theorem dX2_putAside_13 : decode cX2_putAside 13 = .ok (.iload_n 1, 1) := by decide +kernel
theorem dX2_putAside_14 : decode cX2_putAside 14 = .ok (.aload_n 0, 1) := by decide +kernel
theorem dX2_putAside_15 : decode cX2_putAside 15 = .ok (.getfield 7, 3) := by decide +kernel
theorem dX2_putAside_18 : decode cX2_putAside 18 = .ok (.iload_n 1, 1) := by decide +kernel
theorem dX2_putAside_19 : decode cX2_putAside 19 = .ok (.iaload, 1) := by decide +kernel
theorem dX2_putAside_20 : decode cX2_putAside 20 = .ok (.iastore, 1) := by decide +kernel
theorem dX2_putAside_21 : decode cX2_putAside 21 = .ok (.iinc 1 1, 3) := by decide +kernel
theorem dX2_putAside_24 : decode cX2_putAside 24 = .ok (.goto (-22), 3) := by decide +kernel
theorem dX2_putAside_27 : decode cX2_putAside 27 = .ok (.return_, 1) := by decide +kernel
theorem dX2_putBack_0 : decode cX2_putBack 0 = .ok (.iconst 0, 1) := by decide +kernel
theorem dX2_putBack_1 : decode cX2_putBack 1 = .ok (.istore_n 1, 1) := by decide +kernel
theorem dX2_putBack_2 : decode cX2_putBack 2 = .ok (.iload_n 1, 1) := by decide +kernel
theorem dX2_putBack_3 : decode cX2_putBack 3 = .ok (.sipush 2670, 3) := by decide +kernel
theorem dX2_putBack_6 : decode cX2_putBack 6 = .ok (.if_icmp .ge 21, 3) := by decide +kernel
theorem dX2_putBack_9 : decode cX2_putBack 9 = .ok (.aload_n 0, 1) := by decide +kernel
theorem dX2_putBack_10 : decode cX2_putBack 10 = .ok (.getfield 7, 3) := by decide +kernel
theorem dX2_putBack_13 : decode cX2_putBack 13 = .ok (.iload_n 1, 1) := by decide +kernel
theorem dX2_putBack_14 : decode cX2_putBack 14 = .ok (.aload_n 0, 1) := by decide +kernel
theorem dX2_putBack_15 : decode cX2_putBack 15 = .ok (.getfield 13, 3) := by decide +kernel
theorem dX2_putBack_18 : decode cX2_putBack 18 = .ok (.iload_n 1, 1) := by decide +kernel
theorem dX2_putBack_19 : decode cX2_putBack 19 = .ok (.iaload, 1) := by decide +kernel
theorem dX2_putBack_20 : decode cX2_putBack 20 = .ok (.iastore, 1) := by decide +kernel
theorem dX2_putBack_21 : decode cX2_putBack 21 = .ok (.iinc 1 1, 3) := by decide +kernel
theorem dX2_putBack_24 : decode cX2_putBack 24 = .ok (.goto (-22), 3) := by decide +kernel
theorem dX2_putBack_27 : decode cX2_putBack 27 = .ok (.return_, 1) := by decide +kernel
theorem dX2_isInHand_0 : decode cX2_isInHand 0 = .ok (.iload_n 1, 1) := by decide +kernel
theorem dX2_isInHand_1 : decode cX2_isInHand 1 = .ok (.iconst 0, 1) := by decide +kernel
theorem dX2_isInHand_2 : decode cX2_isInHand 2 = .ok (.aload_n 0, 1) := by decide +kernel
theorem dX2_isInHand_3 : decode cX2_isInHand 3 = .ok (.aload_n 0, 1) := by decide +kernel
theorem dX2_isInHand_4 : decode cX2_isInHand 4 = .ok (.getfield 7, 3) := by decide +kernel
theorem dX2_isInHand_7 : decode cX2_isInHand 7 = .ok (.iconst 1, 1) := by decide +kernel
theorem dX2_isInHand_8 : decode cX2_isInHand 8 = .ok (.iaload, 1) := by decide +kernel
theorem dX2_isInHand_9 : decode cX2_isInHand 9 = .ok (.iconst 1, 1) := by decide +kernel
theorem dX2_isInHand_10 : decode cX2_isInHand 10 = .ok (.invokevirtual 34, 3) := by decide +kernel
theorem dX2_isInHand_13 : decode cX2_isInHand 13 = .ok (.iconst 1, 1) := by decide +kernel
theorem dX2_isInHand_14 : decode cX2_isInHand 14 = .ok (.isub, 1) := by decide +kernel
theorem dX2_isInHand_15 : decode cX2_isInHand 15 = .ok (.invokestatic 48, 3) := by decide +kernel
theorem dX2_isInHand_18 : decode cX2_isInHand 18 = .ok (.ireturn, 1) := by decide +kernel
theorem dX2_inHand_0 : decode cX2_inHand 0 = .ok (.aload_n 0, 1) := by decide +kernel
theorem dX2_inHand_1 : decode cX2_inHand 1 = .ok (.getfield 7, 3) := by decide +kernel
theorem dX2_inHand_4 : decode cX2_inHand 4 = .ok (.aload_n 0, 1) := by decide +kernel
theorem dX2_inHand_5 : decode cX2_inHand 5 = .ok (.getfield 7, 3) := by decide +kernel
theorem dX2_inHand_8 : decode cX2_inHand 8 = .ok (.iconst 1, 1) := by decide +kernel
theorem dX2_inHand_9 : decode cX2_inHand 9 = .ok (.iaload, 1) := by decide +kernel
theorem dX2_inHand_10 : decode cX2_inHand 10 = .ok (.iconst 1, 1) := by decide +kernel
theorem dX2_inHand_11 : decode cX2_inHand 11 = .ok (.invokestatic 26, 3) := by decide +kernel
theorem dX2_inHand_14 : decode cX2_inHand 14 = .ok (.iconst 1, 1) := by decide +kernel
theorem dX2_inHand_15 : decode cX2_inHand 15 = .ok (.iadd, 1) := by decide +kernel
theorem dX2_inHand_16 : decode cX2_inHand 16 = .ok (.iload_n 1, 1) := by decide +kernel
theorem dX2_inHand_17 : decode cX2_inHand 17 = .ok (.iadd, 1) := by decide +kernel
theorem dX2_inHand_18 : decode cX2_inHand 18 = .ok (.iaload, 1) := by decide +kernel
theorem dX2_inHand_19 : decode cX2_inHand 19 = .ok (.ireturn, 1) := by decide +kernel
theorem dX2_begins_0 : decode cX2_begins 0 = .ok (.aload_n 0, 1) := by decide +kernel
theorem dX2_begins_1 : decode cX2_begins 1 = .ok (.getfield 7, 3) := by decide +kernel
theorem dX2_begins_4 : decode cX2_begins 4 = .ok (.bipush 9, 2) := by decide +kernel
theorem dX2_begins_6 : decode cX2_begins 6 = .ok (.iaload, 1) := by decide +kernel
theorem dX2_begins_7 : decode cX2_begins 7 = .ok (.istore_n 2, 1) := by decide +kernel
theorem dX2_begins_8 : decode cX2_begins 8 = .ok (.iconst 0, 1) := by decide +kernel
theorem dX2_begins_9 : decode cX2_begins 9 = .ok (.istore_n 3, 1) := by decide +kernel
theorem dX2_begins_10 : decode cX2_begins 10 = .ok (.iload_n 3, 1) := by decide +kernel
theorem dX2_begins_11 : decode cX2_begins 11 = .ok (.sipush 2670, 3) := by decide +kernel
theorem dX2_begins_14 : decode cX2_begins 14 = .ok (.if_icmp .ge 16, 3) := by decide +kernel
theorem dX2_begins_17 : decode cX2_begins 17 = .ok (.aload_n 0, 1) := by decide +kernel
theorem dX2_begins_18 : decode cX2_begins 18 = .ok (.getfield 7, 3) := by decide +kernel
theorem dX2_begins_21 : decode cX2_begins 21 = .ok (.iload_n 3, 1) := by decide +kernel
theorem dX2_begins_22 : decode cX2_begins 22 = .ok (.iconst 0, 1) := by decide +kernel
theorem dX2_begins_23 : decode cX2_begins 23 = .ok (.iastore, 1) := by decide +kernel
theorem dX2_begins_24 : decode cX2_begins 24 = .ok (.iinc 3 1, 3) := by decide +kernel
theorem dX2_begins_27 : decode cX2_begins 27 = .ok (.goto (-17), 3) := by decide +kernel
theorem dX2_begins_30 : decode cX2_begins 30 = .ok (.aload_n 0, 1) := by decide +kernel
theorem dX2_begins_31 : decode cX2_begins 31 = .ok (.getfield 7, 3) := by decide +kernel
theorem dX2_begins_34 : decode cX2_begins 34 = .ok (.bipush 9, 2) := by decide +kernel
theorem dX2_begins_36 : decode cX2_begins 36 = .ok (.iload_n 2, 1) := by decide +kernel
theorem dX2_begins_37 : decode cX2_begins 37 = .ok (.iastore, 1) := by decide +kernel
theorem dX2_begins_38 : decode cX2_begins 38 = .ok (.aload_n 0, 1) := by decide +kernel
theorem dX2_begins_39 : decode cX2_begins 39 = .ok (.getfield 7, 3) := by decide +kernel
theorem dX2_begins_42 : decode cX2_begins 42 = .ok (.iconst 0, 1) := by decide +kernel
theorem dX2_begins_43 : decode cX2_begins 43 = .ok (.iload_n 1, 1) := by decide +kernel
theorem dX2_begins_44 : decode cX2_begins 44 = .ok (.iastore, 1) := by decide +kernel
theorem dX2_begins_45 : decode cX2_begins 45 = .ok (.aload_n 0, 1) := by decide +kernel
theorem dX2_begins_46 : decode cX2_begins 46 = .ok (.getfield 7, 3) := by decide +kernel
theorem dX2_begins_49 : decode cX2_begins 49 = .ok (.iconst 3, 1) := by decide +kernel
theorem dX2_begins_50 : decode cX2_begins 50 = .ok (.iconst 1, 1) := by decide +kernel
theorem dX2_begins_51 : decode cX2_begins 51 = .ok (.iastore, 1) := by decide +kernel
theorem dX2_begins_52 : decode cX2_begins 52 = .ok (.aload_n 0, 1) := by decide +kernel
theorem dX2_begins_53 : decode cX2_begins 53 = .ok (.getfield 7, 3) := by decide +kernel
theorem dX2_begins_56 : decode cX2_begins 56 = .ok (.iconst 4, 1) := by decide +kernel
theorem dX2_begins_57 : decode cX2_begins 57 = .ok (.iconst 1, 1) := by decide +kernel
theorem dX2_begins_58 : decode cX2_begins 58 = .ok (.iastore, 1) := by decide +kernel
theorem dX2_begins_59 : decode cX2_begins 59 = .ok (.iconst 0, 1) := by decide +kernel
theorem dX2_begins_60 : decode cX2_begins 60 = .ok (.istore_n 3, 1) := by decide +kernel
theorem dX2_begins_61 : decode cX2_begins 61 = .ok (.iload_n 3, 1) := by decide +kernel
theorem dX2_begins_62 : decode cX2_begins 62 = .ok (.bipush 10, 2) := by decide +kernel
theorem dX2_begins_64 : decode cX2_begins 64 = .ok (.if_icmp .ge 22, 3) := by decide +kernel
theorem dX2_begins_67 : decode cX2_begins 67 = .ok (.aload_n 0, 1) := by decide +kernel
theorem dX2_begins_68 : decode cX2_begins 68 = .ok (.getfield 7, 3) := by decide +kernel
theorem dX2_begins_71 : decode cX2_begins 71 = .ok (.bipush 10, 2) := by decide +kernel
theorem dX2_begins_73 : decode cX2_begins 73 = .ok (.iload_n 3, 1) := by decide +kernel
theorem dX2_begins_74 : decode cX2_begins 74 = .ok (.iadd, 1) := by decide +kernel
theorem dX2_begins_75 : decode cX2_begins 75 = .ok (.iload_n 3, 1) := by decide +kernel
theorem dX2_begins_76 : decode cX2_begins 76 = .ok (.invokestatic 52, 3) := by decide +kernel
theorem dX2_begins_79 : decode cX2_begins 79 = .ok (.iastore, 1) := by decide +kernel
theorem dX2_begins_80 : decode cX2_begins 80 = .ok (.iinc 3 1, 3) := by decide +kernel
theorem dX2_begins_83 : decode cX2_begins 83 = .ok (.goto (-22), 3) := by decide +kernel
theorem dX2_begins_86 : decode cX2_begins 86 = .ok (.iconst 0, 1) := by decide +kernel
theorem dX2_begins_87 : decode cX2_begins 87 = .ok (.istore_n 3, 1) := by decide +kernel
theorem dX2_begins_88 : decode cX2_begins 88 = .ok (.iload_n 3, 1) := by decide +kernel
theorem dX2_begins_89 : decode cX2_begins 89 = .ok (.iload_n 1, 1) := by decide +kernel
theorem dX2_begins_90 : decode cX2_begins 90 = .ok (.if_icmp .ge 68, 3) := by decide +kernel
theorem dX2_begins_93 : decode cX2_begins 93 = .ok (.iconst 0, 1) := by decide +kernel
theorem dX2_begins_94 : decode cX2_begins 94 = .ok (.istore 4, 2) := by decide +kernel
theorem dX2_begins_96 : decode cX2_begins 96 = .ok (.iload 4, 2) := by decide +kernel
theorem dX2_begins_98 : decode cX2_begins 98 = .ok (.bipush 10, 2) := by decide +kernel
theorem dX2_begins_100 : decode cX2_begins 100 = .ok (.if_icmp .ge 46, 3) := by decide +kernel
theorem dX2_begins_103 : decode cX2_begins 103 = .ok (.iload 4, 2) := by decide +kernel
theorem dX2_begins_105 : decode cX2_begins 105 = .ok (.iconst 3, 1) := by decide +kernel
theorem dX2_begins_106 : decode cX2_begins 106 = .ok (.irem, 1) := by decide +kernel
theorem dX2_begins_107 : decode cX2_begins 107 = .ok (.iconst 2, 1) := by decide +kernel
theorem dX2_begins_108 : decode cX2_begins 108 = .ok (.if_icmp .ne 7, 3) := by decide +kernel
theorem dX2_begins_111 : decode cX2_begins 111 = .ok (.iconst 3, 1) := by decide +kernel
theorem dX2_begins_112 : decode cX2_begins 112 = .ok (.goto 4, 3) := by decide +kernel
theorem dX2_begins_115 : decode cX2_begins 115 = .ok (.iconst 0, 1) := by decide +kernel
theorem dX2_begins_116 : decode cX2_begins 116 = .ok (.istore 5, 2) := by decide +kernel
theorem dX2_begins_118 : decode cX2_begins 118 = .ok (.aload_n 0, 1) := by decide +kernel
theorem dX2_begins_119 : decode cX2_begins 119 = .ok (.getfield 7, 3) := by decide +kernel
theorem dX2_begins_122 : decode cX2_begins 122 = .ok (.bipush 10, 2) := by decide +kernel
theorem dX2_begins_124 : decode cX2_begins 124 = .ok (.iload 5, 2) := by decide +kernel
theorem dX2_begins_126 : decode cX2_begins 126 = .ok (.iadd, 1) := by decide +kernel
theorem dX2_begins_127 : decode cX2_begins 127 = .ok (.dup2, 1) := by decide +kernel
theorem dX2_begins_128 : decode cX2_begins 128 = .ok (.iaload, 1) := by decide +kernel
theorem dX2_begins_129 : decode cX2_begins 129 = .ok (.iconst 1, 1) := by decide +kernel
theorem dX2_begins_130 : decode cX2_begins 130 = .ok (.isub, 1) := by decide +kernel
theorem dX2_begins_131 : decode cX2_begins 131 = .ok (.iastore, 1) := by decide +kernel
theorem dX2_begins_132 : decode cX2_begins 132 = .ok (.aload_n 0, 1) := by decide +kernel
theorem dX2_begins_133 : decode cX2_begins 133 = .ok (.iload_n 3, 1) := by decide +kernel
theorem dX2_begins_134 : decode cX2_begins 134 = .ok (.iconst 0, 1) := by decide +kernel
theorem dX2_begins_135 : decode cX2_begins 135 = .ok (.iload 5, 2) := by decide +kernel
theorem dX2_begins_137 : decode cX2_begins 137 = .ok (.invokevirtual 30, 3) := by decide +kernel
theorem dX2_begins_140 : decode cX2_begins 140 = .ok (.iinc 4 1, 3) := by decide +kernel
theorem dX2_begins_143 : decode cX2_begins 143 = .ok (.goto (-47), 3) := by decide +kernel
theorem dX2_begins_146 : decode cX2_begins 146 = .ok (.aload_n 0, 1) := by decide +kernel
theorem dX2_begins_147 : decode cX2_begins 147 = .ok (.iload_n 3, 1) := by decide +kernel
theorem dX2_begins_148 : decode cX2_begins 148 = .ok (.iconst 5, 1) := by decide +kernel
theorem dX2_begins_149 : decode cX2_begins 149 = .ok (.invokevirtual 55, 3) := by decide +kernel
theorem dX2_begins_152 : decode cX2_begins 152 = .ok (.iinc 3 1, 3) := by decide +kernel
theorem dX2_begins_155 : decode cX2_begins 155 = .ok (.goto (-67), 3) := by decide +kernel
theorem dX2_begins_158 : decode cX2_begins 158 = .ok (.aload_n 0, 1) := by decide +kernel
theorem dX2_begins_159 : decode cX2_begins 159 = .ok (.getfield 7, 3) := by decide +kernel
theorem dX2_begins_162 : decode cX2_begins 162 = .ok (.bipush 10, 2) := by decide +kernel
theorem dX2_begins_164 : decode cX2_begins 164 = .ok (.iaload, 1) := by decide +kernel
theorem dX2_begins_165 : decode cX2_begins 165 = .ok (.ireturn, 1) := by decide +kernel
theorem dX2_playFault_0 : decode cX2_playFault 0 = .ok (.aload_n 0, 1) := by decide +kernel
theorem dX2_playFault_1 : decode cX2_playFault 1 = .ok (.iload_n 1, 1) := by decide +kernel
theorem dX2_playFault_2 : decode cX2_playFault 2 = .ok (.invokevirtual 59, 3) := by decide +kernel
theorem dX2_playFault_5 : decode cX2_playFault 5 = .ok (.ifCond .ne 6, 3) := by decide +kernel
theorem dX2_playFault_8 : decode cX2_playFault 8 = .ok (.ldc 63, 2) := by decide +kernel
theorem dX2_playFault_10 : decode cX2_playFault 10 = .ok (.ireturn, 1) := by decide +kernel
theorem dX2_playFault_11 : decode cX2_playFault 11 = .ok (.aload_n 0, 1) := by decide +kernel
theorem dX2_playFault_12 : decode cX2_playFault 12 = .ok (.iload_n 1, 1) := by decide +kernel
theorem dX2_playFault_13 : decode cX2_playFault 13 = .ok (.invokevirtual 64, 3) := by decide +kernel
theorem dX2_playFault_16 : decode cX2_playFault 16 = .ok (.istore_n 2, 1) := by decide +kernel
theorem dX2_playFault_17 : decode cX2_playFault 17 = .ok (.iload_n 2, 1) := by decide +kernel
theorem dX2_playFault_18 : decode cX2_playFault 18 = .ok (.iconst 3, 1) := by decide +kernel
theorem dX2_playFault_19 : decode cX2_playFault 19 = .ok (.if_icmp .lt 17, 3) := by decide +kernel
theorem dX2_playFault_22 : decode cX2_playFault 22 = .ok (.iload_n 2, 1) := by decide +kernel
theorem dX2_playFault_23 : decode cX2_playFault 23 = .ok (.iconst 5, 1) := by decide +kernel
theorem dX2_playFault_24 : decode cX2_playFault 24 = .ok (.if_icmp .le 16, 3) := by decide +kernel
theorem dX2_playFault_27 : decode cX2_playFault 27 = .ok (.aload_n 0, 1) := by decide +kernel
theorem dX2_playFault_28 : decode cX2_playFault 28 = .ok (.getfield 7, 3) := by decide +kernel
theorem dX2_playFault_31 : decode cX2_playFault 31 = .ok (.iconst 4, 1) := by decide +kernel
theorem dX2_playFault_32 : decode cX2_playFault 32 = .ok (.iaload, 1) := by decide +kernel
theorem dX2_playFault_33 : decode cX2_playFault 33 = .ok (.ifCond .le 7, 3) := by decide +kernel
theorem dX2_playFault_36 : decode cX2_playFault 36 = .ok (.iconst 1, 1) := by decide +kernel
theorem dX2_playFault_37 : decode cX2_playFault 37 = .ok (.goto 4, 3) := by decide +kernel
theorem dX2_playFault_40 : decode cX2_playFault 40 = .ok (.iconst 0, 1) := by decide +kernel
theorem dX2_playFault_41 : decode cX2_playFault 41 = .ok (.istore_n 3, 1) := by decide +kernel
theorem dX2_playFault_42 : decode cX2_playFault 42 = .ok (.iload_n 3, 1) := by decide +kernel
theorem dX2_playFault_43 : decode cX2_playFault 43 = .ok (.ifCond .eq 17, 3) := by decide +kernel
theorem dX2_playFault_46 : decode cX2_playFault 46 = .ok (.aload_n 0, 1) := by decide +kernel
theorem dX2_playFault_47 : decode cX2_playFault 47 = .ok (.getfield 7, 3) := by decide +kernel
theorem dX2_playFault_50 : decode cX2_playFault 50 = .ok (.bipush 8, 2) := by decide +kernel
theorem dX2_playFault_52 : decode cX2_playFault 52 = .ok (.iaload, 1) := by decide +kernel
theorem dX2_playFault_53 : decode cX2_playFault 53 = .ok (.ifCond .ne 7, 3) := by decide +kernel
theorem dX2_playFault_56 : decode cX2_playFault 56 = .ok (.iconst 0, 1) := by decide +kernel
theorem dX2_playFault_57 : decode cX2_playFault 57 = .ok (.goto 5, 3) := by decide +kernel
theorem dX2_playFault_60 : decode cX2_playFault 60 = .ok (.ldc 67, 2) := by decide +kernel
theorem dX2_playFault_62 : decode cX2_playFault 62 = .ok (.ireturn, 1) := by decide +kernel
theorem dX2_plays_0 : decode cX2_plays 0 = .ok (.aload_n 0, 1) := by decide +kernel
theorem dX2_plays_1 : decode cX2_plays 1 = .ok (.getfield 7, 3) := by decide +kernel
theorem dX2_plays_4 : decode cX2_plays 4 = .ok (.iconst 1, 1) := by decide +kernel
theorem dX2_plays_5 : decode cX2_plays 5 = .ok (.iaload, 1) := by decide +kernel
theorem dX2_plays_6 : decode cX2_plays 6 = .ok (.istore_n 2, 1) := by decide +kernel
theorem dX2_plays_7 : decode cX2_plays 7 = .ok (.aload_n 0, 1) := by decide +kernel
theorem dX2_plays_8 : decode cX2_plays 8 = .ok (.iload_n 2, 1) := by decide +kernel
theorem dX2_plays_9 : decode cX2_plays 9 = .ok (.iconst 1, 1) := by decide +kernel
theorem dX2_plays_10 : decode cX2_plays 10 = .ok (.iload_n 1, 1) := by decide +kernel
theorem dX2_plays_11 : decode cX2_plays 11 = .ok (.invokevirtual 40, 3) := by decide +kernel
theorem dX2_plays_14 : decode cX2_plays 14 = .ok (.istore_n 3, 1) := by decide +kernel
theorem dX2_plays_15 : decode cX2_plays 15 = .ok (.aload_n 0, 1) := by decide +kernel
theorem dX2_plays_16 : decode cX2_plays 16 = .ok (.iload_n 2, 1) := by decide +kernel
theorem dX2_plays_17 : decode cX2_plays 17 = .ok (.iconst 2, 1) := by decide +kernel
theorem dX2_plays_18 : decode cX2_plays 18 = .ok (.iload_n 3, 1) := by decide +kernel
theorem dX2_plays_19 : decode cX2_plays 19 = .ok (.invokevirtual 30, 3) := by decide +kernel
theorem dX2_plays_22 : decode cX2_plays 22 = .ok (.aload_n 0, 1) := by decide +kernel
theorem dX2_plays_23 : decode cX2_plays 23 = .ok (.getfield 7, 3) := by decide +kernel
theorem dX2_plays_26 : decode cX2_plays 26 = .ok (.iconst 4, 1) := by decide +kernel
theorem dX2_plays_27 : decode cX2_plays 27 = .ok (.dup2, 1) := by decide +kernel
theorem dX2_plays_28 : decode cX2_plays 28 = .ok (.iaload, 1) := by decide +kernel
theorem dX2_plays_29 : decode cX2_plays 29 = .ok (.iload_n 3, 1) := by decide +kernel
theorem dX2_plays_30 : decode cX2_plays 30 = .ok (.iconst 5, 1) := by decide +kernel
theorem dX2_plays_31 : decode cX2_plays 31 = .ok (.if_icmp .le 7, 3) := by decide +kernel
theorem dX2_plays_34 : decode cX2_plays 34 = .ok (.iconst 1, 1) := by decide +kernel
theorem dX2_plays_35 : decode cX2_plays 35 = .ok (.goto 4, 3) := by decide +kernel
theorem dX2_plays_38 : decode cX2_plays 38 = .ok (.iconst 0, 1) := by decide +kernel
theorem dX2_plays_39 : decode cX2_plays 39 = .ok (.isub, 1) := by decide +kernel
theorem dX2_plays_40 : decode cX2_plays 40 = .ok (.iastore, 1) := by decide +kernel
theorem dX2_plays_41 : decode cX2_plays 41 = .ok (.aload_n 0, 1) := by decide +kernel
theorem dX2_plays_42 : decode cX2_plays 42 = .ok (.getfield 7, 3) := by decide +kernel
theorem dX2_plays_45 : decode cX2_plays 45 = .ok (.iconst 2, 1) := by decide +kernel
theorem dX2_plays_46 : decode cX2_plays 46 = .ok (.dup2, 1) := by decide +kernel
theorem dX2_plays_47 : decode cX2_plays 47 = .ok (.iaload, 1) := by decide +kernel
theorem dX2_plays_48 : decode cX2_plays 48 = .ok (.iload_n 3, 1) := by decide +kernel
theorem dX2_plays_49 : decode cX2_plays 49 = .ok (.invokestatic 68, 3) := by decide +kernel
theorem dX2_plays_52 : decode cX2_plays 52 = .ok (.iadd, 1) := by decide +kernel
theorem dX2_plays_53 : decode cX2_plays 53 = .ok (.iastore, 1) := by decide +kernel
theorem dX2_plays_54 : decode cX2_plays 54 = .ok (.aload_n 0, 1) := by decide +kernel
theorem dX2_plays_55 : decode cX2_plays 55 = .ok (.iload_n 2, 1) := by decide +kernel
theorem dX2_plays_56 : decode cX2_plays 56 = .ok (.iload_n 3, 1) := by decide +kernel
theorem dX2_plays_57 : decode cX2_plays 57 = .ok (.invokestatic 71, 3) := by decide +kernel
theorem dX2_plays_60 : decode cX2_plays 60 = .ok (.invokevirtual 55, 3) := by decide +kernel
theorem dX2_plays_63 : decode cX2_plays 63 = .ok (.aload_n 0, 1) := by decide +kernel
theorem dX2_plays_64 : decode cX2_plays 64 = .ok (.getfield 7, 3) := by decide +kernel
theorem dX2_plays_67 : decode cX2_plays 67 = .ok (.iconst 3, 1) := by decide +kernel
theorem dX2_plays_68 : decode cX2_plays 68 = .ok (.dup2, 1) := by decide +kernel
theorem dX2_plays_69 : decode cX2_plays 69 = .ok (.iaload, 1) := by decide +kernel
theorem dX2_plays_70 : decode cX2_plays 70 = .ok (.iload_n 3, 1) := by decide +kernel
theorem dX2_plays_71 : decode cX2_plays 71 = .ok (.bipush 7, 2) := by decide +kernel
theorem dX2_plays_73 : decode cX2_plays 73 = .ok (.if_icmp .ne 7, 3) := by decide +kernel
theorem dX2_plays_76 : decode cX2_plays 76 = .ok (.iconst 1, 1) := by decide +kernel
theorem dX2_plays_77 : decode cX2_plays 77 = .ok (.goto 4, 3) := by decide +kernel
theorem dX2_plays_80 : decode cX2_plays 80 = .ok (.iconst 0, 1) := by decide +kernel
theorem dX2_plays_81 : decode cX2_plays 81 = .ok (.iadd, 1) := by decide +kernel
theorem dX2_plays_82 : decode cX2_plays 82 = .ok (.iastore, 1) := by decide +kernel
theorem dX2_plays_83 : decode cX2_plays 83 = .ok (.aload_n 0, 1) := by decide +kernel
theorem dX2_plays_84 : decode cX2_plays 84 = .ok (.getfield 7, 3) := by decide +kernel
theorem dX2_plays_87 : decode cX2_plays 87 = .ok (.iconst 4, 1) := by decide +kernel
theorem dX2_plays_88 : decode cX2_plays 88 = .ok (.dup2, 1) := by decide +kernel
theorem dX2_plays_89 : decode cX2_plays 89 = .ok (.iaload, 1) := by decide +kernel
theorem dX2_plays_90 : decode cX2_plays 90 = .ok (.iload_n 3, 1) := by decide +kernel
theorem dX2_plays_91 : decode cX2_plays 91 = .ok (.bipush 6, 2) := by decide +kernel
theorem dX2_plays_93 : decode cX2_plays 93 = .ok (.if_icmp .le 7, 3) := by decide +kernel
theorem dX2_plays_96 : decode cX2_plays 96 = .ok (.iconst 1, 1) := by decide +kernel
theorem dX2_plays_97 : decode cX2_plays 97 = .ok (.goto 4, 3) := by decide +kernel
theorem dX2_plays_100 : decode cX2_plays 100 = .ok (.iconst 0, 1) := by decide +kernel
theorem dX2_plays_101 : decode cX2_plays 101 = .ok (.iadd, 1) := by decide +kernel
theorem dX2_plays_102 : decode cX2_plays 102 = .ok (.iastore, 1) := by decide +kernel
theorem dX2_plays_103 : decode cX2_plays 103 = .ok (.iconst 1, 1) := by decide +kernel
theorem dX2_plays_104 : decode cX2_plays 104 = .ok (.istore 4, 2) := by decide +kernel
theorem dX2_plays_106 : decode cX2_plays 106 = .ok (.iload 4, 2) := by decide +kernel
theorem dX2_plays_108 : decode cX2_plays 108 = .ok (.aload_n 0, 1) := by decide +kernel
theorem dX2_plays_109 : decode cX2_plays 109 = .ok (.getfield 7, 3) := by decide +kernel
theorem dX2_plays_112 : decode cX2_plays 112 = .ok (.iconst 0, 1) := by decide +kernel
theorem dX2_plays_113 : decode cX2_plays 113 = .ok (.iaload, 1) := by decide +kernel
theorem dX2_plays_114 : decode cX2_plays 114 = .ok (.if_icmp .ge 53, 3) := by decide +kernel
theorem dX2_plays_117 : decode cX2_plays 117 = .ok (.iload_n 3, 1) := by decide +kernel
theorem dX2_plays_118 : decode cX2_plays 118 = .ok (.bipush 6, 2) := by decide +kernel
theorem dX2_plays_120 : decode cX2_plays 120 = .ok (.if_icmp .ne 47, 3) := by decide +kernel
theorem dX2_plays_123 : decode cX2_plays 123 = .ok (.aload_n 0, 1) := by decide +kernel
theorem dX2_plays_124 : decode cX2_plays 124 = .ok (.getfield 7, 3) := by decide +kernel
theorem dX2_plays_127 : decode cX2_plays 127 = .ok (.bipush 15, 2) := by decide +kernel
theorem dX2_plays_129 : decode cX2_plays 129 = .ok (.iaload, 1) := by decide +kernel
theorem dX2_plays_130 : decode cX2_plays 130 = .ok (.ifCond .le 31, 3) := by decide +kernel
theorem dX2_plays_133 : decode cX2_plays 133 = .ok (.aload_n 0, 1) := by decide +kernel
theorem dX2_plays_134 : decode cX2_plays 134 = .ok (.getfield 7, 3) := by decide +kernel
theorem dX2_plays_137 : decode cX2_plays 137 = .ok (.bipush 15, 2) := by decide +kernel
theorem dX2_plays_139 : decode cX2_plays 139 = .ok (.dup2, 1) := by decide +kernel
theorem dX2_plays_140 : decode cX2_plays 140 = .ok (.iaload, 1) := by decide +kernel
theorem dX2_plays_141 : decode cX2_plays 141 = .ok (.iconst 1, 1) := by decide +kernel
theorem dX2_plays_142 : decode cX2_plays 142 = .ok (.isub, 1) := by decide +kernel
theorem dX2_plays_143 : decode cX2_plays 143 = .ok (.iastore, 1) := by decide +kernel
theorem dX2_plays_144 : decode cX2_plays 144 = .ok (.aload_n 0, 1) := by decide +kernel
theorem dX2_plays_145 : decode cX2_plays 145 = .ok (.iload_n 2, 1) := by decide +kernel
theorem dX2_plays_146 : decode cX2_plays 146 = .ok (.iload 4, 2) := by decide +kernel
theorem dX2_plays_148 : decode cX2_plays 148 = .ok (.iadd, 1) := by decide +kernel
theorem dX2_plays_149 : decode cX2_plays 149 = .ok (.aload_n 0, 1) := by decide +kernel
theorem dX2_plays_150 : decode cX2_plays 150 = .ok (.getfield 7, 3) := by decide +kernel
theorem dX2_plays_153 : decode cX2_plays 153 = .ok (.iconst 0, 1) := by decide +kernel
theorem dX2_plays_154 : decode cX2_plays 154 = .ok (.iaload, 1) := by decide +kernel
theorem dX2_plays_155 : decode cX2_plays 155 = .ok (.irem, 1) := by decide +kernel
theorem dX2_plays_156 : decode cX2_plays 156 = .ok (.iconst 3, 1) := by decide +kernel
theorem dX2_plays_157 : decode cX2_plays 157 = .ok (.iconst 5, 1) := by decide +kernel
theorem dX2_plays_158 : decode cX2_plays 158 = .ok (.invokevirtual 30, 3) := by decide +kernel
theorem dX2_plays_161 : decode cX2_plays 161 = .ok (.iinc 4 1, 3) := by decide +kernel
theorem dX2_plays_164 : decode cX2_plays 164 = .ok (.goto (-58), 3) := by decide +kernel
theorem dX2_plays_167 : decode cX2_plays 167 = .ok (.aload_n 0, 1) := by decide +kernel
theorem dX2_plays_168 : decode cX2_plays 168 = .ok (.getfield 7, 3) := by decide +kernel
theorem dX2_plays_171 : decode cX2_plays 171 = .ok (.iconst 5, 1) := by decide +kernel
theorem dX2_plays_172 : decode cX2_plays 172 = .ok (.dup2, 1) := by decide +kernel
theorem dX2_plays_173 : decode cX2_plays 173 = .ok (.iaload, 1) := by decide +kernel
theorem dX2_plays_174 : decode cX2_plays 174 = .ok (.iload_n 3, 1) := by decide +kernel
theorem dX2_plays_175 : decode cX2_plays 175 = .ok (.bipush 8, 2) := by decide +kernel
theorem dX2_plays_177 : decode cX2_plays 177 = .ok (.if_icmp .ne 7, 3) := by decide +kernel
theorem dX2_plays_180 : decode cX2_plays 180 = .ok (.iconst 1, 1) := by decide +kernel
theorem dX2_plays_181 : decode cX2_plays 181 = .ok (.goto 4, 3) := by decide +kernel
theorem dX2_plays_184 : decode cX2_plays 184 = .ok (.iconst 0, 1) := by decide +kernel
theorem dX2_plays_185 : decode cX2_plays 185 = .ok (.iadd, 1) := by decide +kernel
theorem dX2_plays_186 : decode cX2_plays 186 = .ok (.iastore, 1) := by decide +kernel
theorem dX2_plays_187 : decode cX2_plays 187 = .ok (.iload_n 3, 1) := by decide +kernel
theorem dX2_plays_188 : decode cX2_plays 188 = .ok (.ireturn, 1) := by decide +kernel
theorem dX2_isInRow_0 : decode cX2_isInRow 0 = .ok (.iload_n 1, 1) := by decide +kernel
theorem dX2_isInRow_1 : decode cX2_isInRow 1 = .ok (.aload_n 0, 1) := by decide +kernel
theorem dX2_isInRow_2 : decode cX2_isInRow 2 = .ok (.getfield 7, 3) := by decide +kernel
theorem dX2_isInRow_5 : decode cX2_isInRow 5 = .ok (.bipush 6, 2) := by decide +kernel
theorem dX2_isInRow_7 : decode cX2_isInRow 7 = .ok (.iaload, 1) := by decide +kernel
theorem dX2_isInRow_8 : decode cX2_isInRow 8 = .ok (.isub, 1) := by decide +kernel
theorem dX2_isInRow_9 : decode cX2_isInRow 9 = .ok (.bipush 10, 2) := by decide +kernel
theorem dX2_isInRow_11 : decode cX2_isInRow 11 = .ok (.iadd, 1) := by decide +kernel
theorem dX2_isInRow_12 : decode cX2_isInRow 12 = .ok (.bipush 10, 2) := by decide +kernel
theorem dX2_isInRow_14 : decode cX2_isInRow 14 = .ok (.irem, 1) := by decide +kernel
theorem dX2_isInRow_15 : decode cX2_isInRow 15 = .ok (.bipush 6, 2) := by decide +kernel
theorem dX2_isInRow_17 : decode cX2_isInRow 17 = .ok (.if_icmp .ge 7, 3) := by decide +kernel
theorem dX2_isInRow_20 : decode cX2_isInRow 20 = .ok (.iconst 1, 1) := by decide +kernel
theorem dX2_isInRow_21 : decode cX2_isInRow 21 = .ok (.goto 4, 3) := by decide +kernel
theorem dX2_isInRow_24 : decode cX2_isInRow 24 = .ok (.iconst 0, 1) := by decide +kernel
theorem dX2_isInRow_25 : decode cX2_isInRow 25 = .ok (.ireturn, 1) := by decide +kernel
theorem dX2_whyNot_0 : decode cX2_whyNot 0 = .ok (.aload_n 0, 1) := by decide +kernel
theorem dX2_whyNot_1 : decode cX2_whyNot 1 = .ok (.getfield 7, 3) := by decide +kernel
theorem dX2_whyNot_4 : decode cX2_whyNot 4 = .ok (.bipush 8, 2) := by decide +kernel
theorem dX2_whyNot_6 : decode cX2_whyNot 6 = .ok (.iaload, 1) := by decide +kernel
theorem dX2_whyNot_7 : decode cX2_whyNot 7 = .ok (.iconst 1, 1) := by decide +kernel
theorem dX2_whyNot_8 : decode cX2_whyNot 8 = .ok (.if_icmp .ne 7, 3) := by decide +kernel
theorem dX2_whyNot_11 : decode cX2_whyNot 11 = .ok (.iconst 1, 1) := by decide +kernel
theorem dX2_whyNot_12 : decode cX2_whyNot 12 = .ok (.goto 62, 3) := by decide +kernel
theorem dX2_whyNot_15 : decode cX2_whyNot 15 = .ok (.aload_n 0, 1) := by decide +kernel
theorem dX2_whyNot_16 : decode cX2_whyNot 16 = .ok (.iload_n 1, 1) := by decide +kernel
theorem dX2_whyNot_17 : decode cX2_whyNot 17 = .ok (.invokevirtual 74, 3) := by decide +kernel
theorem dX2_whyNot_20 : decode cX2_whyNot 20 = .ok (.ifCond .ne 7, 3) := by decide +kernel
theorem dX2_whyNot_23 : decode cX2_whyNot 23 = .ok (.iconst 2, 1) := by decide +kernel
theorem dX2_whyNot_24 : decode cX2_whyNot 24 = .ok (.goto 50, 3) := by decide +kernel
theorem dX2_whyNot_27 : decode cX2_whyNot 27 = .ok (.aload_n 0, 1) := by decide +kernel
theorem dX2_whyNot_28 : decode cX2_whyNot 28 = .ok (.getfield 7, 3) := by decide +kernel
theorem dX2_whyNot_31 : decode cX2_whyNot 31 = .ok (.bipush 10, 2) := by decide +kernel
theorem dX2_whyNot_33 : decode cX2_whyNot 33 = .ok (.iload_n 1, 1) := by decide +kernel
theorem dX2_whyNot_34 : decode cX2_whyNot 34 = .ok (.iadd, 1) := by decide +kernel
theorem dX2_whyNot_35 : decode cX2_whyNot 35 = .ok (.iaload, 1) := by decide +kernel
theorem dX2_whyNot_36 : decode cX2_whyNot 36 = .ok (.ifCond .ne 7, 3) := by decide +kernel
theorem dX2_whyNot_39 : decode cX2_whyNot 39 = .ok (.iconst 3, 1) := by decide +kernel
theorem dX2_whyNot_40 : decode cX2_whyNot 40 = .ok (.goto 34, 3) := by decide +kernel
theorem dX2_whyNot_43 : decode cX2_whyNot 43 = .ok (.aload_n 0, 1) := by decide +kernel
theorem dX2_whyNot_44 : decode cX2_whyNot 44 = .ok (.getfield 7, 3) := by decide +kernel
theorem dX2_whyNot_47 : decode cX2_whyNot 47 = .ok (.iconst 3, 1) := by decide +kernel
theorem dX2_whyNot_48 : decode cX2_whyNot 48 = .ok (.iaload, 1) := by decide +kernel
theorem dX2_whyNot_49 : decode cX2_whyNot 49 = .ok (.ifCond .ne 7, 3) := by decide +kernel
theorem dX2_whyNot_52 : decode cX2_whyNot 52 = .ok (.iconst 4, 1) := by decide +kernel
theorem dX2_whyNot_53 : decode cX2_whyNot 53 = .ok (.goto 21, 3) := by decide +kernel
theorem dX2_whyNot_56 : decode cX2_whyNot 56 = .ok (.aload_n 0, 1) := by decide +kernel
theorem dX2_whyNot_57 : decode cX2_whyNot 57 = .ok (.getfield 7, 3) := by decide +kernel
theorem dX2_whyNot_60 : decode cX2_whyNot 60 = .ok (.iconst 2, 1) := by decide +kernel
theorem dX2_whyNot_61 : decode cX2_whyNot 61 = .ok (.iaload, 1) := by decide +kernel
theorem dX2_whyNot_62 : decode cX2_whyNot 62 = .ok (.iload_n 1, 1) := by decide +kernel
theorem dX2_whyNot_63 : decode cX2_whyNot 63 = .ok (.invokestatic 77, 3) := by decide +kernel
theorem dX2_whyNot_66 : decode cX2_whyNot 66 = .ok (.if_icmp .ge 7, 3) := by decide +kernel
theorem dX2_whyNot_69 : decode cX2_whyNot 69 = .ok (.iconst 5, 1) := by decide +kernel
theorem dX2_whyNot_70 : decode cX2_whyNot 70 = .ok (.goto 4, 3) := by decide +kernel
theorem dX2_whyNot_73 : decode cX2_whyNot 73 = .ok (.iconst 0, 1) := by decide +kernel
theorem dX2_whyNot_74 : decode cX2_whyNot 74 = .ok (.ireturn, 1) := by decide +kernel
theorem dX2_buyFault_0 : decode cX2_buyFault 0 = .ok (.iload_n 1, 1) := by decide +kernel
theorem dX2_buyFault_1 : decode cX2_buyFault 1 = .ok (.iconst 0, 1) := by decide +kernel
theorem dX2_buyFault_2 : decode cX2_buyFault 2 = .ok (.bipush 9, 2) := by decide +kernel
theorem dX2_buyFault_4 : decode cX2_buyFault 4 = .ok (.invokestatic 48, 3) := by decide +kernel
theorem dX2_buyFault_7 : decode cX2_buyFault 7 = .ok (.ifCond .ne 8, 3) := by decide +kernel
theorem dX2_buyFault_10 : decode cX2_buyFault 10 = .ok (.ldc 63, 2) := by decide +kernel
theorem dX2_buyFault_12 : decode cX2_buyFault 12 = .ok (.goto 17, 3) := by decide +kernel
theorem dX2_buyFault_15 : decode cX2_buyFault 15 = .ok (.aload_n 0, 1) := by decide +kernel
theorem dX2_buyFault_16 : decode cX2_buyFault 16 = .ok (.iload_n 1, 1) := by decide +kernel
theorem dX2_buyFault_17 : decode cX2_buyFault 17 = .ok (.invokevirtual 80, 3) := by decide +kernel
theorem dX2_buyFault_20 : decode cX2_buyFault 20 = .ok (.ifCond .le 8, 3) := by decide +kernel
theorem dX2_buyFault_23 : decode cX2_buyFault 23 = .ok (.ldc 67, 2) := by decide +kernel
theorem dX2_buyFault_25 : decode cX2_buyFault 25 = .ok (.goto 4, 3) := by decide +kernel
theorem dX2_buyFault_28 : decode cX2_buyFault 28 = .ok (.iconst 0, 1) := by decide +kernel
theorem dX2_buyFault_29 : decode cX2_buyFault 29 = .ok (.ireturn, 1) := by decide +kernel
theorem dX2_buys_0 : decode cX2_buys 0 = .ok (.aload_n 0, 1) := by decide +kernel
theorem dX2_buys_1 : decode cX2_buys 1 = .ok (.getfield 7, 3) := by decide +kernel
theorem dX2_buys_4 : decode cX2_buys 4 = .ok (.iconst 2, 1) := by decide +kernel
theorem dX2_buys_5 : decode cX2_buys 5 = .ok (.dup2, 1) := by decide +kernel
theorem dX2_buys_6 : decode cX2_buys 6 = .ok (.iaload, 1) := by decide +kernel
theorem dX2_buys_7 : decode cX2_buys 7 = .ok (.iload_n 1, 1) := by decide +kernel
theorem dX2_buys_8 : decode cX2_buys 8 = .ok (.invokestatic 77, 3) := by decide +kernel
theorem dX2_buys_11 : decode cX2_buys 11 = .ok (.isub, 1) := by decide +kernel
theorem dX2_buys_12 : decode cX2_buys 12 = .ok (.iastore, 1) := by decide +kernel
theorem dX2_buys_13 : decode cX2_buys 13 = .ok (.aload_n 0, 1) := by decide +kernel
theorem dX2_buys_14 : decode cX2_buys 14 = .ok (.getfield 7, 3) := by decide +kernel
theorem dX2_buys_17 : decode cX2_buys 17 = .ok (.iconst 3, 1) := by decide +kernel
theorem dX2_buys_18 : decode cX2_buys 18 = .ok (.dup2, 1) := by decide +kernel
theorem dX2_buys_19 : decode cX2_buys 19 = .ok (.iaload, 1) := by decide +kernel
theorem dX2_buys_20 : decode cX2_buys 20 = .ok (.iconst 1, 1) := by decide +kernel
theorem dX2_buys_21 : decode cX2_buys 21 = .ok (.isub, 1) := by decide +kernel
theorem dX2_buys_22 : decode cX2_buys 22 = .ok (.iastore, 1) := by decide +kernel
theorem dX2_buys_23 : decode cX2_buys 23 = .ok (.aload_n 0, 1) := by decide +kernel
theorem dX2_buys_24 : decode cX2_buys 24 = .ok (.getfield 7, 3) := by decide +kernel
theorem dX2_buys_27 : decode cX2_buys 27 = .ok (.bipush 10, 2) := by decide +kernel
theorem dX2_buys_29 : decode cX2_buys 29 = .ok (.iload_n 1, 1) := by decide +kernel
theorem dX2_buys_30 : decode cX2_buys 30 = .ok (.iadd, 1) := by decide +kernel
theorem dX2_buys_31 : decode cX2_buys 31 = .ok (.dup2, 1) := by decide +kernel
theorem dX2_buys_32 : decode cX2_buys 32 = .ok (.iaload, 1) := by decide +kernel
theorem dX2_buys_33 : decode cX2_buys 33 = .ok (.iconst 1, 1) := by decide +kernel
theorem dX2_buys_34 : decode cX2_buys 34 = .ok (.isub, 1) := by decide +kernel
theorem dX2_buys_35 : decode cX2_buys 35 = .ok (.iastore, 1) := by decide +kernel
theorem dX2_buys_36 : decode cX2_buys 36 = .ok (.aload_n 0, 1) := by decide +kernel
theorem dX2_buys_37 : decode cX2_buys 37 = .ok (.aload_n 0, 1) := by decide +kernel
theorem dX2_buys_38 : decode cX2_buys 38 = .ok (.getfield 7, 3) := by decide +kernel
theorem dX2_buys_41 : decode cX2_buys 41 = .ok (.iconst 1, 1) := by decide +kernel
theorem dX2_buys_42 : decode cX2_buys 42 = .ok (.iaload, 1) := by decide +kernel
theorem dX2_buys_43 : decode cX2_buys 43 = .ok (.iconst 3, 1) := by decide +kernel
theorem dX2_buys_44 : decode cX2_buys 44 = .ok (.iload_n 1, 1) := by decide +kernel
theorem dX2_buys_45 : decode cX2_buys 45 = .ok (.invokevirtual 30, 3) := by decide +kernel
theorem dX2_buys_48 : decode cX2_buys 48 = .ok (.aload_n 0, 1) := by decide +kernel
theorem dX2_buys_49 : decode cX2_buys 49 = .ok (.getfield 7, 3) := by decide +kernel
theorem dX2_buys_52 : decode cX2_buys 52 = .ok (.bipush 10, 2) := by decide +kernel
theorem dX2_buys_54 : decode cX2_buys 54 = .ok (.iload_n 1, 1) := by decide +kernel
theorem dX2_buys_55 : decode cX2_buys 55 = .ok (.iadd, 1) := by decide +kernel
theorem dX2_buys_56 : decode cX2_buys 56 = .ok (.iaload, 1) := by decide +kernel
theorem dX2_buys_57 : decode cX2_buys 57 = .ok (.ireturn, 1) := by decide +kernel
theorem dX2_scrapFault_0 : decode cX2_scrapFault 0 = .ok (.aload_n 0, 1) := by decide +kernel
theorem dX2_scrapFault_1 : decode cX2_scrapFault 1 = .ok (.iload_n 1, 1) := by decide +kernel
theorem dX2_scrapFault_2 : decode cX2_scrapFault 2 = .ok (.invokevirtual 59, 3) := by decide +kernel
theorem dX2_scrapFault_5 : decode cX2_scrapFault 5 = .ok (.ifCond .ne 8, 3) := by decide +kernel
theorem dX2_scrapFault_8 : decode cX2_scrapFault 8 = .ok (.ldc 63, 2) := by decide +kernel
theorem dX2_scrapFault_10 : decode cX2_scrapFault 10 = .ok (.goto 29, 3) := by decide +kernel
theorem dX2_scrapFault_13 : decode cX2_scrapFault 13 = .ok (.aload_n 0, 1) := by decide +kernel
theorem dX2_scrapFault_14 : decode cX2_scrapFault 14 = .ok (.getfield 7, 3) := by decide +kernel
theorem dX2_scrapFault_17 : decode cX2_scrapFault 17 = .ok (.iconst 5, 1) := by decide +kernel
theorem dX2_scrapFault_18 : decode cX2_scrapFault 18 = .ok (.iaload, 1) := by decide +kernel
theorem dX2_scrapFault_19 : decode cX2_scrapFault 19 = .ok (.ifCond .eq 14, 3) := by decide +kernel
theorem dX2_scrapFault_22 : decode cX2_scrapFault 22 = .ok (.aload_n 0, 1) := by decide +kernel
theorem dX2_scrapFault_23 : decode cX2_scrapFault 23 = .ok (.getfield 7, 3) := by decide +kernel
theorem dX2_scrapFault_26 : decode cX2_scrapFault 26 = .ok (.bipush 8, 2) := by decide +kernel
theorem dX2_scrapFault_28 : decode cX2_scrapFault 28 = .ok (.iaload, 1) := by decide +kernel
theorem dX2_scrapFault_29 : decode cX2_scrapFault 29 = .ok (.iconst 1, 1) := by decide +kernel
theorem dX2_scrapFault_30 : decode cX2_scrapFault 30 = .ok (.if_icmp .ne 8, 3) := by decide +kernel
theorem dX2_scrapFault_33 : decode cX2_scrapFault 33 = .ok (.ldc 67, 2) := by decide +kernel
theorem dX2_scrapFault_35 : decode cX2_scrapFault 35 = .ok (.goto 4, 3) := by decide +kernel
theorem dX2_scrapFault_38 : decode cX2_scrapFault 38 = .ok (.iconst 0, 1) := by decide +kernel
theorem dX2_scrapFault_39 : decode cX2_scrapFault 39 = .ok (.ireturn, 1) := by decide +kernel
theorem dX2_scraps_0 : decode cX2_scraps 0 = .ok (.aload_n 0, 1) := by decide +kernel
theorem dX2_scraps_1 : decode cX2_scraps 1 = .ok (.aload_n 0, 1) := by decide +kernel
theorem dX2_scraps_2 : decode cX2_scraps 2 = .ok (.getfield 7, 3) := by decide +kernel
theorem dX2_scraps_5 : decode cX2_scraps 5 = .ok (.iconst 1, 1) := by decide +kernel
theorem dX2_scraps_6 : decode cX2_scraps 6 = .ok (.iaload, 1) := by decide +kernel
theorem dX2_scraps_7 : decode cX2_scraps 7 = .ok (.iconst 1, 1) := by decide +kernel
theorem dX2_scraps_8 : decode cX2_scraps 8 = .ok (.iload_n 1, 1) := by decide +kernel
theorem dX2_scraps_9 : decode cX2_scraps 9 = .ok (.invokevirtual 40, 3) := by decide +kernel
theorem dX2_scraps_12 : decode cX2_scraps 12 = .ok (.istore_n 2, 1) := by decide +kernel
theorem dX2_scraps_13 : decode cX2_scraps 13 = .ok (.aload_n 0, 1) := by decide +kernel
theorem dX2_scraps_14 : decode cX2_scraps 14 = .ok (.getfield 7, 3) := by decide +kernel
theorem dX2_scraps_17 : decode cX2_scraps 17 = .ok (.iconst 5, 1) := by decide +kernel
theorem dX2_scraps_18 : decode cX2_scraps 18 = .ok (.dup2, 1) := by decide +kernel
theorem dX2_scraps_19 : decode cX2_scraps 19 = .ok (.iaload, 1) := by decide +kernel
theorem dX2_scraps_20 : decode cX2_scraps 20 = .ok (.iconst 1, 1) := by decide +kernel
theorem dX2_scraps_21 : decode cX2_scraps 21 = .ok (.isub, 1) := by decide +kernel
theorem dX2_scraps_22 : decode cX2_scraps 22 = .ok (.iastore, 1) := by decide +kernel
theorem dX2_scraps_23 : decode cX2_scraps 23 = .ok (.aload_n 0, 1) := by decide +kernel
theorem dX2_scraps_24 : decode cX2_scraps 24 = .ok (.getfield 7, 3) := by decide +kernel
theorem dX2_scraps_27 : decode cX2_scraps 27 = .ok (.bipush 20, 2) := by decide +kernel
theorem dX2_scraps_29 : decode cX2_scraps 29 = .ok (.iload_n 2, 1) := by decide +kernel
theorem dX2_scraps_30 : decode cX2_scraps 30 = .ok (.iadd, 1) := by decide +kernel
theorem dX2_scraps_31 : decode cX2_scraps 31 = .ok (.dup2, 1) := by decide +kernel
theorem dX2_scraps_32 : decode cX2_scraps 32 = .ok (.iaload, 1) := by decide +kernel
theorem dX2_scraps_33 : decode cX2_scraps 33 = .ok (.iconst 1, 1) := by decide +kernel
theorem dX2_scraps_34 : decode cX2_scraps 34 = .ok (.iadd, 1) := by decide +kernel
theorem dX2_scraps_35 : decode cX2_scraps 35 = .ok (.iastore, 1) := by decide +kernel
theorem dX2_scraps_36 : decode cX2_scraps 36 = .ok (.iload_n 2, 1) := by decide +kernel
theorem dX2_scraps_37 : decode cX2_scraps 37 = .ok (.ireturn, 1) := by decide +kernel
theorem dX2_emptyPiles_0 : decode cX2_emptyPiles 0 = .ok (.iconst 0, 1) := by decide +kernel
theorem dX2_emptyPiles_1 : decode cX2_emptyPiles 1 = .ok (.istore_n 1, 1) := by decide +kernel
theorem dX2_emptyPiles_2 : decode cX2_emptyPiles 2 = .ok (.iconst 0, 1) := by decide +kernel
theorem dX2_emptyPiles_3 : decode cX2_emptyPiles 3 = .ok (.istore_n 2, 1) := by decide +kernel
theorem dX2_emptyPiles_4 : decode cX2_emptyPiles 4 = .ok (.iload_n 2, 1) := by decide +kernel
theorem dX2_emptyPiles_5 : decode cX2_emptyPiles 5 = .ok (.bipush 10, 2) := by decide +kernel
theorem dX2_emptyPiles_7 : decode cX2_emptyPiles 7 = .ok (.if_icmp .ge 29, 3) := by decide +kernel
theorem dX2_emptyPiles_10 : decode cX2_emptyPiles 10 = .ok (.iload_n 1, 1) := by decide +kernel
theorem dX2_emptyPiles_11 : decode cX2_emptyPiles 11 = .ok (.aload_n 0, 1) := by decide +kernel
theorem dX2_emptyPiles_12 : decode cX2_emptyPiles 12 = .ok (.getfield 7, 3) := by decide +kernel
theorem dX2_emptyPiles_15 : decode cX2_emptyPiles 15 = .ok (.bipush 10, 2) := by decide +kernel
theorem dX2_emptyPiles_17 : decode cX2_emptyPiles 17 = .ok (.iload_n 2, 1) := by decide +kernel
theorem dX2_emptyPiles_18 : decode cX2_emptyPiles 18 = .ok (.iadd, 1) := by decide +kernel
theorem dX2_emptyPiles_19 : decode cX2_emptyPiles 19 = .ok (.iaload, 1) := by decide +kernel
theorem dX2_emptyPiles_20 : decode cX2_emptyPiles 20 = .ok (.ifCond .ne 7, 3) := by decide +kernel
theorem dX2_emptyPiles_23 : decode cX2_emptyPiles 23 = .ok (.iconst 1, 1) := by decide +kernel
theorem dX2_emptyPiles_24 : decode cX2_emptyPiles 24 = .ok (.goto 4, 3) := by decide +kernel
theorem dX2_emptyPiles_27 : decode cX2_emptyPiles 27 = .ok (.iconst 0, 1) := by decide +kernel
theorem dX2_emptyPiles_28 : decode cX2_emptyPiles 28 = .ok (.iadd, 1) := by decide +kernel
theorem dX2_emptyPiles_29 : decode cX2_emptyPiles 29 = .ok (.istore_n 1, 1) := by decide +kernel
theorem dX2_emptyPiles_30 : decode cX2_emptyPiles 30 = .ok (.iinc 2 1, 3) := by decide +kernel
theorem dX2_emptyPiles_33 : decode cX2_emptyPiles 33 = .ok (.goto (-29), 3) := by decide +kernel
theorem dX2_emptyPiles_36 : decode cX2_emptyPiles 36 = .ok (.iload_n 1, 1) := by decide +kernel
theorem dX2_emptyPiles_37 : decode cX2_emptyPiles 37 = .ok (.ireturn, 1) := by decide +kernel
theorem dX2_ends_0 : decode cX2_ends 0 = .ok (.aload_n 0, 1) := by decide +kernel
theorem dX2_ends_1 : decode cX2_ends 1 = .ok (.getfield 7, 3) := by decide +kernel
theorem dX2_ends_4 : decode cX2_ends 4 = .ok (.iconst 1, 1) := by decide +kernel
theorem dX2_ends_5 : decode cX2_ends 5 = .ok (.iaload, 1) := by decide +kernel
theorem dX2_ends_6 : decode cX2_ends 6 = .ok (.istore_n 1, 1) := by decide +kernel
theorem dX2_ends_7 : decode cX2_ends 7 = .ok (.aload_n 0, 1) := by decide +kernel
theorem dX2_ends_8 : decode cX2_ends 8 = .ok (.iload_n 1, 1) := by decide +kernel
theorem dX2_ends_9 : decode cX2_ends 9 = .ok (.iconst 1, 1) := by decide +kernel
theorem dX2_ends_10 : decode cX2_ends 10 = .ok (.iconst 3, 1) := by decide +kernel
theorem dX2_ends_11 : decode cX2_ends 11 = .ok (.invokevirtual 37, 3) := by decide +kernel
theorem dX2_ends_14 : decode cX2_ends 14 = .ok (.aload_n 0, 1) := by decide +kernel
theorem dX2_ends_15 : decode cX2_ends 15 = .ok (.iload_n 1, 1) := by decide +kernel
theorem dX2_ends_16 : decode cX2_ends 16 = .ok (.iconst 2, 1) := by decide +kernel
theorem dX2_ends_17 : decode cX2_ends 17 = .ok (.iconst 3, 1) := by decide +kernel
theorem dX2_ends_18 : decode cX2_ends 18 = .ok (.invokevirtual 37, 3) := by decide +kernel
theorem dX2_ends_21 : decode cX2_ends 21 = .ok (.aload_n 0, 1) := by decide +kernel
theorem dX2_ends_22 : decode cX2_ends 22 = .ok (.iload_n 1, 1) := by decide +kernel
theorem dX2_ends_23 : decode cX2_ends 23 = .ok (.iconst 5, 1) := by decide +kernel
theorem dX2_ends_24 : decode cX2_ends 24 = .ok (.invokevirtual 55, 3) := by decide +kernel
theorem dX2_ends_27 : decode cX2_ends 27 = .ok (.aload_n 0, 1) := by decide +kernel
theorem dX2_ends_28 : decode cX2_ends 28 = .ok (.getfield 7, 3) := by decide +kernel
theorem dX2_ends_31 : decode cX2_ends 31 = .ok (.bipush 6, 2) := by decide +kernel
theorem dX2_ends_33 : decode cX2_ends 33 = .ok (.aload_n 0, 1) := by decide +kernel
theorem dX2_ends_34 : decode cX2_ends 34 = .ok (.getfield 7, 3) := by decide +kernel
theorem dX2_ends_37 : decode cX2_ends 37 = .ok (.bipush 6, 2) := by decide +kernel
theorem dX2_ends_39 : decode cX2_ends 39 = .ok (.iaload, 1) := by decide +kernel
theorem dX2_ends_40 : decode cX2_ends 40 = .ok (.aload_n 0, 1) := by decide +kernel
theorem dX2_ends_41 : decode cX2_ends 41 = .ok (.getfield 7, 3) := by decide +kernel
theorem dX2_ends_44 : decode cX2_ends 44 = .ok (.bipush 9, 2) := by decide +kernel
theorem dX2_ends_46 : decode cX2_ends 46 = .ok (.iaload, 1) := by decide +kernel
theorem dX2_ends_47 : decode cX2_ends 47 = .ok (.iadd, 1) := by decide +kernel
theorem dX2_ends_48 : decode cX2_ends 48 = .ok (.bipush 10, 2) := by decide +kernel
theorem dX2_ends_50 : decode cX2_ends 50 = .ok (.irem, 1) := by decide +kernel
theorem dX2_ends_51 : decode cX2_ends 51 = .ok (.iastore, 1) := by decide +kernel
theorem dX2_ends_52 : decode cX2_ends 52 = .ok (.aload_n 0, 1) := by decide +kernel
theorem dX2_ends_53 : decode cX2_ends 53 = .ok (.getfield 7, 3) := by decide +kernel
theorem dX2_ends_56 : decode cX2_ends 56 = .ok (.iconst 1, 1) := by decide +kernel
theorem dX2_ends_57 : decode cX2_ends 57 = .ok (.iload_n 1, 1) := by decide +kernel
theorem dX2_ends_58 : decode cX2_ends 58 = .ok (.iconst 1, 1) := by decide +kernel
theorem dX2_ends_59 : decode cX2_ends 59 = .ok (.iadd, 1) := by decide +kernel
theorem dX2_ends_60 : decode cX2_ends 60 = .ok (.aload_n 0, 1) := by decide +kernel
theorem dX2_ends_61 : decode cX2_ends 61 = .ok (.getfield 7, 3) := by decide +kernel
theorem dX2_ends_64 : decode cX2_ends 64 = .ok (.iconst 0, 1) := by decide +kernel
theorem dX2_ends_65 : decode cX2_ends 65 = .ok (.iaload, 1) := by decide +kernel
theorem dX2_ends_66 : decode cX2_ends 66 = .ok (.irem, 1) := by decide +kernel
theorem dX2_ends_67 : decode cX2_ends 67 = .ok (.iastore, 1) := by decide +kernel
theorem dX2_ends_68 : decode cX2_ends 68 = .ok (.aload_n 0, 1) := by decide +kernel
theorem dX2_ends_69 : decode cX2_ends 69 = .ok (.getfield 7, 3) := by decide +kernel
theorem dX2_ends_72 : decode cX2_ends 72 = .ok (.iconst 2, 1) := by decide +kernel
theorem dX2_ends_73 : decode cX2_ends 73 = .ok (.iconst 0, 1) := by decide +kernel
theorem dX2_ends_74 : decode cX2_ends 74 = .ok (.iastore, 1) := by decide +kernel
theorem dX2_ends_75 : decode cX2_ends 75 = .ok (.aload_n 0, 1) := by decide +kernel
theorem dX2_ends_76 : decode cX2_ends 76 = .ok (.getfield 7, 3) := by decide +kernel
theorem dX2_ends_79 : decode cX2_ends 79 = .ok (.iconst 3, 1) := by decide +kernel
theorem dX2_ends_80 : decode cX2_ends 80 = .ok (.iconst 1, 1) := by decide +kernel
theorem dX2_ends_81 : decode cX2_ends 81 = .ok (.iastore, 1) := by decide +kernel
theorem dX2_ends_82 : decode cX2_ends 82 = .ok (.aload_n 0, 1) := by decide +kernel
theorem dX2_ends_83 : decode cX2_ends 83 = .ok (.getfield 7, 3) := by decide +kernel
theorem dX2_ends_86 : decode cX2_ends 86 = .ok (.iconst 4, 1) := by decide +kernel
theorem dX2_ends_87 : decode cX2_ends 87 = .ok (.iconst 1, 1) := by decide +kernel
theorem dX2_ends_88 : decode cX2_ends 88 = .ok (.iastore, 1) := by decide +kernel
theorem dX2_ends_89 : decode cX2_ends 89 = .ok (.aload_n 0, 1) := by decide +kernel
theorem dX2_ends_90 : decode cX2_ends 90 = .ok (.getfield 7, 3) := by decide +kernel
theorem dX2_ends_93 : decode cX2_ends 93 = .ok (.iconst 5, 1) := by decide +kernel
theorem dX2_ends_94 : decode cX2_ends 94 = .ok (.iconst 0, 1) := by decide +kernel
theorem dX2_ends_95 : decode cX2_ends 95 = .ok (.iastore, 1) := by decide +kernel
theorem dX2_ends_96 : decode cX2_ends 96 = .ok (.aload_n 0, 1) := by decide +kernel
theorem dX2_ends_97 : decode cX2_ends 97 = .ok (.getfield 7, 3) := by decide +kernel
theorem dX2_ends_100 : decode cX2_ends 100 = .ok (.bipush 7, 2) := by decide +kernel
theorem dX2_ends_102 : decode cX2_ends 102 = .ok (.dup2, 1) := by decide +kernel
theorem dX2_ends_103 : decode cX2_ends 103 = .ok (.iaload, 1) := by decide +kernel
theorem dX2_ends_104 : decode cX2_ends 104 = .ok (.iconst 1, 1) := by decide +kernel
theorem dX2_ends_105 : decode cX2_ends 105 = .ok (.iadd, 1) := by decide +kernel
theorem dX2_ends_106 : decode cX2_ends 106 = .ok (.iastore, 1) := by decide +kernel
theorem dX2_ends_107 : decode cX2_ends 107 = .ok (.aload_n 0, 1) := by decide +kernel
theorem dX2_ends_108 : decode cX2_ends 108 = .ok (.getfield 7, 3) := by decide +kernel
theorem dX2_ends_111 : decode cX2_ends 111 = .ok (.bipush 8, 2) := by decide +kernel
theorem dX2_ends_113 : decode cX2_ends 113 = .ok (.aload_n 0, 1) := by decide +kernel
theorem dX2_ends_114 : decode cX2_ends 114 = .ok (.getfield 7, 3) := by decide +kernel
theorem dX2_ends_117 : decode cX2_ends 117 = .ok (.bipush 14, 2) := by decide +kernel
theorem dX2_ends_119 : decode cX2_ends 119 = .ok (.iaload, 1) := by decide +kernel
theorem dX2_ends_120 : decode cX2_ends 120 = .ok (.ifCond .eq 11, 3) := by decide +kernel
theorem dX2_ends_123 : decode cX2_ends 123 = .ok (.aload_n 0, 1) := by decide +kernel
theorem dX2_ends_124 : decode cX2_ends 124 = .ok (.invokevirtual 83, 3) := by decide +kernel
theorem dX2_ends_127 : decode cX2_ends 127 = .ok (.iconst 2, 1) := by decide +kernel
theorem dX2_ends_128 : decode cX2_ends 128 = .ok (.if_icmp .le 7, 3) := by decide +kernel
theorem dX2_ends_131 : decode cX2_ends 131 = .ok (.iconst 1, 1) := by decide +kernel
theorem dX2_ends_132 : decode cX2_ends 132 = .ok (.goto 4, 3) := by decide +kernel
theorem dX2_ends_135 : decode cX2_ends 135 = .ok (.iconst 0, 1) := by decide +kernel
theorem dX2_ends_136 : decode cX2_ends 136 = .ok (.iastore, 1) := by decide +kernel
theorem dX2_ends_137 : decode cX2_ends 137 = .ok (.aload_n 0, 1) := by decide +kernel
theorem dX2_ends_138 : decode cX2_ends 138 = .ok (.getfield 7, 3) := by decide +kernel
theorem dX2_ends_141 : decode cX2_ends 141 = .ok (.iconst 1, 1) := by decide +kernel
theorem dX2_ends_142 : decode cX2_ends 142 = .ok (.iaload, 1) := by decide +kernel
theorem dX2_ends_143 : decode cX2_ends 143 = .ok (.ireturn, 1) := by decide +kernel
theorem dX2_firstOf_0 : decode cX2_firstOf 0 = .ok (.iconst 0, 1) := by decide +kernel
theorem dX2_firstOf_1 : decode cX2_firstOf 1 = .ok (.istore_n 2, 1) := by decide +kernel
theorem dX2_firstOf_2 : decode cX2_firstOf 2 = .ok (.iload_n 2, 1) := by decide +kernel
theorem dX2_firstOf_3 : decode cX2_firstOf 3 = .ok (.aload_n 0, 1) := by decide +kernel
theorem dX2_firstOf_4 : decode cX2_firstOf 4 = .ok (.aload_n 0, 1) := by decide +kernel
theorem dX2_firstOf_5 : decode cX2_firstOf 5 = .ok (.getfield 7, 3) := by decide +kernel
theorem dX2_firstOf_8 : decode cX2_firstOf 8 = .ok (.iconst 1, 1) := by decide +kernel
theorem dX2_firstOf_9 : decode cX2_firstOf 9 = .ok (.iaload, 1) := by decide +kernel
theorem dX2_firstOf_10 : decode cX2_firstOf 10 = .ok (.iconst 1, 1) := by decide +kernel
theorem dX2_firstOf_11 : decode cX2_firstOf 11 = .ok (.invokevirtual 34, 3) := by decide +kernel
theorem dX2_firstOf_14 : decode cX2_firstOf 14 = .ok (.if_icmp .ge 36, 3) := by decide +kernel
theorem dX2_firstOf_17 : decode cX2_firstOf 17 = .ok (.iload_n 1, 1) := by decide +kernel
theorem dX2_firstOf_18 : decode cX2_firstOf 18 = .ok (.ifCond .eq 15, 3) := by decide +kernel
theorem dX2_firstOf_21 : decode cX2_firstOf 21 = .ok (.aload_n 0, 1) := by decide +kernel
theorem dX2_firstOf_22 : decode cX2_firstOf 22 = .ok (.iload_n 2, 1) := by decide +kernel
theorem dX2_firstOf_23 : decode cX2_firstOf 23 = .ok (.invokevirtual 64, 3) := by decide +kernel
theorem dX2_firstOf_26 : decode cX2_firstOf 26 = .ok (.iconst 3, 1) := by decide +kernel
theorem dX2_firstOf_27 : decode cX2_firstOf 27 = .ok (.if_icmp .ge 17, 3) := by decide +kernel
theorem dX2_firstOf_30 : decode cX2_firstOf 30 = .ok (.goto 12, 3) := by decide +kernel
theorem dX2_firstOf_33 : decode cX2_firstOf 33 = .ok (.aload_n 0, 1) := by decide +kernel
theorem dX2_firstOf_34 : decode cX2_firstOf 34 = .ok (.iload_n 2, 1) := by decide +kernel
theorem dX2_firstOf_35 : decode cX2_firstOf 35 = .ok (.invokevirtual 64, 3) := by decide +kernel
theorem dX2_firstOf_38 : decode cX2_firstOf 38 = .ok (.iconst 5, 1) := by decide +kernel
theorem dX2_firstOf_39 : decode cX2_firstOf 39 = .ok (.if_icmp .le 5, 3) := by decide +kernel
theorem dX2_firstOf_42 : decode cX2_firstOf 42 = .ok (.iload_n 2, 1) := by decide +kernel
theorem dX2_firstOf_43 : decode cX2_firstOf 43 = .ok (.ireturn, 1) := by decide +kernel
theorem dX2_firstOf_44 : decode cX2_firstOf 44 = .ok (.iinc 2 1, 3) := by decide +kernel
theorem dX2_firstOf_47 : decode cX2_firstOf 47 = .ok (.goto (-45), 3) := by decide +kernel
theorem dX2_firstOf_50 : decode cX2_firstOf 50 = .ok (.iconst (-1), 1) := by decide +kernel
theorem dX2_firstOf_51 : decode cX2_firstOf 51 = .ok (.ireturn, 1) := by decide +kernel
theorem dX2_dearest_0 : decode cX2_dearest 0 = .ok (.iconst (-1), 1) := by decide +kernel
theorem dX2_dearest_1 : decode cX2_dearest 1 = .ok (.istore_n 1, 1) := by decide +kernel
theorem dX2_dearest_2 : decode cX2_dearest 2 = .ok (.iconst 0, 1) := by decide +kernel
theorem dX2_dearest_3 : decode cX2_dearest 3 = .ok (.istore_n 2, 1) := by decide +kernel
theorem dX2_dearest_4 : decode cX2_dearest 4 = .ok (.iload_n 2, 1) := by decide +kernel
theorem dX2_dearest_5 : decode cX2_dearest 5 = .ok (.bipush 10, 2) := by decide +kernel
theorem dX2_dearest_7 : decode cX2_dearest 7 = .ok (.if_icmp .ge 55, 3) := by decide +kernel
theorem dX2_dearest_10 : decode cX2_dearest 10 = .ok (.iload_n 2, 1) := by decide +kernel
theorem dX2_dearest_11 : decode cX2_dearest 11 = .ok (.invokestatic 77, 3) := by decide +kernel
theorem dX2_dearest_14 : decode cX2_dearest 14 = .ok (.ifCond .le 15, 3) := by decide +kernel
theorem dX2_dearest_17 : decode cX2_dearest 17 = .ok (.aload_n 0, 1) := by decide +kernel
theorem dX2_dearest_18 : decode cX2_dearest 18 = .ok (.iload_n 2, 1) := by decide +kernel
theorem dX2_dearest_19 : decode cX2_dearest 19 = .ok (.invokevirtual 80, 3) := by decide +kernel
theorem dX2_dearest_22 : decode cX2_dearest 22 = .ok (.ifCond .ne 7, 3) := by decide +kernel
theorem dX2_dearest_25 : decode cX2_dearest 25 = .ok (.iconst 1, 1) := by decide +kernel
theorem dX2_dearest_26 : decode cX2_dearest 26 = .ok (.goto 4, 3) := by decide +kernel
theorem dX2_dearest_29 : decode cX2_dearest 29 = .ok (.iconst 0, 1) := by decide +kernel
theorem dX2_dearest_30 : decode cX2_dearest 30 = .ok (.istore_n 3, 1) := by decide +kernel
theorem dX2_dearest_31 : decode cX2_dearest 31 = .ok (.iload_n 3, 1) := by decide +kernel
theorem dX2_dearest_32 : decode cX2_dearest 32 = .ok (.ifCond .eq 22, 3) := by decide +kernel
theorem dX2_dearest_35 : decode cX2_dearest 35 = .ok (.iload_n 1, 1) := by decide +kernel
theorem dX2_dearest_36 : decode cX2_dearest 36 = .ok (.ifCond .lt 14, 3) := by decide +kernel
theorem dX2_dearest_39 : decode cX2_dearest 39 = .ok (.iload_n 2, 1) := by decide +kernel
theorem dX2_dearest_40 : decode cX2_dearest 40 = .ok (.invokestatic 77, 3) := by decide +kernel
theorem dX2_dearest_43 : decode cX2_dearest 43 = .ok (.iload_n 1, 1) := by decide +kernel
theorem dX2_dearest_44 : decode cX2_dearest 44 = .ok (.invokestatic 77, 3) := by decide +kernel
theorem dX2_dearest_47 : decode cX2_dearest 47 = .ok (.if_icmp .lt 7, 3) := by decide +kernel
theorem dX2_dearest_50 : decode cX2_dearest 50 = .ok (.iload_n 2, 1) := by decide +kernel
theorem dX2_dearest_51 : decode cX2_dearest 51 = .ok (.goto 4, 3) := by decide +kernel
theorem dX2_dearest_54 : decode cX2_dearest 54 = .ok (.iload_n 1, 1) := by decide +kernel
theorem dX2_dearest_55 : decode cX2_dearest 55 = .ok (.istore_n 1, 1) := by decide +kernel
theorem dX2_dearest_56 : decode cX2_dearest 56 = .ok (.iinc 2 1, 3) := by decide +kernel
theorem dX2_dearest_59 : decode cX2_dearest 59 = .ok (.goto (-55), 3) := by decide +kernel
theorem dX2_dearest_62 : decode cX2_dearest 62 = .ok (.iload_n 1, 1) := by decide +kernel
theorem dX2_dearest_63 : decode cX2_dearest 63 = .ok (.ireturn, 1) := by decide +kernel
theorem dX2_goOn_0 : decode cX2_goOn 0 = .ok (.aload_n 0, 1) := by decide +kernel
theorem dX2_goOn_1 : decode cX2_goOn 1 = .ok (.getfield 7, 3) := by decide +kernel
theorem dX2_goOn_4 : decode cX2_goOn 4 = .ok (.iconst 4, 1) := by decide +kernel
theorem dX2_goOn_5 : decode cX2_goOn 5 = .ok (.iaload, 1) := by decide +kernel
theorem dX2_goOn_6 : decode cX2_goOn 6 = .ok (.ifCond .le 24, 3) := by decide +kernel
theorem dX2_goOn_9 : decode cX2_goOn 9 = .ok (.aload_n 0, 1) := by decide +kernel
theorem dX2_goOn_10 : decode cX2_goOn 10 = .ok (.iconst 0, 1) := by decide +kernel
theorem dX2_goOn_11 : decode cX2_goOn 11 = .ok (.invokevirtual 87, 3) := by decide +kernel
theorem dX2_goOn_14 : decode cX2_goOn 14 = .ok (.ifCond .lt 16, 3) := by decide +kernel
theorem dX2_goOn_17 : decode cX2_goOn 17 = .ok (.aload_n 0, 1) := by decide +kernel
theorem dX2_goOn_18 : decode cX2_goOn 18 = .ok (.aload_n 0, 1) := by decide +kernel
theorem dX2_goOn_19 : decode cX2_goOn 19 = .ok (.iconst 0, 1) := by decide +kernel
theorem dX2_goOn_20 : decode cX2_goOn 20 = .ok (.invokevirtual 87, 3) := by decide +kernel
theorem dX2_goOn_23 : decode cX2_goOn 23 = .ok (.invokevirtual 91, 3) := by decide +kernel
theorem dX2_goOn_26 : decode cX2_goOn 26 = .ok (.istore_n 1, 1) := by decide +kernel
theorem dX2_goOn_27 : decode cX2_goOn 27 = .ok (.goto (-27), 3) := by decide +kernel
theorem dX2_goOn_30 : decode cX2_goOn 30 = .ok (.aload_n 0, 1) := by decide +kernel
theorem dX2_goOn_31 : decode cX2_goOn 31 = .ok (.iconst 1, 1) := by decide +kernel
theorem dX2_goOn_32 : decode cX2_goOn 32 = .ok (.invokevirtual 87, 3) := by decide +kernel
theorem dX2_goOn_35 : decode cX2_goOn 35 = .ok (.ifCond .lt 16, 3) := by decide +kernel
theorem dX2_goOn_38 : decode cX2_goOn 38 = .ok (.aload_n 0, 1) := by decide +kernel
theorem dX2_goOn_39 : decode cX2_goOn 39 = .ok (.aload_n 0, 1) := by decide +kernel
theorem dX2_goOn_40 : decode cX2_goOn 40 = .ok (.iconst 1, 1) := by decide +kernel
theorem dX2_goOn_41 : decode cX2_goOn 41 = .ok (.invokevirtual 87, 3) := by decide +kernel
theorem dX2_goOn_44 : decode cX2_goOn 44 = .ok (.invokevirtual 91, 3) := by decide +kernel
theorem dX2_goOn_47 : decode cX2_goOn 47 = .ok (.istore_n 1, 1) := by decide +kernel
theorem dX2_goOn_48 : decode cX2_goOn 48 = .ok (.goto (-18), 3) := by decide +kernel
theorem dX2_goOn_51 : decode cX2_goOn 51 = .ok (.aload_n 0, 1) := by decide +kernel
theorem dX2_goOn_52 : decode cX2_goOn 52 = .ok (.invokevirtual 94, 3) := by decide +kernel
theorem dX2_goOn_55 : decode cX2_goOn 55 = .ok (.ifCond .lt 15, 3) := by decide +kernel
theorem dX2_goOn_58 : decode cX2_goOn 58 = .ok (.aload_n 0, 1) := by decide +kernel
theorem dX2_goOn_59 : decode cX2_goOn 59 = .ok (.aload_n 0, 1) := by decide +kernel
theorem dX2_goOn_60 : decode cX2_goOn 60 = .ok (.invokevirtual 94, 3) := by decide +kernel
theorem dX2_goOn_63 : decode cX2_goOn 63 = .ok (.invokevirtual 97, 3) := by decide +kernel
theorem dX2_goOn_66 : decode cX2_goOn 66 = .ok (.istore_n 1, 1) := by decide +kernel
theorem dX2_goOn_67 : decode cX2_goOn 67 = .ok (.goto (-16), 3) := by decide +kernel
theorem dX2_goOn_70 : decode cX2_goOn 70 = .ok (.aload_n 0, 1) := by decide +kernel
theorem dX2_goOn_71 : decode cX2_goOn 71 = .ok (.invokevirtual 100, 3) := by decide +kernel
theorem dX2_goOn_74 : decode cX2_goOn 74 = .ok (.istore_n 1, 1) := by decide +kernel
theorem dX2_goOn_75 : decode cX2_goOn 75 = .ok (.return_, 1) := by decide +kernel
theorem dX2_goesOn_0 : decode cX2_goesOn 0 = .ok (.iconst 0, 1) := by decide +kernel
theorem dX2_goesOn_1 : decode cX2_goesOn 1 = .ok (.istore_n 2, 1) := by decide +kernel
theorem dX2_goesOn_2 : decode cX2_goesOn 2 = .ok (.iload_n 2, 1) := by decide +kernel
theorem dX2_goesOn_3 : decode cX2_goesOn 3 = .ok (.iload_n 1, 1) := by decide +kernel
theorem dX2_goesOn_4 : decode cX2_goesOn 4 = .ok (.if_icmp .ge 23, 3) := by decide +kernel
theorem dX2_goesOn_7 : decode cX2_goesOn 7 = .ok (.aload_n 0, 1) := by decide +kernel
theorem dX2_goesOn_8 : decode cX2_goesOn 8 = .ok (.getfield 7, 3) := by decide +kernel
theorem dX2_goesOn_11 : decode cX2_goesOn 11 = .ok (.bipush 8, 2) := by decide +kernel
theorem dX2_goesOn_13 : decode cX2_goesOn 13 = .ok (.iaload, 1) := by decide +kernel
theorem dX2_goesOn_14 : decode cX2_goesOn 14 = .ok (.ifCond .ne 13, 3) := by decide +kernel
theorem dX2_goesOn_17 : decode cX2_goesOn 17 = .ok (.aload_n 0, 1) := by decide +kernel
theorem dX2_goesOn_18 : decode cX2_goesOn 18 = .ok (.invokevirtual 103, 3) := by decide +kernel
theorem dX2_goesOn_21 : decode cX2_goesOn 21 = .ok (.iinc 2 1, 3) := by decide +kernel
theorem dX2_goesOn_24 : decode cX2_goesOn 24 = .ok (.goto (-22), 3) := by decide +kernel
theorem dX2_goesOn_27 : decode cX2_goesOn 27 = .ok (.iload_n 2, 1) := by decide +kernel
theorem dX2_goesOn_28 : decode cX2_goesOn 28 = .ok (.ireturn, 1) := by decide +kernel
theorem dX2_begin_0 : decode cX2_begin 0 = .ok (.iload_n 1, 1) := by decide +kernel
theorem dX2_begin_1 : decode cX2_begin 1 = .ok (.iconst 2, 1) := by decide +kernel
theorem dX2_begin_2 : decode cX2_begin 2 = .ok (.iconst 4, 1) := by decide +kernel
theorem dX2_begin_3 : decode cX2_begin 3 = .ok (.invokestatic 48, 3) := by decide +kernel
theorem dX2_begin_6 : decode cX2_begin 6 = .ok (.ifCond .ne 6, 3) := by decide +kernel
theorem dX2_begin_9 : decode cX2_begin 9 = .ok (.ldc 63, 2) := by decide +kernel
theorem dX2_begin_11 : decode cX2_begin 11 = .ok (.ireturn, 1) := by decide +kernel
theorem dX2_begin_12 : decode cX2_begin 12 = .ok (.aload_n 0, 1) := by decide +kernel
theorem dX2_begin_13 : decode cX2_begin 13 = .ok (.invokevirtual 106, 3) := by decide +kernel
theorem dX2_begin_16 : decode cX2_begin 16 = .ok (.aload_n 0, 1) := by decide +kernel
theorem dX2_begin_17 : decode cX2_begin 17 = .ok (.iload_n 1, 1) := by decide +kernel
theorem dX2_begin_18 : decode cX2_begin 18 = .ok (.invokevirtual 22, 3) := by decide +kernel
theorem dX2_begin_21 : decode cX2_begin 21 = .ok (.ireturn, 1) := by decide +kernel
theorem dX2_play_0 : decode cX2_play 0 = .ok (.aload_n 0, 1) := by decide +kernel
theorem dX2_play_1 : decode cX2_play 1 = .ok (.iload_n 1, 1) := by decide +kernel
theorem dX2_play_2 : decode cX2_play 2 = .ok (.invokevirtual 109, 3) := by decide +kernel
theorem dX2_play_5 : decode cX2_play 5 = .ok (.istore_n 2, 1) := by decide +kernel
theorem dX2_play_6 : decode cX2_play 6 = .ok (.iload_n 2, 1) := by decide +kernel
theorem dX2_play_7 : decode cX2_play 7 = .ok (.ifCond .ge 5, 3) := by decide +kernel
theorem dX2_play_10 : decode cX2_play 10 = .ok (.iload_n 2, 1) := by decide +kernel
theorem dX2_play_11 : decode cX2_play 11 = .ok (.ireturn, 1) := by decide +kernel
theorem dX2_play_12 : decode cX2_play 12 = .ok (.aload_n 0, 1) := by decide +kernel
theorem dX2_play_13 : decode cX2_play 13 = .ok (.invokevirtual 106, 3) := by decide +kernel
theorem dX2_play_16 : decode cX2_play 16 = .ok (.aload_n 0, 1) := by decide +kernel
theorem dX2_play_17 : decode cX2_play 17 = .ok (.iload_n 1, 1) := by decide +kernel
theorem dX2_play_18 : decode cX2_play 18 = .ok (.invokevirtual 91, 3) := by decide +kernel
theorem dX2_play_21 : decode cX2_play 21 = .ok (.ireturn, 1) := by decide +kernel
theorem dX2_buy_0 : decode cX2_buy 0 = .ok (.aload_n 0, 1) := by decide +kernel
theorem dX2_buy_1 : decode cX2_buy 1 = .ok (.iload_n 1, 1) := by decide +kernel
theorem dX2_buy_2 : decode cX2_buy 2 = .ok (.invokevirtual 112, 3) := by decide +kernel
theorem dX2_buy_5 : decode cX2_buy 5 = .ok (.istore_n 2, 1) := by decide +kernel
theorem dX2_buy_6 : decode cX2_buy 6 = .ok (.iload_n 2, 1) := by decide +kernel
theorem dX2_buy_7 : decode cX2_buy 7 = .ok (.ifCond .ge 5, 3) := by decide +kernel
theorem dX2_buy_10 : decode cX2_buy 10 = .ok (.iload_n 2, 1) := by decide +kernel
theorem dX2_buy_11 : decode cX2_buy 11 = .ok (.ireturn, 1) := by decide +kernel
theorem dX2_buy_12 : decode cX2_buy 12 = .ok (.aload_n 0, 1) := by decide +kernel
theorem dX2_buy_13 : decode cX2_buy 13 = .ok (.invokevirtual 106, 3) := by decide +kernel
theorem dX2_buy_16 : decode cX2_buy 16 = .ok (.aload_n 0, 1) := by decide +kernel
theorem dX2_buy_17 : decode cX2_buy 17 = .ok (.iload_n 1, 1) := by decide +kernel
theorem dX2_buy_18 : decode cX2_buy 18 = .ok (.invokevirtual 97, 3) := by decide +kernel
theorem dX2_buy_21 : decode cX2_buy 21 = .ok (.ireturn, 1) := by decide +kernel
theorem dX2_scrap_0 : decode cX2_scrap 0 = .ok (.aload_n 0, 1) := by decide +kernel
theorem dX2_scrap_1 : decode cX2_scrap 1 = .ok (.iload_n 1, 1) := by decide +kernel
theorem dX2_scrap_2 : decode cX2_scrap 2 = .ok (.invokevirtual 115, 3) := by decide +kernel
theorem dX2_scrap_5 : decode cX2_scrap 5 = .ok (.istore_n 2, 1) := by decide +kernel
theorem dX2_scrap_6 : decode cX2_scrap 6 = .ok (.iload_n 2, 1) := by decide +kernel
theorem dX2_scrap_7 : decode cX2_scrap 7 = .ok (.ifCond .ge 5, 3) := by decide +kernel
theorem dX2_scrap_10 : decode cX2_scrap 10 = .ok (.iload_n 2, 1) := by decide +kernel
theorem dX2_scrap_11 : decode cX2_scrap 11 = .ok (.ireturn, 1) := by decide +kernel
theorem dX2_scrap_12 : decode cX2_scrap 12 = .ok (.aload_n 0, 1) := by decide +kernel
theorem dX2_scrap_13 : decode cX2_scrap 13 = .ok (.invokevirtual 106, 3) := by decide +kernel
theorem dX2_scrap_16 : decode cX2_scrap 16 = .ok (.aload_n 0, 1) := by decide +kernel
theorem dX2_scrap_17 : decode cX2_scrap 17 = .ok (.iload_n 1, 1) := by decide +kernel
theorem dX2_scrap_18 : decode cX2_scrap 18 = .ok (.invokevirtual 118, 3) := by decide +kernel
theorem dX2_scrap_21 : decode cX2_scrap 21 = .ok (.ireturn, 1) := by decide +kernel
theorem dX2_end_0 : decode cX2_end 0 = .ok (.aload_n 0, 1) := by decide +kernel
theorem dX2_end_1 : decode cX2_end 1 = .ok (.getfield 7, 3) := by decide +kernel
theorem dX2_end_4 : decode cX2_end 4 = .ok (.bipush 8, 2) := by decide +kernel
theorem dX2_end_6 : decode cX2_end 6 = .ok (.iaload, 1) := by decide +kernel
theorem dX2_end_7 : decode cX2_end 7 = .ok (.iconst 1, 1) := by decide +kernel
theorem dX2_end_8 : decode cX2_end 8 = .ok (.if_icmp .ne 6, 3) := by decide +kernel
theorem dX2_end_11 : decode cX2_end 11 = .ok (.ldc 67, 2) := by decide +kernel
theorem dX2_end_13 : decode cX2_end 13 = .ok (.ireturn, 1) := by decide +kernel
theorem dX2_end_14 : decode cX2_end 14 = .ok (.aload_n 0, 1) := by decide +kernel
theorem dX2_end_15 : decode cX2_end 15 = .ok (.invokevirtual 106, 3) := by decide +kernel
theorem dX2_end_18 : decode cX2_end 18 = .ok (.aload_n 0, 1) := by decide +kernel
theorem dX2_end_19 : decode cX2_end 19 = .ok (.invokevirtual 100, 3) := by decide +kernel
theorem dX2_end_22 : decode cX2_end 22 = .ok (.ireturn, 1) := by decide +kernel
theorem dX2_alike_0 : decode cX2_alike 0 = .ok (.iload_n 1, 1) := by decide +kernel
theorem dX2_alike_1 : decode cX2_alike 1 = .ok (.iconst 1, 1) := by decide +kernel
theorem dX2_alike_2 : decode cX2_alike 2 = .ok (.bipush 20, 2) := by decide +kernel
theorem dX2_alike_4 : decode cX2_alike 4 = .ok (.invokestatic 48, 3) := by decide +kernel
theorem dX2_alike_7 : decode cX2_alike 7 = .ok (.ifCond .ne 6, 3) := by decide +kernel
theorem dX2_alike_10 : decode cX2_alike 10 = .ok (.ldc 63, 2) := by decide +kernel
theorem dX2_alike_12 : decode cX2_alike 12 = .ok (.ireturn, 1) := by decide +kernel
theorem dX2_alike_13 : decode cX2_alike 13 = .ok (.aload_n 0, 1) := by decide +kernel
theorem dX2_alike_14 : decode cX2_alike 14 = .ok (.getfield 7, 3) := by decide +kernel
theorem dX2_alike_17 : decode cX2_alike 17 = .ok (.bipush 8, 2) := by decide +kernel
theorem dX2_alike_19 : decode cX2_alike 19 = .ok (.iaload, 1) := by decide +kernel
theorem dX2_alike_20 : decode cX2_alike 20 = .ok (.iconst 1, 1) := by decide +kernel
theorem dX2_alike_21 : decode cX2_alike 21 = .ok (.if_icmp .ne 6, 3) := by decide +kernel
theorem dX2_alike_24 : decode cX2_alike 24 = .ok (.ldc 67, 2) := by decide +kernel
theorem dX2_alike_26 : decode cX2_alike 26 = .ok (.ireturn, 1) := by decide +kernel
theorem dX2_alike_27 : decode cX2_alike 27 = .ok (.aload_n 0, 1) := by decide +kernel
theorem dX2_alike_28 : decode cX2_alike 28 = .ok (.invokevirtual 106, 3) := by decide +kernel
theorem dX2_alike_31 : decode cX2_alike 31 = .ok (.aload_n 0, 1) := by decide +kernel
theorem dX2_alike_32 : decode cX2_alike 32 = .ok (.iload_n 1, 1) := by decide +kernel
theorem dX2_alike_33 : decode cX2_alike 33 = .ok (.invokevirtual 121, 3) := by decide +kernel
theorem dX2_alike_36 : decode cX2_alike 36 = .ok (.ireturn, 1) := by decide +kernel
theorem dX2_set_0 : decode cX2_set 0 = .ok (.iload_n 1, 1) := by decide +kernel
theorem dX2_set_1 : decode cX2_set 1 = .ok (.ifCond .ne 13, 3) := by decide +kernel
theorem dX2_set_4 : decode cX2_set 4 = .ok (.iload_n 2, 1) := by decide +kernel
theorem dX2_set_5 : decode cX2_set 5 = .ok (.iconst 0, 1) := by decide +kernel
theorem dX2_set_6 : decode cX2_set 6 = .ok (.bipush 9, 2) := by decide +kernel
theorem dX2_set_8 : decode cX2_set 8 = .ok (.invokestatic 48, 3) := by decide +kernel
theorem dX2_set_11 : decode cX2_set 11 = .ok (.ifCond .ne 6, 3) := by decide +kernel
theorem dX2_set_14 : decode cX2_set 14 = .ok (.ldc 63, 2) := by decide +kernel
theorem dX2_set_16 : decode cX2_set 16 = .ok (.ireturn, 1) := by decide +kernel
theorem dX2_set_17 : decode cX2_set 17 = .ok (.aload_n 0, 1) := by decide +kernel
theorem dX2_set_18 : decode cX2_set 18 = .ok (.invokevirtual 106, 3) := by decide +kernel
theorem dX2_set_21 : decode cX2_set 21 = .ok (.aload_n 0, 1) := by decide +kernel
theorem dX2_set_22 : decode cX2_set 22 = .ok (.getfield 7, 3) := by decide +kernel
theorem dX2_set_25 : decode cX2_set 25 = .ok (.bipush 9, 2) := by decide +kernel
theorem dX2_set_27 : decode cX2_set 27 = .ok (.iaload, 1) := by decide +kernel
theorem dX2_set_28 : decode cX2_set 28 = .ok (.istore_n 3, 1) := by decide +kernel
theorem dX2_set_29 : decode cX2_set 29 = .ok (.aload_n 0, 1) := by decide +kernel
theorem dX2_set_30 : decode cX2_set 30 = .ok (.getfield 7, 3) := by decide +kernel
theorem dX2_set_33 : decode cX2_set 33 = .ok (.bipush 9, 2) := by decide +kernel
theorem dX2_set_35 : decode cX2_set 35 = .ok (.iload_n 2, 1) := by decide +kernel
theorem dX2_set_36 : decode cX2_set 36 = .ok (.iastore, 1) := by decide +kernel
theorem dX2_set_37 : decode cX2_set 37 = .ok (.iload_n 3, 1) := by decide +kernel
theorem dX2_set_38 : decode cX2_set 38 = .ok (.ireturn, 1) := by decide +kernel
theorem dX2_isPlayer_0 : decode cX2_isPlayer 0 = .ok (.iload_n 1, 1) := by decide +kernel
theorem dX2_isPlayer_1 : decode cX2_isPlayer 1 = .ok (.iconst 0, 1) := by decide +kernel
theorem dX2_isPlayer_2 : decode cX2_isPlayer 2 = .ok (.aload_n 0, 1) := by decide +kernel
theorem dX2_isPlayer_3 : decode cX2_isPlayer 3 = .ok (.getfield 7, 3) := by decide +kernel
theorem dX2_isPlayer_6 : decode cX2_isPlayer 6 = .ok (.iconst 0, 1) := by decide +kernel
theorem dX2_isPlayer_7 : decode cX2_isPlayer 7 = .ok (.iaload, 1) := by decide +kernel
theorem dX2_isPlayer_8 : decode cX2_isPlayer 8 = .ok (.iconst 1, 1) := by decide +kernel
theorem dX2_isPlayer_9 : decode cX2_isPlayer 9 = .ok (.isub, 1) := by decide +kernel
theorem dX2_isPlayer_10 : decode cX2_isPlayer 10 = .ok (.invokestatic 48, 3) := by decide +kernel
theorem dX2_isPlayer_13 : decode cX2_isPlayer 13 = .ok (.ireturn, 1) := by decide +kernel
theorem dX2_card_0 : decode cX2_card 0 = .ok (.aload_n 0, 1) := by decide +kernel
theorem dX2_card_1 : decode cX2_card 1 = .ok (.iload_n 1, 1) := by decide +kernel
theorem dX2_card_2 : decode cX2_card 2 = .ok (.invokevirtual 124, 3) := by decide +kernel
theorem dX2_card_5 : decode cX2_card 5 = .ok (.ifCond .eq 16, 3) := by decide +kernel
theorem dX2_card_8 : decode cX2_card 8 = .ok (.iload_n 2, 1) := by decide +kernel
theorem dX2_card_9 : decode cX2_card 9 = .ok (.iconst 0, 1) := by decide +kernel
theorem dX2_card_10 : decode cX2_card 10 = .ok (.iconst 3, 1) := by decide +kernel
theorem dX2_card_11 : decode cX2_card 11 = .ok (.invokestatic 48, 3) := by decide +kernel
theorem dX2_card_14 : decode cX2_card 14 = .ok (.ifCond .eq 7, 3) := by decide +kernel
theorem dX2_card_17 : decode cX2_card 17 = .ok (.iload_n 3, 1) := by decide +kernel
theorem dX2_card_18 : decode cX2_card 18 = .ok (.ifCond .ge 6, 3) := by decide +kernel
theorem dX2_card_21 : decode cX2_card 21 = .ok (.ldc 63, 2) := by decide +kernel
theorem dX2_card_23 : decode cX2_card 23 = .ok (.ireturn, 1) := by decide +kernel
theorem dX2_card_24 : decode cX2_card 24 = .ok (.iload_n 3, 1) := by decide +kernel
theorem dX2_card_25 : decode cX2_card 25 = .ok (.aload_n 0, 1) := by decide +kernel
theorem dX2_card_26 : decode cX2_card 26 = .ok (.iload_n 1, 1) := by decide +kernel
theorem dX2_card_27 : decode cX2_card 27 = .ok (.iload_n 2, 1) := by decide +kernel
theorem dX2_card_28 : decode cX2_card 28 = .ok (.invokevirtual 34, 3) := by decide +kernel
theorem dX2_card_31 : decode cX2_card 31 = .ok (.if_icmp .ge 20, 3) := by decide +kernel
theorem dX2_card_34 : decode cX2_card 34 = .ok (.aload_n 0, 1) := by decide +kernel
theorem dX2_card_35 : decode cX2_card 35 = .ok (.getfield 7, 3) := by decide +kernel
theorem dX2_card_38 : decode cX2_card 38 = .ok (.iload_n 1, 1) := by decide +kernel
theorem dX2_card_39 : decode cX2_card 39 = .ok (.iload_n 2, 1) := by decide +kernel
theorem dX2_card_40 : decode cX2_card 40 = .ok (.invokestatic 26, 3) := by decide +kernel
theorem dX2_card_43 : decode cX2_card 43 = .ok (.iconst 1, 1) := by decide +kernel
theorem dX2_card_44 : decode cX2_card 44 = .ok (.iadd, 1) := by decide +kernel
theorem dX2_card_45 : decode cX2_card 45 = .ok (.iload_n 3, 1) := by decide +kernel
theorem dX2_card_46 : decode cX2_card 46 = .ok (.iadd, 1) := by decide +kernel
theorem dX2_card_47 : decode cX2_card 47 = .ok (.iaload, 1) := by decide +kernel
theorem dX2_card_48 : decode cX2_card 48 = .ok (.goto 5, 3) := by decide +kernel
theorem dX2_card_51 : decode cX2_card 51 = .ok (.ldc 127, 2) := by decide +kernel
theorem dX2_card_53 : decode cX2_card 53 = .ok (.ireturn, 1) := by decide +kernel
theorem dX2_cardsOf_0 : decode cX2_cardsOf 0 = .ok (.iconst 0, 1) := by decide +kernel
theorem dX2_cardsOf_1 : decode cX2_cardsOf 1 = .ok (.istore 5, 2) := by decide +kernel
theorem dX2_cardsOf_3 : decode cX2_cardsOf 3 = .ok (.iload_n 2, 1) := by decide +kernel
theorem dX2_cardsOf_4 : decode cX2_cardsOf 4 = .ok (.istore 6, 2) := by decide +kernel
theorem dX2_cardsOf_6 : decode cX2_cardsOf 6 = .ok (.iload 6, 2) := by decide +kernel
theorem dX2_cardsOf_8 : decode cX2_cardsOf 8 = .ok (.iload_n 3, 1) := by decide +kernel
theorem dX2_cardsOf_9 : decode cX2_cardsOf 9 = .ok (.if_icmp .gt 66, 3) := by decide +kernel
theorem dX2_cardsOf_12 : decode cX2_cardsOf 12 = .ok (.iconst 1, 1) := by decide +kernel
theorem dX2_cardsOf_13 : decode cX2_cardsOf 13 = .ok (.istore 7, 2) := by decide +kernel
theorem dX2_cardsOf_15 : decode cX2_cardsOf 15 = .ok (.iload 7, 2) := by decide +kernel
theorem dX2_cardsOf_17 : decode cX2_cardsOf 17 = .ok (.aload_n 0, 1) := by decide +kernel
theorem dX2_cardsOf_18 : decode cX2_cardsOf 18 = .ok (.iload_n 1, 1) := by decide +kernel
theorem dX2_cardsOf_19 : decode cX2_cardsOf 19 = .ok (.iload 6, 2) := by decide +kernel
theorem dX2_cardsOf_21 : decode cX2_cardsOf 21 = .ok (.invokevirtual 34, 3) := by decide +kernel
theorem dX2_cardsOf_24 : decode cX2_cardsOf 24 = .ok (.if_icmp .gt 45, 3) := by decide +kernel
theorem dX2_cardsOf_27 : decode cX2_cardsOf 27 = .ok (.iload 5, 2) := by decide +kernel
theorem dX2_cardsOf_29 : decode cX2_cardsOf 29 = .ok (.iload 4, 2) := by decide +kernel
theorem dX2_cardsOf_31 : decode cX2_cardsOf 31 = .ok (.bipush 10, 2) := by decide +kernel
theorem dX2_cardsOf_33 : decode cX2_cardsOf 33 = .ok (.if_icmp .eq 22, 3) := by decide +kernel
theorem dX2_cardsOf_36 : decode cX2_cardsOf 36 = .ok (.aload_n 0, 1) := by decide +kernel
theorem dX2_cardsOf_37 : decode cX2_cardsOf 37 = .ok (.getfield 7, 3) := by decide +kernel
theorem dX2_cardsOf_40 : decode cX2_cardsOf 40 = .ok (.iload_n 1, 1) := by decide +kernel
theorem dX2_cardsOf_41 : decode cX2_cardsOf 41 = .ok (.iload 6, 2) := by decide +kernel
theorem dX2_cardsOf_43 : decode cX2_cardsOf 43 = .ok (.invokestatic 26, 3) := by decide +kernel
theorem dX2_cardsOf_46 : decode cX2_cardsOf 46 = .ok (.iload 7, 2) := by decide +kernel
theorem dX2_cardsOf_48 : decode cX2_cardsOf 48 = .ok (.iadd, 1) := by decide +kernel
theorem dX2_cardsOf_49 : decode cX2_cardsOf 49 = .ok (.iaload, 1) := by decide +kernel
theorem dX2_cardsOf_50 : decode cX2_cardsOf 50 = .ok (.iload 4, 2) := by decide +kernel
theorem dX2_cardsOf_52 : decode cX2_cardsOf 52 = .ok (.if_icmp .ne 7, 3) := by decide +kernel
theorem dX2_cardsOf_55 : decode cX2_cardsOf 55 = .ok (.iconst 1, 1) := by decide +kernel
theorem dX2_cardsOf_56 : decode cX2_cardsOf 56 = .ok (.goto 4, 3) := by decide +kernel
theorem dX2_cardsOf_59 : decode cX2_cardsOf 59 = .ok (.iconst 0, 1) := by decide +kernel
theorem dX2_cardsOf_60 : decode cX2_cardsOf 60 = .ok (.iadd, 1) := by decide +kernel
theorem dX2_cardsOf_61 : decode cX2_cardsOf 61 = .ok (.istore 5, 2) := by decide +kernel
theorem dX2_cardsOf_63 : decode cX2_cardsOf 63 = .ok (.iinc 7 1, 3) := by decide +kernel
theorem dX2_cardsOf_66 : decode cX2_cardsOf 66 = .ok (.goto (-51), 3) := by decide +kernel
theorem dX2_cardsOf_69 : decode cX2_cardsOf 69 = .ok (.iinc 6 1, 3) := by decide +kernel
theorem dX2_cardsOf_72 : decode cX2_cardsOf 72 = .ok (.goto (-66), 3) := by decide +kernel
theorem dX2_cardsOf_75 : decode cX2_cardsOf 75 = .ok (.iload 5, 2) := by decide +kernel
theorem dX2_cardsOf_77 : decode cX2_cardsOf 77 = .ok (.ireturn, 1) := by decide +kernel
theorem dX2_many_0 : decode cX2_many 0 = .ok (.aload_n 0, 1) := by decide +kernel
theorem dX2_many_1 : decode cX2_many 1 = .ok (.iload_n 1, 1) := by decide +kernel
theorem dX2_many_2 : decode cX2_many 2 = .ok (.invokevirtual 124, 3) := by decide +kernel
theorem dX2_many_5 : decode cX2_many 5 = .ok (.ifCond .eq 22, 3) := by decide +kernel
theorem dX2_many_8 : decode cX2_many 8 = .ok (.iload_n 2, 1) := by decide +kernel
theorem dX2_many_9 : decode cX2_many 9 = .ok (.iconst 0, 1) := by decide +kernel
theorem dX2_many_10 : decode cX2_many 10 = .ok (.iconst 4, 1) := by decide +kernel
theorem dX2_many_11 : decode cX2_many 11 = .ok (.invokestatic 48, 3) := by decide +kernel
theorem dX2_many_14 : decode cX2_many 14 = .ok (.ifCond .eq 13, 3) := by decide +kernel
theorem dX2_many_17 : decode cX2_many 17 = .ok (.iload_n 3, 1) := by decide +kernel
theorem dX2_many_18 : decode cX2_many 18 = .ok (.iconst 0, 1) := by decide +kernel
theorem dX2_many_19 : decode cX2_many 19 = .ok (.bipush 10, 2) := by decide +kernel
theorem dX2_many_21 : decode cX2_many 21 = .ok (.invokestatic 48, 3) := by decide +kernel
theorem dX2_many_24 : decode cX2_many 24 = .ok (.ifCond .ne 6, 3) := by decide +kernel
theorem dX2_many_27 : decode cX2_many 27 = .ok (.ldc 63, 2) := by decide +kernel
theorem dX2_many_29 : decode cX2_many 29 = .ok (.ireturn, 1) := by decide +kernel
theorem dX2_many_30 : decode cX2_many 30 = .ok (.aload_n 0, 1) := by decide +kernel
theorem dX2_many_31 : decode cX2_many 31 = .ok (.iload_n 1, 1) := by decide +kernel
theorem dX2_many_32 : decode cX2_many 32 = .ok (.iload_n 2, 1) := by decide +kernel
theorem dX2_many_33 : decode cX2_many 33 = .ok (.iconst 4, 1) := by decide +kernel
theorem dX2_many_34 : decode cX2_many 34 = .ok (.if_icmp .ne 7, 3) := by decide +kernel
theorem dX2_many_37 : decode cX2_many 37 = .ok (.iconst 0, 1) := by decide +kernel
theorem dX2_many_38 : decode cX2_many 38 = .ok (.goto 4, 3) := by decide +kernel
theorem dX2_many_41 : decode cX2_many 41 = .ok (.iload_n 2, 1) := by decide +kernel
theorem dX2_many_42 : decode cX2_many 42 = .ok (.iload_n 2, 1) := by decide +kernel
theorem dX2_many_43 : decode cX2_many 43 = .ok (.iconst 4, 1) := by decide +kernel
theorem dX2_many_44 : decode cX2_many 44 = .ok (.if_icmp .ne 7, 3) := by decide +kernel
theorem dX2_many_47 : decode cX2_many 47 = .ok (.iconst 3, 1) := by decide +kernel
theorem dX2_many_48 : decode cX2_many 48 = .ok (.goto 4, 3) := by decide +kernel
theorem dX2_many_51 : decode cX2_many 51 = .ok (.iload_n 2, 1) := by decide +kernel
theorem dX2_many_52 : decode cX2_many 52 = .ok (.iload_n 3, 1) := by decide +kernel
theorem dX2_many_53 : decode cX2_many 53 = .ok (.invokevirtual 128, 3) := by decide +kernel
theorem dX2_many_56 : decode cX2_many 56 = .ok (.ireturn, 1) := by decide +kernel
theorem dX2_pointsBy_0 : decode cX2_pointsBy 0 = .ok (.bipush 100, 2) := by decide +kernel
theorem dX2_pointsBy_2 : decode cX2_pointsBy 2 = .ok (.istore_n 2, 1) := by decide +kernel
theorem dX2_pointsBy_3 : decode cX2_pointsBy 3 = .ok (.iconst 3, 1) := by decide +kernel
theorem dX2_pointsBy_4 : decode cX2_pointsBy 4 = .ok (.istore_n 3, 1) := by decide +kernel
theorem dX2_pointsBy_5 : decode cX2_pointsBy 5 = .ok (.iload_n 3, 1) := by decide +kernel
theorem dX2_pointsBy_6 : decode cX2_pointsBy 6 = .ok (.bipush 6, 2) := by decide +kernel
theorem dX2_pointsBy_8 : decode cX2_pointsBy 8 = .ok (.if_icmp .ge 25, 3) := by decide +kernel
theorem dX2_pointsBy_11 : decode cX2_pointsBy 11 = .ok (.iload_n 2, 1) := by decide +kernel
theorem dX2_pointsBy_12 : decode cX2_pointsBy 12 = .ok (.iload_n 3, 1) := by decide +kernel
theorem dX2_pointsBy_13 : decode cX2_pointsBy 13 = .ok (.invokestatic 132, 3) := by decide +kernel
theorem dX2_pointsBy_16 : decode cX2_pointsBy 16 = .ok (.aload_n 0, 1) := by decide +kernel
theorem dX2_pointsBy_17 : decode cX2_pointsBy 17 = .ok (.iload_n 1, 1) := by decide +kernel
theorem dX2_pointsBy_18 : decode cX2_pointsBy 18 = .ok (.iconst 0, 1) := by decide +kernel
theorem dX2_pointsBy_19 : decode cX2_pointsBy 19 = .ok (.iconst 3, 1) := by decide +kernel
theorem dX2_pointsBy_20 : decode cX2_pointsBy 20 = .ok (.iload_n 3, 1) := by decide +kernel
theorem dX2_pointsBy_21 : decode cX2_pointsBy 21 = .ok (.invokevirtual 128, 3) := by decide +kernel
theorem dX2_pointsBy_24 : decode cX2_pointsBy 24 = .ok (.imul, 1) := by decide +kernel
theorem dX2_pointsBy_25 : decode cX2_pointsBy 25 = .ok (.iadd, 1) := by decide +kernel
theorem dX2_pointsBy_26 : decode cX2_pointsBy 26 = .ok (.istore_n 2, 1) := by decide +kernel
theorem dX2_pointsBy_27 : decode cX2_pointsBy 27 = .ok (.iinc 3 1, 3) := by decide +kernel
theorem dX2_pointsBy_30 : decode cX2_pointsBy 30 = .ok (.goto (-25), 3) := by decide +kernel
theorem dX2_pointsBy_33 : decode cX2_pointsBy 33 = .ok (.iload_n 2, 1) := by decide +kernel
theorem dX2_pointsBy_34 : decode cX2_pointsBy 34 = .ok (.ireturn, 1) := by decide +kernel
theorem dX2_points_0 : decode cX2_points 0 = .ok (.aload_n 0, 1) := by decide +kernel
theorem dX2_points_1 : decode cX2_points 1 = .ok (.iload_n 1, 1) := by decide +kernel
theorem dX2_points_2 : decode cX2_points 2 = .ok (.invokevirtual 124, 3) := by decide +kernel
theorem dX2_points_5 : decode cX2_points 5 = .ok (.ifCond .eq 11, 3) := by decide +kernel
theorem dX2_points_8 : decode cX2_points 8 = .ok (.aload_n 0, 1) := by decide +kernel
theorem dX2_points_9 : decode cX2_points 9 = .ok (.iload_n 1, 1) := by decide +kernel
theorem dX2_points_10 : decode cX2_points 10 = .ok (.invokevirtual 135, 3) := by decide +kernel
theorem dX2_points_13 : decode cX2_points 13 = .ok (.goto 5, 3) := by decide +kernel
theorem dX2_points_16 : decode cX2_points 16 = .ok (.ldc 63, 2) := by decide +kernel
theorem dX2_points_18 : decode cX2_points 18 = .ok (.ireturn, 1) := by decide +kernel
theorem dX2_kindOf_0 : decode cX2_kindOf 0 = .ok (.iload_n 1, 1) := by decide +kernel
theorem dX2_kindOf_1 : decode cX2_kindOf 1 = .ok (.iconst 0, 1) := by decide +kernel
theorem dX2_kindOf_2 : decode cX2_kindOf 2 = .ok (.bipush 9, 2) := by decide +kernel
theorem dX2_kindOf_4 : decode cX2_kindOf 4 = .ok (.invokestatic 48, 3) := by decide +kernel
theorem dX2_kindOf_7 : decode cX2_kindOf 7 = .ok (.ifCond .ne 6, 3) := by decide +kernel
theorem dX2_kindOf_10 : decode cX2_kindOf 10 = .ok (.ldc 63, 2) := by decide +kernel
theorem dX2_kindOf_12 : decode cX2_kindOf 12 = .ok (.ireturn, 1) := by decide +kernel
theorem dX2_kindOf_13 : decode cX2_kindOf 13 = .ok (.iload_n 2, 1) := by decide +kernel
theorem dX2_kindOf_14 : decode cX2_kindOf 14 = .ok (.tableswitch 79 0 4 #[34, 39, 49, 63, 73], 34) := by decide +kernel
theorem dX2_kindOf_48 : decode cX2_kindOf 48 = .ok (.iload_n 1, 1) := by decide +kernel
theorem dX2_kindOf_49 : decode cX2_kindOf 49 = .ok (.invokestatic 77, 3) := by decide +kernel
theorem dX2_kindOf_52 : decode cX2_kindOf 52 = .ok (.ireturn, 1) := by decide +kernel
theorem dX2_kindOf_53 : decode cX2_kindOf 53 = .ok (.aload_n 0, 1) := by decide +kernel
theorem dX2_kindOf_54 : decode cX2_kindOf 54 = .ok (.getfield 7, 3) := by decide +kernel
theorem dX2_kindOf_57 : decode cX2_kindOf 57 = .ok (.bipush 10, 2) := by decide +kernel
theorem dX2_kindOf_59 : decode cX2_kindOf 59 = .ok (.iload_n 1, 1) := by decide +kernel
theorem dX2_kindOf_60 : decode cX2_kindOf 60 = .ok (.iadd, 1) := by decide +kernel
theorem dX2_kindOf_61 : decode cX2_kindOf 61 = .ok (.iaload, 1) := by decide +kernel
theorem dX2_kindOf_62 : decode cX2_kindOf 62 = .ok (.ireturn, 1) := by decide +kernel
theorem dX2_kindOf_63 : decode cX2_kindOf 63 = .ok (.aload_n 0, 1) := by decide +kernel
theorem dX2_kindOf_64 : decode cX2_kindOf 64 = .ok (.iload_n 1, 1) := by decide +kernel
theorem dX2_kindOf_65 : decode cX2_kindOf 65 = .ok (.invokevirtual 74, 3) := by decide +kernel
theorem dX2_kindOf_68 : decode cX2_kindOf 68 = .ok (.ifCond .eq 7, 3) := by decide +kernel
theorem dX2_kindOf_71 : decode cX2_kindOf 71 = .ok (.iconst 1, 1) := by decide +kernel
theorem dX2_kindOf_72 : decode cX2_kindOf 72 = .ok (.goto 4, 3) := by decide +kernel
theorem dX2_kindOf_75 : decode cX2_kindOf 75 = .ok (.iconst 0, 1) := by decide +kernel
theorem dX2_kindOf_76 : decode cX2_kindOf 76 = .ok (.ireturn, 1) := by decide +kernel
theorem dX2_kindOf_77 : decode cX2_kindOf 77 = .ok (.aload_n 0, 1) := by decide +kernel
theorem dX2_kindOf_78 : decode cX2_kindOf 78 = .ok (.getfield 7, 3) := by decide +kernel
theorem dX2_kindOf_81 : decode cX2_kindOf 81 = .ok (.bipush 20, 2) := by decide +kernel
theorem dX2_kindOf_83 : decode cX2_kindOf 83 = .ok (.iload_n 1, 1) := by decide +kernel
theorem dX2_kindOf_84 : decode cX2_kindOf 84 = .ok (.iadd, 1) := by decide +kernel
theorem dX2_kindOf_85 : decode cX2_kindOf 85 = .ok (.iaload, 1) := by decide +kernel
theorem dX2_kindOf_86 : decode cX2_kindOf 86 = .ok (.ireturn, 1) := by decide +kernel
theorem dX2_kindOf_87 : decode cX2_kindOf 87 = .ok (.aload_n 0, 1) := by decide +kernel
theorem dX2_kindOf_88 : decode cX2_kindOf 88 = .ok (.iload_n 1, 1) := by decide +kernel
theorem dX2_kindOf_89 : decode cX2_kindOf 89 = .ok (.invokevirtual 80, 3) := by decide +kernel
theorem dX2_kindOf_92 : decode cX2_kindOf 92 = .ok (.ireturn, 1) := by decide +kernel
theorem dX2_kindOf_93 : decode cX2_kindOf 93 = .ok (.ldc 63, 2) := by decide +kernel
theorem dX2_kindOf_95 : decode cX2_kindOf 95 = .ok (.ireturn, 1) := by decide +kernel
theorem dX2_canBuy_0 : decode cX2_canBuy 0 = .ok (.iconst 0, 1) := by decide +kernel
theorem dX2_canBuy_1 : decode cX2_canBuy 1 = .ok (.istore_n 1, 1) := by decide +kernel
theorem dX2_canBuy_2 : decode cX2_canBuy 2 = .ok (.iconst 0, 1) := by decide +kernel
theorem dX2_canBuy_3 : decode cX2_canBuy 3 = .ok (.istore_n 2, 1) := by decide +kernel
theorem dX2_canBuy_4 : decode cX2_canBuy 4 = .ok (.iload_n 2, 1) := by decide +kernel
theorem dX2_canBuy_5 : decode cX2_canBuy 5 = .ok (.bipush 10, 2) := by decide +kernel
theorem dX2_canBuy_7 : decode cX2_canBuy 7 = .ok (.if_icmp .ge 27, 3) := by decide +kernel
theorem dX2_canBuy_10 : decode cX2_canBuy 10 = .ok (.iload_n 1, 1) := by decide +kernel
theorem dX2_canBuy_11 : decode cX2_canBuy 11 = .ok (.aload_n 0, 1) := by decide +kernel
theorem dX2_canBuy_12 : decode cX2_canBuy 12 = .ok (.iload_n 2, 1) := by decide +kernel
theorem dX2_canBuy_13 : decode cX2_canBuy 13 = .ok (.invokevirtual 80, 3) := by decide +kernel
theorem dX2_canBuy_16 : decode cX2_canBuy 16 = .ok (.ifCond .ne 9, 3) := by decide +kernel
theorem dX2_canBuy_19 : decode cX2_canBuy 19 = .ok (.iconst 1, 1) := by decide +kernel
theorem dX2_canBuy_20 : decode cX2_canBuy 20 = .ok (.iload_n 2, 1) := by decide +kernel
theorem dX2_canBuy_21 : decode cX2_canBuy 21 = .ok (.ishl, 1) := by decide +kernel
theorem dX2_canBuy_22 : decode cX2_canBuy 22 = .ok (.goto 4, 3) := by decide +kernel
theorem dX2_canBuy_25 : decode cX2_canBuy 25 = .ok (.iconst 0, 1) := by decide +kernel
theorem dX2_canBuy_26 : decode cX2_canBuy 26 = .ok (.ior, 1) := by decide +kernel
theorem dX2_canBuy_27 : decode cX2_canBuy 27 = .ok (.istore_n 1, 1) := by decide +kernel
theorem dX2_canBuy_28 : decode cX2_canBuy 28 = .ok (.iinc 2 1, 3) := by decide +kernel
theorem dX2_canBuy_31 : decode cX2_canBuy 31 = .ok (.goto (-27), 3) := by decide +kernel
theorem dX2_canBuy_34 : decode cX2_canBuy 34 = .ok (.iload_n 1, 1) := by decide +kernel
theorem dX2_canBuy_35 : decode cX2_canBuy 35 = .ok (.ireturn, 1) := by decide +kernel
theorem dX2_turn_0 : decode cX2_turn 0 = .ok (.iload_n 1, 1) := by decide +kernel
theorem dX2_turn_1 : decode cX2_turn 1 = .ok (.iconst 5, 1) := by decide +kernel
theorem dX2_turn_2 : decode cX2_turn 2 = .ok (.if_icmp .ne 10, 3) := by decide +kernel
theorem dX2_turn_5 : decode cX2_turn 5 = .ok (.aload_n 0, 1) := by decide +kernel
theorem dX2_turn_6 : decode cX2_turn 6 = .ok (.invokevirtual 138, 3) := by decide +kernel
theorem dX2_turn_9 : decode cX2_turn 9 = .ok (.goto 41, 3) := by decide +kernel
theorem dX2_turn_12 : decode cX2_turn 12 = .ok (.iload_n 1, 1) := by decide +kernel
theorem dX2_turn_13 : decode cX2_turn 13 = .ok (.bipush 6, 2) := by decide +kernel
theorem dX2_turn_15 : decode cX2_turn 15 = .ok (.if_icmp .ne 13, 3) := by decide +kernel
theorem dX2_turn_18 : decode cX2_turn 18 = .ok (.aload_n 0, 1) := by decide +kernel
theorem dX2_turn_19 : decode cX2_turn 19 = .ok (.getfield 7, 3) := by decide +kernel
theorem dX2_turn_22 : decode cX2_turn 22 = .ok (.bipush 6, 2) := by decide +kernel
theorem dX2_turn_24 : decode cX2_turn 24 = .ok (.iaload, 1) := by decide +kernel
theorem dX2_turn_25 : decode cX2_turn 25 = .ok (.goto 25, 3) := by decide +kernel
theorem dX2_turn_28 : decode cX2_turn 28 = .ok (.iload_n 1, 1) := by decide +kernel
theorem dX2_turn_29 : decode cX2_turn 29 = .ok (.iconst 0, 1) := by decide +kernel
theorem dX2_turn_30 : decode cX2_turn 30 = .ok (.iconst 4, 1) := by decide +kernel
theorem dX2_turn_31 : decode cX2_turn 31 = .ok (.invokestatic 48, 3) := by decide +kernel
theorem dX2_turn_34 : decode cX2_turn 34 = .ok (.ifCond .eq 14, 3) := by decide +kernel
theorem dX2_turn_37 : decode cX2_turn 37 = .ok (.aload_n 0, 1) := by decide +kernel
theorem dX2_turn_38 : decode cX2_turn 38 = .ok (.getfield 7, 3) := by decide +kernel
theorem dX2_turn_41 : decode cX2_turn 41 = .ok (.iconst 1, 1) := by decide +kernel
theorem dX2_turn_42 : decode cX2_turn 42 = .ok (.iload_n 1, 1) := by decide +kernel
theorem dX2_turn_43 : decode cX2_turn 43 = .ok (.iadd, 1) := by decide +kernel
theorem dX2_turn_44 : decode cX2_turn 44 = .ok (.iaload, 1) := by decide +kernel
theorem dX2_turn_45 : decode cX2_turn 45 = .ok (.goto 5, 3) := by decide +kernel
theorem dX2_turn_48 : decode cX2_turn 48 = .ok (.ldc 63, 2) := by decide +kernel
theorem dX2_turn_50 : decode cX2_turn 50 = .ok (.ireturn, 1) := by decide +kernel
theorem dX2_purse_0 : decode cX2_purse 0 = .ok (.aload_n 0, 1) := by decide +kernel
theorem dX2_purse_1 : decode cX2_purse 1 = .ok (.getfield 7, 3) := by decide +kernel
theorem dX2_purse_4 : decode cX2_purse 4 = .ok (.iconst 2, 1) := by decide +kernel
theorem dX2_purse_5 : decode cX2_purse 5 = .ok (.iaload, 1) := by decide +kernel
theorem dX2_purse_6 : decode cX2_purse 6 = .ok (.istore_n 1, 1) := by decide +kernel
theorem dX2_purse_7 : decode cX2_purse 7 = .ok (.iconst 0, 1) := by decide +kernel
theorem dX2_purse_8 : decode cX2_purse 8 = .ok (.istore_n 2, 1) := by decide +kernel
theorem dX2_purse_9 : decode cX2_purse 9 = .ok (.iload_n 2, 1) := by decide +kernel
theorem dX2_purse_10 : decode cX2_purse 10 = .ok (.aload_n 0, 1) := by decide +kernel
theorem dX2_purse_11 : decode cX2_purse 11 = .ok (.aload_n 0, 1) := by decide +kernel
theorem dX2_purse_12 : decode cX2_purse 12 = .ok (.getfield 7, 3) := by decide +kernel
theorem dX2_purse_15 : decode cX2_purse 15 = .ok (.iconst 1, 1) := by decide +kernel
theorem dX2_purse_16 : decode cX2_purse 16 = .ok (.iaload, 1) := by decide +kernel
theorem dX2_purse_17 : decode cX2_purse 17 = .ok (.iconst 1, 1) := by decide +kernel
theorem dX2_purse_18 : decode cX2_purse 18 = .ok (.invokevirtual 34, 3) := by decide +kernel
theorem dX2_purse_21 : decode cX2_purse 21 = .ok (.if_icmp .ge 33, 3) := by decide +kernel
theorem dX2_purse_24 : decode cX2_purse 24 = .ok (.iload_n 1, 1) := by decide +kernel
theorem dX2_purse_25 : decode cX2_purse 25 = .ok (.aload_n 0, 1) := by decide +kernel
theorem dX2_purse_26 : decode cX2_purse 26 = .ok (.iload_n 2, 1) := by decide +kernel
theorem dX2_purse_27 : decode cX2_purse 27 = .ok (.invokevirtual 64, 3) := by decide +kernel
theorem dX2_purse_30 : decode cX2_purse 30 = .ok (.iconst 3, 1) := by decide +kernel
theorem dX2_purse_31 : decode cX2_purse 31 = .ok (.if_icmp .ge 14, 3) := by decide +kernel
theorem dX2_purse_34 : decode cX2_purse 34 = .ok (.aload_n 0, 1) := by decide +kernel
theorem dX2_purse_35 : decode cX2_purse 35 = .ok (.iload_n 2, 1) := by decide +kernel
theorem dX2_purse_36 : decode cX2_purse 36 = .ok (.invokevirtual 64, 3) := by decide +kernel
theorem dX2_purse_39 : decode cX2_purse 39 = .ok (.invokestatic 68, 3) := by decide +kernel
theorem dX2_purse_42 : decode cX2_purse 42 = .ok (.goto 4, 3) := by decide +kernel
theorem dX2_purse_45 : decode cX2_purse 45 = .ok (.iconst 0, 1) := by decide +kernel
theorem dX2_purse_46 : decode cX2_purse 46 = .ok (.iadd, 1) := by decide +kernel
theorem dX2_purse_47 : decode cX2_purse 47 = .ok (.istore_n 1, 1) := by decide +kernel
theorem dX2_purse_48 : decode cX2_purse 48 = .ok (.iinc 2 1, 3) := by decide +kernel
theorem dX2_purse_51 : decode cX2_purse 51 = .ok (.goto (-42), 3) := by decide +kernel
theorem dX2_purse_54 : decode cX2_purse 54 = .ok (.iload_n 1, 1) := by decide +kernel
theorem dX2_purse_55 : decode cX2_purse 55 = .ok (.ireturn, 1) := by decide +kernel
theorem dX2_leader_0 : decode cX2_leader 0 = .ok (.iconst 0, 1) := by decide +kernel
theorem dX2_leader_1 : decode cX2_leader 1 = .ok (.istore_n 1, 1) := by decide +kernel
theorem dX2_leader_2 : decode cX2_leader 2 = .ok (.iconst 1, 1) := by decide +kernel
theorem dX2_leader_3 : decode cX2_leader 3 = .ok (.istore_n 2, 1) := by decide +kernel
theorem dX2_leader_4 : decode cX2_leader 4 = .ok (.iload_n 2, 1) := by decide +kernel
theorem dX2_leader_5 : decode cX2_leader 5 = .ok (.aload_n 0, 1) := by decide +kernel
theorem dX2_leader_6 : decode cX2_leader 6 = .ok (.getfield 7, 3) := by decide +kernel
theorem dX2_leader_9 : decode cX2_leader 9 = .ok (.iconst 0, 1) := by decide +kernel
theorem dX2_leader_10 : decode cX2_leader 10 = .ok (.iaload, 1) := by decide +kernel
theorem dX2_leader_11 : decode cX2_leader 11 = .ok (.if_icmp .ge 28, 3) := by decide +kernel
theorem dX2_leader_14 : decode cX2_leader 14 = .ok (.aload_n 0, 1) := by decide +kernel
theorem dX2_leader_15 : decode cX2_leader 15 = .ok (.iload_n 2, 1) := by decide +kernel
theorem dX2_leader_16 : decode cX2_leader 16 = .ok (.invokevirtual 135, 3) := by decide +kernel
theorem dX2_leader_19 : decode cX2_leader 19 = .ok (.aload_n 0, 1) := by decide +kernel
theorem dX2_leader_20 : decode cX2_leader 20 = .ok (.iload_n 1, 1) := by decide +kernel
theorem dX2_leader_21 : decode cX2_leader 21 = .ok (.invokevirtual 135, 3) := by decide +kernel
theorem dX2_leader_24 : decode cX2_leader 24 = .ok (.if_icmp .le 7, 3) := by decide +kernel
theorem dX2_leader_27 : decode cX2_leader 27 = .ok (.iload_n 2, 1) := by decide +kernel
theorem dX2_leader_28 : decode cX2_leader 28 = .ok (.goto 4, 3) := by decide +kernel
theorem dX2_leader_31 : decode cX2_leader 31 = .ok (.iload_n 1, 1) := by decide +kernel
theorem dX2_leader_32 : decode cX2_leader 32 = .ok (.istore_n 1, 1) := by decide +kernel
theorem dX2_leader_33 : decode cX2_leader 33 = .ok (.iinc 2 1, 3) := by decide +kernel
theorem dX2_leader_36 : decode cX2_leader 36 = .ok (.goto (-32), 3) := by decide +kernel
theorem dX2_leader_39 : decode cX2_leader 39 = .ok (.iload_n 1, 1) := by decide +kernel
theorem dX2_leader_40 : decode cX2_leader 40 = .ok (.ireturn, 1) := by decide +kernel
theorem dX2_outcome_0 : decode cX2_outcome 0 = .ok (.iload_n 1, 1) := by decide +kernel
theorem dX2_outcome_1 : decode cX2_outcome 1 = .ok (.iconst 0, 1) := by decide +kernel
theorem dX2_outcome_2 : decode cX2_outcome 2 = .ok (.iconst 4, 1) := by decide +kernel
theorem dX2_outcome_3 : decode cX2_outcome 3 = .ok (.invokestatic 48, 3) := by decide +kernel
theorem dX2_outcome_6 : decode cX2_outcome 6 = .ok (.ifCond .ne 6, 3) := by decide +kernel
theorem dX2_outcome_9 : decode cX2_outcome 9 = .ok (.ldc 63, 2) := by decide +kernel
theorem dX2_outcome_11 : decode cX2_outcome 11 = .ok (.ireturn, 1) := by decide +kernel
theorem dX2_outcome_12 : decode cX2_outcome 12 = .ok (.aload_n 0, 1) := by decide +kernel
theorem dX2_outcome_13 : decode cX2_outcome 13 = .ok (.invokevirtual 141, 3) := by decide +kernel
theorem dX2_outcome_16 : decode cX2_outcome 16 = .ok (.aload_n 0, 1) := by decide +kernel
theorem dX2_outcome_17 : decode cX2_outcome 17 = .ok (.bipush 60, 2) := by decide +kernel
theorem dX2_outcome_19 : decode cX2_outcome 19 = .ok (.invokevirtual 121, 3) := by decide +kernel
theorem dX2_outcome_22 : decode cX2_outcome 22 = .ok (.istore_n 2, 1) := by decide +kernel
theorem dX2_outcome_23 : decode cX2_outcome 23 = .ok (.aload_n 0, 1) := by decide +kernel
theorem dX2_outcome_24 : decode cX2_outcome 24 = .ok (.invokevirtual 144, 3) := by decide +kernel
theorem dX2_outcome_27 : decode cX2_outcome 27 = .ok (.istore_n 3, 1) := by decide +kernel
theorem dX2_outcome_28 : decode cX2_outcome 28 = .ok (.iload_n 1, 1) := by decide +kernel
theorem dX2_outcome_29 : decode cX2_outcome 29 = .ok (.ifCond .ne 7, 3) := by decide +kernel
theorem dX2_outcome_32 : decode cX2_outcome 32 = .ok (.iload_n 3, 1) := by decide +kernel
theorem dX2_outcome_33 : decode cX2_outcome 33 = .ok (.goto 47, 3) := by decide +kernel
theorem dX2_outcome_36 : decode cX2_outcome 36 = .ok (.iload_n 1, 1) := by decide +kernel
theorem dX2_outcome_37 : decode cX2_outcome 37 = .ok (.iconst 1, 1) := by decide +kernel
theorem dX2_outcome_38 : decode cX2_outcome 38 = .ok (.if_icmp .ne 11, 3) := by decide +kernel
theorem dX2_outcome_41 : decode cX2_outcome 41 = .ok (.aload_n 0, 1) := by decide +kernel
theorem dX2_outcome_42 : decode cX2_outcome 42 = .ok (.iload_n 3, 1) := by decide +kernel
theorem dX2_outcome_43 : decode cX2_outcome 43 = .ok (.invokevirtual 135, 3) := by decide +kernel
theorem dX2_outcome_46 : decode cX2_outcome 46 = .ok (.goto 34, 3) := by decide +kernel
theorem dX2_outcome_49 : decode cX2_outcome 49 = .ok (.iload_n 1, 1) := by decide +kernel
theorem dX2_outcome_50 : decode cX2_outcome 50 = .ok (.iconst 2, 1) := by decide +kernel
theorem dX2_outcome_51 : decode cX2_outcome 51 = .ok (.if_icmp .ne 7, 3) := by decide +kernel
theorem dX2_outcome_54 : decode cX2_outcome 54 = .ok (.iload_n 2, 1) := by decide +kernel
theorem dX2_outcome_55 : decode cX2_outcome 55 = .ok (.goto 25, 3) := by decide +kernel
theorem dX2_outcome_58 : decode cX2_outcome 58 = .ok (.iload_n 1, 1) := by decide +kernel
theorem dX2_outcome_59 : decode cX2_outcome 59 = .ok (.iconst 3, 1) := by decide +kernel
theorem dX2_outcome_60 : decode cX2_outcome 60 = .ok (.if_icmp .ne 13, 3) := by decide +kernel
theorem dX2_outcome_63 : decode cX2_outcome 63 = .ok (.aload_n 0, 1) := by decide +kernel
theorem dX2_outcome_64 : decode cX2_outcome 64 = .ok (.getfield 7, 3) := by decide +kernel
theorem dX2_outcome_67 : decode cX2_outcome 67 = .ok (.bipush 8, 2) := by decide +kernel
theorem dX2_outcome_69 : decode cX2_outcome 69 = .ok (.iaload, 1) := by decide +kernel
theorem dX2_outcome_70 : decode cX2_outcome 70 = .ok (.goto 10, 3) := by decide +kernel
theorem dX2_outcome_73 : decode cX2_outcome 73 = .ok (.aload_n 0, 1) := by decide +kernel
theorem dX2_outcome_74 : decode cX2_outcome 74 = .ok (.getfield 7, 3) := by decide +kernel
theorem dX2_outcome_77 : decode cX2_outcome 77 = .ok (.bipush 15, 2) := by decide +kernel
theorem dX2_outcome_79 : decode cX2_outcome 79 = .ok (.iaload, 1) := by decide +kernel
theorem dX2_outcome_80 : decode cX2_outcome 80 = .ok (.istore 4, 2) := by decide +kernel
theorem dX2_outcome_82 : decode cX2_outcome 82 = .ok (.aload_n 0, 1) := by decide +kernel
theorem dX2_outcome_83 : decode cX2_outcome 83 = .ok (.invokevirtual 147, 3) := by decide +kernel
theorem dX2_outcome_86 : decode cX2_outcome 86 = .ok (.iload 4, 2) := by decide +kernel
theorem dX2_outcome_88 : decode cX2_outcome 88 = .ok (.ireturn, 1) := by decide +kernel
theorem dX2_wouldHave_0 : decode cX2_wouldHave 0 = .ok (.aload_n 0, 1) := by decide +kernel
theorem dX2_wouldHave_1 : decode cX2_wouldHave 1 = .ok (.invokevirtual 141, 3) := by decide +kernel
theorem dX2_wouldHave_4 : decode cX2_wouldHave 4 = .ok (.aload_n 0, 1) := by decide +kernel
theorem dX2_wouldHave_5 : decode cX2_wouldHave 5 = .ok (.getfield 7, 3) := by decide +kernel
theorem dX2_wouldHave_8 : decode cX2_wouldHave 8 = .ok (.iconst 1, 1) := by decide +kernel
theorem dX2_wouldHave_9 : decode cX2_wouldHave 9 = .ok (.iaload, 1) := by decide +kernel
theorem dX2_wouldHave_10 : decode cX2_wouldHave 10 = .ok (.istore_n 2, 1) := by decide +kernel
theorem dX2_wouldHave_11 : decode cX2_wouldHave 11 = .ok (.iload_n 1, 1) := by decide +kernel
theorem dX2_wouldHave_12 : decode cX2_wouldHave 12 = .ok (.bipush 10, 2) := by decide +kernel
theorem dX2_wouldHave_14 : decode cX2_wouldHave 14 = .ok (.if_icmp .ge 11, 3) := by decide +kernel
theorem dX2_wouldHave_17 : decode cX2_wouldHave 17 = .ok (.aload_n 0, 1) := by decide +kernel
theorem dX2_wouldHave_18 : decode cX2_wouldHave 18 = .ok (.iload_n 1, 1) := by decide +kernel
theorem dX2_wouldHave_19 : decode cX2_wouldHave 19 = .ok (.invokevirtual 97, 3) := by decide +kernel
theorem dX2_wouldHave_22 : decode cX2_wouldHave 22 = .ok (.goto 4, 3) := by decide +kernel
theorem dX2_wouldHave_25 : decode cX2_wouldHave 25 = .ok (.iconst 0, 1) := by decide +kernel
theorem dX2_wouldHave_26 : decode cX2_wouldHave 26 = .ok (.istore_n 3, 1) := by decide +kernel
theorem dX2_wouldHave_27 : decode cX2_wouldHave 27 = .ok (.aload_n 0, 1) := by decide +kernel
theorem dX2_wouldHave_28 : decode cX2_wouldHave 28 = .ok (.bipush 60, 2) := by decide +kernel
theorem dX2_wouldHave_30 : decode cX2_wouldHave 30 = .ok (.invokevirtual 121, 3) := by decide +kernel
theorem dX2_wouldHave_33 : decode cX2_wouldHave 33 = .ok (.istore 4, 2) := by decide +kernel
theorem dX2_wouldHave_35 : decode cX2_wouldHave 35 = .ok (.aload_n 0, 1) := by decide +kernel
theorem dX2_wouldHave_36 : decode cX2_wouldHave 36 = .ok (.iload_n 2, 1) := by decide +kernel
theorem dX2_wouldHave_37 : decode cX2_wouldHave 37 = .ok (.invokevirtual 135, 3) := by decide +kernel
theorem dX2_wouldHave_40 : decode cX2_wouldHave 40 = .ok (.istore 5, 2) := by decide +kernel
theorem dX2_wouldHave_42 : decode cX2_wouldHave 42 = .ok (.aload_n 0, 1) := by decide +kernel
theorem dX2_wouldHave_43 : decode cX2_wouldHave 43 = .ok (.invokevirtual 147, 3) := by decide +kernel
theorem dX2_wouldHave_46 : decode cX2_wouldHave 46 = .ok (.iload 5, 2) := by decide +kernel
theorem dX2_wouldHave_48 : decode cX2_wouldHave 48 = .ok (.ireturn, 1) := by decide +kernel
theorem dX2_advice_0 : decode cX2_advice 0 = .ok (.iload_n 1, 1) := by decide +kernel
theorem dX2_advice_1 : decode cX2_advice 1 = .ok (.iconst 0, 1) := by decide +kernel
theorem dX2_advice_2 : decode cX2_advice 2 = .ok (.iconst 1, 1) := by decide +kernel
theorem dX2_advice_3 : decode cX2_advice 3 = .ok (.invokestatic 48, 3) := by decide +kernel
theorem dX2_advice_6 : decode cX2_advice 6 = .ok (.ifCond .ne 6, 3) := by decide +kernel
theorem dX2_advice_9 : decode cX2_advice 9 = .ok (.ldc 63, 2) := by decide +kernel
theorem dX2_advice_11 : decode cX2_advice 11 = .ok (.ireturn, 1) := by decide +kernel
theorem dX2_advice_12 : decode cX2_advice 12 = .ok (.aload_n 0, 1) := by decide +kernel
theorem dX2_advice_13 : decode cX2_advice 13 = .ok (.invokevirtual 138, 3) := by decide +kernel
theorem dX2_advice_16 : decode cX2_advice 16 = .ok (.ifCond .ne 6, 3) := by decide +kernel
theorem dX2_advice_19 : decode cX2_advice 19 = .ok (.ldc 127, 2) := by decide +kernel
theorem dX2_advice_21 : decode cX2_advice 21 = .ok (.ireturn, 1) := by decide +kernel
theorem dX2_advice_22 : decode cX2_advice 22 = .ok (.ldc 127, 2) := by decide +kernel
theorem dX2_advice_24 : decode cX2_advice 24 = .ok (.istore_n 2, 1) := by decide +kernel
theorem dX2_advice_25 : decode cX2_advice 25 = .ok (.iconst 0, 1) := by decide +kernel
theorem dX2_advice_26 : decode cX2_advice 26 = .ok (.istore_n 3, 1) := by decide +kernel
theorem dX2_advice_27 : decode cX2_advice 27 = .ok (.iconst 0, 1) := by decide +kernel
theorem dX2_advice_28 : decode cX2_advice 28 = .ok (.istore 4, 2) := by decide +kernel
theorem dX2_advice_30 : decode cX2_advice 30 = .ok (.iload 4, 2) := by decide +kernel
theorem dX2_advice_32 : decode cX2_advice 32 = .ok (.bipush 10, 2) := by decide +kernel
theorem dX2_advice_34 : decode cX2_advice 34 = .ok (.if_icmp .gt 76, 3) := by decide +kernel
theorem dX2_advice_37 : decode cX2_advice 37 = .ok (.iload 4, 2) := by decide +kernel
theorem dX2_advice_39 : decode cX2_advice 39 = .ok (.bipush 10, 2) := by decide +kernel
theorem dX2_advice_41 : decode cX2_advice 41 = .ok (.if_icmp .eq 12, 3) := by decide +kernel
theorem dX2_advice_44 : decode cX2_advice 44 = .ok (.aload_n 0, 1) := by decide +kernel
theorem dX2_advice_45 : decode cX2_advice 45 = .ok (.iload 4, 2) := by decide +kernel
theorem dX2_advice_47 : decode cX2_advice 47 = .ok (.invokevirtual 80, 3) := by decide +kernel
theorem dX2_advice_50 : decode cX2_advice 50 = .ok (.ifCond .ne 54, 3) := by decide +kernel
theorem dX2_advice_53 : decode cX2_advice 53 = .ok (.aload_n 0, 1) := by decide +kernel
theorem dX2_advice_54 : decode cX2_advice 54 = .ok (.iload 4, 2) := by decide +kernel
theorem dX2_advice_56 : decode cX2_advice 56 = .ok (.invokevirtual 150, 3) := by decide +kernel
theorem dX2_advice_59 : decode cX2_advice 59 = .ok (.istore 5, 2) := by decide +kernel
theorem dX2_advice_61 : decode cX2_advice 61 = .ok (.iload_n 2, 1) := by decide +kernel
theorem dX2_advice_62 : decode cX2_advice 62 = .ok (.ldc 127, 2) := by decide +kernel
theorem dX2_advice_64 : decode cX2_advice 64 = .ok (.if_icmp .eq 9, 3) := by decide +kernel
theorem dX2_advice_67 : decode cX2_advice 67 = .ok (.iload 5, 2) := by decide +kernel
theorem dX2_advice_69 : decode cX2_advice 69 = .ok (.iload_n 3, 1) := by decide +kernel
theorem dX2_advice_70 : decode cX2_advice 70 = .ok (.if_icmp .le 7, 3) := by decide +kernel
theorem dX2_advice_73 : decode cX2_advice 73 = .ok (.iconst 1, 1) := by decide +kernel
theorem dX2_advice_74 : decode cX2_advice 74 = .ok (.goto 4, 3) := by decide +kernel
theorem dX2_advice_77 : decode cX2_advice 77 = .ok (.iconst 0, 1) := by decide +kernel
theorem dX2_advice_78 : decode cX2_advice 78 = .ok (.istore 6, 2) := by decide +kernel
theorem dX2_advice_80 : decode cX2_advice 80 = .ok (.iload 6, 2) := by decide +kernel
theorem dX2_advice_82 : decode cX2_advice 82 = .ok (.ifCond .eq 8, 3) := by decide +kernel
theorem dX2_advice_85 : decode cX2_advice 85 = .ok (.iload 4, 2) := by decide +kernel
theorem dX2_advice_87 : decode cX2_advice 87 = .ok (.goto 4, 3) := by decide +kernel
theorem dX2_advice_90 : decode cX2_advice 90 = .ok (.iload_n 2, 1) := by decide +kernel
theorem dX2_advice_91 : decode cX2_advice 91 = .ok (.istore_n 2, 1) := by decide +kernel
theorem dX2_advice_92 : decode cX2_advice 92 = .ok (.iload 6, 2) := by decide +kernel
theorem dX2_advice_94 : decode cX2_advice 94 = .ok (.ifCond .eq 8, 3) := by decide +kernel
theorem dX2_advice_97 : decode cX2_advice 97 = .ok (.iload 5, 2) := by decide +kernel
theorem dX2_advice_99 : decode cX2_advice 99 = .ok (.goto 4, 3) := by decide +kernel
theorem dX2_advice_102 : decode cX2_advice 102 = .ok (.iload_n 3, 1) := by decide +kernel
theorem dX2_advice_103 : decode cX2_advice 103 = .ok (.istore_n 3, 1) := by decide +kernel
theorem dX2_advice_104 : decode cX2_advice 104 = .ok (.iinc 4 1, 3) := by decide +kernel
theorem dX2_advice_107 : decode cX2_advice 107 = .ok (.goto (-77), 3) := by decide +kernel
theorem dX2_advice_110 : decode cX2_advice 110 = .ok (.iload_n 1, 1) := by decide +kernel
theorem dX2_advice_111 : decode cX2_advice 111 = .ok (.ifCond .ne 7, 3) := by decide +kernel
theorem dX2_advice_114 : decode cX2_advice 114 = .ok (.iload_n 2, 1) := by decide +kernel
theorem dX2_advice_115 : decode cX2_advice 115 = .ok (.goto 4, 3) := by decide +kernel
theorem dX2_advice_118 : decode cX2_advice 118 = .ok (.iload_n 3, 1) := by decide +kernel
theorem dX2_advice_119 : decode cX2_advice 119 = .ok (.ireturn, 1) := by decide +kernel
theorem dX2_bitsOf_0 : decode cX2_bitsOf 0 = .ok (.fload_n 0, 1) := by decide +kernel
theorem dX2_bitsOf_1 : decode cX2_bitsOf 1 = .ok (.fconst 0, 1) := by decide +kernel
theorem dX2_bitsOf_2 : decode cX2_bitsOf 2 = .ok (.fcmp .l, 1) := by decide +kernel
theorem dX2_bitsOf_3 : decode cX2_bitsOf 3 = .ok (.ifCond .ne 5, 3) := by decide +kernel
theorem dX2_bitsOf_6 : decode cX2_bitsOf 6 = .ok (.iconst 0, 1) := by decide +kernel
theorem dX2_bitsOf_7 : decode cX2_bitsOf 7 = .ok (.ireturn, 1) := by decide +kernel
theorem dX2_bitsOf_8 : decode cX2_bitsOf 8 = .ok (.bipush 127, 2) := by decide +kernel
theorem dX2_bitsOf_10 : decode cX2_bitsOf 10 = .ok (.istore_n 1, 1) := by decide +kernel
theorem dX2_bitsOf_11 : decode cX2_bitsOf 11 = .ok (.fload_n 0, 1) := by decide +kernel
theorem dX2_bitsOf_12 : decode cX2_bitsOf 12 = .ok (.fstore_n 2, 1) := by decide +kernel
theorem dX2_bitsOf_13 : decode cX2_bitsOf 13 = .ok (.fload_n 2, 1) := by decide +kernel
theorem dX2_bitsOf_14 : decode cX2_bitsOf 14 = .ok (.fconst 1, 1) := by decide +kernel
theorem dX2_bitsOf_15 : decode cX2_bitsOf 15 = .ok (.fcmp .g, 1) := by decide +kernel
theorem dX2_bitsOf_16 : decode cX2_bitsOf 16 = .ok (.ifCond .ge 13, 3) := by decide +kernel
theorem dX2_bitsOf_19 : decode cX2_bitsOf 19 = .ok (.fload_n 2, 1) := by decide +kernel
theorem dX2_bitsOf_20 : decode cX2_bitsOf 20 = .ok (.fconst 2, 1) := by decide +kernel
theorem dX2_bitsOf_21 : decode cX2_bitsOf 21 = .ok (.fmul, 1) := by decide +kernel
theorem dX2_bitsOf_22 : decode cX2_bitsOf 22 = .ok (.fstore_n 2, 1) := by decide +kernel
theorem dX2_bitsOf_23 : decode cX2_bitsOf 23 = .ok (.iinc 1 (-1), 3) := by decide +kernel
theorem dX2_bitsOf_26 : decode cX2_bitsOf 26 = .ok (.goto (-13), 3) := by decide +kernel
theorem dX2_bitsOf_29 : decode cX2_bitsOf 29 = .ok (.fload_n 2, 1) := by decide +kernel
theorem dX2_bitsOf_30 : decode cX2_bitsOf 30 = .ok (.fconst 2, 1) := by decide +kernel
theorem dX2_bitsOf_31 : decode cX2_bitsOf 31 = .ok (.fcmp .l, 1) := by decide +kernel
theorem dX2_bitsOf_32 : decode cX2_bitsOf 32 = .ok (.ifCond .lt 14, 3) := by decide +kernel
theorem dX2_bitsOf_35 : decode cX2_bitsOf 35 = .ok (.fload_n 2, 1) := by decide +kernel
theorem dX2_bitsOf_36 : decode cX2_bitsOf 36 = .ok (.ldc 153, 2) := by decide +kernel
theorem dX2_bitsOf_38 : decode cX2_bitsOf 38 = .ok (.fmul, 1) := by decide +kernel
theorem dX2_bitsOf_39 : decode cX2_bitsOf 39 = .ok (.fstore_n 2, 1) := by decide +kernel
theorem dX2_bitsOf_40 : decode cX2_bitsOf 40 = .ok (.iinc 1 1, 3) := by decide +kernel
theorem dX2_bitsOf_43 : decode cX2_bitsOf 43 = .ok (.goto (-14), 3) := by decide +kernel
theorem dX2_bitsOf_46 : decode cX2_bitsOf 46 = .ok (.iload_n 1, 1) := by decide +kernel
theorem dX2_bitsOf_47 : decode cX2_bitsOf 47 = .ok (.ldc 154, 2) := by decide +kernel
theorem dX2_bitsOf_49 : decode cX2_bitsOf 49 = .ok (.imul, 1) := by decide +kernel
theorem dX2_bitsOf_50 : decode cX2_bitsOf 50 = .ok (.fload_n 2, 1) := by decide +kernel
theorem dX2_bitsOf_51 : decode cX2_bitsOf 51 = .ok (.fconst 1, 1) := by decide +kernel
theorem dX2_bitsOf_52 : decode cX2_bitsOf 52 = .ok (.fsub, 1) := by decide +kernel
theorem dX2_bitsOf_53 : decode cX2_bitsOf 53 = .ok (.ldc 155, 2) := by decide +kernel
theorem dX2_bitsOf_55 : decode cX2_bitsOf 55 = .ok (.fmul, 1) := by decide +kernel
theorem dX2_bitsOf_56 : decode cX2_bitsOf 56 = .ok (.f2i, 1) := by decide +kernel
theorem dX2_bitsOf_57 : decode cX2_bitsOf 57 = .ok (.iadd, 1) := by decide +kernel
theorem dX2_bitsOf_58 : decode cX2_bitsOf 58 = .ok (.ireturn, 1) := by decide +kernel
theorem dX2_wealth_0 : decode cX2_wealth 0 = .ok (.aload_n 0, 1) := by decide +kernel
theorem dX2_wealth_1 : decode cX2_wealth 1 = .ok (.iload_n 1, 1) := by decide +kernel
theorem dX2_wealth_2 : decode cX2_wealth 2 = .ok (.invokevirtual 124, 3) := by decide +kernel
theorem dX2_wealth_5 : decode cX2_wealth 5 = .ok (.ifCond .ne 6, 3) := by decide +kernel
theorem dX2_wealth_8 : decode cX2_wealth 8 = .ok (.ldc 63, 2) := by decide +kernel
theorem dX2_wealth_10 : decode cX2_wealth 10 = .ok (.ireturn, 1) := by decide +kernel
theorem dX2_wealth_11 : decode cX2_wealth 11 = .ok (.aload_n 0, 1) := by decide +kernel
theorem dX2_wealth_12 : decode cX2_wealth 12 = .ok (.iload_n 1, 1) := by decide +kernel
theorem dX2_wealth_13 : decode cX2_wealth 13 = .ok (.iconst 0, 1) := by decide +kernel
theorem dX2_wealth_14 : decode cX2_wealth 14 = .ok (.iconst 3, 1) := by decide +kernel
theorem dX2_wealth_15 : decode cX2_wealth 15 = .ok (.bipush 10, 2) := by decide +kernel
theorem dX2_wealth_17 : decode cX2_wealth 17 = .ok (.invokevirtual 128, 3) := by decide +kernel
theorem dX2_wealth_20 : decode cX2_wealth 20 = .ok (.istore_n 2, 1) := by decide +kernel
theorem dX2_wealth_21 : decode cX2_wealth 21 = .ok (.iconst 0, 1) := by decide +kernel
theorem dX2_wealth_22 : decode cX2_wealth 22 = .ok (.istore_n 3, 1) := by decide +kernel
theorem dX2_wealth_23 : decode cX2_wealth 23 = .ok (.iconst 0, 1) := by decide +kernel
theorem dX2_wealth_24 : decode cX2_wealth 24 = .ok (.istore 4, 2) := by decide +kernel
theorem dX2_wealth_26 : decode cX2_wealth 26 = .ok (.iload 4, 2) := by decide +kernel
theorem dX2_wealth_28 : decode cX2_wealth 28 = .ok (.bipush 10, 2) := by decide +kernel
theorem dX2_wealth_30 : decode cX2_wealth 30 = .ok (.if_icmp .ge 27, 3) := by decide +kernel
theorem dX2_wealth_33 : decode cX2_wealth 33 = .ok (.iload_n 3, 1) := by decide +kernel
theorem dX2_wealth_34 : decode cX2_wealth 34 = .ok (.iload 4, 2) := by decide +kernel
theorem dX2_wealth_36 : decode cX2_wealth 36 = .ok (.invokestatic 68, 3) := by decide +kernel
theorem dX2_wealth_39 : decode cX2_wealth 39 = .ok (.aload_n 0, 1) := by decide +kernel
theorem dX2_wealth_40 : decode cX2_wealth 40 = .ok (.iload_n 1, 1) := by decide +kernel
theorem dX2_wealth_41 : decode cX2_wealth 41 = .ok (.iconst 0, 1) := by decide +kernel
theorem dX2_wealth_42 : decode cX2_wealth 42 = .ok (.iconst 3, 1) := by decide +kernel
theorem dX2_wealth_43 : decode cX2_wealth 43 = .ok (.iload 4, 2) := by decide +kernel
theorem dX2_wealth_45 : decode cX2_wealth 45 = .ok (.invokevirtual 128, 3) := by decide +kernel
theorem dX2_wealth_48 : decode cX2_wealth 48 = .ok (.imul, 1) := by decide +kernel
theorem dX2_wealth_49 : decode cX2_wealth 49 = .ok (.iadd, 1) := by decide +kernel
theorem dX2_wealth_50 : decode cX2_wealth 50 = .ok (.istore_n 3, 1) := by decide +kernel
theorem dX2_wealth_51 : decode cX2_wealth 51 = .ok (.iinc 4 1, 3) := by decide +kernel
theorem dX2_wealth_54 : decode cX2_wealth 54 = .ok (.goto (-28), 3) := by decide +kernel
theorem dX2_wealth_57 : decode cX2_wealth 57 = .ok (.iload_n 2, 1) := by decide +kernel
theorem dX2_wealth_58 : decode cX2_wealth 58 = .ok (.ifCond .ne 8, 3) := by decide +kernel
theorem dX2_wealth_61 : decode cX2_wealth 61 = .ok (.ldc 127, 2) := by decide +kernel
theorem dX2_wealth_63 : decode cX2_wealth 63 = .ok (.goto 11, 3) := by decide +kernel
theorem dX2_wealth_66 : decode cX2_wealth 66 = .ok (.iload_n 3, 1) := by decide +kernel
theorem dX2_wealth_67 : decode cX2_wealth 67 = .ok (.i2f, 1) := by decide +kernel
theorem dX2_wealth_68 : decode cX2_wealth 68 = .ok (.iload_n 2, 1) := by decide +kernel
theorem dX2_wealth_69 : decode cX2_wealth 69 = .ok (.i2f, 1) := by decide +kernel
theorem dX2_wealth_70 : decode cX2_wealth 70 = .ok (.fdiv, 1) := by decide +kernel
theorem dX2_wealth_71 : decode cX2_wealth 71 = .ok (.invokestatic 156, 3) := by decide +kernel
theorem dX2_wealth_74 : decode cX2_wealth 74 = .ok (.ireturn, 1) := by decide +kernel
theorem dX2_sum_0 : decode cX2_sum 0 = .ok (.iconst 0, 1) := by decide +kernel
theorem dX2_sum_1 : decode cX2_sum 1 = .ok (.istore_n 2, 1) := by decide +kernel
theorem dX2_sum_2 : decode cX2_sum 2 = .ok (.iconst 0, 1) := by decide +kernel
theorem dX2_sum_3 : decode cX2_sum 3 = .ok (.istore_n 3, 1) := by decide +kernel
theorem dX2_sum_4 : decode cX2_sum 4 = .ok (.iload_n 3, 1) := by decide +kernel
theorem dX2_sum_5 : decode cX2_sum 5 = .ok (.bipush 10, 2) := by decide +kernel
theorem dX2_sum_7 : decode cX2_sum 7 = .ok (.if_icmp .ge 20, 3) := by decide +kernel
theorem dX2_sum_10 : decode cX2_sum 10 = .ok (.iload_n 2, 1) := by decide +kernel
theorem dX2_sum_11 : decode cX2_sum 11 = .ok (.aload_n 0, 1) := by decide +kernel
theorem dX2_sum_12 : decode cX2_sum 12 = .ok (.getfield 7, 3) := by decide +kernel
theorem dX2_sum_15 : decode cX2_sum 15 = .ok (.iload_n 1, 1) := by decide +kernel
theorem dX2_sum_16 : decode cX2_sum 16 = .ok (.iload_n 3, 1) := by decide +kernel
theorem dX2_sum_17 : decode cX2_sum 17 = .ok (.iadd, 1) := by decide +kernel
theorem dX2_sum_18 : decode cX2_sum 18 = .ok (.iaload, 1) := by decide +kernel
theorem dX2_sum_19 : decode cX2_sum 19 = .ok (.iadd, 1) := by decide +kernel
theorem dX2_sum_20 : decode cX2_sum 20 = .ok (.istore_n 2, 1) := by decide +kernel
theorem dX2_sum_21 : decode cX2_sum 21 = .ok (.iinc 3 1, 3) := by decide +kernel
theorem dX2_sum_24 : decode cX2_sum 24 = .ok (.goto (-20), 3) := by decide +kernel
theorem dX2_sum_27 : decode cX2_sum 27 = .ok (.iload_n 2, 1) := by decide +kernel
theorem dX2_sum_28 : decode cX2_sum 28 = .ok (.ireturn, 1) := by decide +kernel
theorem dX2_count_0 : decode cX2_count 0 = .ok (.iload_n 1, 1) := by decide +kernel
theorem dX2_count_1 : decode cX2_count 1 = .ok (.tableswitch 159 0 20 #[99, 106, 114, 122, 127, 134, 141, 146, 159, 159, 159, 159, 159, 159, 159, 159, 159, 159, 159, 159, 151], 99) := by decide +kernel
theorem dX2_count_100 : decode cX2_count 100 = .ok (.aload_n 0, 1) := by decide +kernel
theorem dX2_count_101 : decode cX2_count 101 = .ok (.getfield 7, 3) := by decide +kernel
theorem dX2_count_104 : decode cX2_count 104 = .ok (.iconst 0, 1) := by decide +kernel
theorem dX2_count_105 : decode cX2_count 105 = .ok (.iaload, 1) := by decide +kernel
theorem dX2_count_106 : decode cX2_count 106 = .ok (.ireturn, 1) := by decide +kernel
theorem dX2_count_107 : decode cX2_count 107 = .ok (.aload_n 0, 1) := by decide +kernel
theorem dX2_count_108 : decode cX2_count 108 = .ok (.getfield 7, 3) := by decide +kernel
theorem dX2_count_111 : decode cX2_count 111 = .ok (.bipush 7, 2) := by decide +kernel
theorem dX2_count_113 : decode cX2_count 113 = .ok (.iaload, 1) := by decide +kernel
theorem dX2_count_114 : decode cX2_count 114 = .ok (.ireturn, 1) := by decide +kernel
theorem dX2_count_115 : decode cX2_count 115 = .ok (.aload_n 0, 1) := by decide +kernel
theorem dX2_count_116 : decode cX2_count 116 = .ok (.getfield 7, 3) := by decide +kernel
theorem dX2_count_119 : decode cX2_count 119 = .ok (.bipush 8, 2) := by decide +kernel
theorem dX2_count_121 : decode cX2_count 121 = .ok (.iaload, 1) := by decide +kernel
theorem dX2_count_122 : decode cX2_count 122 = .ok (.ireturn, 1) := by decide +kernel
theorem dX2_count_123 : decode cX2_count 123 = .ok (.aload_n 0, 1) := by decide +kernel
theorem dX2_count_124 : decode cX2_count 124 = .ok (.invokevirtual 83, 3) := by decide +kernel
theorem dX2_count_127 : decode cX2_count 127 = .ok (.ireturn, 1) := by decide +kernel
theorem dX2_count_128 : decode cX2_count 128 = .ok (.aload_n 0, 1) := by decide +kernel
theorem dX2_count_129 : decode cX2_count 129 = .ok (.bipush 20, 2) := by decide +kernel
theorem dX2_count_131 : decode cX2_count 131 = .ok (.invokevirtual 160, 3) := by decide +kernel
theorem dX2_count_134 : decode cX2_count 134 = .ok (.ireturn, 1) := by decide +kernel
theorem dX2_count_135 : decode cX2_count 135 = .ok (.aload_n 0, 1) := by decide +kernel
theorem dX2_count_136 : decode cX2_count 136 = .ok (.bipush 10, 2) := by decide +kernel
theorem dX2_count_138 : decode cX2_count 138 = .ok (.invokevirtual 160, 3) := by decide +kernel
theorem dX2_count_141 : decode cX2_count 141 = .ok (.ireturn, 1) := by decide +kernel
theorem dX2_count_142 : decode cX2_count 142 = .ok (.aload_n 0, 1) := by decide +kernel
theorem dX2_count_143 : decode cX2_count 143 = .ok (.getfield 44, 3) := by decide +kernel
theorem dX2_count_146 : decode cX2_count 146 = .ok (.ireturn, 1) := by decide +kernel
theorem dX2_count_147 : decode cX2_count 147 = .ok (.aload_n 0, 1) := by decide +kernel
theorem dX2_count_148 : decode cX2_count 148 = .ok (.getfield 163, 3) := by decide +kernel
theorem dX2_count_151 : decode cX2_count 151 = .ok (.ireturn, 1) := by decide +kernel
theorem dX2_count_152 : decode cX2_count 152 = .ok (.aload_n 0, 1) := by decide +kernel
theorem dX2_count_153 : decode cX2_count 153 = .ok (.getfield 7, 3) := by decide +kernel
theorem dX2_count_156 : decode cX2_count 156 = .ok (.bipush 9, 2) := by decide +kernel
theorem dX2_count_158 : decode cX2_count 158 = .ok (.iaload, 1) := by decide +kernel
theorem dX2_count_159 : decode cX2_count 159 = .ok (.ireturn, 1) := by decide +kernel
theorem dX2_count_160 : decode cX2_count 160 = .ok (.ldc 63, 2) := by decide +kernel
theorem dX2_count_162 : decode cX2_count 162 = .ok (.ireturn, 1) := by decide +kernel
theorem dX2_undo_0 : decode cX2_undo 0 = .ok (.aload_n 0, 1) := by decide +kernel
theorem dX2_undo_1 : decode cX2_undo 1 = .ok (.getfield 44, 3) := by decide +kernel
theorem dX2_undo_4 : decode cX2_undo 4 = .ok (.ifCond .ne 6, 3) := by decide +kernel
theorem dX2_undo_7 : decode cX2_undo 7 = .ok (.ldc 67, 2) := by decide +kernel
theorem dX2_undo_9 : decode cX2_undo 9 = .ok (.ireturn, 1) := by decide +kernel
theorem dX2_undo_10 : decode cX2_undo 10 = .ok (.aload_n 0, 1) := by decide +kernel
theorem dX2_undo_11 : decode cX2_undo 11 = .ok (.dup, 1) := by decide +kernel
theorem dX2_undo_12 : decode cX2_undo 12 = .ok (.getfield 44, 3) := by decide +kernel
theorem dX2_undo_15 : decode cX2_undo 15 = .ok (.iconst 1, 1) := by decide +kernel
theorem dX2_undo_16 : decode cX2_undo 16 = .ok (.isub, 1) := by decide +kernel
theorem dX2_undo_17 : decode cX2_undo 17 = .ok (.putfield 44, 3) := by decide +kernel
theorem dX2_undo_20 : decode cX2_undo 20 = .ok (.iconst 0, 1) := by decide +kernel
theorem dX2_undo_21 : decode cX2_undo 21 = .ok (.istore_n 1, 1) := by decide +kernel
theorem dX2_undo_22 : decode cX2_undo 22 = .ok (.iload_n 1, 1) := by decide +kernel
theorem dX2_undo_23 : decode cX2_undo 23 = .ok (.sipush 2670, 3) := by decide +kernel
theorem dX2_undo_26 : decode cX2_undo 26 = .ok (.if_icmp .ge 30, 3) := by decide +kernel
theorem dX2_undo_29 : decode cX2_undo 29 = .ok (.aload_n 0, 1) := by decide +kernel
theorem dX2_undo_30 : decode cX2_undo 30 = .ok (.getfield 7, 3) := by decide +kernel
theorem dX2_undo_33 : decode cX2_undo 33 = .ok (.iload_n 1, 1) := by decide +kernel
theorem dX2_undo_34 : decode cX2_undo 34 = .ok (.aload_n 0, 1) := by decide +kernel
theorem dX2_undo_35 : decode cX2_undo 35 = .ok (.getfield 16, 3) := by decide +kernel
theorem dX2_undo_38 : decode cX2_undo 38 = .ok (.sipush 2670, 3) := by decide +kernel
theorem dX2_undo_41 : decode cX2_undo 41 = .ok (.aload_n 0, 1) := by decide +kernel
theorem dX2_undo_42 : decode cX2_undo 42 = .ok (.getfield 44, 3) := by decide +kernel
theorem dX2_undo_45 : decode cX2_undo 45 = .ok (.imul, 1) := by decide +kernel
theorem dX2_undo_46 : decode cX2_undo 46 = .ok (.iload_n 1, 1) := by decide +kernel
theorem dX2_undo_47 : decode cX2_undo 47 = .ok (.iadd, 1) := by decide +kernel
theorem dX2_undo_48 : decode cX2_undo 48 = .ok (.iaload, 1) := by decide +kernel
theorem dX2_undo_49 : decode cX2_undo 49 = .ok (.iastore, 1) := by decide +kernel
theorem dX2_undo_50 : decode cX2_undo 50 = .ok (.iinc 1 1, 3) := by decide +kernel
theorem dX2_undo_53 : decode cX2_undo 53 = .ok (.goto (-31), 3) := by decide +kernel
theorem dX2_undo_56 : decode cX2_undo 56 = .ok (.aload_n 0, 1) := by decide +kernel
theorem dX2_undo_57 : decode cX2_undo 57 = .ok (.getfield 44, 3) := by decide +kernel
theorem dX2_undo_60 : decode cX2_undo 60 = .ok (.ireturn, 1) := by decide +kernel
theorem dX2_type_0 : decode cX2_type 0 = .ok (.iload_n 1, 1) := by decide +kernel
theorem dX2_type_1 : decode cX2_type 1 = .ok (.bipush 32, 2) := by decide +kernel
theorem dX2_type_3 : decode cX2_type 3 = .ok (.bipush 126, 2) := by decide +kernel
theorem dX2_type_5 : decode cX2_type 5 = .ok (.invokestatic 48, 3) := by decide +kernel
theorem dX2_type_8 : decode cX2_type 8 = .ok (.ifCond .ne 6, 3) := by decide +kernel
theorem dX2_type_11 : decode cX2_type 11 = .ok (.ldc 63, 2) := by decide +kernel
theorem dX2_type_13 : decode cX2_type 13 = .ok (.ireturn, 1) := by decide +kernel
theorem dX2_type_14 : decode cX2_type 14 = .ok (.aload_n 0, 1) := by decide +kernel
theorem dX2_type_15 : decode cX2_type 15 = .ok (.getfield 163, 3) := by decide +kernel
theorem dX2_type_18 : decode cX2_type 18 = .ok (.bipush 60, 2) := by decide +kernel
theorem dX2_type_20 : decode cX2_type 20 = .ok (.if_icmp .ne 6, 3) := by decide +kernel
theorem dX2_type_23 : decode cX2_type 23 = .ok (.ldc 166, 2) := by decide +kernel
theorem dX2_type_25 : decode cX2_type 25 = .ok (.ireturn, 1) := by decide +kernel
theorem dX2_type_26 : decode cX2_type 26 = .ok (.aload_n 0, 1) := by decide +kernel
theorem dX2_type_27 : decode cX2_type 27 = .ok (.getfield 19, 3) := by decide +kernel
theorem dX2_type_30 : decode cX2_type 30 = .ok (.aload_n 0, 1) := by decide +kernel
theorem dX2_type_31 : decode cX2_type 31 = .ok (.getfield 163, 3) := by decide +kernel
theorem dX2_type_34 : decode cX2_type 34 = .ok (.iload_n 1, 1) := by decide +kernel
theorem dX2_type_35 : decode cX2_type 35 = .ok (.iastore, 1) := by decide +kernel
theorem dX2_type_36 : decode cX2_type 36 = .ok (.aload_n 0, 1) := by decide +kernel
theorem dX2_type_37 : decode cX2_type 37 = .ok (.dup, 1) := by decide +kernel
theorem dX2_type_38 : decode cX2_type 38 = .ok (.getfield 163, 3) := by decide +kernel
theorem dX2_type_41 : decode cX2_type 41 = .ok (.iconst 1, 1) := by decide +kernel
theorem dX2_type_42 : decode cX2_type 42 = .ok (.iadd, 1) := by decide +kernel
theorem dX2_type_43 : decode cX2_type 43 = .ok (.putfield 163, 3) := by decide +kernel
theorem dX2_type_46 : decode cX2_type 46 = .ok (.aload_n 0, 1) := by decide +kernel
theorem dX2_type_47 : decode cX2_type 47 = .ok (.getfield 163, 3) := by decide +kernel
theorem dX2_type_50 : decode cX2_type 50 = .ok (.ireturn, 1) := by decide +kernel
theorem dX2_clearText_0 : decode cX2_clearText 0 = .ok (.aload_n 0, 1) := by decide +kernel
theorem dX2_clearText_1 : decode cX2_clearText 1 = .ok (.getfield 163, 3) := by decide +kernel
theorem dX2_clearText_4 : decode cX2_clearText 4 = .ok (.istore_n 1, 1) := by decide +kernel
theorem dX2_clearText_5 : decode cX2_clearText 5 = .ok (.aload_n 0, 1) := by decide +kernel
theorem dX2_clearText_6 : decode cX2_clearText 6 = .ok (.iconst 0, 1) := by decide +kernel
theorem dX2_clearText_7 : decode cX2_clearText 7 = .ok (.putfield 163, 3) := by decide +kernel
theorem dX2_clearText_10 : decode cX2_clearText 10 = .ok (.iload_n 1, 1) := by decide +kernel
theorem dX2_clearText_11 : decode cX2_clearText 11 = .ok (.ireturn, 1) := by decide +kernel
theorem dX2_sign_0 : decode cX2_sign 0 = .ok (.aload_n 0, 1) := by decide +kernel
theorem dX2_sign_1 : decode cX2_sign 1 = .ok (.getfield 167, 3) := by decide +kernel
theorem dX2_sign_4 : decode cX2_sign 4 = .ok (.aload_n 0, 1) := by decide +kernel
theorem dX2_sign_5 : decode cX2_sign 5 = .ok (.getfield 163, 3) := by decide +kernel
theorem dX2_sign_8 : decode cX2_sign 8 = .ok (.if_icmp .ge 15, 3) := by decide +kernel
theorem dX2_sign_11 : decode cX2_sign 11 = .ok (.aload_n 0, 1) := by decide +kernel
theorem dX2_sign_12 : decode cX2_sign 12 = .ok (.getfield 19, 3) := by decide +kernel
theorem dX2_sign_15 : decode cX2_sign 15 = .ok (.aload_n 0, 1) := by decide +kernel
theorem dX2_sign_16 : decode cX2_sign 16 = .ok (.getfield 167, 3) := by decide +kernel
theorem dX2_sign_19 : decode cX2_sign 19 = .ok (.iaload, 1) := by decide +kernel
theorem dX2_sign_20 : decode cX2_sign 20 = .ok (.goto 4, 3) := by decide +kernel
theorem dX2_sign_23 : decode cX2_sign 23 = .ok (.iconst 0, 1) := by decide +kernel
theorem dX2_sign_24 : decode cX2_sign 24 = .ok (.istore_n 3, 1) := by decide +kernel
theorem dX2_sign_25 : decode cX2_sign 25 = .ok (.aload_n 0, 1) := by decide +kernel
theorem dX2_sign_26 : decode cX2_sign 26 = .ok (.aload_n 0, 1) := by decide +kernel
theorem dX2_sign_27 : decode cX2_sign 27 = .ok (.getfield 170, 3) := by decide +kernel
theorem dX2_sign_30 : decode cX2_sign 30 = .ok (.ifCond .ne 12, 3) := by decide +kernel
theorem dX2_sign_33 : decode cX2_sign 33 = .ok (.iload_n 3, 1) := by decide +kernel
theorem dX2_sign_34 : decode cX2_sign 34 = .ok (.iload_n 1, 1) := by decide +kernel
theorem dX2_sign_35 : decode cX2_sign 35 = .ok (.iload_n 2, 1) := by decide +kernel
theorem dX2_sign_36 : decode cX2_sign 36 = .ok (.invokestatic 48, 3) := by decide +kernel
theorem dX2_sign_39 : decode cX2_sign 39 = .ok (.ifCond .ne 7, 3) := by decide +kernel
theorem dX2_sign_42 : decode cX2_sign 42 = .ok (.iconst 1, 1) := by decide +kernel
theorem dX2_sign_43 : decode cX2_sign 43 = .ok (.goto 4, 3) := by decide +kernel
theorem dX2_sign_46 : decode cX2_sign 46 = .ok (.iconst 0, 1) := by decide +kernel
theorem dX2_sign_47 : decode cX2_sign 47 = .ok (.putfield 170, 3) := by decide +kernel
theorem dX2_sign_50 : decode cX2_sign 50 = .ok (.aload_n 0, 1) := by decide +kernel
theorem dX2_sign_51 : decode cX2_sign 51 = .ok (.dup, 1) := by decide +kernel
theorem dX2_sign_52 : decode cX2_sign 52 = .ok (.getfield 167, 3) := by decide +kernel
theorem dX2_sign_55 : decode cX2_sign 55 = .ok (.aload_n 0, 1) := by decide +kernel
theorem dX2_sign_56 : decode cX2_sign 56 = .ok (.getfield 170, 3) := by decide +kernel
theorem dX2_sign_59 : decode cX2_sign 59 = .ok (.ifCond .eq 7, 3) := by decide +kernel
theorem dX2_sign_62 : decode cX2_sign 62 = .ok (.iconst 0, 1) := by decide +kernel
theorem dX2_sign_63 : decode cX2_sign 63 = .ok (.goto 4, 3) := by decide +kernel
theorem dX2_sign_66 : decode cX2_sign 66 = .ok (.iconst 1, 1) := by decide +kernel
theorem dX2_sign_67 : decode cX2_sign 67 = .ok (.iadd, 1) := by decide +kernel
theorem dX2_sign_68 : decode cX2_sign 68 = .ok (.putfield 167, 3) := by decide +kernel
theorem dX2_sign_71 : decode cX2_sign 71 = .ok (.iload_n 3, 1) := by decide +kernel
theorem dX2_sign_72 : decode cX2_sign 72 = .ok (.ireturn, 1) := by decide +kernel
theorem dX2_read_0 : decode cX2_read 0 = .ok (.aload_n 0, 1) := by decide +kernel
theorem dX2_read_1 : decode cX2_read 1 = .ok (.getfield 167, 3) := by decide +kernel
theorem dX2_read_4 : decode cX2_read 4 = .ok (.aload_n 0, 1) := by decide +kernel
theorem dX2_read_5 : decode cX2_read 5 = .ok (.getfield 163, 3) := by decide +kernel
theorem dX2_read_8 : decode cX2_read 8 = .ok (.if_icmp .ge 15, 3) := by decide +kernel
theorem dX2_read_11 : decode cX2_read 11 = .ok (.aload_n 0, 1) := by decide +kernel
theorem dX2_read_12 : decode cX2_read 12 = .ok (.getfield 19, 3) := by decide +kernel
theorem dX2_read_15 : decode cX2_read 15 = .ok (.aload_n 0, 1) := by decide +kernel
theorem dX2_read_16 : decode cX2_read 16 = .ok (.getfield 167, 3) := by decide +kernel
theorem dX2_read_19 : decode cX2_read 19 = .ok (.iaload, 1) := by decide +kernel
theorem dX2_read_20 : decode cX2_read 20 = .ok (.goto 4, 3) := by decide +kernel
theorem dX2_read_23 : decode cX2_read 23 = .ok (.iconst 0, 1) := by decide +kernel
theorem dX2_read_24 : decode cX2_read 24 = .ok (.istore_n 1, 1) := by decide +kernel
theorem dX2_read_25 : decode cX2_read 25 = .ok (.aload_n 0, 1) := by decide +kernel
theorem dX2_read_26 : decode cX2_read 26 = .ok (.iload_n 1, 1) := by decide +kernel
theorem dX2_read_27 : decode cX2_read 27 = .ok (.bipush 112, 2) := by decide +kernel
theorem dX2_read_29 : decode cX2_read 29 = .ok (.if_icmp .eq 31, 3) := by decide +kernel
theorem dX2_read_32 : decode cX2_read 32 = .ok (.iload_n 1, 1) := by decide +kernel
theorem dX2_read_33 : decode cX2_read 33 = .ok (.bipush 98, 2) := by decide +kernel
theorem dX2_read_35 : decode cX2_read 35 = .ok (.if_icmp .eq 25, 3) := by decide +kernel
theorem dX2_read_38 : decode cX2_read 38 = .ok (.iload_n 1, 1) := by decide +kernel
theorem dX2_read_39 : decode cX2_read 39 = .ok (.bipush 120, 2) := by decide +kernel
theorem dX2_read_41 : decode cX2_read 41 = .ok (.if_icmp .eq 19, 3) := by decide +kernel
theorem dX2_read_44 : decode cX2_read 44 = .ok (.iload_n 1, 1) := by decide +kernel
theorem dX2_read_45 : decode cX2_read 45 = .ok (.bipush 101, 2) := by decide +kernel
theorem dX2_read_47 : decode cX2_read 47 = .ok (.if_icmp .eq 13, 3) := by decide +kernel
theorem dX2_read_50 : decode cX2_read 50 = .ok (.iload_n 1, 1) := by decide +kernel
theorem dX2_read_51 : decode cX2_read 51 = .ok (.bipush 103, 2) := by decide +kernel
theorem dX2_read_53 : decode cX2_read 53 = .ok (.if_icmp .eq 7, 3) := by decide +kernel
theorem dX2_read_56 : decode cX2_read 56 = .ok (.iconst 1, 1) := by decide +kernel
theorem dX2_read_57 : decode cX2_read 57 = .ok (.goto 4, 3) := by decide +kernel
theorem dX2_read_60 : decode cX2_read 60 = .ok (.iconst 0, 1) := by decide +kernel
theorem dX2_read_61 : decode cX2_read 61 = .ok (.putfield 170, 3) := by decide +kernel
theorem dX2_read_64 : decode cX2_read 64 = .ok (.aload_n 0, 1) := by decide +kernel
theorem dX2_read_65 : decode cX2_read 65 = .ok (.dup, 1) := by decide +kernel
theorem dX2_read_66 : decode cX2_read 66 = .ok (.getfield 167, 3) := by decide +kernel
theorem dX2_read_69 : decode cX2_read 69 = .ok (.aload_n 0, 1) := by decide +kernel
theorem dX2_read_70 : decode cX2_read 70 = .ok (.getfield 170, 3) := by decide +kernel
theorem dX2_read_73 : decode cX2_read 73 = .ok (.ifCond .eq 7, 3) := by decide +kernel
theorem dX2_read_76 : decode cX2_read 76 = .ok (.iconst 0, 1) := by decide +kernel
theorem dX2_read_77 : decode cX2_read 77 = .ok (.goto 4, 3) := by decide +kernel
theorem dX2_read_80 : decode cX2_read 80 = .ok (.iconst 1, 1) := by decide +kernel
theorem dX2_read_81 : decode cX2_read 81 = .ok (.iadd, 1) := by decide +kernel
theorem dX2_read_82 : decode cX2_read 82 = .ok (.putfield 167, 3) := by decide +kernel
theorem dX2_read_85 : decode cX2_read 85 = .ok (.aload_n 0, 1) := by decide +kernel
theorem dX2_read_86 : decode cX2_read 86 = .ok (.iload_n 1, 1) := by decide +kernel
theorem dX2_read_87 : decode cX2_read 87 = .ok (.putfield 174, 3) := by decide +kernel
theorem dX2_read_90 : decode cX2_read 90 = .ok (.aload_n 0, 1) := by decide +kernel
theorem dX2_read_91 : decode cX2_read 91 = .ok (.iconst 0, 1) := by decide +kernel
theorem dX2_read_92 : decode cX2_read 92 = .ok (.putfield 177, 3) := by decide +kernel
theorem dX2_read_95 : decode cX2_read 95 = .ok (.aload_n 0, 1) := by decide +kernel
theorem dX2_read_96 : decode cX2_read 96 = .ok (.getfield 170, 3) := by decide +kernel
theorem dX2_read_99 : decode cX2_read 99 = .ok (.ifCond .ne 101, 3) := by decide +kernel
theorem dX2_read_102 : decode cX2_read 102 = .ok (.iload_n 1, 1) := by decide +kernel
theorem dX2_read_103 : decode cX2_read 103 = .ok (.bipush 101, 2) := by decide +kernel
theorem dX2_read_105 : decode cX2_read 105 = .ok (.if_icmp .eq 95, 3) := by decide +kernel
theorem dX2_read_108 : decode cX2_read 108 = .ok (.aload_n 0, 1) := by decide +kernel
theorem dX2_read_109 : decode cX2_read 109 = .ok (.aload_n 0, 1) := by decide +kernel
theorem dX2_read_110 : decode cX2_read 110 = .ok (.bipush 48, 2) := by decide +kernel
theorem dX2_read_112 : decode cX2_read 112 = .ok (.bipush 57, 2) := by decide +kernel
theorem dX2_read_114 : decode cX2_read 114 = .ok (.invokevirtual 180, 3) := by decide +kernel
theorem dX2_read_117 : decode cX2_read 117 = .ok (.bipush 48, 2) := by decide +kernel
theorem dX2_read_119 : decode cX2_read 119 = .ok (.isub, 1) := by decide +kernel
theorem dX2_read_120 : decode cX2_read 120 = .ok (.putfield 177, 3) := by decide +kernel
theorem dX2_read_123 : decode cX2_read 123 = .ok (.aload_n 0, 1) := by decide +kernel
theorem dX2_read_124 : decode cX2_read 124 = .ok (.getfield 170, 3) := by decide +kernel
theorem dX2_read_127 : decode cX2_read 127 = .ok (.ifCond .ne 37, 3) := by decide +kernel
theorem dX2_read_130 : decode cX2_read 130 = .ok (.aload_n 0, 1) := by decide +kernel
theorem dX2_read_131 : decode cX2_read 131 = .ok (.getfield 167, 3) := by decide +kernel
theorem dX2_read_134 : decode cX2_read 134 = .ok (.aload_n 0, 1) := by decide +kernel
theorem dX2_read_135 : decode cX2_read 135 = .ok (.getfield 163, 3) := by decide +kernel
theorem dX2_read_138 : decode cX2_read 138 = .ok (.if_icmp .ge 26, 3) := by decide +kernel
theorem dX2_read_141 : decode cX2_read 141 = .ok (.aload_n 0, 1) := by decide +kernel
theorem dX2_read_142 : decode cX2_read 142 = .ok (.getfield 19, 3) := by decide +kernel
theorem dX2_read_145 : decode cX2_read 145 = .ok (.aload_n 0, 1) := by decide +kernel
theorem dX2_read_146 : decode cX2_read 146 = .ok (.getfield 167, 3) := by decide +kernel
theorem dX2_read_149 : decode cX2_read 149 = .ok (.iaload, 1) := by decide +kernel
theorem dX2_read_150 : decode cX2_read 150 = .ok (.bipush 48, 2) := by decide +kernel
theorem dX2_read_152 : decode cX2_read 152 = .ok (.bipush 57, 2) := by decide +kernel
theorem dX2_read_154 : decode cX2_read 154 = .ok (.invokestatic 48, 3) := by decide +kernel
theorem dX2_read_157 : decode cX2_read 157 = .ok (.ifCond .eq 7, 3) := by decide +kernel
theorem dX2_read_160 : decode cX2_read 160 = .ok (.iconst 1, 1) := by decide +kernel
theorem dX2_read_161 : decode cX2_read 161 = .ok (.goto 4, 3) := by decide +kernel
theorem dX2_read_164 : decode cX2_read 164 = .ok (.iconst 0, 1) := by decide +kernel
theorem dX2_read_165 : decode cX2_read 165 = .ok (.istore_n 2, 1) := by decide +kernel
theorem dX2_read_166 : decode cX2_read 166 = .ok (.aload_n 0, 1) := by decide +kernel
theorem dX2_read_167 : decode cX2_read 167 = .ok (.iload_n 2, 1) := by decide +kernel
theorem dX2_read_168 : decode cX2_read 168 = .ok (.ifCond .eq 25, 3) := by decide +kernel
theorem dX2_read_171 : decode cX2_read 171 = .ok (.bipush 10, 2) := by decide +kernel
theorem dX2_read_173 : decode cX2_read 173 = .ok (.aload_n 0, 1) := by decide +kernel
theorem dX2_read_174 : decode cX2_read 174 = .ok (.getfield 177, 3) := by decide +kernel
theorem dX2_read_177 : decode cX2_read 177 = .ok (.imul, 1) := by decide +kernel
theorem dX2_read_178 : decode cX2_read 178 = .ok (.aload_n 0, 1) := by decide +kernel
theorem dX2_read_179 : decode cX2_read 179 = .ok (.bipush 48, 2) := by decide +kernel
theorem dX2_read_181 : decode cX2_read 181 = .ok (.bipush 57, 2) := by decide +kernel
theorem dX2_read_183 : decode cX2_read 183 = .ok (.invokevirtual 180, 3) := by decide +kernel
theorem dX2_read_186 : decode cX2_read 186 = .ok (.iadd, 1) := by decide +kernel
theorem dX2_read_187 : decode cX2_read 187 = .ok (.bipush 48, 2) := by decide +kernel
theorem dX2_read_189 : decode cX2_read 189 = .ok (.isub, 1) := by decide +kernel
theorem dX2_read_190 : decode cX2_read 190 = .ok (.goto 7, 3) := by decide +kernel
theorem dX2_read_193 : decode cX2_read 193 = .ok (.aload_n 0, 1) := by decide +kernel
theorem dX2_read_194 : decode cX2_read 194 = .ok (.getfield 177, 3) := by decide +kernel
theorem dX2_read_197 : decode cX2_read 197 = .ok (.putfield 177, 3) := by decide +kernel
theorem dX2_read_200 : decode cX2_read 200 = .ok (.aload_n 0, 1) := by decide +kernel
theorem dX2_read_201 : decode cX2_read 201 = .ok (.bipush 59, 2) := by decide +kernel
theorem dX2_read_203 : decode cX2_read 203 = .ok (.bipush 59, 2) := by decide +kernel
theorem dX2_read_205 : decode cX2_read 205 = .ok (.invokevirtual 180, 3) := by decide +kernel
theorem dX2_read_208 : decode cX2_read 208 = .ok (.istore_n 2, 1) := by decide +kernel
theorem dX2_read_209 : decode cX2_read 209 = .ok (.return_, 1) := by decide +kernel
theorem dX2_does_0 : decode cX2_does 0 = .ok (.aload_n 0, 1) := by decide +kernel
theorem dX2_does_1 : decode cX2_does 1 = .ok (.getfield 174, 3) := by decide +kernel
theorem dX2_does_4 : decode cX2_does 4 = .ok (.bipush 112, 2) := by decide +kernel
theorem dX2_does_6 : decode cX2_does 6 = .ok (.if_icmp .ne 14, 3) := by decide +kernel
theorem dX2_does_9 : decode cX2_does 9 = .ok (.aload_n 0, 1) := by decide +kernel
theorem dX2_does_10 : decode cX2_does 10 = .ok (.aload_n 0, 1) := by decide +kernel
theorem dX2_does_11 : decode cX2_does 11 = .ok (.getfield 177, 3) := by decide +kernel
theorem dX2_does_14 : decode cX2_does 14 = .ok (.invokevirtual 109, 3) := by decide +kernel
theorem dX2_does_17 : decode cX2_does 17 = .ok (.goto 90, 3) := by decide +kernel
theorem dX2_does_20 : decode cX2_does 20 = .ok (.aload_n 0, 1) := by decide +kernel
theorem dX2_does_21 : decode cX2_does 21 = .ok (.getfield 174, 3) := by decide +kernel
theorem dX2_does_24 : decode cX2_does 24 = .ok (.bipush 98, 2) := by decide +kernel
theorem dX2_does_26 : decode cX2_does 26 = .ok (.if_icmp .ne 14, 3) := by decide +kernel
theorem dX2_does_29 : decode cX2_does 29 = .ok (.aload_n 0, 1) := by decide +kernel
theorem dX2_does_30 : decode cX2_does 30 = .ok (.aload_n 0, 1) := by decide +kernel
theorem dX2_does_31 : decode cX2_does 31 = .ok (.getfield 177, 3) := by decide +kernel
theorem dX2_does_34 : decode cX2_does 34 = .ok (.invokevirtual 112, 3) := by decide +kernel
theorem dX2_does_37 : decode cX2_does 37 = .ok (.goto 70, 3) := by decide +kernel
theorem dX2_does_40 : decode cX2_does 40 = .ok (.aload_n 0, 1) := by decide +kernel
theorem dX2_does_41 : decode cX2_does 41 = .ok (.getfield 174, 3) := by decide +kernel
theorem dX2_does_44 : decode cX2_does 44 = .ok (.bipush 120, 2) := by decide +kernel
theorem dX2_does_46 : decode cX2_does 46 = .ok (.if_icmp .ne 14, 3) := by decide +kernel
theorem dX2_does_49 : decode cX2_does 49 = .ok (.aload_n 0, 1) := by decide +kernel
theorem dX2_does_50 : decode cX2_does 50 = .ok (.aload_n 0, 1) := by decide +kernel
theorem dX2_does_51 : decode cX2_does 51 = .ok (.getfield 177, 3) := by decide +kernel
theorem dX2_does_54 : decode cX2_does 54 = .ok (.invokevirtual 115, 3) := by decide +kernel
theorem dX2_does_57 : decode cX2_does 57 = .ok (.goto 50, 3) := by decide +kernel
theorem dX2_does_60 : decode cX2_does 60 = .ok (.aload_n 0, 1) := by decide +kernel
theorem dX2_does_61 : decode cX2_does 61 = .ok (.getfield 174, 3) := by decide +kernel
theorem dX2_does_64 : decode cX2_does 64 = .ok (.bipush 103, 2) := by decide +kernel
theorem dX2_does_66 : decode cX2_does 66 = .ok (.if_icmp .ne 24, 3) := by decide +kernel
theorem dX2_does_69 : decode cX2_does 69 = .ok (.aload_n 0, 1) := by decide +kernel
theorem dX2_does_70 : decode cX2_does 70 = .ok (.getfield 177, 3) := by decide +kernel
theorem dX2_does_73 : decode cX2_does 73 = .ok (.iconst 2, 1) := by decide +kernel
theorem dX2_does_74 : decode cX2_does 74 = .ok (.iconst 4, 1) := by decide +kernel
theorem dX2_does_75 : decode cX2_does 75 = .ok (.invokestatic 48, 3) := by decide +kernel
theorem dX2_does_78 : decode cX2_does 78 = .ok (.ifCond .eq 7, 3) := by decide +kernel
theorem dX2_does_81 : decode cX2_does 81 = .ok (.iconst 0, 1) := by decide +kernel
theorem dX2_does_82 : decode cX2_does 82 = .ok (.goto 25, 3) := by decide +kernel
theorem dX2_does_85 : decode cX2_does 85 = .ok (.ldc 63, 2) := by decide +kernel
theorem dX2_does_87 : decode cX2_does 87 = .ok (.goto 20, 3) := by decide +kernel
theorem dX2_does_90 : decode cX2_does 90 = .ok (.aload_n 0, 1) := by decide +kernel
theorem dX2_does_91 : decode cX2_does 91 = .ok (.getfield 7, 3) := by decide +kernel
theorem dX2_does_94 : decode cX2_does 94 = .ok (.bipush 8, 2) := by decide +kernel
theorem dX2_does_96 : decode cX2_does 96 = .ok (.iaload, 1) := by decide +kernel
theorem dX2_does_97 : decode cX2_does 97 = .ok (.iconst 1, 1) := by decide +kernel
theorem dX2_does_98 : decode cX2_does 98 = .ok (.if_icmp .ne 8, 3) := by decide +kernel
theorem dX2_does_101 : decode cX2_does 101 = .ok (.ldc 67, 2) := by decide +kernel
theorem dX2_does_103 : decode cX2_does 103 = .ok (.goto 4, 3) := by decide +kernel
theorem dX2_does_106 : decode cX2_does 106 = .ok (.iconst 0, 1) := by decide +kernel
theorem dX2_does_107 : decode cX2_does 107 = .ok (.istore_n 1, 1) := by decide +kernel
theorem dX2_does_108 : decode cX2_does 108 = .ok (.iload_n 1, 1) := by decide +kernel
theorem dX2_does_109 : decode cX2_does 109 = .ok (.ifCond .ne 88, 3) := by decide +kernel
theorem dX2_does_112 : decode cX2_does 112 = .ok (.aload_n 0, 1) := by decide +kernel
theorem dX2_does_113 : decode cX2_does 113 = .ok (.getfield 174, 3) := by decide +kernel
theorem dX2_does_116 : decode cX2_does 116 = .ok (.bipush 112, 2) := by decide +kernel
theorem dX2_does_118 : decode cX2_does 118 = .ok (.if_icmp .ne 14, 3) := by decide +kernel
theorem dX2_does_121 : decode cX2_does 121 = .ok (.aload_n 0, 1) := by decide +kernel
theorem dX2_does_122 : decode cX2_does 122 = .ok (.aload_n 0, 1) := by decide +kernel
theorem dX2_does_123 : decode cX2_does 123 = .ok (.getfield 177, 3) := by decide +kernel
theorem dX2_does_126 : decode cX2_does 126 = .ok (.invokevirtual 91, 3) := by decide +kernel
theorem dX2_does_129 : decode cX2_does 129 = .ok (.goto 67, 3) := by decide +kernel
theorem dX2_does_132 : decode cX2_does 132 = .ok (.aload_n 0, 1) := by decide +kernel
theorem dX2_does_133 : decode cX2_does 133 = .ok (.getfield 174, 3) := by decide +kernel
theorem dX2_does_136 : decode cX2_does 136 = .ok (.bipush 98, 2) := by decide +kernel
theorem dX2_does_138 : decode cX2_does 138 = .ok (.if_icmp .ne 14, 3) := by decide +kernel
theorem dX2_does_141 : decode cX2_does 141 = .ok (.aload_n 0, 1) := by decide +kernel
theorem dX2_does_142 : decode cX2_does 142 = .ok (.aload_n 0, 1) := by decide +kernel
theorem dX2_does_143 : decode cX2_does 143 = .ok (.getfield 177, 3) := by decide +kernel
theorem dX2_does_146 : decode cX2_does 146 = .ok (.invokevirtual 97, 3) := by decide +kernel
theorem dX2_does_149 : decode cX2_does 149 = .ok (.goto 47, 3) := by decide +kernel
theorem dX2_does_152 : decode cX2_does 152 = .ok (.aload_n 0, 1) := by decide +kernel
theorem dX2_does_153 : decode cX2_does 153 = .ok (.getfield 174, 3) := by decide +kernel
theorem dX2_does_156 : decode cX2_does 156 = .ok (.bipush 120, 2) := by decide +kernel
theorem dX2_does_158 : decode cX2_does 158 = .ok (.if_icmp .ne 14, 3) := by decide +kernel
theorem dX2_does_161 : decode cX2_does 161 = .ok (.aload_n 0, 1) := by decide +kernel
theorem dX2_does_162 : decode cX2_does 162 = .ok (.aload_n 0, 1) := by decide +kernel
theorem dX2_does_163 : decode cX2_does 163 = .ok (.getfield 177, 3) := by decide +kernel
theorem dX2_does_166 : decode cX2_does 166 = .ok (.invokevirtual 118, 3) := by decide +kernel
theorem dX2_does_169 : decode cX2_does 169 = .ok (.goto 27, 3) := by decide +kernel
theorem dX2_does_172 : decode cX2_does 172 = .ok (.aload_n 0, 1) := by decide +kernel
theorem dX2_does_173 : decode cX2_does 173 = .ok (.getfield 174, 3) := by decide +kernel
theorem dX2_does_176 : decode cX2_does 176 = .ok (.bipush 103, 2) := by decide +kernel
theorem dX2_does_178 : decode cX2_does 178 = .ok (.if_icmp .ne 14, 3) := by decide +kernel
theorem dX2_does_181 : decode cX2_does 181 = .ok (.aload_n 0, 1) := by decide +kernel
theorem dX2_does_182 : decode cX2_does 182 = .ok (.aload_n 0, 1) := by decide +kernel
theorem dX2_does_183 : decode cX2_does 183 = .ok (.getfield 177, 3) := by decide +kernel
theorem dX2_does_186 : decode cX2_does 186 = .ok (.invokevirtual 22, 3) := by decide +kernel
theorem dX2_does_189 : decode cX2_does 189 = .ok (.goto 7, 3) := by decide +kernel
theorem dX2_does_192 : decode cX2_does 192 = .ok (.aload_n 0, 1) := by decide +kernel
theorem dX2_does_193 : decode cX2_does 193 = .ok (.invokevirtual 100, 3) := by decide +kernel
theorem dX2_does_196 : decode cX2_does 196 = .ok (.istore_n 2, 1) := by decide +kernel
theorem dX2_does_197 : decode cX2_does 197 = .ok (.iload_n 1, 1) := by decide +kernel
theorem dX2_does_198 : decode cX2_does 198 = .ok (.ireturn, 1) := by decide +kernel
theorem dX2_go_0 : decode cX2_go 0 = .ok (.iconst 0, 1) := by decide +kernel
theorem dX2_go_1 : decode cX2_go 1 = .ok (.istore_n 1, 1) := by decide +kernel
theorem dX2_go_2 : decode cX2_go 2 = .ok (.aload_n 0, 1) := by decide +kernel
theorem dX2_go_3 : decode cX2_go 3 = .ok (.iconst 0, 1) := by decide +kernel
theorem dX2_go_4 : decode cX2_go 4 = .ok (.putfield 167, 3) := by decide +kernel
theorem dX2_go_7 : decode cX2_go 7 = .ok (.aload_n 0, 1) := by decide +kernel
theorem dX2_go_8 : decode cX2_go 8 = .ok (.iconst 0, 1) := by decide +kernel
theorem dX2_go_9 : decode cX2_go 9 = .ok (.putfield 183, 3) := by decide +kernel
theorem dX2_go_12 : decode cX2_go 12 = .ok (.aload_n 0, 1) := by decide +kernel
theorem dX2_go_13 : decode cX2_go 13 = .ok (.getfield 167, 3) := by decide +kernel
theorem dX2_go_16 : decode cX2_go 16 = .ok (.aload_n 0, 1) := by decide +kernel
theorem dX2_go_17 : decode cX2_go 17 = .ok (.getfield 163, 3) := by decide +kernel
theorem dX2_go_20 : decode cX2_go 20 = .ok (.if_icmp .ge 82, 3) := by decide +kernel
theorem dX2_go_23 : decode cX2_go 23 = .ok (.aload_n 0, 1) := by decide +kernel
theorem dX2_go_24 : decode cX2_go 24 = .ok (.getfield 183, 3) := by decide +kernel
theorem dX2_go_27 : decode cX2_go 27 = .ok (.ifCond .ne 75, 3) := by decide +kernel
theorem dX2_go_30 : decode cX2_go 30 = .ok (.aload_n 0, 1) := by decide +kernel
theorem dX2_go_31 : decode cX2_go 31 = .ok (.aload_n 0, 1) := by decide +kernel
theorem dX2_go_32 : decode cX2_go 32 = .ok (.getfield 167, 3) := by decide +kernel
theorem dX2_go_35 : decode cX2_go 35 = .ok (.putfield 186, 3) := by decide +kernel
theorem dX2_go_38 : decode cX2_go 38 = .ok (.aload_n 0, 1) := by decide +kernel
theorem dX2_go_39 : decode cX2_go 39 = .ok (.invokevirtual 189, 3) := by decide +kernel
theorem dX2_go_42 : decode cX2_go 42 = .ok (.aload_n 0, 1) := by decide +kernel
theorem dX2_go_43 : decode cX2_go 43 = .ok (.aload_n 0, 1) := by decide +kernel
theorem dX2_go_44 : decode cX2_go 44 = .ok (.getfield 170, 3) := by decide +kernel
theorem dX2_go_47 : decode cX2_go 47 = .ok (.ifCond .eq 15, 3) := by decide +kernel
theorem dX2_go_50 : decode cX2_go 50 = .ok (.aload_n 0, 1) := by decide +kernel
theorem dX2_go_51 : decode cX2_go 51 = .ok (.getfield 167, 3) := by decide +kernel
theorem dX2_go_54 : decode cX2_go 54 = .ok (.aload_n 0, 1) := by decide +kernel
theorem dX2_go_55 : decode cX2_go 55 = .ok (.getfield 186, 3) := by decide +kernel
theorem dX2_go_58 : decode cX2_go 58 = .ok (.isub, 1) := by decide +kernel
theorem dX2_go_59 : decode cX2_go 59 = .ok (.goto 7, 3) := by decide +kernel
theorem dX2_go_62 : decode cX2_go 62 = .ok (.aload_n 0, 1) := by decide +kernel
theorem dX2_go_63 : decode cX2_go 63 = .ok (.invokevirtual 192, 3) := by decide +kernel
theorem dX2_go_66 : decode cX2_go 66 = .ok (.putfield 195, 3) := by decide +kernel
theorem dX2_go_69 : decode cX2_go 69 = .ok (.aload_n 0, 1) := by decide +kernel
theorem dX2_go_70 : decode cX2_go 70 = .ok (.aload_n 0, 1) := by decide +kernel
theorem dX2_go_71 : decode cX2_go 71 = .ok (.getfield 170, 3) := by decide +kernel
theorem dX2_go_74 : decode cX2_go 74 = .ok (.ifCond .eq 7, 3) := by decide +kernel
theorem dX2_go_77 : decode cX2_go 77 = .ok (.iconst 1, 1) := by decide +kernel
theorem dX2_go_78 : decode cX2_go 78 = .ok (.goto 15, 3) := by decide +kernel
theorem dX2_go_81 : decode cX2_go 81 = .ok (.aload_n 0, 1) := by decide +kernel
theorem dX2_go_82 : decode cX2_go 82 = .ok (.getfield 195, 3) := by decide +kernel
theorem dX2_go_85 : decode cX2_go 85 = .ok (.ifCond .ge 7, 3) := by decide +kernel
theorem dX2_go_88 : decode cX2_go 88 = .ok (.iconst 2, 1) := by decide +kernel
theorem dX2_go_89 : decode cX2_go 89 = .ok (.goto 4, 3) := by decide +kernel
theorem dX2_go_92 : decode cX2_go 92 = .ok (.iconst 0, 1) := by decide +kernel
theorem dX2_go_93 : decode cX2_go 93 = .ok (.putfield 183, 3) := by decide +kernel
theorem dX2_go_96 : decode cX2_go 96 = .ok (.iinc 1 1, 3) := by decide +kernel
theorem dX2_go_99 : decode cX2_go 99 = .ok (.goto (-87), 3) := by decide +kernel
theorem dX2_go_102 : decode cX2_go 102 = .ok (.iload_n 1, 1) := by decide +kernel
theorem dX2_go_103 : decode cX2_go 103 = .ok (.ireturn, 1) := by decide +kernel
theorem dX2_look_0 : decode cX2_look 0 = .ok (.aload_n 0, 1) := by decide +kernel
theorem dX2_look_1 : decode cX2_look 1 = .ok (.invokevirtual 141, 3) := by decide +kernel
theorem dX2_look_4 : decode cX2_look 4 = .ok (.aload_n 0, 1) := by decide +kernel
theorem dX2_look_5 : decode cX2_look 5 = .ok (.invokevirtual 198, 3) := by decide +kernel
theorem dX2_look_8 : decode cX2_look 8 = .ok (.istore_n 1, 1) := by decide +kernel
theorem dX2_look_9 : decode cX2_look 9 = .ok (.aload_n 0, 1) := by decide +kernel
theorem dX2_look_10 : decode cX2_look 10 = .ok (.invokevirtual 147, 3) := by decide +kernel
theorem dX2_look_13 : decode cX2_look 13 = .ok (.return_, 1) := by decide +kernel
theorem dX2_fault_0 : decode cX2_fault 0 = .ok (.iload_n 1, 1) := by decide +kernel
theorem dX2_fault_1 : decode cX2_fault 1 = .ok (.iconst 0, 1) := by decide +kernel
theorem dX2_fault_2 : decode cX2_fault 2 = .ok (.iconst 2, 1) := by decide +kernel
theorem dX2_fault_3 : decode cX2_fault 3 = .ok (.invokestatic 48, 3) := by decide +kernel
theorem dX2_fault_6 : decode cX2_fault 6 = .ok (.ifCond .ne 6, 3) := by decide +kernel
theorem dX2_fault_9 : decode cX2_fault 9 = .ok (.ldc 63, 2) := by decide +kernel
theorem dX2_fault_11 : decode cX2_fault 11 = .ok (.ireturn, 1) := by decide +kernel
theorem dX2_fault_12 : decode cX2_fault 12 = .ok (.aload_n 0, 1) := by decide +kernel
theorem dX2_fault_13 : decode cX2_fault 13 = .ok (.invokevirtual 201, 3) := by decide +kernel
theorem dX2_fault_16 : decode cX2_fault 16 = .ok (.aload_n 0, 1) := by decide +kernel
theorem dX2_fault_17 : decode cX2_fault 17 = .ok (.getfield 183, 3) := by decide +kernel
theorem dX2_fault_20 : decode cX2_fault 20 = .ok (.ifCond .ne 8, 3) := by decide +kernel
theorem dX2_fault_23 : decode cX2_fault 23 = .ok (.ldc 127, 2) := by decide +kernel
theorem dX2_fault_25 : decode cX2_fault 25 = .ok (.goto 30, 3) := by decide +kernel
theorem dX2_fault_28 : decode cX2_fault 28 = .ok (.iload_n 1, 1) := by decide +kernel
theorem dX2_fault_29 : decode cX2_fault 29 = .ok (.ifCond .ne 10, 3) := by decide +kernel
theorem dX2_fault_32 : decode cX2_fault 32 = .ok (.aload_n 0, 1) := by decide +kernel
theorem dX2_fault_33 : decode cX2_fault 33 = .ok (.getfield 186, 3) := by decide +kernel
theorem dX2_fault_36 : decode cX2_fault 36 = .ok (.goto 19, 3) := by decide +kernel
theorem dX2_fault_39 : decode cX2_fault 39 = .ok (.iload_n 1, 1) := by decide +kernel
theorem dX2_fault_40 : decode cX2_fault 40 = .ok (.iconst 1, 1) := by decide +kernel
theorem dX2_fault_41 : decode cX2_fault 41 = .ok (.if_icmp .ne 10, 3) := by decide +kernel
theorem dX2_fault_44 : decode cX2_fault 44 = .ok (.aload_n 0, 1) := by decide +kernel
theorem dX2_fault_45 : decode cX2_fault 45 = .ok (.getfield 183, 3) := by decide +kernel
theorem dX2_fault_48 : decode cX2_fault 48 = .ok (.goto 7, 3) := by decide +kernel
theorem dX2_fault_51 : decode cX2_fault 51 = .ok (.aload_n 0, 1) := by decide +kernel
theorem dX2_fault_52 : decode cX2_fault 52 = .ok (.getfield 195, 3) := by decide +kernel
theorem dX2_fault_55 : decode cX2_fault 55 = .ok (.ireturn, 1) := by decide +kernel
theorem dX2_perform_0 : decode cX2_perform 0 = .ok (.aload_n 0, 1) := by decide +kernel
theorem dX2_perform_1 : decode cX2_perform 1 = .ok (.invokevirtual 201, 3) := by decide +kernel
theorem dX2_perform_4 : decode cX2_perform 4 = .ok (.aload_n 0, 1) := by decide +kernel
theorem dX2_perform_5 : decode cX2_perform 5 = .ok (.getfield 183, 3) := by decide +kernel
theorem dX2_perform_8 : decode cX2_perform 8 = .ok (.ifCond .le 6, 3) := by decide +kernel
theorem dX2_perform_11 : decode cX2_perform 11 = .ok (.ldc 67, 2) := by decide +kernel
theorem dX2_perform_13 : decode cX2_perform 13 = .ok (.ireturn, 1) := by decide +kernel
theorem dX2_perform_14 : decode cX2_perform 14 = .ok (.aload_n 0, 1) := by decide +kernel
theorem dX2_perform_15 : decode cX2_perform 15 = .ok (.invokevirtual 106, 3) := by decide +kernel
theorem dX2_perform_18 : decode cX2_perform 18 = .ok (.aload_n 0, 1) := by decide +kernel
theorem dX2_perform_19 : decode cX2_perform 19 = .ok (.invokevirtual 198, 3) := by decide +kernel
theorem dX2_perform_22 : decode cX2_perform 22 = .ok (.ireturn, 1) := by decide +kernel
theorem dJ7_fill_53178_0 : decode cJ7_fill_53178 0 = .ok (.iconst 0, 1) := by decide +kernel
theorem dJ7_fill_53178_1 : decode cJ7_fill_53178 1 = .ok (.istore_n 2, 1) := by decide +kernel
theorem dJ7_fill_53178_2 : decode cJ7_fill_53178 2 = .ok (.aload_n 0, 1) := by decide +kernel
theorem dJ7_fill_53178_3 : decode cJ7_fill_53178 3 = .ok (.arraylength, 1) := by decide +kernel
theorem dJ7_fill_53178_4 : decode cJ7_fill_53178 4 = .ok (.istore_n 3, 1) := by decide +kernel
theorem dJ7_fill_53178_5 : decode cJ7_fill_53178 5 = .ok (.iload_n 2, 1) := by decide +kernel
theorem dJ7_fill_53178_6 : decode cJ7_fill_53178 6 = .ok (.iload_n 3, 1) := by decide +kernel
theorem dJ7_fill_53178_7 : decode cJ7_fill_53178 7 = .ok (.if_icmp .ge 13, 3) := by decide +kernel
theorem dJ7_fill_53178_10 : decode cJ7_fill_53178 10 = .ok (.aload_n 0, 1) := by decide +kernel
theorem dJ7_fill_53178_11 : decode cJ7_fill_53178 11 = .ok (.iload_n 2, 1) := by decide +kernel
theorem dJ7_fill_53178_12 : decode cJ7_fill_53178 12 = .ok (.iload_n 1, 1) := by decide +kernel
theorem dJ7_fill_53178_13 : decode cJ7_fill_53178 13 = .ok (.iastore, 1) := by decide +kernel
theorem dJ7_fill_53178_14 : decode cJ7_fill_53178 14 = .ok (.iinc 2 1, 3) := by decide +kernel
theorem dJ7_fill_53178_17 : decode cJ7_fill_53178 17 = .ok (.goto (-12), 3) := by decide +kernel
theorem dJ7_fill_53178_20 : decode cJ7_fill_53178 20 = .ok (.return_, 1) := by decide +kernel
theorem dL_law_0 : decode cL_law 0 = .ok (.new 7, 3) := by decide +kernel
theorem dL_law_3 : decode cL_law 3 = .ok (.dup, 1) := by decide +kernel
theorem dL_law_4 : decode cL_law 4 = .ok (.invokespecial 9, 3) := by decide +kernel
theorem dL_law_7 : decode cL_law 7 = .ok (.astore_n 1, 1) := by decide +kernel
theorem dL_law_8 : decode cL_law 8 = .ok (.new 10, 3) := by decide +kernel
theorem dL_law_11 : decode cL_law 11 = .ok (.dup, 1) := by decide +kernel
theorem dL_law_12 : decode cL_law 12 = .ok (.invokespecial 12, 3) := by decide +kernel
theorem dL_law_15 : decode cL_law 15 = .ok (.astore_n 2, 1) := by decide +kernel
theorem dL_law_16 : decode cL_law 16 = .ok (.iconst 0, 1) := by decide +kernel
theorem dL_law_17 : decode cL_law 17 = .ok (.istore_n 3, 1) := by decide +kernel
theorem dL_law_18 : decode cL_law 18 = .ok (.iload_n 3, 1) := by decide +kernel
theorem dL_law_19 : decode cL_law 19 = .ok (.aload_n 0, 1) := by decide +kernel
theorem dL_law_20 : decode cL_law 20 = .ok (.arraylength, 1) := by decide +kernel
theorem dL_law_21 : decode cL_law 21 = .ok (.iconst 4, 1) := by decide +kernel
theorem dL_law_22 : decode cL_law 22 = .ok (.isub, 1) := by decide +kernel
theorem dL_law_23 : decode cL_law 23 = .ok (.if_icmp .gt 635, 3) := by decide +kernel
theorem dL_law_26 : decode cL_law 26 = .ok (.aload_n 0, 1) := by decide +kernel
theorem dL_law_27 : decode cL_law 27 = .ok (.iload_n 3, 1) := by decide +kernel
theorem dL_law_28 : decode cL_law 28 = .ok (.iaload, 1) := by decide +kernel
theorem dL_law_29 : decode cL_law 29 = .ok (.bipush 31, 2) := by decide +kernel
theorem dL_law_31 : decode cL_law 31 = .ok (.iand, 1) := by decide +kernel
theorem dL_law_32 : decode cL_law 32 = .ok (.tableswitch 620 0 21 #[104, 127, 150, 173, 196, 209, 232, 265, 308, 351, 374, 407, 430, 443, 466, 489, 512, 535, 548, 571, 584, 607], 104) := by decide +kernel
theorem dL_law_136 : decode cL_law 136 = .ok (.aload_n 1, 1) := by decide +kernel
theorem dL_law_137 : decode cL_law 137 = .ok (.aload_n 0, 1) := by decide +kernel
theorem dL_law_138 : decode cL_law 138 = .ok (.iload_n 3, 1) := by decide +kernel
theorem dL_law_139 : decode cL_law 139 = .ok (.iconst 1, 1) := by decide +kernel
theorem dL_law_140 : decode cL_law 140 = .ok (.iadd, 1) := by decide +kernel
theorem dL_law_141 : decode cL_law 141 = .ok (.iaload, 1) := by decide +kernel
theorem dL_law_142 : decode cL_law 142 = .ok (.invokevirtual 13, 3) := by decide +kernel
theorem dL_law_145 : decode cL_law 145 = .ok (.aload_n 2, 1) := by decide +kernel
theorem dL_law_146 : decode cL_law 146 = .ok (.aload_n 0, 1) := by decide +kernel
theorem dL_law_147 : decode cL_law 147 = .ok (.iload_n 3, 1) := by decide +kernel
theorem dL_law_148 : decode cL_law 148 = .ok (.iconst 1, 1) := by decide +kernel
theorem dL_law_149 : decode cL_law 149 = .ok (.iadd, 1) := by decide +kernel
theorem dL_law_150 : decode cL_law 150 = .ok (.iaload, 1) := by decide +kernel
theorem dL_law_151 : decode cL_law 151 = .ok (.invokevirtual 17, 3) := by decide +kernel
theorem dL_law_154 : decode cL_law 154 = .ok (.if_icmp .eq 498, 3) := by decide +kernel
theorem dL_law_157 : decode cL_law 157 = .ok (.iconst 0, 1) := by decide +kernel
theorem dL_law_158 : decode cL_law 158 = .ok (.ireturn, 1) := by decide +kernel
theorem dL_law_159 : decode cL_law 159 = .ok (.aload_n 1, 1) := by decide +kernel
theorem dL_law_160 : decode cL_law 160 = .ok (.aload_n 0, 1) := by decide +kernel
theorem dL_law_161 : decode cL_law 161 = .ok (.iload_n 3, 1) := by decide +kernel
theorem dL_law_162 : decode cL_law 162 = .ok (.iconst 1, 1) := by decide +kernel
theorem dL_law_163 : decode cL_law 163 = .ok (.iadd, 1) := by decide +kernel
theorem dL_law_164 : decode cL_law 164 = .ok (.iaload, 1) := by decide +kernel
theorem dL_law_165 : decode cL_law 165 = .ok (.invokevirtual 18, 3) := by decide +kernel
theorem dL_law_168 : decode cL_law 168 = .ok (.aload_n 2, 1) := by decide +kernel
theorem dL_law_169 : decode cL_law 169 = .ok (.aload_n 0, 1) := by decide +kernel
theorem dL_law_170 : decode cL_law 170 = .ok (.iload_n 3, 1) := by decide +kernel
theorem dL_law_171 : decode cL_law 171 = .ok (.iconst 1, 1) := by decide +kernel
theorem dL_law_172 : decode cL_law 172 = .ok (.iadd, 1) := by decide +kernel
theorem dL_law_173 : decode cL_law 173 = .ok (.iaload, 1) := by decide +kernel
theorem dL_law_174 : decode cL_law 174 = .ok (.invokevirtual 21, 3) := by decide +kernel
theorem dL_law_177 : decode cL_law 177 = .ok (.if_icmp .eq 475, 3) := by decide +kernel
theorem dL_law_180 : decode cL_law 180 = .ok (.iconst 0, 1) := by decide +kernel
theorem dL_law_181 : decode cL_law 181 = .ok (.ireturn, 1) := by decide +kernel
theorem dL_law_182 : decode cL_law 182 = .ok (.aload_n 1, 1) := by decide +kernel
theorem dL_law_183 : decode cL_law 183 = .ok (.aload_n 0, 1) := by decide +kernel
theorem dL_law_184 : decode cL_law 184 = .ok (.iload_n 3, 1) := by decide +kernel
theorem dL_law_185 : decode cL_law 185 = .ok (.iconst 1, 1) := by decide +kernel
theorem dL_law_186 : decode cL_law 186 = .ok (.iadd, 1) := by decide +kernel
theorem dL_law_187 : decode cL_law 187 = .ok (.iaload, 1) := by decide +kernel
theorem dL_law_188 : decode cL_law 188 = .ok (.invokevirtual 22, 3) := by decide +kernel
theorem dL_law_191 : decode cL_law 191 = .ok (.aload_n 2, 1) := by decide +kernel
theorem dL_law_192 : decode cL_law 192 = .ok (.aload_n 0, 1) := by decide +kernel
theorem dL_law_193 : decode cL_law 193 = .ok (.iload_n 3, 1) := by decide +kernel
theorem dL_law_194 : decode cL_law 194 = .ok (.iconst 1, 1) := by decide +kernel
theorem dL_law_195 : decode cL_law 195 = .ok (.iadd, 1) := by decide +kernel
theorem dL_law_196 : decode cL_law 196 = .ok (.iaload, 1) := by decide +kernel
theorem dL_law_197 : decode cL_law 197 = .ok (.invokevirtual 25, 3) := by decide +kernel
theorem dL_law_200 : decode cL_law 200 = .ok (.if_icmp .eq 452, 3) := by decide +kernel
theorem dL_law_203 : decode cL_law 203 = .ok (.iconst 0, 1) := by decide +kernel
theorem dL_law_204 : decode cL_law 204 = .ok (.ireturn, 1) := by decide +kernel
theorem dL_law_205 : decode cL_law 205 = .ok (.aload_n 1, 1) := by decide +kernel
theorem dL_law_206 : decode cL_law 206 = .ok (.aload_n 0, 1) := by decide +kernel
theorem dL_law_207 : decode cL_law 207 = .ok (.iload_n 3, 1) := by decide +kernel
theorem dL_law_208 : decode cL_law 208 = .ok (.iconst 1, 1) := by decide +kernel
theorem dL_law_209 : decode cL_law 209 = .ok (.iadd, 1) := by decide +kernel
theorem dL_law_210 : decode cL_law 210 = .ok (.iaload, 1) := by decide +kernel
theorem dL_law_211 : decode cL_law 211 = .ok (.invokevirtual 26, 3) := by decide +kernel
theorem dL_law_214 : decode cL_law 214 = .ok (.aload_n 2, 1) := by decide +kernel
theorem dL_law_215 : decode cL_law 215 = .ok (.aload_n 0, 1) := by decide +kernel
theorem dL_law_216 : decode cL_law 216 = .ok (.iload_n 3, 1) := by decide +kernel
theorem dL_law_217 : decode cL_law 217 = .ok (.iconst 1, 1) := by decide +kernel
theorem dL_law_218 : decode cL_law 218 = .ok (.iadd, 1) := by decide +kernel
theorem dL_law_219 : decode cL_law 219 = .ok (.iaload, 1) := by decide +kernel
theorem dL_law_220 : decode cL_law 220 = .ok (.invokevirtual 29, 3) := by decide +kernel
theorem dL_law_223 : decode cL_law 223 = .ok (.if_icmp .eq 429, 3) := by decide +kernel
theorem dL_law_226 : decode cL_law 226 = .ok (.iconst 0, 1) := by decide +kernel
theorem dL_law_227 : decode cL_law 227 = .ok (.ireturn, 1) := by decide +kernel
theorem dL_law_228 : decode cL_law 228 = .ok (.aload_n 1, 1) := by decide +kernel
theorem dL_law_229 : decode cL_law 229 = .ok (.invokevirtual 30, 3) := by decide +kernel
theorem dL_law_232 : decode cL_law 232 = .ok (.aload_n 2, 1) := by decide +kernel
theorem dL_law_233 : decode cL_law 233 = .ok (.invokevirtual 34, 3) := by decide +kernel
theorem dL_law_236 : decode cL_law 236 = .ok (.if_icmp .eq 416, 3) := by decide +kernel
theorem dL_law_239 : decode cL_law 239 = .ok (.iconst 0, 1) := by decide +kernel
theorem dL_law_240 : decode cL_law 240 = .ok (.ireturn, 1) := by decide +kernel
theorem dL_law_241 : decode cL_law 241 = .ok (.aload_n 1, 1) := by decide +kernel
theorem dL_law_242 : decode cL_law 242 = .ok (.aload_n 0, 1) := by decide +kernel
theorem dL_law_243 : decode cL_law 243 = .ok (.iload_n 3, 1) := by decide +kernel
theorem dL_law_244 : decode cL_law 244 = .ok (.iconst 1, 1) := by decide +kernel
theorem dL_law_245 : decode cL_law 245 = .ok (.iadd, 1) := by decide +kernel
theorem dL_law_246 : decode cL_law 246 = .ok (.iaload, 1) := by decide +kernel
theorem dL_law_247 : decode cL_law 247 = .ok (.invokevirtual 35, 3) := by decide +kernel
theorem dL_law_250 : decode cL_law 250 = .ok (.aload_n 2, 1) := by decide +kernel
theorem dL_law_251 : decode cL_law 251 = .ok (.aload_n 0, 1) := by decide +kernel
theorem dL_law_252 : decode cL_law 252 = .ok (.iload_n 3, 1) := by decide +kernel
theorem dL_law_253 : decode cL_law 253 = .ok (.iconst 1, 1) := by decide +kernel
theorem dL_law_254 : decode cL_law 254 = .ok (.iadd, 1) := by decide +kernel
theorem dL_law_255 : decode cL_law 255 = .ok (.iaload, 1) := by decide +kernel
theorem dL_law_256 : decode cL_law 256 = .ok (.invokevirtual 38, 3) := by decide +kernel
theorem dL_law_259 : decode cL_law 259 = .ok (.if_icmp .eq 393, 3) := by decide +kernel
theorem dL_law_262 : decode cL_law 262 = .ok (.iconst 0, 1) := by decide +kernel
theorem dL_law_263 : decode cL_law 263 = .ok (.ireturn, 1) := by decide +kernel
theorem dL_law_264 : decode cL_law 264 = .ok (.aload_n 1, 1) := by decide +kernel
theorem dL_law_265 : decode cL_law 265 = .ok (.aload_n 0, 1) := by decide +kernel
theorem dL_law_266 : decode cL_law 266 = .ok (.iload_n 3, 1) := by decide +kernel
theorem dL_law_267 : decode cL_law 267 = .ok (.iconst 1, 1) := by decide +kernel
theorem dL_law_268 : decode cL_law 268 = .ok (.iadd, 1) := by decide +kernel
theorem dL_law_269 : decode cL_law 269 = .ok (.iaload, 1) := by decide +kernel
theorem dL_law_270 : decode cL_law 270 = .ok (.aload_n 0, 1) := by decide +kernel
theorem dL_law_271 : decode cL_law 271 = .ok (.iload_n 3, 1) := by decide +kernel
theorem dL_law_272 : decode cL_law 272 = .ok (.iconst 2, 1) := by decide +kernel
theorem dL_law_273 : decode cL_law 273 = .ok (.iadd, 1) := by decide +kernel
theorem dL_law_274 : decode cL_law 274 = .ok (.iaload, 1) := by decide +kernel
theorem dL_law_275 : decode cL_law 275 = .ok (.invokevirtual 39, 3) := by decide +kernel
theorem dL_law_278 : decode cL_law 278 = .ok (.aload_n 2, 1) := by decide +kernel
theorem dL_law_279 : decode cL_law 279 = .ok (.aload_n 0, 1) := by decide +kernel
theorem dL_law_280 : decode cL_law 280 = .ok (.iload_n 3, 1) := by decide +kernel
theorem dL_law_281 : decode cL_law 281 = .ok (.iconst 1, 1) := by decide +kernel
theorem dL_law_282 : decode cL_law 282 = .ok (.iadd, 1) := by decide +kernel
theorem dL_law_283 : decode cL_law 283 = .ok (.iaload, 1) := by decide +kernel
theorem dL_law_284 : decode cL_law 284 = .ok (.aload_n 0, 1) := by decide +kernel
theorem dL_law_285 : decode cL_law 285 = .ok (.iload_n 3, 1) := by decide +kernel
theorem dL_law_286 : decode cL_law 286 = .ok (.iconst 2, 1) := by decide +kernel
theorem dL_law_287 : decode cL_law 287 = .ok (.iadd, 1) := by decide +kernel
theorem dL_law_288 : decode cL_law 288 = .ok (.iaload, 1) := by decide +kernel
theorem dL_law_289 : decode cL_law 289 = .ok (.invokevirtual 43, 3) := by decide +kernel
theorem dL_law_292 : decode cL_law 292 = .ok (.if_icmp .eq 360, 3) := by decide +kernel
theorem dL_law_295 : decode cL_law 295 = .ok (.iconst 0, 1) := by decide +kernel
theorem dL_law_296 : decode cL_law 296 = .ok (.ireturn, 1) := by decide +kernel
theorem dL_law_297 : decode cL_law 297 = .ok (.aload_n 1, 1) := by decide +kernel
theorem dL_law_298 : decode cL_law 298 = .ok (.aload_n 0, 1) := by decide +kernel
theorem dL_law_299 : decode cL_law 299 = .ok (.iload_n 3, 1) := by decide +kernel
theorem dL_law_300 : decode cL_law 300 = .ok (.iconst 1, 1) := by decide +kernel
theorem dL_law_301 : decode cL_law 301 = .ok (.iadd, 1) := by decide +kernel
theorem dL_law_302 : decode cL_law 302 = .ok (.iaload, 1) := by decide +kernel
theorem dL_law_303 : decode cL_law 303 = .ok (.aload_n 0, 1) := by decide +kernel
theorem dL_law_304 : decode cL_law 304 = .ok (.iload_n 3, 1) := by decide +kernel
theorem dL_law_305 : decode cL_law 305 = .ok (.iconst 2, 1) := by decide +kernel
theorem dL_law_306 : decode cL_law 306 = .ok (.iadd, 1) := by decide +kernel
theorem dL_law_307 : decode cL_law 307 = .ok (.iaload, 1) := by decide +kernel
theorem dL_law_308 : decode cL_law 308 = .ok (.aload_n 0, 1) := by decide +kernel
theorem dL_law_309 : decode cL_law 309 = .ok (.iload_n 3, 1) := by decide +kernel
theorem dL_law_310 : decode cL_law 310 = .ok (.iconst 3, 1) := by decide +kernel
theorem dL_law_311 : decode cL_law 311 = .ok (.iadd, 1) := by decide +kernel
theorem dL_law_312 : decode cL_law 312 = .ok (.iaload, 1) := by decide +kernel
theorem dL_law_313 : decode cL_law 313 = .ok (.invokevirtual 44, 3) := by decide +kernel
theorem dL_law_316 : decode cL_law 316 = .ok (.aload_n 2, 1) := by decide +kernel
theorem dL_law_317 : decode cL_law 317 = .ok (.aload_n 0, 1) := by decide +kernel
theorem dL_law_318 : decode cL_law 318 = .ok (.iload_n 3, 1) := by decide +kernel
theorem dL_law_319 : decode cL_law 319 = .ok (.iconst 1, 1) := by decide +kernel
theorem dL_law_320 : decode cL_law 320 = .ok (.iadd, 1) := by decide +kernel
theorem dL_law_321 : decode cL_law 321 = .ok (.iaload, 1) := by decide +kernel
theorem dL_law_322 : decode cL_law 322 = .ok (.aload_n 0, 1) := by decide +kernel
theorem dL_law_323 : decode cL_law 323 = .ok (.iload_n 3, 1) := by decide +kernel
theorem dL_law_324 : decode cL_law 324 = .ok (.iconst 2, 1) := by decide +kernel
theorem dL_law_325 : decode cL_law 325 = .ok (.iadd, 1) := by decide +kernel
theorem dL_law_326 : decode cL_law 326 = .ok (.iaload, 1) := by decide +kernel
theorem dL_law_327 : decode cL_law 327 = .ok (.aload_n 0, 1) := by decide +kernel
theorem dL_law_328 : decode cL_law 328 = .ok (.iload_n 3, 1) := by decide +kernel
theorem dL_law_329 : decode cL_law 329 = .ok (.iconst 3, 1) := by decide +kernel
theorem dL_law_330 : decode cL_law 330 = .ok (.iadd, 1) := by decide +kernel
theorem dL_law_331 : decode cL_law 331 = .ok (.iaload, 1) := by decide +kernel
theorem dL_law_332 : decode cL_law 332 = .ok (.invokevirtual 48, 3) := by decide +kernel
theorem dL_law_335 : decode cL_law 335 = .ok (.if_icmp .eq 317, 3) := by decide +kernel
theorem dL_law_338 : decode cL_law 338 = .ok (.iconst 0, 1) := by decide +kernel
theorem dL_law_339 : decode cL_law 339 = .ok (.ireturn, 1) := by decide +kernel
theorem dL_law_340 : decode cL_law 340 = .ok (.aload_n 1, 1) := by decide +kernel
theorem dL_law_341 : decode cL_law 341 = .ok (.aload_n 0, 1) := by decide +kernel
theorem dL_law_342 : decode cL_law 342 = .ok (.iload_n 3, 1) := by decide +kernel
theorem dL_law_343 : decode cL_law 343 = .ok (.iconst 1, 1) := by decide +kernel
theorem dL_law_344 : decode cL_law 344 = .ok (.iadd, 1) := by decide +kernel
theorem dL_law_345 : decode cL_law 345 = .ok (.iaload, 1) := by decide +kernel
theorem dL_law_346 : decode cL_law 346 = .ok (.aload_n 0, 1) := by decide +kernel
theorem dL_law_347 : decode cL_law 347 = .ok (.iload_n 3, 1) := by decide +kernel
theorem dL_law_348 : decode cL_law 348 = .ok (.iconst 2, 1) := by decide +kernel
theorem dL_law_349 : decode cL_law 349 = .ok (.iadd, 1) := by decide +kernel
theorem dL_law_350 : decode cL_law 350 = .ok (.iaload, 1) := by decide +kernel
theorem dL_law_351 : decode cL_law 351 = .ok (.aload_n 0, 1) := by decide +kernel
theorem dL_law_352 : decode cL_law 352 = .ok (.iload_n 3, 1) := by decide +kernel
theorem dL_law_353 : decode cL_law 353 = .ok (.iconst 3, 1) := by decide +kernel
theorem dL_law_354 : decode cL_law 354 = .ok (.iadd, 1) := by decide +kernel
theorem dL_law_355 : decode cL_law 355 = .ok (.iaload, 1) := by decide +kernel
theorem dL_law_356 : decode cL_law 356 = .ok (.invokevirtual 49, 3) := by decide +kernel
theorem dL_law_359 : decode cL_law 359 = .ok (.aload_n 2, 1) := by decide +kernel
theorem dL_law_360 : decode cL_law 360 = .ok (.aload_n 0, 1) := by decide +kernel
theorem dL_law_361 : decode cL_law 361 = .ok (.iload_n 3, 1) := by decide +kernel
theorem dL_law_362 : decode cL_law 362 = .ok (.iconst 1, 1) := by decide +kernel
theorem dL_law_363 : decode cL_law 363 = .ok (.iadd, 1) := by decide +kernel
theorem dL_law_364 : decode cL_law 364 = .ok (.iaload, 1) := by decide +kernel
theorem dL_law_365 : decode cL_law 365 = .ok (.aload_n 0, 1) := by decide +kernel
theorem dL_law_366 : decode cL_law 366 = .ok (.iload_n 3, 1) := by decide +kernel
theorem dL_law_367 : decode cL_law 367 = .ok (.iconst 2, 1) := by decide +kernel
theorem dL_law_368 : decode cL_law 368 = .ok (.iadd, 1) := by decide +kernel
theorem dL_law_369 : decode cL_law 369 = .ok (.iaload, 1) := by decide +kernel
theorem dL_law_370 : decode cL_law 370 = .ok (.aload_n 0, 1) := by decide +kernel
theorem dL_law_371 : decode cL_law 371 = .ok (.iload_n 3, 1) := by decide +kernel
theorem dL_law_372 : decode cL_law 372 = .ok (.iconst 3, 1) := by decide +kernel
theorem dL_law_373 : decode cL_law 373 = .ok (.iadd, 1) := by decide +kernel
theorem dL_law_374 : decode cL_law 374 = .ok (.iaload, 1) := by decide +kernel
theorem dL_law_375 : decode cL_law 375 = .ok (.invokevirtual 52, 3) := by decide +kernel
theorem dL_law_378 : decode cL_law 378 = .ok (.if_icmp .eq 274, 3) := by decide +kernel
theorem dL_law_381 : decode cL_law 381 = .ok (.iconst 0, 1) := by decide +kernel
theorem dL_law_382 : decode cL_law 382 = .ok (.ireturn, 1) := by decide +kernel
theorem dL_law_383 : decode cL_law 383 = .ok (.aload_n 1, 1) := by decide +kernel
theorem dL_law_384 : decode cL_law 384 = .ok (.aload_n 0, 1) := by decide +kernel
theorem dL_law_385 : decode cL_law 385 = .ok (.iload_n 3, 1) := by decide +kernel
theorem dL_law_386 : decode cL_law 386 = .ok (.iconst 1, 1) := by decide +kernel
theorem dL_law_387 : decode cL_law 387 = .ok (.iadd, 1) := by decide +kernel
theorem dL_law_388 : decode cL_law 388 = .ok (.iaload, 1) := by decide +kernel
theorem dL_law_389 : decode cL_law 389 = .ok (.invokevirtual 53, 3) := by decide +kernel
theorem dL_law_392 : decode cL_law 392 = .ok (.aload_n 2, 1) := by decide +kernel
theorem dL_law_393 : decode cL_law 393 = .ok (.aload_n 0, 1) := by decide +kernel
theorem dL_law_394 : decode cL_law 394 = .ok (.iload_n 3, 1) := by decide +kernel
theorem dL_law_395 : decode cL_law 395 = .ok (.iconst 1, 1) := by decide +kernel
theorem dL_law_396 : decode cL_law 396 = .ok (.iadd, 1) := by decide +kernel
theorem dL_law_397 : decode cL_law 397 = .ok (.iaload, 1) := by decide +kernel
theorem dL_law_398 : decode cL_law 398 = .ok (.invokevirtual 56, 3) := by decide +kernel
theorem dL_law_401 : decode cL_law 401 = .ok (.if_icmp .eq 251, 3) := by decide +kernel
theorem dL_law_404 : decode cL_law 404 = .ok (.iconst 0, 1) := by decide +kernel
theorem dL_law_405 : decode cL_law 405 = .ok (.ireturn, 1) := by decide +kernel
theorem dL_law_406 : decode cL_law 406 = .ok (.aload_n 1, 1) := by decide +kernel
theorem dL_law_407 : decode cL_law 407 = .ok (.aload_n 0, 1) := by decide +kernel
theorem dL_law_408 : decode cL_law 408 = .ok (.iload_n 3, 1) := by decide +kernel
theorem dL_law_409 : decode cL_law 409 = .ok (.iconst 1, 1) := by decide +kernel
theorem dL_law_410 : decode cL_law 410 = .ok (.iadd, 1) := by decide +kernel
theorem dL_law_411 : decode cL_law 411 = .ok (.iaload, 1) := by decide +kernel
theorem dL_law_412 : decode cL_law 412 = .ok (.aload_n 0, 1) := by decide +kernel
theorem dL_law_413 : decode cL_law 413 = .ok (.iload_n 3, 1) := by decide +kernel
theorem dL_law_414 : decode cL_law 414 = .ok (.iconst 2, 1) := by decide +kernel
theorem dL_law_415 : decode cL_law 415 = .ok (.iadd, 1) := by decide +kernel
theorem dL_law_416 : decode cL_law 416 = .ok (.iaload, 1) := by decide +kernel
theorem dL_law_417 : decode cL_law 417 = .ok (.invokevirtual 57, 3) := by decide +kernel
theorem dL_law_420 : decode cL_law 420 = .ok (.aload_n 2, 1) := by decide +kernel
theorem dL_law_421 : decode cL_law 421 = .ok (.aload_n 0, 1) := by decide +kernel
theorem dL_law_422 : decode cL_law 422 = .ok (.iload_n 3, 1) := by decide +kernel
theorem dL_law_423 : decode cL_law 423 = .ok (.iconst 1, 1) := by decide +kernel
theorem dL_law_424 : decode cL_law 424 = .ok (.iadd, 1) := by decide +kernel
theorem dL_law_425 : decode cL_law 425 = .ok (.iaload, 1) := by decide +kernel
theorem dL_law_426 : decode cL_law 426 = .ok (.aload_n 0, 1) := by decide +kernel
theorem dL_law_427 : decode cL_law 427 = .ok (.iload_n 3, 1) := by decide +kernel
theorem dL_law_428 : decode cL_law 428 = .ok (.iconst 2, 1) := by decide +kernel
theorem dL_law_429 : decode cL_law 429 = .ok (.iadd, 1) := by decide +kernel
theorem dL_law_430 : decode cL_law 430 = .ok (.iaload, 1) := by decide +kernel
theorem dL_law_431 : decode cL_law 431 = .ok (.invokevirtual 60, 3) := by decide +kernel
theorem dL_law_434 : decode cL_law 434 = .ok (.if_icmp .eq 218, 3) := by decide +kernel
theorem dL_law_437 : decode cL_law 437 = .ok (.iconst 0, 1) := by decide +kernel
theorem dL_law_438 : decode cL_law 438 = .ok (.ireturn, 1) := by decide +kernel
theorem dL_law_439 : decode cL_law 439 = .ok (.aload_n 1, 1) := by decide +kernel
theorem dL_law_440 : decode cL_law 440 = .ok (.aload_n 0, 1) := by decide +kernel
theorem dL_law_441 : decode cL_law 441 = .ok (.iload_n 3, 1) := by decide +kernel
theorem dL_law_442 : decode cL_law 442 = .ok (.iconst 1, 1) := by decide +kernel
theorem dL_law_443 : decode cL_law 443 = .ok (.iadd, 1) := by decide +kernel
theorem dL_law_444 : decode cL_law 444 = .ok (.iaload, 1) := by decide +kernel
theorem dL_law_445 : decode cL_law 445 = .ok (.invokevirtual 61, 3) := by decide +kernel
theorem dL_law_448 : decode cL_law 448 = .ok (.aload_n 2, 1) := by decide +kernel
theorem dL_law_449 : decode cL_law 449 = .ok (.aload_n 0, 1) := by decide +kernel
theorem dL_law_450 : decode cL_law 450 = .ok (.iload_n 3, 1) := by decide +kernel
theorem dL_law_451 : decode cL_law 451 = .ok (.iconst 1, 1) := by decide +kernel
theorem dL_law_452 : decode cL_law 452 = .ok (.iadd, 1) := by decide +kernel
theorem dL_law_453 : decode cL_law 453 = .ok (.iaload, 1) := by decide +kernel
theorem dL_law_454 : decode cL_law 454 = .ok (.invokevirtual 64, 3) := by decide +kernel
theorem dL_law_457 : decode cL_law 457 = .ok (.if_icmp .eq 195, 3) := by decide +kernel
theorem dL_law_460 : decode cL_law 460 = .ok (.iconst 0, 1) := by decide +kernel
theorem dL_law_461 : decode cL_law 461 = .ok (.ireturn, 1) := by decide +kernel
theorem dL_law_462 : decode cL_law 462 = .ok (.aload_n 1, 1) := by decide +kernel
theorem dL_law_463 : decode cL_law 463 = .ok (.invokevirtual 65, 3) := by decide +kernel
theorem dL_law_466 : decode cL_law 466 = .ok (.aload_n 2, 1) := by decide +kernel
theorem dL_law_467 : decode cL_law 467 = .ok (.invokevirtual 68, 3) := by decide +kernel
theorem dL_law_470 : decode cL_law 470 = .ok (.if_icmp .eq 182, 3) := by decide +kernel
theorem dL_law_473 : decode cL_law 473 = .ok (.iconst 0, 1) := by decide +kernel
theorem dL_law_474 : decode cL_law 474 = .ok (.ireturn, 1) := by decide +kernel
theorem dL_law_475 : decode cL_law 475 = .ok (.aload_n 1, 1) := by decide +kernel
theorem dL_law_476 : decode cL_law 476 = .ok (.aload_n 0, 1) := by decide +kernel
theorem dL_law_477 : decode cL_law 477 = .ok (.iload_n 3, 1) := by decide +kernel
theorem dL_law_478 : decode cL_law 478 = .ok (.iconst 1, 1) := by decide +kernel
theorem dL_law_479 : decode cL_law 479 = .ok (.iadd, 1) := by decide +kernel
theorem dL_law_480 : decode cL_law 480 = .ok (.iaload, 1) := by decide +kernel
theorem dL_law_481 : decode cL_law 481 = .ok (.invokevirtual 69, 3) := by decide +kernel
theorem dL_law_484 : decode cL_law 484 = .ok (.aload_n 2, 1) := by decide +kernel
theorem dL_law_485 : decode cL_law 485 = .ok (.aload_n 0, 1) := by decide +kernel
theorem dL_law_486 : decode cL_law 486 = .ok (.iload_n 3, 1) := by decide +kernel
theorem dL_law_487 : decode cL_law 487 = .ok (.iconst 1, 1) := by decide +kernel
theorem dL_law_488 : decode cL_law 488 = .ok (.iadd, 1) := by decide +kernel
theorem dL_law_489 : decode cL_law 489 = .ok (.iaload, 1) := by decide +kernel
theorem dL_law_490 : decode cL_law 490 = .ok (.invokevirtual 72, 3) := by decide +kernel
theorem dL_law_493 : decode cL_law 493 = .ok (.if_icmp .eq 159, 3) := by decide +kernel
theorem dL_law_496 : decode cL_law 496 = .ok (.iconst 0, 1) := by decide +kernel
theorem dL_law_497 : decode cL_law 497 = .ok (.ireturn, 1) := by decide +kernel
theorem dL_law_498 : decode cL_law 498 = .ok (.aload_n 1, 1) := by decide +kernel
theorem dL_law_499 : decode cL_law 499 = .ok (.aload_n 0, 1) := by decide +kernel
theorem dL_law_500 : decode cL_law 500 = .ok (.iload_n 3, 1) := by decide +kernel
theorem dL_law_501 : decode cL_law 501 = .ok (.iconst 1, 1) := by decide +kernel
theorem dL_law_502 : decode cL_law 502 = .ok (.iadd, 1) := by decide +kernel
theorem dL_law_503 : decode cL_law 503 = .ok (.iaload, 1) := by decide +kernel
theorem dL_law_504 : decode cL_law 504 = .ok (.invokevirtual 73, 3) := by decide +kernel
theorem dL_law_507 : decode cL_law 507 = .ok (.aload_n 2, 1) := by decide +kernel
theorem dL_law_508 : decode cL_law 508 = .ok (.aload_n 0, 1) := by decide +kernel
theorem dL_law_509 : decode cL_law 509 = .ok (.iload_n 3, 1) := by decide +kernel
theorem dL_law_510 : decode cL_law 510 = .ok (.iconst 1, 1) := by decide +kernel
theorem dL_law_511 : decode cL_law 511 = .ok (.iadd, 1) := by decide +kernel
theorem dL_law_512 : decode cL_law 512 = .ok (.iaload, 1) := by decide +kernel
theorem dL_law_513 : decode cL_law 513 = .ok (.invokevirtual 76, 3) := by decide +kernel
theorem dL_law_516 : decode cL_law 516 = .ok (.if_icmp .eq 136, 3) := by decide +kernel
theorem dL_law_519 : decode cL_law 519 = .ok (.iconst 0, 1) := by decide +kernel
theorem dL_law_520 : decode cL_law 520 = .ok (.ireturn, 1) := by decide +kernel
theorem dL_law_521 : decode cL_law 521 = .ok (.aload_n 1, 1) := by decide +kernel
theorem dL_law_522 : decode cL_law 522 = .ok (.aload_n 0, 1) := by decide +kernel
theorem dL_law_523 : decode cL_law 523 = .ok (.iload_n 3, 1) := by decide +kernel
theorem dL_law_524 : decode cL_law 524 = .ok (.iconst 1, 1) := by decide +kernel
theorem dL_law_525 : decode cL_law 525 = .ok (.iadd, 1) := by decide +kernel
theorem dL_law_526 : decode cL_law 526 = .ok (.iaload, 1) := by decide +kernel
theorem dL_law_527 : decode cL_law 527 = .ok (.invokevirtual 77, 3) := by decide +kernel
theorem dL_law_530 : decode cL_law 530 = .ok (.aload_n 2, 1) := by decide +kernel
theorem dL_law_531 : decode cL_law 531 = .ok (.aload_n 0, 1) := by decide +kernel
theorem dL_law_532 : decode cL_law 532 = .ok (.iload_n 3, 1) := by decide +kernel
theorem dL_law_533 : decode cL_law 533 = .ok (.iconst 1, 1) := by decide +kernel
theorem dL_law_534 : decode cL_law 534 = .ok (.iadd, 1) := by decide +kernel
theorem dL_law_535 : decode cL_law 535 = .ok (.iaload, 1) := by decide +kernel
theorem dL_law_536 : decode cL_law 536 = .ok (.invokevirtual 80, 3) := by decide +kernel
theorem dL_law_539 : decode cL_law 539 = .ok (.if_icmp .eq 113, 3) := by decide +kernel
theorem dL_law_542 : decode cL_law 542 = .ok (.iconst 0, 1) := by decide +kernel
theorem dL_law_543 : decode cL_law 543 = .ok (.ireturn, 1) := by decide +kernel
theorem dL_law_544 : decode cL_law 544 = .ok (.aload_n 1, 1) := by decide +kernel
theorem dL_law_545 : decode cL_law 545 = .ok (.aload_n 0, 1) := by decide +kernel
theorem dL_law_546 : decode cL_law 546 = .ok (.iload_n 3, 1) := by decide +kernel
theorem dL_law_547 : decode cL_law 547 = .ok (.iconst 1, 1) := by decide +kernel
theorem dL_law_548 : decode cL_law 548 = .ok (.iadd, 1) := by decide +kernel
theorem dL_law_549 : decode cL_law 549 = .ok (.iaload, 1) := by decide +kernel
theorem dL_law_550 : decode cL_law 550 = .ok (.invokevirtual 81, 3) := by decide +kernel
theorem dL_law_553 : decode cL_law 553 = .ok (.aload_n 2, 1) := by decide +kernel
theorem dL_law_554 : decode cL_law 554 = .ok (.aload_n 0, 1) := by decide +kernel
theorem dL_law_555 : decode cL_law 555 = .ok (.iload_n 3, 1) := by decide +kernel
theorem dL_law_556 : decode cL_law 556 = .ok (.iconst 1, 1) := by decide +kernel
theorem dL_law_557 : decode cL_law 557 = .ok (.iadd, 1) := by decide +kernel
theorem dL_law_558 : decode cL_law 558 = .ok (.iaload, 1) := by decide +kernel
theorem dL_law_559 : decode cL_law 559 = .ok (.invokevirtual 84, 3) := by decide +kernel
theorem dL_law_562 : decode cL_law 562 = .ok (.if_icmp .eq 90, 3) := by decide +kernel
theorem dL_law_565 : decode cL_law 565 = .ok (.iconst 0, 1) := by decide +kernel
theorem dL_law_566 : decode cL_law 566 = .ok (.ireturn, 1) := by decide +kernel
theorem dL_law_567 : decode cL_law 567 = .ok (.aload_n 1, 1) := by decide +kernel
theorem dL_law_568 : decode cL_law 568 = .ok (.invokevirtual 85, 3) := by decide +kernel
theorem dL_law_571 : decode cL_law 571 = .ok (.aload_n 2, 1) := by decide +kernel
theorem dL_law_572 : decode cL_law 572 = .ok (.invokevirtual 88, 3) := by decide +kernel
theorem dL_law_575 : decode cL_law 575 = .ok (.if_icmp .eq 77, 3) := by decide +kernel
theorem dL_law_578 : decode cL_law 578 = .ok (.iconst 0, 1) := by decide +kernel
theorem dL_law_579 : decode cL_law 579 = .ok (.ireturn, 1) := by decide +kernel
theorem dL_law_580 : decode cL_law 580 = .ok (.aload_n 1, 1) := by decide +kernel
theorem dL_law_581 : decode cL_law 581 = .ok (.aload_n 0, 1) := by decide +kernel
theorem dL_law_582 : decode cL_law 582 = .ok (.iload_n 3, 1) := by decide +kernel
theorem dL_law_583 : decode cL_law 583 = .ok (.iconst 1, 1) := by decide +kernel
theorem dL_law_584 : decode cL_law 584 = .ok (.iadd, 1) := by decide +kernel
theorem dL_law_585 : decode cL_law 585 = .ok (.iaload, 1) := by decide +kernel
theorem dL_law_586 : decode cL_law 586 = .ok (.invokevirtual 89, 3) := by decide +kernel
theorem dL_law_589 : decode cL_law 589 = .ok (.aload_n 2, 1) := by decide +kernel
theorem dL_law_590 : decode cL_law 590 = .ok (.aload_n 0, 1) := by decide +kernel
theorem dL_law_591 : decode cL_law 591 = .ok (.iload_n 3, 1) := by decide +kernel
theorem dL_law_592 : decode cL_law 592 = .ok (.iconst 1, 1) := by decide +kernel
theorem dL_law_593 : decode cL_law 593 = .ok (.iadd, 1) := by decide +kernel
theorem dL_law_594 : decode cL_law 594 = .ok (.iaload, 1) := by decide +kernel
theorem dL_law_595 : decode cL_law 595 = .ok (.invokevirtual 92, 3) := by decide +kernel
theorem dL_law_598 : decode cL_law 598 = .ok (.if_icmp .eq 54, 3) := by decide +kernel
theorem dL_law_601 : decode cL_law 601 = .ok (.iconst 0, 1) := by decide +kernel
theorem dL_law_602 : decode cL_law 602 = .ok (.ireturn, 1) := by decide +kernel
theorem dL_law_603 : decode cL_law 603 = .ok (.aload_n 1, 1) := by decide +kernel
theorem dL_law_604 : decode cL_law 604 = .ok (.invokevirtual 93, 3) := by decide +kernel
theorem dL_law_607 : decode cL_law 607 = .ok (.aload_n 2, 1) := by decide +kernel
theorem dL_law_608 : decode cL_law 608 = .ok (.invokevirtual 96, 3) := by decide +kernel
theorem dL_law_611 : decode cL_law 611 = .ok (.if_icmp .eq 41, 3) := by decide +kernel
theorem dL_law_614 : decode cL_law 614 = .ok (.iconst 0, 1) := by decide +kernel
theorem dL_law_615 : decode cL_law 615 = .ok (.ireturn, 1) := by decide +kernel
theorem dL_law_616 : decode cL_law 616 = .ok (.aload_n 1, 1) := by decide +kernel
theorem dL_law_617 : decode cL_law 617 = .ok (.aload_n 0, 1) := by decide +kernel
theorem dL_law_618 : decode cL_law 618 = .ok (.iload_n 3, 1) := by decide +kernel
theorem dL_law_619 : decode cL_law 619 = .ok (.iconst 1, 1) := by decide +kernel
theorem dL_law_620 : decode cL_law 620 = .ok (.iadd, 1) := by decide +kernel
theorem dL_law_621 : decode cL_law 621 = .ok (.iaload, 1) := by decide +kernel
theorem dL_law_622 : decode cL_law 622 = .ok (.invokevirtual 97, 3) := by decide +kernel
theorem dL_law_625 : decode cL_law 625 = .ok (.aload_n 2, 1) := by decide +kernel
theorem dL_law_626 : decode cL_law 626 = .ok (.aload_n 0, 1) := by decide +kernel
theorem dL_law_627 : decode cL_law 627 = .ok (.iload_n 3, 1) := by decide +kernel
theorem dL_law_628 : decode cL_law 628 = .ok (.iconst 1, 1) := by decide +kernel
theorem dL_law_629 : decode cL_law 629 = .ok (.iadd, 1) := by decide +kernel
theorem dL_law_630 : decode cL_law 630 = .ok (.iaload, 1) := by decide +kernel
theorem dL_law_631 : decode cL_law 631 = .ok (.invokevirtual 100, 3) := by decide +kernel
theorem dL_law_634 : decode cL_law 634 = .ok (.if_icmp .eq 18, 3) := by decide +kernel
theorem dL_law_637 : decode cL_law 637 = .ok (.iconst 0, 1) := by decide +kernel
theorem dL_law_638 : decode cL_law 638 = .ok (.ireturn, 1) := by decide +kernel
theorem dL_law_639 : decode cL_law 639 = .ok (.aload_n 1, 1) := by decide +kernel
theorem dL_law_640 : decode cL_law 640 = .ok (.invokevirtual 101, 3) := by decide +kernel
theorem dL_law_643 : decode cL_law 643 = .ok (.aload_n 2, 1) := by decide +kernel
theorem dL_law_644 : decode cL_law 644 = .ok (.invokevirtual 104, 3) := by decide +kernel
theorem dL_law_647 : decode cL_law 647 = .ok (.if_icmp .eq 5, 3) := by decide +kernel
theorem dL_law_650 : decode cL_law 650 = .ok (.iconst 0, 1) := by decide +kernel
theorem dL_law_651 : decode cL_law 651 = .ok (.ireturn, 1) := by decide +kernel
theorem dL_law_652 : decode cL_law 652 = .ok (.iinc 3 4, 3) := by decide +kernel
theorem dL_law_655 : decode cL_law 655 = .ok (.goto (-637), 3) := by decide +kernel
theorem dL_law_658 : decode cL_law 658 = .ok (.iconst 1, 1) := by decide +kernel
theorem dL_law_659 : decode cL_law 659 = .ok (.ireturn, 1) := by decide +kernel
