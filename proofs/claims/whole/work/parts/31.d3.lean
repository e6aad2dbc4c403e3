theorem dX9_init_0 : decode cX9_init 0 = .ok (.aload_n 0, 1) := by decide +kernel
theorem dX9_init_1 : decode cX9_init 1 = .ok (.invokespecial 1, 3) := by decide +kernel
theorem dX9_init_4 : decode cX9_init 4 = .ok (.aload_n 0, 1) := by decide +kernel
theorem dX9_init_5 : decode cX9_init 5 = .ok (.bipush 52, 2) := by decide +kernel
theorem dX9_init_7 : decode cX9_init 7 = .ok (.newarray .int, 2) := by decide +kernel
theorem dX9_init_9 : decode cX9_init 9 = .ok (.putfield 9, 3) := by decide +kernel
theorem dX9_init_12 : decode cX9_init 12 = .ok (.aload_n 0, 1) := by decide +kernel
theorem dX9_init_13 : decode cX9_init 13 = .ok (.bipush 52, 2) := by decide +kernel
theorem dX9_init_15 : decode cX9_init 15 = .ok (.newarray .int, 2) := by decide +kernel
theorem dX9_init_17 : decode cX9_init 17 = .ok (.putfield 13, 3) := by decide +kernel
theorem dX9_init_20 : decode cX9_init 20 = .ok (.aload_n 0, 1) := by decide +kernel
theorem dX9_init_21 : decode cX9_init 21 = .ok (.bipush 52, 2) := by decide +kernel
theorem dX9_init_23 : decode cX9_init 23 = .ok (.newarray .int, 2) := by decide +kernel
theorem dX9_init_25 : decode cX9_init 25 = .ok (.putfield 16, 3) := by decide +kernel
theorem dX9_init_28 : decode cX9_init 28 = .ok (.aload_n 0, 1) := by decide +kernel
theorem dX9_init_29 : decode cX9_init 29 = .ok (.bipush 52, 2) := by decide +kernel
theorem dX9_init_31 : decode cX9_init 31 = .ok (.newarray .int, 2) := by decide +kernel
theorem dX9_init_33 : decode cX9_init 33 = .ok (.putfield 19, 3) := by decide +kernel
theorem dX9_init_36 : decode cX9_init 36 = .ok (.aload_n 0, 1) := by decide +kernel
theorem dX9_init_37 : decode cX9_init 37 = .ok (.bipush 10, 2) := by decide +kernel
theorem dX9_init_39 : decode cX9_init 39 = .ok (.newarray .int, 2) := by decide +kernel
theorem dX9_init_41 : decode cX9_init 41 = .ok (.putfield 22, 3) := by decide +kernel
theorem dX9_init_44 : decode cX9_init 44 = .ok (.aload_n 0, 1) := by decide +kernel
theorem dX9_init_45 : decode cX9_init 45 = .ok (.bipush 10, 2) := by decide +kernel
theorem dX9_init_47 : decode cX9_init 47 = .ok (.newarray .int, 2) := by decide +kernel
theorem dX9_init_49 : decode cX9_init 49 = .ok (.putfield 25, 3) := by decide +kernel
theorem dX9_init_52 : decode cX9_init 52 = .ok (.aload_n 0, 1) := by decide +kernel
theorem dX9_init_53 : decode cX9_init 53 = .ok (.iconst 5, 1) := by decide +kernel
theorem dX9_init_54 : decode cX9_init 54 = .ok (.newarray .int, 2) := by decide +kernel
theorem dX9_init_56 : decode cX9_init 56 = .ok (.putfield 28, 3) := by decide +kernel
theorem dX9_init_59 : decode cX9_init 59 = .ok (.aload_n 0, 1) := by decide +kernel
theorem dX9_init_60 : decode cX9_init 60 = .ok (.bipush 8, 2) := by decide +kernel
theorem dX9_init_62 : decode cX9_init 62 = .ok (.newarray .int, 2) := by decide +kernel
theorem dX9_init_64 : decode cX9_init 64 = .ok (.putfield 31, 3) := by decide +kernel
theorem dX9_init_67 : decode cX9_init 67 = .ok (.aload_n 0, 1) := by decide +kernel
theorem dX9_init_68 : decode cX9_init 68 = .ok (.bipush 8, 2) := by decide +kernel
theorem dX9_init_70 : decode cX9_init 70 = .ok (.newarray .int, 2) := by decide +kernel
theorem dX9_init_72 : decode cX9_init 72 = .ok (.putfield 34, 3) := by decide +kernel
theorem dX9_init_75 : decode cX9_init 75 = .ok (.aload_n 0, 1) := by decide +kernel
theorem dX9_init_76 : decode cX9_init 76 = .ok (.bipush 8, 2) := by decide +kernel
theorem dX9_init_78 : decode cX9_init 78 = .ok (.newarray .int, 2) := by decide +kernel
theorem dX9_init_80 : decode cX9_init 80 = .ok (.putfield 37, 3) := by decide +kernel
theorem dX9_init_83 : decode cX9_init 83 = .ok (.aload_n 0, 1) := by decide +kernel
theorem dX9_init_84 : decode cX9_init 84 = .ok (.bipush 8, 2) := by decide +kernel
theorem dX9_init_86 : decode cX9_init 86 = .ok (.newarray .int, 2) := by decide +kernel
theorem dX9_init_88 : decode cX9_init 88 = .ok (.putfield 40, 3) := by decide +kernel
theorem dX9_init_91 : decode cX9_init 91 = .ok (.aload_n 0, 1) := by decide +kernel
theorem dX9_init_92 : decode cX9_init 92 = .ok (.bipush 8, 2) := by decide +kernel
theorem dX9_init_94 : decode cX9_init 94 = .ok (.newarray .int, 2) := by decide +kernel
theorem dX9_init_96 : decode cX9_init 96 = .ok (.putfield 43, 3) := by decide +kernel
theorem dX9_init_99 : decode cX9_init 99 = .ok (.aload_n 0, 1) := by decide +kernel
theorem dX9_init_100 : decode cX9_init 100 = .ok (.sipush 800, 3) := by decide +kernel
theorem dX9_init_103 : decode cX9_init 103 = .ok (.newarray .int, 2) := by decide +kernel
theorem dX9_init_105 : decode cX9_init 105 = .ok (.putfield 46, 3) := by decide +kernel
theorem dX9_init_108 : decode cX9_init 108 = .ok (.aload_n 0, 1) := by decide +kernel
theorem dX9_init_109 : decode cX9_init 109 = .ok (.getfield 9, 3) := by decide +kernel
theorem dX9_init_112 : decode cX9_init 112 = .ok (.iconst 1, 1) := by decide +kernel
theorem dX9_init_113 : decode cX9_init 113 = .ok (.sipush 365, 3) := by decide +kernel
theorem dX9_init_116 : decode cX9_init 116 = .ok (.iastore, 1) := by decide +kernel
theorem dX9_init_117 : decode cX9_init 117 = .ok (.return_, 1) := by decide +kernel
theorem dX9_isIn_0 : decode cX9_isIn 0 = .ok (.iload_n 0, 1) := by decide +kernel
theorem dX9_isIn_1 : decode cX9_isIn 1 = .ok (.iload_n 1, 1) := by decide +kernel
theorem dX9_isIn_2 : decode cX9_isIn 2 = .ok (.if_icmp .lt 12, 3) := by decide +kernel
theorem dX9_isIn_5 : decode cX9_isIn 5 = .ok (.iload_n 0, 1) := by decide +kernel
theorem dX9_isIn_6 : decode cX9_isIn 6 = .ok (.iload_n 2, 1) := by decide +kernel
theorem dX9_isIn_7 : decode cX9_isIn 7 = .ok (.if_icmp .gt 7, 3) := by decide +kernel
theorem dX9_isIn_10 : decode cX9_isIn 10 = .ok (.iconst 1, 1) := by decide +kernel
theorem dX9_isIn_11 : decode cX9_isIn 11 = .ok (.goto 4, 3) := by decide +kernel
theorem dX9_isIn_14 : decode cX9_isIn 14 = .ok (.iconst 0, 1) := by decide +kernel
theorem dX9_isIn_15 : decode cX9_isIn 15 = .ok (.ireturn, 1) := by decide +kernel
theorem dX9_least_0 : decode cX9_least 0 = .ok (.iload_n 0, 1) := by decide +kernel
theorem dX9_least_1 : decode cX9_least 1 = .ok (.iload_n 1, 1) := by decide +kernel
theorem dX9_least_2 : decode cX9_least 2 = .ok (.if_icmp .ge 7, 3) := by decide +kernel
theorem dX9_least_5 : decode cX9_least 5 = .ok (.iload_n 0, 1) := by decide +kernel
theorem dX9_least_6 : decode cX9_least 6 = .ok (.goto 4, 3) := by decide +kernel
theorem dX9_least_9 : decode cX9_least 9 = .ok (.iload_n 1, 1) := by decide +kernel
theorem dX9_least_10 : decode cX9_least 10 = .ok (.ireturn, 1) := by decide +kernel
theorem dX9_copies_0 : decode cX9_copies 0 = .ok (.iconst 0, 1) := by decide +kernel
theorem dX9_copies_1 : decode cX9_copies 1 = .ok (.istore_n 2, 1) := by decide +kernel
theorem dX9_copies_2 : decode cX9_copies 2 = .ok (.iload_n 2, 1) := by decide +kernel
theorem dX9_copies_3 : decode cX9_copies 3 = .ok (.bipush 52, 2) := by decide +kernel
theorem dX9_copies_5 : decode cX9_copies 5 = .ok (.if_icmp .ge 15, 3) := by decide +kernel
theorem dX9_copies_8 : decode cX9_copies 8 = .ok (.aload_n 1, 1) := by decide +kernel
theorem dX9_copies_9 : decode cX9_copies 9 = .ok (.iload_n 2, 1) := by decide +kernel
theorem dX9_copies_10 : decode cX9_copies 10 = .ok (.aload_n 0, 1) := by decide +kernel
theorem dX9_copies_11 : decode cX9_copies 11 = .ok (.iload_n 2, 1) := by decide +kernel
theorem dX9_copies_12 : decode cX9_copies 12 = .ok (.iaload, 1) := by decide +kernel
theorem dX9_copies_13 : decode cX9_copies 13 = .ok (.iastore, 1) := by decide +kernel
theorem dX9_copies_14 : decode cX9_copies 14 = .ok (.iinc 2 1, 3) := by decide +kernel
theorem dX9_copies_17 : decode cX9_copies 17 = .ok (.goto (-15), 3) := by decide +kernel
theorem dX9_copies_20 : decode cX9_copies 20 = .ok (.return_, 1) := by decide +kernel
theorem dX9_of_0 : decode cX9_of 0 = .ok (.iconst 2, 1) := by decide +kernel
theorem dX9_of_1 : decode cX9_of 1 = .ok (.iconst 5, 1) := by decide +kernel
theorem dX9_of_2 : decode cX9_of 2 = .ok (.iload_n 0, 1) := by decide +kernel
theorem dX9_of_3 : decode cX9_of 3 = .ok (.imul, 1) := by decide +kernel
theorem dX9_of_4 : decode cX9_of 4 = .ok (.iadd, 1) := by decide +kernel
theorem dX9_of_5 : decode cX9_of 5 = .ok (.iload_n 1, 1) := by decide +kernel
theorem dX9_of_6 : decode cX9_of 6 = .ok (.iadd, 1) := by decide +kernel
theorem dX9_of_7 : decode cX9_of 7 = .ok (.ireturn, 1) := by decide +kernel
theorem dX9_isDeed_0 : decode cX9_isDeed 0 = .ok (.iload_n 1, 1) := by decide +kernel
theorem dX9_isDeed_1 : decode cX9_isDeed 1 = .ok (.iconst 0, 1) := by decide +kernel
theorem dX9_isDeed_2 : decode cX9_isDeed 2 = .ok (.aload_n 0, 1) := by decide +kernel
theorem dX9_isDeed_3 : decode cX9_isDeed 3 = .ok (.getfield 9, 3) := by decide +kernel
theorem dX9_isDeed_6 : decode cX9_isDeed 6 = .ok (.iconst 0, 1) := by decide +kernel
theorem dX9_isDeed_7 : decode cX9_isDeed 7 = .ok (.iaload, 1) := by decide +kernel
theorem dX9_isDeed_8 : decode cX9_isDeed 8 = .ok (.iconst 1, 1) := by decide +kernel
theorem dX9_isDeed_9 : decode cX9_isDeed 9 = .ok (.isub, 1) := by decide +kernel
theorem dX9_isDeed_10 : decode cX9_isDeed 10 = .ok (.invokestatic 49, 3) := by decide +kernel
theorem dX9_isDeed_13 : decode cX9_isDeed 13 = .ok (.ireturn, 1) := by decide +kernel
theorem dX9_isPerson_0 : decode cX9_isPerson 0 = .ok (.iload_n 0, 1) := by decide +kernel
theorem dX9_isPerson_1 : decode cX9_isPerson 1 = .ok (.iconst 0, 1) := by decide +kernel
theorem dX9_isPerson_2 : decode cX9_isPerson 2 = .ok (.iconst 4, 1) := by decide +kernel
theorem dX9_isPerson_3 : decode cX9_isPerson 3 = .ok (.invokestatic 49, 3) := by decide +kernel
theorem dX9_isPerson_6 : decode cX9_isPerson 6 = .ok (.ireturn, 1) := by decide +kernel
theorem dX9_isDay_0 : decode cX9_isDay 0 = .ok (.iload_n 0, 1) := by decide +kernel
theorem dX9_isDay_1 : decode cX9_isDay 1 = .ok (.iconst 0, 1) := by decide +kernel
theorem dX9_isDay_2 : decode cX9_isDay 2 = .ok (.sipush 364, 3) := by decide +kernel
theorem dX9_isDay_5 : decode cX9_isDay 5 = .ok (.invokestatic 49, 3) := by decide +kernel
theorem dX9_isDay_8 : decode cX9_isDay 8 = .ok (.ireturn, 1) := by decide +kernel
theorem dX9_has_0 : decode cX9_has 0 = .ok (.iload_n 0, 1) := by decide +kernel
theorem dX9_has_1 : decode cX9_has 1 = .ok (.iload_n 1, 1) := by decide +kernel
theorem dX9_has_2 : decode cX9_has 2 = .ok (.ishr, 1) := by decide +kernel
theorem dX9_has_3 : decode cX9_has 3 = .ok (.iconst 1, 1) := by decide +kernel
theorem dX9_has_4 : decode cX9_has 4 = .ok (.iand, 1) := by decide +kernel
theorem dX9_has_5 : decode cX9_has 5 = .ok (.iconst 1, 1) := by decide +kernel
theorem dX9_has_6 : decode cX9_has 6 = .ok (.if_icmp .ne 7, 3) := by decide +kernel
theorem dX9_has_9 : decode cX9_has 9 = .ok (.iconst 1, 1) := by decide +kernel
theorem dX9_has_10 : decode cX9_has 10 = .ok (.goto 4, 3) := by decide +kernel
theorem dX9_has_13 : decode cX9_has 13 = .ok (.iconst 0, 1) := by decide +kernel
theorem dX9_has_14 : decode cX9_has 14 = .ok (.ireturn, 1) := by decide +kernel
theorem dX9_bits_0 : decode cX9_bits 0 = .ok (.iconst 0, 1) := by decide +kernel
theorem dX9_bits_1 : decode cX9_bits 1 = .ok (.istore_n 1, 1) := by decide +kernel
theorem dX9_bits_2 : decode cX9_bits 2 = .ok (.iconst 0, 1) := by decide +kernel
theorem dX9_bits_3 : decode cX9_bits 3 = .ok (.istore_n 2, 1) := by decide +kernel
theorem dX9_bits_4 : decode cX9_bits 4 = .ok (.iload_n 2, 1) := by decide +kernel
theorem dX9_bits_5 : decode cX9_bits 5 = .ok (.bipush 10, 2) := by decide +kernel
theorem dX9_bits_7 : decode cX9_bits 7 = .ok (.if_icmp .ge 17, 3) := by decide +kernel
theorem dX9_bits_10 : decode cX9_bits 10 = .ok (.iload_n 1, 1) := by decide +kernel
theorem dX9_bits_11 : decode cX9_bits 11 = .ok (.iload_n 0, 1) := by decide +kernel
theorem dX9_bits_12 : decode cX9_bits 12 = .ok (.iload_n 2, 1) := by decide +kernel
theorem dX9_bits_13 : decode cX9_bits 13 = .ok (.ishr, 1) := by decide +kernel
theorem dX9_bits_14 : decode cX9_bits 14 = .ok (.iconst 1, 1) := by decide +kernel
theorem dX9_bits_15 : decode cX9_bits 15 = .ok (.iand, 1) := by decide +kernel
theorem dX9_bits_16 : decode cX9_bits 16 = .ok (.iadd, 1) := by decide +kernel
theorem dX9_bits_17 : decode cX9_bits 17 = .ok (.istore_n 1, 1) := by decide +kernel
theorem dX9_bits_18 : decode cX9_bits 18 = .ok (.iinc 2 1, 3) := by decide +kernel
theorem dX9_bits_21 : decode cX9_bits 21 = .ok (.goto (-17), 3) := by decide +kernel
theorem dX9_bits_24 : decode cX9_bits 24 = .ok (.iload_n 1, 1) := by decide +kernel
theorem dX9_bits_25 : decode cX9_bits 25 = .ok (.ireturn, 1) := by decide +kernel
theorem dX9_lasts_0 : decode cX9_lasts 0 = .ok (.bipush 10, 2) := by decide +kernel
theorem dX9_lasts_2 : decode cX9_lasts 2 = .ok (.iload_n 1, 1) := by decide +kernel
theorem dX9_lasts_3 : decode cX9_lasts 3 = .ok (.iadd, 1) := by decide +kernel
theorem dX9_lasts_4 : decode cX9_lasts 4 = .ok (.istore_n 2, 1) := by decide +kernel
theorem dX9_lasts_5 : decode cX9_lasts 5 = .ok (.iload_n 0, 1) := by decide +kernel
theorem dX9_lasts_6 : decode cX9_lasts 6 = .ok (.tableswitch 74 1 7 #[42, 46, 50, 55, 57, 64, 68], 42) := by decide +kernel
theorem dX9_lasts_48 : decode cX9_lasts 48 = .ok (.iload_n 2, 1) := by decide +kernel
theorem dX9_lasts_49 : decode cX9_lasts 49 = .ok (.iconst 2, 1) := by decide +kernel
theorem dX9_lasts_50 : decode cX9_lasts 50 = .ok (.idiv, 1) := by decide +kernel
theorem dX9_lasts_51 : decode cX9_lasts 51 = .ok (.ireturn, 1) := by decide +kernel
theorem dX9_lasts_52 : decode cX9_lasts 52 = .ok (.iconst 4, 1) := by decide +kernel
theorem dX9_lasts_53 : decode cX9_lasts 53 = .ok (.iload_n 2, 1) := by decide +kernel
theorem dX9_lasts_54 : decode cX9_lasts 54 = .ok (.imul, 1) := by decide +kernel
theorem dX9_lasts_55 : decode cX9_lasts 55 = .ok (.ireturn, 1) := by decide +kernel
theorem dX9_lasts_56 : decode cX9_lasts 56 = .ok (.iload_n 2, 1) := by decide +kernel
theorem dX9_lasts_57 : decode cX9_lasts 57 = .ok (.bipush 30, 2) := by decide +kernel
theorem dX9_lasts_59 : decode cX9_lasts 59 = .ok (.iadd, 1) := by decide +kernel
theorem dX9_lasts_60 : decode cX9_lasts 60 = .ok (.ireturn, 1) := by decide +kernel
theorem dX9_lasts_61 : decode cX9_lasts 61 = .ok (.iload_n 1, 1) := by decide +kernel
theorem dX9_lasts_62 : decode cX9_lasts 62 = .ok (.ireturn, 1) := by decide +kernel
theorem dX9_lasts_63 : decode cX9_lasts 63 = .ok (.iload_n 2, 1) := by decide +kernel
theorem dX9_lasts_64 : decode cX9_lasts 64 = .ok (.iconst 2, 1) := by decide +kernel
theorem dX9_lasts_65 : decode cX9_lasts 65 = .ok (.idiv, 1) := by decide +kernel
theorem dX9_lasts_66 : decode cX9_lasts 66 = .ok (.bipush 20, 2) := by decide +kernel
theorem dX9_lasts_68 : decode cX9_lasts 68 = .ok (.iadd, 1) := by decide +kernel
theorem dX9_lasts_69 : decode cX9_lasts 69 = .ok (.ireturn, 1) := by decide +kernel
theorem dX9_lasts_70 : decode cX9_lasts 70 = .ok (.iconst 2, 1) := by decide +kernel
theorem dX9_lasts_71 : decode cX9_lasts 71 = .ok (.iload_n 2, 1) := by decide +kernel
theorem dX9_lasts_72 : decode cX9_lasts 72 = .ok (.imul, 1) := by decide +kernel
theorem dX9_lasts_73 : decode cX9_lasts 73 = .ok (.ireturn, 1) := by decide +kernel
theorem dX9_lasts_74 : decode cX9_lasts 74 = .ok (.iload_n 2, 1) := by decide +kernel
theorem dX9_lasts_75 : decode cX9_lasts 75 = .ok (.iconst 2, 1) := by decide +kernel
theorem dX9_lasts_76 : decode cX9_lasts 76 = .ok (.idiv, 1) := by decide +kernel
theorem dX9_lasts_77 : decode cX9_lasts 77 = .ok (.iconst 1, 1) := by decide +kernel
theorem dX9_lasts_78 : decode cX9_lasts 78 = .ok (.iadd, 1) := by decide +kernel
theorem dX9_lasts_79 : decode cX9_lasts 79 = .ok (.ireturn, 1) := by decide +kernel
theorem dX9_lasts_80 : decode cX9_lasts 80 = .ok (.iload_n 2, 1) := by decide +kernel
theorem dX9_lasts_81 : decode cX9_lasts 81 = .ok (.ireturn, 1) := by decide +kernel
theorem dX9_own_0 : decode cX9_own 0 = .ok (.iload_n 0, 1) := by decide +kernel
theorem dX9_own_1 : decode cX9_own 1 = .ok (.tableswitch 65 1 7 #[43, 51, 65, 65, 59, 63, 43], 43) := by decide +kernel
theorem dX9_own_44 : decode cX9_own 44 = .ok (.iconst 3, 1) := by decide +kernel
theorem dX9_own_45 : decode cX9_own 45 = .ok (.iload_n 0, 1) := by decide +kernel
theorem dX9_own_46 : decode cX9_own 46 = .ok (.iload_n 1, 1) := by decide +kernel
theorem dX9_own_47 : decode cX9_own 47 = .ok (.invokestatic 53, 3) := by decide +kernel
theorem dX9_own_50 : decode cX9_own 50 = .ok (.imul, 1) := by decide +kernel
theorem dX9_own_51 : decode cX9_own 51 = .ok (.ireturn, 1) := by decide +kernel
theorem dX9_own_52 : decode cX9_own 52 = .ok (.iload_n 0, 1) := by decide +kernel
theorem dX9_own_53 : decode cX9_own 53 = .ok (.iload_n 1, 1) := by decide +kernel
theorem dX9_own_54 : decode cX9_own 54 = .ok (.invokestatic 53, 3) := by decide +kernel
theorem dX9_own_57 : decode cX9_own 57 = .ok (.iconst 2, 1) := by decide +kernel
theorem dX9_own_58 : decode cX9_own 58 = .ok (.idiv, 1) := by decide +kernel
theorem dX9_own_59 : decode cX9_own 59 = .ok (.ireturn, 1) := by decide +kernel
theorem dX9_own_60 : decode cX9_own 60 = .ok (.sipush 365, 3) := by decide +kernel
theorem dX9_own_63 : decode cX9_own 63 = .ok (.ireturn, 1) := by decide +kernel
theorem dX9_own_64 : decode cX9_own 64 = .ok (.iconst 0, 1) := by decide +kernel
theorem dX9_own_65 : decode cX9_own 65 = .ok (.ireturn, 1) := by decide +kernel
theorem dX9_own_66 : decode cX9_own 66 = .ok (.iload_n 0, 1) := by decide +kernel
theorem dX9_own_67 : decode cX9_own 67 = .ok (.iload_n 1, 1) := by decide +kernel
theorem dX9_own_68 : decode cX9_own 68 = .ok (.invokestatic 53, 3) := by decide +kernel
theorem dX9_own_71 : decode cX9_own 71 = .ok (.ireturn, 1) := by decide +kernel
theorem dX9_points_0 : decode cX9_points 0 = .ok (.iload_n 0, 1) := by decide +kernel
theorem dX9_points_1 : decode cX9_points 1 = .ok (.tableswitch 53 1 7 #[43, 46, 53, 49, 46, 46, 51], 43) := by decide +kernel
theorem dX9_points_44 : decode cX9_points 44 = .ok (.bipush 6, 2) := by decide +kernel
theorem dX9_points_46 : decode cX9_points 46 = .ok (.ireturn, 1) := by decide +kernel
theorem dX9_points_47 : decode cX9_points 47 = .ok (.bipush 12, 2) := by decide +kernel
theorem dX9_points_49 : decode cX9_points 49 = .ok (.ireturn, 1) := by decide +kernel
theorem dX9_points_50 : decode cX9_points 50 = .ok (.iload_n 1, 1) := by decide +kernel
theorem dX9_points_51 : decode cX9_points 51 = .ok (.ireturn, 1) := by decide +kernel
theorem dX9_points_52 : decode cX9_points 52 = .ok (.iconst 5, 1) := by decide +kernel
theorem dX9_points_53 : decode cX9_points 53 = .ok (.ireturn, 1) := by decide +kernel
theorem dX9_points_54 : decode cX9_points 54 = .ok (.bipush 10, 2) := by decide +kernel
theorem dX9_points_56 : decode cX9_points 56 = .ok (.ireturn, 1) := by decide +kernel
theorem dX9_guiltBy_0 : decode cX9_guiltBy 0 = .ok (.iload_n 0, 1) := by decide +kernel
theorem dX9_guiltBy_1 : decode cX9_guiltBy 1 = .ok (.tableswitch 58 1 7 #[43, 45, 58, 58, 49, 52, 43], 43) := by decide +kernel
theorem dX9_guiltBy_44 : decode cX9_guiltBy 44 = .ok (.iconst (-1), 1) := by decide +kernel
theorem dX9_guiltBy_45 : decode cX9_guiltBy 45 = .ok (.ireturn, 1) := by decide +kernel
theorem dX9_guiltBy_46 : decode cX9_guiltBy 46 = .ok (.iload_n 1, 1) := by decide +kernel
theorem dX9_guiltBy_47 : decode cX9_guiltBy 47 = .ok (.iconst 1, 1) := by decide +kernel
theorem dX9_guiltBy_48 : decode cX9_guiltBy 48 = .ok (.iadd, 1) := by decide +kernel
theorem dX9_guiltBy_49 : decode cX9_guiltBy 49 = .ok (.ireturn, 1) := by decide +kernel
theorem dX9_guiltBy_50 : decode cX9_guiltBy 50 = .ok (.bipush (-3), 2) := by decide +kernel
theorem dX9_guiltBy_52 : decode cX9_guiltBy 52 = .ok (.ireturn, 1) := by decide +kernel
theorem dX9_guiltBy_53 : decode cX9_guiltBy 53 = .ok (.iconst 2, 1) := by decide +kernel
theorem dX9_guiltBy_54 : decode cX9_guiltBy 54 = .ok (.iload_n 1, 1) := by decide +kernel
theorem dX9_guiltBy_55 : decode cX9_guiltBy 55 = .ok (.iconst 1, 1) := by decide +kernel
theorem dX9_guiltBy_56 : decode cX9_guiltBy 56 = .ok (.iadd, 1) := by decide +kernel
theorem dX9_guiltBy_57 : decode cX9_guiltBy 57 = .ok (.imul, 1) := by decide +kernel
theorem dX9_guiltBy_58 : decode cX9_guiltBy 58 = .ok (.ireturn, 1) := by decide +kernel
theorem dX9_guiltBy_59 : decode cX9_guiltBy 59 = .ok (.iconst 0, 1) := by decide +kernel
theorem dX9_guiltBy_60 : decode cX9_guiltBy 60 = .ok (.ireturn, 1) := by decide +kernel
theorem dX9_sizeOf_0 : decode cX9_sizeOf 0 = .ok (.aload_n 0, 1) := by decide +kernel
theorem dX9_sizeOf_1 : decode cX9_sizeOf 1 = .ok (.iload_n 1, 1) := by decide +kernel
theorem dX9_sizeOf_2 : decode cX9_sizeOf 2 = .ok (.iconst 0, 1) := by decide +kernel
theorem dX9_sizeOf_3 : decode cX9_sizeOf 3 = .ok (.invokestatic 57, 3) := by decide +kernel
theorem dX9_sizeOf_6 : decode cX9_sizeOf 6 = .ok (.iaload, 1) := by decide +kernel
theorem dX9_sizeOf_7 : decode cX9_sizeOf 7 = .ok (.aload_n 0, 1) := by decide +kernel
theorem dX9_sizeOf_8 : decode cX9_sizeOf 8 = .ok (.iload_n 1, 1) := by decide +kernel
theorem dX9_sizeOf_9 : decode cX9_sizeOf 9 = .ok (.iconst 1, 1) := by decide +kernel
theorem dX9_sizeOf_10 : decode cX9_sizeOf 10 = .ok (.invokestatic 57, 3) := by decide +kernel
theorem dX9_sizeOf_13 : decode cX9_sizeOf 13 = .ok (.iaload, 1) := by decide +kernel
theorem dX9_sizeOf_14 : decode cX9_sizeOf 14 = .ok (.invokestatic 60, 3) := by decide +kernel
theorem dX9_sizeOf_17 : decode cX9_sizeOf 17 = .ok (.ireturn, 1) := by decide +kernel
theorem dX9_isTold_0 : decode cX9_isTold 0 = .ok (.aload_n 0, 1) := by decide +kernel
theorem dX9_isTold_1 : decode cX9_isTold 1 = .ok (.iload_n 1, 1) := by decide +kernel
theorem dX9_isTold_2 : decode cX9_isTold 2 = .ok (.iconst 2, 1) := by decide +kernel
theorem dX9_isTold_3 : decode cX9_isTold 3 = .ok (.invokestatic 57, 3) := by decide +kernel
theorem dX9_isTold_6 : decode cX9_isTold 6 = .ok (.iaload, 1) := by decide +kernel
theorem dX9_isTold_7 : decode cX9_isTold 7 = .ok (.aload_n 0, 1) := by decide +kernel
theorem dX9_isTold_8 : decode cX9_isTold 8 = .ok (.iconst 1, 1) := by decide +kernel
theorem dX9_isTold_9 : decode cX9_isTold 9 = .ok (.iaload, 1) := by decide +kernel
theorem dX9_isTold_10 : decode cX9_isTold 10 = .ok (.if_icmp .gt 7, 3) := by decide +kernel
theorem dX9_isTold_13 : decode cX9_isTold 13 = .ok (.iconst 1, 1) := by decide +kernel
theorem dX9_isTold_14 : decode cX9_isTold 14 = .ok (.goto 4, 3) := by decide +kernel
theorem dX9_isTold_17 : decode cX9_isTold 17 = .ok (.iconst 0, 1) := by decide +kernel
theorem dX9_isTold_18 : decode cX9_isTold 18 = .ok (.ireturn, 1) := by decide +kernel
theorem dX9_wasThere_0 : decode cX9_wasThere 0 = .ok (.aload_n 0, 1) := by decide +kernel
theorem dX9_wasThere_1 : decode cX9_wasThere 1 = .ok (.iload_n 2, 1) := by decide +kernel
theorem dX9_wasThere_2 : decode cX9_wasThere 2 = .ok (.iconst 3, 1) := by decide +kernel
theorem dX9_wasThere_3 : decode cX9_wasThere 3 = .ok (.invokestatic 57, 3) := by decide +kernel
theorem dX9_wasThere_6 : decode cX9_wasThere 6 = .ok (.iaload, 1) := by decide +kernel
theorem dX9_wasThere_7 : decode cX9_wasThere 7 = .ok (.iload_n 1, 1) := by decide +kernel
theorem dX9_wasThere_8 : decode cX9_wasThere 8 = .ok (.if_icmp .eq 17, 3) := by decide +kernel
theorem dX9_wasThere_11 : decode cX9_wasThere 11 = .ok (.aload_n 0, 1) := by decide +kernel
theorem dX9_wasThere_12 : decode cX9_wasThere 12 = .ok (.iload_n 2, 1) := by decide +kernel
theorem dX9_wasThere_13 : decode cX9_wasThere 13 = .ok (.iconst 4, 1) := by decide +kernel
theorem dX9_wasThere_14 : decode cX9_wasThere 14 = .ok (.invokestatic 57, 3) := by decide +kernel
theorem dX9_wasThere_17 : decode cX9_wasThere 17 = .ok (.iaload, 1) := by decide +kernel
theorem dX9_wasThere_18 : decode cX9_wasThere 18 = .ok (.iload_n 1, 1) := by decide +kernel
theorem dX9_wasThere_19 : decode cX9_wasThere 19 = .ok (.invokestatic 63, 3) := by decide +kernel
theorem dX9_wasThere_22 : decode cX9_wasThere 22 = .ok (.ifCond .eq 7, 3) := by decide +kernel
theorem dX9_wasThere_25 : decode cX9_wasThere 25 = .ok (.iconst 1, 1) := by decide +kernel
theorem dX9_wasThere_26 : decode cX9_wasThere 26 = .ok (.goto 4, 3) := by decide +kernel
theorem dX9_wasThere_29 : decode cX9_wasThere 29 = .ok (.iconst 0, 1) := by decide +kernel
theorem dX9_wasThere_30 : decode cX9_wasThere 30 = .ok (.ireturn, 1) := by decide +kernel
theorem dX9_hasIt_0 : decode cX9_hasIt 0 = .ok (.aload_n 0, 1) := by decide +kernel
theorem dX9_hasIt_1 : decode cX9_hasIt 1 = .ok (.iload_n 2, 1) := by decide +kernel
theorem dX9_hasIt_2 : decode cX9_hasIt 2 = .ok (.invokestatic 67, 3) := by decide +kernel
theorem dX9_hasIt_5 : decode cX9_hasIt 5 = .ok (.ifCond .eq 12, 3) := by decide +kernel
theorem dX9_hasIt_8 : decode cX9_hasIt 8 = .ok (.aload_n 0, 1) := by decide +kernel
theorem dX9_hasIt_9 : decode cX9_hasIt 9 = .ok (.iload_n 1, 1) := by decide +kernel
theorem dX9_hasIt_10 : decode cX9_hasIt 10 = .ok (.iload_n 2, 1) := by decide +kernel
theorem dX9_hasIt_11 : decode cX9_hasIt 11 = .ok (.invokestatic 71, 3) := by decide +kernel
theorem dX9_hasIt_14 : decode cX9_hasIt 14 = .ok (.ifCond .ne 5, 3) := by decide +kernel
theorem dX9_hasIt_17 : decode cX9_hasIt 17 = .ok (.iconst 0, 1) := by decide +kernel
theorem dX9_hasIt_18 : decode cX9_hasIt 18 = .ok (.ireturn, 1) := by decide +kernel
theorem dX9_hasIt_19 : decode cX9_hasIt 19 = .ok (.aload_n 0, 1) := by decide +kernel
theorem dX9_hasIt_20 : decode cX9_hasIt 20 = .ok (.iload_n 2, 1) := by decide +kernel
theorem dX9_hasIt_21 : decode cX9_hasIt 21 = .ok (.iconst 0, 1) := by decide +kernel
theorem dX9_hasIt_22 : decode cX9_hasIt 22 = .ok (.invokestatic 57, 3) := by decide +kernel
theorem dX9_hasIt_25 : decode cX9_hasIt 25 = .ok (.iaload, 1) := by decide +kernel
theorem dX9_hasIt_26 : decode cX9_hasIt 26 = .ok (.istore_n 3, 1) := by decide +kernel
theorem dX9_hasIt_27 : decode cX9_hasIt 27 = .ok (.aload_n 0, 1) := by decide +kernel
theorem dX9_hasIt_28 : decode cX9_hasIt 28 = .ok (.iload_n 2, 1) := by decide +kernel
theorem dX9_hasIt_29 : decode cX9_hasIt 29 = .ok (.iconst 1, 1) := by decide +kernel
theorem dX9_hasIt_30 : decode cX9_hasIt 30 = .ok (.invokestatic 57, 3) := by decide +kernel
theorem dX9_hasIt_33 : decode cX9_hasIt 33 = .ok (.iaload, 1) := by decide +kernel
theorem dX9_hasIt_34 : decode cX9_hasIt 34 = .ok (.istore 4, 2) := by decide +kernel
theorem dX9_hasIt_36 : decode cX9_hasIt 36 = .ok (.aload_n 0, 1) := by decide +kernel
theorem dX9_hasIt_37 : decode cX9_hasIt 37 = .ok (.iconst 1, 1) := by decide +kernel
theorem dX9_hasIt_38 : decode cX9_hasIt 38 = .ok (.iaload, 1) := by decide +kernel
theorem dX9_hasIt_39 : decode cX9_hasIt 39 = .ok (.aload_n 0, 1) := by decide +kernel
theorem dX9_hasIt_40 : decode cX9_hasIt 40 = .ok (.iload_n 2, 1) := by decide +kernel
theorem dX9_hasIt_41 : decode cX9_hasIt 41 = .ok (.iconst 2, 1) := by decide +kernel
theorem dX9_hasIt_42 : decode cX9_hasIt 42 = .ok (.invokestatic 57, 3) := by decide +kernel
theorem dX9_hasIt_45 : decode cX9_hasIt 45 = .ok (.iaload, 1) := by decide +kernel
theorem dX9_hasIt_46 : decode cX9_hasIt 46 = .ok (.isub, 1) := by decide +kernel
theorem dX9_hasIt_47 : decode cX9_hasIt 47 = .ok (.aload_n 0, 1) := by decide +kernel
theorem dX9_hasIt_48 : decode cX9_hasIt 48 = .ok (.iload_n 2, 1) := by decide +kernel
theorem dX9_hasIt_49 : decode cX9_hasIt 49 = .ok (.iconst 3, 1) := by decide +kernel
theorem dX9_hasIt_50 : decode cX9_hasIt 50 = .ok (.invokestatic 57, 3) := by decide +kernel
theorem dX9_hasIt_53 : decode cX9_hasIt 53 = .ok (.iaload, 1) := by decide +kernel
theorem dX9_hasIt_54 : decode cX9_hasIt 54 = .ok (.iload_n 1, 1) := by decide +kernel
theorem dX9_hasIt_55 : decode cX9_hasIt 55 = .ok (.if_icmp .ne 12, 3) := by decide +kernel
theorem dX9_hasIt_58 : decode cX9_hasIt 58 = .ok (.iload_n 3, 1) := by decide +kernel
theorem dX9_hasIt_59 : decode cX9_hasIt 59 = .ok (.iload 4, 2) := by decide +kernel
theorem dX9_hasIt_61 : decode cX9_hasIt 61 = .ok (.invokestatic 75, 3) := by decide +kernel
theorem dX9_hasIt_64 : decode cX9_hasIt 64 = .ok (.goto 9, 3) := by decide +kernel
theorem dX9_hasIt_67 : decode cX9_hasIt 67 = .ok (.iload_n 3, 1) := by decide +kernel
theorem dX9_hasIt_68 : decode cX9_hasIt 68 = .ok (.iload 4, 2) := by decide +kernel
theorem dX9_hasIt_70 : decode cX9_hasIt 70 = .ok (.invokestatic 53, 3) := by decide +kernel
theorem dX9_hasIt_73 : decode cX9_hasIt 73 = .ok (.if_icmp .gt 7, 3) := by decide +kernel
theorem dX9_hasIt_76 : decode cX9_hasIt 76 = .ok (.iconst 1, 1) := by decide +kernel
theorem dX9_hasIt_77 : decode cX9_hasIt 77 = .ok (.goto 4, 3) := by decide +kernel
theorem dX9_hasIt_80 : decode cX9_hasIt 80 = .ok (.iconst 0, 1) := by decide +kernel
theorem dX9_hasIt_81 : decode cX9_hasIt 81 = .ok (.ireturn, 1) := by decide +kernel
theorem dX9_whoHas_0 : decode cX9_whoHas 0 = .ok (.iconst 0, 1) := by decide +kernel
theorem dX9_whoHas_1 : decode cX9_whoHas 1 = .ok (.istore_n 2, 1) := by decide +kernel
theorem dX9_whoHas_2 : decode cX9_whoHas 2 = .ok (.iconst 0, 1) := by decide +kernel
theorem dX9_whoHas_3 : decode cX9_whoHas 3 = .ok (.istore_n 3, 1) := by decide +kernel
theorem dX9_whoHas_4 : decode cX9_whoHas 4 = .ok (.iload_n 3, 1) := by decide +kernel
theorem dX9_whoHas_5 : decode cX9_whoHas 5 = .ok (.iconst 5, 1) := by decide +kernel
theorem dX9_whoHas_6 : decode cX9_whoHas 6 = .ok (.if_icmp .ge 28, 3) := by decide +kernel
theorem dX9_whoHas_9 : decode cX9_whoHas 9 = .ok (.iload_n 2, 1) := by decide +kernel
theorem dX9_whoHas_10 : decode cX9_whoHas 10 = .ok (.aload_n 0, 1) := by decide +kernel
theorem dX9_whoHas_11 : decode cX9_whoHas 11 = .ok (.iload_n 3, 1) := by decide +kernel
theorem dX9_whoHas_12 : decode cX9_whoHas 12 = .ok (.iload_n 1, 1) := by decide +kernel
theorem dX9_whoHas_13 : decode cX9_whoHas 13 = .ok (.invokestatic 78, 3) := by decide +kernel
theorem dX9_whoHas_16 : decode cX9_whoHas 16 = .ok (.ifCond .eq 9, 3) := by decide +kernel
theorem dX9_whoHas_19 : decode cX9_whoHas 19 = .ok (.iconst 1, 1) := by decide +kernel
theorem dX9_whoHas_20 : decode cX9_whoHas 20 = .ok (.iload_n 3, 1) := by decide +kernel
theorem dX9_whoHas_21 : decode cX9_whoHas 21 = .ok (.ishl, 1) := by decide +kernel
theorem dX9_whoHas_22 : decode cX9_whoHas 22 = .ok (.goto 4, 3) := by decide +kernel
theorem dX9_whoHas_25 : decode cX9_whoHas 25 = .ok (.iconst 0, 1) := by decide +kernel
theorem dX9_whoHas_26 : decode cX9_whoHas 26 = .ok (.ior, 1) := by decide +kernel
theorem dX9_whoHas_27 : decode cX9_whoHas 27 = .ok (.istore_n 2, 1) := by decide +kernel
theorem dX9_whoHas_28 : decode cX9_whoHas 28 = .ok (.iinc 3 1, 3) := by decide +kernel
theorem dX9_whoHas_31 : decode cX9_whoHas 31 = .ok (.goto (-27), 3) := by decide +kernel
theorem dX9_whoHas_34 : decode cX9_whoHas 34 = .ok (.iload_n 2, 1) := by decide +kernel
theorem dX9_whoHas_35 : decode cX9_whoHas 35 = .ok (.ireturn, 1) := by decide +kernel
theorem dX9_knowsIn_0 : decode cX9_knowsIn 0 = .ok (.iconst 0, 1) := by decide +kernel
theorem dX9_knowsIn_1 : decode cX9_knowsIn 1 = .ok (.istore_n 2, 1) := by decide +kernel
theorem dX9_knowsIn_2 : decode cX9_knowsIn 2 = .ok (.iconst 0, 1) := by decide +kernel
theorem dX9_knowsIn_3 : decode cX9_knowsIn 3 = .ok (.istore_n 3, 1) := by decide +kernel
theorem dX9_knowsIn_4 : decode cX9_knowsIn 4 = .ok (.iload_n 3, 1) := by decide +kernel
theorem dX9_knowsIn_5 : decode cX9_knowsIn 5 = .ok (.aload_n 0, 1) := by decide +kernel
theorem dX9_knowsIn_6 : decode cX9_knowsIn 6 = .ok (.iconst 0, 1) := by decide +kernel
theorem dX9_knowsIn_7 : decode cX9_knowsIn 7 = .ok (.iaload, 1) := by decide +kernel
theorem dX9_knowsIn_8 : decode cX9_knowsIn 8 = .ok (.if_icmp .ge 28, 3) := by decide +kernel
theorem dX9_knowsIn_11 : decode cX9_knowsIn 11 = .ok (.iload_n 2, 1) := by decide +kernel
theorem dX9_knowsIn_12 : decode cX9_knowsIn 12 = .ok (.aload_n 0, 1) := by decide +kernel
theorem dX9_knowsIn_13 : decode cX9_knowsIn 13 = .ok (.iload_n 1, 1) := by decide +kernel
theorem dX9_knowsIn_14 : decode cX9_knowsIn 14 = .ok (.iload_n 3, 1) := by decide +kernel
theorem dX9_knowsIn_15 : decode cX9_knowsIn 15 = .ok (.invokestatic 78, 3) := by decide +kernel
theorem dX9_knowsIn_18 : decode cX9_knowsIn 18 = .ok (.ifCond .eq 9, 3) := by decide +kernel
theorem dX9_knowsIn_21 : decode cX9_knowsIn 21 = .ok (.iconst 1, 1) := by decide +kernel
theorem dX9_knowsIn_22 : decode cX9_knowsIn 22 = .ok (.iload_n 3, 1) := by decide +kernel
theorem dX9_knowsIn_23 : decode cX9_knowsIn 23 = .ok (.ishl, 1) := by decide +kernel
theorem dX9_knowsIn_24 : decode cX9_knowsIn 24 = .ok (.goto 4, 3) := by decide +kernel
theorem dX9_knowsIn_27 : decode cX9_knowsIn 27 = .ok (.iconst 0, 1) := by decide +kernel
theorem dX9_knowsIn_28 : decode cX9_knowsIn 28 = .ok (.ior, 1) := by decide +kernel
theorem dX9_knowsIn_29 : decode cX9_knowsIn 29 = .ok (.istore_n 2, 1) := by decide +kernel
theorem dX9_knowsIn_30 : decode cX9_knowsIn 30 = .ok (.iinc 3 1, 3) := by decide +kernel
theorem dX9_knowsIn_33 : decode cX9_knowsIn 33 = .ok (.goto (-29), 3) := by decide +kernel
theorem dX9_knowsIn_36 : decode cX9_knowsIn 36 = .ok (.iload_n 2, 1) := by decide +kernel
theorem dX9_knowsIn_37 : decode cX9_knowsIn 37 = .ok (.ireturn, 1) := by decide +kernel
theorem dX9_isAhead_0 : decode cX9_isAhead 0 = .ok (.aload_n 0, 1) := by decide +kernel
theorem dX9_isAhead_1 : decode cX9_isAhead 1 = .ok (.getfield 9, 3) := by decide +kernel
theorem dX9_isAhead_4 : decode cX9_isAhead 4 = .ok (.iload_n 1, 1) := by decide +kernel
theorem dX9_isAhead_5 : decode cX9_isAhead 5 = .ok (.iconst 2, 1) := by decide +kernel
theorem dX9_isAhead_6 : decode cX9_isAhead 6 = .ok (.invokestatic 57, 3) := by decide +kernel
theorem dX9_isAhead_9 : decode cX9_isAhead 9 = .ok (.iaload, 1) := by decide +kernel
theorem dX9_isAhead_10 : decode cX9_isAhead 10 = .ok (.aload_n 0, 1) := by decide +kernel
theorem dX9_isAhead_11 : decode cX9_isAhead 11 = .ok (.getfield 9, 3) := by decide +kernel
theorem dX9_isAhead_14 : decode cX9_isAhead 14 = .ok (.iload_n 2, 1) := by decide +kernel
theorem dX9_isAhead_15 : decode cX9_isAhead 15 = .ok (.iconst 2, 1) := by decide +kernel
theorem dX9_isAhead_16 : decode cX9_isAhead 16 = .ok (.invokestatic 57, 3) := by decide +kernel
theorem dX9_isAhead_19 : decode cX9_isAhead 19 = .ok (.iaload, 1) := by decide +kernel
theorem dX9_isAhead_20 : decode cX9_isAhead 20 = .ok (.if_icmp .eq 32, 3) := by decide +kernel
theorem dX9_isAhead_23 : decode cX9_isAhead 23 = .ok (.aload_n 0, 1) := by decide +kernel
theorem dX9_isAhead_24 : decode cX9_isAhead 24 = .ok (.getfield 9, 3) := by decide +kernel
theorem dX9_isAhead_27 : decode cX9_isAhead 27 = .ok (.iload_n 1, 1) := by decide +kernel
theorem dX9_isAhead_28 : decode cX9_isAhead 28 = .ok (.iconst 2, 1) := by decide +kernel
theorem dX9_isAhead_29 : decode cX9_isAhead 29 = .ok (.invokestatic 57, 3) := by decide +kernel
theorem dX9_isAhead_32 : decode cX9_isAhead 32 = .ok (.iaload, 1) := by decide +kernel
theorem dX9_isAhead_33 : decode cX9_isAhead 33 = .ok (.aload_n 0, 1) := by decide +kernel
theorem dX9_isAhead_34 : decode cX9_isAhead 34 = .ok (.getfield 9, 3) := by decide +kernel
theorem dX9_isAhead_37 : decode cX9_isAhead 37 = .ok (.iload_n 2, 1) := by decide +kernel
theorem dX9_isAhead_38 : decode cX9_isAhead 38 = .ok (.iconst 2, 1) := by decide +kernel
theorem dX9_isAhead_39 : decode cX9_isAhead 39 = .ok (.invokestatic 57, 3) := by decide +kernel
theorem dX9_isAhead_42 : decode cX9_isAhead 42 = .ok (.iaload, 1) := by decide +kernel
theorem dX9_isAhead_43 : decode cX9_isAhead 43 = .ok (.if_icmp .ge 7, 3) := by decide +kernel
theorem dX9_isAhead_46 : decode cX9_isAhead 46 = .ok (.iconst 1, 1) := by decide +kernel
theorem dX9_isAhead_47 : decode cX9_isAhead 47 = .ok (.goto 4, 3) := by decide +kernel
theorem dX9_isAhead_50 : decode cX9_isAhead 50 = .ok (.iconst 0, 1) := by decide +kernel
theorem dX9_isAhead_51 : decode cX9_isAhead 51 = .ok (.ireturn, 1) := by decide +kernel
theorem dX9_isAhead_52 : decode cX9_isAhead 52 = .ok (.aload_n 0, 1) := by decide +kernel
theorem dX9_isAhead_53 : decode cX9_isAhead 53 = .ok (.getfield 9, 3) := by decide +kernel
theorem dX9_isAhead_56 : decode cX9_isAhead 56 = .ok (.iload_n 1, 1) := by decide +kernel
theorem dX9_isAhead_57 : decode cX9_isAhead 57 = .ok (.invokestatic 81, 3) := by decide +kernel
theorem dX9_isAhead_60 : decode cX9_isAhead 60 = .ok (.aload_n 0, 1) := by decide +kernel
theorem dX9_isAhead_61 : decode cX9_isAhead 61 = .ok (.getfield 9, 3) := by decide +kernel
theorem dX9_isAhead_64 : decode cX9_isAhead 64 = .ok (.iload_n 2, 1) := by decide +kernel
theorem dX9_isAhead_65 : decode cX9_isAhead 65 = .ok (.invokestatic 81, 3) := by decide +kernel
theorem dX9_isAhead_68 : decode cX9_isAhead 68 = .ok (.if_icmp .eq 30, 3) := by decide +kernel
theorem dX9_isAhead_71 : decode cX9_isAhead 71 = .ok (.aload_n 0, 1) := by decide +kernel
theorem dX9_isAhead_72 : decode cX9_isAhead 72 = .ok (.getfield 9, 3) := by decide +kernel
theorem dX9_isAhead_75 : decode cX9_isAhead 75 = .ok (.iload_n 1, 1) := by decide +kernel
theorem dX9_isAhead_76 : decode cX9_isAhead 76 = .ok (.invokestatic 81, 3) := by decide +kernel
theorem dX9_isAhead_79 : decode cX9_isAhead 79 = .ok (.aload_n 0, 1) := by decide +kernel
theorem dX9_isAhead_80 : decode cX9_isAhead 80 = .ok (.getfield 9, 3) := by decide +kernel
theorem dX9_isAhead_83 : decode cX9_isAhead 83 = .ok (.iload_n 2, 1) := by decide +kernel
theorem dX9_isAhead_84 : decode cX9_isAhead 84 = .ok (.invokestatic 81, 3) := by decide +kernel
theorem dX9_isAhead_87 : decode cX9_isAhead 87 = .ok (.if_icmp .le 7, 3) := by decide +kernel
theorem dX9_isAhead_90 : decode cX9_isAhead 90 = .ok (.iconst 1, 1) := by decide +kernel
theorem dX9_isAhead_91 : decode cX9_isAhead 91 = .ok (.goto 17, 3) := by decide +kernel
theorem dX9_isAhead_94 : decode cX9_isAhead 94 = .ok (.iconst 0, 1) := by decide +kernel
theorem dX9_isAhead_95 : decode cX9_isAhead 95 = .ok (.goto 13, 3) := by decide +kernel
theorem dX9_isAhead_98 : decode cX9_isAhead 98 = .ok (.iload_n 1, 1) := by decide +kernel
theorem dX9_isAhead_99 : decode cX9_isAhead 99 = .ok (.iload_n 2, 1) := by decide +kernel
theorem dX9_isAhead_100 : decode cX9_isAhead 100 = .ok (.if_icmp .ge 7, 3) := by decide +kernel
theorem dX9_isAhead_103 : decode cX9_isAhead 103 = .ok (.iconst 1, 1) := by decide +kernel
theorem dX9_isAhead_104 : decode cX9_isAhead 104 = .ok (.goto 4, 3) := by decide +kernel
theorem dX9_isAhead_107 : decode cX9_isAhead 107 = .ok (.iconst 0, 1) := by decide +kernel
theorem dX9_isAhead_108 : decode cX9_isAhead 108 = .ok (.ireturn, 1) := by decide +kernel
theorem dX9_prints_0 : decode cX9_prints 0 = .ok (.aload_n 0, 1) := by decide +kernel
theorem dX9_prints_1 : decode cX9_prints 1 = .ok (.iconst 0, 1) := by decide +kernel
theorem dX9_prints_2 : decode cX9_prints 2 = .ok (.putfield 85, 3) := by decide +kernel
theorem dX9_prints_5 : decode cX9_prints 5 = .ok (.iconst 0, 1) := by decide +kernel
theorem dX9_prints_6 : decode cX9_prints 6 = .ok (.istore_n 1, 1) := by decide +kernel
theorem dX9_prints_7 : decode cX9_prints 7 = .ok (.iload_n 1, 1) := by decide +kernel
theorem dX9_prints_8 : decode cX9_prints 8 = .ok (.aload_n 0, 1) := by decide +kernel
theorem dX9_prints_9 : decode cX9_prints 9 = .ok (.getfield 9, 3) := by decide +kernel
theorem dX9_prints_12 : decode cX9_prints 12 = .ok (.iconst 0, 1) := by decide +kernel
theorem dX9_prints_13 : decode cX9_prints 13 = .ok (.iaload, 1) := by decide +kernel
theorem dX9_prints_14 : decode cX9_prints 14 = .ok (.if_icmp .ge 85, 3) := by decide +kernel
theorem dX9_prints_17 : decode cX9_prints 17 = .ok (.aload_n 0, 1) := by decide +kernel
theorem dX9_prints_18 : decode cX9_prints 18 = .ok (.getfield 9, 3) := by decide +kernel
theorem dX9_prints_21 : decode cX9_prints 21 = .ok (.iload_n 1, 1) := by decide +kernel
theorem dX9_prints_22 : decode cX9_prints 22 = .ok (.invokestatic 67, 3) := by decide +kernel
theorem dX9_prints_25 : decode cX9_prints 25 = .ok (.ifCond .ne 6, 3) := by decide +kernel
theorem dX9_prints_28 : decode cX9_prints 28 = .ok (.goto 65, 3) := by decide +kernel
theorem dX9_prints_31 : decode cX9_prints 31 = .ok (.aload_n 0, 1) := by decide +kernel
theorem dX9_prints_32 : decode cX9_prints 32 = .ok (.getfield 85, 3) := by decide +kernel
theorem dX9_prints_35 : decode cX9_prints 35 = .ok (.istore_n 2, 1) := by decide +kernel
theorem dX9_prints_36 : decode cX9_prints 36 = .ok (.iload_n 2, 1) := by decide +kernel
theorem dX9_prints_37 : decode cX9_prints 37 = .ok (.ifCond .le 39, 3) := by decide +kernel
theorem dX9_prints_40 : decode cX9_prints 40 = .ok (.aload_n 0, 1) := by decide +kernel
theorem dX9_prints_41 : decode cX9_prints 41 = .ok (.iload_n 1, 1) := by decide +kernel
theorem dX9_prints_42 : decode cX9_prints 42 = .ok (.aload_n 0, 1) := by decide +kernel
theorem dX9_prints_43 : decode cX9_prints 43 = .ok (.getfield 22, 3) := by decide +kernel
theorem dX9_prints_46 : decode cX9_prints 46 = .ok (.iload_n 2, 1) := by decide +kernel
theorem dX9_prints_47 : decode cX9_prints 47 = .ok (.iconst 1, 1) := by decide +kernel
theorem dX9_prints_48 : decode cX9_prints 48 = .ok (.isub, 1) := by decide +kernel
theorem dX9_prints_49 : decode cX9_prints 49 = .ok (.iaload, 1) := by decide +kernel
theorem dX9_prints_50 : decode cX9_prints 50 = .ok (.invokevirtual 89, 3) := by decide +kernel
theorem dX9_prints_53 : decode cX9_prints 53 = .ok (.ifCond .eq 23, 3) := by decide +kernel
theorem dX9_prints_56 : decode cX9_prints 56 = .ok (.aload_n 0, 1) := by decide +kernel
theorem dX9_prints_57 : decode cX9_prints 57 = .ok (.getfield 22, 3) := by decide +kernel
theorem dX9_prints_60 : decode cX9_prints 60 = .ok (.iload_n 2, 1) := by decide +kernel
theorem dX9_prints_61 : decode cX9_prints 61 = .ok (.aload_n 0, 1) := by decide +kernel
theorem dX9_prints_62 : decode cX9_prints 62 = .ok (.getfield 22, 3) := by decide +kernel
theorem dX9_prints_65 : decode cX9_prints 65 = .ok (.iload_n 2, 1) := by decide +kernel
theorem dX9_prints_66 : decode cX9_prints 66 = .ok (.iconst 1, 1) := by decide +kernel
theorem dX9_prints_67 : decode cX9_prints 67 = .ok (.isub, 1) := by decide +kernel
theorem dX9_prints_68 : decode cX9_prints 68 = .ok (.iaload, 1) := by decide +kernel
theorem dX9_prints_69 : decode cX9_prints 69 = .ok (.iastore, 1) := by decide +kernel
theorem dX9_prints_70 : decode cX9_prints 70 = .ok (.iinc 2 (-1), 3) := by decide +kernel
theorem dX9_prints_73 : decode cX9_prints 73 = .ok (.goto (-37), 3) := by decide +kernel
theorem dX9_prints_76 : decode cX9_prints 76 = .ok (.aload_n 0, 1) := by decide +kernel
theorem dX9_prints_77 : decode cX9_prints 77 = .ok (.getfield 22, 3) := by decide +kernel
theorem dX9_prints_80 : decode cX9_prints 80 = .ok (.iload_n 2, 1) := by decide +kernel
theorem dX9_prints_81 : decode cX9_prints 81 = .ok (.iload_n 1, 1) := by decide +kernel
theorem dX9_prints_82 : decode cX9_prints 82 = .ok (.iastore, 1) := by decide +kernel
theorem dX9_prints_83 : decode cX9_prints 83 = .ok (.aload_n 0, 1) := by decide +kernel
theorem dX9_prints_84 : decode cX9_prints 84 = .ok (.dup, 1) := by decide +kernel
theorem dX9_prints_85 : decode cX9_prints 85 = .ok (.getfield 85, 3) := by decide +kernel
theorem dX9_prints_88 : decode cX9_prints 88 = .ok (.iconst 1, 1) := by decide +kernel
theorem dX9_prints_89 : decode cX9_prints 89 = .ok (.iadd, 1) := by decide +kernel
theorem dX9_prints_90 : decode cX9_prints 90 = .ok (.putfield 85, 3) := by decide +kernel
theorem dX9_prints_93 : decode cX9_prints 93 = .ok (.iinc 1 1, 3) := by decide +kernel
theorem dX9_prints_96 : decode cX9_prints 96 = .ok (.goto (-89), 3) := by decide +kernel
theorem dX9_prints_99 : decode cX9_prints 99 = .ok (.aload_n 0, 1) := by decide +kernel
theorem dX9_prints_100 : decode cX9_prints 100 = .ok (.aload_n 0, 1) := by decide +kernel
theorem dX9_prints_101 : decode cX9_prints 101 = .ok (.getfield 85, 3) := by decide +kernel
theorem dX9_prints_104 : decode cX9_prints 104 = .ok (.ifCond .le 7, 3) := by decide +kernel
theorem dX9_prints_107 : decode cX9_prints 107 = .ok (.iconst 1, 1) := by decide +kernel
theorem dX9_prints_108 : decode cX9_prints 108 = .ok (.goto 4, 3) := by decide +kernel
theorem dX9_prints_111 : decode cX9_prints 111 = .ok (.iconst 0, 1) := by decide +kernel
theorem dX9_prints_112 : decode cX9_prints 112 = .ok (.putfield 92, 3) := by decide +kernel
theorem dX9_prints_115 : decode cX9_prints 115 = .ok (.iconst 0, 1) := by decide +kernel
theorem dX9_prints_116 : decode cX9_prints 116 = .ok (.istore_n 1, 1) := by decide +kernel
theorem dX9_prints_117 : decode cX9_prints 117 = .ok (.iconst 0, 1) := by decide +kernel
theorem dX9_prints_118 : decode cX9_prints 118 = .ok (.istore_n 2, 1) := by decide +kernel
theorem dX9_prints_119 : decode cX9_prints 119 = .ok (.iload_n 2, 1) := by decide +kernel
theorem dX9_prints_120 : decode cX9_prints 120 = .ok (.aload_n 0, 1) := by decide +kernel
theorem dX9_prints_121 : decode cX9_prints 121 = .ok (.getfield 85, 3) := by decide +kernel
theorem dX9_prints_124 : decode cX9_prints 124 = .ok (.if_icmp .ge 59, 3) := by decide +kernel
theorem dX9_prints_127 : decode cX9_prints 127 = .ok (.aload_n 0, 1) := by decide +kernel
theorem dX9_prints_128 : decode cX9_prints 128 = .ok (.getfield 9, 3) := by decide +kernel
theorem dX9_prints_131 : decode cX9_prints 131 = .ok (.aload_n 0, 1) := by decide +kernel
theorem dX9_prints_132 : decode cX9_prints 132 = .ok (.getfield 22, 3) := by decide +kernel
theorem dX9_prints_135 : decode cX9_prints 135 = .ok (.iload_n 2, 1) := by decide +kernel
theorem dX9_prints_136 : decode cX9_prints 136 = .ok (.iaload, 1) := by decide +kernel
theorem dX9_prints_137 : decode cX9_prints 137 = .ok (.invokestatic 81, 3) := by decide +kernel
theorem dX9_prints_140 : decode cX9_prints 140 = .ok (.istore_n 3, 1) := by decide +kernel
theorem dX9_prints_141 : decode cX9_prints 141 = .ok (.iload_n 1, 1) := by decide +kernel
theorem dX9_prints_142 : decode cX9_prints 142 = .ok (.iload_n 3, 1) := by decide +kernel
theorem dX9_prints_143 : decode cX9_prints 143 = .ok (.iadd, 1) := by decide +kernel
theorem dX9_prints_144 : decode cX9_prints 144 = .ok (.bipush 30, 2) := by decide +kernel
theorem dX9_prints_146 : decode cX9_prints 146 = .ok (.if_icmp .le 15, 3) := by decide +kernel
theorem dX9_prints_149 : decode cX9_prints 149 = .ok (.aload_n 0, 1) := by decide +kernel
theorem dX9_prints_150 : decode cX9_prints 150 = .ok (.dup, 1) := by decide +kernel
theorem dX9_prints_151 : decode cX9_prints 151 = .ok (.getfield 92, 3) := by decide +kernel
theorem dX9_prints_154 : decode cX9_prints 154 = .ok (.iconst 1, 1) := by decide +kernel
theorem dX9_prints_155 : decode cX9_prints 155 = .ok (.iadd, 1) := by decide +kernel
theorem dX9_prints_156 : decode cX9_prints 156 = .ok (.putfield 92, 3) := by decide +kernel
theorem dX9_prints_159 : decode cX9_prints 159 = .ok (.iconst 0, 1) := by decide +kernel
theorem dX9_prints_160 : decode cX9_prints 160 = .ok (.istore_n 1, 1) := by decide +kernel
theorem dX9_prints_161 : decode cX9_prints 161 = .ok (.iload_n 1, 1) := by decide +kernel
theorem dX9_prints_162 : decode cX9_prints 162 = .ok (.iload_n 3, 1) := by decide +kernel
theorem dX9_prints_163 : decode cX9_prints 163 = .ok (.iadd, 1) := by decide +kernel
theorem dX9_prints_164 : decode cX9_prints 164 = .ok (.istore_n 1, 1) := by decide +kernel
theorem dX9_prints_165 : decode cX9_prints 165 = .ok (.aload_n 0, 1) := by decide +kernel
theorem dX9_prints_166 : decode cX9_prints 166 = .ok (.getfield 25, 3) := by decide +kernel
theorem dX9_prints_169 : decode cX9_prints 169 = .ok (.iload_n 2, 1) := by decide +kernel
theorem dX9_prints_170 : decode cX9_prints 170 = .ok (.aload_n 0, 1) := by decide +kernel
theorem dX9_prints_171 : decode cX9_prints 171 = .ok (.getfield 92, 3) := by decide +kernel
theorem dX9_prints_174 : decode cX9_prints 174 = .ok (.iconst 1, 1) := by decide +kernel
theorem dX9_prints_175 : decode cX9_prints 175 = .ok (.isub, 1) := by decide +kernel
theorem dX9_prints_176 : decode cX9_prints 176 = .ok (.iastore, 1) := by decide +kernel
theorem dX9_prints_177 : decode cX9_prints 177 = .ok (.iinc 2 1, 3) := by decide +kernel
theorem dX9_prints_180 : decode cX9_prints 180 = .ok (.goto (-61), 3) := by decide +kernel
theorem dX9_prints_183 : decode cX9_prints 183 = .ok (.return_, 1) := by decide +kernel
theorem dX9_placeOf_0 : decode cX9_placeOf 0 = .ok (.iconst 0, 1) := by decide +kernel
theorem dX9_placeOf_1 : decode cX9_placeOf 1 = .ok (.istore_n 2, 1) := by decide +kernel
theorem dX9_placeOf_2 : decode cX9_placeOf 2 = .ok (.iload_n 2, 1) := by decide +kernel
theorem dX9_placeOf_3 : decode cX9_placeOf 3 = .ok (.aload_n 0, 1) := by decide +kernel
theorem dX9_placeOf_4 : decode cX9_placeOf 4 = .ok (.getfield 85, 3) := by decide +kernel
theorem dX9_placeOf_7 : decode cX9_placeOf 7 = .ok (.if_icmp .ge 21, 3) := by decide +kernel
theorem dX9_placeOf_10 : decode cX9_placeOf 10 = .ok (.aload_n 0, 1) := by decide +kernel
theorem dX9_placeOf_11 : decode cX9_placeOf 11 = .ok (.getfield 22, 3) := by decide +kernel
theorem dX9_placeOf_14 : decode cX9_placeOf 14 = .ok (.iload_n 2, 1) := by decide +kernel
theorem dX9_placeOf_15 : decode cX9_placeOf 15 = .ok (.iaload, 1) := by decide +kernel
theorem dX9_placeOf_16 : decode cX9_placeOf 16 = .ok (.iload_n 1, 1) := by decide +kernel
theorem dX9_placeOf_17 : decode cX9_placeOf 17 = .ok (.if_icmp .ne 5, 3) := by decide +kernel
theorem dX9_placeOf_20 : decode cX9_placeOf 20 = .ok (.iload_n 2, 1) := by decide +kernel
theorem dX9_placeOf_21 : decode cX9_placeOf 21 = .ok (.ireturn, 1) := by decide +kernel
theorem dX9_placeOf_22 : decode cX9_placeOf 22 = .ok (.iinc 2 1, 3) := by decide +kernel
theorem dX9_placeOf_25 : decode cX9_placeOf 25 = .ok (.goto (-23), 3) := by decide +kernel
theorem dX9_placeOf_28 : decode cX9_placeOf 28 = .ok (.bipush (-4), 2) := by decide +kernel
theorem dX9_placeOf_30 : decode cX9_placeOf 30 = .ok (.ireturn, 1) := by decide +kernel
theorem dX9_here_0 : decode cX9_here 0 = .ok (.aload_n 0, 1) := by decide +kernel
theorem dX9_here_1 : decode cX9_here 1 = .ok (.getfield 95, 3) := by decide +kernel
theorem dX9_here_4 : decode cX9_here 4 = .ok (.aload_n 0, 1) := by decide +kernel
theorem dX9_here_5 : decode cX9_here 5 = .ok (.getfield 98, 3) := by decide +kernel
theorem dX9_here_8 : decode cX9_here 8 = .ok (.if_icmp .ge 24, 3) := by decide +kernel
theorem dX9_here_11 : decode cX9_here 11 = .ok (.aload_n 0, 1) := by decide +kernel
theorem dX9_here_12 : decode cX9_here 12 = .ok (.getfield 46, 3) := by decide +kernel
theorem dX9_here_15 : decode cX9_here 15 = .ok (.aload_n 0, 1) := by decide +kernel
theorem dX9_here_16 : decode cX9_here 16 = .ok (.getfield 101, 3) := by decide +kernel
theorem dX9_here_19 : decode cX9_here 19 = .ok (.aload_n 0, 1) := by decide +kernel
theorem dX9_here_20 : decode cX9_here 20 = .ok (.getfield 95, 3) := by decide +kernel
theorem dX9_here_23 : decode cX9_here 23 = .ok (.iadd, 1) := by decide +kernel
theorem dX9_here_24 : decode cX9_here 24 = .ok (.iaload, 1) := by decide +kernel
theorem dX9_here_25 : decode cX9_here 25 = .ok (.sipush 255, 3) := by decide +kernel
theorem dX9_here_28 : decode cX9_here 28 = .ok (.iand, 1) := by decide +kernel
theorem dX9_here_29 : decode cX9_here 29 = .ok (.goto 4, 3) := by decide +kernel
theorem dX9_here_32 : decode cX9_here 32 = .ok (.iconst (-1), 1) := by decide +kernel
theorem dX9_here_33 : decode cX9_here 33 = .ok (.ireturn, 1) := by decide +kernel
theorem dX9_readsNumber_0 : decode cX9_readsNumber 0 = .ok (.aload_n 0, 1) := by decide +kernel
theorem dX9_readsNumber_1 : decode cX9_readsNumber 1 = .ok (.getfield 28, 3) := by decide +kernel
theorem dX9_readsNumber_4 : decode cX9_readsNumber 4 = .ok (.iload_n 1, 1) := by decide +kernel
theorem dX9_readsNumber_5 : decode cX9_readsNumber 5 = .ok (.iconst 0, 1) := by decide +kernel
theorem dX9_readsNumber_6 : decode cX9_readsNumber 6 = .ok (.iastore, 1) := by decide +kernel
theorem dX9_readsNumber_7 : decode cX9_readsNumber 7 = .ok (.iconst 0, 1) := by decide +kernel
theorem dX9_readsNumber_8 : decode cX9_readsNumber 8 = .ok (.istore_n 3, 1) := by decide +kernel
theorem dX9_readsNumber_9 : decode cX9_readsNumber 9 = .ok (.iload_n 3, 1) := by decide +kernel
theorem dX9_readsNumber_10 : decode cX9_readsNumber 10 = .ok (.iload_n 2, 1) := by decide +kernel
theorem dX9_readsNumber_11 : decode cX9_readsNumber 11 = .ok (.if_icmp .ge 58, 3) := by decide +kernel
theorem dX9_readsNumber_14 : decode cX9_readsNumber 14 = .ok (.aload_n 0, 1) := by decide +kernel
theorem dX9_readsNumber_15 : decode cX9_readsNumber 15 = .ok (.invokevirtual 104, 3) := by decide +kernel
theorem dX9_readsNumber_18 : decode cX9_readsNumber 18 = .ok (.bipush 48, 2) := by decide +kernel
theorem dX9_readsNumber_20 : decode cX9_readsNumber 20 = .ok (.bipush 57, 2) := by decide +kernel
theorem dX9_readsNumber_22 : decode cX9_readsNumber 22 = .ok (.invokestatic 49, 3) := by decide +kernel
theorem dX9_readsNumber_25 : decode cX9_readsNumber 25 = .ok (.ifCond .ne 5, 3) := by decide +kernel
theorem dX9_readsNumber_28 : decode cX9_readsNumber 28 = .ok (.iconst 0, 1) := by decide +kernel
theorem dX9_readsNumber_29 : decode cX9_readsNumber 29 = .ok (.ireturn, 1) := by decide +kernel
theorem dX9_readsNumber_30 : decode cX9_readsNumber 30 = .ok (.aload_n 0, 1) := by decide +kernel
theorem dX9_readsNumber_31 : decode cX9_readsNumber 31 = .ok (.getfield 28, 3) := by decide +kernel
theorem dX9_readsNumber_34 : decode cX9_readsNumber 34 = .ok (.iload_n 1, 1) := by decide +kernel
theorem dX9_readsNumber_35 : decode cX9_readsNumber 35 = .ok (.bipush 10, 2) := by decide +kernel
theorem dX9_readsNumber_37 : decode cX9_readsNumber 37 = .ok (.aload_n 0, 1) := by decide +kernel
theorem dX9_readsNumber_38 : decode cX9_readsNumber 38 = .ok (.getfield 28, 3) := by decide +kernel
theorem dX9_readsNumber_41 : decode cX9_readsNumber 41 = .ok (.iload_n 1, 1) := by decide +kernel
theorem dX9_readsNumber_42 : decode cX9_readsNumber 42 = .ok (.iaload, 1) := by decide +kernel
theorem dX9_readsNumber_43 : decode cX9_readsNumber 43 = .ok (.imul, 1) := by decide +kernel
theorem dX9_readsNumber_44 : decode cX9_readsNumber 44 = .ok (.aload_n 0, 1) := by decide +kernel
theorem dX9_readsNumber_45 : decode cX9_readsNumber 45 = .ok (.invokevirtual 104, 3) := by decide +kernel
theorem dX9_readsNumber_48 : decode cX9_readsNumber 48 = .ok (.iadd, 1) := by decide +kernel
theorem dX9_readsNumber_49 : decode cX9_readsNumber 49 = .ok (.bipush 48, 2) := by decide +kernel
theorem dX9_readsNumber_51 : decode cX9_readsNumber 51 = .ok (.isub, 1) := by decide +kernel
theorem dX9_readsNumber_52 : decode cX9_readsNumber 52 = .ok (.iastore, 1) := by decide +kernel
theorem dX9_readsNumber_53 : decode cX9_readsNumber 53 = .ok (.aload_n 0, 1) := by decide +kernel
theorem dX9_readsNumber_54 : decode cX9_readsNumber 54 = .ok (.dup, 1) := by decide +kernel
theorem dX9_readsNumber_55 : decode cX9_readsNumber 55 = .ok (.getfield 95, 3) := by decide +kernel
theorem dX9_readsNumber_58 : decode cX9_readsNumber 58 = .ok (.iconst 1, 1) := by decide +kernel
theorem dX9_readsNumber_59 : decode cX9_readsNumber 59 = .ok (.iadd, 1) := by decide +kernel
theorem dX9_readsNumber_60 : decode cX9_readsNumber 60 = .ok (.putfield 95, 3) := by decide +kernel
theorem dX9_readsNumber_63 : decode cX9_readsNumber 63 = .ok (.iinc 3 1, 3) := by decide +kernel
theorem dX9_readsNumber_66 : decode cX9_readsNumber 66 = .ok (.goto (-57), 3) := by decide +kernel
theorem dX9_readsNumber_69 : decode cX9_readsNumber 69 = .ok (.iconst 1, 1) := by decide +kernel
theorem dX9_readsNumber_70 : decode cX9_readsNumber 70 = .ok (.ireturn, 1) := by decide +kernel
theorem dX9_readsStatement_0 : decode cX9_readsStatement 0 = .ok (.aload_n 0, 1) := by decide +kernel
theorem dX9_readsStatement_1 : decode cX9_readsStatement 1 = .ok (.invokevirtual 104, 3) := by decide +kernel
theorem dX9_readsStatement_4 : decode cX9_readsStatement 4 = .ok (.istore_n 1, 1) := by decide +kernel
theorem dX9_readsStatement_5 : decode cX9_readsStatement 5 = .ok (.aload_n 0, 1) := by decide +kernel
theorem dX9_readsStatement_6 : decode cX9_readsStatement 6 = .ok (.dup, 1) := by decide +kernel
theorem dX9_readsStatement_7 : decode cX9_readsStatement 7 = .ok (.getfield 95, 3) := by decide +kernel
theorem dX9_readsStatement_10 : decode cX9_readsStatement 10 = .ok (.iconst 1, 1) := by decide +kernel
theorem dX9_readsStatement_11 : decode cX9_readsStatement 11 = .ok (.iadd, 1) := by decide +kernel
theorem dX9_readsStatement_12 : decode cX9_readsStatement 12 = .ok (.putfield 95, 3) := by decide +kernel
theorem dX9_readsStatement_15 : decode cX9_readsStatement 15 = .ok (.iload_n 1, 1) := by decide +kernel
theorem dX9_readsStatement_16 : decode cX9_readsStatement 16 = .ok (.lookupswitch 127 #[(100, 36), (115, 100), (116, 90)], 36) := by decide +kernel
theorem dX9_readsStatement_52 : decode cX9_readsStatement 52 = .ok (.aload_n 0, 1) := by decide +kernel
theorem dX9_readsStatement_53 : decode cX9_readsStatement 53 = .ok (.iconst 0, 1) := by decide +kernel
theorem dX9_readsStatement_54 : decode cX9_readsStatement 54 = .ok (.iconst 1, 1) := by decide +kernel
theorem dX9_readsStatement_55 : decode cX9_readsStatement 55 = .ok (.invokevirtual 108, 3) := by decide +kernel
theorem dX9_readsStatement_58 : decode cX9_readsStatement 58 = .ok (.ifCond .eq 43, 3) := by decide +kernel
theorem dX9_readsStatement_61 : decode cX9_readsStatement 61 = .ok (.aload_n 0, 1) := by decide +kernel
theorem dX9_readsStatement_62 : decode cX9_readsStatement 62 = .ok (.iconst 1, 1) := by decide +kernel
theorem dX9_readsStatement_63 : decode cX9_readsStatement 63 = .ok (.iconst 1, 1) := by decide +kernel
theorem dX9_readsStatement_64 : decode cX9_readsStatement 64 = .ok (.invokevirtual 108, 3) := by decide +kernel
theorem dX9_readsStatement_67 : decode cX9_readsStatement 67 = .ok (.ifCond .eq 34, 3) := by decide +kernel
theorem dX9_readsStatement_70 : decode cX9_readsStatement 70 = .ok (.aload_n 0, 1) := by decide +kernel
theorem dX9_readsStatement_71 : decode cX9_readsStatement 71 = .ok (.iconst 2, 1) := by decide +kernel
theorem dX9_readsStatement_72 : decode cX9_readsStatement 72 = .ok (.iconst 3, 1) := by decide +kernel
theorem dX9_readsStatement_73 : decode cX9_readsStatement 73 = .ok (.invokevirtual 108, 3) := by decide +kernel
theorem dX9_readsStatement_76 : decode cX9_readsStatement 76 = .ok (.ifCond .eq 25, 3) := by decide +kernel
theorem dX9_readsStatement_79 : decode cX9_readsStatement 79 = .ok (.aload_n 0, 1) := by decide +kernel
theorem dX9_readsStatement_80 : decode cX9_readsStatement 80 = .ok (.iconst 3, 1) := by decide +kernel
theorem dX9_readsStatement_81 : decode cX9_readsStatement 81 = .ok (.iconst 1, 1) := by decide +kernel
theorem dX9_readsStatement_82 : decode cX9_readsStatement 82 = .ok (.invokevirtual 108, 3) := by decide +kernel
theorem dX9_readsStatement_85 : decode cX9_readsStatement 85 = .ok (.ifCond .eq 16, 3) := by decide +kernel
theorem dX9_readsStatement_88 : decode cX9_readsStatement 88 = .ok (.aload_n 0, 1) := by decide +kernel
theorem dX9_readsStatement_89 : decode cX9_readsStatement 89 = .ok (.iconst 4, 1) := by decide +kernel
theorem dX9_readsStatement_90 : decode cX9_readsStatement 90 = .ok (.iconst 2, 1) := by decide +kernel
theorem dX9_readsStatement_91 : decode cX9_readsStatement 91 = .ok (.invokevirtual 108, 3) := by decide +kernel
theorem dX9_readsStatement_94 : decode cX9_readsStatement 94 = .ok (.ifCond .eq 7, 3) := by decide +kernel
theorem dX9_readsStatement_97 : decode cX9_readsStatement 97 = .ok (.iconst 1, 1) := by decide +kernel
theorem dX9_readsStatement_98 : decode cX9_readsStatement 98 = .ok (.goto 4, 3) := by decide +kernel
theorem dX9_readsStatement_101 : decode cX9_readsStatement 101 = .ok (.iconst 0, 1) := by decide +kernel
theorem dX9_readsStatement_102 : decode cX9_readsStatement 102 = .ok (.istore_n 2, 1) := by decide +kernel
theorem dX9_readsStatement_103 : decode cX9_readsStatement 103 = .ok (.goto 52, 3) := by decide +kernel
theorem dX9_readsStatement_106 : decode cX9_readsStatement 106 = .ok (.aload_n 0, 1) := by decide +kernel
theorem dX9_readsStatement_107 : decode cX9_readsStatement 107 = .ok (.iconst 0, 1) := by decide +kernel
theorem dX9_readsStatement_108 : decode cX9_readsStatement 108 = .ok (.iconst 3, 1) := by decide +kernel
theorem dX9_readsStatement_109 : decode cX9_readsStatement 109 = .ok (.invokevirtual 108, 3) := by decide +kernel
theorem dX9_readsStatement_112 : decode cX9_readsStatement 112 = .ok (.istore_n 2, 1) := by decide +kernel
theorem dX9_readsStatement_113 : decode cX9_readsStatement 113 = .ok (.goto 42, 3) := by decide +kernel
theorem dX9_readsStatement_116 : decode cX9_readsStatement 116 = .ok (.aload_n 0, 1) := by decide +kernel
theorem dX9_readsStatement_117 : decode cX9_readsStatement 117 = .ok (.iconst 0, 1) := by decide +kernel
theorem dX9_readsStatement_118 : decode cX9_readsStatement 118 = .ok (.iconst 1, 1) := by decide +kernel
theorem dX9_readsStatement_119 : decode cX9_readsStatement 119 = .ok (.invokevirtual 108, 3) := by decide +kernel
theorem dX9_readsStatement_122 : decode cX9_readsStatement 122 = .ok (.ifCond .eq 16, 3) := by decide +kernel
theorem dX9_readsStatement_125 : decode cX9_readsStatement 125 = .ok (.aload_n 0, 1) := by decide +kernel
theorem dX9_readsStatement_126 : decode cX9_readsStatement 126 = .ok (.iconst 1, 1) := by decide +kernel
theorem dX9_readsStatement_127 : decode cX9_readsStatement 127 = .ok (.iconst 1, 1) := by decide +kernel
theorem dX9_readsStatement_128 : decode cX9_readsStatement 128 = .ok (.invokevirtual 108, 3) := by decide +kernel
theorem dX9_readsStatement_131 : decode cX9_readsStatement 131 = .ok (.ifCond .eq 7, 3) := by decide +kernel
theorem dX9_readsStatement_134 : decode cX9_readsStatement 134 = .ok (.iconst 1, 1) := by decide +kernel
theorem dX9_readsStatement_135 : decode cX9_readsStatement 135 = .ok (.goto 4, 3) := by decide +kernel
theorem dX9_readsStatement_138 : decode cX9_readsStatement 138 = .ok (.iconst 0, 1) := by decide +kernel
theorem dX9_readsStatement_139 : decode cX9_readsStatement 139 = .ok (.istore_n 2, 1) := by decide +kernel
theorem dX9_readsStatement_140 : decode cX9_readsStatement 140 = .ok (.goto 15, 3) := by decide +kernel
theorem dX9_readsStatement_143 : decode cX9_readsStatement 143 = .ok (.aload_n 0, 1) := by decide +kernel
theorem dX9_readsStatement_144 : decode cX9_readsStatement 144 = .ok (.dup, 1) := by decide +kernel
theorem dX9_readsStatement_145 : decode cX9_readsStatement 145 = .ok (.getfield 95, 3) := by decide +kernel
theorem dX9_readsStatement_148 : decode cX9_readsStatement 148 = .ok (.iconst 1, 1) := by decide +kernel
theorem dX9_readsStatement_149 : decode cX9_readsStatement 149 = .ok (.isub, 1) := by decide +kernel
theorem dX9_readsStatement_150 : decode cX9_readsStatement 150 = .ok (.putfield 95, 3) := by decide +kernel
theorem dX9_readsStatement_153 : decode cX9_readsStatement 153 = .ok (.iconst 0, 1) := by decide +kernel
theorem dX9_readsStatement_154 : decode cX9_readsStatement 154 = .ok (.ireturn, 1) := by decide +kernel
theorem dX9_readsStatement_155 : decode cX9_readsStatement 155 = .ok (.iload_n 2, 1) := by decide +kernel
theorem dX9_readsStatement_156 : decode cX9_readsStatement 156 = .ok (.ifCond .eq 12, 3) := by decide +kernel
theorem dX9_readsStatement_159 : decode cX9_readsStatement 159 = .ok (.aload_n 0, 1) := by decide +kernel
theorem dX9_readsStatement_160 : decode cX9_readsStatement 160 = .ok (.invokevirtual 104, 3) := by decide +kernel
theorem dX9_readsStatement_163 : decode cX9_readsStatement 163 = .ok (.bipush 59, 2) := by decide +kernel
theorem dX9_readsStatement_165 : decode cX9_readsStatement 165 = .ok (.if_icmp .eq 5, 3) := by decide +kernel
theorem dX9_readsStatement_168 : decode cX9_readsStatement 168 = .ok (.iconst 0, 1) := by decide +kernel
theorem dX9_readsStatement_169 : decode cX9_readsStatement 169 = .ok (.ireturn, 1) := by decide +kernel
theorem dX9_readsStatement_170 : decode cX9_readsStatement 170 = .ok (.aload_n 0, 1) := by decide +kernel
theorem dX9_readsStatement_171 : decode cX9_readsStatement 171 = .ok (.dup, 1) := by decide +kernel
theorem dX9_readsStatement_172 : decode cX9_readsStatement 172 = .ok (.getfield 95, 3) := by decide +kernel
theorem dX9_readsStatement_175 : decode cX9_readsStatement 175 = .ok (.iconst 1, 1) := by decide +kernel
theorem dX9_readsStatement_176 : decode cX9_readsStatement 176 = .ok (.iadd, 1) := by decide +kernel
theorem dX9_readsStatement_177 : decode cX9_readsStatement 177 = .ok (.putfield 95, 3) := by decide +kernel
theorem dX9_readsStatement_180 : decode cX9_readsStatement 180 = .ok (.iconst 1, 1) := by decide +kernel
theorem dX9_readsStatement_181 : decode cX9_readsStatement 181 = .ok (.ireturn, 1) := by decide +kernel
theorem dX9_adds_0 : decode cX9_adds 0 = .ok (.aload_n 0, 1) := by decide +kernel
theorem dX9_adds_1 : decode cX9_adds 1 = .ok (.iconst 0, 1) := by decide +kernel
theorem dX9_adds_2 : decode cX9_adds 2 = .ok (.iaload, 1) := by decide +kernel
theorem dX9_adds_3 : decode cX9_adds 3 = .ok (.istore 6, 2) := by decide +kernel
theorem dX9_adds_5 : decode cX9_adds 5 = .ok (.aload_n 0, 1) := by decide +kernel
theorem dX9_adds_6 : decode cX9_adds 6 = .ok (.iload 6, 2) := by decide +kernel
theorem dX9_adds_8 : decode cX9_adds 8 = .ok (.iconst 0, 1) := by decide +kernel
theorem dX9_adds_9 : decode cX9_adds 9 = .ok (.invokestatic 57, 3) := by decide +kernel
theorem dX9_adds_12 : decode cX9_adds 12 = .ok (.iload_n 1, 1) := by decide +kernel
theorem dX9_adds_13 : decode cX9_adds 13 = .ok (.iastore, 1) := by decide +kernel
theorem dX9_adds_14 : decode cX9_adds 14 = .ok (.aload_n 0, 1) := by decide +kernel
theorem dX9_adds_15 : decode cX9_adds 15 = .ok (.iload 6, 2) := by decide +kernel
theorem dX9_adds_17 : decode cX9_adds 17 = .ok (.iconst 1, 1) := by decide +kernel
theorem dX9_adds_18 : decode cX9_adds 18 = .ok (.invokestatic 57, 3) := by decide +kernel
theorem dX9_adds_21 : decode cX9_adds 21 = .ok (.iload_n 2, 1) := by decide +kernel
theorem dX9_adds_22 : decode cX9_adds 22 = .ok (.iastore, 1) := by decide +kernel
theorem dX9_adds_23 : decode cX9_adds 23 = .ok (.aload_n 0, 1) := by decide +kernel
theorem dX9_adds_24 : decode cX9_adds 24 = .ok (.iload 6, 2) := by decide +kernel
theorem dX9_adds_26 : decode cX9_adds 26 = .ok (.iconst 2, 1) := by decide +kernel
theorem dX9_adds_27 : decode cX9_adds 27 = .ok (.invokestatic 57, 3) := by decide +kernel
theorem dX9_adds_30 : decode cX9_adds 30 = .ok (.iload_n 3, 1) := by decide +kernel
theorem dX9_adds_31 : decode cX9_adds 31 = .ok (.iastore, 1) := by decide +kernel
theorem dX9_adds_32 : decode cX9_adds 32 = .ok (.aload_n 0, 1) := by decide +kernel
theorem dX9_adds_33 : decode cX9_adds 33 = .ok (.iload 6, 2) := by decide +kernel
theorem dX9_adds_35 : decode cX9_adds 35 = .ok (.iconst 3, 1) := by decide +kernel
theorem dX9_adds_36 : decode cX9_adds 36 = .ok (.invokestatic 57, 3) := by decide +kernel
theorem dX9_adds_39 : decode cX9_adds 39 = .ok (.iload 4, 2) := by decide +kernel
theorem dX9_adds_41 : decode cX9_adds 41 = .ok (.iastore, 1) := by decide +kernel
theorem dX9_adds_42 : decode cX9_adds 42 = .ok (.aload_n 0, 1) := by decide +kernel
theorem dX9_adds_43 : decode cX9_adds 43 = .ok (.iload 6, 2) := by decide +kernel
theorem dX9_adds_45 : decode cX9_adds 45 = .ok (.iconst 4, 1) := by decide +kernel
theorem dX9_adds_46 : decode cX9_adds 46 = .ok (.invokestatic 57, 3) := by decide +kernel
theorem dX9_adds_49 : decode cX9_adds 49 = .ok (.iload 5, 2) := by decide +kernel
theorem dX9_adds_51 : decode cX9_adds 51 = .ok (.iconst 1, 1) := by decide +kernel
theorem dX9_adds_52 : decode cX9_adds 52 = .ok (.iload 4, 2) := by decide +kernel
theorem dX9_adds_54 : decode cX9_adds 54 = .ok (.ishl, 1) := by decide +kernel
theorem dX9_adds_55 : decode cX9_adds 55 = .ok (.iconst (-1), 1) := by decide +kernel
theorem dX9_adds_56 : decode cX9_adds 56 = .ok (.ixor, 1) := by decide +kernel
theorem dX9_adds_57 : decode cX9_adds 57 = .ok (.iand, 1) := by decide +kernel
theorem dX9_adds_58 : decode cX9_adds 58 = .ok (.iastore, 1) := by decide +kernel
theorem dX9_adds_59 : decode cX9_adds 59 = .ok (.aload_n 0, 1) := by decide +kernel
theorem dX9_adds_60 : decode cX9_adds 60 = .ok (.iconst 0, 1) := by decide +kernel
theorem dX9_adds_61 : decode cX9_adds 61 = .ok (.dup2, 1) := by decide +kernel
theorem dX9_adds_62 : decode cX9_adds 62 = .ok (.iaload, 1) := by decide +kernel
theorem dX9_adds_63 : decode cX9_adds 63 = .ok (.iconst 1, 1) := by decide +kernel
theorem dX9_adds_64 : decode cX9_adds 64 = .ok (.iadd, 1) := by decide +kernel
theorem dX9_adds_65 : decode cX9_adds 65 = .ok (.iastore, 1) := by decide +kernel
theorem dX9_adds_66 : decode cX9_adds 66 = .ok (.return_, 1) := by decide +kernel
theorem dX9_isDone_0 : decode cX9_isDone 0 = .ok (.aload_n 0, 1) := by decide +kernel
theorem dX9_isDone_1 : decode cX9_isDone 1 = .ok (.getfield 28, 3) := by decide +kernel
theorem dX9_isDone_4 : decode cX9_isDone 4 = .ok (.iconst 0, 1) := by decide +kernel
theorem dX9_isDone_5 : decode cX9_isDone 5 = .ok (.iaload, 1) := by decide +kernel
theorem dX9_isDone_6 : decode cX9_isDone 6 = .ok (.istore_n 2, 1) := by decide +kernel
theorem dX9_isDone_7 : decode cX9_isDone 7 = .ok (.aload_n 0, 1) := by decide +kernel
theorem dX9_isDone_8 : decode cX9_isDone 8 = .ok (.getfield 28, 3) := by decide +kernel
theorem dX9_isDone_11 : decode cX9_isDone 11 = .ok (.iconst 1, 1) := by decide +kernel
theorem dX9_isDone_12 : decode cX9_isDone 12 = .ok (.iaload, 1) := by decide +kernel
theorem dX9_isDone_13 : decode cX9_isDone 13 = .ok (.istore_n 3, 1) := by decide +kernel
theorem dX9_isDone_14 : decode cX9_isDone 14 = .ok (.iload_n 1, 1) := by decide +kernel
theorem dX9_isDone_15 : decode cX9_isDone 15 = .ok (.lookupswitch 146 #[(100, 25), (116, 126)], 25) := by decide +kernel
theorem dX9_isDone_40 : decode cX9_isDone 40 = .ok (.iload_n 2, 1) := by decide +kernel
theorem dX9_isDone_41 : decode cX9_isDone 41 = .ok (.bipush 8, 2) := by decide +kernel
theorem dX9_isDone_43 : decode cX9_isDone 43 = .ok (.if_icmp .ge 67, 3) := by decide +kernel
theorem dX9_isDone_46 : decode cX9_isDone 46 = .ok (.aload_n 0, 1) := by decide +kernel
theorem dX9_isDone_47 : decode cX9_isDone 47 = .ok (.getfield 28, 3) := by decide +kernel
theorem dX9_isDone_50 : decode cX9_isDone 50 = .ok (.iconst 2, 1) := by decide +kernel
theorem dX9_isDone_51 : decode cX9_isDone 51 = .ok (.iaload, 1) := by decide +kernel
theorem dX9_isDone_52 : decode cX9_isDone 52 = .ok (.invokestatic 111, 3) := by decide +kernel
theorem dX9_isDone_55 : decode cX9_isDone 55 = .ok (.ifCond .eq 55, 3) := by decide +kernel
theorem dX9_isDone_58 : decode cX9_isDone 58 = .ok (.aload_n 0, 1) := by decide +kernel
theorem dX9_isDone_59 : decode cX9_isDone 59 = .ok (.getfield 28, 3) := by decide +kernel
theorem dX9_isDone_62 : decode cX9_isDone 62 = .ok (.iconst 3, 1) := by decide +kernel
theorem dX9_isDone_63 : decode cX9_isDone 63 = .ok (.iaload, 1) := by decide +kernel
theorem dX9_isDone_64 : decode cX9_isDone 64 = .ok (.invokestatic 115, 3) := by decide +kernel
theorem dX9_isDone_67 : decode cX9_isDone 67 = .ok (.ifCond .eq 43, 3) := by decide +kernel
theorem dX9_isDone_70 : decode cX9_isDone 70 = .ok (.aload_n 0, 1) := by decide +kernel
theorem dX9_isDone_71 : decode cX9_isDone 71 = .ok (.getfield 28, 3) := by decide +kernel
theorem dX9_isDone_74 : decode cX9_isDone 74 = .ok (.iconst 4, 1) := by decide +kernel
theorem dX9_isDone_75 : decode cX9_isDone 75 = .ok (.iaload, 1) := by decide +kernel
theorem dX9_isDone_76 : decode cX9_isDone 76 = .ok (.bipush 31, 2) := by decide +kernel
theorem dX9_isDone_78 : decode cX9_isDone 78 = .ok (.if_icmp .gt 32, 3) := by decide +kernel
theorem dX9_isDone_81 : decode cX9_isDone 81 = .ok (.aload_n 0, 1) := by decide +kernel
theorem dX9_isDone_82 : decode cX9_isDone 82 = .ok (.getfield 28, 3) := by decide +kernel
theorem dX9_isDone_85 : decode cX9_isDone 85 = .ok (.iconst 4, 1) := by decide +kernel
theorem dX9_isDone_86 : decode cX9_isDone 86 = .ok (.iaload, 1) := by decide +kernel
theorem dX9_isDone_87 : decode cX9_isDone 87 = .ok (.aload_n 0, 1) := by decide +kernel
theorem dX9_isDone_88 : decode cX9_isDone 88 = .ok (.getfield 28, 3) := by decide +kernel
theorem dX9_isDone_91 : decode cX9_isDone 91 = .ok (.iconst 3, 1) := by decide +kernel
theorem dX9_isDone_92 : decode cX9_isDone 92 = .ok (.iaload, 1) := by decide +kernel
theorem dX9_isDone_93 : decode cX9_isDone 93 = .ok (.invokestatic 63, 3) := by decide +kernel
theorem dX9_isDone_96 : decode cX9_isDone 96 = .ok (.ifCond .ne 14, 3) := by decide +kernel
theorem dX9_isDone_99 : decode cX9_isDone 99 = .ok (.aload_n 0, 1) := by decide +kernel
theorem dX9_isDone_100 : decode cX9_isDone 100 = .ok (.getfield 9, 3) := by decide +kernel
theorem dX9_isDone_103 : decode cX9_isDone 103 = .ok (.iconst 0, 1) := by decide +kernel
theorem dX9_isDone_104 : decode cX9_isDone 104 = .ok (.iaload, 1) := by decide +kernel
theorem dX9_isDone_105 : decode cX9_isDone 105 = .ok (.bipush 10, 2) := by decide +kernel
theorem dX9_isDone_107 : decode cX9_isDone 107 = .ok (.if_icmp .ne 5, 3) := by decide +kernel
theorem dX9_isDone_110 : decode cX9_isDone 110 = .ok (.iconst 0, 1) := by decide +kernel
theorem dX9_isDone_111 : decode cX9_isDone 111 = .ok (.ireturn, 1) := by decide +kernel
theorem dX9_isDone_112 : decode cX9_isDone 112 = .ok (.aload_n 0, 1) := by decide +kernel
theorem dX9_isDone_113 : decode cX9_isDone 113 = .ok (.getfield 9, 3) := by decide +kernel
theorem dX9_isDone_116 : decode cX9_isDone 116 = .ok (.iload_n 2, 1) := by decide +kernel
theorem dX9_isDone_117 : decode cX9_isDone 117 = .ok (.iload_n 3, 1) := by decide +kernel
theorem dX9_isDone_118 : decode cX9_isDone 118 = .ok (.aload_n 0, 1) := by decide +kernel
theorem dX9_isDone_119 : decode cX9_isDone 119 = .ok (.getfield 28, 3) := by decide +kernel
theorem dX9_isDone_122 : decode cX9_isDone 122 = .ok (.iconst 2, 1) := by decide +kernel
theorem dX9_isDone_123 : decode cX9_isDone 123 = .ok (.iaload, 1) := by decide +kernel
theorem dX9_isDone_124 : decode cX9_isDone 124 = .ok (.aload_n 0, 1) := by decide +kernel
theorem dX9_isDone_125 : decode cX9_isDone 125 = .ok (.getfield 28, 3) := by decide +kernel
theorem dX9_isDone_128 : decode cX9_isDone 128 = .ok (.iconst 3, 1) := by decide +kernel
theorem dX9_isDone_129 : decode cX9_isDone 129 = .ok (.iaload, 1) := by decide +kernel
theorem dX9_isDone_130 : decode cX9_isDone 130 = .ok (.aload_n 0, 1) := by decide +kernel
theorem dX9_isDone_131 : decode cX9_isDone 131 = .ok (.getfield 28, 3) := by decide +kernel
theorem dX9_isDone_134 : decode cX9_isDone 134 = .ok (.iconst 4, 1) := by decide +kernel
theorem dX9_isDone_135 : decode cX9_isDone 135 = .ok (.iaload, 1) := by decide +kernel
theorem dX9_isDone_136 : decode cX9_isDone 136 = .ok (.invokestatic 118, 3) := by decide +kernel
theorem dX9_isDone_139 : decode cX9_isDone 139 = .ok (.iconst 1, 1) := by decide +kernel
theorem dX9_isDone_140 : decode cX9_isDone 140 = .ok (.ireturn, 1) := by decide +kernel
theorem dX9_isDone_141 : decode cX9_isDone 141 = .ok (.aload_n 0, 1) := by decide +kernel
theorem dX9_isDone_142 : decode cX9_isDone 142 = .ok (.getfield 9, 3) := by decide +kernel
theorem dX9_isDone_145 : decode cX9_isDone 145 = .ok (.iconst 1, 1) := by decide +kernel
theorem dX9_isDone_146 : decode cX9_isDone 146 = .ok (.iload_n 2, 1) := by decide +kernel
theorem dX9_isDone_147 : decode cX9_isDone 147 = .ok (.iastore, 1) := by decide +kernel
theorem dX9_isDone_148 : decode cX9_isDone 148 = .ok (.iload_n 2, 1) := by decide +kernel
theorem dX9_isDone_149 : decode cX9_isDone 149 = .ok (.sipush 365, 3) := by decide +kernel
theorem dX9_isDone_152 : decode cX9_isDone 152 = .ok (.if_icmp .gt 7, 3) := by decide +kernel
theorem dX9_isDone_155 : decode cX9_isDone 155 = .ok (.iconst 1, 1) := by decide +kernel
theorem dX9_isDone_156 : decode cX9_isDone 156 = .ok (.goto 4, 3) := by decide +kernel
theorem dX9_isDone_159 : decode cX9_isDone 159 = .ok (.iconst 0, 1) := by decide +kernel
theorem dX9_isDone_160 : decode cX9_isDone 160 = .ok (.ireturn, 1) := by decide +kernel
theorem dX9_isDone_161 : decode cX9_isDone 161 = .ok (.aload_n 0, 1) := by decide +kernel
theorem dX9_isDone_162 : decode cX9_isDone 162 = .ok (.iload_n 2, 1) := by decide +kernel
theorem dX9_isDone_163 : decode cX9_isDone 163 = .ok (.invokevirtual 122, 3) := by decide +kernel
theorem dX9_isDone_166 : decode cX9_isDone 166 = .ok (.ifCond .eq 24, 3) := by decide +kernel
theorem dX9_isDone_169 : decode cX9_isDone 169 = .ok (.iload_n 3, 1) := by decide +kernel
theorem dX9_isDone_170 : decode cX9_isDone 170 = .ok (.invokestatic 115, 3) := by decide +kernel
theorem dX9_isDone_173 : decode cX9_isDone 173 = .ok (.ifCond .eq 17, 3) := by decide +kernel
theorem dX9_isDone_176 : decode cX9_isDone 176 = .ok (.aload_n 0, 1) := by decide +kernel
theorem dX9_isDone_177 : decode cX9_isDone 177 = .ok (.getfield 9, 3) := by decide +kernel
theorem dX9_isDone_180 : decode cX9_isDone 180 = .ok (.iload_n 2, 1) := by decide +kernel
theorem dX9_isDone_181 : decode cX9_isDone 181 = .ok (.iconst 3, 1) := by decide +kernel
theorem dX9_isDone_182 : decode cX9_isDone 182 = .ok (.invokestatic 57, 3) := by decide +kernel
theorem dX9_isDone_185 : decode cX9_isDone 185 = .ok (.iaload, 1) := by decide +kernel
theorem dX9_isDone_186 : decode cX9_isDone 186 = .ok (.iload_n 3, 1) := by decide +kernel
theorem dX9_isDone_187 : decode cX9_isDone 187 = .ok (.if_icmp .ne 5, 3) := by decide +kernel
theorem dX9_isDone_190 : decode cX9_isDone 190 = .ok (.iconst 0, 1) := by decide +kernel
theorem dX9_isDone_191 : decode cX9_isDone 191 = .ok (.ireturn, 1) := by decide +kernel
theorem dX9_isDone_192 : decode cX9_isDone 192 = .ok (.aload_n 0, 1) := by decide +kernel
theorem dX9_isDone_193 : decode cX9_isDone 193 = .ok (.getfield 9, 3) := by decide +kernel
theorem dX9_isDone_196 : decode cX9_isDone 196 = .ok (.iload_n 2, 1) := by decide +kernel
theorem dX9_isDone_197 : decode cX9_isDone 197 = .ok (.iconst 4, 1) := by decide +kernel
theorem dX9_isDone_198 : decode cX9_isDone 198 = .ok (.invokestatic 57, 3) := by decide +kernel
theorem dX9_isDone_201 : decode cX9_isDone 201 = .ok (.dup2, 1) := by decide +kernel
theorem dX9_isDone_202 : decode cX9_isDone 202 = .ok (.iaload, 1) := by decide +kernel
theorem dX9_isDone_203 : decode cX9_isDone 203 = .ok (.iconst 1, 1) := by decide +kernel
theorem dX9_isDone_204 : decode cX9_isDone 204 = .ok (.iload_n 3, 1) := by decide +kernel
theorem dX9_isDone_205 : decode cX9_isDone 205 = .ok (.ishl, 1) := by decide +kernel
theorem dX9_isDone_206 : decode cX9_isDone 206 = .ok (.ixor, 1) := by decide +kernel
theorem dX9_isDone_207 : decode cX9_isDone 207 = .ok (.iastore, 1) := by decide +kernel
theorem dX9_isDone_208 : decode cX9_isDone 208 = .ok (.iconst 1, 1) := by decide +kernel
theorem dX9_isDone_209 : decode cX9_isDone 209 = .ok (.ireturn, 1) := by decide +kernel
theorem dX9_year_0 : decode cX9_year 0 = .ok (.aload_n 0, 1) := by decide +kernel
theorem dX9_year_1 : decode cX9_year 1 = .ok (.iload_n 1, 1) := by decide +kernel
theorem dX9_year_2 : decode cX9_year 2 = .ok (.iconst 0, 1) := by decide +kernel
theorem dX9_year_3 : decode cX9_year 3 = .ok (.invokevirtual 125, 3) := by decide +kernel
theorem dX9_year_6 : decode cX9_year 6 = .ok (.istore_n 2, 1) := by decide +kernel
theorem dX9_year_7 : decode cX9_year 7 = .ok (.iload_n 2, 1) := by decide +kernel
theorem dX9_year_8 : decode cX9_year 8 = .ok (.ifCond .eq 5, 3) := by decide +kernel
theorem dX9_year_11 : decode cX9_year 11 = .ok (.iload_n 2, 1) := by decide +kernel
theorem dX9_year_12 : decode cX9_year 12 = .ok (.ireturn, 1) := by decide +kernel
theorem dX9_year_13 : decode cX9_year 13 = .ok (.aload_n 0, 1) := by decide +kernel
theorem dX9_year_14 : decode cX9_year 14 = .ok (.bipush 100, 2) := by decide +kernel
theorem dX9_year_16 : decode cX9_year 16 = .ok (.iload_n 1, 1) := by decide +kernel
theorem dX9_year_17 : decode cX9_year 17 = .ok (.imul, 1) := by decide +kernel
theorem dX9_year_18 : decode cX9_year 18 = .ok (.putfield 101, 3) := by decide +kernel
theorem dX9_year_21 : decode cX9_year 21 = .ok (.aload_n 0, 1) := by decide +kernel
theorem dX9_year_22 : decode cX9_year 22 = .ok (.aload_n 0, 1) := by decide +kernel
theorem dX9_year_23 : decode cX9_year 23 = .ok (.getfield 43, 3) := by decide +kernel
theorem dX9_year_26 : decode cX9_year 26 = .ok (.iload_n 1, 1) := by decide +kernel
theorem dX9_year_27 : decode cX9_year 27 = .ok (.iaload, 1) := by decide +kernel
theorem dX9_year_28 : decode cX9_year 28 = .ok (.putfield 98, 3) := by decide +kernel
theorem dX9_year_31 : decode cX9_year 31 = .ok (.aload_n 0, 1) := by decide +kernel
theorem dX9_year_32 : decode cX9_year 32 = .ok (.iconst 0, 1) := by decide +kernel
theorem dX9_year_33 : decode cX9_year 33 = .ok (.putfield 95, 3) := by decide +kernel
theorem dX9_year_36 : decode cX9_year 36 = .ok (.iconst 0, 1) := by decide +kernel
theorem dX9_year_37 : decode cX9_year 37 = .ok (.istore_n 3, 1) := by decide +kernel
theorem dX9_year_38 : decode cX9_year 38 = .ok (.iconst 0, 1) := by decide +kernel
theorem dX9_year_39 : decode cX9_year 39 = .ok (.istore 4, 2) := by decide +kernel
theorem dX9_year_41 : decode cX9_year 41 = .ok (.aload_n 0, 1) := by decide +kernel
theorem dX9_year_42 : decode cX9_year 42 = .ok (.invokevirtual 128, 3) := by decide +kernel
theorem dX9_year_45 : decode cX9_year 45 = .ok (.ifCond .ne 13, 3) := by decide +kernel
theorem dX9_year_48 : decode cX9_year 48 = .ok (.sipush (-1000), 3) := by decide +kernel
theorem dX9_year_51 : decode cX9_year 51 = .ok (.aload_n 0, 1) := by decide +kernel
theorem dX9_year_52 : decode cX9_year 52 = .ok (.getfield 95, 3) := by decide +kernel
theorem dX9_year_55 : decode cX9_year 55 = .ok (.isub, 1) := by decide +kernel
theorem dX9_year_56 : decode cX9_year 56 = .ok (.istore 4, 2) := by decide +kernel
theorem dX9_year_58 : decode cX9_year 58 = .ok (.iinc 3 1, 3) := by decide +kernel
theorem dX9_year_61 : decode cX9_year 61 = .ok (.iload 4, 2) := by decide +kernel
theorem dX9_year_63 : decode cX9_year 63 = .ok (.ifCond .ne 14, 3) := by decide +kernel
theorem dX9_year_66 : decode cX9_year 66 = .ok (.aload_n 0, 1) := by decide +kernel
theorem dX9_year_67 : decode cX9_year 67 = .ok (.getfield 95, 3) := by decide +kernel
theorem dX9_year_70 : decode cX9_year 70 = .ok (.aload_n 0, 1) := by decide +kernel
theorem dX9_year_71 : decode cX9_year 71 = .ok (.getfield 98, 3) := by decide +kernel
theorem dX9_year_74 : decode cX9_year 74 = .ok (.if_icmp .lt (-33), 3) := by decide +kernel
theorem dX9_year_77 : decode cX9_year 77 = .ok (.aload_n 0, 1) := by decide +kernel
theorem dX9_year_78 : decode cX9_year 78 = .ok (.getfield 9, 3) := by decide +kernel
theorem dX9_year_81 : decode cX9_year 81 = .ok (.aload_n 0, 1) := by decide +kernel
theorem dX9_year_82 : decode cX9_year 82 = .ok (.getfield 19, 3) := by decide +kernel
theorem dX9_year_85 : decode cX9_year 85 = .ok (.invokestatic 132, 3) := by decide +kernel
theorem dX9_year_88 : decode cX9_year 88 = .ok (.aload_n 0, 1) := by decide +kernel
theorem dX9_year_89 : decode cX9_year 89 = .ok (.iconst 0, 1) := by decide +kernel
theorem dX9_year_90 : decode cX9_year 90 = .ok (.putfield 95, 3) := by decide +kernel
theorem dX9_year_93 : decode cX9_year 93 = .ok (.iload 4, 2) := by decide +kernel
theorem dX9_year_95 : decode cX9_year 95 = .ok (.ifCond .ne 66, 3) := by decide +kernel
theorem dX9_year_98 : decode cX9_year 98 = .ok (.aload_n 0, 1) := by decide +kernel
theorem dX9_year_99 : decode cX9_year 99 = .ok (.getfield 95, 3) := by decide +kernel
theorem dX9_year_102 : decode cX9_year 102 = .ok (.aload_n 0, 1) := by decide +kernel
theorem dX9_year_103 : decode cX9_year 103 = .ok (.getfield 98, 3) := by decide +kernel
theorem dX9_year_106 : decode cX9_year 106 = .ok (.if_icmp .ge 55, 3) := by decide +kernel
theorem dX9_year_109 : decode cX9_year 109 = .ok (.aload_n 0, 1) := by decide +kernel
theorem dX9_year_110 : decode cX9_year 110 = .ok (.getfield 95, 3) := by decide +kernel
theorem dX9_year_113 : decode cX9_year 113 = .ok (.istore 5, 2) := by decide +kernel
theorem dX9_year_115 : decode cX9_year 115 = .ok (.aload_n 0, 1) := by decide +kernel
theorem dX9_year_116 : decode cX9_year 116 = .ok (.invokevirtual 104, 3) := by decide +kernel
theorem dX9_year_119 : decode cX9_year 119 = .ok (.istore 6, 2) := by decide +kernel
theorem dX9_year_121 : decode cX9_year 121 = .ok (.aload_n 0, 1) := by decide +kernel
theorem dX9_year_122 : decode cX9_year 122 = .ok (.invokevirtual 128, 3) := by decide +kernel
theorem dX9_year_125 : decode cX9_year 125 = .ok (.istore 7, 2) := by decide +kernel
theorem dX9_year_127 : decode cX9_year 127 = .ok (.aload_n 0, 1) := by decide +kernel
theorem dX9_year_128 : decode cX9_year 128 = .ok (.iload 6, 2) := by decide +kernel
theorem dX9_year_130 : decode cX9_year 130 = .ok (.invokevirtual 136, 3) := by decide +kernel
theorem dX9_year_133 : decode cX9_year 133 = .ok (.ifCond .eq 6, 3) := by decide +kernel
theorem dX9_year_136 : decode cX9_year 136 = .ok (.goto (-43), 3) := by decide +kernel
theorem dX9_year_139 : decode cX9_year 139 = .ok (.sipush (-2000), 3) := by decide +kernel
theorem dX9_year_142 : decode cX9_year 142 = .ok (.iload 5, 2) := by decide +kernel
theorem dX9_year_144 : decode cX9_year 144 = .ok (.isub, 1) := by decide +kernel
theorem dX9_year_145 : decode cX9_year 145 = .ok (.istore 4, 2) := by decide +kernel
theorem dX9_year_147 : decode cX9_year 147 = .ok (.aload_n 0, 1) := by decide +kernel
theorem dX9_year_148 : decode cX9_year 148 = .ok (.getfield 19, 3) := by decide +kernel
theorem dX9_year_151 : decode cX9_year 151 = .ok (.aload_n 0, 1) := by decide +kernel
theorem dX9_year_152 : decode cX9_year 152 = .ok (.getfield 9, 3) := by decide +kernel
theorem dX9_year_155 : decode cX9_year 155 = .ok (.invokestatic 132, 3) := by decide +kernel
theorem dX9_year_158 : decode cX9_year 158 = .ok (.goto (-65), 3) := by decide +kernel
theorem dX9_year_161 : decode cX9_year 161 = .ok (.iload 4, 2) := by decide +kernel
theorem dX9_year_163 : decode cX9_year 163 = .ok (.ifCond .ne 7, 3) := by decide +kernel
theorem dX9_year_166 : decode cX9_year 166 = .ok (.iload_n 3, 1) := by decide +kernel
theorem dX9_year_167 : decode cX9_year 167 = .ok (.goto 5, 3) := by decide +kernel
theorem dX9_year_170 : decode cX9_year 170 = .ok (.iload 4, 2) := by decide +kernel
theorem dX9_year_172 : decode cX9_year 172 = .ok (.ireturn, 1) := by decide +kernel
theorem dX9_deed_0 : decode cX9_deed 0 = .ok (.aload_n 0, 1) := by decide +kernel
theorem dX9_deed_1 : decode cX9_deed 1 = .ok (.iload_n 1, 1) := by decide +kernel
theorem dX9_deed_2 : decode cX9_deed 2 = .ok (.invokevirtual 122, 3) := by decide +kernel
theorem dX9_deed_5 : decode cX9_deed 5 = .ok (.ifCond .eq 13, 3) := by decide +kernel
theorem dX9_deed_8 : decode cX9_deed 8 = .ok (.iload_n 2, 1) := by decide +kernel
theorem dX9_deed_9 : decode cX9_deed 9 = .ok (.iconst 0, 1) := by decide +kernel
theorem dX9_deed_10 : decode cX9_deed 10 = .ok (.bipush 7, 2) := by decide +kernel
theorem dX9_deed_12 : decode cX9_deed 12 = .ok (.invokestatic 49, 3) := by decide +kernel
theorem dX9_deed_15 : decode cX9_deed 15 = .ok (.ifCond .ne 5, 3) := by decide +kernel
theorem dX9_deed_18 : decode cX9_deed 18 = .ok (.iconst (-1), 1) := by decide +kernel
theorem dX9_deed_19 : decode cX9_deed 19 = .ok (.ireturn, 1) := by decide +kernel
theorem dX9_deed_20 : decode cX9_deed 20 = .ok (.aload_n 0, 1) := by decide +kernel
theorem dX9_deed_21 : decode cX9_deed 21 = .ok (.getfield 9, 3) := by decide +kernel
theorem dX9_deed_24 : decode cX9_deed 24 = .ok (.iload_n 1, 1) := by decide +kernel
theorem dX9_deed_25 : decode cX9_deed 25 = .ok (.iconst 0, 1) := by decide +kernel
theorem dX9_deed_26 : decode cX9_deed 26 = .ok (.invokestatic 57, 3) := by decide +kernel
theorem dX9_deed_29 : decode cX9_deed 29 = .ok (.iaload, 1) := by decide +kernel
theorem dX9_deed_30 : decode cX9_deed 30 = .ok (.istore_n 3, 1) := by decide +kernel
theorem dX9_deed_31 : decode cX9_deed 31 = .ok (.aload_n 0, 1) := by decide +kernel
theorem dX9_deed_32 : decode cX9_deed 32 = .ok (.getfield 9, 3) := by decide +kernel
theorem dX9_deed_35 : decode cX9_deed 35 = .ok (.iload_n 1, 1) := by decide +kernel
theorem dX9_deed_36 : decode cX9_deed 36 = .ok (.iconst 1, 1) := by decide +kernel
theorem dX9_deed_37 : decode cX9_deed 37 = .ok (.invokestatic 57, 3) := by decide +kernel
theorem dX9_deed_40 : decode cX9_deed 40 = .ok (.iaload, 1) := by decide +kernel
theorem dX9_deed_41 : decode cX9_deed 41 = .ok (.istore 4, 2) := by decide +kernel
theorem dX9_deed_43 : decode cX9_deed 43 = .ok (.iload_n 2, 1) := by decide +kernel
theorem dX9_deed_44 : decode cX9_deed 44 = .ok (.iconst 5, 1) := by decide +kernel
theorem dX9_deed_45 : decode cX9_deed 45 = .ok (.if_icmp .ge 16, 3) := by decide +kernel
theorem dX9_deed_48 : decode cX9_deed 48 = .ok (.aload_n 0, 1) := by decide +kernel
theorem dX9_deed_49 : decode cX9_deed 49 = .ok (.getfield 9, 3) := by decide +kernel
theorem dX9_deed_52 : decode cX9_deed 52 = .ok (.iload_n 1, 1) := by decide +kernel
theorem dX9_deed_53 : decode cX9_deed 53 = .ok (.iload_n 2, 1) := by decide +kernel
theorem dX9_deed_54 : decode cX9_deed 54 = .ok (.invokestatic 57, 3) := by decide +kernel
theorem dX9_deed_57 : decode cX9_deed 57 = .ok (.iaload, 1) := by decide +kernel
theorem dX9_deed_58 : decode cX9_deed 58 = .ok (.goto 38, 3) := by decide +kernel
theorem dX9_deed_61 : decode cX9_deed 61 = .ok (.iload_n 2, 1) := by decide +kernel
theorem dX9_deed_62 : decode cX9_deed 62 = .ok (.iconst 5, 1) := by decide +kernel
theorem dX9_deed_63 : decode cX9_deed 63 = .ok (.if_icmp .ne 12, 3) := by decide +kernel
theorem dX9_deed_66 : decode cX9_deed 66 = .ok (.iload_n 3, 1) := by decide +kernel
theorem dX9_deed_67 : decode cX9_deed 67 = .ok (.iload 4, 2) := by decide +kernel
theorem dX9_deed_69 : decode cX9_deed 69 = .ok (.invokestatic 53, 3) := by decide +kernel
theorem dX9_deed_72 : decode cX9_deed 72 = .ok (.goto 24, 3) := by decide +kernel
theorem dX9_deed_75 : decode cX9_deed 75 = .ok (.iload_n 2, 1) := by decide +kernel
theorem dX9_deed_76 : decode cX9_deed 76 = .ok (.bipush 6, 2) := by decide +kernel
theorem dX9_deed_78 : decode cX9_deed 78 = .ok (.if_icmp .ne 12, 3) := by decide +kernel
theorem dX9_deed_81 : decode cX9_deed 81 = .ok (.iload_n 3, 1) := by decide +kernel
theorem dX9_deed_82 : decode cX9_deed 82 = .ok (.iload 4, 2) := by decide +kernel
theorem dX9_deed_84 : decode cX9_deed 84 = .ok (.invokestatic 75, 3) := by decide +kernel
theorem dX9_deed_87 : decode cX9_deed 87 = .ok (.goto 9, 3) := by decide +kernel
theorem dX9_deed_90 : decode cX9_deed 90 = .ok (.iload_n 3, 1) := by decide +kernel
theorem dX9_deed_91 : decode cX9_deed 91 = .ok (.iload 4, 2) := by decide +kernel
theorem dX9_deed_93 : decode cX9_deed 93 = .ok (.invokestatic 60, 3) := by decide +kernel
theorem dX9_deed_96 : decode cX9_deed 96 = .ok (.ireturn, 1) := by decide +kernel
theorem dX9_guilt_0 : decode cX9_guilt 0 = .ok (.aload_n 0, 1) := by decide +kernel
theorem dX9_guilt_1 : decode cX9_guilt 1 = .ok (.iload_n 1, 1) := by decide +kernel
theorem dX9_guilt_2 : decode cX9_guilt 2 = .ok (.invokevirtual 122, 3) := by decide +kernel
theorem dX9_guilt_5 : decode cX9_guilt 5 = .ok (.ifCond .eq 29, 3) := by decide +kernel
theorem dX9_guilt_8 : decode cX9_guilt 8 = .ok (.aload_n 0, 1) := by decide +kernel
theorem dX9_guilt_9 : decode cX9_guilt 9 = .ok (.getfield 9, 3) := by decide +kernel
theorem dX9_guilt_12 : decode cX9_guilt 12 = .ok (.iload_n 1, 1) := by decide +kernel
theorem dX9_guilt_13 : decode cX9_guilt 13 = .ok (.iconst 0, 1) := by decide +kernel
theorem dX9_guilt_14 : decode cX9_guilt 14 = .ok (.invokestatic 57, 3) := by decide +kernel
theorem dX9_guilt_17 : decode cX9_guilt 17 = .ok (.iaload, 1) := by decide +kernel
theorem dX9_guilt_18 : decode cX9_guilt 18 = .ok (.aload_n 0, 1) := by decide +kernel
theorem dX9_guilt_19 : decode cX9_guilt 19 = .ok (.getfield 9, 3) := by decide +kernel
theorem dX9_guilt_22 : decode cX9_guilt 22 = .ok (.iload_n 1, 1) := by decide +kernel
theorem dX9_guilt_23 : decode cX9_guilt 23 = .ok (.iconst 1, 1) := by decide +kernel
theorem dX9_guilt_24 : decode cX9_guilt 24 = .ok (.invokestatic 57, 3) := by decide +kernel
theorem dX9_guilt_27 : decode cX9_guilt 27 = .ok (.iaload, 1) := by decide +kernel
theorem dX9_guilt_28 : decode cX9_guilt 28 = .ok (.invokestatic 139, 3) := by decide +kernel
theorem dX9_guilt_31 : decode cX9_guilt 31 = .ok (.goto 5, 3) := by decide +kernel
theorem dX9_guilt_34 : decode cX9_guilt 34 = .ok (.ldc 142, 2) := by decide +kernel
theorem dX9_guilt_36 : decode cX9_guilt 36 = .ok (.ireturn, 1) := by decide +kernel
theorem dX9_done_0 : decode cX9_done 0 = .ok (.iload_n 2, 1) := by decide +kernel
theorem dX9_done_1 : decode cX9_done 1 = .ok (.invokestatic 111, 3) := by decide +kernel
theorem dX9_done_4 : decode cX9_done 4 = .ok (.ifCond .eq 21, 3) := by decide +kernel
theorem dX9_done_7 : decode cX9_done 7 = .ok (.iload_n 3, 1) := by decide +kernel
theorem dX9_done_8 : decode cX9_done 8 = .ok (.invokestatic 115, 3) := by decide +kernel
theorem dX9_done_11 : decode cX9_done 11 = .ok (.ifCond .eq 14, 3) := by decide +kernel
theorem dX9_done_14 : decode cX9_done 14 = .ok (.iload 4, 2) := by decide +kernel
theorem dX9_done_16 : decode cX9_done 16 = .ok (.iconst 0, 1) := by decide +kernel
theorem dX9_done_17 : decode cX9_done 17 = .ok (.bipush 31, 2) := by decide +kernel
theorem dX9_done_19 : decode cX9_done 19 = .ok (.invokestatic 49, 3) := by decide +kernel
theorem dX9_done_22 : decode cX9_done 22 = .ok (.ifCond .ne 5, 3) := by decide +kernel
theorem dX9_done_25 : decode cX9_done 25 = .ok (.iconst (-1), 1) := by decide +kernel
theorem dX9_done_26 : decode cX9_done 26 = .ok (.ireturn, 1) := by decide +kernel
theorem dX9_done_27 : decode cX9_done 27 = .ok (.aload_n 0, 1) := by decide +kernel
theorem dX9_done_28 : decode cX9_done 28 = .ok (.iload_n 1, 1) := by decide +kernel
theorem dX9_done_29 : decode cX9_done 29 = .ok (.invokevirtual 143, 3) := by decide +kernel
theorem dX9_done_32 : decode cX9_done 32 = .ok (.istore 5, 2) := by decide +kernel
theorem dX9_done_34 : decode cX9_done 34 = .ok (.iload 5, 2) := by decide +kernel
theorem dX9_done_36 : decode cX9_done 36 = .ok (.ifCond .eq 6, 3) := by decide +kernel
theorem dX9_done_39 : decode cX9_done 39 = .ok (.iload 5, 2) := by decide +kernel
theorem dX9_done_41 : decode cX9_done 41 = .ok (.ireturn, 1) := by decide +kernel
theorem dX9_done_42 : decode cX9_done 42 = .ok (.aload_n 0, 1) := by decide +kernel
theorem dX9_done_43 : decode cX9_done 43 = .ok (.getfield 9, 3) := by decide +kernel
theorem dX9_done_46 : decode cX9_done 46 = .ok (.iconst 0, 1) := by decide +kernel
theorem dX9_done_47 : decode cX9_done 47 = .ok (.iaload, 1) := by decide +kernel
theorem dX9_done_48 : decode cX9_done 48 = .ok (.bipush 10, 2) := by decide +kernel
theorem dX9_done_50 : decode cX9_done 50 = .ok (.if_icmp .ne 6, 3) := by decide +kernel
theorem dX9_done_53 : decode cX9_done 53 = .ok (.bipush (-2), 2) := by decide +kernel
theorem dX9_done_55 : decode cX9_done 55 = .ok (.ireturn, 1) := by decide +kernel
theorem dX9_done_56 : decode cX9_done 56 = .ok (.aload_n 0, 1) := by decide +kernel
theorem dX9_done_57 : decode cX9_done 57 = .ok (.getfield 9, 3) := by decide +kernel
theorem dX9_done_60 : decode cX9_done 60 = .ok (.aload_n 0, 1) := by decide +kernel
theorem dX9_done_61 : decode cX9_done 61 = .ok (.getfield 34, 3) := by decide +kernel
theorem dX9_done_64 : decode cX9_done 64 = .ok (.iload_n 1, 1) := by decide +kernel
theorem dX9_done_65 : decode cX9_done 65 = .ok (.iaload, 1) := by decide +kernel
theorem dX9_done_66 : decode cX9_done 66 = .ok (.aload_n 0, 1) := by decide +kernel
theorem dX9_done_67 : decode cX9_done 67 = .ok (.getfield 37, 3) := by decide +kernel
theorem dX9_done_70 : decode cX9_done 70 = .ok (.iload_n 1, 1) := by decide +kernel
theorem dX9_done_71 : decode cX9_done 71 = .ok (.iaload, 1) := by decide +kernel
theorem dX9_done_72 : decode cX9_done 72 = .ok (.iload_n 2, 1) := by decide +kernel
theorem dX9_done_73 : decode cX9_done 73 = .ok (.iload_n 3, 1) := by decide +kernel
theorem dX9_done_74 : decode cX9_done 74 = .ok (.iload 4, 2) := by decide +kernel
theorem dX9_done_76 : decode cX9_done 76 = .ok (.invokestatic 118, 3) := by decide +kernel
theorem dX9_done_79 : decode cX9_done 79 = .ok (.aload_n 0, 1) := by decide +kernel
theorem dX9_done_80 : decode cX9_done 80 = .ok (.getfield 9, 3) := by decide +kernel
theorem dX9_done_83 : decode cX9_done 83 = .ok (.iconst 0, 1) := by decide +kernel
theorem dX9_done_84 : decode cX9_done 84 = .ok (.iaload, 1) := by decide +kernel
theorem dX9_done_85 : decode cX9_done 85 = .ok (.iconst 1, 1) := by decide +kernel
theorem dX9_done_86 : decode cX9_done 86 = .ok (.isub, 1) := by decide +kernel
theorem dX9_done_87 : decode cX9_done 87 = .ok (.ireturn, 1) := by decide +kernel
theorem dX9_sees_0 : decode cX9_sees 0 = .ok (.aload_n 0, 1) := by decide +kernel
theorem dX9_sees_1 : decode cX9_sees 1 = .ok (.iload_n 1, 1) := by decide +kernel
theorem dX9_sees_2 : decode cX9_sees 2 = .ok (.invokevirtual 122, 3) := by decide +kernel
theorem dX9_sees_5 : decode cX9_sees 5 = .ok (.ifCond .eq 10, 3) := by decide +kernel
theorem dX9_sees_8 : decode cX9_sees 8 = .ok (.iload_n 2, 1) := by decide +kernel
theorem dX9_sees_9 : decode cX9_sees 9 = .ok (.invokestatic 115, 3) := by decide +kernel
theorem dX9_sees_12 : decode cX9_sees 12 = .ok (.ifCond .ne 5, 3) := by decide +kernel
theorem dX9_sees_15 : decode cX9_sees 15 = .ok (.iconst (-1), 1) := by decide +kernel
theorem dX9_sees_16 : decode cX9_sees 16 = .ok (.ireturn, 1) := by decide +kernel
theorem dX9_sees_17 : decode cX9_sees 17 = .ok (.aload_n 0, 1) := by decide +kernel
theorem dX9_sees_18 : decode cX9_sees 18 = .ok (.getfield 9, 3) := by decide +kernel
theorem dX9_sees_21 : decode cX9_sees 21 = .ok (.iload_n 1, 1) := by decide +kernel
theorem dX9_sees_22 : decode cX9_sees 22 = .ok (.iconst 3, 1) := by decide +kernel
theorem dX9_sees_23 : decode cX9_sees 23 = .ok (.invokestatic 57, 3) := by decide +kernel
theorem dX9_sees_26 : decode cX9_sees 26 = .ok (.iaload, 1) := by decide +kernel
theorem dX9_sees_27 : decode cX9_sees 27 = .ok (.iload_n 2, 1) := by decide +kernel
theorem dX9_sees_28 : decode cX9_sees 28 = .ok (.if_icmp .ne 6, 3) := by decide +kernel
theorem dX9_sees_31 : decode cX9_sees 31 = .ok (.bipush (-3), 2) := by decide +kernel
theorem dX9_sees_33 : decode cX9_sees 33 = .ok (.ireturn, 1) := by decide +kernel
theorem dX9_sees_34 : decode cX9_sees 34 = .ok (.aload_n 0, 1) := by decide +kernel
theorem dX9_sees_35 : decode cX9_sees 35 = .ok (.getfield 9, 3) := by decide +kernel
theorem dX9_sees_38 : decode cX9_sees 38 = .ok (.iload_n 1, 1) := by decide +kernel
theorem dX9_sees_39 : decode cX9_sees 39 = .ok (.iconst 4, 1) := by decide +kernel
theorem dX9_sees_40 : decode cX9_sees 40 = .ok (.invokestatic 57, 3) := by decide +kernel
theorem dX9_sees_43 : decode cX9_sees 43 = .ok (.dup2, 1) := by decide +kernel
theorem dX9_sees_44 : decode cX9_sees 44 = .ok (.iaload, 1) := by decide +kernel
theorem dX9_sees_45 : decode cX9_sees 45 = .ok (.iconst 1, 1) := by decide +kernel
theorem dX9_sees_46 : decode cX9_sees 46 = .ok (.iload_n 2, 1) := by decide +kernel
theorem dX9_sees_47 : decode cX9_sees 47 = .ok (.ishl, 1) := by decide +kernel
theorem dX9_sees_48 : decode cX9_sees 48 = .ok (.ixor, 1) := by decide +kernel
theorem dX9_sees_49 : decode cX9_sees 49 = .ok (.iastore, 1) := by decide +kernel
theorem dX9_sees_50 : decode cX9_sees 50 = .ok (.aload_n 0, 1) := by decide +kernel
theorem dX9_sees_51 : decode cX9_sees 51 = .ok (.getfield 9, 3) := by decide +kernel
theorem dX9_sees_54 : decode cX9_sees 54 = .ok (.iload_n 1, 1) := by decide +kernel
theorem dX9_sees_55 : decode cX9_sees 55 = .ok (.iconst 4, 1) := by decide +kernel
theorem dX9_sees_56 : decode cX9_sees 56 = .ok (.invokestatic 57, 3) := by decide +kernel
theorem dX9_sees_59 : decode cX9_sees 59 = .ok (.iaload, 1) := by decide +kernel
theorem dX9_sees_60 : decode cX9_sees 60 = .ok (.iload_n 2, 1) := by decide +kernel
theorem dX9_sees_61 : decode cX9_sees 61 = .ok (.ishr, 1) := by decide +kernel
theorem dX9_sees_62 : decode cX9_sees 62 = .ok (.iconst 1, 1) := by decide +kernel
theorem dX9_sees_63 : decode cX9_sees 63 = .ok (.iand, 1) := by decide +kernel
theorem dX9_sees_64 : decode cX9_sees 64 = .ok (.ireturn, 1) := by decide +kernel
theorem dX9_today_0 : decode cX9_today 0 = .ok (.iload_n 1, 1) := by decide +kernel
theorem dX9_today_1 : decode cX9_today 1 = .ok (.iconst 0, 1) := by decide +kernel
theorem dX9_today_2 : decode cX9_today 2 = .ok (.sipush 365, 3) := by decide +kernel
theorem dX9_today_5 : decode cX9_today 5 = .ok (.invokestatic 49, 3) := by decide +kernel
theorem dX9_today_8 : decode cX9_today 8 = .ok (.ifCond .ne 5, 3) := by decide +kernel
theorem dX9_today_11 : decode cX9_today 11 = .ok (.iconst (-1), 1) := by decide +kernel
theorem dX9_today_12 : decode cX9_today 12 = .ok (.ireturn, 1) := by decide +kernel
theorem dX9_today_13 : decode cX9_today 13 = .ok (.aload_n 0, 1) := by decide +kernel
theorem dX9_today_14 : decode cX9_today 14 = .ok (.getfield 9, 3) := by decide +kernel
theorem dX9_today_17 : decode cX9_today 17 = .ok (.iconst 1, 1) := by decide +kernel
theorem dX9_today_18 : decode cX9_today 18 = .ok (.iaload, 1) := by decide +kernel
theorem dX9_today_19 : decode cX9_today 19 = .ok (.istore_n 2, 1) := by decide +kernel
theorem dX9_today_20 : decode cX9_today 20 = .ok (.aload_n 0, 1) := by decide +kernel
theorem dX9_today_21 : decode cX9_today 21 = .ok (.getfield 9, 3) := by decide +kernel
theorem dX9_today_24 : decode cX9_today 24 = .ok (.iconst 1, 1) := by decide +kernel
theorem dX9_today_25 : decode cX9_today 25 = .ok (.iload_n 1, 1) := by decide +kernel
theorem dX9_today_26 : decode cX9_today 26 = .ok (.iastore, 1) := by decide +kernel
theorem dX9_today_27 : decode cX9_today 27 = .ok (.iload_n 2, 1) := by decide +kernel
theorem dX9_today_28 : decode cX9_today 28 = .ok (.ireturn, 1) := by decide +kernel
theorem dX9_remembers_0 : decode cX9_remembers 0 = .ok (.iload_n 1, 1) := by decide +kernel
theorem dX9_remembers_1 : decode cX9_remembers 1 = .ok (.invokestatic 115, 3) := by decide +kernel
theorem dX9_remembers_4 : decode cX9_remembers 4 = .ok (.ifCond .eq 11, 3) := by decide +kernel
theorem dX9_remembers_7 : decode cX9_remembers 7 = .ok (.aload_n 0, 1) := by decide +kernel
theorem dX9_remembers_8 : decode cX9_remembers 8 = .ok (.iload_n 2, 1) := by decide +kernel
theorem dX9_remembers_9 : decode cX9_remembers 9 = .ok (.invokevirtual 122, 3) := by decide +kernel
theorem dX9_remembers_12 : decode cX9_remembers 12 = .ok (.ifCond .ne 7, 3) := by decide +kernel
theorem dX9_remembers_15 : decode cX9_remembers 15 = .ok (.iconst (-1), 1) := by decide +kernel
theorem dX9_remembers_16 : decode cX9_remembers 16 = .ok (.goto 20, 3) := by decide +kernel
theorem dX9_remembers_19 : decode cX9_remembers 19 = .ok (.aload_n 0, 1) := by decide +kernel
theorem dX9_remembers_20 : decode cX9_remembers 20 = .ok (.getfield 9, 3) := by decide +kernel
theorem dX9_remembers_23 : decode cX9_remembers 23 = .ok (.iload_n 1, 1) := by decide +kernel
theorem dX9_remembers_24 : decode cX9_remembers 24 = .ok (.iload_n 2, 1) := by decide +kernel
theorem dX9_remembers_25 : decode cX9_remembers 25 = .ok (.invokestatic 78, 3) := by decide +kernel
theorem dX9_remembers_28 : decode cX9_remembers 28 = .ok (.ifCond .eq 7, 3) := by decide +kernel
theorem dX9_remembers_31 : decode cX9_remembers 31 = .ok (.iconst 1, 1) := by decide +kernel
theorem dX9_remembers_32 : decode cX9_remembers 32 = .ok (.goto 4, 3) := by decide +kernel
theorem dX9_remembers_35 : decode cX9_remembers 35 = .ok (.iconst 0, 1) := by decide +kernel
theorem dX9_remembers_36 : decode cX9_remembers 36 = .ok (.ireturn, 1) := by decide +kernel
theorem dX9_knows_0 : decode cX9_knows 0 = .ok (.iload_n 1, 1) := by decide +kernel
theorem dX9_knows_1 : decode cX9_knows 1 = .ok (.invokestatic 115, 3) := by decide +kernel
theorem dX9_knows_4 : decode cX9_knows 4 = .ok (.ifCond .eq 14, 3) := by decide +kernel
theorem dX9_knows_7 : decode cX9_knows 7 = .ok (.aload_n 0, 1) := by decide +kernel
theorem dX9_knows_8 : decode cX9_knows 8 = .ok (.getfield 9, 3) := by decide +kernel
theorem dX9_knows_11 : decode cX9_knows 11 = .ok (.iload_n 1, 1) := by decide +kernel
theorem dX9_knows_12 : decode cX9_knows 12 = .ok (.invokestatic 147, 3) := by decide +kernel
theorem dX9_knows_15 : decode cX9_knows 15 = .ok (.goto 4, 3) := by decide +kernel
theorem dX9_knows_18 : decode cX9_knows 18 = .ok (.iconst (-1), 1) := by decide +kernel
theorem dX9_knows_19 : decode cX9_knows 19 = .ok (.ireturn, 1) := by decide +kernel
theorem dX9_forgotten_0 : decode cX9_forgotten 0 = .ok (.iconst 0, 1) := by decide +kernel
theorem dX9_forgotten_1 : decode cX9_forgotten 1 = .ok (.istore_n 1, 1) := by decide +kernel
theorem dX9_forgotten_2 : decode cX9_forgotten 2 = .ok (.iconst 0, 1) := by decide +kernel
theorem dX9_forgotten_3 : decode cX9_forgotten 3 = .ok (.istore_n 2, 1) := by decide +kernel
theorem dX9_forgotten_4 : decode cX9_forgotten 4 = .ok (.iload_n 2, 1) := by decide +kernel
theorem dX9_forgotten_5 : decode cX9_forgotten 5 = .ok (.aload_n 0, 1) := by decide +kernel
theorem dX9_forgotten_6 : decode cX9_forgotten 6 = .ok (.getfield 9, 3) := by decide +kernel
theorem dX9_forgotten_9 : decode cX9_forgotten 9 = .ok (.iconst 0, 1) := by decide +kernel
theorem dX9_forgotten_10 : decode cX9_forgotten 10 = .ok (.iaload, 1) := by decide +kernel
theorem dX9_forgotten_11 : decode cX9_forgotten 11 = .ok (.if_icmp .ge 41, 3) := by decide +kernel
theorem dX9_forgotten_14 : decode cX9_forgotten 14 = .ok (.iload_n 1, 1) := by decide +kernel
theorem dX9_forgotten_15 : decode cX9_forgotten 15 = .ok (.aload_n 0, 1) := by decide +kernel
theorem dX9_forgotten_16 : decode cX9_forgotten 16 = .ok (.getfield 9, 3) := by decide +kernel
theorem dX9_forgotten_19 : decode cX9_forgotten 19 = .ok (.iload_n 2, 1) := by decide +kernel
theorem dX9_forgotten_20 : decode cX9_forgotten 20 = .ok (.invokestatic 67, 3) := by decide +kernel
theorem dX9_forgotten_23 : decode cX9_forgotten 23 = .ok (.ifCond .eq 20, 3) := by decide +kernel
theorem dX9_forgotten_26 : decode cX9_forgotten 26 = .ok (.aload_n 0, 1) := by decide +kernel
theorem dX9_forgotten_27 : decode cX9_forgotten 27 = .ok (.getfield 9, 3) := by decide +kernel
theorem dX9_forgotten_30 : decode cX9_forgotten 30 = .ok (.iload_n 2, 1) := by decide +kernel
theorem dX9_forgotten_31 : decode cX9_forgotten 31 = .ok (.invokestatic 150, 3) := by decide +kernel
theorem dX9_forgotten_34 : decode cX9_forgotten 34 = .ok (.ifCond .ne 9, 3) := by decide +kernel
theorem dX9_forgotten_37 : decode cX9_forgotten 37 = .ok (.iconst 1, 1) := by decide +kernel
theorem dX9_forgotten_38 : decode cX9_forgotten 38 = .ok (.iload_n 2, 1) := by decide +kernel
theorem dX9_forgotten_39 : decode cX9_forgotten 39 = .ok (.ishl, 1) := by decide +kernel
theorem dX9_forgotten_40 : decode cX9_forgotten 40 = .ok (.goto 4, 3) := by decide +kernel
theorem dX9_forgotten_43 : decode cX9_forgotten 43 = .ok (.iconst 0, 1) := by decide +kernel
theorem dX9_forgotten_44 : decode cX9_forgotten 44 = .ok (.ior, 1) := by decide +kernel
theorem dX9_forgotten_45 : decode cX9_forgotten 45 = .ok (.istore_n 1, 1) := by decide +kernel
theorem dX9_forgotten_46 : decode cX9_forgotten 46 = .ok (.iinc 2 1, 3) := by decide +kernel
theorem dX9_forgotten_49 : decode cX9_forgotten 49 = .ok (.goto (-45), 3) := by decide +kernel
theorem dX9_forgotten_52 : decode cX9_forgotten 52 = .ok (.iload_n 1, 1) := by decide +kernel
theorem dX9_forgotten_53 : decode cX9_forgotten 53 = .ok (.ireturn, 1) := by decide +kernel
theorem dX9_forgets_0 : decode cX9_forgets 0 = .ok (.iload_n 1, 1) := by decide +kernel
theorem dX9_forgets_1 : decode cX9_forgets 1 = .ok (.invokestatic 115, 3) := by decide +kernel
theorem dX9_forgets_4 : decode cX9_forgets 4 = .ok (.ifCond .eq 11, 3) := by decide +kernel
theorem dX9_forgets_7 : decode cX9_forgets 7 = .ok (.aload_n 0, 1) := by decide +kernel
theorem dX9_forgets_8 : decode cX9_forgets 8 = .ok (.iload_n 2, 1) := by decide +kernel
theorem dX9_forgets_9 : decode cX9_forgets 9 = .ok (.invokevirtual 122, 3) := by decide +kernel
theorem dX9_forgets_12 : decode cX9_forgets 12 = .ok (.ifCond .ne 5, 3) := by decide +kernel
theorem dX9_forgets_15 : decode cX9_forgets 15 = .ok (.iconst (-1), 1) := by decide +kernel
theorem dX9_forgets_16 : decode cX9_forgets 16 = .ok (.ireturn, 1) := by decide +kernel
theorem dX9_forgets_17 : decode cX9_forgets 17 = .ok (.aload_n 0, 1) := by decide +kernel
theorem dX9_forgets_18 : decode cX9_forgets 18 = .ok (.getfield 9, 3) := by decide +kernel
theorem dX9_forgets_21 : decode cX9_forgets 21 = .ok (.iload_n 1, 1) := by decide +kernel
theorem dX9_forgets_22 : decode cX9_forgets 22 = .ok (.iload_n 2, 1) := by decide +kernel
theorem dX9_forgets_23 : decode cX9_forgets 23 = .ok (.invokestatic 78, 3) := by decide +kernel
theorem dX9_forgets_26 : decode cX9_forgets 26 = .ok (.ifCond .ne 6, 3) := by decide +kernel
theorem dX9_forgets_29 : decode cX9_forgets 29 = .ok (.bipush (-3), 2) := by decide +kernel
theorem dX9_forgets_31 : decode cX9_forgets 31 = .ok (.ireturn, 1) := by decide +kernel
theorem dX9_forgets_32 : decode cX9_forgets 32 = .ok (.aload_n 0, 1) := by decide +kernel
theorem dX9_forgets_33 : decode cX9_forgets 33 = .ok (.getfield 9, 3) := by decide +kernel
theorem dX9_forgets_36 : decode cX9_forgets 36 = .ok (.aload_n 0, 1) := by decide +kernel
theorem dX9_forgets_37 : decode cX9_forgets 37 = .ok (.getfield 13, 3) := by decide +kernel
theorem dX9_forgets_40 : decode cX9_forgets 40 = .ok (.invokestatic 132, 3) := by decide +kernel
theorem dX9_forgets_43 : decode cX9_forgets 43 = .ok (.aload_n 0, 1) := by decide +kernel
theorem dX9_forgets_44 : decode cX9_forgets 44 = .ok (.getfield 9, 3) := by decide +kernel
theorem dX9_forgets_47 : decode cX9_forgets 47 = .ok (.iconst 1, 1) := by decide +kernel
theorem dX9_forgets_48 : decode cX9_forgets 48 = .ok (.iaload, 1) := by decide +kernel
theorem dX9_forgets_49 : decode cX9_forgets 49 = .ok (.istore_n 3, 1) := by decide +kernel
theorem dX9_forgets_50 : decode cX9_forgets 50 = .ok (.iload_n 3, 1) := by decide +kernel
theorem dX9_forgets_51 : decode cX9_forgets 51 = .ok (.sipush 365, 3) := by decide +kernel
theorem dX9_forgets_54 : decode cX9_forgets 54 = .ok (.if_icmp .gt 30, 3) := by decide +kernel
theorem dX9_forgets_57 : decode cX9_forgets 57 = .ok (.aload_n 0, 1) := by decide +kernel
theorem dX9_forgets_58 : decode cX9_forgets 58 = .ok (.getfield 13, 3) := by decide +kernel
theorem dX9_forgets_61 : decode cX9_forgets 61 = .ok (.iconst 1, 1) := by decide +kernel
theorem dX9_forgets_62 : decode cX9_forgets 62 = .ok (.iload_n 3, 1) := by decide +kernel
theorem dX9_forgets_63 : decode cX9_forgets 63 = .ok (.iastore, 1) := by decide +kernel
theorem dX9_forgets_64 : decode cX9_forgets 64 = .ok (.aload_n 0, 1) := by decide +kernel
theorem dX9_forgets_65 : decode cX9_forgets 65 = .ok (.getfield 13, 3) := by decide +kernel
theorem dX9_forgets_68 : decode cX9_forgets 68 = .ok (.iload_n 1, 1) := by decide +kernel
theorem dX9_forgets_69 : decode cX9_forgets 69 = .ok (.iload_n 2, 1) := by decide +kernel
theorem dX9_forgets_70 : decode cX9_forgets 70 = .ok (.invokestatic 78, 3) := by decide +kernel
theorem dX9_forgets_73 : decode cX9_forgets 73 = .ok (.ifCond .ne 5, 3) := by decide +kernel
theorem dX9_forgets_76 : decode cX9_forgets 76 = .ok (.iload_n 3, 1) := by decide +kernel
theorem dX9_forgets_77 : decode cX9_forgets 77 = .ok (.ireturn, 1) := by decide +kernel
theorem dX9_forgets_78 : decode cX9_forgets 78 = .ok (.iinc 3 1, 3) := by decide +kernel
theorem dX9_forgets_81 : decode cX9_forgets 81 = .ok (.goto (-31), 3) := by decide +kernel
theorem dX9_forgets_84 : decode cX9_forgets 84 = .ok (.bipush (-4), 2) := by decide +kernel
theorem dX9_forgets_86 : decode cX9_forgets 86 = .ok (.ireturn, 1) := by decide +kernel
theorem dX9_only_0 : decode cX9_only 0 = .ok (.iconst 0, 1) := by decide +kernel
theorem dX9_only_1 : decode cX9_only 1 = .ok (.istore_n 1, 1) := by decide +kernel
theorem dX9_only_2 : decode cX9_only 2 = .ok (.iconst 0, 1) := by decide +kernel
theorem dX9_only_3 : decode cX9_only 3 = .ok (.istore_n 2, 1) := by decide +kernel
theorem dX9_only_4 : decode cX9_only 4 = .ok (.iload_n 2, 1) := by decide +kernel
theorem dX9_only_5 : decode cX9_only 5 = .ok (.aload_n 0, 1) := by decide +kernel
theorem dX9_only_6 : decode cX9_only 6 = .ok (.getfield 9, 3) := by decide +kernel
theorem dX9_only_9 : decode cX9_only 9 = .ok (.iconst 0, 1) := by decide +kernel
theorem dX9_only_10 : decode cX9_only 10 = .ok (.iaload, 1) := by decide +kernel
theorem dX9_only_11 : decode cX9_only 11 = .ok (.if_icmp .ge 34, 3) := by decide +kernel
theorem dX9_only_14 : decode cX9_only 14 = .ok (.iload_n 1, 1) := by decide +kernel
theorem dX9_only_15 : decode cX9_only 15 = .ok (.aload_n 0, 1) := by decide +kernel
theorem dX9_only_16 : decode cX9_only 16 = .ok (.getfield 9, 3) := by decide +kernel
theorem dX9_only_19 : decode cX9_only 19 = .ok (.iload_n 2, 1) := by decide +kernel
theorem dX9_only_20 : decode cX9_only 20 = .ok (.invokestatic 150, 3) := by decide +kernel
theorem dX9_only_23 : decode cX9_only 23 = .ok (.invokestatic 153, 3) := by decide +kernel
theorem dX9_only_26 : decode cX9_only 26 = .ok (.iconst 1, 1) := by decide +kernel
theorem dX9_only_27 : decode cX9_only 27 = .ok (.if_icmp .ne 9, 3) := by decide +kernel
theorem dX9_only_30 : decode cX9_only 30 = .ok (.iconst 1, 1) := by decide +kernel
theorem dX9_only_31 : decode cX9_only 31 = .ok (.iload_n 2, 1) := by decide +kernel
theorem dX9_only_32 : decode cX9_only 32 = .ok (.ishl, 1) := by decide +kernel
theorem dX9_only_33 : decode cX9_only 33 = .ok (.goto 4, 3) := by decide +kernel
theorem dX9_only_36 : decode cX9_only 36 = .ok (.iconst 0, 1) := by decide +kernel
theorem dX9_only_37 : decode cX9_only 37 = .ok (.ior, 1) := by decide +kernel
theorem dX9_only_38 : decode cX9_only 38 = .ok (.istore_n 1, 1) := by decide +kernel
theorem dX9_only_39 : decode cX9_only 39 = .ok (.iinc 2 1, 3) := by decide +kernel
theorem dX9_only_42 : decode cX9_only 42 = .ok (.goto (-38), 3) := by decide +kernel
theorem dX9_only_45 : decode cX9_only 45 = .ok (.iload_n 1, 1) := by decide +kernel
theorem dX9_only_46 : decode cX9_only 46 = .ok (.ireturn, 1) := by decide +kernel
theorem dX9_knownBy_0 : decode cX9_knownBy 0 = .ok (.iconst 0, 1) := by decide +kernel
theorem dX9_knownBy_1 : decode cX9_knownBy 1 = .ok (.istore_n 2, 1) := by decide +kernel
theorem dX9_knownBy_2 : decode cX9_knownBy 2 = .ok (.iconst 0, 1) := by decide +kernel
theorem dX9_knownBy_3 : decode cX9_knownBy 3 = .ok (.istore_n 3, 1) := by decide +kernel
theorem dX9_knownBy_4 : decode cX9_knownBy 4 = .ok (.iload_n 3, 1) := by decide +kernel
theorem dX9_knownBy_5 : decode cX9_knownBy 5 = .ok (.iconst 5, 1) := by decide +kernel
theorem dX9_knownBy_6 : decode cX9_knownBy 6 = .ok (.if_icmp .ge 32, 3) := by decide +kernel
theorem dX9_knownBy_9 : decode cX9_knownBy 9 = .ok (.iload_n 2, 1) := by decide +kernel
theorem dX9_knownBy_10 : decode cX9_knownBy 10 = .ok (.iload_n 1, 1) := by decide +kernel
theorem dX9_knownBy_11 : decode cX9_knownBy 11 = .ok (.iload_n 3, 1) := by decide +kernel
theorem dX9_knownBy_12 : decode cX9_knownBy 12 = .ok (.invokestatic 63, 3) := by decide +kernel
theorem dX9_knownBy_15 : decode cX9_knownBy 15 = .ok (.ifCond .eq 14, 3) := by decide +kernel
theorem dX9_knownBy_18 : decode cX9_knownBy 18 = .ok (.aload_n 0, 1) := by decide +kernel
theorem dX9_knownBy_19 : decode cX9_knownBy 19 = .ok (.getfield 9, 3) := by decide +kernel
theorem dX9_knownBy_22 : decode cX9_knownBy 22 = .ok (.iload_n 3, 1) := by decide +kernel
theorem dX9_knownBy_23 : decode cX9_knownBy 23 = .ok (.invokestatic 147, 3) := by decide +kernel
theorem dX9_knownBy_26 : decode cX9_knownBy 26 = .ok (.goto 4, 3) := by decide +kernel
theorem dX9_knownBy_29 : decode cX9_knownBy 29 = .ok (.iconst 0, 1) := by decide +kernel
theorem dX9_knownBy_30 : decode cX9_knownBy 30 = .ok (.ior, 1) := by decide +kernel
theorem dX9_knownBy_31 : decode cX9_knownBy 31 = .ok (.istore_n 2, 1) := by decide +kernel
theorem dX9_knownBy_32 : decode cX9_knownBy 32 = .ok (.iinc 3 1, 3) := by decide +kernel
theorem dX9_knownBy_35 : decode cX9_knownBy 35 = .ok (.goto (-31), 3) := by decide +kernel
theorem dX9_knownBy_38 : decode cX9_knownBy 38 = .ok (.iload_n 2, 1) := by decide +kernel
theorem dX9_knownBy_39 : decode cX9_knownBy 39 = .ok (.ireturn, 1) := by decide +kernel
theorem dX9_witnesses_0 : decode cX9_witnesses 0 = .ok (.aload_n 0, 1) := by decide +kernel
theorem dX9_witnesses_1 : decode cX9_witnesses 1 = .ok (.bipush 31, 2) := by decide +kernel
theorem dX9_witnesses_3 : decode cX9_witnesses 3 = .ok (.invokevirtual 156, 3) := by decide +kernel
theorem dX9_witnesses_6 : decode cX9_witnesses 6 = .ok (.istore_n 1, 1) := by decide +kernel
theorem dX9_witnesses_7 : decode cX9_witnesses 7 = .ok (.bipush 31, 2) := by decide +kernel
theorem dX9_witnesses_9 : decode cX9_witnesses 9 = .ok (.istore_n 2, 1) := by decide +kernel
theorem dX9_witnesses_10 : decode cX9_witnesses 10 = .ok (.iconst 0, 1) := by decide +kernel
theorem dX9_witnesses_11 : decode cX9_witnesses 11 = .ok (.istore_n 3, 1) := by decide +kernel
theorem dX9_witnesses_12 : decode cX9_witnesses 12 = .ok (.iload_n 3, 1) := by decide +kernel
theorem dX9_witnesses_13 : decode cX9_witnesses 13 = .ok (.bipush 31, 2) := by decide +kernel
theorem dX9_witnesses_15 : decode cX9_witnesses 15 = .ok (.if_icmp .ge 31, 3) := by decide +kernel
theorem dX9_witnesses_18 : decode cX9_witnesses 18 = .ok (.iload_n 3, 1) := by decide +kernel
theorem dX9_witnesses_19 : decode cX9_witnesses 19 = .ok (.invokestatic 153, 3) := by decide +kernel
theorem dX9_witnesses_22 : decode cX9_witnesses 22 = .ok (.iload_n 2, 1) := by decide +kernel
theorem dX9_witnesses_23 : decode cX9_witnesses 23 = .ok (.invokestatic 153, 3) := by decide +kernel
theorem dX9_witnesses_26 : decode cX9_witnesses 26 = .ok (.if_icmp .ge 14, 3) := by decide +kernel
theorem dX9_witnesses_29 : decode cX9_witnesses 29 = .ok (.aload_n 0, 1) := by decide +kernel
theorem dX9_witnesses_30 : decode cX9_witnesses 30 = .ok (.iload_n 3, 1) := by decide +kernel
theorem dX9_witnesses_31 : decode cX9_witnesses 31 = .ok (.invokevirtual 156, 3) := by decide +kernel
theorem dX9_witnesses_34 : decode cX9_witnesses 34 = .ok (.iload_n 1, 1) := by decide +kernel
theorem dX9_witnesses_35 : decode cX9_witnesses 35 = .ok (.if_icmp .ne 5, 3) := by decide +kernel
theorem dX9_witnesses_38 : decode cX9_witnesses 38 = .ok (.iload_n 3, 1) := by decide +kernel
theorem dX9_witnesses_39 : decode cX9_witnesses 39 = .ok (.istore_n 2, 1) := by decide +kernel
theorem dX9_witnesses_40 : decode cX9_witnesses 40 = .ok (.iinc 3 1, 3) := by decide +kernel
theorem dX9_witnesses_43 : decode cX9_witnesses 43 = .ok (.goto (-31), 3) := by decide +kernel
theorem dX9_witnesses_46 : decode cX9_witnesses 46 = .ok (.iload_n 2, 1) := by decide +kernel
theorem dX9_witnesses_47 : decode cX9_witnesses 47 = .ok (.ireturn, 1) := by decide +kernel
theorem dX9_place_0 : decode cX9_place 0 = .ok (.aload_n 0, 1) := by decide +kernel
theorem dX9_place_1 : decode cX9_place 1 = .ok (.iload_n 1, 1) := by decide +kernel
theorem dX9_place_2 : decode cX9_place 2 = .ok (.invokevirtual 122, 3) := by decide +kernel
theorem dX9_place_5 : decode cX9_place 5 = .ok (.ifCond .eq 12, 3) := by decide +kernel
theorem dX9_place_8 : decode cX9_place 8 = .ok (.iload_n 2, 1) := by decide +kernel
theorem dX9_place_9 : decode cX9_place 9 = .ok (.iconst 0, 1) := by decide +kernel
theorem dX9_place_10 : decode cX9_place 10 = .ok (.iconst 1, 1) := by decide +kernel
theorem dX9_place_11 : decode cX9_place 11 = .ok (.invokestatic 49, 3) := by decide +kernel
theorem dX9_place_14 : decode cX9_place 14 = .ok (.ifCond .ne 5, 3) := by decide +kernel
theorem dX9_place_17 : decode cX9_place 17 = .ok (.iconst (-1), 1) := by decide +kernel
theorem dX9_place_18 : decode cX9_place 18 = .ok (.ireturn, 1) := by decide +kernel
theorem dX9_place_19 : decode cX9_place 19 = .ok (.aload_n 0, 1) := by decide +kernel
theorem dX9_place_20 : decode cX9_place 20 = .ok (.invokevirtual 159, 3) := by decide +kernel
theorem dX9_place_23 : decode cX9_place 23 = .ok (.aload_n 0, 1) := by decide +kernel
theorem dX9_place_24 : decode cX9_place 24 = .ok (.iload_n 1, 1) := by decide +kernel
theorem dX9_place_25 : decode cX9_place 25 = .ok (.invokevirtual 162, 3) := by decide +kernel
theorem dX9_place_28 : decode cX9_place 28 = .ok (.istore_n 3, 1) := by decide +kernel
theorem dX9_place_29 : decode cX9_place 29 = .ok (.iload_n 3, 1) := by decide +kernel
theorem dX9_place_30 : decode cX9_place 30 = .ok (.ifCond .lt 7, 3) := by decide +kernel
theorem dX9_place_33 : decode cX9_place 33 = .ok (.iload_n 2, 1) := by decide +kernel
theorem dX9_place_34 : decode cX9_place 34 = .ok (.ifCond .ne 7, 3) := by decide +kernel
theorem dX9_place_37 : decode cX9_place 37 = .ok (.iload_n 3, 1) := by decide +kernel
theorem dX9_place_38 : decode cX9_place 38 = .ok (.goto 9, 3) := by decide +kernel
theorem dX9_place_41 : decode cX9_place 41 = .ok (.aload_n 0, 1) := by decide +kernel
theorem dX9_place_42 : decode cX9_place 42 = .ok (.getfield 25, 3) := by decide +kernel
theorem dX9_place_45 : decode cX9_place 45 = .ok (.iload_n 3, 1) := by decide +kernel
theorem dX9_place_46 : decode cX9_place 46 = .ok (.iaload, 1) := by decide +kernel
theorem dX9_place_47 : decode cX9_place 47 = .ok (.ireturn, 1) := by decide +kernel
theorem dX9_pages_0 : decode cX9_pages 0 = .ok (.aload_n 0, 1) := by decide +kernel
theorem dX9_pages_1 : decode cX9_pages 1 = .ok (.invokevirtual 159, 3) := by decide +kernel
theorem dX9_pages_4 : decode cX9_pages 4 = .ok (.aload_n 0, 1) := by decide +kernel
theorem dX9_pages_5 : decode cX9_pages 5 = .ok (.getfield 92, 3) := by decide +kernel
theorem dX9_pages_8 : decode cX9_pages 8 = .ok (.ireturn, 1) := by decide +kernel
theorem dX9_looksUp_0 : decode cX9_looksUp 0 = .ok (.iload_n 1, 1) := by decide +kernel
theorem dX9_looksUp_1 : decode cX9_looksUp 1 = .ok (.invokestatic 115, 3) := by decide +kernel
theorem dX9_looksUp_4 : decode cX9_looksUp 4 = .ok (.ifCond .eq 12, 3) := by decide +kernel
theorem dX9_looksUp_7 : decode cX9_looksUp 7 = .ok (.iload_n 2, 1) := by decide +kernel
theorem dX9_looksUp_8 : decode cX9_looksUp 8 = .ok (.iconst 0, 1) := by decide +kernel
theorem dX9_looksUp_9 : decode cX9_looksUp 9 = .ok (.iconst 1, 1) := by decide +kernel
theorem dX9_looksUp_10 : decode cX9_looksUp 10 = .ok (.invokestatic 49, 3) := by decide +kernel
theorem dX9_looksUp_13 : decode cX9_looksUp 13 = .ok (.ifCond .ne 5, 3) := by decide +kernel
theorem dX9_looksUp_16 : decode cX9_looksUp 16 = .ok (.iconst (-1), 1) := by decide +kernel
theorem dX9_looksUp_17 : decode cX9_looksUp 17 = .ok (.ireturn, 1) := by decide +kernel
theorem dX9_looksUp_18 : decode cX9_looksUp 18 = .ok (.aload_n 0, 1) := by decide +kernel
theorem dX9_looksUp_19 : decode cX9_looksUp 19 = .ok (.invokevirtual 159, 3) := by decide +kernel
theorem dX9_looksUp_22 : decode cX9_looksUp 22 = .ok (.bipush (-4), 2) := by decide +kernel
theorem dX9_looksUp_24 : decode cX9_looksUp 24 = .ok (.istore_n 3, 1) := by decide +kernel
theorem dX9_looksUp_25 : decode cX9_looksUp 25 = .ok (.iconst 0, 1) := by decide +kernel
theorem dX9_looksUp_26 : decode cX9_looksUp 26 = .ok (.istore 4, 2) := by decide +kernel
theorem dX9_looksUp_28 : decode cX9_looksUp 28 = .ok (.iload 4, 2) := by decide +kernel
theorem dX9_looksUp_30 : decode cX9_looksUp 30 = .ok (.aload_n 0, 1) := by decide +kernel
theorem dX9_looksUp_31 : decode cX9_looksUp 31 = .ok (.getfield 85, 3) := by decide +kernel
theorem dX9_looksUp_34 : decode cX9_looksUp 34 = .ok (.if_icmp .ge 66, 3) := by decide +kernel
theorem dX9_looksUp_37 : decode cX9_looksUp 37 = .ok (.aload_n 0, 1) := by decide +kernel
theorem dX9_looksUp_38 : decode cX9_looksUp 38 = .ok (.getfield 9, 3) := by decide +kernel
theorem dX9_looksUp_41 : decode cX9_looksUp 41 = .ok (.aload_n 0, 1) := by decide +kernel
theorem dX9_looksUp_42 : decode cX9_looksUp 42 = .ok (.getfield 22, 3) := by decide +kernel
theorem dX9_looksUp_45 : decode cX9_looksUp 45 = .ok (.iload 4, 2) := by decide +kernel
theorem dX9_looksUp_47 : decode cX9_looksUp 47 = .ok (.iaload, 1) := by decide +kernel
theorem dX9_looksUp_48 : decode cX9_looksUp 48 = .ok (.iconst 3, 1) := by decide +kernel
theorem dX9_looksUp_49 : decode cX9_looksUp 49 = .ok (.invokestatic 57, 3) := by decide +kernel
theorem dX9_looksUp_52 : decode cX9_looksUp 52 = .ok (.iaload, 1) := by decide +kernel
theorem dX9_looksUp_53 : decode cX9_looksUp 53 = .ok (.iload_n 1, 1) := by decide +kernel
theorem dX9_looksUp_54 : decode cX9_looksUp 54 = .ok (.if_icmp .ne 40, 3) := by decide +kernel
theorem dX9_looksUp_57 : decode cX9_looksUp 57 = .ok (.iload_n 3, 1) := by decide +kernel
theorem dX9_looksUp_58 : decode cX9_looksUp 58 = .ok (.ifCond .lt 33, 3) := by decide +kernel
theorem dX9_looksUp_61 : decode cX9_looksUp 61 = .ok (.aload_n 0, 1) := by decide +kernel
theorem dX9_looksUp_62 : decode cX9_looksUp 62 = .ok (.getfield 9, 3) := by decide +kernel
theorem dX9_looksUp_65 : decode cX9_looksUp 65 = .ok (.aload_n 0, 1) := by decide +kernel
theorem dX9_looksUp_66 : decode cX9_looksUp 66 = .ok (.getfield 22, 3) := by decide +kernel
theorem dX9_looksUp_69 : decode cX9_looksUp 69 = .ok (.iload 4, 2) := by decide +kernel
theorem dX9_looksUp_71 : decode cX9_looksUp 71 = .ok (.iaload, 1) := by decide +kernel
theorem dX9_looksUp_72 : decode cX9_looksUp 72 = .ok (.invokestatic 81, 3) := by decide +kernel
theorem dX9_looksUp_75 : decode cX9_looksUp 75 = .ok (.aload_n 0, 1) := by decide +kernel
theorem dX9_looksUp_76 : decode cX9_looksUp 76 = .ok (.getfield 9, 3) := by decide +kernel
theorem dX9_looksUp_79 : decode cX9_looksUp 79 = .ok (.aload_n 0, 1) := by decide +kernel
theorem dX9_looksUp_80 : decode cX9_looksUp 80 = .ok (.getfield 22, 3) := by decide +kernel
theorem dX9_looksUp_83 : decode cX9_looksUp 83 = .ok (.iload_n 3, 1) := by decide +kernel
theorem dX9_looksUp_84 : decode cX9_looksUp 84 = .ok (.iaload, 1) := by decide +kernel
theorem dX9_looksUp_85 : decode cX9_looksUp 85 = .ok (.invokestatic 81, 3) := by decide +kernel
theorem dX9_looksUp_88 : decode cX9_looksUp 88 = .ok (.if_icmp .le 6, 3) := by decide +kernel
theorem dX9_looksUp_91 : decode cX9_looksUp 91 = .ok (.iload 4, 2) := by decide +kernel
theorem dX9_looksUp_93 : decode cX9_looksUp 93 = .ok (.istore_n 3, 1) := by decide +kernel
theorem dX9_looksUp_94 : decode cX9_looksUp 94 = .ok (.iinc 4 1, 3) := by decide +kernel
theorem dX9_looksUp_97 : decode cX9_looksUp 97 = .ok (.goto (-69), 3) := by decide +kernel
theorem dX9_looksUp_100 : decode cX9_looksUp 100 = .ok (.iload_n 2, 1) := by decide +kernel
theorem dX9_looksUp_101 : decode cX9_looksUp 101 = .ok (.ifCond .ne 19, 3) := by decide +kernel
theorem dX9_looksUp_104 : decode cX9_looksUp 104 = .ok (.iload_n 3, 1) := by decide +kernel
theorem dX9_looksUp_105 : decode cX9_looksUp 105 = .ok (.ifCond .ge 8, 3) := by decide +kernel
theorem dX9_looksUp_108 : decode cX9_looksUp 108 = .ok (.bipush (-4), 2) := by decide +kernel
theorem dX9_looksUp_110 : decode cX9_looksUp 110 = .ok (.goto 9, 3) := by decide +kernel
theorem dX9_looksUp_113 : decode cX9_looksUp 113 = .ok (.aload_n 0, 1) := by decide +kernel
theorem dX9_looksUp_114 : decode cX9_looksUp 114 = .ok (.getfield 25, 3) := by decide +kernel
theorem dX9_looksUp_117 : decode cX9_looksUp 117 = .ok (.iload_n 3, 1) := by decide +kernel
theorem dX9_looksUp_118 : decode cX9_looksUp 118 = .ok (.iaload, 1) := by decide +kernel
theorem dX9_looksUp_119 : decode cX9_looksUp 119 = .ok (.ireturn, 1) := by decide +kernel
theorem dX9_looksUp_120 : decode cX9_looksUp 120 = .ok (.iconst 0, 1) := by decide +kernel
theorem dX9_looksUp_121 : decode cX9_looksUp 121 = .ok (.istore 4, 2) := by decide +kernel
theorem dX9_looksUp_123 : decode cX9_looksUp 123 = .ok (.iconst 0, 1) := by decide +kernel
theorem dX9_looksUp_124 : decode cX9_looksUp 124 = .ok (.istore 5, 2) := by decide +kernel
theorem dX9_looksUp_126 : decode cX9_looksUp 126 = .ok (.iload 5, 2) := by decide +kernel
theorem dX9_looksUp_128 : decode cX9_looksUp 128 = .ok (.aload_n 0, 1) := by decide +kernel
theorem dX9_looksUp_129 : decode cX9_looksUp 129 = .ok (.getfield 85, 3) := by decide +kernel
theorem dX9_looksUp_132 : decode cX9_looksUp 132 = .ok (.if_icmp .ge 83, 3) := by decide +kernel
theorem dX9_looksUp_135 : decode cX9_looksUp 135 = .ok (.iload_n 3, 1) := by decide +kernel
theorem dX9_looksUp_136 : decode cX9_looksUp 136 = .ok (.ifCond .lt 79, 3) := by decide +kernel
theorem dX9_looksUp_139 : decode cX9_looksUp 139 = .ok (.iload 4, 2) := by decide +kernel
theorem dX9_looksUp_141 : decode cX9_looksUp 141 = .ok (.aload_n 0, 1) := by decide +kernel
theorem dX9_looksUp_142 : decode cX9_looksUp 142 = .ok (.getfield 25, 3) := by decide +kernel
theorem dX9_looksUp_145 : decode cX9_looksUp 145 = .ok (.iload 5, 2) := by decide +kernel
theorem dX9_looksUp_147 : decode cX9_looksUp 147 = .ok (.iaload, 1) := by decide +kernel
theorem dX9_looksUp_148 : decode cX9_looksUp 148 = .ok (.aload_n 0, 1) := by decide +kernel
theorem dX9_looksUp_149 : decode cX9_looksUp 149 = .ok (.getfield 25, 3) := by decide +kernel
theorem dX9_looksUp_152 : decode cX9_looksUp 152 = .ok (.iload_n 3, 1) := by decide +kernel
theorem dX9_looksUp_153 : decode cX9_looksUp 153 = .ok (.iaload, 1) := by decide +kernel
theorem dX9_looksUp_154 : decode cX9_looksUp 154 = .ok (.if_icmp .ne 51, 3) := by decide +kernel
theorem dX9_looksUp_157 : decode cX9_looksUp 157 = .ok (.aload_n 0, 1) := by decide +kernel
theorem dX9_looksUp_158 : decode cX9_looksUp 158 = .ok (.getfield 9, 3) := by decide +kernel
theorem dX9_looksUp_161 : decode cX9_looksUp 161 = .ok (.iload_n 1, 1) := by decide +kernel
theorem dX9_looksUp_162 : decode cX9_looksUp 162 = .ok (.aload_n 0, 1) := by decide +kernel
theorem dX9_looksUp_163 : decode cX9_looksUp 163 = .ok (.getfield 22, 3) := by decide +kernel
theorem dX9_looksUp_166 : decode cX9_looksUp 166 = .ok (.iload 5, 2) := by decide +kernel
theorem dX9_looksUp_168 : decode cX9_looksUp 168 = .ok (.iaload, 1) := by decide +kernel
theorem dX9_looksUp_169 : decode cX9_looksUp 169 = .ok (.invokestatic 71, 3) := by decide +kernel
theorem dX9_looksUp_172 : decode cX9_looksUp 172 = .ok (.ifCond .eq 33, 3) := by decide +kernel
theorem dX9_looksUp_175 : decode cX9_looksUp 175 = .ok (.aload_n 0, 1) := by decide +kernel
theorem dX9_looksUp_176 : decode cX9_looksUp 176 = .ok (.getfield 9, 3) := by decide +kernel
theorem dX9_looksUp_179 : decode cX9_looksUp 179 = .ok (.iload_n 1, 1) := by decide +kernel
theorem dX9_looksUp_180 : decode cX9_looksUp 180 = .ok (.aload_n 0, 1) := by decide +kernel
theorem dX9_looksUp_181 : decode cX9_looksUp 181 = .ok (.getfield 22, 3) := by decide +kernel
theorem dX9_looksUp_184 : decode cX9_looksUp 184 = .ok (.iload 5, 2) := by decide +kernel
theorem dX9_looksUp_186 : decode cX9_looksUp 186 = .ok (.iaload, 1) := by decide +kernel
theorem dX9_looksUp_187 : decode cX9_looksUp 187 = .ok (.invokestatic 78, 3) := by decide +kernel
theorem dX9_looksUp_190 : decode cX9_looksUp 190 = .ok (.ifCond .ne 15, 3) := by decide +kernel
theorem dX9_looksUp_193 : decode cX9_looksUp 193 = .ok (.iconst 1, 1) := by decide +kernel
theorem dX9_looksUp_194 : decode cX9_looksUp 194 = .ok (.aload_n 0, 1) := by decide +kernel
theorem dX9_looksUp_195 : decode cX9_looksUp 195 = .ok (.getfield 22, 3) := by decide +kernel
theorem dX9_looksUp_198 : decode cX9_looksUp 198 = .ok (.iload 5, 2) := by decide +kernel
theorem dX9_looksUp_200 : decode cX9_looksUp 200 = .ok (.iaload, 1) := by decide +kernel
theorem dX9_looksUp_201 : decode cX9_looksUp 201 = .ok (.ishl, 1) := by decide +kernel
theorem dX9_looksUp_202 : decode cX9_looksUp 202 = .ok (.goto 4, 3) := by decide +kernel
theorem dX9_looksUp_205 : decode cX9_looksUp 205 = .ok (.iconst 0, 1) := by decide +kernel
theorem dX9_looksUp_206 : decode cX9_looksUp 206 = .ok (.ior, 1) := by decide +kernel
theorem dX9_looksUp_207 : decode cX9_looksUp 207 = .ok (.istore 4, 2) := by decide +kernel
theorem dX9_looksUp_209 : decode cX9_looksUp 209 = .ok (.iinc 5 1, 3) := by decide +kernel
theorem dX9_looksUp_212 : decode cX9_looksUp 212 = .ok (.goto (-86), 3) := by decide +kernel
theorem dX9_looksUp_215 : decode cX9_looksUp 215 = .ok (.iload 4, 2) := by decide +kernel
theorem dX9_looksUp_217 : decode cX9_looksUp 217 = .ok (.ireturn, 1) := by decide +kernel
theorem dX9_uncut_0 : decode cX9_uncut 0 = .ok (.iload_n 1, 1) := by decide +kernel
theorem dX9_uncut_1 : decode cX9_uncut 1 = .ok (.iconst 0, 1) := by decide +kernel
theorem dX9_uncut_2 : decode cX9_uncut 2 = .ok (.bipush 9, 2) := by decide +kernel
theorem dX9_uncut_4 : decode cX9_uncut 4 = .ok (.invokestatic 49, 3) := by decide +kernel
theorem dX9_uncut_7 : decode cX9_uncut 7 = .ok (.ifCond .eq 12, 3) := by decide +kernel
theorem dX9_uncut_10 : decode cX9_uncut 10 = .ok (.iload_n 2, 1) := by decide +kernel
theorem dX9_uncut_11 : decode cX9_uncut 11 = .ok (.iconst 0, 1) := by decide +kernel
theorem dX9_uncut_12 : decode cX9_uncut 12 = .ok (.iconst 1, 1) := by decide +kernel
theorem dX9_uncut_13 : decode cX9_uncut 13 = .ok (.invokestatic 49, 3) := by decide +kernel
theorem dX9_uncut_16 : decode cX9_uncut 16 = .ok (.ifCond .ne 5, 3) := by decide +kernel
theorem dX9_uncut_19 : decode cX9_uncut 19 = .ok (.iconst (-1), 1) := by decide +kernel
theorem dX9_uncut_20 : decode cX9_uncut 20 = .ok (.ireturn, 1) := by decide +kernel
theorem dX9_uncut_21 : decode cX9_uncut 21 = .ok (.aload_n 0, 1) := by decide +kernel
theorem dX9_uncut_22 : decode cX9_uncut 22 = .ok (.invokevirtual 159, 3) := by decide +kernel
theorem dX9_uncut_25 : decode cX9_uncut 25 = .ok (.iconst 0, 1) := by decide +kernel
theorem dX9_uncut_26 : decode cX9_uncut 26 = .ok (.istore_n 3, 1) := by decide +kernel
theorem dX9_uncut_27 : decode cX9_uncut 27 = .ok (.bipush 31, 2) := by decide +kernel
theorem dX9_uncut_29 : decode cX9_uncut 29 = .ok (.istore 4, 2) := by decide +kernel
theorem dX9_uncut_31 : decode cX9_uncut 31 = .ok (.iconst 0, 1) := by decide +kernel
theorem dX9_uncut_32 : decode cX9_uncut 32 = .ok (.istore 5, 2) := by decide +kernel
theorem dX9_uncut_34 : decode cX9_uncut 34 = .ok (.iload 5, 2) := by decide +kernel
theorem dX9_uncut_36 : decode cX9_uncut 36 = .ok (.aload_n 0, 1) := by decide +kernel
theorem dX9_uncut_37 : decode cX9_uncut 37 = .ok (.getfield 85, 3) := by decide +kernel
theorem dX9_uncut_40 : decode cX9_uncut 40 = .ok (.if_icmp .ge 65, 3) := by decide +kernel
theorem dX9_uncut_43 : decode cX9_uncut 43 = .ok (.aload_n 0, 1) := by decide +kernel
theorem dX9_uncut_44 : decode cX9_uncut 44 = .ok (.getfield 25, 3) := by decide +kernel
theorem dX9_uncut_47 : decode cX9_uncut 47 = .ok (.iload 5, 2) := by decide +kernel
theorem dX9_uncut_49 : decode cX9_uncut 49 = .ok (.iaload, 1) := by decide +kernel
theorem dX9_uncut_50 : decode cX9_uncut 50 = .ok (.aload_n 0, 1) := by decide +kernel
theorem dX9_uncut_51 : decode cX9_uncut 51 = .ok (.getfield 92, 3) := by decide +kernel
theorem dX9_uncut_54 : decode cX9_uncut 54 = .ok (.iload_n 1, 1) := by decide +kernel
theorem dX9_uncut_55 : decode cX9_uncut 55 = .ok (.isub, 1) := by decide +kernel
theorem dX9_uncut_56 : decode cX9_uncut 56 = .ok (.if_icmp .lt 18, 3) := by decide +kernel
theorem dX9_uncut_59 : decode cX9_uncut 59 = .ok (.iload_n 3, 1) := by decide +kernel
theorem dX9_uncut_60 : decode cX9_uncut 60 = .ok (.iconst 1, 1) := by decide +kernel
theorem dX9_uncut_61 : decode cX9_uncut 61 = .ok (.aload_n 0, 1) := by decide +kernel
theorem dX9_uncut_62 : decode cX9_uncut 62 = .ok (.getfield 22, 3) := by decide +kernel
theorem dX9_uncut_65 : decode cX9_uncut 65 = .ok (.iload 5, 2) := by decide +kernel
theorem dX9_uncut_67 : decode cX9_uncut 67 = .ok (.iaload, 1) := by decide +kernel
theorem dX9_uncut_68 : decode cX9_uncut 68 = .ok (.ishl, 1) := by decide +kernel
theorem dX9_uncut_69 : decode cX9_uncut 69 = .ok (.ior, 1) := by decide +kernel
theorem dX9_uncut_70 : decode cX9_uncut 70 = .ok (.istore_n 3, 1) := by decide +kernel
theorem dX9_uncut_71 : decode cX9_uncut 71 = .ok (.goto 28, 3) := by decide +kernel
theorem dX9_uncut_74 : decode cX9_uncut 74 = .ok (.iload 4, 2) := by decide +kernel
theorem dX9_uncut_76 : decode cX9_uncut 76 = .ok (.iconst 1, 1) := by decide +kernel
theorem dX9_uncut_77 : decode cX9_uncut 77 = .ok (.aload_n 0, 1) := by decide +kernel
theorem dX9_uncut_78 : decode cX9_uncut 78 = .ok (.getfield 9, 3) := by decide +kernel
theorem dX9_uncut_81 : decode cX9_uncut 81 = .ok (.aload_n 0, 1) := by decide +kernel
theorem dX9_uncut_82 : decode cX9_uncut 82 = .ok (.getfield 22, 3) := by decide +kernel
theorem dX9_uncut_85 : decode cX9_uncut 85 = .ok (.iload 5, 2) := by decide +kernel
theorem dX9_uncut_87 : decode cX9_uncut 87 = .ok (.iaload, 1) := by decide +kernel
theorem dX9_uncut_88 : decode cX9_uncut 88 = .ok (.iconst 3, 1) := by decide +kernel
theorem dX9_uncut_89 : decode cX9_uncut 89 = .ok (.invokestatic 57, 3) := by decide +kernel
theorem dX9_uncut_92 : decode cX9_uncut 92 = .ok (.iaload, 1) := by decide +kernel
theorem dX9_uncut_93 : decode cX9_uncut 93 = .ok (.ishl, 1) := by decide +kernel
theorem dX9_uncut_94 : decode cX9_uncut 94 = .ok (.iconst (-1), 1) := by decide +kernel
theorem dX9_uncut_95 : decode cX9_uncut 95 = .ok (.ixor, 1) := by decide +kernel
theorem dX9_uncut_96 : decode cX9_uncut 96 = .ok (.iand, 1) := by decide +kernel
theorem dX9_uncut_97 : decode cX9_uncut 97 = .ok (.istore 4, 2) := by decide +kernel
theorem dX9_uncut_99 : decode cX9_uncut 99 = .ok (.iinc 5 1, 3) := by decide +kernel
theorem dX9_uncut_102 : decode cX9_uncut 102 = .ok (.goto (-68), 3) := by decide +kernel
theorem dX9_uncut_105 : decode cX9_uncut 105 = .ok (.iload_n 2, 1) := by decide +kernel
theorem dX9_uncut_106 : decode cX9_uncut 106 = .ok (.ifCond .ne 7, 3) := by decide +kernel
theorem dX9_uncut_109 : decode cX9_uncut 109 = .ok (.iload_n 3, 1) := by decide +kernel
theorem dX9_uncut_110 : decode cX9_uncut 110 = .ok (.goto 5, 3) := by decide +kernel
theorem dX9_uncut_113 : decode cX9_uncut 113 = .ok (.iload 4, 2) := by decide +kernel
theorem dX9_uncut_115 : decode cX9_uncut 115 = .ok (.ireturn, 1) := by decide +kernel
theorem dX9_guiltOf_0 : decode cX9_guiltOf 0 = .ok (.iconst 0, 1) := by decide +kernel
theorem dX9_guiltOf_1 : decode cX9_guiltOf 1 = .ok (.istore_n 2, 1) := by decide +kernel
theorem dX9_guiltOf_2 : decode cX9_guiltOf 2 = .ok (.iconst 0, 1) := by decide +kernel
theorem dX9_guiltOf_3 : decode cX9_guiltOf 3 = .ok (.istore_n 3, 1) := by decide +kernel
theorem dX9_guiltOf_4 : decode cX9_guiltOf 4 = .ok (.iload_n 3, 1) := by decide +kernel
theorem dX9_guiltOf_5 : decode cX9_guiltOf 5 = .ok (.aload_n 0, 1) := by decide +kernel
theorem dX9_guiltOf_6 : decode cX9_guiltOf 6 = .ok (.getfield 9, 3) := by decide +kernel
theorem dX9_guiltOf_9 : decode cX9_guiltOf 9 = .ok (.iconst 0, 1) := by decide +kernel
theorem dX9_guiltOf_10 : decode cX9_guiltOf 10 = .ok (.iaload, 1) := by decide +kernel
theorem dX9_guiltOf_11 : decode cX9_guiltOf 11 = .ok (.if_icmp .ge 64, 3) := by decide +kernel
theorem dX9_guiltOf_14 : decode cX9_guiltOf 14 = .ok (.iload_n 2, 1) := by decide +kernel
theorem dX9_guiltOf_15 : decode cX9_guiltOf 15 = .ok (.aload_n 0, 1) := by decide +kernel
theorem dX9_guiltOf_16 : decode cX9_guiltOf 16 = .ok (.getfield 9, 3) := by decide +kernel
theorem dX9_guiltOf_19 : decode cX9_guiltOf 19 = .ok (.iload_n 3, 1) := by decide +kernel
theorem dX9_guiltOf_20 : decode cX9_guiltOf 20 = .ok (.invokestatic 67, 3) := by decide +kernel
theorem dX9_guiltOf_23 : decode cX9_guiltOf 23 = .ok (.ifCond .eq 43, 3) := by decide +kernel
theorem dX9_guiltOf_26 : decode cX9_guiltOf 26 = .ok (.aload_n 0, 1) := by decide +kernel
theorem dX9_guiltOf_27 : decode cX9_guiltOf 27 = .ok (.getfield 9, 3) := by decide +kernel
theorem dX9_guiltOf_30 : decode cX9_guiltOf 30 = .ok (.iload_n 3, 1) := by decide +kernel
theorem dX9_guiltOf_31 : decode cX9_guiltOf 31 = .ok (.iconst 3, 1) := by decide +kernel
theorem dX9_guiltOf_32 : decode cX9_guiltOf 32 = .ok (.invokestatic 57, 3) := by decide +kernel
theorem dX9_guiltOf_35 : decode cX9_guiltOf 35 = .ok (.iaload, 1) := by decide +kernel
theorem dX9_guiltOf_36 : decode cX9_guiltOf 36 = .ok (.iload_n 1, 1) := by decide +kernel
theorem dX9_guiltOf_37 : decode cX9_guiltOf 37 = .ok (.if_icmp .ne 29, 3) := by decide +kernel
theorem dX9_guiltOf_40 : decode cX9_guiltOf 40 = .ok (.aload_n 0, 1) := by decide +kernel
theorem dX9_guiltOf_41 : decode cX9_guiltOf 41 = .ok (.getfield 9, 3) := by decide +kernel
theorem dX9_guiltOf_44 : decode cX9_guiltOf 44 = .ok (.iload_n 3, 1) := by decide +kernel
theorem dX9_guiltOf_45 : decode cX9_guiltOf 45 = .ok (.iconst 0, 1) := by decide +kernel
theorem dX9_guiltOf_46 : decode cX9_guiltOf 46 = .ok (.invokestatic 57, 3) := by decide +kernel
theorem dX9_guiltOf_49 : decode cX9_guiltOf 49 = .ok (.iaload, 1) := by decide +kernel
theorem dX9_guiltOf_50 : decode cX9_guiltOf 50 = .ok (.aload_n 0, 1) := by decide +kernel
theorem dX9_guiltOf_51 : decode cX9_guiltOf 51 = .ok (.getfield 9, 3) := by decide +kernel
theorem dX9_guiltOf_54 : decode cX9_guiltOf 54 = .ok (.iload_n 3, 1) := by decide +kernel
theorem dX9_guiltOf_55 : decode cX9_guiltOf 55 = .ok (.iconst 1, 1) := by decide +kernel
theorem dX9_guiltOf_56 : decode cX9_guiltOf 56 = .ok (.invokestatic 57, 3) := by decide +kernel
theorem dX9_guiltOf_59 : decode cX9_guiltOf 59 = .ok (.iaload, 1) := by decide +kernel
theorem dX9_guiltOf_60 : decode cX9_guiltOf 60 = .ok (.invokestatic 139, 3) := by decide +kernel
theorem dX9_guiltOf_63 : decode cX9_guiltOf 63 = .ok (.goto 4, 3) := by decide +kernel
theorem dX9_guiltOf_66 : decode cX9_guiltOf 66 = .ok (.iconst 0, 1) := by decide +kernel
theorem dX9_guiltOf_67 : decode cX9_guiltOf 67 = .ok (.iadd, 1) := by decide +kernel
theorem dX9_guiltOf_68 : decode cX9_guiltOf 68 = .ok (.istore_n 2, 1) := by decide +kernel
theorem dX9_guiltOf_69 : decode cX9_guiltOf 69 = .ok (.iinc 3 1, 3) := by decide +kernel
theorem dX9_guiltOf_72 : decode cX9_guiltOf 72 = .ok (.goto (-68), 3) := by decide +kernel
theorem dX9_guiltOf_75 : decode cX9_guiltOf 75 = .ok (.iload_n 2, 1) := by decide +kernel
theorem dX9_guiltOf_76 : decode cX9_guiltOf 76 = .ok (.ireturn, 1) := by decide +kernel
theorem dX9_guiltyBy_0 : decode cX9_guiltyBy 0 = .ok (.iconst 0, 1) := by decide +kernel
theorem dX9_guiltyBy_1 : decode cX9_guiltyBy 1 = .ok (.istore_n 2, 1) := by decide +kernel
theorem dX9_guiltyBy_2 : decode cX9_guiltyBy 2 = .ok (.iconst 0, 1) := by decide +kernel
theorem dX9_guiltyBy_3 : decode cX9_guiltyBy 3 = .ok (.istore_n 3, 1) := by decide +kernel
theorem dX9_guiltyBy_4 : decode cX9_guiltyBy 4 = .ok (.iload_n 3, 1) := by decide +kernel
theorem dX9_guiltyBy_5 : decode cX9_guiltyBy 5 = .ok (.iconst 5, 1) := by decide +kernel
theorem dX9_guiltyBy_6 : decode cX9_guiltyBy 6 = .ok (.if_icmp .ge 28, 3) := by decide +kernel
theorem dX9_guiltyBy_9 : decode cX9_guiltyBy 9 = .ok (.iload_n 2, 1) := by decide +kernel
theorem dX9_guiltyBy_10 : decode cX9_guiltyBy 10 = .ok (.aload_n 0, 1) := by decide +kernel
theorem dX9_guiltyBy_11 : decode cX9_guiltyBy 11 = .ok (.iload_n 3, 1) := by decide +kernel
theorem dX9_guiltyBy_12 : decode cX9_guiltyBy 12 = .ok (.invokevirtual 165, 3) := by decide +kernel
theorem dX9_guiltyBy_15 : decode cX9_guiltyBy 15 = .ok (.iload_n 1, 1) := by decide +kernel
theorem dX9_guiltyBy_16 : decode cX9_guiltyBy 16 = .ok (.if_icmp .lt 9, 3) := by decide +kernel
theorem dX9_guiltyBy_19 : decode cX9_guiltyBy 19 = .ok (.iconst 1, 1) := by decide +kernel
theorem dX9_guiltyBy_20 : decode cX9_guiltyBy 20 = .ok (.iload_n 3, 1) := by decide +kernel
theorem dX9_guiltyBy_21 : decode cX9_guiltyBy 21 = .ok (.ishl, 1) := by decide +kernel
theorem dX9_guiltyBy_22 : decode cX9_guiltyBy 22 = .ok (.goto 4, 3) := by decide +kernel
theorem dX9_guiltyBy_25 : decode cX9_guiltyBy 25 = .ok (.iconst 0, 1) := by decide +kernel
theorem dX9_guiltyBy_26 : decode cX9_guiltyBy 26 = .ok (.ior, 1) := by decide +kernel
theorem dX9_guiltyBy_27 : decode cX9_guiltyBy 27 = .ok (.istore_n 2, 1) := by decide +kernel
theorem dX9_guiltyBy_28 : decode cX9_guiltyBy 28 = .ok (.iinc 3 1, 3) := by decide +kernel
theorem dX9_guiltyBy_31 : decode cX9_guiltyBy 31 = .ok (.goto (-27), 3) := by decide +kernel
theorem dX9_guiltyBy_34 : decode cX9_guiltyBy 34 = .ok (.iload_n 2, 1) := by decide +kernel
theorem dX9_guiltyBy_35 : decode cX9_guiltyBy 35 = .ok (.ireturn, 1) := by decide +kernel
theorem dX9_guilty_0 : decode cX9_guilty 0 = .ok (.iload_n 1, 1) := by decide +kernel
theorem dX9_guilty_1 : decode cX9_guilty 1 = .ok (.bipush (-30), 2) := by decide +kernel
theorem dX9_guilty_3 : decode cX9_guilty 3 = .ok (.bipush 99, 2) := by decide +kernel
theorem dX9_guilty_5 : decode cX9_guilty 5 = .ok (.invokestatic 49, 3) := by decide +kernel
theorem dX9_guilty_8 : decode cX9_guilty 8 = .ok (.ifCond .eq 11, 3) := by decide +kernel
theorem dX9_guilty_11 : decode cX9_guilty 11 = .ok (.aload_n 0, 1) := by decide +kernel
theorem dX9_guilty_12 : decode cX9_guilty 12 = .ok (.iload_n 1, 1) := by decide +kernel
theorem dX9_guilty_13 : decode cX9_guilty 13 = .ok (.invokevirtual 168, 3) := by decide +kernel
theorem dX9_guilty_16 : decode cX9_guilty 16 = .ok (.goto 4, 3) := by decide +kernel
theorem dX9_guilty_19 : decode cX9_guilty 19 = .ok (.iconst (-1), 1) := by decide +kernel
theorem dX9_guilty_20 : decode cX9_guilty 20 = .ok (.ireturn, 1) := by decide +kernel
theorem dX9_price_0 : decode cX9_price 0 = .ok (.iload_n 1, 1) := by decide +kernel
theorem dX9_price_1 : decode cX9_price 1 = .ok (.iconst 0, 1) := by decide +kernel
theorem dX9_price_2 : decode cX9_price 2 = .ok (.iconst 1, 1) := by decide +kernel
theorem dX9_price_3 : decode cX9_price 3 = .ok (.invokestatic 49, 3) := by decide +kernel
theorem dX9_price_6 : decode cX9_price 6 = .ok (.ifCond .ne 5, 3) := by decide +kernel
theorem dX9_price_9 : decode cX9_price 9 = .ok (.iconst (-1), 1) := by decide +kernel
theorem dX9_price_10 : decode cX9_price 10 = .ok (.ireturn, 1) := by decide +kernel
theorem dX9_price_11 : decode cX9_price 11 = .ok (.iconst 1, 1) := by decide +kernel
theorem dX9_price_12 : decode cX9_price 12 = .ok (.istore_n 2, 1) := by decide +kernel
theorem dX9_price_13 : decode cX9_price 13 = .ok (.iconst (-1), 1) := by decide +kernel
theorem dX9_price_14 : decode cX9_price 14 = .ok (.istore_n 3, 1) := by decide +kernel
theorem dX9_price_15 : decode cX9_price 15 = .ok (.iconst 1, 1) := by decide +kernel
theorem dX9_price_16 : decode cX9_price 16 = .ok (.istore 4, 2) := by decide +kernel
theorem dX9_price_18 : decode cX9_price 18 = .ok (.iload 4, 2) := by decide +kernel
theorem dX9_price_20 : decode cX9_price 20 = .ok (.bipush 99, 2) := by decide +kernel
theorem dX9_price_22 : decode cX9_price 22 = .ok (.if_icmp .gt 38, 3) := by decide +kernel
theorem dX9_price_25 : decode cX9_price 25 = .ok (.iload 4, 2) := by decide +kernel
theorem dX9_price_27 : decode cX9_price 27 = .ok (.aload_n 0, 1) := by decide +kernel
theorem dX9_price_28 : decode cX9_price 28 = .ok (.iload 4, 2) := by decide +kernel
theorem dX9_price_30 : decode cX9_price 30 = .ok (.invokevirtual 168, 3) := by decide +kernel
theorem dX9_price_33 : decode cX9_price 33 = .ok (.invokestatic 153, 3) := by decide +kernel
theorem dX9_price_36 : decode cX9_price 36 = .ok (.imul, 1) := by decide +kernel
theorem dX9_price_37 : decode cX9_price 37 = .ok (.istore 5, 2) := by decide +kernel
theorem dX9_price_39 : decode cX9_price 39 = .ok (.iload 5, 2) := by decide +kernel
theorem dX9_price_41 : decode cX9_price 41 = .ok (.iload_n 3, 1) := by decide +kernel
theorem dX9_price_42 : decode cX9_price 42 = .ok (.if_icmp .gt 6, 3) := by decide +kernel
theorem dX9_price_45 : decode cX9_price 45 = .ok (.goto 9, 3) := by decide +kernel
theorem dX9_price_48 : decode cX9_price 48 = .ok (.iload 4, 2) := by decide +kernel
theorem dX9_price_50 : decode cX9_price 50 = .ok (.istore_n 2, 1) := by decide +kernel
theorem dX9_price_51 : decode cX9_price 51 = .ok (.iload 5, 2) := by decide +kernel
theorem dX9_price_53 : decode cX9_price 53 = .ok (.istore_n 3, 1) := by decide +kernel
theorem dX9_price_54 : decode cX9_price 54 = .ok (.iinc 4 1, 3) := by decide +kernel
theorem dX9_price_57 : decode cX9_price 57 = .ok (.goto (-39), 3) := by decide +kernel
theorem dX9_price_60 : decode cX9_price 60 = .ok (.iload_n 1, 1) := by decide +kernel
theorem dX9_price_61 : decode cX9_price 61 = .ok (.ifCond .ne 7, 3) := by decide +kernel
theorem dX9_price_64 : decode cX9_price 64 = .ok (.iload_n 2, 1) := by decide +kernel
theorem dX9_price_65 : decode cX9_price 65 = .ok (.goto 4, 3) := by decide +kernel
theorem dX9_price_68 : decode cX9_price 68 = .ok (.iload_n 3, 1) := by decide +kernel
theorem dX9_price_69 : decode cX9_price 69 = .ok (.ireturn, 1) := by decide +kernel
theorem dX9_wrongDiary_0 : decode cX9_wrongDiary 0 = .ok (.aload_n 0, 1) := by decide +kernel
theorem dX9_wrongDiary_1 : decode cX9_wrongDiary 1 = .ok (.iload_n 1, 1) := by decide +kernel
theorem dX9_wrongDiary_2 : decode cX9_wrongDiary 2 = .ok (.iconst (-1), 1) := by decide +kernel
theorem dX9_wrongDiary_3 : decode cX9_wrongDiary 3 = .ok (.invokevirtual 125, 3) := by decide +kernel
theorem dX9_wrongDiary_6 : decode cX9_wrongDiary 6 = .ok (.istore_n 2, 1) := by decide +kernel
theorem dX9_wrongDiary_7 : decode cX9_wrongDiary 7 = .ok (.iload_n 2, 1) := by decide +kernel
theorem dX9_wrongDiary_8 : decode cX9_wrongDiary 8 = .ok (.ifCond .eq 5, 3) := by decide +kernel
theorem dX9_wrongDiary_11 : decode cX9_wrongDiary 11 = .ok (.iload_n 2, 1) := by decide +kernel
theorem dX9_wrongDiary_12 : decode cX9_wrongDiary 12 = .ok (.ireturn, 1) := by decide +kernel
theorem dX9_wrongDiary_13 : decode cX9_wrongDiary 13 = .ok (.aload_n 0, 1) := by decide +kernel
theorem dX9_wrongDiary_14 : decode cX9_wrongDiary 14 = .ok (.getfield 43, 3) := by decide +kernel
theorem dX9_wrongDiary_17 : decode cX9_wrongDiary 17 = .ok (.iload_n 1, 1) := by decide +kernel
theorem dX9_wrongDiary_18 : decode cX9_wrongDiary 18 = .ok (.iaload, 1) := by decide +kernel
theorem dX9_wrongDiary_19 : decode cX9_wrongDiary 19 = .ok (.iconst 2, 1) := by decide +kernel
theorem dX9_wrongDiary_20 : decode cX9_wrongDiary 20 = .ok (.irem, 1) := by decide +kernel
theorem dX9_wrongDiary_21 : decode cX9_wrongDiary 21 = .ok (.iconst 1, 1) := by decide +kernel
theorem dX9_wrongDiary_22 : decode cX9_wrongDiary 22 = .ok (.if_icmp .ne 6, 3) := by decide +kernel
theorem dX9_wrongDiary_25 : decode cX9_wrongDiary 25 = .ok (.bipush (-13), 2) := by decide +kernel
theorem dX9_wrongDiary_27 : decode cX9_wrongDiary 27 = .ok (.ireturn, 1) := by decide +kernel
theorem dX9_wrongDiary_28 : decode cX9_wrongDiary 28 = .ok (.iconst 0, 1) := by decide +kernel
theorem dX9_wrongDiary_29 : decode cX9_wrongDiary 29 = .ok (.istore_n 3, 1) := by decide +kernel
theorem dX9_wrongDiary_30 : decode cX9_wrongDiary 30 = .ok (.iload_n 3, 1) := by decide +kernel
theorem dX9_wrongDiary_31 : decode cX9_wrongDiary 31 = .ok (.aload_n 0, 1) := by decide +kernel
theorem dX9_wrongDiary_32 : decode cX9_wrongDiary 32 = .ok (.getfield 43, 3) := by decide +kernel
theorem dX9_wrongDiary_35 : decode cX9_wrongDiary 35 = .ok (.iload_n 1, 1) := by decide +kernel
theorem dX9_wrongDiary_36 : decode cX9_wrongDiary 36 = .ok (.iaload, 1) := by decide +kernel
theorem dX9_wrongDiary_37 : decode cX9_wrongDiary 37 = .ok (.if_icmp .ge 49, 3) := by decide +kernel
theorem dX9_wrongDiary_40 : decode cX9_wrongDiary 40 = .ok (.aload_n 0, 1) := by decide +kernel
theorem dX9_wrongDiary_41 : decode cX9_wrongDiary 41 = .ok (.aload_n 0, 1) := by decide +kernel
theorem dX9_wrongDiary_42 : decode cX9_wrongDiary 42 = .ok (.getfield 46, 3) := by decide +kernel
theorem dX9_wrongDiary_45 : decode cX9_wrongDiary 45 = .ok (.bipush 100, 2) := by decide +kernel
theorem dX9_wrongDiary_47 : decode cX9_wrongDiary 47 = .ok (.iload_n 1, 1) := by decide +kernel
theorem dX9_wrongDiary_48 : decode cX9_wrongDiary 48 = .ok (.imul, 1) := by decide +kernel
theorem dX9_wrongDiary_49 : decode cX9_wrongDiary 49 = .ok (.iload_n 3, 1) := by decide +kernel
theorem dX9_wrongDiary_50 : decode cX9_wrongDiary 50 = .ok (.iadd, 1) := by decide +kernel
theorem dX9_wrongDiary_51 : decode cX9_wrongDiary 51 = .ok (.iaload, 1) := by decide +kernel
theorem dX9_wrongDiary_52 : decode cX9_wrongDiary 52 = .ok (.invokevirtual 122, 3) := by decide +kernel
theorem dX9_wrongDiary_55 : decode cX9_wrongDiary 55 = .ok (.ifCond .eq 22, 3) := by decide +kernel
theorem dX9_wrongDiary_58 : decode cX9_wrongDiary 58 = .ok (.aload_n 0, 1) := by decide +kernel
theorem dX9_wrongDiary_59 : decode cX9_wrongDiary 59 = .ok (.getfield 46, 3) := by decide +kernel
theorem dX9_wrongDiary_62 : decode cX9_wrongDiary 62 = .ok (.bipush 100, 2) := by decide +kernel
theorem dX9_wrongDiary_64 : decode cX9_wrongDiary 64 = .ok (.iload_n 1, 1) := by decide +kernel
theorem dX9_wrongDiary_65 : decode cX9_wrongDiary 65 = .ok (.imul, 1) := by decide +kernel
theorem dX9_wrongDiary_66 : decode cX9_wrongDiary 66 = .ok (.iload_n 3, 1) := by decide +kernel
theorem dX9_wrongDiary_67 : decode cX9_wrongDiary 67 = .ok (.iadd, 1) := by decide +kernel
theorem dX9_wrongDiary_68 : decode cX9_wrongDiary 68 = .ok (.iconst 1, 1) := by decide +kernel
theorem dX9_wrongDiary_69 : decode cX9_wrongDiary 69 = .ok (.iadd, 1) := by decide +kernel
theorem dX9_wrongDiary_70 : decode cX9_wrongDiary 70 = .ok (.iaload, 1) := by decide +kernel
theorem dX9_wrongDiary_71 : decode cX9_wrongDiary 71 = .ok (.invokestatic 111, 3) := by decide +kernel
theorem dX9_wrongDiary_74 : decode cX9_wrongDiary 74 = .ok (.ifCond .ne 6, 3) := by decide +kernel
theorem dX9_wrongDiary_77 : decode cX9_wrongDiary 77 = .ok (.bipush (-13), 2) := by decide +kernel
theorem dX9_wrongDiary_79 : decode cX9_wrongDiary 79 = .ok (.ireturn, 1) := by decide +kernel
theorem dX9_wrongDiary_80 : decode cX9_wrongDiary 80 = .ok (.iinc 3 2, 3) := by decide +kernel
theorem dX9_wrongDiary_83 : decode cX9_wrongDiary 83 = .ok (.goto (-53), 3) := by decide +kernel
theorem dX9_wrongDiary_86 : decode cX9_wrongDiary 86 = .ok (.iconst 0, 1) := by decide +kernel
theorem dX9_wrongDiary_87 : decode cX9_wrongDiary 87 = .ok (.ireturn, 1) := by decide +kernel
theorem dX9_toldOften_0 : decode cX9_toldOften 0 = .ok (.iconst 0, 1) := by decide +kernel
theorem dX9_toldOften_1 : decode cX9_toldOften 1 = .ok (.istore 4, 2) := by decide +kernel
theorem dX9_toldOften_3 : decode cX9_toldOften 3 = .ok (.iconst 0, 1) := by decide +kernel
theorem dX9_toldOften_4 : decode cX9_toldOften 4 = .ok (.istore 5, 2) := by decide +kernel
theorem dX9_toldOften_6 : decode cX9_toldOften 6 = .ok (.iload 5, 2) := by decide +kernel
theorem dX9_toldOften_8 : decode cX9_toldOften 8 = .ok (.aload_n 0, 1) := by decide +kernel
theorem dX9_toldOften_9 : decode cX9_toldOften 9 = .ok (.getfield 43, 3) := by decide +kernel
theorem dX9_toldOften_12 : decode cX9_toldOften 12 = .ok (.iload_n 1, 1) := by decide +kernel
theorem dX9_toldOften_13 : decode cX9_toldOften 13 = .ok (.iaload, 1) := by decide +kernel
theorem dX9_toldOften_14 : decode cX9_toldOften 14 = .ok (.if_icmp .ge 57, 3) := by decide +kernel
theorem dX9_toldOften_17 : decode cX9_toldOften 17 = .ok (.iload 4, 2) := by decide +kernel
theorem dX9_toldOften_19 : decode cX9_toldOften 19 = .ok (.aload_n 0, 1) := by decide +kernel
theorem dX9_toldOften_20 : decode cX9_toldOften 20 = .ok (.getfield 46, 3) := by decide +kernel
theorem dX9_toldOften_23 : decode cX9_toldOften 23 = .ok (.bipush 100, 2) := by decide +kernel
theorem dX9_toldOften_25 : decode cX9_toldOften 25 = .ok (.iload_n 1, 1) := by decide +kernel
theorem dX9_toldOften_26 : decode cX9_toldOften 26 = .ok (.imul, 1) := by decide +kernel
theorem dX9_toldOften_27 : decode cX9_toldOften 27 = .ok (.iload 5, 2) := by decide +kernel
theorem dX9_toldOften_29 : decode cX9_toldOften 29 = .ok (.iadd, 1) := by decide +kernel
theorem dX9_toldOften_30 : decode cX9_toldOften 30 = .ok (.iaload, 1) := by decide +kernel
theorem dX9_toldOften_31 : decode cX9_toldOften 31 = .ok (.iload_n 2, 1) := by decide +kernel
theorem dX9_toldOften_32 : decode cX9_toldOften 32 = .ok (.if_icmp .ne 29, 3) := by decide +kernel
theorem dX9_toldOften_35 : decode cX9_toldOften 35 = .ok (.iload_n 3, 1) := by decide +kernel
theorem dX9_toldOften_36 : decode cX9_toldOften 36 = .ok (.ifCond .lt 21, 3) := by decide +kernel
theorem dX9_toldOften_39 : decode cX9_toldOften 39 = .ok (.aload_n 0, 1) := by decide +kernel
theorem dX9_toldOften_40 : decode cX9_toldOften 40 = .ok (.getfield 46, 3) := by decide +kernel
theorem dX9_toldOften_43 : decode cX9_toldOften 43 = .ok (.bipush 100, 2) := by decide +kernel
theorem dX9_toldOften_45 : decode cX9_toldOften 45 = .ok (.iload_n 1, 1) := by decide +kernel
theorem dX9_toldOften_46 : decode cX9_toldOften 46 = .ok (.imul, 1) := by decide +kernel
theorem dX9_toldOften_47 : decode cX9_toldOften 47 = .ok (.iload 5, 2) := by decide +kernel
theorem dX9_toldOften_49 : decode cX9_toldOften 49 = .ok (.iadd, 1) := by decide +kernel
theorem dX9_toldOften_50 : decode cX9_toldOften 50 = .ok (.iconst 1, 1) := by decide +kernel
theorem dX9_toldOften_51 : decode cX9_toldOften 51 = .ok (.iadd, 1) := by decide +kernel
theorem dX9_toldOften_52 : decode cX9_toldOften 52 = .ok (.iaload, 1) := by decide +kernel
theorem dX9_toldOften_53 : decode cX9_toldOften 53 = .ok (.iload_n 3, 1) := by decide +kernel
theorem dX9_toldOften_54 : decode cX9_toldOften 54 = .ok (.if_icmp .ne 7, 3) := by decide +kernel
theorem dX9_toldOften_57 : decode cX9_toldOften 57 = .ok (.iconst 1, 1) := by decide +kernel
theorem dX9_toldOften_58 : decode cX9_toldOften 58 = .ok (.goto 4, 3) := by decide +kernel
theorem dX9_toldOften_61 : decode cX9_toldOften 61 = .ok (.iconst 0, 1) := by decide +kernel
theorem dX9_toldOften_62 : decode cX9_toldOften 62 = .ok (.iadd, 1) := by decide +kernel
theorem dX9_toldOften_63 : decode cX9_toldOften 63 = .ok (.istore 4, 2) := by decide +kernel
theorem dX9_toldOften_65 : decode cX9_toldOften 65 = .ok (.iinc 5 2, 3) := by decide +kernel
theorem dX9_toldOften_68 : decode cX9_toldOften 68 = .ok (.goto (-62), 3) := by decide +kernel
theorem dX9_toldOften_71 : decode cX9_toldOften 71 = .ok (.iload 4, 2) := by decide +kernel
theorem dX9_toldOften_73 : decode cX9_toldOften 73 = .ok (.ireturn, 1) := by decide +kernel
theorem dX9_mostTold_0 : decode cX9_mostTold 0 = .ok (.bipush (-4), 2) := by decide +kernel
theorem dX9_mostTold_2 : decode cX9_mostTold 2 = .ok (.istore_n 3, 1) := by decide +kernel
theorem dX9_mostTold_3 : decode cX9_mostTold 3 = .ok (.iconst 0, 1) := by decide +kernel
theorem dX9_mostTold_4 : decode cX9_mostTold 4 = .ok (.istore 4, 2) := by decide +kernel
theorem dX9_mostTold_6 : decode cX9_mostTold 6 = .ok (.iload 4, 2) := by decide +kernel
theorem dX9_mostTold_8 : decode cX9_mostTold 8 = .ok (.aload_n 0, 1) := by decide +kernel
theorem dX9_mostTold_9 : decode cX9_mostTold 9 = .ok (.getfield 43, 3) := by decide +kernel
theorem dX9_mostTold_12 : decode cX9_mostTold 12 = .ok (.iload_n 1, 1) := by decide +kernel
theorem dX9_mostTold_13 : decode cX9_mostTold 13 = .ok (.iaload, 1) := by decide +kernel
theorem dX9_mostTold_14 : decode cX9_mostTold 14 = .ok (.if_icmp .ge 89, 3) := by decide +kernel
theorem dX9_mostTold_17 : decode cX9_mostTold 17 = .ok (.aload_n 0, 1) := by decide +kernel
theorem dX9_mostTold_18 : decode cX9_mostTold 18 = .ok (.getfield 46, 3) := by decide +kernel
theorem dX9_mostTold_21 : decode cX9_mostTold 21 = .ok (.bipush 100, 2) := by decide +kernel
theorem dX9_mostTold_23 : decode cX9_mostTold 23 = .ok (.iload_n 1, 1) := by decide +kernel
theorem dX9_mostTold_24 : decode cX9_mostTold 24 = .ok (.imul, 1) := by decide +kernel
theorem dX9_mostTold_25 : decode cX9_mostTold 25 = .ok (.iload 4, 2) := by decide +kernel
theorem dX9_mostTold_27 : decode cX9_mostTold 27 = .ok (.iadd, 1) := by decide +kernel
theorem dX9_mostTold_28 : decode cX9_mostTold 28 = .ok (.iconst 1, 1) := by decide +kernel
theorem dX9_mostTold_29 : decode cX9_mostTold 29 = .ok (.iadd, 1) := by decide +kernel
theorem dX9_mostTold_30 : decode cX9_mostTold 30 = .ok (.iaload, 1) := by decide +kernel
theorem dX9_mostTold_31 : decode cX9_mostTold 31 = .ok (.istore 5, 2) := by decide +kernel
theorem dX9_mostTold_33 : decode cX9_mostTold 33 = .ok (.aload_n 0, 1) := by decide +kernel
theorem dX9_mostTold_34 : decode cX9_mostTold 34 = .ok (.getfield 46, 3) := by decide +kernel
theorem dX9_mostTold_37 : decode cX9_mostTold 37 = .ok (.bipush 100, 2) := by decide +kernel
theorem dX9_mostTold_39 : decode cX9_mostTold 39 = .ok (.iload_n 1, 1) := by decide +kernel
theorem dX9_mostTold_40 : decode cX9_mostTold 40 = .ok (.imul, 1) := by decide +kernel
theorem dX9_mostTold_41 : decode cX9_mostTold 41 = .ok (.iload 4, 2) := by decide +kernel
theorem dX9_mostTold_43 : decode cX9_mostTold 43 = .ok (.iadd, 1) := by decide +kernel
theorem dX9_mostTold_44 : decode cX9_mostTold 44 = .ok (.iaload, 1) := by decide +kernel
theorem dX9_mostTold_45 : decode cX9_mostTold 45 = .ok (.iload_n 2, 1) := by decide +kernel
theorem dX9_mostTold_46 : decode cX9_mostTold 46 = .ok (.if_icmp .eq 6, 3) := by decide +kernel
theorem dX9_mostTold_49 : decode cX9_mostTold 49 = .ok (.goto 48, 3) := by decide +kernel
theorem dX9_mostTold_52 : decode cX9_mostTold 52 = .ok (.iload_n 3, 1) := by decide +kernel
theorem dX9_mostTold_53 : decode cX9_mostTold 53 = .ok (.ifCond .ge 7, 3) := by decide +kernel
theorem dX9_mostTold_56 : decode cX9_mostTold 56 = .ok (.iconst 1, 1) := by decide +kernel
theorem dX9_mostTold_57 : decode cX9_mostTold 57 = .ok (.goto 19, 3) := by decide +kernel
theorem dX9_mostTold_60 : decode cX9_mostTold 60 = .ok (.aload_n 0, 1) := by decide +kernel
theorem dX9_mostTold_61 : decode cX9_mostTold 61 = .ok (.iload_n 1, 1) := by decide +kernel
theorem dX9_mostTold_62 : decode cX9_mostTold 62 = .ok (.iload_n 2, 1) := by decide +kernel
theorem dX9_mostTold_63 : decode cX9_mostTold 63 = .ok (.iload 5, 2) := by decide +kernel
theorem dX9_mostTold_65 : decode cX9_mostTold 65 = .ok (.invokevirtual 171, 3) := by decide +kernel
theorem dX9_mostTold_68 : decode cX9_mostTold 68 = .ok (.aload_n 0, 1) := by decide +kernel
theorem dX9_mostTold_69 : decode cX9_mostTold 69 = .ok (.iload_n 1, 1) := by decide +kernel
theorem dX9_mostTold_70 : decode cX9_mostTold 70 = .ok (.iload_n 2, 1) := by decide +kernel
theorem dX9_mostTold_71 : decode cX9_mostTold 71 = .ok (.iload_n 3, 1) := by decide +kernel
theorem dX9_mostTold_72 : decode cX9_mostTold 72 = .ok (.invokevirtual 171, 3) := by decide +kernel
theorem dX9_mostTold_75 : decode cX9_mostTold 75 = .ok (.isub, 1) := by decide +kernel
theorem dX9_mostTold_76 : decode cX9_mostTold 76 = .ok (.istore 6, 2) := by decide +kernel
theorem dX9_mostTold_78 : decode cX9_mostTold 78 = .ok (.iload 6, 2) := by decide +kernel
theorem dX9_mostTold_80 : decode cX9_mostTold 80 = .ok (.ifCond .gt 14, 3) := by decide +kernel
theorem dX9_mostTold_83 : decode cX9_mostTold 83 = .ok (.iload 6, 2) := by decide +kernel
theorem dX9_mostTold_85 : decode cX9_mostTold 85 = .ok (.ifCond .ne 12, 3) := by decide +kernel
theorem dX9_mostTold_88 : decode cX9_mostTold 88 = .ok (.iload 5, 2) := by decide +kernel
theorem dX9_mostTold_90 : decode cX9_mostTold 90 = .ok (.iload_n 3, 1) := by decide +kernel
theorem dX9_mostTold_91 : decode cX9_mostTold 91 = .ok (.if_icmp .ge 6, 3) := by decide +kernel
theorem dX9_mostTold_94 : decode cX9_mostTold 94 = .ok (.iload 5, 2) := by decide +kernel
theorem dX9_mostTold_96 : decode cX9_mostTold 96 = .ok (.istore_n 3, 1) := by decide +kernel
theorem dX9_mostTold_97 : decode cX9_mostTold 97 = .ok (.iinc 4 2, 3) := by decide +kernel
theorem dX9_mostTold_100 : decode cX9_mostTold 100 = .ok (.goto (-94), 3) := by decide +kernel
theorem dX9_mostTold_103 : decode cX9_mostTold 103 = .ok (.iload_n 3, 1) := by decide +kernel
theorem dX9_mostTold_104 : decode cX9_mostTold 104 = .ok (.ireturn, 1) := by decide +kernel
theorem dX9_slips_0 : decode cX9_slips 0 = .ok (.iload_n 2, 1) := by decide +kernel
theorem dX9_slips_1 : decode cX9_slips 1 = .ok (.iconst 0, 1) := by decide +kernel
theorem dX9_slips_2 : decode cX9_slips 2 = .ok (.iconst 1, 1) := by decide +kernel
theorem dX9_slips_3 : decode cX9_slips 3 = .ok (.invokestatic 49, 3) := by decide +kernel
theorem dX9_slips_6 : decode cX9_slips 6 = .ok (.ifCond .ne 5, 3) := by decide +kernel
theorem dX9_slips_9 : decode cX9_slips 9 = .ok (.iconst (-1), 1) := by decide +kernel
theorem dX9_slips_10 : decode cX9_slips 10 = .ok (.ireturn, 1) := by decide +kernel
theorem dX9_slips_11 : decode cX9_slips 11 = .ok (.aload_n 0, 1) := by decide +kernel
theorem dX9_slips_12 : decode cX9_slips 12 = .ok (.iload_n 1, 1) := by decide +kernel
theorem dX9_slips_13 : decode cX9_slips 13 = .ok (.invokevirtual 175, 3) := by decide +kernel
theorem dX9_slips_16 : decode cX9_slips 16 = .ok (.istore_n 3, 1) := by decide +kernel
theorem dX9_slips_17 : decode cX9_slips 17 = .ok (.iload_n 3, 1) := by decide +kernel
theorem dX9_slips_18 : decode cX9_slips 18 = .ok (.ifCond .eq 5, 3) := by decide +kernel
theorem dX9_slips_21 : decode cX9_slips 21 = .ok (.iload_n 3, 1) := by decide +kernel
theorem dX9_slips_22 : decode cX9_slips 22 = .ok (.ireturn, 1) := by decide +kernel
theorem dX9_slips_23 : decode cX9_slips 23 = .ok (.iconst 0, 1) := by decide +kernel
theorem dX9_slips_24 : decode cX9_slips 24 = .ok (.istore 4, 2) := by decide +kernel
theorem dX9_slips_26 : decode cX9_slips 26 = .ok (.iconst 0, 1) := by decide +kernel
theorem dX9_slips_27 : decode cX9_slips 27 = .ok (.istore 5, 2) := by decide +kernel
theorem dX9_slips_29 : decode cX9_slips 29 = .ok (.iload 5, 2) := by decide +kernel
theorem dX9_slips_31 : decode cX9_slips 31 = .ok (.aload_n 0, 1) := by decide +kernel
theorem dX9_slips_32 : decode cX9_slips 32 = .ok (.getfield 9, 3) := by decide +kernel
theorem dX9_slips_35 : decode cX9_slips 35 = .ok (.iconst 0, 1) := by decide +kernel
theorem dX9_slips_36 : decode cX9_slips 36 = .ok (.iaload, 1) := by decide +kernel
theorem dX9_slips_37 : decode cX9_slips 37 = .ok (.if_icmp .ge 52, 3) := by decide +kernel
theorem dX9_slips_40 : decode cX9_slips 40 = .ok (.iload_n 2, 1) := by decide +kernel
theorem dX9_slips_41 : decode cX9_slips 41 = .ok (.ifCond .ne 48, 3) := by decide +kernel
theorem dX9_slips_44 : decode cX9_slips 44 = .ok (.aload_n 0, 1) := by decide +kernel
theorem dX9_slips_45 : decode cX9_slips 45 = .ok (.iload_n 1, 1) := by decide +kernel
theorem dX9_slips_46 : decode cX9_slips 46 = .ok (.iload 5, 2) := by decide +kernel
theorem dX9_slips_48 : decode cX9_slips 48 = .ok (.iconst (-1), 1) := by decide +kernel
theorem dX9_slips_49 : decode cX9_slips 49 = .ok (.invokevirtual 171, 3) := by decide +kernel
theorem dX9_slips_52 : decode cX9_slips 52 = .ok (.ifCond .le 31, 3) := by decide +kernel
theorem dX9_slips_55 : decode cX9_slips 55 = .ok (.iload 4, 2) := by decide +kernel
theorem dX9_slips_57 : decode cX9_slips 57 = .ok (.aload_n 0, 1) := by decide +kernel
theorem dX9_slips_58 : decode cX9_slips 58 = .ok (.iload_n 1, 1) := by decide +kernel
theorem dX9_slips_59 : decode cX9_slips 59 = .ok (.iload 5, 2) := by decide +kernel
theorem dX9_slips_61 : decode cX9_slips 61 = .ok (.iconst (-1), 1) := by decide +kernel
theorem dX9_slips_62 : decode cX9_slips 62 = .ok (.invokevirtual 171, 3) := by decide +kernel
theorem dX9_slips_65 : decode cX9_slips 65 = .ok (.aload_n 0, 1) := by decide +kernel
theorem dX9_slips_66 : decode cX9_slips 66 = .ok (.iload_n 1, 1) := by decide +kernel
theorem dX9_slips_67 : decode cX9_slips 67 = .ok (.iload 5, 2) := by decide +kernel
theorem dX9_slips_69 : decode cX9_slips 69 = .ok (.aload_n 0, 1) := by decide +kernel
theorem dX9_slips_70 : decode cX9_slips 70 = .ok (.iload_n 1, 1) := by decide +kernel
theorem dX9_slips_71 : decode cX9_slips 71 = .ok (.iload 5, 2) := by decide +kernel
theorem dX9_slips_73 : decode cX9_slips 73 = .ok (.invokevirtual 178, 3) := by decide +kernel
theorem dX9_slips_76 : decode cX9_slips 76 = .ok (.invokevirtual 171, 3) := by decide +kernel
theorem dX9_slips_79 : decode cX9_slips 79 = .ok (.isub, 1) := by decide +kernel
theorem dX9_slips_80 : decode cX9_slips 80 = .ok (.iadd, 1) := by decide +kernel
theorem dX9_slips_81 : decode cX9_slips 81 = .ok (.istore 4, 2) := by decide +kernel
theorem dX9_slips_83 : decode cX9_slips 83 = .ok (.iinc 5 1, 3) := by decide +kernel
theorem dX9_slips_86 : decode cX9_slips 86 = .ok (.goto (-57), 3) := by decide +kernel
theorem dX9_slips_89 : decode cX9_slips 89 = .ok (.iconst 0, 1) := by decide +kernel
theorem dX9_slips_90 : decode cX9_slips 90 = .ok (.istore 5, 2) := by decide +kernel
theorem dX9_slips_92 : decode cX9_slips 92 = .ok (.iload 5, 2) := by decide +kernel
theorem dX9_slips_94 : decode cX9_slips 94 = .ok (.aload_n 0, 1) := by decide +kernel
theorem dX9_slips_95 : decode cX9_slips 95 = .ok (.getfield 43, 3) := by decide +kernel
theorem dX9_slips_98 : decode cX9_slips 98 = .ok (.iload_n 1, 1) := by decide +kernel
theorem dX9_slips_99 : decode cX9_slips 99 = .ok (.iaload, 1) := by decide +kernel
theorem dX9_slips_100 : decode cX9_slips 100 = .ok (.if_icmp .ge 62, 3) := by decide +kernel
theorem dX9_slips_103 : decode cX9_slips 103 = .ok (.iload_n 2, 1) := by decide +kernel
theorem dX9_slips_104 : decode cX9_slips 104 = .ok (.iconst 1, 1) := by decide +kernel
theorem dX9_slips_105 : decode cX9_slips 105 = .ok (.if_icmp .ne 57, 3) := by decide +kernel
theorem dX9_slips_108 : decode cX9_slips 108 = .ok (.iload 4, 2) := by decide +kernel
theorem dX9_slips_110 : decode cX9_slips 110 = .ok (.aload_n 0, 1) := by decide +kernel
theorem dX9_slips_111 : decode cX9_slips 111 = .ok (.getfield 46, 3) := by decide +kernel
theorem dX9_slips_114 : decode cX9_slips 114 = .ok (.bipush 100, 2) := by decide +kernel
theorem dX9_slips_116 : decode cX9_slips 116 = .ok (.iload_n 1, 1) := by decide +kernel
theorem dX9_slips_117 : decode cX9_slips 117 = .ok (.imul, 1) := by decide +kernel
theorem dX9_slips_118 : decode cX9_slips 118 = .ok (.iload 5, 2) := by decide +kernel
theorem dX9_slips_120 : decode cX9_slips 120 = .ok (.iadd, 1) := by decide +kernel
theorem dX9_slips_121 : decode cX9_slips 121 = .ok (.iconst 1, 1) := by decide +kernel
theorem dX9_slips_122 : decode cX9_slips 122 = .ok (.iadd, 1) := by decide +kernel
theorem dX9_slips_123 : decode cX9_slips 123 = .ok (.iaload, 1) := by decide +kernel
theorem dX9_slips_124 : decode cX9_slips 124 = .ok (.aload_n 0, 1) := by decide +kernel
theorem dX9_slips_125 : decode cX9_slips 125 = .ok (.getfield 9, 3) := by decide +kernel
theorem dX9_slips_128 : decode cX9_slips 128 = .ok (.aload_n 0, 1) := by decide +kernel
theorem dX9_slips_129 : decode cX9_slips 129 = .ok (.getfield 46, 3) := by decide +kernel
theorem dX9_slips_132 : decode cX9_slips 132 = .ok (.bipush 100, 2) := by decide +kernel
theorem dX9_slips_134 : decode cX9_slips 134 = .ok (.iload_n 1, 1) := by decide +kernel
theorem dX9_slips_135 : decode cX9_slips 135 = .ok (.imul, 1) := by decide +kernel
theorem dX9_slips_136 : decode cX9_slips 136 = .ok (.iload 5, 2) := by decide +kernel
theorem dX9_slips_138 : decode cX9_slips 138 = .ok (.iadd, 1) := by decide +kernel
theorem dX9_slips_139 : decode cX9_slips 139 = .ok (.iaload, 1) := by decide +kernel
theorem dX9_slips_140 : decode cX9_slips 140 = .ok (.iconst 2, 1) := by decide +kernel
theorem dX9_slips_141 : decode cX9_slips 141 = .ok (.invokestatic 57, 3) := by decide +kernel
theorem dX9_slips_144 : decode cX9_slips 144 = .ok (.iaload, 1) := by decide +kernel
theorem dX9_slips_145 : decode cX9_slips 145 = .ok (.if_icmp .eq 7, 3) := by decide +kernel
theorem dX9_slips_148 : decode cX9_slips 148 = .ok (.iconst 1, 1) := by decide +kernel
theorem dX9_slips_149 : decode cX9_slips 149 = .ok (.goto 4, 3) := by decide +kernel
theorem dX9_slips_152 : decode cX9_slips 152 = .ok (.iconst 0, 1) := by decide +kernel
theorem dX9_slips_153 : decode cX9_slips 153 = .ok (.iadd, 1) := by decide +kernel
theorem dX9_slips_154 : decode cX9_slips 154 = .ok (.istore 4, 2) := by decide +kernel
theorem dX9_slips_156 : decode cX9_slips 156 = .ok (.iinc 5 2, 3) := by decide +kernel
theorem dX9_slips_159 : decode cX9_slips 159 = .ok (.goto (-67), 3) := by decide +kernel
theorem dX9_slips_162 : decode cX9_slips 162 = .ok (.iload 4, 2) := by decide +kernel
theorem dX9_slips_164 : decode cX9_slips 164 = .ok (.ireturn, 1) := by decide +kernel
theorem dX9_trueDay_0 : decode cX9_trueDay 0 = .ok (.aload_n 0, 1) := by decide +kernel
theorem dX9_trueDay_1 : decode cX9_trueDay 1 = .ok (.iload_n 2, 1) := by decide +kernel
theorem dX9_trueDay_2 : decode cX9_trueDay 2 = .ok (.invokevirtual 122, 3) := by decide +kernel
theorem dX9_trueDay_5 : decode cX9_trueDay 5 = .ok (.ifCond .ne 5, 3) := by decide +kernel
theorem dX9_trueDay_8 : decode cX9_trueDay 8 = .ok (.iconst (-1), 1) := by decide +kernel
theorem dX9_trueDay_9 : decode cX9_trueDay 9 = .ok (.ireturn, 1) := by decide +kernel
theorem dX9_trueDay_10 : decode cX9_trueDay 10 = .ok (.aload_n 0, 1) := by decide +kernel
theorem dX9_trueDay_11 : decode cX9_trueDay 11 = .ok (.iload_n 1, 1) := by decide +kernel
theorem dX9_trueDay_12 : decode cX9_trueDay 12 = .ok (.invokevirtual 175, 3) := by decide +kernel
theorem dX9_trueDay_15 : decode cX9_trueDay 15 = .ok (.istore_n 3, 1) := by decide +kernel
theorem dX9_trueDay_16 : decode cX9_trueDay 16 = .ok (.iload_n 3, 1) := by decide +kernel
theorem dX9_trueDay_17 : decode cX9_trueDay 17 = .ok (.ifCond .eq 7, 3) := by decide +kernel
theorem dX9_trueDay_20 : decode cX9_trueDay 20 = .ok (.iload_n 3, 1) := by decide +kernel
theorem dX9_trueDay_21 : decode cX9_trueDay 21 = .ok (.goto 9, 3) := by decide +kernel
theorem dX9_trueDay_24 : decode cX9_trueDay 24 = .ok (.aload_n 0, 1) := by decide +kernel
theorem dX9_trueDay_25 : decode cX9_trueDay 25 = .ok (.iload_n 1, 1) := by decide +kernel
theorem dX9_trueDay_26 : decode cX9_trueDay 26 = .ok (.iload_n 2, 1) := by decide +kernel
theorem dX9_trueDay_27 : decode cX9_trueDay 27 = .ok (.invokevirtual 178, 3) := by decide +kernel
theorem dX9_trueDay_30 : decode cX9_trueDay 30 = .ok (.ireturn, 1) := by decide +kernel
theorem dX9_mayBe_0 : decode cX9_mayBe 0 = .ok (.aload_n 0, 1) := by decide +kernel
theorem dX9_mayBe_1 : decode cX9_mayBe 1 = .ok (.iload_n 1, 1) := by decide +kernel
theorem dX9_mayBe_2 : decode cX9_mayBe 2 = .ok (.invokevirtual 122, 3) := by decide +kernel
theorem dX9_mayBe_5 : decode cX9_mayBe 5 = .ok (.ifCond .eq 12, 3) := by decide +kernel
theorem dX9_mayBe_8 : decode cX9_mayBe 8 = .ok (.iload_n 2, 1) := by decide +kernel
theorem dX9_mayBe_9 : decode cX9_mayBe 9 = .ok (.iconst 0, 1) := by decide +kernel
theorem dX9_mayBe_10 : decode cX9_mayBe 10 = .ok (.iconst 1, 1) := by decide +kernel
theorem dX9_mayBe_11 : decode cX9_mayBe 11 = .ok (.invokestatic 49, 3) := by decide +kernel
theorem dX9_mayBe_14 : decode cX9_mayBe 14 = .ok (.ifCond .ne 5, 3) := by decide +kernel
theorem dX9_mayBe_17 : decode cX9_mayBe 17 = .ok (.iconst (-1), 1) := by decide +kernel
theorem dX9_mayBe_18 : decode cX9_mayBe 18 = .ok (.ireturn, 1) := by decide +kernel
theorem dX9_mayBe_19 : decode cX9_mayBe 19 = .ok (.aload_n 0, 1) := by decide +kernel
theorem dX9_mayBe_20 : decode cX9_mayBe 20 = .ok (.getfield 9, 3) := by decide +kernel
theorem dX9_mayBe_23 : decode cX9_mayBe 23 = .ok (.iload_n 1, 1) := by decide +kernel
theorem dX9_mayBe_24 : decode cX9_mayBe 24 = .ok (.invokestatic 150, 3) := by decide +kernel
theorem dX9_mayBe_27 : decode cX9_mayBe 27 = .ok (.istore_n 3, 1) := by decide +kernel
theorem dX9_mayBe_28 : decode cX9_mayBe 28 = .ok (.iconst 0, 1) := by decide +kernel
theorem dX9_mayBe_29 : decode cX9_mayBe 29 = .ok (.istore 4, 2) := by decide +kernel
theorem dX9_mayBe_31 : decode cX9_mayBe 31 = .ok (.bipush (-4), 2) := by decide +kernel
theorem dX9_mayBe_33 : decode cX9_mayBe 33 = .ok (.istore 5, 2) := by decide +kernel
theorem dX9_mayBe_35 : decode cX9_mayBe 35 = .ok (.aload_n 0, 1) := by decide +kernel
theorem dX9_mayBe_36 : decode cX9_mayBe 36 = .ok (.getfield 9, 3) := by decide +kernel
theorem dX9_mayBe_39 : decode cX9_mayBe 39 = .ok (.aload_n 0, 1) := by decide +kernel
theorem dX9_mayBe_40 : decode cX9_mayBe 40 = .ok (.getfield 13, 3) := by decide +kernel
theorem dX9_mayBe_43 : decode cX9_mayBe 43 = .ok (.invokestatic 132, 3) := by decide +kernel
theorem dX9_mayBe_46 : decode cX9_mayBe 46 = .ok (.iconst 0, 1) := by decide +kernel
theorem dX9_mayBe_47 : decode cX9_mayBe 47 = .ok (.istore 6, 2) := by decide +kernel
theorem dX9_mayBe_49 : decode cX9_mayBe 49 = .ok (.iload 6, 2) := by decide +kernel
theorem dX9_mayBe_51 : decode cX9_mayBe 51 = .ok (.aload_n 0, 1) := by decide +kernel
theorem dX9_mayBe_52 : decode cX9_mayBe 52 = .ok (.getfield 9, 3) := by decide +kernel
theorem dX9_mayBe_55 : decode cX9_mayBe 55 = .ok (.iconst 1, 1) := by decide +kernel
theorem dX9_mayBe_56 : decode cX9_mayBe 56 = .ok (.iaload, 1) := by decide +kernel
theorem dX9_mayBe_57 : decode cX9_mayBe 57 = .ok (.sipush 364, 3) := by decide +kernel
theorem dX9_mayBe_60 : decode cX9_mayBe 60 = .ok (.invokestatic 181, 3) := by decide +kernel
theorem dX9_mayBe_63 : decode cX9_mayBe 63 = .ok (.if_icmp .gt 53, 3) := by decide +kernel
theorem dX9_mayBe_66 : decode cX9_mayBe 66 = .ok (.aload_n 0, 1) := by decide +kernel
theorem dX9_mayBe_67 : decode cX9_mayBe 67 = .ok (.getfield 13, 3) := by decide +kernel
theorem dX9_mayBe_70 : decode cX9_mayBe 70 = .ok (.iload_n 1, 1) := by decide +kernel
theorem dX9_mayBe_71 : decode cX9_mayBe 71 = .ok (.iconst 2, 1) := by decide +kernel
theorem dX9_mayBe_72 : decode cX9_mayBe 72 = .ok (.invokestatic 57, 3) := by decide +kernel
theorem dX9_mayBe_75 : decode cX9_mayBe 75 = .ok (.iload 6, 2) := by decide +kernel
theorem dX9_mayBe_77 : decode cX9_mayBe 77 = .ok (.iastore, 1) := by decide +kernel
theorem dX9_mayBe_78 : decode cX9_mayBe 78 = .ok (.aload_n 0, 1) := by decide +kernel
theorem dX9_mayBe_79 : decode cX9_mayBe 79 = .ok (.getfield 13, 3) := by decide +kernel
theorem dX9_mayBe_82 : decode cX9_mayBe 82 = .ok (.iload_n 1, 1) := by decide +kernel
theorem dX9_mayBe_83 : decode cX9_mayBe 83 = .ok (.invokestatic 150, 3) := by decide +kernel
theorem dX9_mayBe_86 : decode cX9_mayBe 86 = .ok (.iload_n 3, 1) := by decide +kernel
theorem dX9_mayBe_87 : decode cX9_mayBe 87 = .ok (.if_icmp .eq 6, 3) := by decide +kernel
theorem dX9_mayBe_90 : decode cX9_mayBe 90 = .ok (.goto 20, 3) := by decide +kernel
theorem dX9_mayBe_93 : decode cX9_mayBe 93 = .ok (.iload 4, 2) := by decide +kernel
theorem dX9_mayBe_95 : decode cX9_mayBe 95 = .ok (.ifCond .ne 8, 3) := by decide +kernel
theorem dX9_mayBe_98 : decode cX9_mayBe 98 = .ok (.iload 6, 2) := by decide +kernel
theorem dX9_mayBe_100 : decode cX9_mayBe 100 = .ok (.goto 5, 3) := by decide +kernel
theorem dX9_mayBe_103 : decode cX9_mayBe 103 = .ok (.iload 5, 2) := by decide +kernel
theorem dX9_mayBe_105 : decode cX9_mayBe 105 = .ok (.istore 5, 2) := by decide +kernel
theorem dX9_mayBe_107 : decode cX9_mayBe 107 = .ok (.iinc 4 1, 3) := by decide +kernel
theorem dX9_mayBe_110 : decode cX9_mayBe 110 = .ok (.iinc 6 1, 3) := by decide +kernel
theorem dX9_mayBe_113 : decode cX9_mayBe 113 = .ok (.goto (-64), 3) := by decide +kernel
theorem dX9_mayBe_116 : decode cX9_mayBe 116 = .ok (.iload_n 2, 1) := by decide +kernel
theorem dX9_mayBe_117 : decode cX9_mayBe 117 = .ok (.ifCond .ne 8, 3) := by decide +kernel
theorem dX9_mayBe_120 : decode cX9_mayBe 120 = .ok (.iload 4, 2) := by decide +kernel
theorem dX9_mayBe_122 : decode cX9_mayBe 122 = .ok (.goto 5, 3) := by decide +kernel
theorem dX9_mayBe_125 : decode cX9_mayBe 125 = .ok (.iload 5, 2) := by decide +kernel
theorem dX9_mayBe_127 : decode cX9_mayBe 127 = .ok (.ireturn, 1) := by decide +kernel
theorem dX9_leastOf_0 : decode cX9_leastOf 0 = .ok (.iload_n 0, 1) := by decide +kernel
theorem dX9_leastOf_1 : decode cX9_leastOf 1 = .ok (.ifCond .ne 8, 3) := by decide +kernel
theorem dX9_leastOf_4 : decode cX9_leastOf 4 = .ok (.bipush (-128), 2) := by decide +kernel
theorem dX9_leastOf_6 : decode cX9_leastOf 6 = .ok (.goto 16, 3) := by decide +kernel
theorem dX9_leastOf_9 : decode cX9_leastOf 9 = .ok (.iload_n 0, 1) := by decide +kernel
theorem dX9_leastOf_10 : decode cX9_leastOf 10 = .ok (.iconst 1, 1) := by decide +kernel
theorem dX9_leastOf_11 : decode cX9_leastOf 11 = .ok (.if_icmp .ne 9, 3) := by decide +kernel
theorem dX9_leastOf_14 : decode cX9_leastOf 14 = .ok (.sipush (-32768), 3) := by decide +kernel
theorem dX9_leastOf_17 : decode cX9_leastOf 17 = .ok (.goto 5, 3) := by decide +kernel
theorem dX9_leastOf_20 : decode cX9_leastOf 20 = .ok (.ldc 184, 2) := by decide +kernel
theorem dX9_leastOf_22 : decode cX9_leastOf 22 = .ok (.ireturn, 1) := by decide +kernel
theorem dX9_law_0 : decode cX9_law 0 = .ok (.iload_n 3, 1) := by decide +kernel
theorem dX9_law_1 : decode cX9_law 1 = .ok (.iconst 0, 1) := by decide +kernel
theorem dX9_law_2 : decode cX9_law 2 = .ok (.iconst 1, 1) := by decide +kernel
theorem dX9_law_3 : decode cX9_law 3 = .ok (.invokestatic 49, 3) := by decide +kernel
theorem dX9_law_6 : decode cX9_law 6 = .ok (.ifCond .eq 22, 3) := by decide +kernel
theorem dX9_law_9 : decode cX9_law 9 = .ok (.iload_n 2, 1) := by decide +kernel
theorem dX9_law_10 : decode cX9_law 10 = .ok (.iconst 0, 1) := by decide +kernel
theorem dX9_law_11 : decode cX9_law 11 = .ok (.iload_n 3, 1) := by decide +kernel
theorem dX9_law_12 : decode cX9_law 12 = .ok (.ifCond .ne 8, 3) := by decide +kernel
theorem dX9_law_15 : decode cX9_law 15 = .ok (.bipush 9, 2) := by decide +kernel
theorem dX9_law_17 : decode cX9_law 17 = .ok (.goto 5, 3) := by decide +kernel
theorem dX9_law_20 : decode cX9_law 20 = .ok (.bipush 7, 2) := by decide +kernel
theorem dX9_law_22 : decode cX9_law 22 = .ok (.invokestatic 49, 3) := by decide +kernel
theorem dX9_law_25 : decode cX9_law 25 = .ok (.ifCond .ne 5, 3) := by decide +kernel
theorem dX9_law_28 : decode cX9_law 28 = .ok (.iconst (-1), 1) := by decide +kernel
theorem dX9_law_29 : decode cX9_law 29 = .ok (.ireturn, 1) := by decide +kernel
theorem dX9_law_30 : decode cX9_law 30 = .ok (.aload_n 0, 1) := by decide +kernel
theorem dX9_law_31 : decode cX9_law 31 = .ok (.iload_n 1, 1) := by decide +kernel
theorem dX9_law_32 : decode cX9_law 32 = .ok (.iconst (-1), 1) := by decide +kernel
theorem dX9_law_33 : decode cX9_law 33 = .ok (.invokevirtual 125, 3) := by decide +kernel
theorem dX9_law_36 : decode cX9_law 36 = .ok (.istore 4, 2) := by decide +kernel
theorem dX9_law_38 : decode cX9_law 38 = .ok (.iload 4, 2) := by decide +kernel
theorem dX9_law_40 : decode cX9_law 40 = .ok (.ifCond .eq 6, 3) := by decide +kernel
theorem dX9_law_43 : decode cX9_law 43 = .ok (.iload 4, 2) := by decide +kernel
theorem dX9_law_45 : decode cX9_law 45 = .ok (.ireturn, 1) := by decide +kernel
theorem dX9_law_46 : decode cX9_law 46 = .ok (.iconst 0, 1) := by decide +kernel
theorem dX9_law_47 : decode cX9_law 47 = .ok (.istore 5, 2) := by decide +kernel
theorem dX9_law_49 : decode cX9_law 49 = .ok (.iconst 0, 1) := by decide +kernel
theorem dX9_law_50 : decode cX9_law 50 = .ok (.istore 6, 2) := by decide +kernel
theorem dX9_law_52 : decode cX9_law 52 = .ok (.iload 6, 2) := by decide +kernel
theorem dX9_law_54 : decode cX9_law 54 = .ok (.iload_n 3, 1) := by decide +kernel
theorem dX9_law_55 : decode cX9_law 55 = .ok (.ifCond .ne 8, 3) := by decide +kernel
theorem dX9_law_58 : decode cX9_law 58 = .ok (.bipush 8, 2) := by decide +kernel
theorem dX9_law_60 : decode cX9_law 60 = .ok (.goto 5, 3) := by decide +kernel
theorem dX9_law_63 : decode cX9_law 63 = .ok (.bipush 10, 2) := by decide +kernel
theorem dX9_law_65 : decode cX9_law 65 = .ok (.if_icmp .ge 112, 3) := by decide +kernel
theorem dX9_law_68 : decode cX9_law 68 = .ok (.iconst 1, 1) := by decide +kernel
theorem dX9_law_69 : decode cX9_law 69 = .ok (.istore 7, 2) := by decide +kernel
theorem dX9_law_71 : decode cX9_law 71 = .ok (.iconst 0, 1) := by decide +kernel
theorem dX9_law_72 : decode cX9_law 72 = .ok (.istore 8, 2) := by decide +kernel
theorem dX9_law_74 : decode cX9_law 74 = .ok (.iload 8, 2) := by decide +kernel
theorem dX9_law_76 : decode cX9_law 76 = .ok (.aload_n 0, 1) := by decide +kernel
theorem dX9_law_77 : decode cX9_law 77 = .ok (.getfield 43, 3) := by decide +kernel
theorem dX9_law_80 : decode cX9_law 80 = .ok (.iload_n 1, 1) := by decide +kernel
theorem dX9_law_81 : decode cX9_law 81 = .ok (.iaload, 1) := by decide +kernel
theorem dX9_law_82 : decode cX9_law 82 = .ok (.if_icmp .ge 71, 3) := by decide +kernel
theorem dX9_law_85 : decode cX9_law 85 = .ok (.aload_n 0, 1) := by decide +kernel
theorem dX9_law_86 : decode cX9_law 86 = .ok (.getfield 46, 3) := by decide +kernel
theorem dX9_law_89 : decode cX9_law 89 = .ok (.bipush 100, 2) := by decide +kernel
theorem dX9_law_91 : decode cX9_law 91 = .ok (.iload_n 1, 1) := by decide +kernel
theorem dX9_law_92 : decode cX9_law 92 = .ok (.imul, 1) := by decide +kernel
theorem dX9_law_93 : decode cX9_law 93 = .ok (.iload 8, 2) := by decide +kernel
theorem dX9_law_95 : decode cX9_law 95 = .ok (.iadd, 1) := by decide +kernel
theorem dX9_law_96 : decode cX9_law 96 = .ok (.iaload, 1) := by decide +kernel
theorem dX9_law_97 : decode cX9_law 97 = .ok (.istore 9, 2) := by decide +kernel
theorem dX9_law_99 : decode cX9_law 99 = .ok (.iload 7, 2) := by decide +kernel
theorem dX9_law_101 : decode cX9_law 101 = .ok (.iload 9, 2) := by decide +kernel
theorem dX9_law_103 : decode cX9_law 103 = .ok (.aload_n 0, 1) := by decide +kernel
theorem dX9_law_104 : decode cX9_law 104 = .ok (.getfield 40, 3) := by decide +kernel
theorem dX9_law_107 : decode cX9_law 107 = .ok (.iload_n 1, 1) := by decide +kernel
theorem dX9_law_108 : decode cX9_law 108 = .ok (.iaload, 1) := by decide +kernel
theorem dX9_law_109 : decode cX9_law 109 = .ok (.invokestatic 185, 3) := by decide +kernel
theorem dX9_law_112 : decode cX9_law 112 = .ok (.if_icmp .eq 27, 3) := by decide +kernel
theorem dX9_law_115 : decode cX9_law 115 = .ok (.iload 9, 2) := by decide +kernel
theorem dX9_law_117 : decode cX9_law 117 = .ok (.iload_n 3, 1) := by decide +kernel
theorem dX9_law_118 : decode cX9_law 118 = .ok (.ifCond .ne 12, 3) := by decide +kernel
theorem dX9_law_121 : decode cX9_law 121 = .ok (.iload 6, 2) := by decide +kernel
theorem dX9_law_123 : decode cX9_law 123 = .ok (.iload_n 2, 1) := by decide +kernel
theorem dX9_law_124 : decode cX9_law 124 = .ok (.invokestatic 53, 3) := by decide +kernel
theorem dX9_law_127 : decode cX9_law 127 = .ok (.goto 9, 3) := by decide +kernel
theorem dX9_law_130 : decode cX9_law 130 = .ok (.iload_n 2, 1) := by decide +kernel
theorem dX9_law_131 : decode cX9_law 131 = .ok (.iload 6, 2) := by decide +kernel
theorem dX9_law_133 : decode cX9_law 133 = .ok (.invokestatic 53, 3) := by decide +kernel
theorem dX9_law_136 : decode cX9_law 136 = .ok (.if_icmp .ne 7, 3) := by decide +kernel
theorem dX9_law_139 : decode cX9_law 139 = .ok (.iconst 1, 1) := by decide +kernel
theorem dX9_law_140 : decode cX9_law 140 = .ok (.goto 4, 3) := by decide +kernel
theorem dX9_law_143 : decode cX9_law 143 = .ok (.iconst 0, 1) := by decide +kernel
theorem dX9_law_144 : decode cX9_law 144 = .ok (.iand, 1) := by decide +kernel
theorem dX9_law_145 : decode cX9_law 145 = .ok (.istore 7, 2) := by decide +kernel
theorem dX9_law_147 : decode cX9_law 147 = .ok (.iinc 8 1, 3) := by decide +kernel
theorem dX9_law_150 : decode cX9_law 150 = .ok (.goto (-76), 3) := by decide +kernel
theorem dX9_law_153 : decode cX9_law 153 = .ok (.iload 5, 2) := by decide +kernel
theorem dX9_law_155 : decode cX9_law 155 = .ok (.iload 7, 2) := by decide +kernel
theorem dX9_law_157 : decode cX9_law 157 = .ok (.ifCond .eq 10, 3) := by decide +kernel
theorem dX9_law_160 : decode cX9_law 160 = .ok (.iconst 1, 1) := by decide +kernel
theorem dX9_law_161 : decode cX9_law 161 = .ok (.iload 6, 2) := by decide +kernel
theorem dX9_law_163 : decode cX9_law 163 = .ok (.ishl, 1) := by decide +kernel
theorem dX9_law_164 : decode cX9_law 164 = .ok (.goto 4, 3) := by decide +kernel
theorem dX9_law_167 : decode cX9_law 167 = .ok (.iconst 0, 1) := by decide +kernel
theorem dX9_law_168 : decode cX9_law 168 = .ok (.ior, 1) := by decide +kernel
theorem dX9_law_169 : decode cX9_law 169 = .ok (.istore 5, 2) := by decide +kernel
theorem dX9_law_171 : decode cX9_law 171 = .ok (.iinc 6 1, 3) := by decide +kernel
theorem dX9_law_174 : decode cX9_law 174 = .ok (.goto (-122), 3) := by decide +kernel
theorem dX9_law_177 : decode cX9_law 177 = .ok (.iload 5, 2) := by decide +kernel
theorem dX9_law_179 : decode cX9_law 179 = .ok (.ireturn, 1) := by decide +kernel
theorem dX9_toldWithout_0 : decode cX9_toldWithout 0 = .ok (.iconst 0, 1) := by decide +kernel
theorem dX9_toldWithout_1 : decode cX9_toldWithout 1 = .ok (.istore_n 2, 1) := by decide +kernel
theorem dX9_toldWithout_2 : decode cX9_toldWithout 2 = .ok (.iconst 0, 1) := by decide +kernel
theorem dX9_toldWithout_3 : decode cX9_toldWithout 3 = .ok (.istore_n 3, 1) := by decide +kernel
theorem dX9_toldWithout_4 : decode cX9_toldWithout 4 = .ok (.iload_n 3, 1) := by decide +kernel
theorem dX9_toldWithout_5 : decode cX9_toldWithout 5 = .ok (.aload_n 0, 1) := by decide +kernel
theorem dX9_toldWithout_6 : decode cX9_toldWithout 6 = .ok (.getfield 9, 3) := by decide +kernel
theorem dX9_toldWithout_9 : decode cX9_toldWithout 9 = .ok (.iconst 0, 1) := by decide +kernel
theorem dX9_toldWithout_10 : decode cX9_toldWithout 10 = .ok (.iaload, 1) := by decide +kernel
theorem dX9_toldWithout_11 : decode cX9_toldWithout 11 = .ok (.if_icmp .ge 43, 3) := by decide +kernel
theorem dX9_toldWithout_14 : decode cX9_toldWithout 14 = .ok (.iload_n 2, 1) := by decide +kernel
theorem dX9_toldWithout_15 : decode cX9_toldWithout 15 = .ok (.aload_n 0, 1) := by decide +kernel
theorem dX9_toldWithout_16 : decode cX9_toldWithout 16 = .ok (.getfield 9, 3) := by decide +kernel
theorem dX9_toldWithout_19 : decode cX9_toldWithout 19 = .ok (.iload_n 3, 1) := by decide +kernel
theorem dX9_toldWithout_20 : decode cX9_toldWithout 20 = .ok (.invokestatic 67, 3) := by decide +kernel
theorem dX9_toldWithout_23 : decode cX9_toldWithout 23 = .ok (.ifCond .eq 22, 3) := by decide +kernel
theorem dX9_toldWithout_26 : decode cX9_toldWithout 26 = .ok (.iload_n 1, 1) := by decide +kernel
theorem dX9_toldWithout_27 : decode cX9_toldWithout 27 = .ok (.iload_n 3, 1) := by decide +kernel
theorem dX9_toldWithout_28 : decode cX9_toldWithout 28 = .ok (.invokestatic 63, 3) := by decide +kernel
theorem dX9_toldWithout_31 : decode cX9_toldWithout 31 = .ok (.ifCond .ne 14, 3) := by decide +kernel
theorem dX9_toldWithout_34 : decode cX9_toldWithout 34 = .ok (.aload_n 0, 1) := by decide +kernel
theorem dX9_toldWithout_35 : decode cX9_toldWithout 35 = .ok (.getfield 9, 3) := by decide +kernel
theorem dX9_toldWithout_38 : decode cX9_toldWithout 38 = .ok (.iload_n 3, 1) := by decide +kernel
theorem dX9_toldWithout_39 : decode cX9_toldWithout 39 = .ok (.invokestatic 81, 3) := by decide +kernel
theorem dX9_toldWithout_42 : decode cX9_toldWithout 42 = .ok (.goto 4, 3) := by decide +kernel
theorem dX9_toldWithout_45 : decode cX9_toldWithout 45 = .ok (.iconst 0, 1) := by decide +kernel
theorem dX9_toldWithout_46 : decode cX9_toldWithout 46 = .ok (.iadd, 1) := by decide +kernel
theorem dX9_toldWithout_47 : decode cX9_toldWithout 47 = .ok (.istore_n 2, 1) := by decide +kernel
theorem dX9_toldWithout_48 : decode cX9_toldWithout 48 = .ok (.iinc 3 1, 3) := by decide +kernel
theorem dX9_toldWithout_51 : decode cX9_toldWithout 51 = .ok (.goto (-47), 3) := by decide +kernel
theorem dX9_toldWithout_54 : decode cX9_toldWithout 54 = .ok (.iload_n 2, 1) := by decide +kernel
theorem dX9_toldWithout_55 : decode cX9_toldWithout 55 = .ok (.ireturn, 1) := by decide +kernel
theorem dX9_leastInIt_0 : decode cX9_leastInIt 0 = .ok (.iload_n 1, 1) := by decide +kernel
theorem dX9_leastInIt_1 : decode cX9_leastInIt 1 = .ok (.iconst 0, 1) := by decide +kernel
theorem dX9_leastInIt_2 : decode cX9_leastInIt 2 = .ok (.bipush 10, 2) := by decide +kernel
theorem dX9_leastInIt_4 : decode cX9_leastInIt 4 = .ok (.invokestatic 49, 3) := by decide +kernel
theorem dX9_leastInIt_7 : decode cX9_leastInIt 7 = .ok (.ifCond .eq 12, 3) := by decide +kernel
theorem dX9_leastInIt_10 : decode cX9_leastInIt 10 = .ok (.iload_n 2, 1) := by decide +kernel
theorem dX9_leastInIt_11 : decode cX9_leastInIt 11 = .ok (.iconst 0, 1) := by decide +kernel
theorem dX9_leastInIt_12 : decode cX9_leastInIt 12 = .ok (.iconst 1, 1) := by decide +kernel
theorem dX9_leastInIt_13 : decode cX9_leastInIt 13 = .ok (.invokestatic 49, 3) := by decide +kernel
theorem dX9_leastInIt_16 : decode cX9_leastInIt 16 = .ok (.ifCond .ne 5, 3) := by decide +kernel
theorem dX9_leastInIt_19 : decode cX9_leastInIt 19 = .ok (.iconst (-1), 1) := by decide +kernel
theorem dX9_leastInIt_20 : decode cX9_leastInIt 20 = .ok (.ireturn, 1) := by decide +kernel
theorem dX9_leastInIt_21 : decode cX9_leastInIt 21 = .ok (.iconst 0, 1) := by decide +kernel
theorem dX9_leastInIt_22 : decode cX9_leastInIt 22 = .ok (.istore_n 3, 1) := by decide +kernel
theorem dX9_leastInIt_23 : decode cX9_leastInIt 23 = .ok (.iconst 1, 1) := by decide +kernel
theorem dX9_leastInIt_24 : decode cX9_leastInIt 24 = .ok (.istore 4, 2) := by decide +kernel
theorem dX9_leastInIt_26 : decode cX9_leastInIt 26 = .ok (.iload 4, 2) := by decide +kernel
theorem dX9_leastInIt_28 : decode cX9_leastInIt 28 = .ok (.iconst 1, 1) := by decide +kernel
theorem dX9_leastInIt_29 : decode cX9_leastInIt 29 = .ok (.aload_n 0, 1) := by decide +kernel
theorem dX9_leastInIt_30 : decode cX9_leastInIt 30 = .ok (.getfield 9, 3) := by decide +kernel
theorem dX9_leastInIt_33 : decode cX9_leastInIt 33 = .ok (.iconst 0, 1) := by decide +kernel
theorem dX9_leastInIt_34 : decode cX9_leastInIt 34 = .ok (.iaload, 1) := by decide +kernel
theorem dX9_leastInIt_35 : decode cX9_leastInIt 35 = .ok (.ishl, 1) := by decide +kernel
theorem dX9_leastInIt_36 : decode cX9_leastInIt 36 = .ok (.if_icmp .ge 35, 3) := by decide +kernel
theorem dX9_leastInIt_39 : decode cX9_leastInIt 39 = .ok (.iload 4, 2) := by decide +kernel
theorem dX9_leastInIt_41 : decode cX9_leastInIt 41 = .ok (.invokestatic 153, 3) := by decide +kernel
theorem dX9_leastInIt_44 : decode cX9_leastInIt 44 = .ok (.iload_n 1, 1) := by decide +kernel
theorem dX9_leastInIt_45 : decode cX9_leastInIt 45 = .ok (.if_icmp .gt 20, 3) := by decide +kernel
theorem dX9_leastInIt_48 : decode cX9_leastInIt 48 = .ok (.aload_n 0, 1) := by decide +kernel
theorem dX9_leastInIt_49 : decode cX9_leastInIt 49 = .ok (.iload 4, 2) := by decide +kernel
theorem dX9_leastInIt_51 : decode cX9_leastInIt 51 = .ok (.invokevirtual 188, 3) := by decide +kernel
theorem dX9_leastInIt_54 : decode cX9_leastInIt 54 = .ok (.aload_n 0, 1) := by decide +kernel
theorem dX9_leastInIt_55 : decode cX9_leastInIt 55 = .ok (.iload_n 3, 1) := by decide +kernel
theorem dX9_leastInIt_56 : decode cX9_leastInIt 56 = .ok (.invokevirtual 188, 3) := by decide +kernel
theorem dX9_leastInIt_59 : decode cX9_leastInIt 59 = .ok (.if_icmp .ge 6, 3) := by decide +kernel
theorem dX9_leastInIt_62 : decode cX9_leastInIt 62 = .ok (.iload 4, 2) := by decide +kernel
theorem dX9_leastInIt_64 : decode cX9_leastInIt 64 = .ok (.istore_n 3, 1) := by decide +kernel
theorem dX9_leastInIt_65 : decode cX9_leastInIt 65 = .ok (.iinc 4 1, 3) := by decide +kernel
theorem dX9_leastInIt_68 : decode cX9_leastInIt 68 = .ok (.goto (-42), 3) := by decide +kernel
theorem dX9_leastInIt_71 : decode cX9_leastInIt 71 = .ok (.iload_n 2, 1) := by decide +kernel
theorem dX9_leastInIt_72 : decode cX9_leastInIt 72 = .ok (.ifCond .ne 7, 3) := by decide +kernel
theorem dX9_leastInIt_75 : decode cX9_leastInIt 75 = .ok (.iload_n 3, 1) := by decide +kernel
theorem dX9_leastInIt_76 : decode cX9_leastInIt 76 = .ok (.goto 8, 3) := by decide +kernel
theorem dX9_leastInIt_79 : decode cX9_leastInIt 79 = .ok (.aload_n 0, 1) := by decide +kernel
theorem dX9_leastInIt_80 : decode cX9_leastInIt 80 = .ok (.iload_n 3, 1) := by decide +kernel
theorem dX9_leastInIt_81 : decode cX9_leastInIt 81 = .ok (.invokevirtual 188, 3) := by decide +kernel
theorem dX9_leastInIt_84 : decode cX9_leastInIt 84 = .ok (.ireturn, 1) := by decide +kernel
theorem dX9_robin_0 : decode cX9_robin 0 = .ok (.iload_n 1, 1) := by decide +kernel
theorem dX9_robin_1 : decode cX9_robin 1 = .ok (.invokestatic 115, 3) := by decide +kernel
theorem dX9_robin_4 : decode cX9_robin 4 = .ok (.ifCond .ne 5, 3) := by decide +kernel
theorem dX9_robin_7 : decode cX9_robin 7 = .ok (.iconst (-1), 1) := by decide +kernel
theorem dX9_robin_8 : decode cX9_robin 8 = .ok (.ireturn, 1) := by decide +kernel
theorem dX9_robin_9 : decode cX9_robin 9 = .ok (.bipush (-4), 2) := by decide +kernel
theorem dX9_robin_11 : decode cX9_robin 11 = .ok (.istore_n 2, 1) := by decide +kernel
theorem dX9_robin_12 : decode cX9_robin 12 = .ok (.iconst 0, 1) := by decide +kernel
theorem dX9_robin_13 : decode cX9_robin 13 = .ok (.istore_n 3, 1) := by decide +kernel
theorem dX9_robin_14 : decode cX9_robin 14 = .ok (.iconst 0, 1) := by decide +kernel
theorem dX9_robin_15 : decode cX9_robin 15 = .ok (.istore 4, 2) := by decide +kernel
theorem dX9_robin_17 : decode cX9_robin 17 = .ok (.iload 4, 2) := by decide +kernel
theorem dX9_robin_19 : decode cX9_robin 19 = .ok (.aload_n 0, 1) := by decide +kernel
theorem dX9_robin_20 : decode cX9_robin 20 = .ok (.getfield 9, 3) := by decide +kernel
theorem dX9_robin_23 : decode cX9_robin 23 = .ok (.iconst 0, 1) := by decide +kernel
theorem dX9_robin_24 : decode cX9_robin 24 = .ok (.iaload, 1) := by decide +kernel
theorem dX9_robin_25 : decode cX9_robin 25 = .ok (.if_icmp .ge 79, 3) := by decide +kernel
theorem dX9_robin_28 : decode cX9_robin 28 = .ok (.aload_n 0, 1) := by decide +kernel
theorem dX9_robin_29 : decode cX9_robin 29 = .ok (.getfield 9, 3) := by decide +kernel
theorem dX9_robin_32 : decode cX9_robin 32 = .ok (.iload 4, 2) := by decide +kernel
theorem dX9_robin_34 : decode cX9_robin 34 = .ok (.iconst 4, 1) := by decide +kernel
theorem dX9_robin_35 : decode cX9_robin 35 = .ok (.invokestatic 57, 3) := by decide +kernel
theorem dX9_robin_38 : decode cX9_robin 38 = .ok (.iaload, 1) := by decide +kernel
theorem dX9_robin_39 : decode cX9_robin 39 = .ok (.aload_n 0, 1) := by decide +kernel
theorem dX9_robin_40 : decode cX9_robin 40 = .ok (.getfield 9, 3) := by decide +kernel
theorem dX9_robin_43 : decode cX9_robin 43 = .ok (.iload 4, 2) := by decide +kernel
theorem dX9_robin_45 : decode cX9_robin 45 = .ok (.invokestatic 150, 3) := by decide +kernel
theorem dX9_robin_48 : decode cX9_robin 48 = .ok (.iconst (-1), 1) := by decide +kernel
theorem dX9_robin_49 : decode cX9_robin 49 = .ok (.ixor, 1) := by decide +kernel
theorem dX9_robin_50 : decode cX9_robin 50 = .ok (.iand, 1) := by decide +kernel
theorem dX9_robin_51 : decode cX9_robin 51 = .ok (.invokestatic 153, 3) := by decide +kernel
theorem dX9_robin_54 : decode cX9_robin 54 = .ok (.istore 5, 2) := by decide +kernel
theorem dX9_robin_56 : decode cX9_robin 56 = .ok (.aload_n 0, 1) := by decide +kernel
theorem dX9_robin_57 : decode cX9_robin 57 = .ok (.getfield 9, 3) := by decide +kernel
theorem dX9_robin_60 : decode cX9_robin 60 = .ok (.iload 4, 2) := by decide +kernel
theorem dX9_robin_62 : decode cX9_robin 62 = .ok (.invokestatic 67, 3) := by decide +kernel
theorem dX9_robin_65 : decode cX9_robin 65 = .ok (.ifCond .eq 33, 3) := by decide +kernel
theorem dX9_robin_68 : decode cX9_robin 68 = .ok (.aload_n 0, 1) := by decide +kernel
theorem dX9_robin_69 : decode cX9_robin 69 = .ok (.getfield 9, 3) := by decide +kernel
theorem dX9_robin_72 : decode cX9_robin 72 = .ok (.iload 4, 2) := by decide +kernel
theorem dX9_robin_74 : decode cX9_robin 74 = .ok (.iconst 3, 1) := by decide +kernel
theorem dX9_robin_75 : decode cX9_robin 75 = .ok (.invokestatic 57, 3) := by decide +kernel
theorem dX9_robin_78 : decode cX9_robin 78 = .ok (.iaload, 1) := by decide +kernel
theorem dX9_robin_79 : decode cX9_robin 79 = .ok (.iload_n 1, 1) := by decide +kernel
theorem dX9_robin_80 : decode cX9_robin 80 = .ok (.if_icmp .ne 18, 3) := by decide +kernel
theorem dX9_robin_83 : decode cX9_robin 83 = .ok (.iload 5, 2) := by decide +kernel
theorem dX9_robin_85 : decode cX9_robin 85 = .ok (.iload_n 3, 1) := by decide +kernel
theorem dX9_robin_86 : decode cX9_robin 86 = .ok (.if_icmp .gt 6, 3) := by decide +kernel
theorem dX9_robin_89 : decode cX9_robin 89 = .ok (.goto 9, 3) := by decide +kernel
theorem dX9_robin_92 : decode cX9_robin 92 = .ok (.iload 4, 2) := by decide +kernel
theorem dX9_robin_94 : decode cX9_robin 94 = .ok (.istore_n 2, 1) := by decide +kernel
theorem dX9_robin_95 : decode cX9_robin 95 = .ok (.iload 5, 2) := by decide +kernel
theorem dX9_robin_97 : decode cX9_robin 97 = .ok (.istore_n 3, 1) := by decide +kernel
theorem dX9_robin_98 : decode cX9_robin 98 = .ok (.iinc 4 1, 3) := by decide +kernel
theorem dX9_robin_101 : decode cX9_robin 101 = .ok (.goto (-84), 3) := by decide +kernel
theorem dX9_robin_104 : decode cX9_robin 104 = .ok (.iload_n 2, 1) := by decide +kernel
theorem dX9_robin_105 : decode cX9_robin 105 = .ok (.ireturn, 1) := by decide +kernel
theorem dX9_hasDone_0 : decode cX9_hasDone 0 = .ok (.iload_n 1, 1) := by decide +kernel
theorem dX9_hasDone_1 : decode cX9_hasDone 1 = .ok (.ifCond .ne 7, 3) := by decide +kernel
theorem dX9_hasDone_4 : decode cX9_hasDone 4 = .ok (.iconst 0, 1) := by decide +kernel
theorem dX9_hasDone_5 : decode cX9_hasDone 5 = .ok (.goto 25, 3) := by decide +kernel
theorem dX9_hasDone_8 : decode cX9_hasDone 8 = .ok (.iload_n 2, 1) := by decide +kernel
theorem dX9_hasDone_9 : decode cX9_hasDone 9 = .ok (.iconst 1, 1) := by decide +kernel
theorem dX9_hasDone_10 : decode cX9_hasDone 10 = .ok (.if_icmp .ne 7, 3) := by decide +kernel
theorem dX9_hasDone_13 : decode cX9_hasDone 13 = .ok (.iconst 1, 1) := by decide +kernel
theorem dX9_hasDone_14 : decode cX9_hasDone 14 = .ok (.goto 4, 3) := by decide +kernel
theorem dX9_hasDone_17 : decode cX9_hasDone 17 = .ok (.iconst 3, 1) := by decide +kernel
theorem dX9_hasDone_18 : decode cX9_hasDone 18 = .ok (.iload_n 0, 1) := by decide +kernel
theorem dX9_hasDone_19 : decode cX9_hasDone 19 = .ok (.bipush 10, 2) := by decide +kernel
theorem dX9_hasDone_21 : decode cX9_hasDone 21 = .ok (.idiv, 1) := by decide +kernel
theorem dX9_hasDone_22 : decode cX9_hasDone 22 = .ok (.iload_n 0, 1) := by decide +kernel
theorem dX9_hasDone_23 : decode cX9_hasDone 23 = .ok (.bipush 10, 2) := by decide +kernel
theorem dX9_hasDone_25 : decode cX9_hasDone 25 = .ok (.irem, 1) := by decide +kernel
theorem dX9_hasDone_26 : decode cX9_hasDone 26 = .ok (.invokestatic 139, 3) := by decide +kernel
theorem dX9_hasDone_29 : decode cX9_hasDone 29 = .ok (.isub, 1) := by decide +kernel
theorem dX9_hasDone_30 : decode cX9_hasDone 30 = .ok (.ireturn, 1) := by decide +kernel
theorem dX9_two_0 : decode cX9_two 0 = .ok (.iload_n 1, 1) := by decide +kernel
theorem dX9_two_1 : decode cX9_two 1 = .ok (.iconst 0, 1) := by decide +kernel
theorem dX9_two_2 : decode cX9_two 2 = .ok (.bipush 79, 2) := by decide +kernel
theorem dX9_two_4 : decode cX9_two 4 = .ok (.invokestatic 49, 3) := by decide +kernel
theorem dX9_two_7 : decode cX9_two 7 = .ok (.ifCond .eq 13, 3) := by decide +kernel
theorem dX9_two_10 : decode cX9_two 10 = .ok (.iload_n 2, 1) := by decide +kernel
theorem dX9_two_11 : decode cX9_two 11 = .ok (.iconst 0, 1) := by decide +kernel
theorem dX9_two_12 : decode cX9_two 12 = .ok (.bipush 79, 2) := by decide +kernel
theorem dX9_two_14 : decode cX9_two 14 = .ok (.invokestatic 49, 3) := by decide +kernel
theorem dX9_two_17 : decode cX9_two 17 = .ok (.ifCond .ne 5, 3) := by decide +kernel
theorem dX9_two_20 : decode cX9_two 20 = .ok (.iconst (-1), 1) := by decide +kernel
theorem dX9_two_21 : decode cX9_two 21 = .ok (.ireturn, 1) := by decide +kernel
theorem dX9_two_22 : decode cX9_two 22 = .ok (.iconst 0, 1) := by decide +kernel
theorem dX9_two_23 : decode cX9_two 23 = .ok (.istore_n 3, 1) := by decide +kernel
theorem dX9_two_24 : decode cX9_two 24 = .ok (.iload_n 3, 1) := by decide +kernel
theorem dX9_two_25 : decode cX9_two 25 = .ok (.iconst 4, 1) := by decide +kernel
theorem dX9_two_26 : decode cX9_two 26 = .ok (.if_icmp .ge 70, 3) := by decide +kernel
theorem dX9_two_29 : decode cX9_two 29 = .ok (.iload_n 3, 1) := by decide +kernel
theorem dX9_two_30 : decode cX9_two 30 = .ok (.iconst 2, 1) := by decide +kernel
theorem dX9_two_31 : decode cX9_two 31 = .ok (.idiv, 1) := by decide +kernel
theorem dX9_two_32 : decode cX9_two 32 = .ok (.istore 4, 2) := by decide +kernel
theorem dX9_two_34 : decode cX9_two 34 = .ok (.iload_n 3, 1) := by decide +kernel
theorem dX9_two_35 : decode cX9_two 35 = .ok (.iconst 2, 1) := by decide +kernel
theorem dX9_two_36 : decode cX9_two 36 = .ok (.irem, 1) := by decide +kernel
theorem dX9_two_37 : decode cX9_two 37 = .ok (.istore 5, 2) := by decide +kernel
theorem dX9_two_39 : decode cX9_two 39 = .ok (.iload_n 1, 1) := by decide +kernel
theorem dX9_two_40 : decode cX9_two 40 = .ok (.iconst 1, 1) := by decide +kernel
theorem dX9_two_41 : decode cX9_two 41 = .ok (.iload 4, 2) := by decide +kernel
theorem dX9_two_43 : decode cX9_two 43 = .ok (.isub, 1) := by decide +kernel
theorem dX9_two_44 : decode cX9_two 44 = .ok (.iload 5, 2) := by decide +kernel
theorem dX9_two_46 : decode cX9_two 46 = .ok (.invokestatic 191, 3) := by decide +kernel
theorem dX9_two_49 : decode cX9_two 49 = .ok (.iload_n 1, 1) := by decide +kernel
theorem dX9_two_50 : decode cX9_two 50 = .ok (.iload 4, 2) := by decide +kernel
theorem dX9_two_52 : decode cX9_two 52 = .ok (.iload 5, 2) := by decide +kernel
theorem dX9_two_54 : decode cX9_two 54 = .ok (.invokestatic 191, 3) := by decide +kernel
theorem dX9_two_57 : decode cX9_two 57 = .ok (.if_icmp .gt 33, 3) := by decide +kernel
theorem dX9_two_60 : decode cX9_two 60 = .ok (.iload_n 2, 1) := by decide +kernel
theorem dX9_two_61 : decode cX9_two 61 = .ok (.iconst 1, 1) := by decide +kernel
theorem dX9_two_62 : decode cX9_two 62 = .ok (.iload 5, 2) := by decide +kernel
theorem dX9_two_64 : decode cX9_two 64 = .ok (.isub, 1) := by decide +kernel
theorem dX9_two_65 : decode cX9_two 65 = .ok (.iload 4, 2) := by decide +kernel
theorem dX9_two_67 : decode cX9_two 67 = .ok (.invokestatic 191, 3) := by decide +kernel
theorem dX9_two_70 : decode cX9_two 70 = .ok (.iload_n 2, 1) := by decide +kernel
theorem dX9_two_71 : decode cX9_two 71 = .ok (.iload 5, 2) := by decide +kernel
theorem dX9_two_73 : decode cX9_two 73 = .ok (.iload 4, 2) := by decide +kernel
theorem dX9_two_75 : decode cX9_two 75 = .ok (.invokestatic 191, 3) := by decide +kernel
theorem dX9_two_78 : decode cX9_two 78 = .ok (.if_icmp .gt 12, 3) := by decide +kernel
theorem dX9_two_81 : decode cX9_two 81 = .ok (.bipush 10, 2) := by decide +kernel
theorem dX9_two_83 : decode cX9_two 83 = .ok (.iload 4, 2) := by decide +kernel
theorem dX9_two_85 : decode cX9_two 85 = .ok (.imul, 1) := by decide +kernel
theorem dX9_two_86 : decode cX9_two 86 = .ok (.iload 5, 2) := by decide +kernel
theorem dX9_two_88 : decode cX9_two 88 = .ok (.iadd, 1) := by decide +kernel
theorem dX9_two_89 : decode cX9_two 89 = .ok (.ireturn, 1) := by decide +kernel
theorem dX9_two_90 : decode cX9_two 90 = .ok (.iinc 3 1, 3) := by decide +kernel
theorem dX9_two_93 : decode cX9_two 93 = .ok (.goto (-69), 3) := by decide +kernel
theorem dX9_two_96 : decode cX9_two 96 = .ok (.bipush (-4), 2) := by decide +kernel
theorem dX9_two_98 : decode cX9_two 98 = .ok (.ireturn, 1) := by decide +kernel
theorem dX9_gcd_0 : decode cX9_gcd 0 = .ok (.lload_n 0, 1) := by decide +kernel
theorem dX9_gcd_1 : decode cX9_gcd 1 = .ok (.lstore 4, 2) := by decide +kernel
theorem dX9_gcd_3 : decode cX9_gcd 3 = .ok (.lload_n 2, 1) := by decide +kernel
theorem dX9_gcd_4 : decode cX9_gcd 4 = .ok (.lstore 6, 2) := by decide +kernel
theorem dX9_gcd_6 : decode cX9_gcd 6 = .ok (.lload 6, 2) := by decide +kernel
theorem dX9_gcd_8 : decode cX9_gcd 8 = .ok (.lconst 0, 1) := by decide +kernel
theorem dX9_gcd_9 : decode cX9_gcd 9 = .ok (.lcmp, 1) := by decide +kernel
theorem dX9_gcd_10 : decode cX9_gcd 10 = .ok (.ifCond .eq 21, 3) := by decide +kernel
theorem dX9_gcd_13 : decode cX9_gcd 13 = .ok (.lload 4, 2) := by decide +kernel
theorem dX9_gcd_15 : decode cX9_gcd 15 = .ok (.lload 6, 2) := by decide +kernel
theorem dX9_gcd_17 : decode cX9_gcd 17 = .ok (.lrem, 1) := by decide +kernel
theorem dX9_gcd_18 : decode cX9_gcd 18 = .ok (.lstore 8, 2) := by decide +kernel
theorem dX9_gcd_20 : decode cX9_gcd 20 = .ok (.lload 6, 2) := by decide +kernel
theorem dX9_gcd_22 : decode cX9_gcd 22 = .ok (.lstore 4, 2) := by decide +kernel
theorem dX9_gcd_24 : decode cX9_gcd 24 = .ok (.lload 8, 2) := by decide +kernel
theorem dX9_gcd_26 : decode cX9_gcd 26 = .ok (.lstore 6, 2) := by decide +kernel
theorem dX9_gcd_28 : decode cX9_gcd 28 = .ok (.goto (-22), 3) := by decide +kernel
theorem dX9_gcd_31 : decode cX9_gcd 31 = .ok (.lload 4, 2) := by decide +kernel
theorem dX9_gcd_33 : decode cX9_gcd 33 = .ok (.lreturn, 1) := by decide +kernel
theorem dX9_partOf_0 : decode cX9_partOf 0 = .ok (.lload_n 0, 1) := by decide +kernel
theorem dX9_partOf_1 : decode cX9_partOf 1 = .ok (.lconst 0, 1) := by decide +kernel
theorem dX9_partOf_2 : decode cX9_partOf 2 = .ok (.lcmp, 1) := by decide +kernel
theorem dX9_partOf_3 : decode cX9_partOf 3 = .ok (.ifCond .ne 7, 3) := by decide +kernel
theorem dX9_partOf_6 : decode cX9_partOf 6 = .ok (.iload 4, 2) := by decide +kernel
theorem dX9_partOf_8 : decode cX9_partOf 8 = .ok (.i2l, 1) := by decide +kernel
theorem dX9_partOf_9 : decode cX9_partOf 9 = .ok (.lreturn, 1) := by decide +kernel
theorem dX9_partOf_10 : decode cX9_partOf 10 = .ok (.iload 4, 2) := by decide +kernel
theorem dX9_partOf_12 : decode cX9_partOf 12 = .ok (.ifCond .ne 7, 3) := by decide +kernel
theorem dX9_partOf_15 : decode cX9_partOf 15 = .ok (.lload_n 0, 1) := by decide +kernel
theorem dX9_partOf_16 : decode cX9_partOf 16 = .ok (.goto 4, 3) := by decide +kernel
theorem dX9_partOf_19 : decode cX9_partOf 19 = .ok (.lload_n 2, 1) := by decide +kernel
theorem dX9_partOf_20 : decode cX9_partOf 20 = .ok (.lload_n 0, 1) := by decide +kernel
theorem dX9_partOf_21 : decode cX9_partOf 21 = .ok (.lload_n 2, 1) := by decide +kernel
theorem dX9_partOf_22 : decode cX9_partOf 22 = .ok (.invokestatic 194, 3) := by decide +kernel
theorem dX9_partOf_25 : decode cX9_partOf 25 = .ok (.ldiv, 1) := by decide +kernel
theorem dX9_partOf_26 : decode cX9_partOf 26 = .ok (.lreturn, 1) := by decide +kernel
theorem dX9_chance_0 : decode cX9_chance 0 = .ok (.iload_n 1, 1) := by decide +kernel
theorem dX9_chance_1 : decode cX9_chance 1 = .ok (.iconst 0, 1) := by decide +kernel
theorem dX9_chance_2 : decode cX9_chance 2 = .ok (.bipush 8, 2) := by decide +kernel
theorem dX9_chance_4 : decode cX9_chance 4 = .ok (.invokestatic 49, 3) := by decide +kernel
theorem dX9_chance_7 : decode cX9_chance 7 = .ok (.ifCond .eq 33, 3) := by decide +kernel
theorem dX9_chance_10 : decode cX9_chance 10 = .ok (.iload_n 2, 1) := by decide +kernel
theorem dX9_chance_11 : decode cX9_chance 11 = .ok (.iconst 2, 1) := by decide +kernel
theorem dX9_chance_12 : decode cX9_chance 12 = .ok (.bipush 20, 2) := by decide +kernel
theorem dX9_chance_14 : decode cX9_chance 14 = .ok (.invokestatic 49, 3) := by decide +kernel
theorem dX9_chance_17 : decode cX9_chance 17 = .ok (.ifCond .eq 23, 3) := by decide +kernel
theorem dX9_chance_20 : decode cX9_chance 20 = .ok (.iload_n 3, 1) := by decide +kernel
theorem dX9_chance_21 : decode cX9_chance 21 = .ok (.iconst 0, 1) := by decide +kernel
theorem dX9_chance_22 : decode cX9_chance 22 = .ok (.bipush 8, 2) := by decide +kernel
theorem dX9_chance_24 : decode cX9_chance 24 = .ok (.invokestatic 49, 3) := by decide +kernel
theorem dX9_chance_27 : decode cX9_chance 27 = .ok (.ifCond .eq 13, 3) := by decide +kernel
theorem dX9_chance_30 : decode cX9_chance 30 = .ok (.iload 4, 2) := by decide +kernel
theorem dX9_chance_32 : decode cX9_chance 32 = .ok (.iconst 0, 1) := by decide +kernel
theorem dX9_chance_33 : decode cX9_chance 33 = .ok (.iconst 1, 1) := by decide +kernel
theorem dX9_chance_34 : decode cX9_chance 34 = .ok (.invokestatic 49, 3) := by decide +kernel
theorem dX9_chance_37 : decode cX9_chance 37 = .ok (.ifCond .ne 7, 3) := by decide +kernel
theorem dX9_chance_40 : decode cX9_chance 40 = .ok (.ldc2_w 198, 3) := by decide +kernel
theorem dX9_chance_43 : decode cX9_chance 43 = .ok (.lreturn, 1) := by decide +kernel
theorem dX9_chance_44 : decode cX9_chance 44 = .ok (.lconst 0, 1) := by decide +kernel
theorem dX9_chance_45 : decode cX9_chance 45 = .ok (.lstore 5, 2) := by decide +kernel
theorem dX9_chance_47 : decode cX9_chance 47 = .ok (.lconst 1, 1) := by decide +kernel
theorem dX9_chance_48 : decode cX9_chance 48 = .ok (.lstore 7, 2) := by decide +kernel
theorem dX9_chance_50 : decode cX9_chance 50 = .ok (.iconst 0, 1) := by decide +kernel
theorem dX9_chance_51 : decode cX9_chance 51 = .ok (.istore 9, 2) := by decide +kernel
theorem dX9_chance_53 : decode cX9_chance 53 = .ok (.iload 9, 2) := by decide +kernel
theorem dX9_chance_55 : decode cX9_chance 55 = .ok (.iload_n 1, 1) := by decide +kernel
theorem dX9_chance_56 : decode cX9_chance 56 = .ok (.if_icmp .ge 16, 3) := by decide +kernel
theorem dX9_chance_59 : decode cX9_chance 59 = .ok (.lload 7, 2) := by decide +kernel
theorem dX9_chance_61 : decode cX9_chance 61 = .ok (.iload_n 2, 1) := by decide +kernel
theorem dX9_chance_62 : decode cX9_chance 62 = .ok (.i2l, 1) := by decide +kernel
theorem dX9_chance_63 : decode cX9_chance 63 = .ok (.lmul, 1) := by decide +kernel
theorem dX9_chance_64 : decode cX9_chance 64 = .ok (.lstore 7, 2) := by decide +kernel
theorem dX9_chance_66 : decode cX9_chance 66 = .ok (.iinc 9 1, 3) := by decide +kernel
theorem dX9_chance_69 : decode cX9_chance 69 = .ok (.goto (-16), 3) := by decide +kernel
theorem dX9_chance_72 : decode cX9_chance 72 = .ok (.iconst 0, 1) := by decide +kernel
theorem dX9_chance_73 : decode cX9_chance 73 = .ok (.istore 9, 2) := by decide +kernel
theorem dX9_chance_75 : decode cX9_chance 75 = .ok (.iload 9, 2) := by decide +kernel
theorem dX9_chance_77 : decode cX9_chance 77 = .ok (.iconst 1, 1) := by decide +kernel
theorem dX9_chance_78 : decode cX9_chance 78 = .ok (.iload_n 1, 1) := by decide +kernel
theorem dX9_chance_79 : decode cX9_chance 79 = .ok (.ishl, 1) := by decide +kernel
theorem dX9_chance_80 : decode cX9_chance 80 = .ok (.if_icmp .ge 60, 3) := by decide +kernel
theorem dX9_chance_83 : decode cX9_chance 83 = .ok (.lconst 1, 1) := by decide +kernel
theorem dX9_chance_84 : decode cX9_chance 84 = .ok (.lstore 10, 2) := by decide +kernel
theorem dX9_chance_86 : decode cX9_chance 86 = .ok (.iload 9, 2) := by decide +kernel
theorem dX9_chance_88 : decode cX9_chance 88 = .ok (.invokestatic 153, 3) := by decide +kernel
theorem dX9_chance_91 : decode cX9_chance 91 = .ok (.istore 12, 2) := by decide +kernel
theorem dX9_chance_93 : decode cX9_chance 93 = .ok (.iload 12, 2) := by decide +kernel
theorem dX9_chance_95 : decode cX9_chance 95 = .ok (.iload_n 1, 1) := by decide +kernel
theorem dX9_chance_96 : decode cX9_chance 96 = .ok (.if_icmp .ge 18, 3) := by decide +kernel
theorem dX9_chance_99 : decode cX9_chance 99 = .ok (.lload 10, 2) := by decide +kernel
theorem dX9_chance_101 : decode cX9_chance 101 = .ok (.iload_n 2, 1) := by decide +kernel
theorem dX9_chance_102 : decode cX9_chance 102 = .ok (.iconst 1, 1) := by decide +kernel
theorem dX9_chance_103 : decode cX9_chance 103 = .ok (.isub, 1) := by decide +kernel
theorem dX9_chance_104 : decode cX9_chance 104 = .ok (.i2l, 1) := by decide +kernel
theorem dX9_chance_105 : decode cX9_chance 105 = .ok (.lmul, 1) := by decide +kernel
theorem dX9_chance_106 : decode cX9_chance 106 = .ok (.lstore 10, 2) := by decide +kernel
theorem dX9_chance_108 : decode cX9_chance 108 = .ok (.iinc 12 1, 3) := by decide +kernel
theorem dX9_chance_111 : decode cX9_chance 111 = .ok (.goto (-18), 3) := by decide +kernel
theorem dX9_chance_114 : decode cX9_chance 114 = .ok (.lload 5, 2) := by decide +kernel
theorem dX9_chance_116 : decode cX9_chance 116 = .ok (.iload 9, 2) := by decide +kernel
theorem dX9_chance_118 : decode cX9_chance 118 = .ok (.invokestatic 153, 3) := by decide +kernel
theorem dX9_chance_121 : decode cX9_chance 121 = .ok (.iload_n 3, 1) := by decide +kernel
theorem dX9_chance_122 : decode cX9_chance 122 = .ok (.if_icmp .lt 8, 3) := by decide +kernel
theorem dX9_chance_125 : decode cX9_chance 125 = .ok (.lload 10, 2) := by decide +kernel
theorem dX9_chance_127 : decode cX9_chance 127 = .ok (.goto 4, 3) := by decide +kernel
theorem dX9_chance_130 : decode cX9_chance 130 = .ok (.lconst 0, 1) := by decide +kernel
theorem dX9_chance_131 : decode cX9_chance 131 = .ok (.ladd, 1) := by decide +kernel
theorem dX9_chance_132 : decode cX9_chance 132 = .ok (.lstore 5, 2) := by decide +kernel
theorem dX9_chance_134 : decode cX9_chance 134 = .ok (.iinc 9 1, 3) := by decide +kernel
theorem dX9_chance_137 : decode cX9_chance 137 = .ok (.goto (-62), 3) := by decide +kernel
theorem dX9_chance_140 : decode cX9_chance 140 = .ok (.lload 5, 2) := by decide +kernel
theorem dX9_chance_142 : decode cX9_chance 142 = .ok (.lload 7, 2) := by decide +kernel
theorem dX9_chance_144 : decode cX9_chance 144 = .ok (.iload 4, 2) := by decide +kernel
theorem dX9_chance_146 : decode cX9_chance 146 = .ok (.invokestatic 200, 3) := by decide +kernel
theorem dX9_chance_149 : decode cX9_chance 149 = .ok (.lreturn, 1) := by decide +kernel
theorem dX9_manyTold_0 : decode cX9_manyTold 0 = .ok (.iconst 0, 1) := by decide +kernel
theorem dX9_manyTold_1 : decode cX9_manyTold 1 = .ok (.istore_n 1, 1) := by decide +kernel
theorem dX9_manyTold_2 : decode cX9_manyTold 2 = .ok (.iconst 0, 1) := by decide +kernel
theorem dX9_manyTold_3 : decode cX9_manyTold 3 = .ok (.istore_n 2, 1) := by decide +kernel
theorem dX9_manyTold_4 : decode cX9_manyTold 4 = .ok (.iload_n 2, 1) := by decide +kernel
theorem dX9_manyTold_5 : decode cX9_manyTold 5 = .ok (.aload_n 0, 1) := by decide +kernel
theorem dX9_manyTold_6 : decode cX9_manyTold 6 = .ok (.getfield 9, 3) := by decide +kernel
theorem dX9_manyTold_9 : decode cX9_manyTold 9 = .ok (.iconst 0, 1) := by decide +kernel
theorem dX9_manyTold_10 : decode cX9_manyTold 10 = .ok (.iaload, 1) := by decide +kernel
theorem dX9_manyTold_11 : decode cX9_manyTold 11 = .ok (.if_icmp .ge 28, 3) := by decide +kernel
theorem dX9_manyTold_14 : decode cX9_manyTold 14 = .ok (.iload_n 1, 1) := by decide +kernel
theorem dX9_manyTold_15 : decode cX9_manyTold 15 = .ok (.aload_n 0, 1) := by decide +kernel
theorem dX9_manyTold_16 : decode cX9_manyTold 16 = .ok (.getfield 9, 3) := by decide +kernel
theorem dX9_manyTold_19 : decode cX9_manyTold 19 = .ok (.iload_n 2, 1) := by decide +kernel
theorem dX9_manyTold_20 : decode cX9_manyTold 20 = .ok (.invokestatic 67, 3) := by decide +kernel
theorem dX9_manyTold_23 : decode cX9_manyTold 23 = .ok (.ifCond .eq 7, 3) := by decide +kernel
theorem dX9_manyTold_26 : decode cX9_manyTold 26 = .ok (.iconst 1, 1) := by decide +kernel
theorem dX9_manyTold_27 : decode cX9_manyTold 27 = .ok (.goto 4, 3) := by decide +kernel
theorem dX9_manyTold_30 : decode cX9_manyTold 30 = .ok (.iconst 0, 1) := by decide +kernel
theorem dX9_manyTold_31 : decode cX9_manyTold 31 = .ok (.iadd, 1) := by decide +kernel
theorem dX9_manyTold_32 : decode cX9_manyTold 32 = .ok (.istore_n 1, 1) := by decide +kernel
theorem dX9_manyTold_33 : decode cX9_manyTold 33 = .ok (.iinc 2 1, 3) := by decide +kernel
theorem dX9_manyTold_36 : decode cX9_manyTold 36 = .ok (.goto (-32), 3) := by decide +kernel
theorem dX9_manyTold_39 : decode cX9_manyTold 39 = .ok (.iload_n 1, 1) := by decide +kernel
theorem dX9_manyTold_40 : decode cX9_manyTold 40 = .ok (.ireturn, 1) := by decide +kernel
theorem dX9_mean_0 : decode cX9_mean 0 = .ok (.iload_n 1, 1) := by decide +kernel
theorem dX9_mean_1 : decode cX9_mean 1 = .ok (.iconst 0, 1) := by decide +kernel
theorem dX9_mean_2 : decode cX9_mean 2 = .ok (.iconst 1, 1) := by decide +kernel
theorem dX9_mean_3 : decode cX9_mean 3 = .ok (.invokestatic 49, 3) := by decide +kernel
theorem dX9_mean_6 : decode cX9_mean 6 = .ok (.ifCond .eq 21, 3) := by decide +kernel
theorem dX9_mean_9 : decode cX9_mean 9 = .ok (.aload_n 0, 1) := by decide +kernel
theorem dX9_mean_10 : decode cX9_mean 10 = .ok (.iconst 0, 1) := by decide +kernel
theorem dX9_mean_11 : decode cX9_mean 11 = .ok (.invokevirtual 188, 3) := by decide +kernel
theorem dX9_mean_14 : decode cX9_mean 14 = .ok (.i2l, 1) := by decide +kernel
theorem dX9_mean_15 : decode cX9_mean 15 = .ok (.aload_n 0, 1) := by decide +kernel
theorem dX9_mean_16 : decode cX9_mean 16 = .ok (.invokevirtual 204, 3) := by decide +kernel
theorem dX9_mean_19 : decode cX9_mean 19 = .ok (.i2l, 1) := by decide +kernel
theorem dX9_mean_20 : decode cX9_mean 20 = .ok (.iload_n 1, 1) := by decide +kernel
theorem dX9_mean_21 : decode cX9_mean 21 = .ok (.invokestatic 200, 3) := by decide +kernel
theorem dX9_mean_24 : decode cX9_mean 24 = .ok (.goto 6, 3) := by decide +kernel
theorem dX9_mean_27 : decode cX9_mean 27 = .ok (.ldc2_w 198, 3) := by decide +kernel
theorem dX9_mean_30 : decode cX9_mean 30 = .ok (.lreturn, 1) := by decide +kernel
theorem dX9_gap_0 : decode cX9_gap 0 = .ok (.iload_n 1, 1) := by decide +kernel
theorem dX9_gap_1 : decode cX9_gap 1 = .ok (.iconst 0, 1) := by decide +kernel
theorem dX9_gap_2 : decode cX9_gap 2 = .ok (.iconst 1, 1) := by decide +kernel
theorem dX9_gap_3 : decode cX9_gap 3 = .ok (.invokestatic 49, 3) := by decide +kernel
theorem dX9_gap_6 : decode cX9_gap 6 = .ok (.ifCond .ne 5, 3) := by decide +kernel
theorem dX9_gap_9 : decode cX9_gap 9 = .ok (.iconst (-1), 1) := by decide +kernel
theorem dX9_gap_10 : decode cX9_gap 10 = .ok (.ireturn, 1) := by decide +kernel
theorem dX9_gap_11 : decode cX9_gap 11 = .ok (.iconst 0, 1) := by decide +kernel
theorem dX9_gap_12 : decode cX9_gap 12 = .ok (.istore_n 2, 1) := by decide +kernel
theorem dX9_gap_13 : decode cX9_gap 13 = .ok (.bipush (-4), 2) := by decide +kernel
theorem dX9_gap_15 : decode cX9_gap 15 = .ok (.istore_n 3, 1) := by decide +kernel
theorem dX9_gap_16 : decode cX9_gap 16 = .ok (.iconst 0, 1) := by decide +kernel
theorem dX9_gap_17 : decode cX9_gap 17 = .ok (.istore 4, 2) := by decide +kernel
theorem dX9_gap_19 : decode cX9_gap 19 = .ok (.iconst 0, 1) := by decide +kernel
theorem dX9_gap_20 : decode cX9_gap 20 = .ok (.istore 5, 2) := by decide +kernel
theorem dX9_gap_22 : decode cX9_gap 22 = .ok (.iload 5, 2) := by decide +kernel
theorem dX9_gap_24 : decode cX9_gap 24 = .ok (.aload_n 0, 1) := by decide +kernel
theorem dX9_gap_25 : decode cX9_gap 25 = .ok (.getfield 9, 3) := by decide +kernel
theorem dX9_gap_28 : decode cX9_gap 28 = .ok (.iconst 1, 1) := by decide +kernel
theorem dX9_gap_29 : decode cX9_gap 29 = .ok (.iaload, 1) := by decide +kernel
theorem dX9_gap_30 : decode cX9_gap 30 = .ok (.sipush 364, 3) := by decide +kernel
theorem dX9_gap_33 : decode cX9_gap 33 = .ok (.invokestatic 181, 3) := by decide +kernel
theorem dX9_gap_36 : decode cX9_gap 36 = .ok (.if_icmp .gt 93, 3) := by decide +kernel
theorem dX9_gap_39 : decode cX9_gap 39 = .ok (.iconst 1, 1) := by decide +kernel
theorem dX9_gap_40 : decode cX9_gap 40 = .ok (.istore 6, 2) := by decide +kernel
theorem dX9_gap_42 : decode cX9_gap 42 = .ok (.iconst 0, 1) := by decide +kernel
theorem dX9_gap_43 : decode cX9_gap 43 = .ok (.istore 7, 2) := by decide +kernel
theorem dX9_gap_45 : decode cX9_gap 45 = .ok (.iload 7, 2) := by decide +kernel
theorem dX9_gap_47 : decode cX9_gap 47 = .ok (.aload_n 0, 1) := by decide +kernel
theorem dX9_gap_48 : decode cX9_gap 48 = .ok (.getfield 9, 3) := by decide +kernel
theorem dX9_gap_51 : decode cX9_gap 51 = .ok (.iconst 0, 1) := by decide +kernel
theorem dX9_gap_52 : decode cX9_gap 52 = .ok (.iaload, 1) := by decide +kernel
theorem dX9_gap_53 : decode cX9_gap 53 = .ok (.if_icmp .ge 35, 3) := by decide +kernel
theorem dX9_gap_56 : decode cX9_gap 56 = .ok (.iload 6, 2) := by decide +kernel
theorem dX9_gap_58 : decode cX9_gap 58 = .ok (.aload_n 0, 1) := by decide +kernel
theorem dX9_gap_59 : decode cX9_gap 59 = .ok (.getfield 9, 3) := by decide +kernel
theorem dX9_gap_62 : decode cX9_gap 62 = .ok (.iload 7, 2) := by decide +kernel
theorem dX9_gap_64 : decode cX9_gap 64 = .ok (.iconst 2, 1) := by decide +kernel
theorem dX9_gap_65 : decode cX9_gap 65 = .ok (.invokestatic 57, 3) := by decide +kernel
theorem dX9_gap_68 : decode cX9_gap 68 = .ok (.iaload, 1) := by decide +kernel
theorem dX9_gap_69 : decode cX9_gap 69 = .ok (.iload 5, 2) := by decide +kernel
theorem dX9_gap_71 : decode cX9_gap 71 = .ok (.if_icmp .eq 7, 3) := by decide +kernel
theorem dX9_gap_74 : decode cX9_gap 74 = .ok (.iconst 1, 1) := by decide +kernel
theorem dX9_gap_75 : decode cX9_gap 75 = .ok (.goto 4, 3) := by decide +kernel
theorem dX9_gap_78 : decode cX9_gap 78 = .ok (.iconst 0, 1) := by decide +kernel
theorem dX9_gap_79 : decode cX9_gap 79 = .ok (.iand, 1) := by decide +kernel
theorem dX9_gap_80 : decode cX9_gap 80 = .ok (.istore 6, 2) := by decide +kernel
theorem dX9_gap_82 : decode cX9_gap 82 = .ok (.iinc 7 1, 3) := by decide +kernel
theorem dX9_gap_85 : decode cX9_gap 85 = .ok (.goto (-40), 3) := by decide +kernel
theorem dX9_gap_88 : decode cX9_gap 88 = .ok (.iload 6, 2) := by decide +kernel
theorem dX9_gap_90 : decode cX9_gap 90 = .ok (.ifCond .eq 10, 3) := by decide +kernel
theorem dX9_gap_93 : decode cX9_gap 93 = .ok (.iload 4, 2) := by decide +kernel
theorem dX9_gap_95 : decode cX9_gap 95 = .ok (.iconst 1, 1) := by decide +kernel
theorem dX9_gap_96 : decode cX9_gap 96 = .ok (.iadd, 1) := by decide +kernel
theorem dX9_gap_97 : decode cX9_gap 97 = .ok (.goto 4, 3) := by decide +kernel
theorem dX9_gap_100 : decode cX9_gap 100 = .ok (.iconst 0, 1) := by decide +kernel
theorem dX9_gap_101 : decode cX9_gap 101 = .ok (.istore 4, 2) := by decide +kernel
theorem dX9_gap_103 : decode cX9_gap 103 = .ok (.iload 4, 2) := by decide +kernel
theorem dX9_gap_105 : decode cX9_gap 105 = .ok (.iload_n 2, 1) := by decide +kernel
theorem dX9_gap_106 : decode cX9_gap 106 = .ok (.if_icmp .gt 6, 3) := by decide +kernel
theorem dX9_gap_109 : decode cX9_gap 109 = .ok (.goto 14, 3) := by decide +kernel
theorem dX9_gap_112 : decode cX9_gap 112 = .ok (.iload 4, 2) := by decide +kernel
theorem dX9_gap_114 : decode cX9_gap 114 = .ok (.istore_n 2, 1) := by decide +kernel
theorem dX9_gap_115 : decode cX9_gap 115 = .ok (.iload 5, 2) := by decide +kernel
theorem dX9_gap_117 : decode cX9_gap 117 = .ok (.iload 4, 2) := by decide +kernel
theorem dX9_gap_119 : decode cX9_gap 119 = .ok (.isub, 1) := by decide +kernel
theorem dX9_gap_120 : decode cX9_gap 120 = .ok (.iconst 1, 1) := by decide +kernel
theorem dX9_gap_121 : decode cX9_gap 121 = .ok (.iadd, 1) := by decide +kernel
theorem dX9_gap_122 : decode cX9_gap 122 = .ok (.istore_n 3, 1) := by decide +kernel
theorem dX9_gap_123 : decode cX9_gap 123 = .ok (.iinc 5 1, 3) := by decide +kernel
theorem dX9_gap_126 : decode cX9_gap 126 = .ok (.goto (-104), 3) := by decide +kernel
theorem dX9_gap_129 : decode cX9_gap 129 = .ok (.iload_n 1, 1) := by decide +kernel
theorem dX9_gap_130 : decode cX9_gap 130 = .ok (.ifCond .ne 7, 3) := by decide +kernel
theorem dX9_gap_133 : decode cX9_gap 133 = .ok (.iload_n 2, 1) := by decide +kernel
theorem dX9_gap_134 : decode cX9_gap 134 = .ok (.goto 4, 3) := by decide +kernel
theorem dX9_gap_137 : decode cX9_gap 137 = .ok (.iload_n 3, 1) := by decide +kernel
theorem dX9_gap_138 : decode cX9_gap 138 = .ok (.ireturn, 1) := by decide +kernel
theorem dX9_quarrel_0 : decode cX9_quarrel 0 = .ok (.bipush (-4), 2) := by decide +kernel
theorem dX9_quarrel_2 : decode cX9_quarrel 2 = .ok (.istore_n 1, 1) := by decide +kernel
theorem dX9_quarrel_3 : decode cX9_quarrel 3 = .ok (.iconst 0, 1) := by decide +kernel
theorem dX9_quarrel_4 : decode cX9_quarrel 4 = .ok (.istore_n 2, 1) := by decide +kernel
theorem dX9_quarrel_5 : decode cX9_quarrel 5 = .ok (.iconst 0, 1) := by decide +kernel
theorem dX9_quarrel_6 : decode cX9_quarrel 6 = .ok (.istore_n 3, 1) := by decide +kernel
theorem dX9_quarrel_7 : decode cX9_quarrel 7 = .ok (.iload_n 3, 1) := by decide +kernel
theorem dX9_quarrel_8 : decode cX9_quarrel 8 = .ok (.iconst 5, 1) := by decide +kernel
theorem dX9_quarrel_9 : decode cX9_quarrel 9 = .ok (.if_icmp .ge 130, 3) := by decide +kernel
theorem dX9_quarrel_12 : decode cX9_quarrel 12 = .ok (.iload_n 3, 1) := by decide +kernel
theorem dX9_quarrel_13 : decode cX9_quarrel 13 = .ok (.iconst 1, 1) := by decide +kernel
theorem dX9_quarrel_14 : decode cX9_quarrel 14 = .ok (.iadd, 1) := by decide +kernel
theorem dX9_quarrel_15 : decode cX9_quarrel 15 = .ok (.istore 4, 2) := by decide +kernel
theorem dX9_quarrel_17 : decode cX9_quarrel 17 = .ok (.iload 4, 2) := by decide +kernel
theorem dX9_quarrel_19 : decode cX9_quarrel 19 = .ok (.iconst 5, 1) := by decide +kernel
theorem dX9_quarrel_20 : decode cX9_quarrel 20 = .ok (.if_icmp .ge 113, 3) := by decide +kernel
theorem dX9_quarrel_23 : decode cX9_quarrel 23 = .ok (.iconst 0, 1) := by decide +kernel
theorem dX9_quarrel_24 : decode cX9_quarrel 24 = .ok (.istore 5, 2) := by decide +kernel
theorem dX9_quarrel_26 : decode cX9_quarrel 26 = .ok (.iconst 0, 1) := by decide +kernel
theorem dX9_quarrel_27 : decode cX9_quarrel 27 = .ok (.istore 6, 2) := by decide +kernel
theorem dX9_quarrel_29 : decode cX9_quarrel 29 = .ok (.iload 6, 2) := by decide +kernel
theorem dX9_quarrel_31 : decode cX9_quarrel 31 = .ok (.aload_n 0, 1) := by decide +kernel
theorem dX9_quarrel_32 : decode cX9_quarrel 32 = .ok (.getfield 9, 3) := by decide +kernel
theorem dX9_quarrel_35 : decode cX9_quarrel 35 = .ok (.iconst 0, 1) := by decide +kernel
theorem dX9_quarrel_36 : decode cX9_quarrel 36 = .ok (.iaload, 1) := by decide +kernel
theorem dX9_quarrel_37 : decode cX9_quarrel 37 = .ok (.if_icmp .ge 70, 3) := by decide +kernel
theorem dX9_quarrel_40 : decode cX9_quarrel 40 = .ok (.iload 5, 2) := by decide +kernel
theorem dX9_quarrel_42 : decode cX9_quarrel 42 = .ok (.aload_n 0, 1) := by decide +kernel
theorem dX9_quarrel_43 : decode cX9_quarrel 43 = .ok (.getfield 9, 3) := by decide +kernel
theorem dX9_quarrel_46 : decode cX9_quarrel 46 = .ok (.iload_n 3, 1) := by decide +kernel
theorem dX9_quarrel_47 : decode cX9_quarrel 47 = .ok (.iload 6, 2) := by decide +kernel
theorem dX9_quarrel_49 : decode cX9_quarrel 49 = .ok (.invokestatic 71, 3) := by decide +kernel
theorem dX9_quarrel_52 : decode cX9_quarrel 52 = .ok (.ifCond .eq 45, 3) := by decide +kernel
theorem dX9_quarrel_55 : decode cX9_quarrel 55 = .ok (.aload_n 0, 1) := by decide +kernel
theorem dX9_quarrel_56 : decode cX9_quarrel 56 = .ok (.getfield 9, 3) := by decide +kernel
theorem dX9_quarrel_59 : decode cX9_quarrel 59 = .ok (.iload 4, 2) := by decide +kernel
theorem dX9_quarrel_61 : decode cX9_quarrel 61 = .ok (.iload 6, 2) := by decide +kernel
theorem dX9_quarrel_63 : decode cX9_quarrel 63 = .ok (.invokestatic 71, 3) := by decide +kernel
theorem dX9_quarrel_66 : decode cX9_quarrel 66 = .ok (.ifCond .eq 31, 3) := by decide +kernel
theorem dX9_quarrel_69 : decode cX9_quarrel 69 = .ok (.aload_n 0, 1) := by decide +kernel
theorem dX9_quarrel_70 : decode cX9_quarrel 70 = .ok (.getfield 9, 3) := by decide +kernel
theorem dX9_quarrel_73 : decode cX9_quarrel 73 = .ok (.iload_n 3, 1) := by decide +kernel
theorem dX9_quarrel_74 : decode cX9_quarrel 74 = .ok (.iload 6, 2) := by decide +kernel
theorem dX9_quarrel_76 : decode cX9_quarrel 76 = .ok (.invokestatic 78, 3) := by decide +kernel
theorem dX9_quarrel_79 : decode cX9_quarrel 79 = .ok (.aload_n 0, 1) := by decide +kernel
theorem dX9_quarrel_80 : decode cX9_quarrel 80 = .ok (.getfield 9, 3) := by decide +kernel
theorem dX9_quarrel_83 : decode cX9_quarrel 83 = .ok (.iload 4, 2) := by decide +kernel
theorem dX9_quarrel_85 : decode cX9_quarrel 85 = .ok (.iload 6, 2) := by decide +kernel
theorem dX9_quarrel_87 : decode cX9_quarrel 87 = .ok (.invokestatic 78, 3) := by decide +kernel
theorem dX9_quarrel_90 : decode cX9_quarrel 90 = .ok (.if_icmp .eq 7, 3) := by decide +kernel
theorem dX9_quarrel_93 : decode cX9_quarrel 93 = .ok (.iconst 1, 1) := by decide +kernel
theorem dX9_quarrel_94 : decode cX9_quarrel 94 = .ok (.goto 4, 3) := by decide +kernel
theorem dX9_quarrel_97 : decode cX9_quarrel 97 = .ok (.iconst 0, 1) := by decide +kernel
theorem dX9_quarrel_98 : decode cX9_quarrel 98 = .ok (.iadd, 1) := by decide +kernel
theorem dX9_quarrel_99 : decode cX9_quarrel 99 = .ok (.istore 5, 2) := by decide +kernel
theorem dX9_quarrel_101 : decode cX9_quarrel 101 = .ok (.iinc 6 1, 3) := by decide +kernel
theorem dX9_quarrel_104 : decode cX9_quarrel 104 = .ok (.goto (-75), 3) := by decide +kernel
theorem dX9_quarrel_107 : decode cX9_quarrel 107 = .ok (.iload 5, 2) := by decide +kernel
theorem dX9_quarrel_109 : decode cX9_quarrel 109 = .ok (.iload_n 2, 1) := by decide +kernel
theorem dX9_quarrel_110 : decode cX9_quarrel 110 = .ok (.if_icmp .gt 6, 3) := by decide +kernel
theorem dX9_quarrel_113 : decode cX9_quarrel 113 = .ok (.goto 14, 3) := by decide +kernel
theorem dX9_quarrel_116 : decode cX9_quarrel 116 = .ok (.bipush 10, 2) := by decide +kernel
theorem dX9_quarrel_118 : decode cX9_quarrel 118 = .ok (.iload_n 3, 1) := by decide +kernel
theorem dX9_quarrel_119 : decode cX9_quarrel 119 = .ok (.imul, 1) := by decide +kernel
theorem dX9_quarrel_120 : decode cX9_quarrel 120 = .ok (.iload 4, 2) := by decide +kernel
theorem dX9_quarrel_122 : decode cX9_quarrel 122 = .ok (.iadd, 1) := by decide +kernel
theorem dX9_quarrel_123 : decode cX9_quarrel 123 = .ok (.istore_n 1, 1) := by decide +kernel
theorem dX9_quarrel_124 : decode cX9_quarrel 124 = .ok (.iload 5, 2) := by decide +kernel
theorem dX9_quarrel_126 : decode cX9_quarrel 126 = .ok (.istore_n 2, 1) := by decide +kernel
theorem dX9_quarrel_127 : decode cX9_quarrel 127 = .ok (.iinc 4 1, 3) := by decide +kernel
theorem dX9_quarrel_130 : decode cX9_quarrel 130 = .ok (.goto (-113), 3) := by decide +kernel
theorem dX9_quarrel_133 : decode cX9_quarrel 133 = .ok (.iinc 3 1, 3) := by decide +kernel
theorem dX9_quarrel_136 : decode cX9_quarrel 136 = .ok (.goto (-129), 3) := by decide +kernel
theorem dX9_quarrel_139 : decode cX9_quarrel 139 = .ok (.iload_n 1, 1) := by decide +kernel
theorem dX9_quarrel_140 : decode cX9_quarrel 140 = .ok (.ireturn, 1) := by decide +kernel
theorem dX9_forged_0 : decode cX9_forged 0 = .ok (.aload_n 0, 1) := by decide +kernel
theorem dX9_forged_1 : decode cX9_forged 1 = .ok (.iload_n 1, 1) := by decide +kernel
theorem dX9_forged_2 : decode cX9_forged 2 = .ok (.iconst (-1), 1) := by decide +kernel
theorem dX9_forged_3 : decode cX9_forged 3 = .ok (.invokevirtual 125, 3) := by decide +kernel
theorem dX9_forged_6 : decode cX9_forged 6 = .ok (.istore_n 2, 1) := by decide +kernel
theorem dX9_forged_7 : decode cX9_forged 7 = .ok (.iload_n 2, 1) := by decide +kernel
theorem dX9_forged_8 : decode cX9_forged 8 = .ok (.ifCond .eq 5, 3) := by decide +kernel
theorem dX9_forged_11 : decode cX9_forged 11 = .ok (.iload_n 2, 1) := by decide +kernel
theorem dX9_forged_12 : decode cX9_forged 12 = .ok (.ireturn, 1) := by decide +kernel
theorem dX9_forged_13 : decode cX9_forged 13 = .ok (.aload_n 0, 1) := by decide +kernel
theorem dX9_forged_14 : decode cX9_forged 14 = .ok (.invokevirtual 159, 3) := by decide +kernel
theorem dX9_forged_17 : decode cX9_forged 17 = .ok (.iconst 0, 1) := by decide +kernel
theorem dX9_forged_18 : decode cX9_forged 18 = .ok (.istore_n 3, 1) := by decide +kernel
theorem dX9_forged_19 : decode cX9_forged 19 = .ok (.iload_n 3, 1) := by decide +kernel
theorem dX9_forged_20 : decode cX9_forged 20 = .ok (.aload_n 0, 1) := by decide +kernel
theorem dX9_forged_21 : decode cX9_forged 21 = .ok (.getfield 43, 3) := by decide +kernel
theorem dX9_forged_24 : decode cX9_forged 24 = .ok (.iload_n 1, 1) := by decide +kernel
theorem dX9_forged_25 : decode cX9_forged 25 = .ok (.iaload, 1) := by decide +kernel
theorem dX9_forged_26 : decode cX9_forged 26 = .ok (.if_icmp .ge 39, 3) := by decide +kernel
theorem dX9_forged_29 : decode cX9_forged 29 = .ok (.iload_n 3, 1) := by decide +kernel
theorem dX9_forged_30 : decode cX9_forged 30 = .ok (.aload_n 0, 1) := by decide +kernel
theorem dX9_forged_31 : decode cX9_forged 31 = .ok (.getfield 85, 3) := by decide +kernel
theorem dX9_forged_34 : decode cX9_forged 34 = .ok (.if_icmp .ge 23, 3) := by decide +kernel
theorem dX9_forged_37 : decode cX9_forged 37 = .ok (.aload_n 0, 1) := by decide +kernel
theorem dX9_forged_38 : decode cX9_forged 38 = .ok (.getfield 46, 3) := by decide +kernel
theorem dX9_forged_41 : decode cX9_forged 41 = .ok (.bipush 100, 2) := by decide +kernel
theorem dX9_forged_43 : decode cX9_forged 43 = .ok (.iload_n 1, 1) := by decide +kernel
theorem dX9_forged_44 : decode cX9_forged 44 = .ok (.imul, 1) := by decide +kernel
theorem dX9_forged_45 : decode cX9_forged 45 = .ok (.iload_n 3, 1) := by decide +kernel
theorem dX9_forged_46 : decode cX9_forged 46 = .ok (.iadd, 1) := by decide +kernel
theorem dX9_forged_47 : decode cX9_forged 47 = .ok (.iaload, 1) := by decide +kernel
theorem dX9_forged_48 : decode cX9_forged 48 = .ok (.aload_n 0, 1) := by decide +kernel
theorem dX9_forged_49 : decode cX9_forged 49 = .ok (.getfield 22, 3) := by decide +kernel
theorem dX9_forged_52 : decode cX9_forged 52 = .ok (.iload_n 3, 1) := by decide +kernel
theorem dX9_forged_53 : decode cX9_forged 53 = .ok (.iaload, 1) := by decide +kernel
theorem dX9_forged_54 : decode cX9_forged 54 = .ok (.if_icmp .eq 5, 3) := by decide +kernel
theorem dX9_forged_57 : decode cX9_forged 57 = .ok (.iload_n 3, 1) := by decide +kernel
theorem dX9_forged_58 : decode cX9_forged 58 = .ok (.ireturn, 1) := by decide +kernel
theorem dX9_forged_59 : decode cX9_forged 59 = .ok (.iinc 3 1, 3) := by decide +kernel
theorem dX9_forged_62 : decode cX9_forged 62 = .ok (.goto (-43), 3) := by decide +kernel
theorem dX9_forged_65 : decode cX9_forged 65 = .ok (.bipush (-4), 2) := by decide +kernel
theorem dX9_forged_67 : decode cX9_forged 67 = .ok (.ireturn, 1) := by decide +kernel
theorem dX9_judge_0 : decode cX9_judge 0 = .ok (.iload_n 2, 1) := by decide +kernel
theorem dX9_judge_1 : decode cX9_judge 1 = .ok (.invokestatic 115, 3) := by decide +kernel
theorem dX9_judge_4 : decode cX9_judge 4 = .ok (.ifCond .ne 5, 3) := by decide +kernel
theorem dX9_judge_7 : decode cX9_judge 7 = .ok (.iconst (-1), 1) := by decide +kernel
theorem dX9_judge_8 : decode cX9_judge 8 = .ok (.ireturn, 1) := by decide +kernel
theorem dX9_judge_9 : decode cX9_judge 9 = .ok (.aload_n 0, 1) := by decide +kernel
theorem dX9_judge_10 : decode cX9_judge 10 = .ok (.iload_n 1, 1) := by decide +kernel
theorem dX9_judge_11 : decode cX9_judge 11 = .ok (.iconst (-1), 1) := by decide +kernel
theorem dX9_judge_12 : decode cX9_judge 12 = .ok (.invokevirtual 125, 3) := by decide +kernel
theorem dX9_judge_15 : decode cX9_judge 15 = .ok (.istore_n 3, 1) := by decide +kernel
theorem dX9_judge_16 : decode cX9_judge 16 = .ok (.iload_n 3, 1) := by decide +kernel
theorem dX9_judge_17 : decode cX9_judge 17 = .ok (.ifCond .eq 5, 3) := by decide +kernel
theorem dX9_judge_20 : decode cX9_judge 20 = .ok (.iload_n 3, 1) := by decide +kernel
theorem dX9_judge_21 : decode cX9_judge 21 = .ok (.ireturn, 1) := by decide +kernel
theorem dX9_judge_22 : decode cX9_judge 22 = .ok (.aload_n 0, 1) := by decide +kernel
theorem dX9_judge_23 : decode cX9_judge 23 = .ok (.getfield 9, 3) := by decide +kernel
theorem dX9_judge_26 : decode cX9_judge 26 = .ok (.aload_n 0, 1) := by decide +kernel
theorem dX9_judge_27 : decode cX9_judge 27 = .ok (.getfield 13, 3) := by decide +kernel
theorem dX9_judge_30 : decode cX9_judge 30 = .ok (.invokestatic 132, 3) := by decide +kernel
theorem dX9_judge_33 : decode cX9_judge 33 = .ok (.iconst 0, 1) := by decide +kernel
theorem dX9_judge_34 : decode cX9_judge 34 = .ok (.istore 4, 2) := by decide +kernel
theorem dX9_judge_36 : decode cX9_judge 36 = .ok (.iload 4, 2) := by decide +kernel
theorem dX9_judge_38 : decode cX9_judge 38 = .ok (.aload_n 0, 1) := by decide +kernel
theorem dX9_judge_39 : decode cX9_judge 39 = .ok (.getfield 43, 3) := by decide +kernel
theorem dX9_judge_42 : decode cX9_judge 42 = .ok (.iload_n 1, 1) := by decide +kernel
theorem dX9_judge_43 : decode cX9_judge 43 = .ok (.iaload, 1) := by decide +kernel
theorem dX9_judge_44 : decode cX9_judge 44 = .ok (.if_icmp .ge 77, 3) := by decide +kernel
theorem dX9_judge_47 : decode cX9_judge 47 = .ok (.aload_n 0, 1) := by decide +kernel
theorem dX9_judge_48 : decode cX9_judge 48 = .ok (.getfield 46, 3) := by decide +kernel
theorem dX9_judge_51 : decode cX9_judge 51 = .ok (.bipush 100, 2) := by decide +kernel
theorem dX9_judge_53 : decode cX9_judge 53 = .ok (.iload_n 1, 1) := by decide +kernel
theorem dX9_judge_54 : decode cX9_judge 54 = .ok (.imul, 1) := by decide +kernel
theorem dX9_judge_55 : decode cX9_judge 55 = .ok (.iload 4, 2) := by decide +kernel
theorem dX9_judge_57 : decode cX9_judge 57 = .ok (.iadd, 1) := by decide +kernel
theorem dX9_judge_58 : decode cX9_judge 58 = .ok (.iaload, 1) := by decide +kernel
theorem dX9_judge_59 : decode cX9_judge 59 = .ok (.istore 5, 2) := by decide +kernel
theorem dX9_judge_61 : decode cX9_judge 61 = .ok (.aload_n 0, 1) := by decide +kernel
theorem dX9_judge_62 : decode cX9_judge 62 = .ok (.getfield 13, 3) := by decide +kernel
theorem dX9_judge_65 : decode cX9_judge 65 = .ok (.iconst 1, 1) := by decide +kernel
theorem dX9_judge_66 : decode cX9_judge 66 = .ok (.sipush 365, 3) := by decide +kernel
theorem dX9_judge_69 : decode cX9_judge 69 = .ok (.aload_n 0, 1) := by decide +kernel
theorem dX9_judge_70 : decode cX9_judge 70 = .ok (.getfield 9, 3) := by decide +kernel
theorem dX9_judge_73 : decode cX9_judge 73 = .ok (.iconst 1, 1) := by decide +kernel
theorem dX9_judge_74 : decode cX9_judge 74 = .ok (.iaload, 1) := by decide +kernel
theorem dX9_judge_75 : decode cX9_judge 75 = .ok (.iload 4, 2) := by decide +kernel
theorem dX9_judge_77 : decode cX9_judge 77 = .ok (.iadd, 1) := by decide +kernel
theorem dX9_judge_78 : decode cX9_judge 78 = .ok (.invokestatic 181, 3) := by decide +kernel
theorem dX9_judge_81 : decode cX9_judge 81 = .ok (.iastore, 1) := by decide +kernel
theorem dX9_judge_82 : decode cX9_judge 82 = .ok (.iload 5, 2) := by decide +kernel
theorem dX9_judge_84 : decode cX9_judge 84 = .ok (.aload_n 0, 1) := by decide +kernel
theorem dX9_judge_85 : decode cX9_judge 85 = .ok (.getfield 40, 3) := by decide +kernel
theorem dX9_judge_88 : decode cX9_judge 88 = .ok (.iload_n 1, 1) := by decide +kernel
theorem dX9_judge_89 : decode cX9_judge 89 = .ok (.iaload, 1) := by decide +kernel
theorem dX9_judge_90 : decode cX9_judge 90 = .ok (.invokestatic 185, 3) := by decide +kernel
theorem dX9_judge_93 : decode cX9_judge 93 = .ok (.if_icmp .eq 22, 3) := by decide +kernel
theorem dX9_judge_96 : decode cX9_judge 96 = .ok (.iload 5, 2) := by decide +kernel
theorem dX9_judge_98 : decode cX9_judge 98 = .ok (.aload_n 0, 1) := by decide +kernel
theorem dX9_judge_99 : decode cX9_judge 99 = .ok (.getfield 13, 3) := by decide +kernel
theorem dX9_judge_102 : decode cX9_judge 102 = .ok (.iload_n 2, 1) := by decide +kernel
theorem dX9_judge_103 : decode cX9_judge 103 = .ok (.invokestatic 147, 3) := by decide +kernel
theorem dX9_judge_106 : decode cX9_judge 106 = .ok (.invokestatic 153, 3) := by decide +kernel
theorem dX9_judge_109 : decode cX9_judge 109 = .ok (.if_icmp .eq 6, 3) := by decide +kernel
theorem dX9_judge_112 : decode cX9_judge 112 = .ok (.iload 4, 2) := by decide +kernel
theorem dX9_judge_114 : decode cX9_judge 114 = .ok (.ireturn, 1) := by decide +kernel
theorem dX9_judge_115 : decode cX9_judge 115 = .ok (.iinc 4 1, 3) := by decide +kernel
theorem dX9_judge_118 : decode cX9_judge 118 = .ok (.goto (-82), 3) := by decide +kernel
theorem dX9_judge_121 : decode cX9_judge 121 = .ok (.bipush (-4), 2) := by decide +kernel
theorem dX9_judge_123 : decode cX9_judge 123 = .ok (.ireturn, 1) := by decide +kernel
theorem dX9_drawn_0 : decode cX9_drawn 0 = .ok (.aload_n 0, 1) := by decide +kernel
theorem dX9_drawn_1 : decode cX9_drawn 1 = .ok (.aload_n 0, 1) := by decide +kernel
theorem dX9_drawn_2 : decode cX9_drawn 2 = .ok (.getfield 207, 3) := by decide +kernel
theorem dX9_drawn_5 : decode cX9_drawn 5 = .ok (.ldc 210, 2) := by decide +kernel
theorem dX9_drawn_7 : decode cX9_drawn 7 = .ok (.imul, 1) := by decide +kernel
theorem dX9_drawn_8 : decode cX9_drawn 8 = .ok (.sipush 12345, 3) := by decide +kernel
theorem dX9_drawn_11 : decode cX9_drawn 11 = .ok (.iadd, 1) := by decide +kernel
theorem dX9_drawn_12 : decode cX9_drawn 12 = .ok (.putfield 207, 3) := by decide +kernel
theorem dX9_drawn_15 : decode cX9_drawn 15 = .ok (.aload_n 0, 1) := by decide +kernel
theorem dX9_drawn_16 : decode cX9_drawn 16 = .ok (.getfield 207, 3) := by decide +kernel
theorem dX9_drawn_19 : decode cX9_drawn 19 = .ok (.ldc 211, 2) := by decide +kernel
theorem dX9_drawn_21 : decode cX9_drawn 21 = .ok (.iand, 1) := by decide +kernel
theorem dX9_drawn_22 : decode cX9_drawn 22 = .ok (.ldc 212, 2) := by decide +kernel
theorem dX9_drawn_24 : decode cX9_drawn 24 = .ok (.idiv, 1) := by decide +kernel
theorem dX9_drawn_25 : decode cX9_drawn 25 = .ok (.iload_n 1, 1) := by decide +kernel
theorem dX9_drawn_26 : decode cX9_drawn 26 = .ok (.irem, 1) := by decide +kernel
theorem dX9_drawn_27 : decode cX9_drawn 27 = .ok (.ireturn, 1) := by decide +kernel
theorem dX9_years_0 : decode cX9_years 0 = .ok (.iload_n 1, 1) := by decide +kernel
theorem dX9_years_1 : decode cX9_years 1 = .ok (.iconst 1, 1) := by decide +kernel
theorem dX9_years_2 : decode cX9_years 2 = .ok (.bipush 20, 2) := by decide +kernel
theorem dX9_years_4 : decode cX9_years 4 = .ok (.invokestatic 49, 3) := by decide +kernel
theorem dX9_years_7 : decode cX9_years 7 = .ok (.ifCond .eq 12, 3) := by decide +kernel
theorem dX9_years_10 : decode cX9_years 10 = .ok (.iload_n 3, 1) := by decide +kernel
theorem dX9_years_11 : decode cX9_years 11 = .ok (.iconst 0, 1) := by decide +kernel
theorem dX9_years_12 : decode cX9_years 12 = .ok (.iconst 1, 1) := by decide +kernel
theorem dX9_years_13 : decode cX9_years 13 = .ok (.invokestatic 49, 3) := by decide +kernel
theorem dX9_years_16 : decode cX9_years 16 = .ok (.ifCond .ne 5, 3) := by decide +kernel
theorem dX9_years_19 : decode cX9_years 19 = .ok (.iconst (-1), 1) := by decide +kernel
theorem dX9_years_20 : decode cX9_years 20 = .ok (.ireturn, 1) := by decide +kernel
theorem dX9_years_21 : decode cX9_years 21 = .ok (.aload_n 0, 1) := by decide +kernel
theorem dX9_years_22 : decode cX9_years 22 = .ok (.iload_n 2, 1) := by decide +kernel
theorem dX9_years_23 : decode cX9_years 23 = .ok (.putfield 207, 3) := by decide +kernel
theorem dX9_years_26 : decode cX9_years 26 = .ok (.iconst 0, 1) := by decide +kernel
theorem dX9_years_27 : decode cX9_years 27 = .ok (.istore 4, 2) := by decide +kernel
theorem dX9_years_29 : decode cX9_years 29 = .ok (.iconst 0, 1) := by decide +kernel
theorem dX9_years_30 : decode cX9_years 30 = .ok (.istore 5, 2) := by decide +kernel
theorem dX9_years_32 : decode cX9_years 32 = .ok (.iconst 0, 1) := by decide +kernel
theorem dX9_years_33 : decode cX9_years 33 = .ok (.istore 6, 2) := by decide +kernel
theorem dX9_years_35 : decode cX9_years 35 = .ok (.iload 6, 2) := by decide +kernel
theorem dX9_years_37 : decode cX9_years 37 = .ok (.iload_n 1, 1) := by decide +kernel
theorem dX9_years_38 : decode cX9_years 38 = .ok (.if_icmp .ge 130, 3) := by decide +kernel
theorem dX9_years_41 : decode cX9_years 41 = .ok (.aload_n 0, 1) := by decide +kernel
theorem dX9_years_42 : decode cX9_years 42 = .ok (.getfield 13, 3) := by decide +kernel
theorem dX9_years_45 : decode cX9_years 45 = .ok (.iconst 0, 1) := by decide +kernel
theorem dX9_years_46 : decode cX9_years 46 = .ok (.iconst 0, 1) := by decide +kernel
theorem dX9_years_47 : decode cX9_years 47 = .ok (.iastore, 1) := by decide +kernel
theorem dX9_years_48 : decode cX9_years 48 = .ok (.aload_n 0, 1) := by decide +kernel
theorem dX9_years_49 : decode cX9_years 49 = .ok (.getfield 13, 3) := by decide +kernel
theorem dX9_years_52 : decode cX9_years 52 = .ok (.iconst 1, 1) := by decide +kernel
theorem dX9_years_53 : decode cX9_years 53 = .ok (.sipush 365, 3) := by decide +kernel
theorem dX9_years_56 : decode cX9_years 56 = .ok (.iastore, 1) := by decide +kernel
theorem dX9_years_57 : decode cX9_years 57 = .ok (.iconst 0, 1) := by decide +kernel
theorem dX9_years_58 : decode cX9_years 58 = .ok (.istore 7, 2) := by decide +kernel
theorem dX9_years_60 : decode cX9_years 60 = .ok (.iload 7, 2) := by decide +kernel
theorem dX9_years_62 : decode cX9_years 62 = .ok (.bipush 10, 2) := by decide +kernel
theorem dX9_years_64 : decode cX9_years 64 = .ok (.if_icmp .ge 98, 3) := by decide +kernel
theorem dX9_years_67 : decode cX9_years 67 = .ok (.aload_n 0, 1) := by decide +kernel
theorem dX9_years_68 : decode cX9_years 68 = .ok (.bipush 8, 2) := by decide +kernel
theorem dX9_years_70 : decode cX9_years 70 = .ok (.invokevirtual 213, 3) := by decide +kernel
theorem dX9_years_73 : decode cX9_years 73 = .ok (.istore 8, 2) := by decide +kernel
theorem dX9_years_75 : decode cX9_years 75 = .ok (.aload_n 0, 1) := by decide +kernel
theorem dX9_years_76 : decode cX9_years 76 = .ok (.bipush 10, 2) := by decide +kernel
theorem dX9_years_78 : decode cX9_years 78 = .ok (.invokevirtual 213, 3) := by decide +kernel
theorem dX9_years_81 : decode cX9_years 81 = .ok (.istore 9, 2) := by decide +kernel
theorem dX9_years_83 : decode cX9_years 83 = .ok (.aload_n 0, 1) := by decide +kernel
theorem dX9_years_84 : decode cX9_years 84 = .ok (.sipush 365, 3) := by decide +kernel
theorem dX9_years_87 : decode cX9_years 87 = .ok (.invokevirtual 213, 3) := by decide +kernel
theorem dX9_years_90 : decode cX9_years 90 = .ok (.istore 10, 2) := by decide +kernel
theorem dX9_years_92 : decode cX9_years 92 = .ok (.aload_n 0, 1) := by decide +kernel
theorem dX9_years_93 : decode cX9_years 93 = .ok (.iconst 5, 1) := by decide +kernel
theorem dX9_years_94 : decode cX9_years 94 = .ok (.invokevirtual 213, 3) := by decide +kernel
theorem dX9_years_97 : decode cX9_years 97 = .ok (.istore 11, 2) := by decide +kernel
theorem dX9_years_99 : decode cX9_years 99 = .ok (.aload_n 0, 1) := by decide +kernel
theorem dX9_years_100 : decode cX9_years 100 = .ok (.getfield 13, 3) := by decide +kernel
theorem dX9_years_103 : decode cX9_years 103 = .ok (.iload 8, 2) := by decide +kernel
theorem dX9_years_105 : decode cX9_years 105 = .ok (.iload 9, 2) := by decide +kernel
theorem dX9_years_107 : decode cX9_years 107 = .ok (.iload 10, 2) := by decide +kernel
theorem dX9_years_109 : decode cX9_years 109 = .ok (.iload 11, 2) := by decide +kernel
theorem dX9_years_111 : decode cX9_years 111 = .ok (.aload_n 0, 1) := by decide +kernel
theorem dX9_years_112 : decode cX9_years 112 = .ok (.bipush 32, 2) := by decide +kernel
theorem dX9_years_114 : decode cX9_years 114 = .ok (.invokevirtual 213, 3) := by decide +kernel
theorem dX9_years_117 : decode cX9_years 117 = .ok (.invokestatic 118, 3) := by decide +kernel
theorem dX9_years_120 : decode cX9_years 120 = .ok (.iload 4, 2) := by decide +kernel
theorem dX9_years_122 : decode cX9_years 122 = .ok (.aload_n 0, 1) := by decide +kernel
theorem dX9_years_123 : decode cX9_years 123 = .ok (.getfield 13, 3) := by decide +kernel
theorem dX9_years_126 : decode cX9_years 126 = .ok (.iload 7, 2) := by decide +kernel
theorem dX9_years_128 : decode cX9_years 128 = .ok (.invokestatic 150, 3) := by decide +kernel
theorem dX9_years_131 : decode cX9_years 131 = .ok (.ifCond .ne 7, 3) := by decide +kernel
theorem dX9_years_134 : decode cX9_years 134 = .ok (.iconst 1, 1) := by decide +kernel
theorem dX9_years_135 : decode cX9_years 135 = .ok (.goto 4, 3) := by decide +kernel
theorem dX9_years_138 : decode cX9_years 138 = .ok (.iconst 0, 1) := by decide +kernel
theorem dX9_years_139 : decode cX9_years 139 = .ok (.iadd, 1) := by decide +kernel
theorem dX9_years_140 : decode cX9_years 140 = .ok (.istore 4, 2) := by decide +kernel
theorem dX9_years_142 : decode cX9_years 142 = .ok (.iload 5, 2) := by decide +kernel
theorem dX9_years_144 : decode cX9_years 144 = .ok (.aload_n 0, 1) := by decide +kernel
theorem dX9_years_145 : decode cX9_years 145 = .ok (.getfield 13, 3) := by decide +kernel
theorem dX9_years_148 : decode cX9_years 148 = .ok (.iload 7, 2) := by decide +kernel
theorem dX9_years_150 : decode cX9_years 150 = .ok (.invokestatic 81, 3) := by decide +kernel
theorem dX9_years_153 : decode cX9_years 153 = .ok (.iadd, 1) := by decide +kernel
theorem dX9_years_154 : decode cX9_years 154 = .ok (.istore 5, 2) := by decide +kernel
theorem dX9_years_156 : decode cX9_years 156 = .ok (.iinc 7 1, 3) := by decide +kernel
theorem dX9_years_159 : decode cX9_years 159 = .ok (.goto (-99), 3) := by decide +kernel
theorem dX9_years_162 : decode cX9_years 162 = .ok (.iinc 6 1, 3) := by decide +kernel
theorem dX9_years_165 : decode cX9_years 165 = .ok (.goto (-130), 3) := by decide +kernel
theorem dX9_years_168 : decode cX9_years 168 = .ok (.iload_n 3, 1) := by decide +kernel
theorem dX9_years_169 : decode cX9_years 169 = .ok (.ifCond .ne 8, 3) := by decide +kernel
theorem dX9_years_172 : decode cX9_years 172 = .ok (.iload 4, 2) := by decide +kernel
theorem dX9_years_174 : decode cX9_years 174 = .ok (.goto 5, 3) := by decide +kernel
theorem dX9_years_177 : decode cX9_years 177 = .ok (.iload 5, 2) := by decide +kernel
theorem dX9_years_179 : decode cX9_years 179 = .ok (.ireturn, 1) := by decide +kernel
theorem dX9_image_0 : decode cX9_image 0 = .ok (.aload_n 0, 1) := by decide +kernel
theorem dX9_image_1 : decode cX9_image 1 = .ok (.getfield 9, 3) := by decide +kernel
theorem dX9_image_4 : decode cX9_image 4 = .ok (.aload_n 0, 1) := by decide +kernel
theorem dX9_image_5 : decode cX9_image 5 = .ok (.getfield 16, 3) := by decide +kernel
theorem dX9_image_8 : decode cX9_image 8 = .ok (.invokestatic 132, 3) := by decide +kernel
theorem dX9_image_11 : decode cX9_image 11 = .ok (.aload_n 0, 1) := by decide +kernel
theorem dX9_image_12 : decode cX9_image 12 = .ok (.iconst 1, 1) := by decide +kernel
theorem dX9_image_13 : decode cX9_image 13 = .ok (.putfield 216, 3) := by decide +kernel
theorem dX9_image_16 : decode cX9_image 16 = .ok (.aload_n 0, 1) := by decide +kernel
theorem dX9_image_17 : decode cX9_image 17 = .ok (.getfield 9, 3) := by decide +kernel
theorem dX9_image_20 : decode cX9_image 20 = .ok (.iconst 0, 1) := by decide +kernel
theorem dX9_image_21 : decode cX9_image 21 = .ok (.iaload, 1) := by decide +kernel
theorem dX9_image_22 : decode cX9_image 22 = .ok (.ireturn, 1) := by decide +kernel
theorem dX9_restore_0 : decode cX9_restore 0 = .ok (.aload_n 0, 1) := by decide +kernel
theorem dX9_restore_1 : decode cX9_restore 1 = .ok (.getfield 216, 3) := by decide +kernel
theorem dX9_restore_4 : decode cX9_restore 4 = .ok (.ifCond .ne 6, 3) := by decide +kernel
theorem dX9_restore_7 : decode cX9_restore 7 = .ok (.bipush (-3), 2) := by decide +kernel
theorem dX9_restore_9 : decode cX9_restore 9 = .ok (.ireturn, 1) := by decide +kernel
theorem dX9_restore_10 : decode cX9_restore 10 = .ok (.aload_n 0, 1) := by decide +kernel
theorem dX9_restore_11 : decode cX9_restore 11 = .ok (.getfield 16, 3) := by decide +kernel
theorem dX9_restore_14 : decode cX9_restore 14 = .ok (.aload_n 0, 1) := by decide +kernel
theorem dX9_restore_15 : decode cX9_restore 15 = .ok (.getfield 9, 3) := by decide +kernel
theorem dX9_restore_18 : decode cX9_restore 18 = .ok (.invokestatic 132, 3) := by decide +kernel
theorem dX9_restore_21 : decode cX9_restore 21 = .ok (.aload_n 0, 1) := by decide +kernel
theorem dX9_restore_22 : decode cX9_restore 22 = .ok (.getfield 9, 3) := by decide +kernel
theorem dX9_restore_25 : decode cX9_restore 25 = .ok (.iconst 0, 1) := by decide +kernel
theorem dX9_restore_26 : decode cX9_restore 26 = .ok (.iaload, 1) := by decide +kernel
theorem dX9_restore_27 : decode cX9_restore 27 = .ok (.ireturn, 1) := by decide +kernel
theorem dX9_count_0 : decode cX9_count 0 = .ok (.iload_n 1, 1) := by decide +kernel
theorem dX9_count_1 : decode cX9_count 1 = .ok (.iconst 0, 1) := by decide +kernel
theorem dX9_count_2 : decode cX9_count 2 = .ok (.iconst 1, 1) := by decide +kernel
theorem dX9_count_3 : decode cX9_count 3 = .ok (.invokestatic 49, 3) := by decide +kernel
theorem dX9_count_6 : decode cX9_count 6 = .ok (.ifCond .eq 10, 3) := by decide +kernel
theorem dX9_count_9 : decode cX9_count 9 = .ok (.aload_n 0, 1) := by decide +kernel
theorem dX9_count_10 : decode cX9_count 10 = .ok (.getfield 9, 3) := by decide +kernel
theorem dX9_count_13 : decode cX9_count 13 = .ok (.iload_n 1, 1) := by decide +kernel
theorem dX9_count_14 : decode cX9_count 14 = .ok (.iaload, 1) := by decide +kernel
theorem dX9_count_15 : decode cX9_count 15 = .ok (.ireturn, 1) := by decide +kernel
theorem dX9_count_16 : decode cX9_count 16 = .ok (.iconst 0, 1) := by decide +kernel
theorem dX9_count_17 : decode cX9_count 17 = .ok (.istore_n 2, 1) := by decide +kernel
theorem dX9_count_18 : decode cX9_count 18 = .ok (.iload_n 1, 1) := by decide +kernel
theorem dX9_count_19 : decode cX9_count 19 = .ok (.tableswitch 122 2 5 #[29, 35, 40, 86], 29) := by decide +kernel
theorem dX9_count_48 : decode cX9_count 48 = .ok (.aload_n 0, 1) := by decide +kernel
theorem dX9_count_49 : decode cX9_count 49 = .ok (.iconst 0, 1) := by decide +kernel
theorem dX9_count_50 : decode cX9_count 50 = .ok (.invokevirtual 188, 3) := by decide +kernel
theorem dX9_count_53 : decode cX9_count 53 = .ok (.ireturn, 1) := by decide +kernel
theorem dX9_count_54 : decode cX9_count 54 = .ok (.aload_n 0, 1) := by decide +kernel
theorem dX9_count_55 : decode cX9_count 55 = .ok (.invokevirtual 204, 3) := by decide +kernel
theorem dX9_count_58 : decode cX9_count 58 = .ok (.ireturn, 1) := by decide +kernel
theorem dX9_count_59 : decode cX9_count 59 = .ok (.iconst 0, 1) := by decide +kernel
theorem dX9_count_60 : decode cX9_count 60 = .ok (.istore_n 3, 1) := by decide +kernel
theorem dX9_count_61 : decode cX9_count 61 = .ok (.iload_n 3, 1) := by decide +kernel
theorem dX9_count_62 : decode cX9_count 62 = .ok (.aload_n 0, 1) := by decide +kernel
theorem dX9_count_63 : decode cX9_count 63 = .ok (.getfield 9, 3) := by decide +kernel
theorem dX9_count_66 : decode cX9_count 66 = .ok (.iconst 0, 1) := by decide +kernel
theorem dX9_count_67 : decode cX9_count 67 = .ok (.iaload, 1) := by decide +kernel
theorem dX9_count_68 : decode cX9_count 68 = .ok (.if_icmp .ge 35, 3) := by decide +kernel
theorem dX9_count_71 : decode cX9_count 71 = .ok (.iload_n 2, 1) := by decide +kernel
theorem dX9_count_72 : decode cX9_count 72 = .ok (.aload_n 0, 1) := by decide +kernel
theorem dX9_count_73 : decode cX9_count 73 = .ok (.getfield 9, 3) := by decide +kernel
theorem dX9_count_76 : decode cX9_count 76 = .ok (.iload_n 3, 1) := by decide +kernel
theorem dX9_count_77 : decode cX9_count 77 = .ok (.iconst 0, 1) := by decide +kernel
theorem dX9_count_78 : decode cX9_count 78 = .ok (.invokestatic 57, 3) := by decide +kernel
theorem dX9_count_81 : decode cX9_count 81 = .ok (.iaload, 1) := by decide +kernel
theorem dX9_count_82 : decode cX9_count 82 = .ok (.aload_n 0, 1) := by decide +kernel
theorem dX9_count_83 : decode cX9_count 83 = .ok (.getfield 9, 3) := by decide +kernel
theorem dX9_count_86 : decode cX9_count 86 = .ok (.iload_n 3, 1) := by decide +kernel
theorem dX9_count_87 : decode cX9_count 87 = .ok (.iconst 1, 1) := by decide +kernel
theorem dX9_count_88 : decode cX9_count 88 = .ok (.invokestatic 57, 3) := by decide +kernel
theorem dX9_count_91 : decode cX9_count 91 = .ok (.iaload, 1) := by decide +kernel
theorem dX9_count_92 : decode cX9_count 92 = .ok (.invokestatic 53, 3) := by decide +kernel
theorem dX9_count_95 : decode cX9_count 95 = .ok (.iadd, 1) := by decide +kernel
theorem dX9_count_96 : decode cX9_count 96 = .ok (.istore_n 2, 1) := by decide +kernel
theorem dX9_count_97 : decode cX9_count 97 = .ok (.iinc 3 1, 3) := by decide +kernel
theorem dX9_count_100 : decode cX9_count 100 = .ok (.goto (-39), 3) := by decide +kernel
theorem dX9_count_103 : decode cX9_count 103 = .ok (.iload_n 2, 1) := by decide +kernel
theorem dX9_count_104 : decode cX9_count 104 = .ok (.ireturn, 1) := by decide +kernel
theorem dX9_count_105 : decode cX9_count 105 = .ok (.iconst 0, 1) := by decide +kernel
theorem dX9_count_106 : decode cX9_count 106 = .ok (.istore_n 3, 1) := by decide +kernel
theorem dX9_count_107 : decode cX9_count 107 = .ok (.iload_n 3, 1) := by decide +kernel
theorem dX9_count_108 : decode cX9_count 108 = .ok (.aload_n 0, 1) := by decide +kernel
theorem dX9_count_109 : decode cX9_count 109 = .ok (.getfield 9, 3) := by decide +kernel
theorem dX9_count_112 : decode cX9_count 112 = .ok (.iconst 0, 1) := by decide +kernel
theorem dX9_count_113 : decode cX9_count 113 = .ok (.iaload, 1) := by decide +kernel
theorem dX9_count_114 : decode cX9_count 114 = .ok (.if_icmp .ge 25, 3) := by decide +kernel
theorem dX9_count_117 : decode cX9_count 117 = .ok (.iload_n 2, 1) := by decide +kernel
theorem dX9_count_118 : decode cX9_count 118 = .ok (.aload_n 0, 1) := by decide +kernel
theorem dX9_count_119 : decode cX9_count 119 = .ok (.getfield 9, 3) := by decide +kernel
theorem dX9_count_122 : decode cX9_count 122 = .ok (.iload_n 3, 1) := by decide +kernel
theorem dX9_count_123 : decode cX9_count 123 = .ok (.iconst 4, 1) := by decide +kernel
theorem dX9_count_124 : decode cX9_count 124 = .ok (.invokestatic 57, 3) := by decide +kernel
theorem dX9_count_127 : decode cX9_count 127 = .ok (.iaload, 1) := by decide +kernel
theorem dX9_count_128 : decode cX9_count 128 = .ok (.invokestatic 153, 3) := by decide +kernel
theorem dX9_count_131 : decode cX9_count 131 = .ok (.iadd, 1) := by decide +kernel
theorem dX9_count_132 : decode cX9_count 132 = .ok (.istore_n 2, 1) := by decide +kernel
theorem dX9_count_133 : decode cX9_count 133 = .ok (.iinc 3 1, 3) := by decide +kernel
theorem dX9_count_136 : decode cX9_count 136 = .ok (.goto (-29), 3) := by decide +kernel
theorem dX9_count_139 : decode cX9_count 139 = .ok (.iload_n 2, 1) := by decide +kernel
theorem dX9_count_140 : decode cX9_count 140 = .ok (.ireturn, 1) := by decide +kernel
theorem dX9_count_141 : decode cX9_count 141 = .ok (.iconst (-1), 1) := by decide +kernel
theorem dX9_count_142 : decode cX9_count 142 = .ok (.ireturn, 1) := by decide +kernel
theorem dX9_thrown_0 : decode cX9_thrown 0 = .ok (.aload_n 0, 1) := by decide +kernel
theorem dX9_thrown_1 : decode cX9_thrown 1 = .ok (.getfield 220, 3) := by decide +kernel
theorem dX9_thrown_4 : decode cX9_thrown 4 = .ok (.ireturn, 1) := by decide +kernel
theorem dX9_isShelf_0 : decode cX9_isShelf 0 = .ok (.iload_n 0, 1) := by decide +kernel
theorem dX9_isShelf_1 : decode cX9_isShelf 1 = .ok (.iconst 0, 1) := by decide +kernel
theorem dX9_isShelf_2 : decode cX9_isShelf 2 = .ok (.bipush 7, 2) := by decide +kernel
theorem dX9_isShelf_4 : decode cX9_isShelf 4 = .ok (.invokestatic 49, 3) := by decide +kernel
theorem dX9_isShelf_7 : decode cX9_isShelf 7 = .ok (.ireturn, 1) := by decide +kernel
theorem dX9_wrongRow_0 : decode cX9_wrongRow 0 = .ok (.iload_n 1, 1) := by decide +kernel
theorem dX9_wrongRow_1 : decode cX9_wrongRow 1 = .ok (.invokestatic 223, 3) := by decide +kernel
theorem dX9_wrongRow_4 : decode cX9_wrongRow 4 = .ok (.ifCond .ne 7, 3) := by decide +kernel
theorem dX9_wrongRow_7 : decode cX9_wrongRow 7 = .ok (.iconst (-1), 1) := by decide +kernel
theorem dX9_wrongRow_8 : decode cX9_wrongRow 8 = .ok (.goto 47, 3) := by decide +kernel
theorem dX9_wrongRow_11 : decode cX9_wrongRow 11 = .ok (.aload_n 0, 1) := by decide +kernel
theorem dX9_wrongRow_12 : decode cX9_wrongRow 12 = .ok (.getfield 31, 3) := by decide +kernel
theorem dX9_wrongRow_15 : decode cX9_wrongRow 15 = .ok (.iload_n 1, 1) := by decide +kernel
theorem dX9_wrongRow_16 : decode cX9_wrongRow 16 = .ok (.iaload, 1) := by decide +kernel
theorem dX9_wrongRow_17 : decode cX9_wrongRow 17 = .ok (.ifCond .ne 8, 3) := by decide +kernel
theorem dX9_wrongRow_20 : decode cX9_wrongRow 20 = .ok (.bipush (-11), 2) := by decide +kernel
theorem dX9_wrongRow_22 : decode cX9_wrongRow 22 = .ok (.goto 33, 3) := by decide +kernel
theorem dX9_wrongRow_25 : decode cX9_wrongRow 25 = .ok (.aload_n 0, 1) := by decide +kernel
theorem dX9_wrongRow_26 : decode cX9_wrongRow 26 = .ok (.getfield 31, 3) := by decide +kernel
theorem dX9_wrongRow_29 : decode cX9_wrongRow 29 = .ok (.iload_n 1, 1) := by decide +kernel
theorem dX9_wrongRow_30 : decode cX9_wrongRow 30 = .ok (.iaload, 1) := by decide +kernel
theorem dX9_wrongRow_31 : decode cX9_wrongRow 31 = .ok (.iconst 2, 1) := by decide +kernel
theorem dX9_wrongRow_32 : decode cX9_wrongRow 32 = .ok (.if_icmp .ne 17, 3) := by decide +kernel
theorem dX9_wrongRow_35 : decode cX9_wrongRow 35 = .ok (.iload_n 2, 1) := by decide +kernel
theorem dX9_wrongRow_36 : decode cX9_wrongRow 36 = .ok (.ifCond .lt 18, 3) := by decide +kernel
theorem dX9_wrongRow_39 : decode cX9_wrongRow 39 = .ok (.aload_n 0, 1) := by decide +kernel
theorem dX9_wrongRow_40 : decode cX9_wrongRow 40 = .ok (.getfield 40, 3) := by decide +kernel
theorem dX9_wrongRow_43 : decode cX9_wrongRow 43 = .ok (.iload_n 1, 1) := by decide +kernel
theorem dX9_wrongRow_44 : decode cX9_wrongRow 44 = .ok (.iaload, 1) := by decide +kernel
theorem dX9_wrongRow_45 : decode cX9_wrongRow 45 = .ok (.iload_n 2, 1) := by decide +kernel
theorem dX9_wrongRow_46 : decode cX9_wrongRow 46 = .ok (.if_icmp .eq 8, 3) := by decide +kernel
theorem dX9_wrongRow_49 : decode cX9_wrongRow 49 = .ok (.bipush (-12), 2) := by decide +kernel
theorem dX9_wrongRow_51 : decode cX9_wrongRow 51 = .ok (.goto 4, 3) := by decide +kernel
theorem dX9_wrongRow_54 : decode cX9_wrongRow 54 = .ok (.iconst 0, 1) := by decide +kernel
theorem dX9_wrongRow_55 : decode cX9_wrongRow 55 = .ok (.ireturn, 1) := by decide +kernel
theorem dX9_wrongKept_0 : decode cX9_wrongKept 0 = .ok (.iload_n 1, 1) := by decide +kernel
theorem dX9_wrongKept_1 : decode cX9_wrongKept 1 = .ok (.invokestatic 223, 3) := by decide +kernel
theorem dX9_wrongKept_4 : decode cX9_wrongKept 4 = .ok (.ifCond .ne 7, 3) := by decide +kernel
theorem dX9_wrongKept_7 : decode cX9_wrongKept 7 = .ok (.iconst (-1), 1) := by decide +kernel
theorem dX9_wrongKept_8 : decode cX9_wrongKept 8 = .ok (.goto 33, 3) := by decide +kernel
theorem dX9_wrongKept_11 : decode cX9_wrongKept 11 = .ok (.aload_n 0, 1) := by decide +kernel
theorem dX9_wrongKept_12 : decode cX9_wrongKept 12 = .ok (.getfield 31, 3) := by decide +kernel
theorem dX9_wrongKept_15 : decode cX9_wrongKept 15 = .ok (.iload_n 1, 1) := by decide +kernel
theorem dX9_wrongKept_16 : decode cX9_wrongKept 16 = .ok (.iaload, 1) := by decide +kernel
theorem dX9_wrongKept_17 : decode cX9_wrongKept 17 = .ok (.ifCond .ne 8, 3) := by decide +kernel
theorem dX9_wrongKept_20 : decode cX9_wrongKept 20 = .ok (.bipush (-11), 2) := by decide +kernel
theorem dX9_wrongKept_22 : decode cX9_wrongKept 22 = .ok (.goto 19, 3) := by decide +kernel
theorem dX9_wrongKept_25 : decode cX9_wrongKept 25 = .ok (.aload_n 0, 1) := by decide +kernel
theorem dX9_wrongKept_26 : decode cX9_wrongKept 26 = .ok (.getfield 31, 3) := by decide +kernel
theorem dX9_wrongKept_29 : decode cX9_wrongKept 29 = .ok (.iload_n 1, 1) := by decide +kernel
theorem dX9_wrongKept_30 : decode cX9_wrongKept 30 = .ok (.iaload, 1) := by decide +kernel
theorem dX9_wrongKept_31 : decode cX9_wrongKept 31 = .ok (.iconst 2, 1) := by decide +kernel
theorem dX9_wrongKept_32 : decode cX9_wrongKept 32 = .ok (.if_icmp .ne 8, 3) := by decide +kernel
theorem dX9_wrongKept_35 : decode cX9_wrongKept 35 = .ok (.bipush (-12), 2) := by decide +kernel
theorem dX9_wrongKept_37 : decode cX9_wrongKept 37 = .ok (.goto 4, 3) := by decide +kernel
theorem dX9_wrongKept_40 : decode cX9_wrongKept 40 = .ok (.iconst 0, 1) := by decide +kernel
theorem dX9_wrongKept_41 : decode cX9_wrongKept 41 = .ok (.ireturn, 1) := by decide +kernel
theorem dX9_keep_0 : decode cX9_keep 0 = .ok (.iload_n 1, 1) := by decide +kernel
theorem dX9_keep_1 : decode cX9_keep 1 = .ok (.invokestatic 223, 3) := by decide +kernel
theorem dX9_keep_4 : decode cX9_keep 4 = .ok (.ifCond .eq 38, 3) := by decide +kernel
theorem dX9_keep_7 : decode cX9_keep 7 = .ok (.iload_n 2, 1) := by decide +kernel
theorem dX9_keep_8 : decode cX9_keep 8 = .ok (.iconst 0, 1) := by decide +kernel
theorem dX9_keep_9 : decode cX9_keep 9 = .ok (.iconst 1, 1) := by decide +kernel
theorem dX9_keep_10 : decode cX9_keep 10 = .ok (.invokestatic 49, 3) := by decide +kernel
theorem dX9_keep_13 : decode cX9_keep 13 = .ok (.ifCond .eq 29, 3) := by decide +kernel
theorem dX9_keep_16 : decode cX9_keep 16 = .ok (.iload_n 2, 1) := by decide +kernel
theorem dX9_keep_17 : decode cX9_keep 17 = .ok (.iconst 1, 1) := by decide +kernel
theorem dX9_keep_18 : decode cX9_keep 18 = .ok (.if_icmp .ne 26, 3) := by decide +kernel
theorem dX9_keep_21 : decode cX9_keep 21 = .ok (.iload_n 3, 1) := by decide +kernel
theorem dX9_keep_22 : decode cX9_keep 22 = .ok (.iconst 0, 1) := by decide +kernel
theorem dX9_keep_23 : decode cX9_keep 23 = .ok (.bipush 7, 2) := by decide +kernel
theorem dX9_keep_25 : decode cX9_keep 25 = .ok (.invokestatic 49, 3) := by decide +kernel
theorem dX9_keep_28 : decode cX9_keep 28 = .ok (.ifCond .eq 14, 3) := by decide +kernel
theorem dX9_keep_31 : decode cX9_keep 31 = .ok (.iload 4, 2) := by decide +kernel
theorem dX9_keep_33 : decode cX9_keep 33 = .ok (.iconst 0, 1) := by decide +kernel
theorem dX9_keep_34 : decode cX9_keep 34 = .ok (.bipush 9, 2) := by decide +kernel
theorem dX9_keep_36 : decode cX9_keep 36 = .ok (.invokestatic 49, 3) := by decide +kernel
theorem dX9_keep_39 : decode cX9_keep 39 = .ok (.ifCond .ne 5, 3) := by decide +kernel
theorem dX9_keep_42 : decode cX9_keep 42 = .ok (.iconst (-1), 1) := by decide +kernel
theorem dX9_keep_43 : decode cX9_keep 43 = .ok (.ireturn, 1) := by decide +kernel
theorem dX9_keep_44 : decode cX9_keep 44 = .ok (.aload_n 0, 1) := by decide +kernel
theorem dX9_keep_45 : decode cX9_keep 45 = .ok (.getfield 31, 3) := by decide +kernel
theorem dX9_keep_48 : decode cX9_keep 48 = .ok (.iload_n 1, 1) := by decide +kernel
theorem dX9_keep_49 : decode cX9_keep 49 = .ok (.iload_n 2, 1) := by decide +kernel
theorem dX9_keep_50 : decode cX9_keep 50 = .ok (.iastore, 1) := by decide +kernel
theorem dX9_keep_51 : decode cX9_keep 51 = .ok (.aload_n 0, 1) := by decide +kernel
theorem dX9_keep_52 : decode cX9_keep 52 = .ok (.getfield 34, 3) := by decide +kernel
theorem dX9_keep_55 : decode cX9_keep 55 = .ok (.iload_n 1, 1) := by decide +kernel
theorem dX9_keep_56 : decode cX9_keep 56 = .ok (.iload_n 3, 1) := by decide +kernel
theorem dX9_keep_57 : decode cX9_keep 57 = .ok (.iastore, 1) := by decide +kernel
theorem dX9_keep_58 : decode cX9_keep 58 = .ok (.aload_n 0, 1) := by decide +kernel
theorem dX9_keep_59 : decode cX9_keep 59 = .ok (.getfield 37, 3) := by decide +kernel
theorem dX9_keep_62 : decode cX9_keep 62 = .ok (.iload_n 1, 1) := by decide +kernel
theorem dX9_keep_63 : decode cX9_keep 63 = .ok (.iload 4, 2) := by decide +kernel
theorem dX9_keep_65 : decode cX9_keep 65 = .ok (.iastore, 1) := by decide +kernel
theorem dX9_keep_66 : decode cX9_keep 66 = .ok (.iconst 0, 1) := by decide +kernel
theorem dX9_keep_67 : decode cX9_keep 67 = .ok (.ireturn, 1) := by decide +kernel
theorem dX9_row_0 : decode cX9_row 0 = .ok (.iload_n 1, 1) := by decide +kernel
theorem dX9_row_1 : decode cX9_row 1 = .ok (.invokestatic 223, 3) := by decide +kernel
theorem dX9_row_4 : decode cX9_row 4 = .ok (.ifCond .eq 18, 3) := by decide +kernel
theorem dX9_row_7 : decode cX9_row 7 = .ok (.iload_n 2, 1) := by decide +kernel
theorem dX9_row_8 : decode cX9_row 8 = .ok (.iconst 0, 1) := by decide +kernel
theorem dX9_row_9 : decode cX9_row 9 = .ok (.iconst 2, 1) := by decide +kernel
theorem dX9_row_10 : decode cX9_row 10 = .ok (.invokestatic 49, 3) := by decide +kernel
theorem dX9_row_13 : decode cX9_row 13 = .ok (.ifCond .eq 9, 3) := by decide +kernel
theorem dX9_row_16 : decode cX9_row 16 = .ok (.iload_n 3, 1) := by decide +kernel
theorem dX9_row_17 : decode cX9_row 17 = .ok (.bipush 100, 2) := by decide +kernel
theorem dX9_row_19 : decode cX9_row 19 = .ok (.if_icmp .le 5, 3) := by decide +kernel
theorem dX9_row_22 : decode cX9_row 22 = .ok (.iconst (-1), 1) := by decide +kernel
theorem dX9_row_23 : decode cX9_row 23 = .ok (.ireturn, 1) := by decide +kernel
theorem dX9_row_24 : decode cX9_row 24 = .ok (.iload_n 3, 1) := by decide +kernel
theorem dX9_row_25 : decode cX9_row 25 = .ok (.ifCond .ge 6, 3) := by decide +kernel
theorem dX9_row_28 : decode cX9_row 28 = .ok (.bipush (-14), 2) := by decide +kernel
theorem dX9_row_30 : decode cX9_row 30 = .ok (.ireturn, 1) := by decide +kernel
theorem dX9_row_31 : decode cX9_row 31 = .ok (.aload_n 0, 1) := by decide +kernel
theorem dX9_row_32 : decode cX9_row 32 = .ok (.getfield 31, 3) := by decide +kernel
theorem dX9_row_35 : decode cX9_row 35 = .ok (.iload_n 1, 1) := by decide +kernel
theorem dX9_row_36 : decode cX9_row 36 = .ok (.iconst 2, 1) := by decide +kernel
theorem dX9_row_37 : decode cX9_row 37 = .ok (.iastore, 1) := by decide +kernel
theorem dX9_row_38 : decode cX9_row 38 = .ok (.aload_n 0, 1) := by decide +kernel
theorem dX9_row_39 : decode cX9_row 39 = .ok (.getfield 40, 3) := by decide +kernel
theorem dX9_row_42 : decode cX9_row 42 = .ok (.iload_n 1, 1) := by decide +kernel
theorem dX9_row_43 : decode cX9_row 43 = .ok (.iload_n 2, 1) := by decide +kernel
theorem dX9_row_44 : decode cX9_row 44 = .ok (.iastore, 1) := by decide +kernel
theorem dX9_row_45 : decode cX9_row 45 = .ok (.aload_n 0, 1) := by decide +kernel
theorem dX9_row_46 : decode cX9_row 46 = .ok (.getfield 43, 3) := by decide +kernel
theorem dX9_row_49 : decode cX9_row 49 = .ok (.iload_n 1, 1) := by decide +kernel
theorem dX9_row_50 : decode cX9_row 50 = .ok (.iload_n 3, 1) := by decide +kernel
theorem dX9_row_51 : decode cX9_row 51 = .ok (.iastore, 1) := by decide +kernel
theorem dX9_row_52 : decode cX9_row 52 = .ok (.iconst 0, 1) := by decide +kernel
theorem dX9_row_53 : decode cX9_row 53 = .ok (.istore 4, 2) := by decide +kernel
theorem dX9_row_55 : decode cX9_row 55 = .ok (.iload 4, 2) := by decide +kernel
theorem dX9_row_57 : decode cX9_row 57 = .ok (.bipush 100, 2) := by decide +kernel
theorem dX9_row_59 : decode cX9_row 59 = .ok (.if_icmp .ge 22, 3) := by decide +kernel
theorem dX9_row_62 : decode cX9_row 62 = .ok (.aload_n 0, 1) := by decide +kernel
theorem dX9_row_63 : decode cX9_row 63 = .ok (.getfield 46, 3) := by decide +kernel
theorem dX9_row_66 : decode cX9_row 66 = .ok (.bipush 100, 2) := by decide +kernel
theorem dX9_row_68 : decode cX9_row 68 = .ok (.iload_n 1, 1) := by decide +kernel
theorem dX9_row_69 : decode cX9_row 69 = .ok (.imul, 1) := by decide +kernel
theorem dX9_row_70 : decode cX9_row 70 = .ok (.iload 4, 2) := by decide +kernel
theorem dX9_row_72 : decode cX9_row 72 = .ok (.iadd, 1) := by decide +kernel
theorem dX9_row_73 : decode cX9_row 73 = .ok (.iconst 0, 1) := by decide +kernel
theorem dX9_row_74 : decode cX9_row 74 = .ok (.iastore, 1) := by decide +kernel
theorem dX9_row_75 : decode cX9_row 75 = .ok (.iinc 4 1, 3) := by decide +kernel
theorem dX9_row_78 : decode cX9_row 78 = .ok (.goto (-23), 3) := by decide +kernel
theorem dX9_row_81 : decode cX9_row 81 = .ok (.iconst 0, 1) := by decide +kernel
theorem dX9_row_82 : decode cX9_row 82 = .ok (.ireturn, 1) := by decide +kernel
theorem dX9_put_0 : decode cX9_put 0 = .ok (.aload_n 0, 1) := by decide +kernel
theorem dX9_put_1 : decode cX9_put 1 = .ok (.iload_n 1, 1) := by decide +kernel
theorem dX9_put_2 : decode cX9_put 2 = .ok (.iconst (-1), 1) := by decide +kernel
theorem dX9_put_3 : decode cX9_put 3 = .ok (.invokevirtual 125, 3) := by decide +kernel
theorem dX9_put_6 : decode cX9_put 6 = .ok (.istore 4, 2) := by decide +kernel
theorem dX9_put_8 : decode cX9_put 8 = .ok (.iload 4, 2) := by decide +kernel
theorem dX9_put_10 : decode cX9_put 10 = .ok (.ifCond .eq 6, 3) := by decide +kernel
theorem dX9_put_13 : decode cX9_put 13 = .ok (.iload 4, 2) := by decide +kernel
theorem dX9_put_15 : decode cX9_put 15 = .ok (.ireturn, 1) := by decide +kernel
theorem dX9_put_16 : decode cX9_put 16 = .ok (.iload_n 2, 1) := by decide +kernel
theorem dX9_put_17 : decode cX9_put 17 = .ok (.iconst 0, 1) := by decide +kernel
theorem dX9_put_18 : decode cX9_put 18 = .ok (.aload_n 0, 1) := by decide +kernel
theorem dX9_put_19 : decode cX9_put 19 = .ok (.getfield 43, 3) := by decide +kernel
theorem dX9_put_22 : decode cX9_put 22 = .ok (.iload_n 1, 1) := by decide +kernel
theorem dX9_put_23 : decode cX9_put 23 = .ok (.iaload, 1) := by decide +kernel
theorem dX9_put_24 : decode cX9_put 24 = .ok (.iconst 1, 1) := by decide +kernel
theorem dX9_put_25 : decode cX9_put 25 = .ok (.isub, 1) := by decide +kernel
theorem dX9_put_26 : decode cX9_put 26 = .ok (.invokestatic 49, 3) := by decide +kernel
theorem dX9_put_29 : decode cX9_put 29 = .ok (.ifCond .ne 6, 3) := by decide +kernel
theorem dX9_put_32 : decode cX9_put 32 = .ok (.bipush (-13), 2) := by decide +kernel
theorem dX9_put_34 : decode cX9_put 34 = .ok (.ireturn, 1) := by decide +kernel
theorem dX9_put_35 : decode cX9_put 35 = .ok (.aload_n 0, 1) := by decide +kernel
theorem dX9_put_36 : decode cX9_put 36 = .ok (.getfield 46, 3) := by decide +kernel
theorem dX9_put_39 : decode cX9_put 39 = .ok (.bipush 100, 2) := by decide +kernel
theorem dX9_put_41 : decode cX9_put 41 = .ok (.iload_n 1, 1) := by decide +kernel
theorem dX9_put_42 : decode cX9_put 42 = .ok (.imul, 1) := by decide +kernel
theorem dX9_put_43 : decode cX9_put 43 = .ok (.iload_n 2, 1) := by decide +kernel
theorem dX9_put_44 : decode cX9_put 44 = .ok (.iadd, 1) := by decide +kernel
theorem dX9_put_45 : decode cX9_put 45 = .ok (.aload_n 0, 1) := by decide +kernel
theorem dX9_put_46 : decode cX9_put 46 = .ok (.getfield 40, 3) := by decide +kernel
theorem dX9_put_49 : decode cX9_put 49 = .ok (.iload_n 1, 1) := by decide +kernel
theorem dX9_put_50 : decode cX9_put 50 = .ok (.iaload, 1) := by decide +kernel
theorem dX9_put_51 : decode cX9_put 51 = .ok (.ifCond .ne 8, 3) := by decide +kernel
theorem dX9_put_54 : decode cX9_put 54 = .ok (.iload_n 3, 1) := by decide +kernel
theorem dX9_put_55 : decode cX9_put 55 = .ok (.i2b, 1) := by decide +kernel
theorem dX9_put_56 : decode cX9_put 56 = .ok (.goto 19, 3) := by decide +kernel
theorem dX9_put_59 : decode cX9_put 59 = .ok (.aload_n 0, 1) := by decide +kernel
theorem dX9_put_60 : decode cX9_put 60 = .ok (.getfield 40, 3) := by decide +kernel
theorem dX9_put_63 : decode cX9_put 63 = .ok (.iload_n 1, 1) := by decide +kernel
theorem dX9_put_64 : decode cX9_put 64 = .ok (.iaload, 1) := by decide +kernel
theorem dX9_put_65 : decode cX9_put 65 = .ok (.iconst 1, 1) := by decide +kernel
theorem dX9_put_66 : decode cX9_put 66 = .ok (.if_icmp .ne 8, 3) := by decide +kernel
theorem dX9_put_69 : decode cX9_put 69 = .ok (.iload_n 3, 1) := by decide +kernel
theorem dX9_put_70 : decode cX9_put 70 = .ok (.i2s, 1) := by decide +kernel
theorem dX9_put_71 : decode cX9_put 71 = .ok (.goto 4, 3) := by decide +kernel
theorem dX9_put_74 : decode cX9_put 74 = .ok (.iload_n 3, 1) := by decide +kernel
theorem dX9_put_75 : decode cX9_put 75 = .ok (.iastore, 1) := by decide +kernel
theorem dX9_put_76 : decode cX9_put 76 = .ok (.iconst 0, 1) := by decide +kernel
theorem dX9_put_77 : decode cX9_put 77 = .ok (.ireturn, 1) := by decide +kernel
theorem dX9_element_0 : decode cX9_element 0 = .ok (.aload_n 0, 1) := by decide +kernel
theorem dX9_element_1 : decode cX9_element 1 = .ok (.iload_n 1, 1) := by decide +kernel
theorem dX9_element_2 : decode cX9_element 2 = .ok (.invokestatic 223, 3) := by decide +kernel
theorem dX9_element_5 : decode cX9_element 5 = .ok (.ifCond .ne 7, 3) := by decide +kernel
theorem dX9_element_8 : decode cX9_element 8 = .ok (.iconst 1, 1) := by decide +kernel
theorem dX9_element_9 : decode cX9_element 9 = .ok (.goto 34, 3) := by decide +kernel
theorem dX9_element_12 : decode cX9_element 12 = .ok (.aload_n 0, 1) := by decide +kernel
theorem dX9_element_13 : decode cX9_element 13 = .ok (.getfield 31, 3) := by decide +kernel
theorem dX9_element_16 : decode cX9_element 16 = .ok (.iload_n 1, 1) := by decide +kernel
theorem dX9_element_17 : decode cX9_element 17 = .ok (.iaload, 1) := by decide +kernel
theorem dX9_element_18 : decode cX9_element 18 = .ok (.iconst 2, 1) := by decide +kernel
theorem dX9_element_19 : decode cX9_element 19 = .ok (.if_icmp .ne 19, 3) := by decide +kernel
theorem dX9_element_22 : decode cX9_element 22 = .ok (.iload_n 2, 1) := by decide +kernel
theorem dX9_element_23 : decode cX9_element 23 = .ok (.iconst 0, 1) := by decide +kernel
theorem dX9_element_24 : decode cX9_element 24 = .ok (.aload_n 0, 1) := by decide +kernel
theorem dX9_element_25 : decode cX9_element 25 = .ok (.getfield 43, 3) := by decide +kernel
theorem dX9_element_28 : decode cX9_element 28 = .ok (.iload_n 1, 1) := by decide +kernel
theorem dX9_element_29 : decode cX9_element 29 = .ok (.iaload, 1) := by decide +kernel
theorem dX9_element_30 : decode cX9_element 30 = .ok (.iconst 1, 1) := by decide +kernel
theorem dX9_element_31 : decode cX9_element 31 = .ok (.isub, 1) := by decide +kernel
theorem dX9_element_32 : decode cX9_element 32 = .ok (.invokestatic 49, 3) := by decide +kernel
theorem dX9_element_35 : decode cX9_element 35 = .ok (.ifCond .ne 7, 3) := by decide +kernel
theorem dX9_element_38 : decode cX9_element 38 = .ok (.iconst 2, 1) := by decide +kernel
theorem dX9_element_39 : decode cX9_element 39 = .ok (.goto 4, 3) := by decide +kernel
theorem dX9_element_42 : decode cX9_element 42 = .ok (.iconst 0, 1) := by decide +kernel
theorem dX9_element_43 : decode cX9_element 43 = .ok (.putfield 220, 3) := by decide +kernel
theorem dX9_element_46 : decode cX9_element 46 = .ok (.aload_n 0, 1) := by decide +kernel
theorem dX9_element_47 : decode cX9_element 47 = .ok (.getfield 220, 3) := by decide +kernel
theorem dX9_element_50 : decode cX9_element 50 = .ok (.ifCond .ne 18, 3) := by decide +kernel
theorem dX9_element_53 : decode cX9_element 53 = .ok (.aload_n 0, 1) := by decide +kernel
theorem dX9_element_54 : decode cX9_element 54 = .ok (.getfield 46, 3) := by decide +kernel
theorem dX9_element_57 : decode cX9_element 57 = .ok (.bipush 100, 2) := by decide +kernel
theorem dX9_element_59 : decode cX9_element 59 = .ok (.iload_n 1, 1) := by decide +kernel
theorem dX9_element_60 : decode cX9_element 60 = .ok (.imul, 1) := by decide +kernel
theorem dX9_element_61 : decode cX9_element 61 = .ok (.iload_n 2, 1) := by decide +kernel
theorem dX9_element_62 : decode cX9_element 62 = .ok (.iadd, 1) := by decide +kernel
theorem dX9_element_63 : decode cX9_element 63 = .ok (.iaload, 1) := by decide +kernel
theorem dX9_element_64 : decode cX9_element 64 = .ok (.i2l, 1) := by decide +kernel
theorem dX9_element_65 : decode cX9_element 65 = .ok (.goto 4, 3) := by decide +kernel
theorem dX9_element_68 : decode cX9_element 68 = .ok (.lconst 0, 1) := by decide +kernel
theorem dX9_element_69 : decode cX9_element 69 = .ok (.lreturn, 1) := by decide +kernel
theorem dX9_copy_0 : decode cX9_copy 0 = .ok (.iload_n 1, 1) := by decide +kernel
theorem dX9_copy_1 : decode cX9_copy 1 = .ok (.invokestatic 223, 3) := by decide +kernel
theorem dX9_copy_4 : decode cX9_copy 4 = .ok (.ifCond .eq 10, 3) := by decide +kernel
theorem dX9_copy_7 : decode cX9_copy 7 = .ok (.iload_n 3, 1) := by decide +kernel
theorem dX9_copy_8 : decode cX9_copy 8 = .ok (.invokestatic 223, 3) := by decide +kernel
theorem dX9_copy_11 : decode cX9_copy 11 = .ok (.ifCond .ne 5, 3) := by decide +kernel
theorem dX9_copy_14 : decode cX9_copy 14 = .ok (.iconst (-1), 1) := by decide +kernel
theorem dX9_copy_15 : decode cX9_copy 15 = .ok (.ireturn, 1) := by decide +kernel
theorem dX9_copy_16 : decode cX9_copy 16 = .ok (.aload_n 0, 1) := by decide +kernel
theorem dX9_copy_17 : decode cX9_copy 17 = .ok (.getfield 31, 3) := by decide +kernel
theorem dX9_copy_20 : decode cX9_copy 20 = .ok (.iload_n 1, 1) := by decide +kernel
theorem dX9_copy_21 : decode cX9_copy 21 = .ok (.iaload, 1) := by decide +kernel
theorem dX9_copy_22 : decode cX9_copy 22 = .ok (.ifCond .eq 12, 3) := by decide +kernel
theorem dX9_copy_25 : decode cX9_copy 25 = .ok (.aload_n 0, 1) := by decide +kernel
theorem dX9_copy_26 : decode cX9_copy 26 = .ok (.getfield 31, 3) := by decide +kernel
theorem dX9_copy_29 : decode cX9_copy 29 = .ok (.iload_n 3, 1) := by decide +kernel
theorem dX9_copy_30 : decode cX9_copy 30 = .ok (.iaload, 1) := by decide +kernel
theorem dX9_copy_31 : decode cX9_copy 31 = .ok (.ifCond .ne 6, 3) := by decide +kernel
theorem dX9_copy_34 : decode cX9_copy 34 = .ok (.bipush (-11), 2) := by decide +kernel
theorem dX9_copy_36 : decode cX9_copy 36 = .ok (.ireturn, 1) := by decide +kernel
theorem dX9_copy_37 : decode cX9_copy 37 = .ok (.aload_n 0, 1) := by decide +kernel
theorem dX9_copy_38 : decode cX9_copy 38 = .ok (.getfield 31, 3) := by decide +kernel
theorem dX9_copy_41 : decode cX9_copy 41 = .ok (.iload_n 1, 1) := by decide +kernel
theorem dX9_copy_42 : decode cX9_copy 42 = .ok (.iaload, 1) := by decide +kernel
theorem dX9_copy_43 : decode cX9_copy 43 = .ok (.iconst 2, 1) := by decide +kernel
theorem dX9_copy_44 : decode cX9_copy 44 = .ok (.if_icmp .ne 28, 3) := by decide +kernel
theorem dX9_copy_47 : decode cX9_copy 47 = .ok (.aload_n 0, 1) := by decide +kernel
theorem dX9_copy_48 : decode cX9_copy 48 = .ok (.getfield 31, 3) := by decide +kernel
theorem dX9_copy_51 : decode cX9_copy 51 = .ok (.iload_n 3, 1) := by decide +kernel
theorem dX9_copy_52 : decode cX9_copy 52 = .ok (.iaload, 1) := by decide +kernel
theorem dX9_copy_53 : decode cX9_copy 53 = .ok (.iconst 2, 1) := by decide +kernel
theorem dX9_copy_54 : decode cX9_copy 54 = .ok (.if_icmp .ne 18, 3) := by decide +kernel
theorem dX9_copy_57 : decode cX9_copy 57 = .ok (.aload_n 0, 1) := by decide +kernel
theorem dX9_copy_58 : decode cX9_copy 58 = .ok (.getfield 40, 3) := by decide +kernel
theorem dX9_copy_61 : decode cX9_copy 61 = .ok (.iload_n 1, 1) := by decide +kernel
theorem dX9_copy_62 : decode cX9_copy 62 = .ok (.iaload, 1) := by decide +kernel
theorem dX9_copy_63 : decode cX9_copy 63 = .ok (.aload_n 0, 1) := by decide +kernel
theorem dX9_copy_64 : decode cX9_copy 64 = .ok (.getfield 40, 3) := by decide +kernel
theorem dX9_copy_67 : decode cX9_copy 67 = .ok (.iload_n 3, 1) := by decide +kernel
theorem dX9_copy_68 : decode cX9_copy 68 = .ok (.iaload, 1) := by decide +kernel
theorem dX9_copy_69 : decode cX9_copy 69 = .ok (.if_icmp .eq 6, 3) := by decide +kernel
theorem dX9_copy_72 : decode cX9_copy 72 = .ok (.bipush (-12), 2) := by decide +kernel
theorem dX9_copy_74 : decode cX9_copy 74 = .ok (.ireturn, 1) := by decide +kernel
theorem dX9_copy_75 : decode cX9_copy 75 = .ok (.iload 5, 2) := by decide +kernel
theorem dX9_copy_77 : decode cX9_copy 77 = .ok (.ifCond .lt 39, 3) := by decide +kernel
theorem dX9_copy_80 : decode cX9_copy 80 = .ok (.iload_n 2, 1) := by decide +kernel
theorem dX9_copy_81 : decode cX9_copy 81 = .ok (.ifCond .lt 35, 3) := by decide +kernel
theorem dX9_copy_84 : decode cX9_copy 84 = .ok (.iload 4, 2) := by decide +kernel
theorem dX9_copy_86 : decode cX9_copy 86 = .ok (.ifCond .lt 30, 3) := by decide +kernel
theorem dX9_copy_89 : decode cX9_copy 89 = .ok (.iload 5, 2) := by decide +kernel
theorem dX9_copy_91 : decode cX9_copy 91 = .ok (.aload_n 0, 1) := by decide +kernel
theorem dX9_copy_92 : decode cX9_copy 92 = .ok (.getfield 43, 3) := by decide +kernel
theorem dX9_copy_95 : decode cX9_copy 95 = .ok (.iload_n 1, 1) := by decide +kernel
theorem dX9_copy_96 : decode cX9_copy 96 = .ok (.iaload, 1) := by decide +kernel
theorem dX9_copy_97 : decode cX9_copy 97 = .ok (.iload_n 2, 1) := by decide +kernel
theorem dX9_copy_98 : decode cX9_copy 98 = .ok (.isub, 1) := by decide +kernel
theorem dX9_copy_99 : decode cX9_copy 99 = .ok (.if_icmp .gt 17, 3) := by decide +kernel
theorem dX9_copy_102 : decode cX9_copy 102 = .ok (.iload 5, 2) := by decide +kernel
theorem dX9_copy_104 : decode cX9_copy 104 = .ok (.aload_n 0, 1) := by decide +kernel
theorem dX9_copy_105 : decode cX9_copy 105 = .ok (.getfield 43, 3) := by decide +kernel
theorem dX9_copy_108 : decode cX9_copy 108 = .ok (.iload_n 3, 1) := by decide +kernel
theorem dX9_copy_109 : decode cX9_copy 109 = .ok (.iaload, 1) := by decide +kernel
theorem dX9_copy_110 : decode cX9_copy 110 = .ok (.iload 4, 2) := by decide +kernel
theorem dX9_copy_112 : decode cX9_copy 112 = .ok (.isub, 1) := by decide +kernel
theorem dX9_copy_113 : decode cX9_copy 113 = .ok (.if_icmp .le 6, 3) := by decide +kernel
theorem dX9_copy_116 : decode cX9_copy 116 = .ok (.bipush (-13), 2) := by decide +kernel
theorem dX9_copy_118 : decode cX9_copy 118 = .ok (.ireturn, 1) := by decide +kernel
theorem dX9_copy_119 : decode cX9_copy 119 = .ok (.iconst 0, 1) := by decide +kernel
theorem dX9_copy_120 : decode cX9_copy 120 = .ok (.istore 6, 2) := by decide +kernel
theorem dX9_copy_122 : decode cX9_copy 122 = .ok (.iload 6, 2) := by decide +kernel
theorem dX9_copy_124 : decode cX9_copy 124 = .ok (.iload 5, 2) := by decide +kernel
theorem dX9_copy_126 : decode cX9_copy 126 = .ok (.if_icmp .ge 58, 3) := by decide +kernel
theorem dX9_copy_129 : decode cX9_copy 129 = .ok (.iload_n 2, 1) := by decide +kernel
theorem dX9_copy_130 : decode cX9_copy 130 = .ok (.iload 4, 2) := by decide +kernel
theorem dX9_copy_132 : decode cX9_copy 132 = .ok (.if_icmp .le 8, 3) := by decide +kernel
theorem dX9_copy_135 : decode cX9_copy 135 = .ok (.iload 6, 2) := by decide +kernel
theorem dX9_copy_137 : decode cX9_copy 137 = .ok (.goto 10, 3) := by decide +kernel
theorem dX9_copy_140 : decode cX9_copy 140 = .ok (.iload 5, 2) := by decide +kernel
theorem dX9_copy_142 : decode cX9_copy 142 = .ok (.iconst 1, 1) := by decide +kernel
theorem dX9_copy_143 : decode cX9_copy 143 = .ok (.isub, 1) := by decide +kernel
theorem dX9_copy_144 : decode cX9_copy 144 = .ok (.iload 6, 2) := by decide +kernel
theorem dX9_copy_146 : decode cX9_copy 146 = .ok (.isub, 1) := by decide +kernel
theorem dX9_copy_147 : decode cX9_copy 147 = .ok (.istore 7, 2) := by decide +kernel
theorem dX9_copy_149 : decode cX9_copy 149 = .ok (.aload_n 0, 1) := by decide +kernel
theorem dX9_copy_150 : decode cX9_copy 150 = .ok (.getfield 46, 3) := by decide +kernel
theorem dX9_copy_153 : decode cX9_copy 153 = .ok (.bipush 100, 2) := by decide +kernel
theorem dX9_copy_155 : decode cX9_copy 155 = .ok (.iload_n 3, 1) := by decide +kernel
theorem dX9_copy_156 : decode cX9_copy 156 = .ok (.imul, 1) := by decide +kernel
theorem dX9_copy_157 : decode cX9_copy 157 = .ok (.iload 4, 2) := by decide +kernel
theorem dX9_copy_159 : decode cX9_copy 159 = .ok (.iadd, 1) := by decide +kernel
theorem dX9_copy_160 : decode cX9_copy 160 = .ok (.iload 7, 2) := by decide +kernel
theorem dX9_copy_162 : decode cX9_copy 162 = .ok (.iadd, 1) := by decide +kernel
theorem dX9_copy_163 : decode cX9_copy 163 = .ok (.aload_n 0, 1) := by decide +kernel
theorem dX9_copy_164 : decode cX9_copy 164 = .ok (.getfield 46, 3) := by decide +kernel
theorem dX9_copy_167 : decode cX9_copy 167 = .ok (.bipush 100, 2) := by decide +kernel
theorem dX9_copy_169 : decode cX9_copy 169 = .ok (.iload_n 1, 1) := by decide +kernel
theorem dX9_copy_170 : decode cX9_copy 170 = .ok (.imul, 1) := by decide +kernel
theorem dX9_copy_171 : decode cX9_copy 171 = .ok (.iload_n 2, 1) := by decide +kernel
theorem dX9_copy_172 : decode cX9_copy 172 = .ok (.iadd, 1) := by decide +kernel
theorem dX9_copy_173 : decode cX9_copy 173 = .ok (.iload 7, 2) := by decide +kernel
theorem dX9_copy_175 : decode cX9_copy 175 = .ok (.iadd, 1) := by decide +kernel
theorem dX9_copy_176 : decode cX9_copy 176 = .ok (.iaload, 1) := by decide +kernel
theorem dX9_copy_177 : decode cX9_copy 177 = .ok (.iastore, 1) := by decide +kernel
theorem dX9_copy_178 : decode cX9_copy 178 = .ok (.iinc 6 1, 3) := by decide +kernel
theorem dX9_copy_181 : decode cX9_copy 181 = .ok (.goto (-59), 3) := by decide +kernel
theorem dX9_copy_184 : decode cX9_copy 184 = .ok (.iload 5, 2) := by decide +kernel
theorem dX9_copy_186 : decode cX9_copy 186 = .ok (.ireturn, 1) := by decide +kernel
theorem dX9_costBy_0 : decode cX9_costBy 0 = .ok (.iload_n 0, 1) := by decide +kernel
theorem dX9_costBy_1 : decode cX9_costBy 1 = .ok (.tableswitch 66 1 7 #[43, 47, 50, 52, 54, 66, 59], 43) := by decide +kernel
theorem dX9_costBy_44 : decode cX9_costBy 44 = .ok (.iconst 3, 1) := by decide +kernel
theorem dX9_costBy_45 : decode cX9_costBy 45 = .ok (.iload_n 1, 1) := by decide +kernel
theorem dX9_costBy_46 : decode cX9_costBy 46 = .ok (.iadd, 1) := by decide +kernel
theorem dX9_costBy_47 : decode cX9_costBy 47 = .ok (.ireturn, 1) := by decide +kernel
theorem dX9_costBy_48 : decode cX9_costBy 48 = .ok (.bipush 7, 2) := by decide +kernel
theorem dX9_costBy_50 : decode cX9_costBy 50 = .ok (.ireturn, 1) := by decide +kernel
theorem dX9_costBy_51 : decode cX9_costBy 51 = .ok (.iconst 5, 1) := by decide +kernel
theorem dX9_costBy_52 : decode cX9_costBy 52 = .ok (.ireturn, 1) := by decide +kernel
theorem dX9_costBy_53 : decode cX9_costBy 53 = .ok (.iconst 1, 1) := by decide +kernel
theorem dX9_costBy_54 : decode cX9_costBy 54 = .ok (.ireturn, 1) := by decide +kernel
theorem dX9_costBy_55 : decode cX9_costBy 55 = .ok (.bipush 8, 2) := by decide +kernel
theorem dX9_costBy_57 : decode cX9_costBy 57 = .ok (.iload_n 1, 1) := by decide +kernel
theorem dX9_costBy_58 : decode cX9_costBy 58 = .ok (.iadd, 1) := by decide +kernel
theorem dX9_costBy_59 : decode cX9_costBy 59 = .ok (.ireturn, 1) := by decide +kernel
theorem dX9_costBy_60 : decode cX9_costBy 60 = .ok (.bipush 6, 2) := by decide +kernel
theorem dX9_costBy_62 : decode cX9_costBy 62 = .ok (.iconst 2, 1) := by decide +kernel
theorem dX9_costBy_63 : decode cX9_costBy 63 = .ok (.iload_n 1, 1) := by decide +kernel
theorem dX9_costBy_64 : decode cX9_costBy 64 = .ok (.imul, 1) := by decide +kernel
theorem dX9_costBy_65 : decode cX9_costBy 65 = .ok (.iadd, 1) := by decide +kernel
theorem dX9_costBy_66 : decode cX9_costBy 66 = .ok (.ireturn, 1) := by decide +kernel
theorem dX9_costBy_67 : decode cX9_costBy 67 = .ok (.iconst 3, 1) := by decide +kernel
theorem dX9_costBy_68 : decode cX9_costBy 68 = .ok (.ireturn, 1) := by decide +kernel
theorem dX9_cost_0 : decode cX9_cost 0 = .ok (.aload_n 0, 1) := by decide +kernel
theorem dX9_cost_1 : decode cX9_cost 1 = .ok (.iload_n 1, 1) := by decide +kernel
theorem dX9_cost_2 : decode cX9_cost 2 = .ok (.invokevirtual 143, 3) := by decide +kernel
theorem dX9_cost_5 : decode cX9_cost 5 = .ok (.istore_n 2, 1) := by decide +kernel
theorem dX9_cost_6 : decode cX9_cost 6 = .ok (.iload_n 2, 1) := by decide +kernel
theorem dX9_cost_7 : decode cX9_cost 7 = .ok (.ifCond .eq 7, 3) := by decide +kernel
theorem dX9_cost_10 : decode cX9_cost 10 = .ok (.iload_n 2, 1) := by decide +kernel
theorem dX9_cost_11 : decode cX9_cost 11 = .ok (.goto 18, 3) := by decide +kernel
theorem dX9_cost_14 : decode cX9_cost 14 = .ok (.aload_n 0, 1) := by decide +kernel
theorem dX9_cost_15 : decode cX9_cost 15 = .ok (.getfield 34, 3) := by decide +kernel
theorem dX9_cost_18 : decode cX9_cost 18 = .ok (.iload_n 1, 1) := by decide +kernel
theorem dX9_cost_19 : decode cX9_cost 19 = .ok (.iaload, 1) := by decide +kernel
theorem dX9_cost_20 : decode cX9_cost 20 = .ok (.aload_n 0, 1) := by decide +kernel
theorem dX9_cost_21 : decode cX9_cost 21 = .ok (.getfield 37, 3) := by decide +kernel
theorem dX9_cost_24 : decode cX9_cost 24 = .ok (.iload_n 1, 1) := by decide +kernel
theorem dX9_cost_25 : decode cX9_cost 25 = .ok (.iaload, 1) := by decide +kernel
theorem dX9_cost_26 : decode cX9_cost 26 = .ok (.invokestatic 226, 3) := by decide +kernel
theorem dX9_cost_29 : decode cX9_cost 29 = .ok (.ireturn, 1) := by decide +kernel
theorem dX9_toss_0 : decode cX9_toss 0 = .ok (.aload_n 0, 1) := by decide +kernel
theorem dX9_toss_1 : decode cX9_toss 1 = .ok (.iload_n 1, 1) := by decide +kernel
theorem dX9_toss_2 : decode cX9_toss 2 = .ok (.invokevirtual 143, 3) := by decide +kernel
theorem dX9_toss_5 : decode cX9_toss 5 = .ok (.istore_n 2, 1) := by decide +kernel
theorem dX9_toss_6 : decode cX9_toss 6 = .ok (.iload_n 2, 1) := by decide +kernel
theorem dX9_toss_7 : decode cX9_toss 7 = .ok (.ifCond .eq 5, 3) := by decide +kernel
theorem dX9_toss_10 : decode cX9_toss 10 = .ok (.iload_n 2, 1) := by decide +kernel
theorem dX9_toss_11 : decode cX9_toss 11 = .ok (.ireturn, 1) := by decide +kernel
theorem dX9_toss_12 : decode cX9_toss 12 = .ok (.aload_n 0, 1) := by decide +kernel
theorem dX9_toss_13 : decode cX9_toss 13 = .ok (.getfield 34, 3) := by decide +kernel
theorem dX9_toss_16 : decode cX9_toss 16 = .ok (.iload_n 1, 1) := by decide +kernel
theorem dX9_toss_17 : decode cX9_toss 17 = .ok (.iaload, 1) := by decide +kernel
theorem dX9_toss_18 : decode cX9_toss 18 = .ok (.istore_n 3, 1) := by decide +kernel
theorem dX9_toss_19 : decode cX9_toss 19 = .ok (.aload_n 0, 1) := by decide +kernel
theorem dX9_toss_20 : decode cX9_toss 20 = .ok (.getfield 37, 3) := by decide +kernel
theorem dX9_toss_23 : decode cX9_toss 23 = .ok (.iload_n 1, 1) := by decide +kernel
theorem dX9_toss_24 : decode cX9_toss 24 = .ok (.iaload, 1) := by decide +kernel
theorem dX9_toss_25 : decode cX9_toss 25 = .ok (.istore 4, 2) := by decide +kernel
theorem dX9_toss_27 : decode cX9_toss 27 = .ok (.iload_n 3, 1) := by decide +kernel
theorem dX9_toss_28 : decode cX9_toss 28 = .ok (.iconst 4, 1) := by decide +kernel
theorem dX9_toss_29 : decode cX9_toss 29 = .ok (.if_icmp .eq 14, 3) := by decide +kernel
theorem dX9_toss_32 : decode cX9_toss 32 = .ok (.iload_n 3, 1) := by decide +kernel
theorem dX9_toss_33 : decode cX9_toss 33 = .ok (.bipush 6, 2) := by decide +kernel
theorem dX9_toss_35 : decode cX9_toss 35 = .ok (.if_icmp .eq 8, 3) := by decide +kernel
theorem dX9_toss_38 : decode cX9_toss 38 = .ok (.iload 4, 2) := by decide +kernel
theorem dX9_toss_40 : decode cX9_toss 40 = .ok (.ifCond .ne 6, 3) := by decide +kernel
theorem dX9_toss_43 : decode cX9_toss 43 = .ok (.bipush (-15), 2) := by decide +kernel
theorem dX9_toss_45 : decode cX9_toss 45 = .ok (.ireturn, 1) := by decide +kernel
theorem dX9_toss_46 : decode cX9_toss 46 = .ok (.iload_n 3, 1) := by decide +kernel
theorem dX9_toss_47 : decode cX9_toss 47 = .ok (.bipush 7, 2) := by decide +kernel
theorem dX9_toss_49 : decode cX9_toss 49 = .ok (.if_icmp .ne 16, 3) := by decide +kernel
theorem dX9_toss_52 : decode cX9_toss 52 = .ok (.sipush 200, 3) := by decide +kernel
theorem dX9_toss_55 : decode cX9_toss 55 = .ok (.iload_n 3, 1) := by decide +kernel
theorem dX9_toss_56 : decode cX9_toss 56 = .ok (.iload 4, 2) := by decide +kernel
theorem dX9_toss_58 : decode cX9_toss 58 = .ok (.invokestatic 226, 3) := by decide +kernel
theorem dX9_toss_61 : decode cX9_toss 61 = .ok (.iadd, 1) := by decide +kernel
theorem dX9_toss_62 : decode cX9_toss 62 = .ok (.goto 23, 3) := by decide +kernel
theorem dX9_toss_65 : decode cX9_toss 65 = .ok (.iload_n 3, 1) := by decide +kernel
theorem dX9_toss_66 : decode cX9_toss 66 = .ok (.iconst 1, 1) := by decide +kernel
theorem dX9_toss_67 : decode cX9_toss 67 = .ok (.if_icmp .eq 8, 3) := by decide +kernel
theorem dX9_toss_70 : decode cX9_toss 70 = .ok (.iload_n 3, 1) := by decide +kernel
theorem dX9_toss_71 : decode cX9_toss 71 = .ok (.iconst 5, 1) := by decide +kernel
theorem dX9_toss_72 : decode cX9_toss 72 = .ok (.if_icmp .ne 11, 3) := by decide +kernel
theorem dX9_toss_75 : decode cX9_toss 75 = .ok (.bipush 100, 2) := by decide +kernel
theorem dX9_toss_77 : decode cX9_toss 77 = .ok (.iload 4, 2) := by decide +kernel
theorem dX9_toss_79 : decode cX9_toss 79 = .ok (.iadd, 1) := by decide +kernel
theorem dX9_toss_80 : decode cX9_toss 80 = .ok (.goto 5, 3) := by decide +kernel
theorem dX9_toss_83 : decode cX9_toss 83 = .ok (.iload 4, 2) := by decide +kernel
theorem dX9_toss_85 : decode cX9_toss 85 = .ok (.ireturn, 1) := by decide +kernel
