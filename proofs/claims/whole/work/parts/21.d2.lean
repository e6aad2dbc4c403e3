theorem dX8_init_0 : decode cX8_init 0 = .ok (.aload_n 0, 1) := by decide +kernel
theorem dX8_init_1 : decode cX8_init 1 = .ok (.invokespecial 1, 3) := by decide +kernel
theorem dX8_init_4 : decode cX8_init 4 = .ok (.aload_n 0, 1) := by decide +kernel
theorem dX8_init_5 : decode cX8_init 5 = .ok (.bipush 8, 2) := by decide +kernel
theorem dX8_init_7 : decode cX8_init 7 = .ok (.anewarray 9, 3) := by decide +kernel
theorem dX8_init_10 : decode cX8_init 10 = .ok (.putfield 11, 3) := by decide +kernel
theorem dX8_init_13 : decode cX8_init 13 = .ok (.iconst 0, 1) := by decide +kernel
theorem dX8_init_14 : decode cX8_init 14 = .ok (.istore_n 1, 1) := by decide +kernel
theorem dX8_init_15 : decode cX8_init 15 = .ok (.iload_n 1, 1) := by decide +kernel
theorem dX8_init_16 : decode cX8_init 16 = .ok (.aload_n 0, 1) := by decide +kernel
theorem dX8_init_17 : decode cX8_init 17 = .ok (.getfield 11, 3) := by decide +kernel
theorem dX8_init_20 : decode cX8_init 20 = .ok (.arraylength, 1) := by decide +kernel
theorem dX8_init_21 : decode cX8_init 21 = .ok (.if_icmp .ge 22, 3) := by decide +kernel
theorem dX8_init_24 : decode cX8_init 24 = .ok (.aload_n 0, 1) := by decide +kernel
theorem dX8_init_25 : decode cX8_init 25 = .ok (.getfield 11, 3) := by decide +kernel
theorem dX8_init_28 : decode cX8_init 28 = .ok (.iload_n 1, 1) := by decide +kernel
theorem dX8_init_29 : decode cX8_init 29 = .ok (.new 9, 3) := by decide +kernel
theorem dX8_init_32 : decode cX8_init 32 = .ok (.dup, 1) := by decide +kernel
theorem dX8_init_33 : decode cX8_init 33 = .ok (.invokespecial 15, 3) := by decide +kernel
theorem dX8_init_36 : decode cX8_init 36 = .ok (.aastore, 1) := by decide +kernel
theorem dX8_init_37 : decode cX8_init 37 = .ok (.iinc 1 1, 3) := by decide +kernel
theorem dX8_init_40 : decode cX8_init 40 = .ok (.goto (-25), 3) := by decide +kernel
theorem dX8_init_43 : decode cX8_init 43 = .ok (.aload_n 0, 1) := by decide +kernel
theorem dX8_init_44 : decode cX8_init 44 = .ok (.new 16, 3) := by decide +kernel
theorem dX8_init_47 : decode cX8_init 47 = .ok (.dup, 1) := by decide +kernel
theorem dX8_init_48 : decode cX8_init 48 = .ok (.invokespecial 18, 3) := by decide +kernel
theorem dX8_init_51 : decode cX8_init 51 = .ok (.putfield 19, 3) := by decide +kernel
theorem dX8_init_54 : decode cX8_init 54 = .ok (.aload_n 0, 1) := by decide +kernel
theorem dX8_init_55 : decode cX8_init 55 = .ok (.aload_n 0, 1) := by decide +kernel
theorem dX8_init_56 : decode cX8_init 56 = .ok (.getfield 19, 3) := by decide +kernel
theorem dX8_init_59 : decode cX8_init 59 = .ok (.getfield 23, 3) := by decide +kernel
theorem dX8_init_62 : decode cX8_init 62 = .ok (.putfield 27, 3) := by decide +kernel
theorem dX8_init_65 : decode cX8_init 65 = .ok (.aload_n 0, 1) := by decide +kernel
theorem dX8_init_66 : decode cX8_init 66 = .ok (.new 30, 3) := by decide +kernel
theorem dX8_init_69 : decode cX8_init 69 = .ok (.dup, 1) := by decide +kernel
theorem dX8_init_70 : decode cX8_init 70 = .ok (.invokespecial 32, 3) := by decide +kernel
theorem dX8_init_73 : decode cX8_init 73 = .ok (.putfield 33, 3) := by decide +kernel
theorem dX8_init_76 : decode cX8_init 76 = .ok (.aload_n 0, 1) := by decide +kernel
theorem dX8_init_77 : decode cX8_init 77 = .ok (.new 30, 3) := by decide +kernel
theorem dX8_init_80 : decode cX8_init 80 = .ok (.dup, 1) := by decide +kernel
theorem dX8_init_81 : decode cX8_init 81 = .ok (.invokespecial 32, 3) := by decide +kernel
theorem dX8_init_84 : decode cX8_init 84 = .ok (.putfield 36, 3) := by decide +kernel
theorem dX8_init_87 : decode cX8_init 87 = .ok (.aload_n 0, 1) := by decide +kernel
theorem dX8_init_88 : decode cX8_init 88 = .ok (.iconst 0, 1) := by decide +kernel
theorem dX8_init_89 : decode cX8_init 89 = .ok (.putfield 39, 3) := by decide +kernel
theorem dX8_init_92 : decode cX8_init 92 = .ok (.aload_n 0, 1) := by decide +kernel
theorem dX8_init_93 : decode cX8_init 93 = .ok (.new 43, 3) := by decide +kernel
theorem dX8_init_96 : decode cX8_init 96 = .ok (.dup, 1) := by decide +kernel
theorem dX8_init_97 : decode cX8_init 97 = .ok (.invokespecial 45, 3) := by decide +kernel
theorem dX8_init_100 : decode cX8_init 100 = .ok (.putfield 46, 3) := by decide +kernel
theorem dX8_init_103 : decode cX8_init 103 = .ok (.return_, 1) := by decide +kernel
theorem dX8_year_0 : decode cX8_year 0 = .ok (.aload_n 0, 1) := by decide +kernel
theorem dX8_year_1 : decode cX8_year 1 = .ok (.iload_n 1, 1) := by decide +kernel
theorem dX8_year_2 : decode cX8_year 2 = .ok (.invokevirtual 50, 3) := by decide +kernel
theorem dX8_year_5 : decode cX8_year 5 = .ok (.astore_n 2, 1) := by decide +kernel
theorem dX8_year_6 : decode cX8_year 6 = .ok (.aload_n 2, 1) := by decide +kernel
theorem dX8_year_7 : decode cX8_year 7 = .ok (.invokestatic 54, 3) := by decide +kernel
theorem dX8_year_10 : decode cX8_year 10 = .ok (.istore_n 3, 1) := by decide +kernel
theorem dX8_year_11 : decode cX8_year 11 = .ok (.aload_n 2, 1) := by decide +kernel
theorem dX8_year_12 : decode cX8_year 12 = .ok (.ifnull 7, 3) := by decide +kernel
theorem dX8_year_15 : decode cX8_year 15 = .ok (.iload_n 3, 1) := by decide +kernel
theorem dX8_year_16 : decode cX8_year 16 = .ok (.ifCond .eq 5, 3) := by decide +kernel
theorem dX8_year_19 : decode cX8_year 19 = .ok (.iload_n 3, 1) := by decide +kernel
theorem dX8_year_20 : decode cX8_year 20 = .ok (.ireturn, 1) := by decide +kernel
theorem dX8_year_21 : decode cX8_year 21 = .ok (.aload_n 2, 1) := by decide +kernel
theorem dX8_year_22 : decode cX8_year 22 = .ok (.getfield 58, 3) := by decide +kernel
theorem dX8_year_25 : decode cX8_year 25 = .ok (.ifCond .eq 6, 3) := by decide +kernel
theorem dX8_year_28 : decode cX8_year 28 = .ok (.bipush (-12), 2) := by decide +kernel
theorem dX8_year_30 : decode cX8_year 30 = .ok (.ireturn, 1) := by decide +kernel
theorem dX8_year_31 : decode cX8_year 31 = .ok (.aload_n 2, 1) := by decide +kernel
theorem dX8_year_32 : decode cX8_year 32 = .ok (.invokestatic 62, 3) := by decide +kernel
theorem dX8_year_35 : decode cX8_year 35 = .ok (.istore 4, 2) := by decide +kernel
theorem dX8_year_37 : decode cX8_year 37 = .ok (.iload 4, 2) := by decide +kernel
theorem dX8_year_39 : decode cX8_year 39 = .ok (.ifCond .lt 10, 3) := by decide +kernel
theorem dX8_year_42 : decode cX8_year 42 = .ok (.sipush (-1000), 3) := by decide +kernel
theorem dX8_year_45 : decode cX8_year 45 = .ok (.iload 4, 2) := by decide +kernel
theorem dX8_year_47 : decode cX8_year 47 = .ok (.isub, 1) := by decide +kernel
theorem dX8_year_48 : decode cX8_year 48 = .ok (.ireturn, 1) := by decide +kernel
theorem dX8_year_49 : decode cX8_year 49 = .ok (.aload_n 0, 1) := by decide +kernel
theorem dX8_year_50 : decode cX8_year 50 = .ok (.getfield 33, 3) := by decide +kernel
theorem dX8_year_53 : decode cX8_year 53 = .ok (.aload_n 0, 1) := by decide +kernel
theorem dX8_year_54 : decode cX8_year 54 = .ok (.getfield 27, 3) := by decide +kernel
theorem dX8_year_57 : decode cX8_year 57 = .ok (.invokevirtual 67, 3) := by decide +kernel
theorem dX8_year_60 : decode cX8_year 60 = .ok (.aload_n 2, 1) := by decide +kernel
theorem dX8_year_61 : decode cX8_year 61 = .ok (.aload_n 0, 1) := by decide +kernel
theorem dX8_year_62 : decode cX8_year 62 = .ok (.getfield 33, 3) := by decide +kernel
theorem dX8_year_65 : decode cX8_year 65 = .ok (.invokestatic 71, 3) := by decide +kernel
theorem dX8_year_68 : decode cX8_year 68 = .ok (.istore 5, 2) := by decide +kernel
theorem dX8_year_70 : decode cX8_year 70 = .ok (.iload 5, 2) := by decide +kernel
theorem dX8_year_72 : decode cX8_year 72 = .ok (.ifCond .lt 10, 3) := by decide +kernel
theorem dX8_year_75 : decode cX8_year 75 = .ok (.sipush (-2000), 3) := by decide +kernel
theorem dX8_year_78 : decode cX8_year 78 = .ok (.iload 5, 2) := by decide +kernel
theorem dX8_year_80 : decode cX8_year 80 = .ok (.isub, 1) := by decide +kernel
theorem dX8_year_81 : decode cX8_year 81 = .ok (.ireturn, 1) := by decide +kernel
theorem dX8_year_82 : decode cX8_year 82 = .ok (.aload_n 0, 1) := by decide +kernel
theorem dX8_year_83 : decode cX8_year 83 = .ok (.getfield 27, 3) := by decide +kernel
theorem dX8_year_86 : decode cX8_year 86 = .ok (.aload_n 0, 1) := by decide +kernel
theorem dX8_year_87 : decode cX8_year 87 = .ok (.getfield 33, 3) := by decide +kernel
theorem dX8_year_90 : decode cX8_year 90 = .ok (.invokevirtual 67, 3) := by decide +kernel
theorem dX8_year_93 : decode cX8_year 93 = .ok (.aload_n 2, 1) := by decide +kernel
theorem dX8_year_94 : decode cX8_year 94 = .ok (.invokestatic 75, 3) := by decide +kernel
theorem dX8_year_97 : decode cX8_year 97 = .ok (.ireturn, 1) := by decide +kernel
theorem dX8_deed_0 : decode cX8_deed 0 = .ok (.aload_n 0, 1) := by decide +kernel
theorem dX8_deed_1 : decode cX8_deed 1 = .ok (.getfield 27, 3) := by decide +kernel
theorem dX8_deed_4 : decode cX8_deed 4 = .ok (.iload_n 1, 1) := by decide +kernel
theorem dX8_deed_5 : decode cX8_deed 5 = .ok (.invokevirtual 78, 3) := by decide +kernel
theorem dX8_deed_8 : decode cX8_deed 8 = .ok (.astore_n 3, 1) := by decide +kernel
theorem dX8_deed_9 : decode cX8_deed 9 = .ok (.aload_n 3, 1) := by decide +kernel
theorem dX8_deed_10 : decode cX8_deed 10 = .ok (.ifnonnull 5, 3) := by decide +kernel
theorem dX8_deed_13 : decode cX8_deed 13 = .ok (.iconst (-1), 1) := by decide +kernel
theorem dX8_deed_14 : decode cX8_deed 14 = .ok (.ireturn, 1) := by decide +kernel
theorem dX8_deed_15 : decode cX8_deed 15 = .ok (.iload_n 2, 1) := by decide +kernel
theorem dX8_deed_16 : decode cX8_deed 16 = .ok (.tableswitch 88 0 7 #[48, 53, 58, 63, 68, 73, 78, 83], 48) := by decide +kernel
theorem dX8_deed_64 : decode cX8_deed 64 = .ok (.aload_n 3, 1) := by decide +kernel
theorem dX8_deed_65 : decode cX8_deed 65 = .ok (.getfield 82, 3) := by decide +kernel
theorem dX8_deed_68 : decode cX8_deed 68 = .ok (.ireturn, 1) := by decide +kernel
theorem dX8_deed_69 : decode cX8_deed 69 = .ok (.aload_n 3, 1) := by decide +kernel
theorem dX8_deed_70 : decode cX8_deed 70 = .ok (.getfield 85, 3) := by decide +kernel
theorem dX8_deed_73 : decode cX8_deed 73 = .ok (.ireturn, 1) := by decide +kernel
theorem dX8_deed_74 : decode cX8_deed 74 = .ok (.aload_n 3, 1) := by decide +kernel
theorem dX8_deed_75 : decode cX8_deed 75 = .ok (.getfield 88, 3) := by decide +kernel
theorem dX8_deed_78 : decode cX8_deed 78 = .ok (.ireturn, 1) := by decide +kernel
theorem dX8_deed_79 : decode cX8_deed 79 = .ok (.aload_n 3, 1) := by decide +kernel
theorem dX8_deed_80 : decode cX8_deed 80 = .ok (.getfield 91, 3) := by decide +kernel
theorem dX8_deed_83 : decode cX8_deed 83 = .ok (.ireturn, 1) := by decide +kernel
theorem dX8_deed_84 : decode cX8_deed 84 = .ok (.aload_n 3, 1) := by decide +kernel
theorem dX8_deed_85 : decode cX8_deed 85 = .ok (.getfield 94, 3) := by decide +kernel
theorem dX8_deed_88 : decode cX8_deed 88 = .ok (.ireturn, 1) := by decide +kernel
theorem dX8_deed_89 : decode cX8_deed 89 = .ok (.aload_n 3, 1) := by decide +kernel
theorem dX8_deed_90 : decode cX8_deed 90 = .ok (.getfield 97, 3) := by decide +kernel
theorem dX8_deed_93 : decode cX8_deed 93 = .ok (.ireturn, 1) := by decide +kernel
theorem dX8_deed_94 : decode cX8_deed 94 = .ok (.aload_n 3, 1) := by decide +kernel
theorem dX8_deed_95 : decode cX8_deed 95 = .ok (.getfield 100, 3) := by decide +kernel
theorem dX8_deed_98 : decode cX8_deed 98 = .ok (.ireturn, 1) := by decide +kernel
theorem dX8_deed_99 : decode cX8_deed 99 = .ok (.aload_n 3, 1) := by decide +kernel
theorem dX8_deed_100 : decode cX8_deed 100 = .ok (.invokevirtual 103, 3) := by decide +kernel
theorem dX8_deed_103 : decode cX8_deed 103 = .ok (.ireturn, 1) := by decide +kernel
theorem dX8_deed_104 : decode cX8_deed 104 = .ok (.iconst (-1), 1) := by decide +kernel
theorem dX8_deed_105 : decode cX8_deed 105 = .ok (.ireturn, 1) := by decide +kernel
theorem dX8_guilt_0 : decode cX8_guilt 0 = .ok (.aload_n 0, 1) := by decide +kernel
theorem dX8_guilt_1 : decode cX8_guilt 1 = .ok (.getfield 27, 3) := by decide +kernel
theorem dX8_guilt_4 : decode cX8_guilt 4 = .ok (.iload_n 1, 1) := by decide +kernel
theorem dX8_guilt_5 : decode cX8_guilt 5 = .ok (.invokevirtual 78, 3) := by decide +kernel
theorem dX8_guilt_8 : decode cX8_guilt 8 = .ok (.astore_n 2, 1) := by decide +kernel
theorem dX8_guilt_9 : decode cX8_guilt 9 = .ok (.aload_n 2, 1) := by decide +kernel
theorem dX8_guilt_10 : decode cX8_guilt 10 = .ok (.ifnonnull 8, 3) := by decide +kernel
theorem dX8_guilt_13 : decode cX8_guilt 13 = .ok (.ldc 107, 2) := by decide +kernel
theorem dX8_guilt_15 : decode cX8_guilt 15 = .ok (.goto 7, 3) := by decide +kernel
theorem dX8_guilt_18 : decode cX8_guilt 18 = .ok (.aload_n 2, 1) := by decide +kernel
theorem dX8_guilt_19 : decode cX8_guilt 19 = .ok (.invokevirtual 108, 3) := by decide +kernel
theorem dX8_guilt_22 : decode cX8_guilt 22 = .ok (.ireturn, 1) := by decide +kernel
theorem dX8_done_0 : decode cX8_done 0 = .ok (.iload_n 2, 1) := by decide +kernel
theorem dX8_done_1 : decode cX8_done 1 = .ok (.sipush 364, 3) := by decide +kernel
theorem dX8_done_4 : decode cX8_done 4 = .ok (.invokestatic 111, 3) := by decide +kernel
theorem dX8_done_7 : decode cX8_done 7 = .ok (.ifCond .eq 21, 3) := by decide +kernel
theorem dX8_done_10 : decode cX8_done 10 = .ok (.iload_n 3, 1) := by decide +kernel
theorem dX8_done_11 : decode cX8_done 11 = .ok (.iconst 5, 1) := by decide +kernel
theorem dX8_done_12 : decode cX8_done 12 = .ok (.invokestatic 115, 3) := by decide +kernel
theorem dX8_done_15 : decode cX8_done 15 = .ok (.ifCond .eq 13, 3) := by decide +kernel
theorem dX8_done_18 : decode cX8_done 18 = .ok (.iload 4, 2) := by decide +kernel
theorem dX8_done_20 : decode cX8_done 20 = .ok (.bipush 31, 2) := by decide +kernel
theorem dX8_done_22 : decode cX8_done 22 = .ok (.invokestatic 111, 3) := by decide +kernel
theorem dX8_done_25 : decode cX8_done 25 = .ok (.ifCond .ne 5, 3) := by decide +kernel
theorem dX8_done_28 : decode cX8_done 28 = .ok (.iconst (-1), 1) := by decide +kernel
theorem dX8_done_29 : decode cX8_done 29 = .ok (.ireturn, 1) := by decide +kernel
theorem dX8_done_30 : decode cX8_done 30 = .ok (.aload_n 0, 1) := by decide +kernel
theorem dX8_done_31 : decode cX8_done 31 = .ok (.iload_n 1, 1) := by decide +kernel
theorem dX8_done_32 : decode cX8_done 32 = .ok (.invokevirtual 50, 3) := by decide +kernel
theorem dX8_done_35 : decode cX8_done 35 = .ok (.astore 5, 2) := by decide +kernel
theorem dX8_done_37 : decode cX8_done 37 = .ok (.aload 5, 2) := by decide +kernel
theorem dX8_done_39 : decode cX8_done 39 = .ok (.invokestatic 118, 3) := by decide +kernel
theorem dX8_done_42 : decode cX8_done 42 = .ok (.istore 6, 2) := by decide +kernel
theorem dX8_done_44 : decode cX8_done 44 = .ok (.aload 5, 2) := by decide +kernel
theorem dX8_done_46 : decode cX8_done 46 = .ok (.ifnull 8, 3) := by decide +kernel
theorem dX8_done_49 : decode cX8_done 49 = .ok (.iload 6, 2) := by decide +kernel
theorem dX8_done_51 : decode cX8_done 51 = .ok (.ifCond .eq 6, 3) := by decide +kernel
theorem dX8_done_54 : decode cX8_done 54 = .ok (.iload 6, 2) := by decide +kernel
theorem dX8_done_56 : decode cX8_done 56 = .ok (.ireturn, 1) := by decide +kernel
theorem dX8_done_57 : decode cX8_done 57 = .ok (.aload_n 0, 1) := by decide +kernel
theorem dX8_done_58 : decode cX8_done 58 = .ok (.getfield 27, 3) := by decide +kernel
theorem dX8_done_61 : decode cX8_done 61 = .ok (.aload 5, 2) := by decide +kernel
theorem dX8_done_63 : decode cX8_done 63 = .ok (.getfield 121, 3) := by decide +kernel
theorem dX8_done_66 : decode cX8_done 66 = .ok (.aload 5, 2) := by decide +kernel
theorem dX8_done_68 : decode cX8_done 68 = .ok (.getfield 122, 3) := by decide +kernel
theorem dX8_done_71 : decode cX8_done 71 = .ok (.iload_n 2, 1) := by decide +kernel
theorem dX8_done_72 : decode cX8_done 72 = .ok (.iload_n 3, 1) := by decide +kernel
theorem dX8_done_73 : decode cX8_done 73 = .ok (.iload 4, 2) := by decide +kernel
theorem dX8_done_75 : decode cX8_done 75 = .ok (.invokevirtual 123, 3) := by decide +kernel
theorem dX8_done_78 : decode cX8_done 78 = .ok (.ifCond .eq 15, 3) := by decide +kernel
theorem dX8_done_81 : decode cX8_done 81 = .ok (.aload_n 0, 1) := by decide +kernel
theorem dX8_done_82 : decode cX8_done 82 = .ok (.getfield 27, 3) := by decide +kernel
theorem dX8_done_85 : decode cX8_done 85 = .ok (.getfield 127, 3) := by decide +kernel
theorem dX8_done_88 : decode cX8_done 88 = .ok (.iconst 1, 1) := by decide +kernel
theorem dX8_done_89 : decode cX8_done 89 = .ok (.isub, 1) := by decide +kernel
theorem dX8_done_90 : decode cX8_done 90 = .ok (.goto 5, 3) := by decide +kernel
theorem dX8_done_93 : decode cX8_done 93 = .ok (.bipush (-2), 2) := by decide +kernel
theorem dX8_done_95 : decode cX8_done 95 = .ok (.ireturn, 1) := by decide +kernel
theorem dX8_sees_0 : decode cX8_sees 0 = .ok (.aload_n 0, 1) := by decide +kernel
theorem dX8_sees_1 : decode cX8_sees 1 = .ok (.getfield 27, 3) := by decide +kernel
theorem dX8_sees_4 : decode cX8_sees 4 = .ok (.iload_n 1, 1) := by decide +kernel
theorem dX8_sees_5 : decode cX8_sees 5 = .ok (.invokevirtual 78, 3) := by decide +kernel
theorem dX8_sees_8 : decode cX8_sees 8 = .ok (.astore_n 3, 1) := by decide +kernel
theorem dX8_sees_9 : decode cX8_sees 9 = .ok (.aload_n 3, 1) := by decide +kernel
theorem dX8_sees_10 : decode cX8_sees 10 = .ok (.ifnull 11, 3) := by decide +kernel
theorem dX8_sees_13 : decode cX8_sees 13 = .ok (.iload_n 2, 1) := by decide +kernel
theorem dX8_sees_14 : decode cX8_sees 14 = .ok (.iconst 5, 1) := by decide +kernel
theorem dX8_sees_15 : decode cX8_sees 15 = .ok (.invokestatic 115, 3) := by decide +kernel
theorem dX8_sees_18 : decode cX8_sees 18 = .ok (.ifCond .ne 5, 3) := by decide +kernel
theorem dX8_sees_21 : decode cX8_sees 21 = .ok (.iconst (-1), 1) := by decide +kernel
theorem dX8_sees_22 : decode cX8_sees 22 = .ok (.ireturn, 1) := by decide +kernel
theorem dX8_sees_23 : decode cX8_sees 23 = .ok (.aload_n 3, 1) := by decide +kernel
theorem dX8_sees_24 : decode cX8_sees 24 = .ok (.getfield 91, 3) := by decide +kernel
theorem dX8_sees_27 : decode cX8_sees 27 = .ok (.iload_n 2, 1) := by decide +kernel
theorem dX8_sees_28 : decode cX8_sees 28 = .ok (.if_icmp .ne 6, 3) := by decide +kernel
theorem dX8_sees_31 : decode cX8_sees 31 = .ok (.bipush (-3), 2) := by decide +kernel
theorem dX8_sees_33 : decode cX8_sees 33 = .ok (.ireturn, 1) := by decide +kernel
theorem dX8_sees_34 : decode cX8_sees 34 = .ok (.aload_n 3, 1) := by decide +kernel
theorem dX8_sees_35 : decode cX8_sees 35 = .ok (.iload_n 2, 1) := by decide +kernel
theorem dX8_sees_36 : decode cX8_sees 36 = .ok (.invokevirtual 130, 3) := by decide +kernel
theorem dX8_sees_39 : decode cX8_sees 39 = .ok (.aload_n 3, 1) := by decide +kernel
theorem dX8_sees_40 : decode cX8_sees 40 = .ok (.getfield 94, 3) := by decide +kernel
theorem dX8_sees_43 : decode cX8_sees 43 = .ok (.iload_n 2, 1) := by decide +kernel
theorem dX8_sees_44 : decode cX8_sees 44 = .ok (.ishr, 1) := by decide +kernel
theorem dX8_sees_45 : decode cX8_sees 45 = .ok (.iconst 1, 1) := by decide +kernel
theorem dX8_sees_46 : decode cX8_sees 46 = .ok (.iand, 1) := by decide +kernel
theorem dX8_sees_47 : decode cX8_sees 47 = .ok (.ireturn, 1) := by decide +kernel
theorem dX8_today_0 : decode cX8_today 0 = .ok (.iload_n 1, 1) := by decide +kernel
theorem dX8_today_1 : decode cX8_today 1 = .ok (.sipush 365, 3) := by decide +kernel
theorem dX8_today_4 : decode cX8_today 4 = .ok (.invokestatic 111, 3) := by decide +kernel
theorem dX8_today_7 : decode cX8_today 7 = .ok (.ifCond .ne 5, 3) := by decide +kernel
theorem dX8_today_10 : decode cX8_today 10 = .ok (.iconst (-1), 1) := by decide +kernel
theorem dX8_today_11 : decode cX8_today 11 = .ok (.ireturn, 1) := by decide +kernel
theorem dX8_today_12 : decode cX8_today 12 = .ok (.aload_n 0, 1) := by decide +kernel
theorem dX8_today_13 : decode cX8_today 13 = .ok (.getfield 27, 3) := by decide +kernel
theorem dX8_today_16 : decode cX8_today 16 = .ok (.getfield 134, 3) := by decide +kernel
theorem dX8_today_19 : decode cX8_today 19 = .ok (.istore_n 2, 1) := by decide +kernel
theorem dX8_today_20 : decode cX8_today 20 = .ok (.aload_n 0, 1) := by decide +kernel
theorem dX8_today_21 : decode cX8_today 21 = .ok (.getfield 27, 3) := by decide +kernel
theorem dX8_today_24 : decode cX8_today 24 = .ok (.iload_n 1, 1) := by decide +kernel
theorem dX8_today_25 : decode cX8_today 25 = .ok (.putfield 134, 3) := by decide +kernel
theorem dX8_today_28 : decode cX8_today 28 = .ok (.iload_n 2, 1) := by decide +kernel
theorem dX8_today_29 : decode cX8_today 29 = .ok (.ireturn, 1) := by decide +kernel
theorem dX8_remembers_0 : decode cX8_remembers 0 = .ok (.aload_n 0, 1) := by decide +kernel
theorem dX8_remembers_1 : decode cX8_remembers 1 = .ok (.getfield 27, 3) := by decide +kernel
theorem dX8_remembers_4 : decode cX8_remembers 4 = .ok (.iload_n 2, 1) := by decide +kernel
theorem dX8_remembers_5 : decode cX8_remembers 5 = .ok (.invokevirtual 78, 3) := by decide +kernel
theorem dX8_remembers_8 : decode cX8_remembers 8 = .ok (.astore_n 3, 1) := by decide +kernel
theorem dX8_remembers_9 : decode cX8_remembers 9 = .ok (.aload_n 3, 1) := by decide +kernel
theorem dX8_remembers_10 : decode cX8_remembers 10 = .ok (.ifnull 11, 3) := by decide +kernel
theorem dX8_remembers_13 : decode cX8_remembers 13 = .ok (.iload_n 1, 1) := by decide +kernel
theorem dX8_remembers_14 : decode cX8_remembers 14 = .ok (.iconst 5, 1) := by decide +kernel
theorem dX8_remembers_15 : decode cX8_remembers 15 = .ok (.invokestatic 115, 3) := by decide +kernel
theorem dX8_remembers_18 : decode cX8_remembers 18 = .ok (.ifCond .ne 5, 3) := by decide +kernel
theorem dX8_remembers_21 : decode cX8_remembers 21 = .ok (.iconst (-1), 1) := by decide +kernel
theorem dX8_remembers_22 : decode cX8_remembers 22 = .ok (.ireturn, 1) := by decide +kernel
theorem dX8_remembers_23 : decode cX8_remembers 23 = .ok (.aload_n 3, 1) := by decide +kernel
theorem dX8_remembers_24 : decode cX8_remembers 24 = .ok (.iload_n 1, 1) := by decide +kernel
theorem dX8_remembers_25 : decode cX8_remembers 25 = .ok (.aload_n 0, 1) := by decide +kernel
theorem dX8_remembers_26 : decode cX8_remembers 26 = .ok (.getfield 27, 3) := by decide +kernel
theorem dX8_remembers_29 : decode cX8_remembers 29 = .ok (.getfield 134, 3) := by decide +kernel
theorem dX8_remembers_32 : decode cX8_remembers 32 = .ok (.invokevirtual 135, 3) := by decide +kernel
theorem dX8_remembers_35 : decode cX8_remembers 35 = .ok (.ifCond .eq 7, 3) := by decide +kernel
theorem dX8_remembers_38 : decode cX8_remembers 38 = .ok (.iconst 1, 1) := by decide +kernel
theorem dX8_remembers_39 : decode cX8_remembers 39 = .ok (.goto 4, 3) := by decide +kernel
theorem dX8_remembers_42 : decode cX8_remembers 42 = .ok (.iconst 0, 1) := by decide +kernel
theorem dX8_remembers_43 : decode cX8_remembers 43 = .ok (.ireturn, 1) := by decide +kernel
theorem dX8_knows_0 : decode cX8_knows 0 = .ok (.iload_n 1, 1) := by decide +kernel
theorem dX8_knows_1 : decode cX8_knows 1 = .ok (.iconst 5, 1) := by decide +kernel
theorem dX8_knows_2 : decode cX8_knows 2 = .ok (.invokestatic 115, 3) := by decide +kernel
theorem dX8_knows_5 : decode cX8_knows 5 = .ok (.ifCond .eq 21, 3) := by decide +kernel
theorem dX8_knows_8 : decode cX8_knows 8 = .ok (.aload_n 0, 1) := by decide +kernel
theorem dX8_knows_9 : decode cX8_knows 9 = .ok (.getfield 27, 3) := by decide +kernel
theorem dX8_knows_12 : decode cX8_knows 12 = .ok (.iload_n 1, 1) := by decide +kernel
theorem dX8_knows_13 : decode cX8_knows 13 = .ok (.aload_n 0, 1) := by decide +kernel
theorem dX8_knows_14 : decode cX8_knows 14 = .ok (.getfield 27, 3) := by decide +kernel
theorem dX8_knows_17 : decode cX8_knows 17 = .ok (.getfield 134, 3) := by decide +kernel
theorem dX8_knows_20 : decode cX8_knows 20 = .ok (.invokevirtual 138, 3) := by decide +kernel
theorem dX8_knows_23 : decode cX8_knows 23 = .ok (.goto 4, 3) := by decide +kernel
theorem dX8_knows_26 : decode cX8_knows 26 = .ok (.iconst (-1), 1) := by decide +kernel
theorem dX8_knows_27 : decode cX8_knows 27 = .ok (.ireturn, 1) := by decide +kernel
theorem dX8_forgotten_0 : decode cX8_forgotten 0 = .ok (.aload_n 0, 1) := by decide +kernel
theorem dX8_forgotten_1 : decode cX8_forgotten 1 = .ok (.getfield 27, 3) := by decide +kernel
theorem dX8_forgotten_4 : decode cX8_forgotten 4 = .ok (.iconst 0, 1) := by decide +kernel
theorem dX8_forgotten_5 : decode cX8_forgotten 5 = .ok (.invokevirtual 142, 3) := by decide +kernel
theorem dX8_forgotten_8 : decode cX8_forgotten 8 = .ok (.ireturn, 1) := by decide +kernel
theorem dX8_forgets_0 : decode cX8_forgets 0 = .ok (.aload_n 0, 1) := by decide +kernel
theorem dX8_forgets_1 : decode cX8_forgets 1 = .ok (.getfield 27, 3) := by decide +kernel
theorem dX8_forgets_4 : decode cX8_forgets 4 = .ok (.iload_n 2, 1) := by decide +kernel
theorem dX8_forgets_5 : decode cX8_forgets 5 = .ok (.invokevirtual 78, 3) := by decide +kernel
theorem dX8_forgets_8 : decode cX8_forgets 8 = .ok (.astore_n 3, 1) := by decide +kernel
theorem dX8_forgets_9 : decode cX8_forgets 9 = .ok (.aload_n 3, 1) := by decide +kernel
theorem dX8_forgets_10 : decode cX8_forgets 10 = .ok (.ifnull 11, 3) := by decide +kernel
theorem dX8_forgets_13 : decode cX8_forgets 13 = .ok (.iload_n 1, 1) := by decide +kernel
theorem dX8_forgets_14 : decode cX8_forgets 14 = .ok (.iconst 5, 1) := by decide +kernel
theorem dX8_forgets_15 : decode cX8_forgets 15 = .ok (.invokestatic 115, 3) := by decide +kernel
theorem dX8_forgets_18 : decode cX8_forgets 18 = .ok (.ifCond .ne 5, 3) := by decide +kernel
theorem dX8_forgets_21 : decode cX8_forgets 21 = .ok (.iconst (-1), 1) := by decide +kernel
theorem dX8_forgets_22 : decode cX8_forgets 22 = .ok (.ireturn, 1) := by decide +kernel
theorem dX8_forgets_23 : decode cX8_forgets 23 = .ok (.aload_n 3, 1) := by decide +kernel
theorem dX8_forgets_24 : decode cX8_forgets 24 = .ok (.iload_n 1, 1) := by decide +kernel
theorem dX8_forgets_25 : decode cX8_forgets 25 = .ok (.aload_n 0, 1) := by decide +kernel
theorem dX8_forgets_26 : decode cX8_forgets 26 = .ok (.getfield 27, 3) := by decide +kernel
theorem dX8_forgets_29 : decode cX8_forgets 29 = .ok (.getfield 134, 3) := by decide +kernel
theorem dX8_forgets_32 : decode cX8_forgets 32 = .ok (.invokevirtual 135, 3) := by decide +kernel
theorem dX8_forgets_35 : decode cX8_forgets 35 = .ok (.ifCond .ne 6, 3) := by decide +kernel
theorem dX8_forgets_38 : decode cX8_forgets 38 = .ok (.bipush (-3), 2) := by decide +kernel
theorem dX8_forgets_40 : decode cX8_forgets 40 = .ok (.ireturn, 1) := by decide +kernel
theorem dX8_forgets_41 : decode cX8_forgets 41 = .ok (.aload_n 3, 1) := by decide +kernel
theorem dX8_forgets_42 : decode cX8_forgets 42 = .ok (.getfield 88, 3) := by decide +kernel
theorem dX8_forgets_45 : decode cX8_forgets 45 = .ok (.aload_n 3, 1) := by decide +kernel
theorem dX8_forgets_46 : decode cX8_forgets 46 = .ok (.iload_n 1, 1) := by decide +kernel
theorem dX8_forgets_47 : decode cX8_forgets 47 = .ok (.invokevirtual 146, 3) := by decide +kernel
theorem dX8_forgets_50 : decode cX8_forgets 50 = .ok (.iadd, 1) := by decide +kernel
theorem dX8_forgets_51 : decode cX8_forgets 51 = .ok (.iconst 1, 1) := by decide +kernel
theorem dX8_forgets_52 : decode cX8_forgets 52 = .ok (.iadd, 1) := by decide +kernel
theorem dX8_forgets_53 : decode cX8_forgets 53 = .ok (.istore 4, 2) := by decide +kernel
theorem dX8_forgets_55 : decode cX8_forgets 55 = .ok (.iload 4, 2) := by decide +kernel
theorem dX8_forgets_57 : decode cX8_forgets 57 = .ok (.sipush 365, 3) := by decide +kernel
theorem dX8_forgets_60 : decode cX8_forgets 60 = .ok (.if_icmp .gt 8, 3) := by decide +kernel
theorem dX8_forgets_63 : decode cX8_forgets 63 = .ok (.iload 4, 2) := by decide +kernel
theorem dX8_forgets_65 : decode cX8_forgets 65 = .ok (.goto 5, 3) := by decide +kernel
theorem dX8_forgets_68 : decode cX8_forgets 68 = .ok (.bipush (-4), 2) := by decide +kernel
theorem dX8_forgets_70 : decode cX8_forgets 70 = .ok (.ireturn, 1) := by decide +kernel
theorem dX8_only_0 : decode cX8_only 0 = .ok (.aload_n 0, 1) := by decide +kernel
theorem dX8_only_1 : decode cX8_only 1 = .ok (.getfield 27, 3) := by decide +kernel
theorem dX8_only_4 : decode cX8_only 4 = .ok (.iconst 1, 1) := by decide +kernel
theorem dX8_only_5 : decode cX8_only 5 = .ok (.invokevirtual 142, 3) := by decide +kernel
theorem dX8_only_8 : decode cX8_only 8 = .ok (.ireturn, 1) := by decide +kernel
theorem dX8_witnesses_0 : decode cX8_witnesses 0 = .ok (.aload_n 0, 1) := by decide +kernel
theorem dX8_witnesses_1 : decode cX8_witnesses 1 = .ok (.getfield 27, 3) := by decide +kernel
theorem dX8_witnesses_4 : decode cX8_witnesses 4 = .ok (.bipush 31, 2) := by decide +kernel
theorem dX8_witnesses_6 : decode cX8_witnesses 6 = .ok (.invokevirtual 149, 3) := by decide +kernel
theorem dX8_witnesses_9 : decode cX8_witnesses 9 = .ok (.istore_n 1, 1) := by decide +kernel
theorem dX8_witnesses_10 : decode cX8_witnesses 10 = .ok (.bipush 31, 2) := by decide +kernel
theorem dX8_witnesses_12 : decode cX8_witnesses 12 = .ok (.istore_n 2, 1) := by decide +kernel
theorem dX8_witnesses_13 : decode cX8_witnesses 13 = .ok (.iconst 0, 1) := by decide +kernel
theorem dX8_witnesses_14 : decode cX8_witnesses 14 = .ok (.istore_n 3, 1) := by decide +kernel
theorem dX8_witnesses_15 : decode cX8_witnesses 15 = .ok (.iload_n 3, 1) := by decide +kernel
theorem dX8_witnesses_16 : decode cX8_witnesses 16 = .ok (.bipush 31, 2) := by decide +kernel
theorem dX8_witnesses_18 : decode cX8_witnesses 18 = .ok (.if_icmp .ge 46, 3) := by decide +kernel
theorem dX8_witnesses_21 : decode cX8_witnesses 21 = .ok (.iload_n 3, 1) := by decide +kernel
theorem dX8_witnesses_22 : decode cX8_witnesses 22 = .ok (.invokestatic 152, 3) := by decide +kernel
theorem dX8_witnesses_25 : decode cX8_witnesses 25 = .ok (.iload_n 2, 1) := by decide +kernel
theorem dX8_witnesses_26 : decode cX8_witnesses 26 = .ok (.invokestatic 152, 3) := by decide +kernel
theorem dX8_witnesses_29 : decode cX8_witnesses 29 = .ok (.if_icmp .ge 7, 3) := by decide +kernel
theorem dX8_witnesses_32 : decode cX8_witnesses 32 = .ok (.iconst 1, 1) := by decide +kernel
theorem dX8_witnesses_33 : decode cX8_witnesses 33 = .ok (.goto 4, 3) := by decide +kernel
theorem dX8_witnesses_36 : decode cX8_witnesses 36 = .ok (.iconst 0, 1) := by decide +kernel
theorem dX8_witnesses_37 : decode cX8_witnesses 37 = .ok (.istore 4, 2) := by decide +kernel
theorem dX8_witnesses_39 : decode cX8_witnesses 39 = .ok (.iload 4, 2) := by decide +kernel
theorem dX8_witnesses_41 : decode cX8_witnesses 41 = .ok (.ifCond .eq 17, 3) := by decide +kernel
theorem dX8_witnesses_44 : decode cX8_witnesses 44 = .ok (.aload_n 0, 1) := by decide +kernel
theorem dX8_witnesses_45 : decode cX8_witnesses 45 = .ok (.getfield 27, 3) := by decide +kernel
theorem dX8_witnesses_48 : decode cX8_witnesses 48 = .ok (.iload_n 3, 1) := by decide +kernel
theorem dX8_witnesses_49 : decode cX8_witnesses 49 = .ok (.invokevirtual 149, 3) := by decide +kernel
theorem dX8_witnesses_52 : decode cX8_witnesses 52 = .ok (.iload_n 1, 1) := by decide +kernel
theorem dX8_witnesses_53 : decode cX8_witnesses 53 = .ok (.if_icmp .ne 5, 3) := by decide +kernel
theorem dX8_witnesses_56 : decode cX8_witnesses 56 = .ok (.iload_n 3, 1) := by decide +kernel
theorem dX8_witnesses_57 : decode cX8_witnesses 57 = .ok (.istore_n 2, 1) := by decide +kernel
theorem dX8_witnesses_58 : decode cX8_witnesses 58 = .ok (.iinc 3 1, 3) := by decide +kernel
theorem dX8_witnesses_61 : decode cX8_witnesses 61 = .ok (.goto (-46), 3) := by decide +kernel
theorem dX8_witnesses_64 : decode cX8_witnesses 64 = .ok (.iload_n 2, 1) := by decide +kernel
theorem dX8_witnesses_65 : decode cX8_witnesses 65 = .ok (.ireturn, 1) := by decide +kernel
theorem dX8_place_0 : decode cX8_place 0 = .ok (.aload_n 0, 1) := by decide +kernel
theorem dX8_place_1 : decode cX8_place 1 = .ok (.getfield 27, 3) := by decide +kernel
theorem dX8_place_4 : decode cX8_place 4 = .ok (.iload_n 1, 1) := by decide +kernel
theorem dX8_place_5 : decode cX8_place 5 = .ok (.invokevirtual 78, 3) := by decide +kernel
theorem dX8_place_8 : decode cX8_place 8 = .ok (.ifnull 11, 3) := by decide +kernel
theorem dX8_place_11 : decode cX8_place 11 = .ok (.iload_n 2, 1) := by decide +kernel
theorem dX8_place_12 : decode cX8_place 12 = .ok (.iconst 2, 1) := by decide +kernel
theorem dX8_place_13 : decode cX8_place 13 = .ok (.invokestatic 115, 3) := by decide +kernel
theorem dX8_place_16 : decode cX8_place 16 = .ok (.ifCond .ne 5, 3) := by decide +kernel
theorem dX8_place_19 : decode cX8_place 19 = .ok (.iconst (-1), 1) := by decide +kernel
theorem dX8_place_20 : decode cX8_place 20 = .ok (.ireturn, 1) := by decide +kernel
theorem dX8_place_21 : decode cX8_place 21 = .ok (.aload_n 0, 1) := by decide +kernel
theorem dX8_place_22 : decode cX8_place 22 = .ok (.getfield 19, 3) := by decide +kernel
theorem dX8_place_25 : decode cX8_place 25 = .ok (.invokevirtual 157, 3) := by decide +kernel
theorem dX8_place_28 : decode cX8_place 28 = .ok (.iload_n 2, 1) := by decide +kernel
theorem dX8_place_29 : decode cX8_place 29 = .ok (.ifCond .ne 14, 3) := by decide +kernel
theorem dX8_place_32 : decode cX8_place 32 = .ok (.aload_n 0, 1) := by decide +kernel
theorem dX8_place_33 : decode cX8_place 33 = .ok (.getfield 19, 3) := by decide +kernel
theorem dX8_place_36 : decode cX8_place 36 = .ok (.iload_n 1, 1) := by decide +kernel
theorem dX8_place_37 : decode cX8_place 37 = .ok (.invokevirtual 160, 3) := by decide +kernel
theorem dX8_place_40 : decode cX8_place 40 = .ok (.goto 11, 3) := by decide +kernel
theorem dX8_place_43 : decode cX8_place 43 = .ok (.aload_n 0, 1) := by decide +kernel
theorem dX8_place_44 : decode cX8_place 44 = .ok (.getfield 19, 3) := by decide +kernel
theorem dX8_place_47 : decode cX8_place 47 = .ok (.iload_n 1, 1) := by decide +kernel
theorem dX8_place_48 : decode cX8_place 48 = .ok (.invokevirtual 163, 3) := by decide +kernel
theorem dX8_place_51 : decode cX8_place 51 = .ok (.ireturn, 1) := by decide +kernel
theorem dX8_pages_0 : decode cX8_pages 0 = .ok (.aload_n 0, 1) := by decide +kernel
theorem dX8_pages_1 : decode cX8_pages 1 = .ok (.getfield 19, 3) := by decide +kernel
theorem dX8_pages_4 : decode cX8_pages 4 = .ok (.invokevirtual 157, 3) := by decide +kernel
theorem dX8_pages_7 : decode cX8_pages 7 = .ok (.aload_n 0, 1) := by decide +kernel
theorem dX8_pages_8 : decode cX8_pages 8 = .ok (.getfield 19, 3) := by decide +kernel
theorem dX8_pages_11 : decode cX8_pages 11 = .ok (.getfield 166, 3) := by decide +kernel
theorem dX8_pages_14 : decode cX8_pages 14 = .ok (.ireturn, 1) := by decide +kernel
theorem dX8_looksUp_0 : decode cX8_looksUp 0 = .ok (.iload_n 1, 1) := by decide +kernel
theorem dX8_looksUp_1 : decode cX8_looksUp 1 = .ok (.iconst 5, 1) := by decide +kernel
theorem dX8_looksUp_2 : decode cX8_looksUp 2 = .ok (.invokestatic 115, 3) := by decide +kernel
theorem dX8_looksUp_5 : decode cX8_looksUp 5 = .ok (.ifCond .eq 11, 3) := by decide +kernel
theorem dX8_looksUp_8 : decode cX8_looksUp 8 = .ok (.iload_n 2, 1) := by decide +kernel
theorem dX8_looksUp_9 : decode cX8_looksUp 9 = .ok (.iconst 2, 1) := by decide +kernel
theorem dX8_looksUp_10 : decode cX8_looksUp 10 = .ok (.invokestatic 115, 3) := by decide +kernel
theorem dX8_looksUp_13 : decode cX8_looksUp 13 = .ok (.ifCond .ne 5, 3) := by decide +kernel
theorem dX8_looksUp_16 : decode cX8_looksUp 16 = .ok (.iconst (-1), 1) := by decide +kernel
theorem dX8_looksUp_17 : decode cX8_looksUp 17 = .ok (.ireturn, 1) := by decide +kernel
theorem dX8_looksUp_18 : decode cX8_looksUp 18 = .ok (.aload_n 0, 1) := by decide +kernel
theorem dX8_looksUp_19 : decode cX8_looksUp 19 = .ok (.getfield 19, 3) := by decide +kernel
theorem dX8_looksUp_22 : decode cX8_looksUp 22 = .ok (.invokevirtual 157, 3) := by decide +kernel
theorem dX8_looksUp_25 : decode cX8_looksUp 25 = .ok (.aload_n 0, 1) := by decide +kernel
theorem dX8_looksUp_26 : decode cX8_looksUp 26 = .ok (.getfield 19, 3) := by decide +kernel
theorem dX8_looksUp_29 : decode cX8_looksUp 29 = .ok (.aload_n 0, 1) := by decide +kernel
theorem dX8_looksUp_30 : decode cX8_looksUp 30 = .ok (.getfield 19, 3) := by decide +kernel
theorem dX8_looksUp_33 : decode cX8_looksUp 33 = .ok (.iload_n 1, 1) := by decide +kernel
theorem dX8_looksUp_34 : decode cX8_looksUp 34 = .ok (.invokevirtual 169, 3) := by decide +kernel
theorem dX8_looksUp_37 : decode cX8_looksUp 37 = .ok (.invokevirtual 163, 3) := by decide +kernel
theorem dX8_looksUp_40 : decode cX8_looksUp 40 = .ok (.istore_n 3, 1) := by decide +kernel
theorem dX8_looksUp_41 : decode cX8_looksUp 41 = .ok (.iload_n 2, 1) := by decide +kernel
theorem dX8_looksUp_42 : decode cX8_looksUp 42 = .ok (.ifCond .ne 7, 3) := by decide +kernel
theorem dX8_looksUp_45 : decode cX8_looksUp 45 = .ok (.iload_n 3, 1) := by decide +kernel
theorem dX8_looksUp_46 : decode cX8_looksUp 46 = .ok (.goto 12, 3) := by decide +kernel
theorem dX8_looksUp_49 : decode cX8_looksUp 49 = .ok (.aload_n 0, 1) := by decide +kernel
theorem dX8_looksUp_50 : decode cX8_looksUp 50 = .ok (.getfield 19, 3) := by decide +kernel
theorem dX8_looksUp_53 : decode cX8_looksUp 53 = .ok (.iload_n 1, 1) := by decide +kernel
theorem dX8_looksUp_54 : decode cX8_looksUp 54 = .ok (.iload_n 3, 1) := by decide +kernel
theorem dX8_looksUp_55 : decode cX8_looksUp 55 = .ok (.invokevirtual 172, 3) := by decide +kernel
theorem dX8_looksUp_58 : decode cX8_looksUp 58 = .ok (.ireturn, 1) := by decide +kernel
theorem dX8_uncut_0 : decode cX8_uncut 0 = .ok (.iload_n 1, 1) := by decide +kernel
theorem dX8_uncut_1 : decode cX8_uncut 1 = .ok (.bipush 9, 2) := by decide +kernel
theorem dX8_uncut_3 : decode cX8_uncut 3 = .ok (.invokestatic 111, 3) := by decide +kernel
theorem dX8_uncut_6 : decode cX8_uncut 6 = .ok (.ifCond .eq 11, 3) := by decide +kernel
theorem dX8_uncut_9 : decode cX8_uncut 9 = .ok (.iload_n 2, 1) := by decide +kernel
theorem dX8_uncut_10 : decode cX8_uncut 10 = .ok (.iconst 2, 1) := by decide +kernel
theorem dX8_uncut_11 : decode cX8_uncut 11 = .ok (.invokestatic 115, 3) := by decide +kernel
theorem dX8_uncut_14 : decode cX8_uncut 14 = .ok (.ifCond .ne 5, 3) := by decide +kernel
theorem dX8_uncut_17 : decode cX8_uncut 17 = .ok (.iconst (-1), 1) := by decide +kernel
theorem dX8_uncut_18 : decode cX8_uncut 18 = .ok (.ireturn, 1) := by decide +kernel
theorem dX8_uncut_19 : decode cX8_uncut 19 = .ok (.aload_n 0, 1) := by decide +kernel
theorem dX8_uncut_20 : decode cX8_uncut 20 = .ok (.getfield 19, 3) := by decide +kernel
theorem dX8_uncut_23 : decode cX8_uncut 23 = .ok (.invokevirtual 157, 3) := by decide +kernel
theorem dX8_uncut_26 : decode cX8_uncut 26 = .ok (.aload_n 0, 1) := by decide +kernel
theorem dX8_uncut_27 : decode cX8_uncut 27 = .ok (.getfield 19, 3) := by decide +kernel
theorem dX8_uncut_30 : decode cX8_uncut 30 = .ok (.getfield 166, 3) := by decide +kernel
theorem dX8_uncut_33 : decode cX8_uncut 33 = .ok (.iload_n 1, 1) := by decide +kernel
theorem dX8_uncut_34 : decode cX8_uncut 34 = .ok (.isub, 1) := by decide +kernel
theorem dX8_uncut_35 : decode cX8_uncut 35 = .ok (.istore_n 3, 1) := by decide +kernel
theorem dX8_uncut_36 : decode cX8_uncut 36 = .ok (.iload_n 2, 1) := by decide +kernel
theorem dX8_uncut_37 : decode cX8_uncut 37 = .ok (.ifCond .ne 14, 3) := by decide +kernel
theorem dX8_uncut_40 : decode cX8_uncut 40 = .ok (.aload_n 0, 1) := by decide +kernel
theorem dX8_uncut_41 : decode cX8_uncut 41 = .ok (.getfield 19, 3) := by decide +kernel
theorem dX8_uncut_44 : decode cX8_uncut 44 = .ok (.iload_n 3, 1) := by decide +kernel
theorem dX8_uncut_45 : decode cX8_uncut 45 = .ok (.invokevirtual 175, 3) := by decide +kernel
theorem dX8_uncut_48 : decode cX8_uncut 48 = .ok (.goto 16, 3) := by decide +kernel
theorem dX8_uncut_51 : decode cX8_uncut 51 = .ok (.bipush 31, 2) := by decide +kernel
theorem dX8_uncut_53 : decode cX8_uncut 53 = .ok (.aload_n 0, 1) := by decide +kernel
theorem dX8_uncut_54 : decode cX8_uncut 54 = .ok (.getfield 19, 3) := by decide +kernel
theorem dX8_uncut_57 : decode cX8_uncut 57 = .ok (.iload_n 3, 1) := by decide +kernel
theorem dX8_uncut_58 : decode cX8_uncut 58 = .ok (.invokevirtual 178, 3) := by decide +kernel
theorem dX8_uncut_61 : decode cX8_uncut 61 = .ok (.iconst (-1), 1) := by decide +kernel
theorem dX8_uncut_62 : decode cX8_uncut 62 = .ok (.ixor, 1) := by decide +kernel
theorem dX8_uncut_63 : decode cX8_uncut 63 = .ok (.iand, 1) := by decide +kernel
theorem dX8_uncut_64 : decode cX8_uncut 64 = .ok (.ireturn, 1) := by decide +kernel
theorem dX8_guilty_0 : decode cX8_guilty 0 = .ok (.iload_n 1, 1) := by decide +kernel
theorem dX8_guilty_1 : decode cX8_guilty 1 = .ok (.bipush (-30), 2) := by decide +kernel
theorem dX8_guilty_3 : decode cX8_guilty 3 = .ok (.if_icmp .lt 9, 3) := by decide +kernel
theorem dX8_guilty_6 : decode cX8_guilty 6 = .ok (.iload_n 1, 1) := by decide +kernel
theorem dX8_guilty_7 : decode cX8_guilty 7 = .ok (.bipush 99, 2) := by decide +kernel
theorem dX8_guilty_9 : decode cX8_guilty 9 = .ok (.if_icmp .le 5, 3) := by decide +kernel
theorem dX8_guilty_12 : decode cX8_guilty 12 = .ok (.iconst (-1), 1) := by decide +kernel
theorem dX8_guilty_13 : decode cX8_guilty 13 = .ok (.ireturn, 1) := by decide +kernel
theorem dX8_guilty_14 : decode cX8_guilty 14 = .ok (.aload_n 0, 1) := by decide +kernel
theorem dX8_guilty_15 : decode cX8_guilty 15 = .ok (.getfield 27, 3) := by decide +kernel
theorem dX8_guilty_18 : decode cX8_guilty 18 = .ok (.invokevirtual 181, 3) := by decide +kernel
theorem dX8_guilty_21 : decode cX8_guilty 21 = .ok (.aload_n 0, 1) := by decide +kernel
theorem dX8_guilty_22 : decode cX8_guilty 22 = .ok (.getfield 27, 3) := by decide +kernel
theorem dX8_guilty_25 : decode cX8_guilty 25 = .ok (.iload_n 1, 1) := by decide +kernel
theorem dX8_guilty_26 : decode cX8_guilty 26 = .ok (.invokevirtual 184, 3) := by decide +kernel
theorem dX8_guilty_29 : decode cX8_guilty 29 = .ok (.ireturn, 1) := by decide +kernel
theorem dX8_price_0 : decode cX8_price 0 = .ok (.iload_n 1, 1) := by decide +kernel
theorem dX8_price_1 : decode cX8_price 1 = .ok (.iconst 2, 1) := by decide +kernel
theorem dX8_price_2 : decode cX8_price 2 = .ok (.invokestatic 115, 3) := by decide +kernel
theorem dX8_price_5 : decode cX8_price 5 = .ok (.ifCond .ne 5, 3) := by decide +kernel
theorem dX8_price_8 : decode cX8_price 8 = .ok (.iconst (-1), 1) := by decide +kernel
theorem dX8_price_9 : decode cX8_price 9 = .ok (.ireturn, 1) := by decide +kernel
theorem dX8_price_10 : decode cX8_price 10 = .ok (.aload_n 0, 1) := by decide +kernel
theorem dX8_price_11 : decode cX8_price 11 = .ok (.getfield 27, 3) := by decide +kernel
theorem dX8_price_14 : decode cX8_price 14 = .ok (.invokevirtual 181, 3) := by decide +kernel
theorem dX8_price_17 : decode cX8_price 17 = .ok (.iconst 1, 1) := by decide +kernel
theorem dX8_price_18 : decode cX8_price 18 = .ok (.istore_n 2, 1) := by decide +kernel
theorem dX8_price_19 : decode cX8_price 19 = .ok (.iconst 0, 1) := by decide +kernel
theorem dX8_price_20 : decode cX8_price 20 = .ok (.istore_n 3, 1) := by decide +kernel
theorem dX8_price_21 : decode cX8_price 21 = .ok (.iconst 1, 1) := by decide +kernel
theorem dX8_price_22 : decode cX8_price 22 = .ok (.istore 4, 2) := by decide +kernel
theorem dX8_price_24 : decode cX8_price 24 = .ok (.iload 4, 2) := by decide +kernel
theorem dX8_price_26 : decode cX8_price 26 = .ok (.bipush 99, 2) := by decide +kernel
theorem dX8_price_28 : decode cX8_price 28 = .ok (.if_icmp .gt 38, 3) := by decide +kernel
theorem dX8_price_31 : decode cX8_price 31 = .ok (.iload 4, 2) := by decide +kernel
theorem dX8_price_33 : decode cX8_price 33 = .ok (.aload_n 0, 1) := by decide +kernel
theorem dX8_price_34 : decode cX8_price 34 = .ok (.getfield 27, 3) := by decide +kernel
theorem dX8_price_37 : decode cX8_price 37 = .ok (.iload 4, 2) := by decide +kernel
theorem dX8_price_39 : decode cX8_price 39 = .ok (.invokevirtual 184, 3) := by decide +kernel
theorem dX8_price_42 : decode cX8_price 42 = .ok (.invokestatic 152, 3) := by decide +kernel
theorem dX8_price_45 : decode cX8_price 45 = .ok (.imul, 1) := by decide +kernel
theorem dX8_price_46 : decode cX8_price 46 = .ok (.istore 5, 2) := by decide +kernel
theorem dX8_price_48 : decode cX8_price 48 = .ok (.iload 5, 2) := by decide +kernel
theorem dX8_price_50 : decode cX8_price 50 = .ok (.iload_n 3, 1) := by decide +kernel
theorem dX8_price_51 : decode cX8_price 51 = .ok (.if_icmp .le 9, 3) := by decide +kernel
theorem dX8_price_54 : decode cX8_price 54 = .ok (.iload 5, 2) := by decide +kernel
theorem dX8_price_56 : decode cX8_price 56 = .ok (.istore_n 3, 1) := by decide +kernel
theorem dX8_price_57 : decode cX8_price 57 = .ok (.iload 4, 2) := by decide +kernel
theorem dX8_price_59 : decode cX8_price 59 = .ok (.istore_n 2, 1) := by decide +kernel
theorem dX8_price_60 : decode cX8_price 60 = .ok (.iinc 4 1, 3) := by decide +kernel
theorem dX8_price_63 : decode cX8_price 63 = .ok (.goto (-39), 3) := by decide +kernel
theorem dX8_price_66 : decode cX8_price 66 = .ok (.iload_n 1, 1) := by decide +kernel
theorem dX8_price_67 : decode cX8_price 67 = .ok (.ifCond .ne 7, 3) := by decide +kernel
theorem dX8_price_70 : decode cX8_price 70 = .ok (.iload_n 2, 1) := by decide +kernel
theorem dX8_price_71 : decode cX8_price 71 = .ok (.goto 4, 3) := by decide +kernel
theorem dX8_price_74 : decode cX8_price 74 = .ok (.iload_n 3, 1) := by decide +kernel
theorem dX8_price_75 : decode cX8_price 75 = .ok (.ireturn, 1) := by decide +kernel
theorem dX8_slips_0 : decode cX8_slips 0 = .ok (.iload_n 2, 1) := by decide +kernel
theorem dX8_slips_1 : decode cX8_slips 1 = .ok (.iconst 2, 1) := by decide +kernel
theorem dX8_slips_2 : decode cX8_slips 2 = .ok (.invokestatic 115, 3) := by decide +kernel
theorem dX8_slips_5 : decode cX8_slips 5 = .ok (.ifCond .ne 5, 3) := by decide +kernel
theorem dX8_slips_8 : decode cX8_slips 8 = .ok (.iconst (-1), 1) := by decide +kernel
theorem dX8_slips_9 : decode cX8_slips 9 = .ok (.ireturn, 1) := by decide +kernel
theorem dX8_slips_10 : decode cX8_slips 10 = .ok (.aload_n 0, 1) := by decide +kernel
theorem dX8_slips_11 : decode cX8_slips 11 = .ok (.iload_n 1, 1) := by decide +kernel
theorem dX8_slips_12 : decode cX8_slips 12 = .ok (.invokevirtual 50, 3) := by decide +kernel
theorem dX8_slips_15 : decode cX8_slips 15 = .ok (.astore_n 3, 1) := by decide +kernel
theorem dX8_slips_16 : decode cX8_slips 16 = .ok (.aload_n 0, 1) := by decide +kernel
theorem dX8_slips_17 : decode cX8_slips 17 = .ok (.aload_n 3, 1) := by decide +kernel
theorem dX8_slips_18 : decode cX8_slips 18 = .ok (.invokevirtual 187, 3) := by decide +kernel
theorem dX8_slips_21 : decode cX8_slips 21 = .ok (.istore 4, 2) := by decide +kernel
theorem dX8_slips_23 : decode cX8_slips 23 = .ok (.aload_n 3, 1) := by decide +kernel
theorem dX8_slips_24 : decode cX8_slips 24 = .ok (.ifnull 8, 3) := by decide +kernel
theorem dX8_slips_27 : decode cX8_slips 27 = .ok (.iload 4, 2) := by decide +kernel
theorem dX8_slips_29 : decode cX8_slips 29 = .ok (.ifCond .eq 6, 3) := by decide +kernel
theorem dX8_slips_32 : decode cX8_slips 32 = .ok (.iload 4, 2) := by decide +kernel
theorem dX8_slips_34 : decode cX8_slips 34 = .ok (.ireturn, 1) := by decide +kernel
theorem dX8_slips_35 : decode cX8_slips 35 = .ok (.iload_n 2, 1) := by decide +kernel
theorem dX8_slips_36 : decode cX8_slips 36 = .ok (.ifCond .ne 10, 3) := by decide +kernel
theorem dX8_slips_39 : decode cX8_slips 39 = .ok (.aload_n 3, 1) := by decide +kernel
theorem dX8_slips_40 : decode cX8_slips 40 = .ok (.invokestatic 190, 3) := by decide +kernel
theorem dX8_slips_43 : decode cX8_slips 43 = .ok (.goto 11, 3) := by decide +kernel
theorem dX8_slips_46 : decode cX8_slips 46 = .ok (.aload_n 3, 1) := by decide +kernel
theorem dX8_slips_47 : decode cX8_slips 47 = .ok (.aload_n 0, 1) := by decide +kernel
theorem dX8_slips_48 : decode cX8_slips 48 = .ok (.getfield 27, 3) := by decide +kernel
theorem dX8_slips_51 : decode cX8_slips 51 = .ok (.invokestatic 195, 3) := by decide +kernel
theorem dX8_slips_54 : decode cX8_slips 54 = .ok (.ireturn, 1) := by decide +kernel
theorem dX8_trueDay_0 : decode cX8_trueDay 0 = .ok (.aload_n 0, 1) := by decide +kernel
theorem dX8_trueDay_1 : decode cX8_trueDay 1 = .ok (.getfield 27, 3) := by decide +kernel
theorem dX8_trueDay_4 : decode cX8_trueDay 4 = .ok (.iload_n 2, 1) := by decide +kernel
theorem dX8_trueDay_5 : decode cX8_trueDay 5 = .ok (.invokevirtual 78, 3) := by decide +kernel
theorem dX8_trueDay_8 : decode cX8_trueDay 8 = .ok (.ifnonnull 5, 3) := by decide +kernel
theorem dX8_trueDay_11 : decode cX8_trueDay 11 = .ok (.iconst (-1), 1) := by decide +kernel
theorem dX8_trueDay_12 : decode cX8_trueDay 12 = .ok (.ireturn, 1) := by decide +kernel
theorem dX8_trueDay_13 : decode cX8_trueDay 13 = .ok (.aload_n 0, 1) := by decide +kernel
theorem dX8_trueDay_14 : decode cX8_trueDay 14 = .ok (.iload_n 1, 1) := by decide +kernel
theorem dX8_trueDay_15 : decode cX8_trueDay 15 = .ok (.invokevirtual 50, 3) := by decide +kernel
theorem dX8_trueDay_18 : decode cX8_trueDay 18 = .ok (.astore_n 3, 1) := by decide +kernel
theorem dX8_trueDay_19 : decode cX8_trueDay 19 = .ok (.aload_n 0, 1) := by decide +kernel
theorem dX8_trueDay_20 : decode cX8_trueDay 20 = .ok (.aload_n 3, 1) := by decide +kernel
theorem dX8_trueDay_21 : decode cX8_trueDay 21 = .ok (.invokevirtual 187, 3) := by decide +kernel
theorem dX8_trueDay_24 : decode cX8_trueDay 24 = .ok (.istore 4, 2) := by decide +kernel
theorem dX8_trueDay_26 : decode cX8_trueDay 26 = .ok (.aload_n 3, 1) := by decide +kernel
theorem dX8_trueDay_27 : decode cX8_trueDay 27 = .ok (.ifnull 8, 3) := by decide +kernel
theorem dX8_trueDay_30 : decode cX8_trueDay 30 = .ok (.iload 4, 2) := by decide +kernel
theorem dX8_trueDay_32 : decode cX8_trueDay 32 = .ok (.ifCond .eq 6, 3) := by decide +kernel
theorem dX8_trueDay_35 : decode cX8_trueDay 35 = .ok (.iload 4, 2) := by decide +kernel
theorem dX8_trueDay_37 : decode cX8_trueDay 37 = .ok (.ireturn, 1) := by decide +kernel
theorem dX8_trueDay_38 : decode cX8_trueDay 38 = .ok (.aload_n 3, 1) := by decide +kernel
theorem dX8_trueDay_39 : decode cX8_trueDay 39 = .ok (.iload_n 2, 1) := by decide +kernel
theorem dX8_trueDay_40 : decode cX8_trueDay 40 = .ok (.invokestatic 198, 3) := by decide +kernel
theorem dX8_trueDay_43 : decode cX8_trueDay 43 = .ok (.ireturn, 1) := by decide +kernel
theorem dX8_mayBe_0 : decode cX8_mayBe 0 = .ok (.aload_n 0, 1) := by decide +kernel
theorem dX8_mayBe_1 : decode cX8_mayBe 1 = .ok (.getfield 27, 3) := by decide +kernel
theorem dX8_mayBe_4 : decode cX8_mayBe 4 = .ok (.iload_n 1, 1) := by decide +kernel
theorem dX8_mayBe_5 : decode cX8_mayBe 5 = .ok (.invokevirtual 78, 3) := by decide +kernel
theorem dX8_mayBe_8 : decode cX8_mayBe 8 = .ok (.astore_n 3, 1) := by decide +kernel
theorem dX8_mayBe_9 : decode cX8_mayBe 9 = .ok (.aload_n 3, 1) := by decide +kernel
theorem dX8_mayBe_10 : decode cX8_mayBe 10 = .ok (.ifnull 11, 3) := by decide +kernel
theorem dX8_mayBe_13 : decode cX8_mayBe 13 = .ok (.iload_n 2, 1) := by decide +kernel
theorem dX8_mayBe_14 : decode cX8_mayBe 14 = .ok (.iconst 2, 1) := by decide +kernel
theorem dX8_mayBe_15 : decode cX8_mayBe 15 = .ok (.invokestatic 115, 3) := by decide +kernel
theorem dX8_mayBe_18 : decode cX8_mayBe 18 = .ok (.ifCond .ne 5, 3) := by decide +kernel
theorem dX8_mayBe_21 : decode cX8_mayBe 21 = .ok (.iconst (-1), 1) := by decide +kernel
theorem dX8_mayBe_22 : decode cX8_mayBe 22 = .ok (.ireturn, 1) := by decide +kernel
theorem dX8_mayBe_23 : decode cX8_mayBe 23 = .ok (.aload_n 3, 1) := by decide +kernel
theorem dX8_mayBe_24 : decode cX8_mayBe 24 = .ok (.aload_n 0, 1) := by decide +kernel
theorem dX8_mayBe_25 : decode cX8_mayBe 25 = .ok (.getfield 27, 3) := by decide +kernel
theorem dX8_mayBe_28 : decode cX8_mayBe 28 = .ok (.getfield 134, 3) := by decide +kernel
theorem dX8_mayBe_31 : decode cX8_mayBe 31 = .ok (.invokevirtual 202, 3) := by decide +kernel
theorem dX8_mayBe_34 : decode cX8_mayBe 34 = .ok (.istore 4, 2) := by decide +kernel
theorem dX8_mayBe_36 : decode cX8_mayBe 36 = .ok (.iconst 0, 1) := by decide +kernel
theorem dX8_mayBe_37 : decode cX8_mayBe 37 = .ok (.istore 5, 2) := by decide +kernel
theorem dX8_mayBe_39 : decode cX8_mayBe 39 = .ok (.bipush (-4), 2) := by decide +kernel
theorem dX8_mayBe_41 : decode cX8_mayBe 41 = .ok (.istore 6, 2) := by decide +kernel
theorem dX8_mayBe_43 : decode cX8_mayBe 43 = .ok (.aload_n 0, 1) := by decide +kernel
theorem dX8_mayBe_44 : decode cX8_mayBe 44 = .ok (.getfield 27, 3) := by decide +kernel
theorem dX8_mayBe_47 : decode cX8_mayBe 47 = .ok (.invokevirtual 205, 3) := by decide +kernel
theorem dX8_mayBe_50 : decode cX8_mayBe 50 = .ok (.istore 7, 2) := by decide +kernel
theorem dX8_mayBe_52 : decode cX8_mayBe 52 = .ok (.iload 7, 2) := by decide +kernel
theorem dX8_mayBe_54 : decode cX8_mayBe 54 = .ok (.ifCond .lt 35, 3) := by decide +kernel
theorem dX8_mayBe_57 : decode cX8_mayBe 57 = .ok (.aload_n 3, 1) := by decide +kernel
theorem dX8_mayBe_58 : decode cX8_mayBe 58 = .ok (.aload_n 0, 1) := by decide +kernel
theorem dX8_mayBe_59 : decode cX8_mayBe 59 = .ok (.getfield 27, 3) := by decide +kernel
theorem dX8_mayBe_62 : decode cX8_mayBe 62 = .ok (.getfield 134, 3) := by decide +kernel
theorem dX8_mayBe_65 : decode cX8_mayBe 65 = .ok (.iload 7, 2) := by decide +kernel
theorem dX8_mayBe_67 : decode cX8_mayBe 67 = .ok (.isub, 1) := by decide +kernel
theorem dX8_mayBe_68 : decode cX8_mayBe 68 = .ok (.invokevirtual 208, 3) := by decide +kernel
theorem dX8_mayBe_71 : decode cX8_mayBe 71 = .ok (.iload 4, 2) := by decide +kernel
theorem dX8_mayBe_73 : decode cX8_mayBe 73 = .ok (.if_icmp .ne 10, 3) := by decide +kernel
theorem dX8_mayBe_76 : decode cX8_mayBe 76 = .ok (.iinc 5 1, 3) := by decide +kernel
theorem dX8_mayBe_79 : decode cX8_mayBe 79 = .ok (.iload 7, 2) := by decide +kernel
theorem dX8_mayBe_81 : decode cX8_mayBe 81 = .ok (.istore 6, 2) := by decide +kernel
theorem dX8_mayBe_83 : decode cX8_mayBe 83 = .ok (.iinc 7 (-1), 3) := by decide +kernel
theorem dX8_mayBe_86 : decode cX8_mayBe 86 = .ok (.goto (-34), 3) := by decide +kernel
theorem dX8_mayBe_89 : decode cX8_mayBe 89 = .ok (.iload_n 2, 1) := by decide +kernel
theorem dX8_mayBe_90 : decode cX8_mayBe 90 = .ok (.ifCond .ne 8, 3) := by decide +kernel
theorem dX8_mayBe_93 : decode cX8_mayBe 93 = .ok (.iload 5, 2) := by decide +kernel
theorem dX8_mayBe_95 : decode cX8_mayBe 95 = .ok (.goto 5, 3) := by decide +kernel
theorem dX8_mayBe_98 : decode cX8_mayBe 98 = .ok (.iload 6, 2) := by decide +kernel
theorem dX8_mayBe_100 : decode cX8_mayBe 100 = .ok (.ireturn, 1) := by decide +kernel
theorem dX8_law_0 : decode cX8_law 0 = .ok (.iload_n 3, 1) := by decide +kernel
theorem dX8_law_1 : decode cX8_law 1 = .ok (.iconst 2, 1) := by decide +kernel
theorem dX8_law_2 : decode cX8_law 2 = .ok (.invokestatic 115, 3) := by decide +kernel
theorem dX8_law_5 : decode cX8_law 5 = .ok (.ifCond .eq 21, 3) := by decide +kernel
theorem dX8_law_8 : decode cX8_law 8 = .ok (.iload_n 2, 1) := by decide +kernel
theorem dX8_law_9 : decode cX8_law 9 = .ok (.iload_n 3, 1) := by decide +kernel
theorem dX8_law_10 : decode cX8_law 10 = .ok (.ifCond .ne 8, 3) := by decide +kernel
theorem dX8_law_13 : decode cX8_law 13 = .ok (.bipush 10, 2) := by decide +kernel
theorem dX8_law_15 : decode cX8_law 15 = .ok (.goto 5, 3) := by decide +kernel
theorem dX8_law_18 : decode cX8_law 18 = .ok (.bipush 8, 2) := by decide +kernel
theorem dX8_law_20 : decode cX8_law 20 = .ok (.invokestatic 115, 3) := by decide +kernel
theorem dX8_law_23 : decode cX8_law 23 = .ok (.ifCond .ne 5, 3) := by decide +kernel
theorem dX8_law_26 : decode cX8_law 26 = .ok (.iconst (-1), 1) := by decide +kernel
theorem dX8_law_27 : decode cX8_law 27 = .ok (.ireturn, 1) := by decide +kernel
theorem dX8_law_28 : decode cX8_law 28 = .ok (.aload_n 0, 1) := by decide +kernel
theorem dX8_law_29 : decode cX8_law 29 = .ok (.iload_n 1, 1) := by decide +kernel
theorem dX8_law_30 : decode cX8_law 30 = .ok (.invokevirtual 50, 3) := by decide +kernel
theorem dX8_law_33 : decode cX8_law 33 = .ok (.astore 4, 2) := by decide +kernel
theorem dX8_law_35 : decode cX8_law 35 = .ok (.aload 4, 2) := by decide +kernel
theorem dX8_law_37 : decode cX8_law 37 = .ok (.invokestatic 54, 3) := by decide +kernel
theorem dX8_law_40 : decode cX8_law 40 = .ok (.istore 5, 2) := by decide +kernel
theorem dX8_law_42 : decode cX8_law 42 = .ok (.aload 4, 2) := by decide +kernel
theorem dX8_law_44 : decode cX8_law 44 = .ok (.ifnull 8, 3) := by decide +kernel
theorem dX8_law_47 : decode cX8_law 47 = .ok (.iload 5, 2) := by decide +kernel
theorem dX8_law_49 : decode cX8_law 49 = .ok (.ifCond .eq 6, 3) := by decide +kernel
theorem dX8_law_52 : decode cX8_law 52 = .ok (.iload 5, 2) := by decide +kernel
theorem dX8_law_54 : decode cX8_law 54 = .ok (.ireturn, 1) := by decide +kernel
theorem dX8_law_55 : decode cX8_law 55 = .ok (.iconst 0, 1) := by decide +kernel
theorem dX8_law_56 : decode cX8_law 56 = .ok (.istore 6, 2) := by decide +kernel
theorem dX8_law_58 : decode cX8_law 58 = .ok (.iload_n 3, 1) := by decide +kernel
theorem dX8_law_59 : decode cX8_law 59 = .ok (.ifCond .ne 8, 3) := by decide +kernel
theorem dX8_law_62 : decode cX8_law 62 = .ok (.bipush 8, 2) := by decide +kernel
theorem dX8_law_64 : decode cX8_law 64 = .ok (.goto 5, 3) := by decide +kernel
theorem dX8_law_67 : decode cX8_law 67 = .ok (.bipush 10, 2) := by decide +kernel
theorem dX8_law_69 : decode cX8_law 69 = .ok (.istore 7, 2) := by decide +kernel
theorem dX8_law_71 : decode cX8_law 71 = .ok (.iconst 0, 1) := by decide +kernel
theorem dX8_law_72 : decode cX8_law 72 = .ok (.istore 8, 2) := by decide +kernel
theorem dX8_law_74 : decode cX8_law 74 = .ok (.iload 8, 2) := by decide +kernel
theorem dX8_law_76 : decode cX8_law 76 = .ok (.iload 7, 2) := by decide +kernel
theorem dX8_law_78 : decode cX8_law 78 = .ok (.if_icmp .ge 49, 3) := by decide +kernel
theorem dX8_law_81 : decode cX8_law 81 = .ok (.iload_n 3, 1) := by decide +kernel
theorem dX8_law_82 : decode cX8_law 82 = .ok (.ifCond .ne 12, 3) := by decide +kernel
theorem dX8_law_85 : decode cX8_law 85 = .ok (.iload 8, 2) := by decide +kernel
theorem dX8_law_87 : decode cX8_law 87 = .ok (.iload_n 2, 1) := by decide +kernel
theorem dX8_law_88 : decode cX8_law 88 = .ok (.invokestatic 211, 3) := by decide +kernel
theorem dX8_law_91 : decode cX8_law 91 = .ok (.goto 9, 3) := by decide +kernel
theorem dX8_law_94 : decode cX8_law 94 = .ok (.iload_n 2, 1) := by decide +kernel
theorem dX8_law_95 : decode cX8_law 95 = .ok (.iload 8, 2) := by decide +kernel
theorem dX8_law_97 : decode cX8_law 97 = .ok (.invokestatic 211, 3) := by decide +kernel
theorem dX8_law_100 : decode cX8_law 100 = .ok (.istore 9, 2) := by decide +kernel
theorem dX8_law_102 : decode cX8_law 102 = .ok (.aload 4, 2) := by decide +kernel
theorem dX8_law_104 : decode cX8_law 104 = .ok (.iload 9, 2) := by decide +kernel
theorem dX8_law_106 : decode cX8_law 106 = .ok (.invokevirtual 215, 3) := by decide +kernel
theorem dX8_law_109 : decode cX8_law 109 = .ok (.ifCond .eq 12, 3) := by decide +kernel
theorem dX8_law_112 : decode cX8_law 112 = .ok (.iload 6, 2) := by decide +kernel
theorem dX8_law_114 : decode cX8_law 114 = .ok (.iconst 1, 1) := by decide +kernel
theorem dX8_law_115 : decode cX8_law 115 = .ok (.iload 8, 2) := by decide +kernel
theorem dX8_law_117 : decode cX8_law 117 = .ok (.ishl, 1) := by decide +kernel
theorem dX8_law_118 : decode cX8_law 118 = .ok (.ior, 1) := by decide +kernel
theorem dX8_law_119 : decode cX8_law 119 = .ok (.istore 6, 2) := by decide +kernel
theorem dX8_law_121 : decode cX8_law 121 = .ok (.iinc 8 1, 3) := by decide +kernel
theorem dX8_law_124 : decode cX8_law 124 = .ok (.goto (-50), 3) := by decide +kernel
theorem dX8_law_127 : decode cX8_law 127 = .ok (.iload 6, 2) := by decide +kernel
theorem dX8_law_129 : decode cX8_law 129 = .ok (.ireturn, 1) := by decide +kernel
theorem dX8_leastInIt_0 : decode cX8_leastInIt 0 = .ok (.iload_n 1, 1) := by decide +kernel
theorem dX8_leastInIt_1 : decode cX8_leastInIt 1 = .ok (.bipush 10, 2) := by decide +kernel
theorem dX8_leastInIt_3 : decode cX8_leastInIt 3 = .ok (.invokestatic 111, 3) := by decide +kernel
theorem dX8_leastInIt_6 : decode cX8_leastInIt 6 = .ok (.ifCond .eq 11, 3) := by decide +kernel
theorem dX8_leastInIt_9 : decode cX8_leastInIt 9 = .ok (.iload_n 2, 1) := by decide +kernel
theorem dX8_leastInIt_10 : decode cX8_leastInIt 10 = .ok (.iconst 2, 1) := by decide +kernel
theorem dX8_leastInIt_11 : decode cX8_leastInIt 11 = .ok (.invokestatic 115, 3) := by decide +kernel
theorem dX8_leastInIt_14 : decode cX8_leastInIt 14 = .ok (.ifCond .ne 5, 3) := by decide +kernel
theorem dX8_leastInIt_17 : decode cX8_leastInIt 17 = .ok (.iconst (-1), 1) := by decide +kernel
theorem dX8_leastInIt_18 : decode cX8_leastInIt 18 = .ok (.ireturn, 1) := by decide +kernel
theorem dX8_leastInIt_19 : decode cX8_leastInIt 19 = .ok (.iconst 0, 1) := by decide +kernel
theorem dX8_leastInIt_20 : decode cX8_leastInIt 20 = .ok (.istore_n 3, 1) := by decide +kernel
theorem dX8_leastInIt_21 : decode cX8_leastInIt 21 = .ok (.iconst 0, 1) := by decide +kernel
theorem dX8_leastInIt_22 : decode cX8_leastInIt 22 = .ok (.istore 4, 2) := by decide +kernel
theorem dX8_leastInIt_24 : decode cX8_leastInIt 24 = .ok (.iload 4, 2) := by decide +kernel
theorem dX8_leastInIt_26 : decode cX8_leastInIt 26 = .ok (.iload_n 1, 1) := by decide +kernel
theorem dX8_leastInIt_27 : decode cX8_leastInIt 27 = .ok (.if_icmp .ge 20, 3) := by decide +kernel
theorem dX8_leastInIt_30 : decode cX8_leastInIt 30 = .ok (.iload_n 3, 1) := by decide +kernel
theorem dX8_leastInIt_31 : decode cX8_leastInIt 31 = .ok (.aload_n 0, 1) := by decide +kernel
theorem dX8_leastInIt_32 : decode cX8_leastInIt 32 = .ok (.getfield 27, 3) := by decide +kernel
theorem dX8_leastInIt_35 : decode cX8_leastInIt 35 = .ok (.iload_n 3, 1) := by decide +kernel
theorem dX8_leastInIt_36 : decode cX8_leastInIt 36 = .ok (.invokevirtual 219, 3) := by decide +kernel
theorem dX8_leastInIt_39 : decode cX8_leastInIt 39 = .ok (.ior, 1) := by decide +kernel
theorem dX8_leastInIt_40 : decode cX8_leastInIt 40 = .ok (.istore_n 3, 1) := by decide +kernel
theorem dX8_leastInIt_41 : decode cX8_leastInIt 41 = .ok (.iinc 4 1, 3) := by decide +kernel
theorem dX8_leastInIt_44 : decode cX8_leastInIt 44 = .ok (.goto (-20), 3) := by decide +kernel
theorem dX8_leastInIt_47 : decode cX8_leastInIt 47 = .ok (.iload_n 2, 1) := by decide +kernel
theorem dX8_leastInIt_48 : decode cX8_leastInIt 48 = .ok (.ifCond .ne 7, 3) := by decide +kernel
theorem dX8_leastInIt_51 : decode cX8_leastInIt 51 = .ok (.iload_n 3, 1) := by decide +kernel
theorem dX8_leastInIt_52 : decode cX8_leastInIt 52 = .ok (.goto 11, 3) := by decide +kernel
theorem dX8_leastInIt_55 : decode cX8_leastInIt 55 = .ok (.aload_n 0, 1) := by decide +kernel
theorem dX8_leastInIt_56 : decode cX8_leastInIt 56 = .ok (.getfield 27, 3) := by decide +kernel
theorem dX8_leastInIt_59 : decode cX8_leastInIt 59 = .ok (.iload_n 3, 1) := by decide +kernel
theorem dX8_leastInIt_60 : decode cX8_leastInIt 60 = .ok (.invokevirtual 222, 3) := by decide +kernel
theorem dX8_leastInIt_63 : decode cX8_leastInIt 63 = .ok (.ireturn, 1) := by decide +kernel
theorem dX8_robin_0 : decode cX8_robin 0 = .ok (.iload_n 1, 1) := by decide +kernel
theorem dX8_robin_1 : decode cX8_robin 1 = .ok (.iconst 5, 1) := by decide +kernel
theorem dX8_robin_2 : decode cX8_robin 2 = .ok (.invokestatic 115, 3) := by decide +kernel
theorem dX8_robin_5 : decode cX8_robin 5 = .ok (.ifCond .ne 5, 3) := by decide +kernel
theorem dX8_robin_8 : decode cX8_robin 8 = .ok (.iconst (-1), 1) := by decide +kernel
theorem dX8_robin_9 : decode cX8_robin 9 = .ok (.ireturn, 1) := by decide +kernel
theorem dX8_robin_10 : decode cX8_robin 10 = .ok (.bipush (-4), 2) := by decide +kernel
theorem dX8_robin_12 : decode cX8_robin 12 = .ok (.istore_n 2, 1) := by decide +kernel
theorem dX8_robin_13 : decode cX8_robin 13 = .ok (.iconst 0, 1) := by decide +kernel
theorem dX8_robin_14 : decode cX8_robin 14 = .ok (.istore_n 3, 1) := by decide +kernel
theorem dX8_robin_15 : decode cX8_robin 15 = .ok (.iconst 0, 1) := by decide +kernel
theorem dX8_robin_16 : decode cX8_robin 16 = .ok (.istore 4, 2) := by decide +kernel
theorem dX8_robin_18 : decode cX8_robin 18 = .ok (.iload 4, 2) := by decide +kernel
theorem dX8_robin_20 : decode cX8_robin 20 = .ok (.aload_n 0, 1) := by decide +kernel
theorem dX8_robin_21 : decode cX8_robin 21 = .ok (.getfield 27, 3) := by decide +kernel
theorem dX8_robin_24 : decode cX8_robin 24 = .ok (.getfield 127, 3) := by decide +kernel
theorem dX8_robin_27 : decode cX8_robin 27 = .ok (.if_icmp .ge 64, 3) := by decide +kernel
theorem dX8_robin_30 : decode cX8_robin 30 = .ok (.aload_n 0, 1) := by decide +kernel
theorem dX8_robin_31 : decode cX8_robin 31 = .ok (.getfield 27, 3) := by decide +kernel
theorem dX8_robin_34 : decode cX8_robin 34 = .ok (.iload 4, 2) := by decide +kernel
theorem dX8_robin_36 : decode cX8_robin 36 = .ok (.invokevirtual 225, 3) := by decide +kernel
theorem dX8_robin_39 : decode cX8_robin 39 = .ok (.astore 5, 2) := by decide +kernel
theorem dX8_robin_41 : decode cX8_robin 41 = .ok (.aload 5, 2) := by decide +kernel
theorem dX8_robin_43 : decode cX8_robin 43 = .ok (.ifnull 27, 3) := by decide +kernel
theorem dX8_robin_46 : decode cX8_robin 46 = .ok (.aload 5, 2) := by decide +kernel
theorem dX8_robin_48 : decode cX8_robin 48 = .ok (.getfield 91, 3) := by decide +kernel
theorem dX8_robin_51 : decode cX8_robin 51 = .ok (.iload_n 1, 1) := by decide +kernel
theorem dX8_robin_52 : decode cX8_robin 52 = .ok (.if_icmp .ne 18, 3) := by decide +kernel
theorem dX8_robin_55 : decode cX8_robin 55 = .ok (.aload 5, 2) := by decide +kernel
theorem dX8_robin_57 : decode cX8_robin 57 = .ok (.aload_n 0, 1) := by decide +kernel
theorem dX8_robin_58 : decode cX8_robin 58 = .ok (.getfield 27, 3) := by decide +kernel
theorem dX8_robin_61 : decode cX8_robin 61 = .ok (.getfield 134, 3) := by decide +kernel
theorem dX8_robin_64 : decode cX8_robin 64 = .ok (.invokevirtual 228, 3) := by decide +kernel
theorem dX8_robin_67 : decode cX8_robin 67 = .ok (.goto 4, 3) := by decide +kernel
theorem dX8_robin_70 : decode cX8_robin 70 = .ok (.iconst 0, 1) := by decide +kernel
theorem dX8_robin_71 : decode cX8_robin 71 = .ok (.istore 6, 2) := by decide +kernel
theorem dX8_robin_73 : decode cX8_robin 73 = .ok (.iload 6, 2) := by decide +kernel
theorem dX8_robin_75 : decode cX8_robin 75 = .ok (.iload_n 3, 1) := by decide +kernel
theorem dX8_robin_76 : decode cX8_robin 76 = .ok (.if_icmp .le 9, 3) := by decide +kernel
theorem dX8_robin_79 : decode cX8_robin 79 = .ok (.iload 6, 2) := by decide +kernel
theorem dX8_robin_81 : decode cX8_robin 81 = .ok (.istore_n 3, 1) := by decide +kernel
theorem dX8_robin_82 : decode cX8_robin 82 = .ok (.iload 4, 2) := by decide +kernel
theorem dX8_robin_84 : decode cX8_robin 84 = .ok (.istore_n 2, 1) := by decide +kernel
theorem dX8_robin_85 : decode cX8_robin 85 = .ok (.iinc 4 1, 3) := by decide +kernel
theorem dX8_robin_88 : decode cX8_robin 88 = .ok (.goto (-70), 3) := by decide +kernel
theorem dX8_robin_91 : decode cX8_robin 91 = .ok (.iload_n 2, 1) := by decide +kernel
theorem dX8_robin_92 : decode cX8_robin 92 = .ok (.ireturn, 1) := by decide +kernel
theorem dX8_two_0 : decode cX8_two 0 = .ok (.iload_n 1, 1) := by decide +kernel
theorem dX8_two_1 : decode cX8_two 1 = .ok (.bipush 80, 2) := by decide +kernel
theorem dX8_two_3 : decode cX8_two 3 = .ok (.invokestatic 115, 3) := by decide +kernel
theorem dX8_two_6 : decode cX8_two 6 = .ok (.ifCond .eq 12, 3) := by decide +kernel
theorem dX8_two_9 : decode cX8_two 9 = .ok (.iload_n 2, 1) := by decide +kernel
theorem dX8_two_10 : decode cX8_two 10 = .ok (.bipush 80, 2) := by decide +kernel
theorem dX8_two_12 : decode cX8_two 12 = .ok (.invokestatic 115, 3) := by decide +kernel
theorem dX8_two_15 : decode cX8_two 15 = .ok (.ifCond .ne 5, 3) := by decide +kernel
theorem dX8_two_18 : decode cX8_two 18 = .ok (.iconst (-1), 1) := by decide +kernel
theorem dX8_two_19 : decode cX8_two 19 = .ok (.ireturn, 1) := by decide +kernel
theorem dX8_two_20 : decode cX8_two 20 = .ok (.iload_n 1, 1) := by decide +kernel
theorem dX8_two_21 : decode cX8_two 21 = .ok (.bipush 10, 2) := by decide +kernel
theorem dX8_two_23 : decode cX8_two 23 = .ok (.idiv, 1) := by decide +kernel
theorem dX8_two_24 : decode cX8_two 24 = .ok (.iload_n 1, 1) := by decide +kernel
theorem dX8_two_25 : decode cX8_two 25 = .ok (.bipush 10, 2) := by decide +kernel
theorem dX8_two_27 : decode cX8_two 27 = .ok (.irem, 1) := by decide +kernel
theorem dX8_two_28 : decode cX8_two 28 = .ok (.invokestatic 231, 3) := by decide +kernel
theorem dX8_two_31 : decode cX8_two 31 = .ok (.istore_n 3, 1) := by decide +kernel
theorem dX8_two_32 : decode cX8_two 32 = .ok (.iload_n 2, 1) := by decide +kernel
theorem dX8_two_33 : decode cX8_two 33 = .ok (.bipush 10, 2) := by decide +kernel
theorem dX8_two_35 : decode cX8_two 35 = .ok (.idiv, 1) := by decide +kernel
theorem dX8_two_36 : decode cX8_two 36 = .ok (.iload_n 2, 1) := by decide +kernel
theorem dX8_two_37 : decode cX8_two 37 = .ok (.bipush 10, 2) := by decide +kernel
theorem dX8_two_39 : decode cX8_two 39 = .ok (.irem, 1) := by decide +kernel
theorem dX8_two_40 : decode cX8_two 40 = .ok (.invokestatic 231, 3) := by decide +kernel
theorem dX8_two_43 : decode cX8_two 43 = .ok (.istore 4, 2) := by decide +kernel
theorem dX8_two_45 : decode cX8_two 45 = .ok (.iconst 0, 1) := by decide +kernel
theorem dX8_two_46 : decode cX8_two 46 = .ok (.istore 5, 2) := by decide +kernel
theorem dX8_two_48 : decode cX8_two 48 = .ok (.iload 5, 2) := by decide +kernel
theorem dX8_two_50 : decode cX8_two 50 = .ok (.iconst 4, 1) := by decide +kernel
theorem dX8_two_51 : decode cX8_two 51 = .ok (.if_icmp .ge 53, 3) := by decide +kernel
theorem dX8_two_54 : decode cX8_two 54 = .ok (.iload 5, 2) := by decide +kernel
theorem dX8_two_56 : decode cX8_two 56 = .ok (.iconst 2, 1) := by decide +kernel
theorem dX8_two_57 : decode cX8_two 57 = .ok (.idiv, 1) := by decide +kernel
theorem dX8_two_58 : decode cX8_two 58 = .ok (.istore 6, 2) := by decide +kernel
theorem dX8_two_60 : decode cX8_two 60 = .ok (.iload 5, 2) := by decide +kernel
theorem dX8_two_62 : decode cX8_two 62 = .ok (.iconst 2, 1) := by decide +kernel
theorem dX8_two_63 : decode cX8_two 63 = .ok (.irem, 1) := by decide +kernel
theorem dX8_two_64 : decode cX8_two 64 = .ok (.istore 7, 2) := by decide +kernel
theorem dX8_two_66 : decode cX8_two 66 = .ok (.iload 6, 2) := by decide +kernel
theorem dX8_two_68 : decode cX8_two 68 = .ok (.iload 7, 2) := by decide +kernel
theorem dX8_two_70 : decode cX8_two 70 = .ok (.iload_n 3, 1) := by decide +kernel
theorem dX8_two_71 : decode cX8_two 71 = .ok (.invokestatic 233, 3) := by decide +kernel
theorem dX8_two_74 : decode cX8_two 74 = .ok (.ifCond .eq 24, 3) := by decide +kernel
theorem dX8_two_77 : decode cX8_two 77 = .ok (.iload 7, 2) := by decide +kernel
theorem dX8_two_79 : decode cX8_two 79 = .ok (.iload 6, 2) := by decide +kernel
theorem dX8_two_81 : decode cX8_two 81 = .ok (.iload 4, 2) := by decide +kernel
theorem dX8_two_83 : decode cX8_two 83 = .ok (.invokestatic 233, 3) := by decide +kernel
theorem dX8_two_86 : decode cX8_two 86 = .ok (.ifCond .eq 12, 3) := by decide +kernel
theorem dX8_two_89 : decode cX8_two 89 = .ok (.bipush 10, 2) := by decide +kernel
theorem dX8_two_91 : decode cX8_two 91 = .ok (.iload 6, 2) := by decide +kernel
theorem dX8_two_93 : decode cX8_two 93 = .ok (.imul, 1) := by decide +kernel
theorem dX8_two_94 : decode cX8_two 94 = .ok (.iload 7, 2) := by decide +kernel
theorem dX8_two_96 : decode cX8_two 96 = .ok (.iadd, 1) := by decide +kernel
theorem dX8_two_97 : decode cX8_two 97 = .ok (.ireturn, 1) := by decide +kernel
theorem dX8_two_98 : decode cX8_two 98 = .ok (.iinc 5 1, 3) := by decide +kernel
theorem dX8_two_101 : decode cX8_two 101 = .ok (.goto (-53), 3) := by decide +kernel
theorem dX8_two_104 : decode cX8_two 104 = .ok (.bipush (-4), 2) := by decide +kernel
theorem dX8_two_106 : decode cX8_two 106 = .ok (.ireturn, 1) := by decide +kernel
theorem dX8_chance_0 : decode cX8_chance 0 = .ok (.iload_n 2, 1) := by decide +kernel
theorem dX8_chance_1 : decode cX8_chance 1 = .ok (.iconst 2, 1) := by decide +kernel
theorem dX8_chance_2 : decode cX8_chance 2 = .ok (.if_icmp .lt 13, 3) := by decide +kernel
theorem dX8_chance_5 : decode cX8_chance 5 = .ok (.iload_n 2, 1) := by decide +kernel
theorem dX8_chance_6 : decode cX8_chance 6 = .ok (.bipush 20, 2) := by decide +kernel
theorem dX8_chance_8 : decode cX8_chance 8 = .ok (.if_icmp .gt 7, 3) := by decide +kernel
theorem dX8_chance_11 : decode cX8_chance 11 = .ok (.iconst 1, 1) := by decide +kernel
theorem dX8_chance_12 : decode cX8_chance 12 = .ok (.goto 4, 3) := by decide +kernel
theorem dX8_chance_15 : decode cX8_chance 15 = .ok (.iconst 0, 1) := by decide +kernel
theorem dX8_chance_16 : decode cX8_chance 16 = .ok (.istore 5, 2) := by decide +kernel
theorem dX8_chance_18 : decode cX8_chance 18 = .ok (.iload_n 1, 1) := by decide +kernel
theorem dX8_chance_19 : decode cX8_chance 19 = .ok (.bipush 8, 2) := by decide +kernel
theorem dX8_chance_21 : decode cX8_chance 21 = .ok (.invokestatic 111, 3) := by decide +kernel
theorem dX8_chance_24 : decode cX8_chance 24 = .ok (.ifCond .eq 26, 3) := by decide +kernel
theorem dX8_chance_27 : decode cX8_chance 27 = .ok (.iload 5, 2) := by decide +kernel
theorem dX8_chance_29 : decode cX8_chance 29 = .ok (.ifCond .eq 21, 3) := by decide +kernel
theorem dX8_chance_32 : decode cX8_chance 32 = .ok (.iload_n 3, 1) := by decide +kernel
theorem dX8_chance_33 : decode cX8_chance 33 = .ok (.bipush 8, 2) := by decide +kernel
theorem dX8_chance_35 : decode cX8_chance 35 = .ok (.invokestatic 111, 3) := by decide +kernel
theorem dX8_chance_38 : decode cX8_chance 38 = .ok (.ifCond .eq 12, 3) := by decide +kernel
theorem dX8_chance_41 : decode cX8_chance 41 = .ok (.iload 4, 2) := by decide +kernel
theorem dX8_chance_43 : decode cX8_chance 43 = .ok (.iconst 2, 1) := by decide +kernel
theorem dX8_chance_44 : decode cX8_chance 44 = .ok (.invokestatic 115, 3) := by decide +kernel
theorem dX8_chance_47 : decode cX8_chance 47 = .ok (.ifCond .ne 7, 3) := by decide +kernel
theorem dX8_chance_50 : decode cX8_chance 50 = .ok (.ldc2_w 237, 3) := by decide +kernel
theorem dX8_chance_53 : decode cX8_chance 53 = .ok (.lreturn, 1) := by decide +kernel
theorem dX8_chance_54 : decode cX8_chance 54 = .ok (.iload_n 1, 1) := by decide +kernel
theorem dX8_chance_55 : decode cX8_chance 55 = .ok (.iload_n 2, 1) := by decide +kernel
theorem dX8_chance_56 : decode cX8_chance 56 = .ok (.iload_n 3, 1) := by decide +kernel
theorem dX8_chance_57 : decode cX8_chance 57 = .ok (.invokestatic 239, 3) := by decide +kernel
theorem dX8_chance_60 : decode cX8_chance 60 = .ok (.iload_n 2, 1) := by decide +kernel
theorem dX8_chance_61 : decode cX8_chance 61 = .ok (.iload_n 1, 1) := by decide +kernel
theorem dX8_chance_62 : decode cX8_chance 62 = .ok (.invokestatic 245, 3) := by decide +kernel
theorem dX8_chance_65 : decode cX8_chance 65 = .ok (.iload 4, 2) := by decide +kernel
theorem dX8_chance_67 : decode cX8_chance 67 = .ok (.invokestatic 249, 3) := by decide +kernel
theorem dX8_chance_70 : decode cX8_chance 70 = .ok (.lreturn, 1) := by decide +kernel
theorem dX8_mean_0 : decode cX8_mean 0 = .ok (.iload_n 1, 1) := by decide +kernel
theorem dX8_mean_1 : decode cX8_mean 1 = .ok (.iconst 2, 1) := by decide +kernel
theorem dX8_mean_2 : decode cX8_mean 2 = .ok (.invokestatic 115, 3) := by decide +kernel
theorem dX8_mean_5 : decode cX8_mean 5 = .ok (.ifCond .ne 7, 3) := by decide +kernel
theorem dX8_mean_8 : decode cX8_mean 8 = .ok (.ldc2_w 237, 3) := by decide +kernel
theorem dX8_mean_11 : decode cX8_mean 11 = .ok (.lreturn, 1) := by decide +kernel
theorem dX8_mean_12 : decode cX8_mean 12 = .ok (.aload_n 0, 1) := by decide +kernel
theorem dX8_mean_13 : decode cX8_mean 13 = .ok (.getfield 27, 3) := by decide +kernel
theorem dX8_mean_16 : decode cX8_mean 16 = .ok (.iconst 0, 1) := by decide +kernel
theorem dX8_mean_17 : decode cX8_mean 17 = .ok (.invokevirtual 222, 3) := by decide +kernel
theorem dX8_mean_20 : decode cX8_mean 20 = .ok (.i2l, 1) := by decide +kernel
theorem dX8_mean_21 : decode cX8_mean 21 = .ok (.iconst 1, 1) := by decide +kernel
theorem dX8_mean_22 : decode cX8_mean 22 = .ok (.aload_n 0, 1) := by decide +kernel
theorem dX8_mean_23 : decode cX8_mean 23 = .ok (.getfield 27, 3) := by decide +kernel
theorem dX8_mean_26 : decode cX8_mean 26 = .ok (.invokevirtual 253, 3) := by decide +kernel
theorem dX8_mean_29 : decode cX8_mean 29 = .ok (.invokestatic 256, 3) := by decide +kernel
theorem dX8_mean_32 : decode cX8_mean 32 = .ok (.i2l, 1) := by decide +kernel
theorem dX8_mean_33 : decode cX8_mean 33 = .ok (.iload_n 1, 1) := by decide +kernel
theorem dX8_mean_34 : decode cX8_mean 34 = .ok (.invokestatic 249, 3) := by decide +kernel
theorem dX8_mean_37 : decode cX8_mean 37 = .ok (.lreturn, 1) := by decide +kernel
theorem dX8_gap_0 : decode cX8_gap 0 = .ok (.iload_n 1, 1) := by decide +kernel
theorem dX8_gap_1 : decode cX8_gap 1 = .ok (.iconst 2, 1) := by decide +kernel
theorem dX8_gap_2 : decode cX8_gap 2 = .ok (.invokestatic 115, 3) := by decide +kernel
theorem dX8_gap_5 : decode cX8_gap 5 = .ok (.ifCond .ne 5, 3) := by decide +kernel
theorem dX8_gap_8 : decode cX8_gap 8 = .ok (.iconst (-1), 1) := by decide +kernel
theorem dX8_gap_9 : decode cX8_gap 9 = .ok (.ireturn, 1) := by decide +kernel
theorem dX8_gap_10 : decode cX8_gap 10 = .ok (.aload_n 0, 1) := by decide +kernel
theorem dX8_gap_11 : decode cX8_gap 11 = .ok (.getfield 19, 3) := by decide +kernel
theorem dX8_gap_14 : decode cX8_gap 14 = .ok (.invokevirtual 157, 3) := by decide +kernel
theorem dX8_gap_17 : decode cX8_gap 17 = .ok (.iload_n 1, 1) := by decide +kernel
theorem dX8_gap_18 : decode cX8_gap 18 = .ok (.ifCond .ne 13, 3) := by decide +kernel
theorem dX8_gap_21 : decode cX8_gap 21 = .ok (.aload_n 0, 1) := by decide +kernel
theorem dX8_gap_22 : decode cX8_gap 22 = .ok (.getfield 19, 3) := by decide +kernel
theorem dX8_gap_25 : decode cX8_gap 25 = .ok (.invokevirtual 261, 3) := by decide +kernel
theorem dX8_gap_28 : decode cX8_gap 28 = .ok (.goto 10, 3) := by decide +kernel
theorem dX8_gap_31 : decode cX8_gap 31 = .ok (.aload_n 0, 1) := by decide +kernel
theorem dX8_gap_32 : decode cX8_gap 32 = .ok (.getfield 19, 3) := by decide +kernel
theorem dX8_gap_35 : decode cX8_gap 35 = .ok (.invokevirtual 264, 3) := by decide +kernel
theorem dX8_gap_38 : decode cX8_gap 38 = .ok (.ireturn, 1) := by decide +kernel
theorem dX8_quarrel_0 : decode cX8_quarrel 0 = .ok (.bipush (-4), 2) := by decide +kernel
theorem dX8_quarrel_2 : decode cX8_quarrel 2 = .ok (.istore_n 1, 1) := by decide +kernel
theorem dX8_quarrel_3 : decode cX8_quarrel 3 = .ok (.iconst 0, 1) := by decide +kernel
theorem dX8_quarrel_4 : decode cX8_quarrel 4 = .ok (.istore_n 2, 1) := by decide +kernel
theorem dX8_quarrel_5 : decode cX8_quarrel 5 = .ok (.iconst 0, 1) := by decide +kernel
theorem dX8_quarrel_6 : decode cX8_quarrel 6 = .ok (.istore_n 3, 1) := by decide +kernel
theorem dX8_quarrel_7 : decode cX8_quarrel 7 = .ok (.iload_n 3, 1) := by decide +kernel
theorem dX8_quarrel_8 : decode cX8_quarrel 8 = .ok (.iconst 5, 1) := by decide +kernel
theorem dX8_quarrel_9 : decode cX8_quarrel 9 = .ok (.if_icmp .ge 55, 3) := by decide +kernel
theorem dX8_quarrel_12 : decode cX8_quarrel 12 = .ok (.iload_n 3, 1) := by decide +kernel
theorem dX8_quarrel_13 : decode cX8_quarrel 13 = .ok (.iconst 1, 1) := by decide +kernel
theorem dX8_quarrel_14 : decode cX8_quarrel 14 = .ok (.iadd, 1) := by decide +kernel
theorem dX8_quarrel_15 : decode cX8_quarrel 15 = .ok (.istore 4, 2) := by decide +kernel
theorem dX8_quarrel_17 : decode cX8_quarrel 17 = .ok (.iload 4, 2) := by decide +kernel
theorem dX8_quarrel_19 : decode cX8_quarrel 19 = .ok (.iconst 5, 1) := by decide +kernel
theorem dX8_quarrel_20 : decode cX8_quarrel 20 = .ok (.if_icmp .ge 38, 3) := by decide +kernel
theorem dX8_quarrel_23 : decode cX8_quarrel 23 = .ok (.aload_n 0, 1) := by decide +kernel
theorem dX8_quarrel_24 : decode cX8_quarrel 24 = .ok (.getfield 27, 3) := by decide +kernel
theorem dX8_quarrel_27 : decode cX8_quarrel 27 = .ok (.iload_n 3, 1) := by decide +kernel
theorem dX8_quarrel_28 : decode cX8_quarrel 28 = .ok (.iload 4, 2) := by decide +kernel
theorem dX8_quarrel_30 : decode cX8_quarrel 30 = .ok (.invokevirtual 267, 3) := by decide +kernel
theorem dX8_quarrel_33 : decode cX8_quarrel 33 = .ok (.istore 5, 2) := by decide +kernel
theorem dX8_quarrel_35 : decode cX8_quarrel 35 = .ok (.iload 5, 2) := by decide +kernel
theorem dX8_quarrel_37 : decode cX8_quarrel 37 = .ok (.iload_n 2, 1) := by decide +kernel
theorem dX8_quarrel_38 : decode cX8_quarrel 38 = .ok (.if_icmp .le 14, 3) := by decide +kernel
theorem dX8_quarrel_41 : decode cX8_quarrel 41 = .ok (.iload 5, 2) := by decide +kernel
theorem dX8_quarrel_43 : decode cX8_quarrel 43 = .ok (.istore_n 2, 1) := by decide +kernel
theorem dX8_quarrel_44 : decode cX8_quarrel 44 = .ok (.bipush 10, 2) := by decide +kernel
theorem dX8_quarrel_46 : decode cX8_quarrel 46 = .ok (.iload_n 3, 1) := by decide +kernel
theorem dX8_quarrel_47 : decode cX8_quarrel 47 = .ok (.imul, 1) := by decide +kernel
theorem dX8_quarrel_48 : decode cX8_quarrel 48 = .ok (.iload 4, 2) := by decide +kernel
theorem dX8_quarrel_50 : decode cX8_quarrel 50 = .ok (.iadd, 1) := by decide +kernel
theorem dX8_quarrel_51 : decode cX8_quarrel 51 = .ok (.istore_n 1, 1) := by decide +kernel
theorem dX8_quarrel_52 : decode cX8_quarrel 52 = .ok (.iinc 4 1, 3) := by decide +kernel
theorem dX8_quarrel_55 : decode cX8_quarrel 55 = .ok (.goto (-38), 3) := by decide +kernel
theorem dX8_quarrel_58 : decode cX8_quarrel 58 = .ok (.iinc 3 1, 3) := by decide +kernel
theorem dX8_quarrel_61 : decode cX8_quarrel 61 = .ok (.goto (-54), 3) := by decide +kernel
theorem dX8_quarrel_64 : decode cX8_quarrel 64 = .ok (.iload_n 1, 1) := by decide +kernel
theorem dX8_quarrel_65 : decode cX8_quarrel 65 = .ok (.ireturn, 1) := by decide +kernel
theorem dX8_forged_0 : decode cX8_forged 0 = .ok (.aload_n 0, 1) := by decide +kernel
theorem dX8_forged_1 : decode cX8_forged 1 = .ok (.iload_n 1, 1) := by decide +kernel
theorem dX8_forged_2 : decode cX8_forged 2 = .ok (.invokevirtual 50, 3) := by decide +kernel
theorem dX8_forged_5 : decode cX8_forged 5 = .ok (.astore_n 2, 1) := by decide +kernel
theorem dX8_forged_6 : decode cX8_forged 6 = .ok (.aload_n 2, 1) := by decide +kernel
theorem dX8_forged_7 : decode cX8_forged 7 = .ok (.invokestatic 54, 3) := by decide +kernel
theorem dX8_forged_10 : decode cX8_forged 10 = .ok (.istore_n 3, 1) := by decide +kernel
theorem dX8_forged_11 : decode cX8_forged 11 = .ok (.aload_n 2, 1) := by decide +kernel
theorem dX8_forged_12 : decode cX8_forged 12 = .ok (.ifnull 7, 3) := by decide +kernel
theorem dX8_forged_15 : decode cX8_forged 15 = .ok (.iload_n 3, 1) := by decide +kernel
theorem dX8_forged_16 : decode cX8_forged 16 = .ok (.ifCond .eq 5, 3) := by decide +kernel
theorem dX8_forged_19 : decode cX8_forged 19 = .ok (.iload_n 3, 1) := by decide +kernel
theorem dX8_forged_20 : decode cX8_forged 20 = .ok (.ireturn, 1) := by decide +kernel
theorem dX8_forged_21 : decode cX8_forged 21 = .ok (.aload_n 0, 1) := by decide +kernel
theorem dX8_forged_22 : decode cX8_forged 22 = .ok (.getfield 19, 3) := by decide +kernel
theorem dX8_forged_25 : decode cX8_forged 25 = .ok (.invokevirtual 157, 3) := by decide +kernel
theorem dX8_forged_28 : decode cX8_forged 28 = .ok (.aload_n 0, 1) := by decide +kernel
theorem dX8_forged_29 : decode cX8_forged 29 = .ok (.getfield 19, 3) := by decide +kernel
theorem dX8_forged_32 : decode cX8_forged 32 = .ok (.aload_n 2, 1) := by decide +kernel
theorem dX8_forged_33 : decode cX8_forged 33 = .ok (.invokevirtual 270, 3) := by decide +kernel
theorem dX8_forged_36 : decode cX8_forged 36 = .ok (.ireturn, 1) := by decide +kernel
theorem dX8_judge_0 : decode cX8_judge 0 = .ok (.iload_n 2, 1) := by decide +kernel
theorem dX8_judge_1 : decode cX8_judge 1 = .ok (.iconst 5, 1) := by decide +kernel
theorem dX8_judge_2 : decode cX8_judge 2 = .ok (.invokestatic 115, 3) := by decide +kernel
theorem dX8_judge_5 : decode cX8_judge 5 = .ok (.ifCond .ne 5, 3) := by decide +kernel
theorem dX8_judge_8 : decode cX8_judge 8 = .ok (.iconst (-1), 1) := by decide +kernel
theorem dX8_judge_9 : decode cX8_judge 9 = .ok (.ireturn, 1) := by decide +kernel
theorem dX8_judge_10 : decode cX8_judge 10 = .ok (.aload_n 0, 1) := by decide +kernel
theorem dX8_judge_11 : decode cX8_judge 11 = .ok (.iload_n 1, 1) := by decide +kernel
theorem dX8_judge_12 : decode cX8_judge 12 = .ok (.invokevirtual 50, 3) := by decide +kernel
theorem dX8_judge_15 : decode cX8_judge 15 = .ok (.astore_n 3, 1) := by decide +kernel
theorem dX8_judge_16 : decode cX8_judge 16 = .ok (.aload_n 3, 1) := by decide +kernel
theorem dX8_judge_17 : decode cX8_judge 17 = .ok (.invokestatic 54, 3) := by decide +kernel
theorem dX8_judge_20 : decode cX8_judge 20 = .ok (.istore 4, 2) := by decide +kernel
theorem dX8_judge_22 : decode cX8_judge 22 = .ok (.aload_n 3, 1) := by decide +kernel
theorem dX8_judge_23 : decode cX8_judge 23 = .ok (.ifnull 8, 3) := by decide +kernel
theorem dX8_judge_26 : decode cX8_judge 26 = .ok (.iload 4, 2) := by decide +kernel
theorem dX8_judge_28 : decode cX8_judge 28 = .ok (.ifCond .eq 6, 3) := by decide +kernel
theorem dX8_judge_31 : decode cX8_judge 31 = .ok (.iload 4, 2) := by decide +kernel
theorem dX8_judge_33 : decode cX8_judge 33 = .ok (.ireturn, 1) := by decide +kernel
theorem dX8_judge_34 : decode cX8_judge 34 = .ok (.iconst 0, 1) := by decide +kernel
theorem dX8_judge_35 : decode cX8_judge 35 = .ok (.istore 5, 2) := by decide +kernel
theorem dX8_judge_37 : decode cX8_judge 37 = .ok (.iload 5, 2) := by decide +kernel
theorem dX8_judge_39 : decode cX8_judge 39 = .ok (.aload_n 3, 1) := by decide +kernel
theorem dX8_judge_40 : decode cX8_judge 40 = .ok (.getfield 273, 3) := by decide +kernel
theorem dX8_judge_43 : decode cX8_judge 43 = .ok (.if_icmp .ge 61, 3) := by decide +kernel
theorem dX8_judge_46 : decode cX8_judge 46 = .ok (.aload_n 0, 1) := by decide +kernel
theorem dX8_judge_47 : decode cX8_judge 47 = .ok (.getfield 27, 3) := by decide +kernel
theorem dX8_judge_50 : decode cX8_judge 50 = .ok (.getfield 134, 3) := by decide +kernel
theorem dX8_judge_53 : decode cX8_judge 53 = .ok (.iload 5, 2) := by decide +kernel
theorem dX8_judge_55 : decode cX8_judge 55 = .ok (.iadd, 1) := by decide +kernel
theorem dX8_judge_56 : decode cX8_judge 56 = .ok (.sipush 365, 3) := by decide +kernel
theorem dX8_judge_59 : decode cX8_judge 59 = .ok (.invokestatic 276, 3) := by decide +kernel
theorem dX8_judge_62 : decode cX8_judge 62 = .ok (.istore 6, 2) := by decide +kernel
theorem dX8_judge_64 : decode cX8_judge 64 = .ok (.aload_n 3, 1) := by decide +kernel
theorem dX8_judge_65 : decode cX8_judge 65 = .ok (.iload 5, 2) := by decide +kernel
theorem dX8_judge_67 : decode cX8_judge 67 = .ok (.invokevirtual 279, 3) := by decide +kernel
theorem dX8_judge_70 : decode cX8_judge 70 = .ok (.ifCond .ne 28, 3) := by decide +kernel
theorem dX8_judge_73 : decode cX8_judge 73 = .ok (.aload_n 3, 1) := by decide +kernel
theorem dX8_judge_74 : decode cX8_judge 74 = .ok (.iload 5, 2) := by decide +kernel
theorem dX8_judge_76 : decode cX8_judge 76 = .ok (.invokevirtual 282, 3) := by decide +kernel
theorem dX8_judge_79 : decode cX8_judge 79 = .ok (.aload_n 0, 1) := by decide +kernel
theorem dX8_judge_80 : decode cX8_judge 80 = .ok (.getfield 27, 3) := by decide +kernel
theorem dX8_judge_83 : decode cX8_judge 83 = .ok (.iload_n 2, 1) := by decide +kernel
theorem dX8_judge_84 : decode cX8_judge 84 = .ok (.iload 6, 2) := by decide +kernel
theorem dX8_judge_86 : decode cX8_judge 86 = .ok (.invokevirtual 138, 3) := by decide +kernel
theorem dX8_judge_89 : decode cX8_judge 89 = .ok (.invokestatic 152, 3) := by decide +kernel
theorem dX8_judge_92 : decode cX8_judge 92 = .ok (.if_icmp .eq 6, 3) := by decide +kernel
theorem dX8_judge_95 : decode cX8_judge 95 = .ok (.iload 5, 2) := by decide +kernel
theorem dX8_judge_97 : decode cX8_judge 97 = .ok (.ireturn, 1) := by decide +kernel
theorem dX8_judge_98 : decode cX8_judge 98 = .ok (.iinc 5 1, 3) := by decide +kernel
theorem dX8_judge_101 : decode cX8_judge 101 = .ok (.goto (-64), 3) := by decide +kernel
theorem dX8_judge_104 : decode cX8_judge 104 = .ok (.bipush (-4), 2) := by decide +kernel
theorem dX8_judge_106 : decode cX8_judge 106 = .ok (.ireturn, 1) := by decide +kernel
theorem dX8_years_0 : decode cX8_years 0 = .ok (.iload_n 1, 1) := by decide +kernel
theorem dX8_years_1 : decode cX8_years 1 = .ok (.iconst 1, 1) := by decide +kernel
theorem dX8_years_2 : decode cX8_years 2 = .ok (.if_icmp .lt 17, 3) := by decide +kernel
theorem dX8_years_5 : decode cX8_years 5 = .ok (.iload_n 1, 1) := by decide +kernel
theorem dX8_years_6 : decode cX8_years 6 = .ok (.bipush 20, 2) := by decide +kernel
theorem dX8_years_8 : decode cX8_years 8 = .ok (.if_icmp .gt 11, 3) := by decide +kernel
theorem dX8_years_11 : decode cX8_years 11 = .ok (.iload_n 3, 1) := by decide +kernel
theorem dX8_years_12 : decode cX8_years 12 = .ok (.iconst 2, 1) := by decide +kernel
theorem dX8_years_13 : decode cX8_years 13 = .ok (.invokestatic 115, 3) := by decide +kernel
theorem dX8_years_16 : decode cX8_years 16 = .ok (.ifCond .ne 5, 3) := by decide +kernel
theorem dX8_years_19 : decode cX8_years 19 = .ok (.iconst (-1), 1) := by decide +kernel
theorem dX8_years_20 : decode cX8_years 20 = .ok (.ireturn, 1) := by decide +kernel
theorem dX8_years_21 : decode cX8_years 21 = .ok (.iload_n 2, 1) := by decide +kernel
theorem dX8_years_22 : decode cX8_years 22 = .ok (.istore 4, 2) := by decide +kernel
theorem dX8_years_24 : decode cX8_years 24 = .ok (.iconst 0, 1) := by decide +kernel
theorem dX8_years_25 : decode cX8_years 25 = .ok (.istore 5, 2) := by decide +kernel
theorem dX8_years_27 : decode cX8_years 27 = .ok (.iconst 0, 1) := by decide +kernel
theorem dX8_years_28 : decode cX8_years 28 = .ok (.istore 6, 2) := by decide +kernel
theorem dX8_years_30 : decode cX8_years 30 = .ok (.iconst 0, 1) := by decide +kernel
theorem dX8_years_31 : decode cX8_years 31 = .ok (.istore 7, 2) := by decide +kernel
theorem dX8_years_33 : decode cX8_years 33 = .ok (.iload 7, 2) := by decide +kernel
theorem dX8_years_35 : decode cX8_years 35 = .ok (.iload_n 1, 1) := by decide +kernel
theorem dX8_years_36 : decode cX8_years 36 = .ok (.bipush 10, 2) := by decide +kernel
theorem dX8_years_38 : decode cX8_years 38 = .ok (.imul, 1) := by decide +kernel
theorem dX8_years_39 : decode cX8_years 39 = .ok (.if_icmp .ge 52, 3) := by decide +kernel
theorem dX8_years_42 : decode cX8_years 42 = .ok (.aload_n 0, 1) := by decide +kernel
theorem dX8_years_43 : decode cX8_years 43 = .ok (.iload 4, 2) := by decide +kernel
theorem dX8_years_45 : decode cX8_years 45 = .ok (.invokevirtual 285, 3) := by decide +kernel
theorem dX8_years_48 : decode cX8_years 48 = .ok (.istore 4, 2) := by decide +kernel
theorem dX8_years_50 : decode cX8_years 50 = .ok (.iload 5, 2) := by decide +kernel
theorem dX8_years_52 : decode cX8_years 52 = .ok (.aload_n 0, 1) := by decide +kernel
theorem dX8_years_53 : decode cX8_years 53 = .ok (.getfield 46, 3) := by decide +kernel
theorem dX8_years_56 : decode cX8_years 56 = .ok (.sipush 365, 3) := by decide +kernel
theorem dX8_years_59 : decode cX8_years 59 = .ok (.invokevirtual 202, 3) := by decide +kernel
theorem dX8_years_62 : decode cX8_years 62 = .ok (.ifCond .ne 7, 3) := by decide +kernel
theorem dX8_years_65 : decode cX8_years 65 = .ok (.iconst 1, 1) := by decide +kernel
theorem dX8_years_66 : decode cX8_years 66 = .ok (.goto 4, 3) := by decide +kernel
theorem dX8_years_69 : decode cX8_years 69 = .ok (.iconst 0, 1) := by decide +kernel
theorem dX8_years_70 : decode cX8_years 70 = .ok (.iadd, 1) := by decide +kernel
theorem dX8_years_71 : decode cX8_years 71 = .ok (.istore 5, 2) := by decide +kernel
theorem dX8_years_73 : decode cX8_years 73 = .ok (.iload 6, 2) := by decide +kernel
theorem dX8_years_75 : decode cX8_years 75 = .ok (.aload_n 0, 1) := by decide +kernel
theorem dX8_years_76 : decode cX8_years 76 = .ok (.getfield 46, 3) := by decide +kernel
theorem dX8_years_79 : decode cX8_years 79 = .ok (.invokevirtual 103, 3) := by decide +kernel
theorem dX8_years_82 : decode cX8_years 82 = .ok (.iadd, 1) := by decide +kernel
theorem dX8_years_83 : decode cX8_years 83 = .ok (.istore 6, 2) := by decide +kernel
theorem dX8_years_85 : decode cX8_years 85 = .ok (.iinc 7 1, 3) := by decide +kernel
theorem dX8_years_88 : decode cX8_years 88 = .ok (.goto (-55), 3) := by decide +kernel
theorem dX8_years_91 : decode cX8_years 91 = .ok (.iload_n 3, 1) := by decide +kernel
theorem dX8_years_92 : decode cX8_years 92 = .ok (.ifCond .ne 8, 3) := by decide +kernel
theorem dX8_years_95 : decode cX8_years 95 = .ok (.iload 5, 2) := by decide +kernel
theorem dX8_years_97 : decode cX8_years 97 = .ok (.goto 5, 3) := by decide +kernel
theorem dX8_years_100 : decode cX8_years 100 = .ok (.iload 6, 2) := by decide +kernel
theorem dX8_years_102 : decode cX8_years 102 = .ok (.ireturn, 1) := by decide +kernel
theorem dX8_image_0 : decode cX8_image 0 = .ok (.aload_n 0, 1) := by decide +kernel
theorem dX8_image_1 : decode cX8_image 1 = .ok (.getfield 36, 3) := by decide +kernel
theorem dX8_image_4 : decode cX8_image 4 = .ok (.aload_n 0, 1) := by decide +kernel
theorem dX8_image_5 : decode cX8_image 5 = .ok (.getfield 27, 3) := by decide +kernel
theorem dX8_image_8 : decode cX8_image 8 = .ok (.invokevirtual 67, 3) := by decide +kernel
theorem dX8_image_11 : decode cX8_image 11 = .ok (.aload_n 0, 1) := by decide +kernel
theorem dX8_image_12 : decode cX8_image 12 = .ok (.iconst 1, 1) := by decide +kernel
theorem dX8_image_13 : decode cX8_image 13 = .ok (.putfield 39, 3) := by decide +kernel
theorem dX8_image_16 : decode cX8_image 16 = .ok (.aload_n 0, 1) := by decide +kernel
theorem dX8_image_17 : decode cX8_image 17 = .ok (.getfield 27, 3) := by decide +kernel
theorem dX8_image_20 : decode cX8_image 20 = .ok (.getfield 127, 3) := by decide +kernel
theorem dX8_image_23 : decode cX8_image 23 = .ok (.ireturn, 1) := by decide +kernel
theorem dX8_restore_0 : decode cX8_restore 0 = .ok (.aload_n 0, 1) := by decide +kernel
theorem dX8_restore_1 : decode cX8_restore 1 = .ok (.getfield 39, 3) := by decide +kernel
theorem dX8_restore_4 : decode cX8_restore 4 = .ok (.ifCond .ne 6, 3) := by decide +kernel
theorem dX8_restore_7 : decode cX8_restore 7 = .ok (.bipush (-3), 2) := by decide +kernel
theorem dX8_restore_9 : decode cX8_restore 9 = .ok (.ireturn, 1) := by decide +kernel
theorem dX8_restore_10 : decode cX8_restore 10 = .ok (.aload_n 0, 1) := by decide +kernel
theorem dX8_restore_11 : decode cX8_restore 11 = .ok (.getfield 27, 3) := by decide +kernel
theorem dX8_restore_14 : decode cX8_restore 14 = .ok (.aload_n 0, 1) := by decide +kernel
theorem dX8_restore_15 : decode cX8_restore 15 = .ok (.getfield 36, 3) := by decide +kernel
theorem dX8_restore_18 : decode cX8_restore 18 = .ok (.invokevirtual 67, 3) := by decide +kernel
theorem dX8_restore_21 : decode cX8_restore 21 = .ok (.aload_n 0, 1) := by decide +kernel
theorem dX8_restore_22 : decode cX8_restore 22 = .ok (.getfield 27, 3) := by decide +kernel
theorem dX8_restore_25 : decode cX8_restore 25 = .ok (.getfield 127, 3) := by decide +kernel
theorem dX8_restore_28 : decode cX8_restore 28 = .ok (.ireturn, 1) := by decide +kernel
theorem dX8_count_0 : decode cX8_count 0 = .ok (.iload_n 1, 1) := by decide +kernel
theorem dX8_count_1 : decode cX8_count 1 = .ok (.tableswitch 88 0 5 #[39, 47, 55, 64, 72, 80], 39) := by decide +kernel
theorem dX8_count_40 : decode cX8_count 40 = .ok (.aload_n 0, 1) := by decide +kernel
theorem dX8_count_41 : decode cX8_count 41 = .ok (.getfield 27, 3) := by decide +kernel
theorem dX8_count_44 : decode cX8_count 44 = .ok (.getfield 127, 3) := by decide +kernel
theorem dX8_count_47 : decode cX8_count 47 = .ok (.ireturn, 1) := by decide +kernel
theorem dX8_count_48 : decode cX8_count 48 = .ok (.aload_n 0, 1) := by decide +kernel
theorem dX8_count_49 : decode cX8_count 49 = .ok (.getfield 27, 3) := by decide +kernel
theorem dX8_count_52 : decode cX8_count 52 = .ok (.getfield 134, 3) := by decide +kernel
theorem dX8_count_55 : decode cX8_count 55 = .ok (.ireturn, 1) := by decide +kernel
theorem dX8_count_56 : decode cX8_count 56 = .ok (.aload_n 0, 1) := by decide +kernel
theorem dX8_count_57 : decode cX8_count 57 = .ok (.getfield 27, 3) := by decide +kernel
theorem dX8_count_60 : decode cX8_count 60 = .ok (.iconst 0, 1) := by decide +kernel
theorem dX8_count_61 : decode cX8_count 61 = .ok (.invokevirtual 222, 3) := by decide +kernel
theorem dX8_count_64 : decode cX8_count 64 = .ok (.ireturn, 1) := by decide +kernel
theorem dX8_count_65 : decode cX8_count 65 = .ok (.aload_n 0, 1) := by decide +kernel
theorem dX8_count_66 : decode cX8_count 66 = .ok (.getfield 27, 3) := by decide +kernel
theorem dX8_count_69 : decode cX8_count 69 = .ok (.invokevirtual 253, 3) := by decide +kernel
theorem dX8_count_72 : decode cX8_count 72 = .ok (.ireturn, 1) := by decide +kernel
theorem dX8_count_73 : decode cX8_count 73 = .ok (.aload_n 0, 1) := by decide +kernel
theorem dX8_count_74 : decode cX8_count 74 = .ok (.getfield 27, 3) := by decide +kernel
theorem dX8_count_77 : decode cX8_count 77 = .ok (.invokevirtual 288, 3) := by decide +kernel
theorem dX8_count_80 : decode cX8_count 80 = .ok (.ireturn, 1) := by decide +kernel
theorem dX8_count_81 : decode cX8_count 81 = .ok (.aload_n 0, 1) := by decide +kernel
theorem dX8_count_82 : decode cX8_count 82 = .ok (.getfield 27, 3) := by decide +kernel
theorem dX8_count_85 : decode cX8_count 85 = .ok (.invokevirtual 291, 3) := by decide +kernel
theorem dX8_count_88 : decode cX8_count 88 = .ok (.ireturn, 1) := by decide +kernel
theorem dX8_count_89 : decode cX8_count 89 = .ok (.iconst (-1), 1) := by decide +kernel
theorem dX8_count_90 : decode cX8_count 90 = .ok (.ireturn, 1) := by decide +kernel
theorem dX8_keep_0 : decode cX8_keep 0 = .ok (.aload_n 0, 1) := by decide +kernel
theorem dX8_keep_1 : decode cX8_keep 1 = .ok (.iload_n 1, 1) := by decide +kernel
theorem dX8_keep_2 : decode cX8_keep 2 = .ok (.invokevirtual 50, 3) := by decide +kernel
theorem dX8_keep_5 : decode cX8_keep 5 = .ok (.astore 5, 2) := by decide +kernel
theorem dX8_keep_7 : decode cX8_keep 7 = .ok (.aload 5, 2) := by decide +kernel
theorem dX8_keep_9 : decode cX8_keep 9 = .ok (.ifnull 11, 3) := by decide +kernel
theorem dX8_keep_12 : decode cX8_keep 12 = .ok (.iload_n 2, 1) := by decide +kernel
theorem dX8_keep_13 : decode cX8_keep 13 = .ok (.iconst 2, 1) := by decide +kernel
theorem dX8_keep_14 : decode cX8_keep 14 = .ok (.invokestatic 115, 3) := by decide +kernel
theorem dX8_keep_17 : decode cX8_keep 17 = .ok (.ifCond .ne 5, 3) := by decide +kernel
theorem dX8_keep_20 : decode cX8_keep 20 = .ok (.iconst (-1), 1) := by decide +kernel
theorem dX8_keep_21 : decode cX8_keep 21 = .ok (.ireturn, 1) := by decide +kernel
theorem dX8_keep_22 : decode cX8_keep 22 = .ok (.iload_n 2, 1) := by decide +kernel
theorem dX8_keep_23 : decode cX8_keep 23 = .ok (.ifCond .ne 10, 3) := by decide +kernel
theorem dX8_keep_26 : decode cX8_keep 26 = .ok (.aload 5, 2) := by decide +kernel
theorem dX8_keep_28 : decode cX8_keep 28 = .ok (.invokevirtual 294, 3) := by decide +kernel
theorem dX8_keep_31 : decode cX8_keep 31 = .ok (.iconst 0, 1) := by decide +kernel
theorem dX8_keep_32 : decode cX8_keep 32 = .ok (.ireturn, 1) := by decide +kernel
theorem dX8_keep_33 : decode cX8_keep 33 = .ok (.iload_n 3, 1) := by decide +kernel
theorem dX8_keep_34 : decode cX8_keep 34 = .ok (.bipush 8, 2) := by decide +kernel
theorem dX8_keep_36 : decode cX8_keep 36 = .ok (.invokestatic 115, 3) := by decide +kernel
theorem dX8_keep_39 : decode cX8_keep 39 = .ok (.ifCond .eq 13, 3) := by decide +kernel
theorem dX8_keep_42 : decode cX8_keep 42 = .ok (.iload 4, 2) := by decide +kernel
theorem dX8_keep_44 : decode cX8_keep 44 = .ok (.bipush 10, 2) := by decide +kernel
theorem dX8_keep_46 : decode cX8_keep 46 = .ok (.invokestatic 115, 3) := by decide +kernel
theorem dX8_keep_49 : decode cX8_keep 49 = .ok (.ifCond .ne 5, 3) := by decide +kernel
theorem dX8_keep_52 : decode cX8_keep 52 = .ok (.iconst (-1), 1) := by decide +kernel
theorem dX8_keep_53 : decode cX8_keep 53 = .ok (.ireturn, 1) := by decide +kernel
theorem dX8_keep_54 : decode cX8_keep 54 = .ok (.aload 5, 2) := by decide +kernel
theorem dX8_keep_56 : decode cX8_keep 56 = .ok (.iload_n 3, 1) := by decide +kernel
theorem dX8_keep_57 : decode cX8_keep 57 = .ok (.iload 4, 2) := by decide +kernel
theorem dX8_keep_59 : decode cX8_keep 59 = .ok (.invokevirtual 297, 3) := by decide +kernel
theorem dX8_keep_62 : decode cX8_keep 62 = .ok (.iconst 0, 1) := by decide +kernel
theorem dX8_keep_63 : decode cX8_keep 63 = .ok (.ireturn, 1) := by decide +kernel
theorem dX8_row_0 : decode cX8_row 0 = .ok (.aload_n 0, 1) := by decide +kernel
theorem dX8_row_1 : decode cX8_row 1 = .ok (.iload_n 1, 1) := by decide +kernel
theorem dX8_row_2 : decode cX8_row 2 = .ok (.invokevirtual 50, 3) := by decide +kernel
theorem dX8_row_5 : decode cX8_row 5 = .ok (.astore 4, 2) := by decide +kernel
theorem dX8_row_7 : decode cX8_row 7 = .ok (.aload 4, 2) := by decide +kernel
theorem dX8_row_9 : decode cX8_row 9 = .ok (.ifnull 17, 3) := by decide +kernel
theorem dX8_row_12 : decode cX8_row 12 = .ok (.iload_n 2, 1) := by decide +kernel
theorem dX8_row_13 : decode cX8_row 13 = .ok (.iconst 3, 1) := by decide +kernel
theorem dX8_row_14 : decode cX8_row 14 = .ok (.invokestatic 115, 3) := by decide +kernel
theorem dX8_row_17 : decode cX8_row 17 = .ok (.ifCond .eq 9, 3) := by decide +kernel
theorem dX8_row_20 : decode cX8_row 20 = .ok (.iload_n 3, 1) := by decide +kernel
theorem dX8_row_21 : decode cX8_row 21 = .ok (.bipush 100, 2) := by decide +kernel
theorem dX8_row_23 : decode cX8_row 23 = .ok (.if_icmp .le 5, 3) := by decide +kernel
theorem dX8_row_26 : decode cX8_row 26 = .ok (.iconst (-1), 1) := by decide +kernel
theorem dX8_row_27 : decode cX8_row 27 = .ok (.ireturn, 1) := by decide +kernel
theorem dX8_row_28 : decode cX8_row 28 = .ok (.iload_n 3, 1) := by decide +kernel
theorem dX8_row_29 : decode cX8_row 29 = .ok (.ifCond .ge 6, 3) := by decide +kernel
theorem dX8_row_32 : decode cX8_row 32 = .ok (.bipush (-14), 2) := by decide +kernel
theorem dX8_row_34 : decode cX8_row 34 = .ok (.ireturn, 1) := by decide +kernel
theorem dX8_row_35 : decode cX8_row 35 = .ok (.aload 4, 2) := by decide +kernel
theorem dX8_row_37 : decode cX8_row 37 = .ok (.iload_n 2, 1) := by decide +kernel
theorem dX8_row_38 : decode cX8_row 38 = .ok (.iload_n 3, 1) := by decide +kernel
theorem dX8_row_39 : decode cX8_row 39 = .ok (.invokevirtual 301, 3) := by decide +kernel
theorem dX8_row_42 : decode cX8_row 42 = .ok (.iconst 0, 1) := by decide +kernel
theorem dX8_row_43 : decode cX8_row 43 = .ok (.ireturn, 1) := by decide +kernel
theorem dX8_put_0 : decode cX8_put 0 = .ok (.aload_n 0, 1) := by decide +kernel
theorem dX8_put_1 : decode cX8_put 1 = .ok (.iload_n 1, 1) := by decide +kernel
theorem dX8_put_2 : decode cX8_put 2 = .ok (.invokevirtual 50, 3) := by decide +kernel
theorem dX8_put_5 : decode cX8_put 5 = .ok (.astore 4, 2) := by decide +kernel
theorem dX8_put_7 : decode cX8_put 7 = .ok (.aload 4, 2) := by decide +kernel
theorem dX8_put_9 : decode cX8_put 9 = .ok (.invokestatic 54, 3) := by decide +kernel
theorem dX8_put_12 : decode cX8_put 12 = .ok (.istore 5, 2) := by decide +kernel
theorem dX8_put_14 : decode cX8_put 14 = .ok (.aload 4, 2) := by decide +kernel
theorem dX8_put_16 : decode cX8_put 16 = .ok (.ifnull 8, 3) := by decide +kernel
theorem dX8_put_19 : decode cX8_put 19 = .ok (.iload 5, 2) := by decide +kernel
theorem dX8_put_21 : decode cX8_put 21 = .ok (.ifCond .eq 6, 3) := by decide +kernel
theorem dX8_put_24 : decode cX8_put 24 = .ok (.iload 5, 2) := by decide +kernel
theorem dX8_put_26 : decode cX8_put 26 = .ok (.ireturn, 1) := by decide +kernel
theorem dX8_put_27 : decode cX8_put 27 = .ok (.iload_n 2, 1) := by decide +kernel
theorem dX8_put_28 : decode cX8_put 28 = .ok (.aload 4, 2) := by decide +kernel
theorem dX8_put_30 : decode cX8_put 30 = .ok (.getfield 273, 3) := by decide +kernel
theorem dX8_put_33 : decode cX8_put 33 = .ok (.invokestatic 115, 3) := by decide +kernel
theorem dX8_put_36 : decode cX8_put 36 = .ok (.ifCond .ne 6, 3) := by decide +kernel
theorem dX8_put_39 : decode cX8_put 39 = .ok (.bipush (-13), 2) := by decide +kernel
theorem dX8_put_41 : decode cX8_put 41 = .ok (.ireturn, 1) := by decide +kernel
theorem dX8_put_42 : decode cX8_put 42 = .ok (.aload 4, 2) := by decide +kernel
theorem dX8_put_44 : decode cX8_put 44 = .ok (.iload_n 2, 1) := by decide +kernel
theorem dX8_put_45 : decode cX8_put 45 = .ok (.iload_n 3, 1) := by decide +kernel
theorem dX8_put_46 : decode cX8_put 46 = .ok (.invokevirtual 304, 3) := by decide +kernel
theorem dX8_put_49 : decode cX8_put 49 = .ok (.iconst 0, 1) := by decide +kernel
theorem dX8_put_50 : decode cX8_put 50 = .ok (.ireturn, 1) := by decide +kernel
theorem dX8_element_0 : decode cX8_element 0 = .ok (.aload_n 0, 1) := by decide +kernel
theorem dX8_element_1 : decode cX8_element 1 = .ok (.iload_n 1, 1) := by decide +kernel
theorem dX8_element_2 : decode cX8_element 2 = .ok (.invokevirtual 50, 3) := by decide +kernel
theorem dX8_element_5 : decode cX8_element 5 = .ok (.astore_n 3, 1) := by decide +kernel
theorem dX8_element_6 : decode cX8_element 6 = .ok (.aload_n 3, 1) := by decide +kernel
theorem dX8_element_7 : decode cX8_element 7 = .ok (.ifnonnull 14, 3) := by decide +kernel
theorem dX8_element_10 : decode cX8_element 10 = .ok (.new 307, 3) := by decide +kernel
theorem dX8_element_13 : decode cX8_element 13 = .ok (.dup, 1) := by decide +kernel
theorem dX8_element_14 : decode cX8_element 14 = .ok (.ldc_w 309, 3) := by decide +kernel
theorem dX8_element_17 : decode cX8_element 17 = .ok (.invokespecial 311, 3) := by decide +kernel
theorem dX8_element_20 : decode cX8_element 20 = .ok (.athrow, 1) := by decide +kernel
theorem dX8_element_21 : decode cX8_element 21 = .ok (.aload_n 3, 1) := by decide +kernel
theorem dX8_element_22 : decode cX8_element 22 = .ok (.invokevirtual 314, 3) := by decide +kernel
theorem dX8_element_25 : decode cX8_element 25 = .ok (.ifCond .ne 14, 3) := by decide +kernel
theorem dX8_element_28 : decode cX8_element 28 = .ok (.new 318, 3) := by decide +kernel
theorem dX8_element_31 : decode cX8_element 31 = .ok (.dup, 1) := by decide +kernel
theorem dX8_element_32 : decode cX8_element 32 = .ok (.ldc_w 320, 3) := by decide +kernel
theorem dX8_element_35 : decode cX8_element 35 = .ok (.invokespecial 322, 3) := by decide +kernel
theorem dX8_element_38 : decode cX8_element 38 = .ok (.athrow, 1) := by decide +kernel
theorem dX8_element_39 : decode cX8_element 39 = .ok (.iload_n 2, 1) := by decide +kernel
theorem dX8_element_40 : decode cX8_element 40 = .ok (.aload_n 3, 1) := by decide +kernel
theorem dX8_element_41 : decode cX8_element 41 = .ok (.getfield 273, 3) := by decide +kernel
theorem dX8_element_44 : decode cX8_element 44 = .ok (.invokestatic 115, 3) := by decide +kernel
theorem dX8_element_47 : decode cX8_element 47 = .ok (.ifCond .ne 14, 3) := by decide +kernel
theorem dX8_element_50 : decode cX8_element 50 = .ok (.new 318, 3) := by decide +kernel
theorem dX8_element_53 : decode cX8_element 53 = .ok (.dup, 1) := by decide +kernel
theorem dX8_element_54 : decode cX8_element 54 = .ok (.ldc_w 323, 3) := by decide +kernel
theorem dX8_element_57 : decode cX8_element 57 = .ok (.invokespecial 322, 3) := by decide +kernel
theorem dX8_element_60 : decode cX8_element 60 = .ok (.athrow, 1) := by decide +kernel
theorem dX8_element_61 : decode cX8_element 61 = .ok (.aload_n 3, 1) := by decide +kernel
theorem dX8_element_62 : decode cX8_element 62 = .ok (.iload_n 2, 1) := by decide +kernel
theorem dX8_element_63 : decode cX8_element 63 = .ok (.invokevirtual 282, 3) := by decide +kernel
theorem dX8_element_66 : decode cX8_element 66 = .ok (.i2l, 1) := by decide +kernel
theorem dX8_element_67 : decode cX8_element 67 = .ok (.lreturn, 1) := by decide +kernel
theorem dX8_copy_0 : decode cX8_copy 0 = .ok (.aload_n 0, 1) := by decide +kernel
theorem dX8_copy_1 : decode cX8_copy 1 = .ok (.iload_n 1, 1) := by decide +kernel
theorem dX8_copy_2 : decode cX8_copy 2 = .ok (.invokevirtual 50, 3) := by decide +kernel
theorem dX8_copy_5 : decode cX8_copy 5 = .ok (.astore 6, 2) := by decide +kernel
theorem dX8_copy_7 : decode cX8_copy 7 = .ok (.aload_n 0, 1) := by decide +kernel
theorem dX8_copy_8 : decode cX8_copy 8 = .ok (.iload_n 3, 1) := by decide +kernel
theorem dX8_copy_9 : decode cX8_copy 9 = .ok (.invokevirtual 50, 3) := by decide +kernel
theorem dX8_copy_12 : decode cX8_copy 12 = .ok (.astore 7, 2) := by decide +kernel
theorem dX8_copy_14 : decode cX8_copy 14 = .ok (.aload 6, 2) := by decide +kernel
theorem dX8_copy_16 : decode cX8_copy 16 = .ok (.ifnull 8, 3) := by decide +kernel
theorem dX8_copy_19 : decode cX8_copy 19 = .ok (.aload 7, 2) := by decide +kernel
theorem dX8_copy_21 : decode cX8_copy 21 = .ok (.ifnonnull 5, 3) := by decide +kernel
theorem dX8_copy_24 : decode cX8_copy 24 = .ok (.iconst (-1), 1) := by decide +kernel
theorem dX8_copy_25 : decode cX8_copy 25 = .ok (.ireturn, 1) := by decide +kernel
theorem dX8_copy_26 : decode cX8_copy 26 = .ok (.aload 6, 2) := by decide +kernel
theorem dX8_copy_28 : decode cX8_copy 28 = .ok (.invokevirtual 325, 3) := by decide +kernel
theorem dX8_copy_31 : decode cX8_copy 31 = .ok (.ifCond .ne 11, 3) := by decide +kernel
theorem dX8_copy_34 : decode cX8_copy 34 = .ok (.aload 7, 2) := by decide +kernel
theorem dX8_copy_36 : decode cX8_copy 36 = .ok (.invokevirtual 325, 3) := by decide +kernel
theorem dX8_copy_39 : decode cX8_copy 39 = .ok (.ifCond .eq 6, 3) := by decide +kernel
theorem dX8_copy_42 : decode cX8_copy 42 = .ok (.bipush (-11), 2) := by decide +kernel
theorem dX8_copy_44 : decode cX8_copy 44 = .ok (.ireturn, 1) := by decide +kernel
theorem dX8_copy_45 : decode cX8_copy 45 = .ok (.aload 6, 2) := by decide +kernel
theorem dX8_copy_47 : decode cX8_copy 47 = .ok (.invokevirtual 314, 3) := by decide +kernel
theorem dX8_copy_50 : decode cX8_copy 50 = .ok (.ifCond .eq 16, 3) := by decide +kernel
theorem dX8_copy_53 : decode cX8_copy 53 = .ok (.aload 6, 2) := by decide +kernel
theorem dX8_copy_55 : decode cX8_copy 55 = .ok (.getfield 58, 3) := by decide +kernel
theorem dX8_copy_58 : decode cX8_copy 58 = .ok (.aload 7, 2) := by decide +kernel
theorem dX8_copy_60 : decode cX8_copy 60 = .ok (.getfield 58, 3) := by decide +kernel
theorem dX8_copy_63 : decode cX8_copy 63 = .ok (.if_icmp .eq 6, 3) := by decide +kernel
theorem dX8_copy_66 : decode cX8_copy 66 = .ok (.bipush (-12), 2) := by decide +kernel
theorem dX8_copy_68 : decode cX8_copy 68 = .ok (.ireturn, 1) := by decide +kernel
theorem dX8_copy_69 : decode cX8_copy 69 = .ok (.aload 6, 2) := by decide +kernel
theorem dX8_copy_71 : decode cX8_copy 71 = .ok (.iload_n 2, 1) := by decide +kernel
theorem dX8_copy_72 : decode cX8_copy 72 = .ok (.iload 5, 2) := by decide +kernel
theorem dX8_copy_74 : decode cX8_copy 74 = .ok (.invokevirtual 328, 3) := by decide +kernel
theorem dX8_copy_77 : decode cX8_copy 77 = .ok (.ifCond .eq 15, 3) := by decide +kernel
theorem dX8_copy_80 : decode cX8_copy 80 = .ok (.aload 7, 2) := by decide +kernel
theorem dX8_copy_82 : decode cX8_copy 82 = .ok (.iload 4, 2) := by decide +kernel
theorem dX8_copy_84 : decode cX8_copy 84 = .ok (.iload 5, 2) := by decide +kernel
theorem dX8_copy_86 : decode cX8_copy 86 = .ok (.invokevirtual 328, 3) := by decide +kernel
theorem dX8_copy_89 : decode cX8_copy 89 = .ok (.ifCond .ne 6, 3) := by decide +kernel
theorem dX8_copy_92 : decode cX8_copy 92 = .ok (.bipush (-13), 2) := by decide +kernel
theorem dX8_copy_94 : decode cX8_copy 94 = .ok (.ireturn, 1) := by decide +kernel
theorem dX8_copy_95 : decode cX8_copy 95 = .ok (.aload 6, 2) := by decide +kernel
theorem dX8_copy_97 : decode cX8_copy 97 = .ok (.getfield 331, 3) := by decide +kernel
theorem dX8_copy_100 : decode cX8_copy 100 = .ok (.iload_n 2, 1) := by decide +kernel
theorem dX8_copy_101 : decode cX8_copy 101 = .ok (.aload 7, 2) := by decide +kernel
theorem dX8_copy_103 : decode cX8_copy 103 = .ok (.getfield 331, 3) := by decide +kernel
theorem dX8_copy_106 : decode cX8_copy 106 = .ok (.iload 4, 2) := by decide +kernel
theorem dX8_copy_108 : decode cX8_copy 108 = .ok (.iload 5, 2) := by decide +kernel
theorem dX8_copy_110 : decode cX8_copy 110 = .ok (.invokestatic 335, 3) := by decide +kernel
theorem dX8_copy_113 : decode cX8_copy 113 = .ok (.iload 5, 2) := by decide +kernel
theorem dX8_copy_115 : decode cX8_copy 115 = .ok (.ireturn, 1) := by decide +kernel
theorem dX8_cost_0 : decode cX8_cost 0 = .ok (.aload_n 0, 1) := by decide +kernel
theorem dX8_cost_1 : decode cX8_cost 1 = .ok (.iload_n 1, 1) := by decide +kernel
theorem dX8_cost_2 : decode cX8_cost 2 = .ok (.invokevirtual 50, 3) := by decide +kernel
theorem dX8_cost_5 : decode cX8_cost 5 = .ok (.astore_n 2, 1) := by decide +kernel
theorem dX8_cost_6 : decode cX8_cost 6 = .ok (.aload_n 2, 1) := by decide +kernel
theorem dX8_cost_7 : decode cX8_cost 7 = .ok (.invokestatic 118, 3) := by decide +kernel
theorem dX8_cost_10 : decode cX8_cost 10 = .ok (.istore_n 3, 1) := by decide +kernel
theorem dX8_cost_11 : decode cX8_cost 11 = .ok (.aload_n 2, 1) := by decide +kernel
theorem dX8_cost_12 : decode cX8_cost 12 = .ok (.ifnull 7, 3) := by decide +kernel
theorem dX8_cost_15 : decode cX8_cost 15 = .ok (.iload_n 3, 1) := by decide +kernel
theorem dX8_cost_16 : decode cX8_cost 16 = .ok (.ifCond .eq 7, 3) := by decide +kernel
theorem dX8_cost_19 : decode cX8_cost 19 = .ok (.iload_n 3, 1) := by decide +kernel
theorem dX8_cost_20 : decode cX8_cost 20 = .ok (.goto 14, 3) := by decide +kernel
theorem dX8_cost_23 : decode cX8_cost 23 = .ok (.aload_n 2, 1) := by decide +kernel
theorem dX8_cost_24 : decode cX8_cost 24 = .ok (.getfield 121, 3) := by decide +kernel
theorem dX8_cost_27 : decode cX8_cost 27 = .ok (.aload_n 2, 1) := by decide +kernel
theorem dX8_cost_28 : decode cX8_cost 28 = .ok (.getfield 122, 3) := by decide +kernel
theorem dX8_cost_31 : decode cX8_cost 31 = .ok (.invokestatic 341, 3) := by decide +kernel
theorem dX8_cost_34 : decode cX8_cost 34 = .ok (.ireturn, 1) := by decide +kernel
theorem dX8_toss_0 : decode cX8_toss 0 = .ok (.aload_n 0, 1) := by decide +kernel
theorem dX8_toss_1 : decode cX8_toss 1 = .ok (.iload_n 1, 1) := by decide +kernel
theorem dX8_toss_2 : decode cX8_toss 2 = .ok (.invokevirtual 50, 3) := by decide +kernel
theorem dX8_toss_5 : decode cX8_toss 5 = .ok (.astore_n 2, 1) := by decide +kernel
theorem dX8_toss_6 : decode cX8_toss 6 = .ok (.aload_n 2, 1) := by decide +kernel
theorem dX8_toss_7 : decode cX8_toss 7 = .ok (.invokestatic 118, 3) := by decide +kernel
theorem dX8_toss_10 : decode cX8_toss 10 = .ok (.istore_n 3, 1) := by decide +kernel
theorem dX8_toss_11 : decode cX8_toss 11 = .ok (.aload_n 2, 1) := by decide +kernel
theorem dX8_toss_12 : decode cX8_toss 12 = .ok (.ifnull 7, 3) := by decide +kernel
theorem dX8_toss_15 : decode cX8_toss 15 = .ok (.iload_n 3, 1) := by decide +kernel
theorem dX8_toss_16 : decode cX8_toss 16 = .ok (.ifCond .eq 7, 3) := by decide +kernel
theorem dX8_toss_19 : decode cX8_toss 19 = .ok (.iload_n 3, 1) := by decide +kernel
theorem dX8_toss_20 : decode cX8_toss 20 = .ok (.goto 14, 3) := by decide +kernel
theorem dX8_toss_23 : decode cX8_toss 23 = .ok (.aload_n 2, 1) := by decide +kernel
theorem dX8_toss_24 : decode cX8_toss 24 = .ok (.getfield 121, 3) := by decide +kernel
theorem dX8_toss_27 : decode cX8_toss 27 = .ok (.aload_n 2, 1) := by decide +kernel
theorem dX8_toss_28 : decode cX8_toss 28 = .ok (.getfield 122, 3) := by decide +kernel
theorem dX8_toss_31 : decode cX8_toss 31 = .ok (.invokestatic 344, 3) := by decide +kernel
theorem dX8_toss_34 : decode cX8_toss 34 = .ok (.ireturn, 1) := by decide +kernel
theorem dX8_shelfAt_0 : decode cX8_shelfAt 0 = .ok (.iload_n 1, 1) := by decide +kernel
theorem dX8_shelfAt_1 : decode cX8_shelfAt 1 = .ok (.ifCond .lt 21, 3) := by decide +kernel
theorem dX8_shelfAt_4 : decode cX8_shelfAt 4 = .ok (.iload_n 1, 1) := by decide +kernel
theorem dX8_shelfAt_5 : decode cX8_shelfAt 5 = .ok (.aload_n 0, 1) := by decide +kernel
theorem dX8_shelfAt_6 : decode cX8_shelfAt 6 = .ok (.getfield 11, 3) := by decide +kernel
theorem dX8_shelfAt_9 : decode cX8_shelfAt 9 = .ok (.arraylength, 1) := by decide +kernel
theorem dX8_shelfAt_10 : decode cX8_shelfAt 10 = .ok (.if_icmp .ge 12, 3) := by decide +kernel
theorem dX8_shelfAt_13 : decode cX8_shelfAt 13 = .ok (.aload_n 0, 1) := by decide +kernel
theorem dX8_shelfAt_14 : decode cX8_shelfAt 14 = .ok (.getfield 11, 3) := by decide +kernel
theorem dX8_shelfAt_17 : decode cX8_shelfAt 17 = .ok (.iload_n 1, 1) := by decide +kernel
theorem dX8_shelfAt_18 : decode cX8_shelfAt 18 = .ok (.aaload, 1) := by decide +kernel
theorem dX8_shelfAt_19 : decode cX8_shelfAt 19 = .ok (.goto 4, 3) := by decide +kernel
theorem dX8_shelfAt_22 : decode cX8_shelfAt 22 = .ok (.aconst_null, 1) := by decide +kernel
theorem dX8_shelfAt_23 : decode cX8_shelfAt 23 = .ok (.areturn, 1) := by decide +kernel
theorem dX8_rowRefusal_0 : decode cX8_rowRefusal 0 = .ok (.aload_n 0, 1) := by decide +kernel
theorem dX8_rowRefusal_1 : decode cX8_rowRefusal 1 = .ok (.iconst 1, 1) := by decide +kernel
theorem dX8_rowRefusal_2 : decode cX8_rowRefusal 2 = .ok (.invokestatic 347, 3) := by decide +kernel
theorem dX8_rowRefusal_5 : decode cX8_rowRefusal 5 = .ok (.ireturn, 1) := by decide +kernel
theorem dX8_kindRefusal_0 : decode cX8_kindRefusal 0 = .ok (.aload_n 0, 1) := by decide +kernel
theorem dX8_kindRefusal_1 : decode cX8_kindRefusal 1 = .ok (.iconst 0, 1) := by decide +kernel
theorem dX8_kindRefusal_2 : decode cX8_kindRefusal 2 = .ok (.invokestatic 347, 3) := by decide +kernel
theorem dX8_kindRefusal_5 : decode cX8_kindRefusal 5 = .ok (.ireturn, 1) := by decide +kernel
theorem dX8_refusal_0 : decode cX8_refusal 0 = .ok (.aload_n 0, 1) := by decide +kernel
theorem dX8_refusal_1 : decode cX8_refusal 1 = .ok (.ifnonnull 5, 3) := by decide +kernel
theorem dX8_refusal_4 : decode cX8_refusal 4 = .ok (.iconst (-1), 1) := by decide +kernel
theorem dX8_refusal_5 : decode cX8_refusal 5 = .ok (.ireturn, 1) := by decide +kernel
theorem dX8_refusal_6 : decode cX8_refusal 6 = .ok (.aload_n 0, 1) := by decide +kernel
theorem dX8_refusal_7 : decode cX8_refusal 7 = .ok (.invokevirtual 325, 3) := by decide +kernel
theorem dX8_refusal_10 : decode cX8_refusal 10 = .ok (.ifCond .eq 6, 3) := by decide +kernel
theorem dX8_refusal_13 : decode cX8_refusal 13 = .ok (.bipush (-11), 2) := by decide +kernel
theorem dX8_refusal_15 : decode cX8_refusal 15 = .ok (.ireturn, 1) := by decide +kernel
theorem dX8_refusal_16 : decode cX8_refusal 16 = .ok (.aload_n 0, 1) := by decide +kernel
theorem dX8_refusal_17 : decode cX8_refusal 17 = .ok (.invokevirtual 314, 3) := by decide +kernel
theorem dX8_refusal_20 : decode cX8_refusal 20 = .ok (.iload_n 1, 1) := by decide +kernel
theorem dX8_refusal_21 : decode cX8_refusal 21 = .ok (.if_icmp .ne 7, 3) := by decide +kernel
theorem dX8_refusal_24 : decode cX8_refusal 24 = .ok (.iconst 0, 1) := by decide +kernel
theorem dX8_refusal_25 : decode cX8_refusal 25 = .ok (.goto 5, 3) := by decide +kernel
theorem dX8_refusal_28 : decode cX8_refusal 28 = .ok (.bipush (-12), 2) := by decide +kernel
theorem dX8_refusal_30 : decode cX8_refusal 30 = .ok (.ireturn, 1) := by decide +kernel
theorem dX8_diaryRefusal_0 : decode cX8_diaryRefusal 0 = .ok (.aload_n 1, 1) := by decide +kernel
theorem dX8_diaryRefusal_1 : decode cX8_diaryRefusal 1 = .ok (.invokestatic 54, 3) := by decide +kernel
theorem dX8_diaryRefusal_4 : decode cX8_diaryRefusal 4 = .ok (.istore_n 2, 1) := by decide +kernel
theorem dX8_diaryRefusal_5 : decode cX8_diaryRefusal 5 = .ok (.aload_n 1, 1) := by decide +kernel
theorem dX8_diaryRefusal_6 : decode cX8_diaryRefusal 6 = .ok (.ifnull 7, 3) := by decide +kernel
theorem dX8_diaryRefusal_9 : decode cX8_diaryRefusal 9 = .ok (.iload_n 2, 1) := by decide +kernel
theorem dX8_diaryRefusal_10 : decode cX8_diaryRefusal 10 = .ok (.ifCond .eq 5, 3) := by decide +kernel
theorem dX8_diaryRefusal_13 : decode cX8_diaryRefusal 13 = .ok (.iload_n 2, 1) := by decide +kernel
theorem dX8_diaryRefusal_14 : decode cX8_diaryRefusal 14 = .ok (.ireturn, 1) := by decide +kernel
theorem dX8_diaryRefusal_15 : decode cX8_diaryRefusal 15 = .ok (.aload_n 1, 1) := by decide +kernel
theorem dX8_diaryRefusal_16 : decode cX8_diaryRefusal 16 = .ok (.aload_n 0, 1) := by decide +kernel
theorem dX8_diaryRefusal_17 : decode cX8_diaryRefusal 17 = .ok (.getfield 27, 3) := by decide +kernel
theorem dX8_diaryRefusal_20 : decode cX8_diaryRefusal 20 = .ok (.invokestatic 351, 3) := by decide +kernel
theorem dX8_diaryRefusal_23 : decode cX8_diaryRefusal 23 = .ok (.ifCond .eq 7, 3) := by decide +kernel
theorem dX8_diaryRefusal_26 : decode cX8_diaryRefusal 26 = .ok (.iconst 0, 1) := by decide +kernel
theorem dX8_diaryRefusal_27 : decode cX8_diaryRefusal 27 = .ok (.goto 5, 3) := by decide +kernel
theorem dX8_diaryRefusal_30 : decode cX8_diaryRefusal 30 = .ok (.bipush (-13), 2) := by decide +kernel
theorem dX8_diaryRefusal_32 : decode cX8_diaryRefusal 32 = .ok (.ireturn, 1) := by decide +kernel
theorem dX8_gain_0 : decode cX8_gain 0 = .ok (.iload_n 0, 1) := by decide +kernel
theorem dX8_gain_1 : decode cX8_gain 1 = .ok (.ifCond .ne 5, 3) := by decide +kernel
theorem dX8_gain_4 : decode cX8_gain 4 = .ok (.iconst 0, 1) := by decide +kernel
theorem dX8_gain_5 : decode cX8_gain 5 = .ok (.ireturn, 1) := by decide +kernel
theorem dX8_gain_6 : decode cX8_gain 6 = .ok (.iload_n 1, 1) := by decide +kernel
theorem dX8_gain_7 : decode cX8_gain 7 = .ok (.ifCond .ne 7, 3) := by decide +kernel
theorem dX8_gain_10 : decode cX8_gain 10 = .ok (.iconst 3, 1) := by decide +kernel
theorem dX8_gain_11 : decode cX8_gain 11 = .ok (.goto 4, 3) := by decide +kernel
theorem dX8_gain_14 : decode cX8_gain 14 = .ok (.iconst 1, 1) := by decide +kernel
theorem dX8_gain_15 : decode cX8_gain 15 = .ok (.iload_n 2, 1) := by decide +kernel
theorem dX8_gain_16 : decode cX8_gain 16 = .ok (.isub, 1) := by decide +kernel
theorem dX8_gain_17 : decode cX8_gain 17 = .ok (.ireturn, 1) := by decide +kernel
theorem dX8_isContent_0 : decode cX8_isContent 0 = .ok (.iconst 1, 1) := by decide +kernel
theorem dX8_isContent_1 : decode cX8_isContent 1 = .ok (.iload_n 0, 1) := by decide +kernel
theorem dX8_isContent_2 : decode cX8_isContent 2 = .ok (.isub, 1) := by decide +kernel
theorem dX8_isContent_3 : decode cX8_isContent 3 = .ok (.iload_n 1, 1) := by decide +kernel
theorem dX8_isContent_4 : decode cX8_isContent 4 = .ok (.iload_n 2, 1) := by decide +kernel
theorem dX8_isContent_5 : decode cX8_isContent 5 = .ok (.invokestatic 355, 3) := by decide +kernel
theorem dX8_isContent_8 : decode cX8_isContent 8 = .ok (.iload_n 0, 1) := by decide +kernel
theorem dX8_isContent_9 : decode cX8_isContent 9 = .ok (.iload_n 1, 1) := by decide +kernel
theorem dX8_isContent_10 : decode cX8_isContent 10 = .ok (.iload_n 2, 1) := by decide +kernel
theorem dX8_isContent_11 : decode cX8_isContent 11 = .ok (.invokestatic 355, 3) := by decide +kernel
theorem dX8_isContent_14 : decode cX8_isContent 14 = .ok (.if_icmp .gt 7, 3) := by decide +kernel
theorem dX8_isContent_17 : decode cX8_isContent 17 = .ok (.iconst 1, 1) := by decide +kernel
theorem dX8_isContent_18 : decode cX8_isContent 18 = .ok (.goto 4, 3) := by decide +kernel
theorem dX8_isContent_21 : decode cX8_isContent 21 = .ok (.iconst 0, 1) := by decide +kernel
theorem dX8_isContent_22 : decode cX8_isContent 22 = .ok (.ireturn, 1) := by decide +kernel
theorem dX8_nextSeed_0 : decode cX8_nextSeed 0 = .ok (.iload_n 0, 1) := by decide +kernel
theorem dX8_nextSeed_1 : decode cX8_nextSeed 1 = .ok (.ldc_w 359, 3) := by decide +kernel
theorem dX8_nextSeed_4 : decode cX8_nextSeed 4 = .ok (.imul, 1) := by decide +kernel
theorem dX8_nextSeed_5 : decode cX8_nextSeed 5 = .ok (.sipush 12345, 3) := by decide +kernel
theorem dX8_nextSeed_8 : decode cX8_nextSeed 8 = .ok (.iadd, 1) := by decide +kernel
theorem dX8_nextSeed_9 : decode cX8_nextSeed 9 = .ok (.ireturn, 1) := by decide +kernel
theorem dX8_drawBelow_0 : decode cX8_drawBelow 0 = .ok (.iload_n 1, 1) := by decide +kernel
theorem dX8_drawBelow_1 : decode cX8_drawBelow 1 = .ok (.ldc_w 360, 3) := by decide +kernel
theorem dX8_drawBelow_4 : decode cX8_drawBelow 4 = .ok (.iand, 1) := by decide +kernel
theorem dX8_drawBelow_5 : decode cX8_drawBelow 5 = .ok (.ldc_w 361, 3) := by decide +kernel
theorem dX8_drawBelow_8 : decode cX8_drawBelow 8 = .ok (.idiv, 1) := by decide +kernel
theorem dX8_drawBelow_9 : decode cX8_drawBelow 9 = .ok (.istore_n 2, 1) := by decide +kernel
theorem dX8_drawBelow_10 : decode cX8_drawBelow 10 = .ok (.iload_n 0, 1) := by decide +kernel
theorem dX8_drawBelow_11 : decode cX8_drawBelow 11 = .ok (.iconst 1, 1) := by decide +kernel
theorem dX8_drawBelow_12 : decode cX8_drawBelow 12 = .ok (.if_icmp .ge 7, 3) := by decide +kernel
theorem dX8_drawBelow_15 : decode cX8_drawBelow 15 = .ok (.iconst 0, 1) := by decide +kernel
theorem dX8_drawBelow_16 : decode cX8_drawBelow 16 = .ok (.goto 6, 3) := by decide +kernel
theorem dX8_drawBelow_19 : decode cX8_drawBelow 19 = .ok (.iload_n 2, 1) := by decide +kernel
theorem dX8_drawBelow_20 : decode cX8_drawBelow 20 = .ok (.iload_n 0, 1) := by decide +kernel
theorem dX8_drawBelow_21 : decode cX8_drawBelow 21 = .ok (.irem, 1) := by decide +kernel
theorem dX8_drawBelow_22 : decode cX8_drawBelow 22 = .ok (.ireturn, 1) := by decide +kernel
theorem dX8_drawDeed_0 : decode cX8_drawDeed 0 = .ok (.iload_n 1, 1) := by decide +kernel
theorem dX8_drawDeed_1 : decode cX8_drawDeed 1 = .ok (.invokestatic 362, 3) := by decide +kernel
theorem dX8_drawDeed_4 : decode cX8_drawDeed 4 = .ok (.istore_n 2, 1) := by decide +kernel
theorem dX8_drawDeed_5 : decode cX8_drawDeed 5 = .ok (.iload_n 2, 1) := by decide +kernel
theorem dX8_drawDeed_6 : decode cX8_drawDeed 6 = .ok (.invokestatic 362, 3) := by decide +kernel
theorem dX8_drawDeed_9 : decode cX8_drawDeed 9 = .ok (.istore_n 3, 1) := by decide +kernel
theorem dX8_drawDeed_10 : decode cX8_drawDeed 10 = .ok (.iload_n 3, 1) := by decide +kernel
theorem dX8_drawDeed_11 : decode cX8_drawDeed 11 = .ok (.invokestatic 362, 3) := by decide +kernel
theorem dX8_drawDeed_14 : decode cX8_drawDeed 14 = .ok (.istore 4, 2) := by decide +kernel
theorem dX8_drawDeed_16 : decode cX8_drawDeed 16 = .ok (.iload 4, 2) := by decide +kernel
theorem dX8_drawDeed_18 : decode cX8_drawDeed 18 = .ok (.invokestatic 362, 3) := by decide +kernel
theorem dX8_drawDeed_21 : decode cX8_drawDeed 21 = .ok (.istore 5, 2) := by decide +kernel
theorem dX8_drawDeed_23 : decode cX8_drawDeed 23 = .ok (.iload 5, 2) := by decide +kernel
theorem dX8_drawDeed_25 : decode cX8_drawDeed 25 = .ok (.invokestatic 362, 3) := by decide +kernel
theorem dX8_drawDeed_28 : decode cX8_drawDeed 28 = .ok (.istore 6, 2) := by decide +kernel
theorem dX8_drawDeed_30 : decode cX8_drawDeed 30 = .ok (.aload_n 0, 1) := by decide +kernel
theorem dX8_drawDeed_31 : decode cX8_drawDeed 31 = .ok (.getfield 46, 3) := by decide +kernel
theorem dX8_drawDeed_34 : decode cX8_drawDeed 34 = .ok (.bipush 8, 2) := by decide +kernel
theorem dX8_drawDeed_36 : decode cX8_drawDeed 36 = .ok (.iload_n 2, 1) := by decide +kernel
theorem dX8_drawDeed_37 : decode cX8_drawDeed 37 = .ok (.invokestatic 365, 3) := by decide +kernel
theorem dX8_drawDeed_40 : decode cX8_drawDeed 40 = .ok (.bipush 10, 2) := by decide +kernel
theorem dX8_drawDeed_42 : decode cX8_drawDeed 42 = .ok (.iload_n 3, 1) := by decide +kernel
theorem dX8_drawDeed_43 : decode cX8_drawDeed 43 = .ok (.invokestatic 365, 3) := by decide +kernel
theorem dX8_drawDeed_46 : decode cX8_drawDeed 46 = .ok (.sipush 365, 3) := by decide +kernel
theorem dX8_drawDeed_49 : decode cX8_drawDeed 49 = .ok (.iload 4, 2) := by decide +kernel
theorem dX8_drawDeed_51 : decode cX8_drawDeed 51 = .ok (.invokestatic 365, 3) := by decide +kernel
theorem dX8_drawDeed_54 : decode cX8_drawDeed 54 = .ok (.iconst 5, 1) := by decide +kernel
theorem dX8_drawDeed_55 : decode cX8_drawDeed 55 = .ok (.iload 5, 2) := by decide +kernel
theorem dX8_drawDeed_57 : decode cX8_drawDeed 57 = .ok (.invokestatic 365, 3) := by decide +kernel
theorem dX8_drawDeed_60 : decode cX8_drawDeed 60 = .ok (.bipush 32, 2) := by decide +kernel
theorem dX8_drawDeed_62 : decode cX8_drawDeed 62 = .ok (.iload 6, 2) := by decide +kernel
theorem dX8_drawDeed_64 : decode cX8_drawDeed 64 = .ok (.invokestatic 365, 3) := by decide +kernel
theorem dX8_drawDeed_67 : decode cX8_drawDeed 67 = .ok (.invokevirtual 368, 3) := by decide +kernel
theorem dX8_drawDeed_70 : decode cX8_drawDeed 70 = .ok (.iload 6, 2) := by decide +kernel
theorem dX8_drawDeed_72 : decode cX8_drawDeed 72 = .ok (.ireturn, 1) := by decide +kernel
theorem dX8_caught_0 : decode cX8_caught 0 = .ok (.iload_n 0, 1) := by decide +kernel
theorem dX8_caught_1 : decode cX8_caught 1 = .ok (.iload_n 1, 1) := by decide +kernel
theorem dX8_caught_2 : decode cX8_caught 2 = .ok (.invokestatic 371, 3) := by decide +kernel
theorem dX8_caught_5 : decode cX8_caught 5 = .ok (.goto 23, 3) := by decide +kernel
theorem dX8_caught_8 : decode cX8_caught 8 = .ok (.astore_n 2, 1) := by decide +kernel
theorem dX8_caught_9 : decode cX8_caught 9 = .ok (.sipush 200, 3) := by decide +kernel
theorem dX8_caught_12 : decode cX8_caught 12 = .ok (.iload_n 0, 1) := by decide +kernel
theorem dX8_caught_13 : decode cX8_caught 13 = .ok (.iload_n 1, 1) := by decide +kernel
theorem dX8_caught_14 : decode cX8_caught 14 = .ok (.invokestatic 341, 3) := by decide +kernel
theorem dX8_caught_17 : decode cX8_caught 17 = .ok (.iadd, 1) := by decide +kernel
theorem dX8_caught_18 : decode cX8_caught 18 = .ok (.ireturn, 1) := by decide +kernel
theorem dX8_caught_19 : decode cX8_caught 19 = .ok (.astore_n 2, 1) := by decide +kernel
theorem dX8_caught_20 : decode cX8_caught 20 = .ok (.bipush 100, 2) := by decide +kernel
theorem dX8_caught_22 : decode cX8_caught 22 = .ok (.iload_n 1, 1) := by decide +kernel
theorem dX8_caught_23 : decode cX8_caught 23 = .ok (.iadd, 1) := by decide +kernel
theorem dX8_caught_24 : decode cX8_caught 24 = .ok (.ireturn, 1) := by decide +kernel
theorem dX8_caught_25 : decode cX8_caught 25 = .ok (.astore_n 2, 1) := by decide +kernel
theorem dX8_caught_26 : decode cX8_caught 26 = .ok (.iload_n 1, 1) := by decide +kernel
theorem dX8_caught_27 : decode cX8_caught 27 = .ok (.ireturn, 1) := by decide +kernel
theorem dX8_caught_28 : decode cX8_caught 28 = .ok (.bipush (-15), 2) := by decide +kernel
theorem dX8_caught_30 : decode cX8_caught 30 = .ok (.ireturn, 1) := by decide +kernel
