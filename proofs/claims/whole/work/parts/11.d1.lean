theorem dX0_init_0 : decode cX0_init 0 = .ok (.aload_n 0, 1) := by decide +kernel
theorem dX0_init_1 : decode cX0_init 1 = .ok (.invokespecial 3, 3) := by decide +kernel
theorem dX0_init_4 : decode cX0_init 4 = .ok (.aload_n 0, 1) := by decide +kernel
theorem dX0_init_5 : decode cX0_init 5 = .ok (.new 9, 3) := by decide +kernel
theorem dX0_init_8 : decode cX0_init 8 = .ok (.dup, 1) := by decide +kernel
theorem dX0_init_9 : decode cX0_init 9 = .ok (.invokespecial 11, 3) := by decide +kernel
theorem dX0_init_12 : decode cX0_init 12 = .ok (.putfield 12, 3) := by decide +kernel
theorem dX0_init_15 : decode cX0_init 15 = .ok (.aload_n 0, 1) := by decide +kernel
theorem dX0_init_16 : decode cX0_init 16 = .ok (.bipush 10, 2) := by decide +kernel
theorem dX0_init_18 : decode cX0_init 18 = .ok (.newarray .int, 2) := by decide +kernel
theorem dX0_init_20 : decode cX0_init 20 = .ok (.putfield 18, 3) := by decide +kernel
theorem dX0_init_23 : decode cX0_init 23 = .ok (.aload_n 0, 1) := by decide +kernel
theorem dX0_init_24 : decode cX0_init 24 = .ok (.bipush 10, 2) := by decide +kernel
theorem dX0_init_26 : decode cX0_init 26 = .ok (.newarray .int, 2) := by decide +kernel
theorem dX0_init_28 : decode cX0_init 28 = .ok (.putfield 22, 3) := by decide +kernel
theorem dX0_init_31 : decode cX0_init 31 = .ok (.aload_n 0, 1) := by decide +kernel
theorem dX0_init_32 : decode cX0_init 32 = .ok (.iconst 0, 1) := by decide +kernel
theorem dX0_init_33 : decode cX0_init 33 = .ok (.putfield 25, 3) := by decide +kernel
theorem dX0_init_36 : decode cX0_init 36 = .ok (.aload_n 0, 1) := by decide +kernel
theorem dX0_init_37 : decode cX0_init 37 = .ok (.iconst 0, 1) := by decide +kernel
theorem dX0_init_38 : decode cX0_init 38 = .ok (.putfield 29, 3) := by decide +kernel
theorem dX0_init_41 : decode cX0_init 41 = .ok (.return_, 1) := by decide +kernel
theorem dX0_print_0 : decode cX0_print 0 = .ok (.aload_n 0, 1) := by decide +kernel
theorem dX0_print_1 : decode cX0_print 1 = .ok (.iconst 0, 1) := by decide +kernel
theorem dX0_print_2 : decode cX0_print 2 = .ok (.putfield 25, 3) := by decide +kernel
theorem dX0_print_5 : decode cX0_print 5 = .ok (.iconst 0, 1) := by decide +kernel
theorem dX0_print_6 : decode cX0_print 6 = .ok (.istore_n 1, 1) := by decide +kernel
theorem dX0_print_7 : decode cX0_print 7 = .ok (.iload_n 1, 1) := by decide +kernel
theorem dX0_print_8 : decode cX0_print 8 = .ok (.aload_n 0, 1) := by decide +kernel
theorem dX0_print_9 : decode cX0_print 9 = .ok (.getfield 12, 3) := by decide +kernel
theorem dX0_print_12 : decode cX0_print 12 = .ok (.getfield 32, 3) := by decide +kernel
theorem dX0_print_15 : decode cX0_print 15 = .ok (.if_icmp .ge 28, 3) := by decide +kernel
theorem dX0_print_18 : decode cX0_print 18 = .ok (.aload_n 0, 1) := by decide +kernel
theorem dX0_print_19 : decode cX0_print 19 = .ok (.getfield 12, 3) := by decide +kernel
theorem dX0_print_22 : decode cX0_print 22 = .ok (.iload_n 1, 1) := by decide +kernel
theorem dX0_print_23 : decode cX0_print 23 = .ok (.invokevirtual 35, 3) := by decide +kernel
theorem dX0_print_26 : decode cX0_print 26 = .ok (.astore_n 2, 1) := by decide +kernel
theorem dX0_print_27 : decode cX0_print 27 = .ok (.aload_n 2, 1) := by decide +kernel
theorem dX0_print_28 : decode cX0_print 28 = .ok (.ifnull 9, 3) := by decide +kernel
theorem dX0_print_31 : decode cX0_print 31 = .ok (.aload_n 0, 1) := by decide +kernel
theorem dX0_print_32 : decode cX0_print 32 = .ok (.iload_n 1, 1) := by decide +kernel
theorem dX0_print_33 : decode cX0_print 33 = .ok (.aload_n 2, 1) := by decide +kernel
theorem dX0_print_34 : decode cX0_print 34 = .ok (.invokevirtual 39, 3) := by decide +kernel
theorem dX0_print_37 : decode cX0_print 37 = .ok (.iinc 1 1, 3) := by decide +kernel
theorem dX0_print_40 : decode cX0_print 40 = .ok (.goto (-33), 3) := by decide +kernel
theorem dX0_print_43 : decode cX0_print 43 = .ok (.aload_n 0, 1) := by decide +kernel
theorem dX0_print_44 : decode cX0_print 44 = .ok (.invokevirtual 43, 3) := by decide +kernel
theorem dX0_print_47 : decode cX0_print 47 = .ok (.return_, 1) := by decide +kernel
theorem dX0_setIn_0 : decode cX0_setIn 0 = .ok (.aload_n 0, 1) := by decide +kernel
theorem dX0_setIn_1 : decode cX0_setIn 1 = .ok (.getfield 25, 3) := by decide +kernel
theorem dX0_setIn_4 : decode cX0_setIn 4 = .ok (.aload_n 0, 1) := by decide +kernel
theorem dX0_setIn_5 : decode cX0_setIn 5 = .ok (.getfield 18, 3) := by decide +kernel
theorem dX0_setIn_8 : decode cX0_setIn 8 = .ok (.arraylength, 1) := by decide +kernel
theorem dX0_setIn_9 : decode cX0_setIn 9 = .ok (.if_icmp .lt 4, 3) := by decide +kernel
theorem dX0_setIn_12 : decode cX0_setIn 12 = .ok (.return_, 1) := by decide +kernel
theorem dX0_setIn_13 : decode cX0_setIn 13 = .ok (.aload_n 0, 1) := by decide +kernel
theorem dX0_setIn_14 : decode cX0_setIn 14 = .ok (.getfield 25, 3) := by decide +kernel
theorem dX0_setIn_17 : decode cX0_setIn 17 = .ok (.istore_n 3, 1) := by decide +kernel
theorem dX0_setIn_18 : decode cX0_setIn 18 = .ok (.iload_n 3, 1) := by decide +kernel
theorem dX0_setIn_19 : decode cX0_setIn 19 = .ok (.ifCond .le 37, 3) := by decide +kernel
theorem dX0_setIn_22 : decode cX0_setIn 22 = .ok (.aload_n 2, 1) := by decide +kernel
theorem dX0_setIn_23 : decode cX0_setIn 23 = .ok (.aload_n 0, 1) := by decide +kernel
theorem dX0_setIn_24 : decode cX0_setIn 24 = .ok (.iload_n 3, 1) := by decide +kernel
theorem dX0_setIn_25 : decode cX0_setIn 25 = .ok (.iconst 1, 1) := by decide +kernel
theorem dX0_setIn_26 : decode cX0_setIn 26 = .ok (.isub, 1) := by decide +kernel
theorem dX0_setIn_27 : decode cX0_setIn 27 = .ok (.invokevirtual 46, 3) := by decide +kernel
theorem dX0_setIn_30 : decode cX0_setIn 30 = .ok (.invokestatic 49, 3) := by decide +kernel
theorem dX0_setIn_33 : decode cX0_setIn 33 = .ok (.ifCond .eq 23, 3) := by decide +kernel
theorem dX0_setIn_36 : decode cX0_setIn 36 = .ok (.aload_n 0, 1) := by decide +kernel
theorem dX0_setIn_37 : decode cX0_setIn 37 = .ok (.getfield 18, 3) := by decide +kernel
theorem dX0_setIn_40 : decode cX0_setIn 40 = .ok (.iload_n 3, 1) := by decide +kernel
theorem dX0_setIn_41 : decode cX0_setIn 41 = .ok (.aload_n 0, 1) := by decide +kernel
theorem dX0_setIn_42 : decode cX0_setIn 42 = .ok (.getfield 18, 3) := by decide +kernel
theorem dX0_setIn_45 : decode cX0_setIn 45 = .ok (.iload_n 3, 1) := by decide +kernel
theorem dX0_setIn_46 : decode cX0_setIn 46 = .ok (.iconst 1, 1) := by decide +kernel
theorem dX0_setIn_47 : decode cX0_setIn 47 = .ok (.isub, 1) := by decide +kernel
theorem dX0_setIn_48 : decode cX0_setIn 48 = .ok (.iaload, 1) := by decide +kernel
theorem dX0_setIn_49 : decode cX0_setIn 49 = .ok (.iastore, 1) := by decide +kernel
theorem dX0_setIn_50 : decode cX0_setIn 50 = .ok (.iinc 3 (-1), 3) := by decide +kernel
theorem dX0_setIn_53 : decode cX0_setIn 53 = .ok (.goto (-35), 3) := by decide +kernel
theorem dX0_setIn_56 : decode cX0_setIn 56 = .ok (.aload_n 0, 1) := by decide +kernel
theorem dX0_setIn_57 : decode cX0_setIn 57 = .ok (.getfield 18, 3) := by decide +kernel
theorem dX0_setIn_60 : decode cX0_setIn 60 = .ok (.iload_n 3, 1) := by decide +kernel
theorem dX0_setIn_61 : decode cX0_setIn 61 = .ok (.iload_n 1, 1) := by decide +kernel
theorem dX0_setIn_62 : decode cX0_setIn 62 = .ok (.iastore, 1) := by decide +kernel
theorem dX0_setIn_63 : decode cX0_setIn 63 = .ok (.aload_n 0, 1) := by decide +kernel
theorem dX0_setIn_64 : decode cX0_setIn 64 = .ok (.dup, 1) := by decide +kernel
theorem dX0_setIn_65 : decode cX0_setIn 65 = .ok (.getfield 25, 3) := by decide +kernel
theorem dX0_setIn_68 : decode cX0_setIn 68 = .ok (.iconst 1, 1) := by decide +kernel
theorem dX0_setIn_69 : decode cX0_setIn 69 = .ok (.iadd, 1) := by decide +kernel
theorem dX0_setIn_70 : decode cX0_setIn 70 = .ok (.putfield 25, 3) := by decide +kernel
theorem dX0_setIn_73 : decode cX0_setIn 73 = .ok (.return_, 1) := by decide +kernel
theorem dX0_goesAhead_0 : decode cX0_goesAhead 0 = .ok (.aload_n 0, 1) := by decide +kernel
theorem dX0_goesAhead_1 : decode cX0_goesAhead 1 = .ok (.ifnull 7, 3) := by decide +kernel
theorem dX0_goesAhead_4 : decode cX0_goesAhead 4 = .ok (.aload_n 1, 1) := by decide +kernel
theorem dX0_goesAhead_5 : decode cX0_goesAhead 5 = .ok (.ifnonnull 5, 3) := by decide +kernel
theorem dX0_goesAhead_8 : decode cX0_goesAhead 8 = .ok (.iconst 0, 1) := by decide +kernel
theorem dX0_goesAhead_9 : decode cX0_goesAhead 9 = .ok (.ireturn, 1) := by decide +kernel
theorem dX0_goesAhead_10 : decode cX0_goesAhead 10 = .ok (.aload_n 0, 1) := by decide +kernel
theorem dX0_goesAhead_11 : decode cX0_goesAhead 11 = .ok (.getfield 53, 3) := by decide +kernel
theorem dX0_goesAhead_14 : decode cX0_goesAhead 14 = .ok (.aload_n 1, 1) := by decide +kernel
theorem dX0_goesAhead_15 : decode cX0_goesAhead 15 = .ok (.getfield 53, 3) := by decide +kernel
theorem dX0_goesAhead_18 : decode cX0_goesAhead 18 = .ok (.if_icmp .lt 25, 3) := by decide +kernel
theorem dX0_goesAhead_21 : decode cX0_goesAhead 21 = .ok (.aload_n 0, 1) := by decide +kernel
theorem dX0_goesAhead_22 : decode cX0_goesAhead 22 = .ok (.getfield 53, 3) := by decide +kernel
theorem dX0_goesAhead_25 : decode cX0_goesAhead 25 = .ok (.aload_n 1, 1) := by decide +kernel
theorem dX0_goesAhead_26 : decode cX0_goesAhead 26 = .ok (.getfield 53, 3) := by decide +kernel
theorem dX0_goesAhead_29 : decode cX0_goesAhead 29 = .ok (.if_icmp .ne 18, 3) := by decide +kernel
theorem dX0_goesAhead_32 : decode cX0_goesAhead 32 = .ok (.aload_n 0, 1) := by decide +kernel
theorem dX0_goesAhead_33 : decode cX0_goesAhead 33 = .ok (.invokevirtual 58, 3) := by decide +kernel
theorem dX0_goesAhead_36 : decode cX0_goesAhead 36 = .ok (.aload_n 1, 1) := by decide +kernel
theorem dX0_goesAhead_37 : decode cX0_goesAhead 37 = .ok (.invokevirtual 58, 3) := by decide +kernel
theorem dX0_goesAhead_40 : decode cX0_goesAhead 40 = .ok (.if_icmp .le 7, 3) := by decide +kernel
theorem dX0_goesAhead_43 : decode cX0_goesAhead 43 = .ok (.iconst 1, 1) := by decide +kernel
theorem dX0_goesAhead_44 : decode cX0_goesAhead 44 = .ok (.goto 4, 3) := by decide +kernel
theorem dX0_goesAhead_47 : decode cX0_goesAhead 47 = .ok (.iconst 0, 1) := by decide +kernel
theorem dX0_goesAhead_48 : decode cX0_goesAhead 48 = .ok (.ireturn, 1) := by decide +kernel
theorem dX0_breakPages_0 : decode cX0_breakPages 0 = .ok (.aload_n 0, 1) := by decide +kernel
theorem dX0_breakPages_1 : decode cX0_breakPages 1 = .ok (.iconst 0, 1) := by decide +kernel
theorem dX0_breakPages_2 : decode cX0_breakPages 2 = .ok (.putfield 29, 3) := by decide +kernel
theorem dX0_breakPages_5 : decode cX0_breakPages 5 = .ok (.iconst 0, 1) := by decide +kernel
theorem dX0_breakPages_6 : decode cX0_breakPages 6 = .ok (.istore_n 1, 1) := by decide +kernel
theorem dX0_breakPages_7 : decode cX0_breakPages 7 = .ok (.iconst 0, 1) := by decide +kernel
theorem dX0_breakPages_8 : decode cX0_breakPages 8 = .ok (.istore_n 2, 1) := by decide +kernel
theorem dX0_breakPages_9 : decode cX0_breakPages 9 = .ok (.iload_n 2, 1) := by decide +kernel
theorem dX0_breakPages_10 : decode cX0_breakPages 10 = .ok (.aload_n 0, 1) := by decide +kernel
theorem dX0_breakPages_11 : decode cX0_breakPages 11 = .ok (.getfield 25, 3) := by decide +kernel
theorem dX0_breakPages_14 : decode cX0_breakPages 14 = .ok (.if_icmp .ge 80, 3) := by decide +kernel
theorem dX0_breakPages_17 : decode cX0_breakPages 17 = .ok (.iload_n 2, 1) := by decide +kernel
theorem dX0_breakPages_18 : decode cX0_breakPages 18 = .ok (.aload_n 0, 1) := by decide +kernel
theorem dX0_breakPages_19 : decode cX0_breakPages 19 = .ok (.getfield 22, 3) := by decide +kernel
theorem dX0_breakPages_22 : decode cX0_breakPages 22 = .ok (.arraylength, 1) := by decide +kernel
theorem dX0_breakPages_23 : decode cX0_breakPages 23 = .ok (.if_icmp .ge 71, 3) := by decide +kernel
theorem dX0_breakPages_26 : decode cX0_breakPages 26 = .ok (.aload_n 0, 1) := by decide +kernel
theorem dX0_breakPages_27 : decode cX0_breakPages 27 = .ok (.iload_n 2, 1) := by decide +kernel
theorem dX0_breakPages_28 : decode cX0_breakPages 28 = .ok (.invokevirtual 46, 3) := by decide +kernel
theorem dX0_breakPages_31 : decode cX0_breakPages 31 = .ok (.astore_n 3, 1) := by decide +kernel
theorem dX0_breakPages_32 : decode cX0_breakPages 32 = .ok (.aload_n 3, 1) := by decide +kernel
theorem dX0_breakPages_33 : decode cX0_breakPages 33 = .ok (.ifnull 10, 3) := by decide +kernel
theorem dX0_breakPages_36 : decode cX0_breakPages 36 = .ok (.aload_n 3, 1) := by decide +kernel
theorem dX0_breakPages_37 : decode cX0_breakPages 37 = .ok (.invokevirtual 58, 3) := by decide +kernel
theorem dX0_breakPages_40 : decode cX0_breakPages 40 = .ok (.goto 4, 3) := by decide +kernel
theorem dX0_breakPages_43 : decode cX0_breakPages 43 = .ok (.iconst 0, 1) := by decide +kernel
theorem dX0_breakPages_44 : decode cX0_breakPages 44 = .ok (.istore 4, 2) := by decide +kernel
theorem dX0_breakPages_46 : decode cX0_breakPages 46 = .ok (.iload_n 2, 1) := by decide +kernel
theorem dX0_breakPages_47 : decode cX0_breakPages 47 = .ok (.ifCond .eq 12, 3) := by decide +kernel
theorem dX0_breakPages_50 : decode cX0_breakPages 50 = .ok (.iload_n 1, 1) := by decide +kernel
theorem dX0_breakPages_51 : decode cX0_breakPages 51 = .ok (.iload 4, 2) := by decide +kernel
theorem dX0_breakPages_53 : decode cX0_breakPages 53 = .ok (.iadd, 1) := by decide +kernel
theorem dX0_breakPages_54 : decode cX0_breakPages 54 = .ok (.bipush 30, 2) := by decide +kernel
theorem dX0_breakPages_56 : decode cX0_breakPages 56 = .ok (.if_icmp .le 15, 3) := by decide +kernel
theorem dX0_breakPages_59 : decode cX0_breakPages 59 = .ok (.aload_n 0, 1) := by decide +kernel
theorem dX0_breakPages_60 : decode cX0_breakPages 60 = .ok (.dup, 1) := by decide +kernel
theorem dX0_breakPages_61 : decode cX0_breakPages 61 = .ok (.getfield 29, 3) := by decide +kernel
theorem dX0_breakPages_64 : decode cX0_breakPages 64 = .ok (.iconst 1, 1) := by decide +kernel
theorem dX0_breakPages_65 : decode cX0_breakPages 65 = .ok (.iadd, 1) := by decide +kernel
theorem dX0_breakPages_66 : decode cX0_breakPages 66 = .ok (.putfield 29, 3) := by decide +kernel
theorem dX0_breakPages_69 : decode cX0_breakPages 69 = .ok (.iconst 0, 1) := by decide +kernel
theorem dX0_breakPages_70 : decode cX0_breakPages 70 = .ok (.istore_n 1, 1) := by decide +kernel
theorem dX0_breakPages_71 : decode cX0_breakPages 71 = .ok (.iload_n 1, 1) := by decide +kernel
theorem dX0_breakPages_72 : decode cX0_breakPages 72 = .ok (.iload 4, 2) := by decide +kernel
theorem dX0_breakPages_74 : decode cX0_breakPages 74 = .ok (.iadd, 1) := by decide +kernel
theorem dX0_breakPages_75 : decode cX0_breakPages 75 = .ok (.istore_n 1, 1) := by decide +kernel
theorem dX0_breakPages_76 : decode cX0_breakPages 76 = .ok (.aload_n 0, 1) := by decide +kernel
theorem dX0_breakPages_77 : decode cX0_breakPages 77 = .ok (.getfield 22, 3) := by decide +kernel
theorem dX0_breakPages_80 : decode cX0_breakPages 80 = .ok (.iload_n 2, 1) := by decide +kernel
theorem dX0_breakPages_81 : decode cX0_breakPages 81 = .ok (.aload_n 0, 1) := by decide +kernel
theorem dX0_breakPages_82 : decode cX0_breakPages 82 = .ok (.getfield 29, 3) := by decide +kernel
theorem dX0_breakPages_85 : decode cX0_breakPages 85 = .ok (.iconst 1, 1) := by decide +kernel
theorem dX0_breakPages_86 : decode cX0_breakPages 86 = .ok (.isub, 1) := by decide +kernel
theorem dX0_breakPages_87 : decode cX0_breakPages 87 = .ok (.iastore, 1) := by decide +kernel
theorem dX0_breakPages_88 : decode cX0_breakPages 88 = .ok (.iinc 2 1, 3) := by decide +kernel
theorem dX0_breakPages_91 : decode cX0_breakPages 91 = .ok (.goto (-82), 3) := by decide +kernel
theorem dX0_breakPages_94 : decode cX0_breakPages 94 = .ok (.return_, 1) := by decide +kernel
theorem dX0_numberIn_0 : decode cX0_numberIn 0 = .ok (.iload_n 1, 1) := by decide +kernel
theorem dX0_numberIn_1 : decode cX0_numberIn 1 = .ok (.ifCond .lt 29, 3) := by decide +kernel
theorem dX0_numberIn_4 : decode cX0_numberIn 4 = .ok (.iload_n 1, 1) := by decide +kernel
theorem dX0_numberIn_5 : decode cX0_numberIn 5 = .ok (.aload_n 0, 1) := by decide +kernel
theorem dX0_numberIn_6 : decode cX0_numberIn 6 = .ok (.getfield 25, 3) := by decide +kernel
theorem dX0_numberIn_9 : decode cX0_numberIn 9 = .ok (.if_icmp .ge 21, 3) := by decide +kernel
theorem dX0_numberIn_12 : decode cX0_numberIn 12 = .ok (.iload_n 1, 1) := by decide +kernel
theorem dX0_numberIn_13 : decode cX0_numberIn 13 = .ok (.aload_n 0, 1) := by decide +kernel
theorem dX0_numberIn_14 : decode cX0_numberIn 14 = .ok (.getfield 18, 3) := by decide +kernel
theorem dX0_numberIn_17 : decode cX0_numberIn 17 = .ok (.arraylength, 1) := by decide +kernel
theorem dX0_numberIn_18 : decode cX0_numberIn 18 = .ok (.if_icmp .ge 12, 3) := by decide +kernel
theorem dX0_numberIn_21 : decode cX0_numberIn 21 = .ok (.aload_n 0, 1) := by decide +kernel
theorem dX0_numberIn_22 : decode cX0_numberIn 22 = .ok (.getfield 18, 3) := by decide +kernel
theorem dX0_numberIn_25 : decode cX0_numberIn 25 = .ok (.iload_n 1, 1) := by decide +kernel
theorem dX0_numberIn_26 : decode cX0_numberIn 26 = .ok (.iaload, 1) := by decide +kernel
theorem dX0_numberIn_27 : decode cX0_numberIn 27 = .ok (.goto 5, 3) := by decide +kernel
theorem dX0_numberIn_30 : decode cX0_numberIn 30 = .ok (.bipush (-4), 2) := by decide +kernel
theorem dX0_numberIn_32 : decode cX0_numberIn 32 = .ok (.ireturn, 1) := by decide +kernel
theorem dX0_pageIn_0 : decode cX0_pageIn 0 = .ok (.iload_n 1, 1) := by decide +kernel
theorem dX0_pageIn_1 : decode cX0_pageIn 1 = .ok (.ifCond .lt 29, 3) := by decide +kernel
theorem dX0_pageIn_4 : decode cX0_pageIn 4 = .ok (.iload_n 1, 1) := by decide +kernel
theorem dX0_pageIn_5 : decode cX0_pageIn 5 = .ok (.aload_n 0, 1) := by decide +kernel
theorem dX0_pageIn_6 : decode cX0_pageIn 6 = .ok (.getfield 25, 3) := by decide +kernel
theorem dX0_pageIn_9 : decode cX0_pageIn 9 = .ok (.if_icmp .ge 21, 3) := by decide +kernel
theorem dX0_pageIn_12 : decode cX0_pageIn 12 = .ok (.iload_n 1, 1) := by decide +kernel
theorem dX0_pageIn_13 : decode cX0_pageIn 13 = .ok (.aload_n 0, 1) := by decide +kernel
theorem dX0_pageIn_14 : decode cX0_pageIn 14 = .ok (.getfield 22, 3) := by decide +kernel
theorem dX0_pageIn_17 : decode cX0_pageIn 17 = .ok (.arraylength, 1) := by decide +kernel
theorem dX0_pageIn_18 : decode cX0_pageIn 18 = .ok (.if_icmp .ge 12, 3) := by decide +kernel
theorem dX0_pageIn_21 : decode cX0_pageIn 21 = .ok (.aload_n 0, 1) := by decide +kernel
theorem dX0_pageIn_22 : decode cX0_pageIn 22 = .ok (.getfield 22, 3) := by decide +kernel
theorem dX0_pageIn_25 : decode cX0_pageIn 25 = .ok (.iload_n 1, 1) := by decide +kernel
theorem dX0_pageIn_26 : decode cX0_pageIn 26 = .ok (.iaload, 1) := by decide +kernel
theorem dX0_pageIn_27 : decode cX0_pageIn 27 = .ok (.goto 5, 3) := by decide +kernel
theorem dX0_pageIn_30 : decode cX0_pageIn 30 = .ok (.bipush (-4), 2) := by decide +kernel
theorem dX0_pageIn_32 : decode cX0_pageIn 32 = .ok (.ireturn, 1) := by decide +kernel
theorem dX0_deedIn_0 : decode cX0_deedIn 0 = .ok (.aload_n 0, 1) := by decide +kernel
theorem dX0_deedIn_1 : decode cX0_deedIn 1 = .ok (.getfield 12, 3) := by decide +kernel
theorem dX0_deedIn_4 : decode cX0_deedIn 4 = .ok (.aload_n 0, 1) := by decide +kernel
theorem dX0_deedIn_5 : decode cX0_deedIn 5 = .ok (.iload_n 1, 1) := by decide +kernel
theorem dX0_deedIn_6 : decode cX0_deedIn 6 = .ok (.invokevirtual 62, 3) := by decide +kernel
theorem dX0_deedIn_9 : decode cX0_deedIn 9 = .ok (.invokevirtual 66, 3) := by decide +kernel
theorem dX0_deedIn_12 : decode cX0_deedIn 12 = .ok (.areturn, 1) := by decide +kernel
theorem dX0_placeOf_0 : decode cX0_placeOf 0 = .ok (.iconst 0, 1) := by decide +kernel
theorem dX0_placeOf_1 : decode cX0_placeOf 1 = .ok (.istore_n 2, 1) := by decide +kernel
theorem dX0_placeOf_2 : decode cX0_placeOf 2 = .ok (.iload_n 2, 1) := by decide +kernel
theorem dX0_placeOf_3 : decode cX0_placeOf 3 = .ok (.aload_n 0, 1) := by decide +kernel
theorem dX0_placeOf_4 : decode cX0_placeOf 4 = .ok (.getfield 25, 3) := by decide +kernel
theorem dX0_placeOf_7 : decode cX0_placeOf 7 = .ok (.if_icmp .ge 20, 3) := by decide +kernel
theorem dX0_placeOf_10 : decode cX0_placeOf 10 = .ok (.aload_n 0, 1) := by decide +kernel
theorem dX0_placeOf_11 : decode cX0_placeOf 11 = .ok (.iload_n 2, 1) := by decide +kernel
theorem dX0_placeOf_12 : decode cX0_placeOf 12 = .ok (.invokevirtual 62, 3) := by decide +kernel
theorem dX0_placeOf_15 : decode cX0_placeOf 15 = .ok (.iload_n 1, 1) := by decide +kernel
theorem dX0_placeOf_16 : decode cX0_placeOf 16 = .ok (.if_icmp .ne 5, 3) := by decide +kernel
theorem dX0_placeOf_19 : decode cX0_placeOf 19 = .ok (.iload_n 2, 1) := by decide +kernel
theorem dX0_placeOf_20 : decode cX0_placeOf 20 = .ok (.ireturn, 1) := by decide +kernel
theorem dX0_placeOf_21 : decode cX0_placeOf 21 = .ok (.iinc 2 1, 3) := by decide +kernel
theorem dX0_placeOf_24 : decode cX0_placeOf 24 = .ok (.goto (-22), 3) := by decide +kernel
theorem dX0_placeOf_27 : decode cX0_placeOf 27 = .ok (.bipush (-4), 2) := by decide +kernel
theorem dX0_placeOf_29 : decode cX0_placeOf 29 = .ok (.ireturn, 1) := by decide +kernel
theorem dX0_pageOf_0 : decode cX0_pageOf 0 = .ok (.aload_n 0, 1) := by decide +kernel
theorem dX0_pageOf_1 : decode cX0_pageOf 1 = .ok (.aload_n 0, 1) := by decide +kernel
theorem dX0_pageOf_2 : decode cX0_pageOf 2 = .ok (.iload_n 1, 1) := by decide +kernel
theorem dX0_pageOf_3 : decode cX0_pageOf 3 = .ok (.invokevirtual 69, 3) := by decide +kernel
theorem dX0_pageOf_6 : decode cX0_pageOf 6 = .ok (.invokevirtual 72, 3) := by decide +kernel
theorem dX0_pageOf_9 : decode cX0_pageOf 9 = .ok (.ireturn, 1) := by decide +kernel
theorem dX0_greatestBy_0 : decode cX0_greatestBy 0 = .ok (.bipush (-4), 2) := by decide +kernel
theorem dX0_greatestBy_2 : decode cX0_greatestBy 2 = .ok (.istore_n 2, 1) := by decide +kernel
theorem dX0_greatestBy_3 : decode cX0_greatestBy 3 = .ok (.iconst (-1), 1) := by decide +kernel
theorem dX0_greatestBy_4 : decode cX0_greatestBy 4 = .ok (.istore_n 3, 1) := by decide +kernel
theorem dX0_greatestBy_5 : decode cX0_greatestBy 5 = .ok (.iconst 0, 1) := by decide +kernel
theorem dX0_greatestBy_6 : decode cX0_greatestBy 6 = .ok (.istore 4, 2) := by decide +kernel
theorem dX0_greatestBy_8 : decode cX0_greatestBy 8 = .ok (.iload 4, 2) := by decide +kernel
theorem dX0_greatestBy_10 : decode cX0_greatestBy 10 = .ok (.aload_n 0, 1) := by decide +kernel
theorem dX0_greatestBy_11 : decode cX0_greatestBy 11 = .ok (.getfield 25, 3) := by decide +kernel
theorem dX0_greatestBy_14 : decode cX0_greatestBy 14 = .ok (.if_icmp .ge 53, 3) := by decide +kernel
theorem dX0_greatestBy_17 : decode cX0_greatestBy 17 = .ok (.aload_n 0, 1) := by decide +kernel
theorem dX0_greatestBy_18 : decode cX0_greatestBy 18 = .ok (.iload 4, 2) := by decide +kernel
theorem dX0_greatestBy_20 : decode cX0_greatestBy 20 = .ok (.invokevirtual 46, 3) := by decide +kernel
theorem dX0_greatestBy_23 : decode cX0_greatestBy 23 = .ok (.astore 5, 2) := by decide +kernel
theorem dX0_greatestBy_25 : decode cX0_greatestBy 25 = .ok (.aload 5, 2) := by decide +kernel
theorem dX0_greatestBy_27 : decode cX0_greatestBy 27 = .ok (.ifnull 34, 3) := by decide +kernel
theorem dX0_greatestBy_30 : decode cX0_greatestBy 30 = .ok (.aload 5, 2) := by decide +kernel
theorem dX0_greatestBy_32 : decode cX0_greatestBy 32 = .ok (.getfield 75, 3) := by decide +kernel
theorem dX0_greatestBy_35 : decode cX0_greatestBy 35 = .ok (.iload_n 1, 1) := by decide +kernel
theorem dX0_greatestBy_36 : decode cX0_greatestBy 36 = .ok (.if_icmp .ne 25, 3) := by decide +kernel
theorem dX0_greatestBy_39 : decode cX0_greatestBy 39 = .ok (.aload 5, 2) := by decide +kernel
theorem dX0_greatestBy_41 : decode cX0_greatestBy 41 = .ok (.invokevirtual 58, 3) := by decide +kernel
theorem dX0_greatestBy_44 : decode cX0_greatestBy 44 = .ok (.iload_n 3, 1) := by decide +kernel
theorem dX0_greatestBy_45 : decode cX0_greatestBy 45 = .ok (.if_icmp .le 16, 3) := by decide +kernel
theorem dX0_greatestBy_48 : decode cX0_greatestBy 48 = .ok (.aload 5, 2) := by decide +kernel
theorem dX0_greatestBy_50 : decode cX0_greatestBy 50 = .ok (.invokevirtual 58, 3) := by decide +kernel
theorem dX0_greatestBy_53 : decode cX0_greatestBy 53 = .ok (.istore_n 3, 1) := by decide +kernel
theorem dX0_greatestBy_54 : decode cX0_greatestBy 54 = .ok (.aload_n 0, 1) := by decide +kernel
theorem dX0_greatestBy_55 : decode cX0_greatestBy 55 = .ok (.iload 4, 2) := by decide +kernel
theorem dX0_greatestBy_57 : decode cX0_greatestBy 57 = .ok (.invokevirtual 62, 3) := by decide +kernel
theorem dX0_greatestBy_60 : decode cX0_greatestBy 60 = .ok (.istore_n 2, 1) := by decide +kernel
theorem dX0_greatestBy_61 : decode cX0_greatestBy 61 = .ok (.iinc 4 1, 3) := by decide +kernel
theorem dX0_greatestBy_64 : decode cX0_greatestBy 64 = .ok (.goto (-56), 3) := by decide +kernel
theorem dX0_greatestBy_67 : decode cX0_greatestBy 67 = .ok (.iload_n 2, 1) := by decide +kernel
theorem dX0_greatestBy_68 : decode cX0_greatestBy 68 = .ok (.ireturn, 1) := by decide +kernel
theorem dX0_newsFor_0 : decode cX0_newsFor 0 = .ok (.iconst 0, 1) := by decide +kernel
theorem dX0_newsFor_1 : decode cX0_newsFor 1 = .ok (.istore_n 3, 1) := by decide +kernel
theorem dX0_newsFor_2 : decode cX0_newsFor 2 = .ok (.iconst 0, 1) := by decide +kernel
theorem dX0_newsFor_3 : decode cX0_newsFor 3 = .ok (.istore 4, 2) := by decide +kernel
theorem dX0_newsFor_5 : decode cX0_newsFor 5 = .ok (.iload 4, 2) := by decide +kernel
theorem dX0_newsFor_7 : decode cX0_newsFor 7 = .ok (.aload_n 0, 1) := by decide +kernel
theorem dX0_newsFor_8 : decode cX0_newsFor 8 = .ok (.getfield 25, 3) := by decide +kernel
theorem dX0_newsFor_11 : decode cX0_newsFor 11 = .ok (.if_icmp .ge 72, 3) := by decide +kernel
theorem dX0_newsFor_14 : decode cX0_newsFor 14 = .ok (.aload_n 0, 1) := by decide +kernel
theorem dX0_newsFor_15 : decode cX0_newsFor 15 = .ok (.iload 4, 2) := by decide +kernel
theorem dX0_newsFor_17 : decode cX0_newsFor 17 = .ok (.invokevirtual 72, 3) := by decide +kernel
theorem dX0_newsFor_20 : decode cX0_newsFor 20 = .ok (.iload_n 2, 1) := by decide +kernel
theorem dX0_newsFor_21 : decode cX0_newsFor 21 = .ok (.if_icmp .ne 12, 3) := by decide +kernel
theorem dX0_newsFor_24 : decode cX0_newsFor 24 = .ok (.aload_n 0, 1) := by decide +kernel
theorem dX0_newsFor_25 : decode cX0_newsFor 25 = .ok (.iload 4, 2) := by decide +kernel
theorem dX0_newsFor_27 : decode cX0_newsFor 27 = .ok (.invokevirtual 46, 3) := by decide +kernel
theorem dX0_newsFor_30 : decode cX0_newsFor 30 = .ok (.goto 4, 3) := by decide +kernel
theorem dX0_newsFor_33 : decode cX0_newsFor 33 = .ok (.aconst_null, 1) := by decide +kernel
theorem dX0_newsFor_34 : decode cX0_newsFor 34 = .ok (.astore 5, 2) := by decide +kernel
theorem dX0_newsFor_36 : decode cX0_newsFor 36 = .ok (.aload 5, 2) := by decide +kernel
theorem dX0_newsFor_38 : decode cX0_newsFor 38 = .ok (.ifnull 39, 3) := by decide +kernel
theorem dX0_newsFor_41 : decode cX0_newsFor 41 = .ok (.aload 5, 2) := by decide +kernel
theorem dX0_newsFor_43 : decode cX0_newsFor 43 = .ok (.iload_n 1, 1) := by decide +kernel
theorem dX0_newsFor_44 : decode cX0_newsFor 44 = .ok (.invokevirtual 78, 3) := by decide +kernel
theorem dX0_newsFor_47 : decode cX0_newsFor 47 = .ok (.ifCond .eq 30, 3) := by decide +kernel
theorem dX0_newsFor_50 : decode cX0_newsFor 50 = .ok (.aload 5, 2) := by decide +kernel
theorem dX0_newsFor_52 : decode cX0_newsFor 52 = .ok (.iload_n 1, 1) := by decide +kernel
theorem dX0_newsFor_53 : decode cX0_newsFor 53 = .ok (.aload_n 0, 1) := by decide +kernel
theorem dX0_newsFor_54 : decode cX0_newsFor 54 = .ok (.getfield 12, 3) := by decide +kernel
theorem dX0_newsFor_57 : decode cX0_newsFor 57 = .ok (.getfield 82, 3) := by decide +kernel
theorem dX0_newsFor_60 : decode cX0_newsFor 60 = .ok (.invokevirtual 83, 3) := by decide +kernel
theorem dX0_newsFor_63 : decode cX0_newsFor 63 = .ok (.ifCond .ne 14, 3) := by decide +kernel
theorem dX0_newsFor_66 : decode cX0_newsFor 66 = .ok (.iload_n 3, 1) := by decide +kernel
theorem dX0_newsFor_67 : decode cX0_newsFor 67 = .ok (.iconst 1, 1) := by decide +kernel
theorem dX0_newsFor_68 : decode cX0_newsFor 68 = .ok (.aload_n 0, 1) := by decide +kernel
theorem dX0_newsFor_69 : decode cX0_newsFor 69 = .ok (.iload 4, 2) := by decide +kernel
theorem dX0_newsFor_71 : decode cX0_newsFor 71 = .ok (.invokevirtual 62, 3) := by decide +kernel
theorem dX0_newsFor_74 : decode cX0_newsFor 74 = .ok (.ishl, 1) := by decide +kernel
theorem dX0_newsFor_75 : decode cX0_newsFor 75 = .ok (.ior, 1) := by decide +kernel
theorem dX0_newsFor_76 : decode cX0_newsFor 76 = .ok (.istore_n 3, 1) := by decide +kernel
theorem dX0_newsFor_77 : decode cX0_newsFor 77 = .ok (.iinc 4 1, 3) := by decide +kernel
theorem dX0_newsFor_80 : decode cX0_newsFor 80 = .ok (.goto (-75), 3) := by decide +kernel
theorem dX0_newsFor_83 : decode cX0_newsFor 83 = .ok (.iload_n 3, 1) := by decide +kernel
theorem dX0_newsFor_84 : decode cX0_newsFor 84 = .ok (.ireturn, 1) := by decide +kernel
theorem dX0_deedsFromPage_0 : decode cX0_deedsFromPage 0 = .ok (.iconst 0, 1) := by decide +kernel
theorem dX0_deedsFromPage_1 : decode cX0_deedsFromPage 1 = .ok (.istore_n 2, 1) := by decide +kernel
theorem dX0_deedsFromPage_2 : decode cX0_deedsFromPage 2 = .ok (.iconst 0, 1) := by decide +kernel
theorem dX0_deedsFromPage_3 : decode cX0_deedsFromPage 3 = .ok (.istore_n 3, 1) := by decide +kernel
theorem dX0_deedsFromPage_4 : decode cX0_deedsFromPage 4 = .ok (.iload_n 3, 1) := by decide +kernel
theorem dX0_deedsFromPage_5 : decode cX0_deedsFromPage 5 = .ok (.aload_n 0, 1) := by decide +kernel
theorem dX0_deedsFromPage_6 : decode cX0_deedsFromPage 6 = .ok (.getfield 25, 3) := by decide +kernel
theorem dX0_deedsFromPage_9 : decode cX0_deedsFromPage 9 = .ok (.if_icmp .ge 28, 3) := by decide +kernel
theorem dX0_deedsFromPage_12 : decode cX0_deedsFromPage 12 = .ok (.aload_n 0, 1) := by decide +kernel
theorem dX0_deedsFromPage_13 : decode cX0_deedsFromPage 13 = .ok (.iload_n 3, 1) := by decide +kernel
theorem dX0_deedsFromPage_14 : decode cX0_deedsFromPage 14 = .ok (.invokevirtual 72, 3) := by decide +kernel
theorem dX0_deedsFromPage_17 : decode cX0_deedsFromPage 17 = .ok (.iload_n 1, 1) := by decide +kernel
theorem dX0_deedsFromPage_18 : decode cX0_deedsFromPage 18 = .ok (.if_icmp .lt 13, 3) := by decide +kernel
theorem dX0_deedsFromPage_21 : decode cX0_deedsFromPage 21 = .ok (.iload_n 2, 1) := by decide +kernel
theorem dX0_deedsFromPage_22 : decode cX0_deedsFromPage 22 = .ok (.iconst 1, 1) := by decide +kernel
theorem dX0_deedsFromPage_23 : decode cX0_deedsFromPage 23 = .ok (.aload_n 0, 1) := by decide +kernel
theorem dX0_deedsFromPage_24 : decode cX0_deedsFromPage 24 = .ok (.iload_n 3, 1) := by decide +kernel
theorem dX0_deedsFromPage_25 : decode cX0_deedsFromPage 25 = .ok (.invokevirtual 62, 3) := by decide +kernel
theorem dX0_deedsFromPage_28 : decode cX0_deedsFromPage 28 = .ok (.ishl, 1) := by decide +kernel
theorem dX0_deedsFromPage_29 : decode cX0_deedsFromPage 29 = .ok (.ior, 1) := by decide +kernel
theorem dX0_deedsFromPage_30 : decode cX0_deedsFromPage 30 = .ok (.istore_n 2, 1) := by decide +kernel
theorem dX0_deedsFromPage_31 : decode cX0_deedsFromPage 31 = .ok (.iinc 3 1, 3) := by decide +kernel
theorem dX0_deedsFromPage_34 : decode cX0_deedsFromPage 34 = .ok (.goto (-30), 3) := by decide +kernel
theorem dX0_deedsFromPage_37 : decode cX0_deedsFromPage 37 = .ok (.iload_n 2, 1) := by decide +kernel
theorem dX0_deedsFromPage_38 : decode cX0_deedsFromPage 38 = .ok (.ireturn, 1) := by decide +kernel
theorem dX0_doersAheadOfPage_0 : decode cX0_doersAheadOfPage 0 = .ok (.iconst 0, 1) := by decide +kernel
theorem dX0_doersAheadOfPage_1 : decode cX0_doersAheadOfPage 1 = .ok (.istore_n 2, 1) := by decide +kernel
theorem dX0_doersAheadOfPage_2 : decode cX0_doersAheadOfPage 2 = .ok (.iconst 0, 1) := by decide +kernel
theorem dX0_doersAheadOfPage_3 : decode cX0_doersAheadOfPage 3 = .ok (.istore_n 3, 1) := by decide +kernel
theorem dX0_doersAheadOfPage_4 : decode cX0_doersAheadOfPage 4 = .ok (.iload_n 3, 1) := by decide +kernel
theorem dX0_doersAheadOfPage_5 : decode cX0_doersAheadOfPage 5 = .ok (.aload_n 0, 1) := by decide +kernel
theorem dX0_doersAheadOfPage_6 : decode cX0_doersAheadOfPage 6 = .ok (.getfield 25, 3) := by decide +kernel
theorem dX0_doersAheadOfPage_9 : decode cX0_doersAheadOfPage 9 = .ok (.if_icmp .ge 48, 3) := by decide +kernel
theorem dX0_doersAheadOfPage_12 : decode cX0_doersAheadOfPage 12 = .ok (.aload_n 0, 1) := by decide +kernel
theorem dX0_doersAheadOfPage_13 : decode cX0_doersAheadOfPage 13 = .ok (.iload_n 3, 1) := by decide +kernel
theorem dX0_doersAheadOfPage_14 : decode cX0_doersAheadOfPage 14 = .ok (.invokevirtual 72, 3) := by decide +kernel
theorem dX0_doersAheadOfPage_17 : decode cX0_doersAheadOfPage 17 = .ok (.iload_n 1, 1) := by decide +kernel
theorem dX0_doersAheadOfPage_18 : decode cX0_doersAheadOfPage 18 = .ok (.if_icmp .ge 11, 3) := by decide +kernel
theorem dX0_doersAheadOfPage_21 : decode cX0_doersAheadOfPage 21 = .ok (.aload_n 0, 1) := by decide +kernel
theorem dX0_doersAheadOfPage_22 : decode cX0_doersAheadOfPage 22 = .ok (.iload_n 3, 1) := by decide +kernel
theorem dX0_doersAheadOfPage_23 : decode cX0_doersAheadOfPage 23 = .ok (.invokevirtual 46, 3) := by decide +kernel
theorem dX0_doersAheadOfPage_26 : decode cX0_doersAheadOfPage 26 = .ok (.goto 4, 3) := by decide +kernel
theorem dX0_doersAheadOfPage_29 : decode cX0_doersAheadOfPage 29 = .ok (.aconst_null, 1) := by decide +kernel
theorem dX0_doersAheadOfPage_30 : decode cX0_doersAheadOfPage 30 = .ok (.astore 4, 2) := by decide +kernel
theorem dX0_doersAheadOfPage_32 : decode cX0_doersAheadOfPage 32 = .ok (.iload_n 2, 1) := by decide +kernel
theorem dX0_doersAheadOfPage_33 : decode cX0_doersAheadOfPage 33 = .ok (.aload 4, 2) := by decide +kernel
theorem dX0_doersAheadOfPage_35 : decode cX0_doersAheadOfPage 35 = .ok (.ifnull 13, 3) := by decide +kernel
theorem dX0_doersAheadOfPage_38 : decode cX0_doersAheadOfPage 38 = .ok (.iconst 1, 1) := by decide +kernel
theorem dX0_doersAheadOfPage_39 : decode cX0_doersAheadOfPage 39 = .ok (.aload 4, 2) := by decide +kernel
theorem dX0_doersAheadOfPage_41 : decode cX0_doersAheadOfPage 41 = .ok (.getfield 75, 3) := by decide +kernel
theorem dX0_doersAheadOfPage_44 : decode cX0_doersAheadOfPage 44 = .ok (.ishl, 1) := by decide +kernel
theorem dX0_doersAheadOfPage_45 : decode cX0_doersAheadOfPage 45 = .ok (.goto 4, 3) := by decide +kernel
theorem dX0_doersAheadOfPage_48 : decode cX0_doersAheadOfPage 48 = .ok (.iconst 0, 1) := by decide +kernel
theorem dX0_doersAheadOfPage_49 : decode cX0_doersAheadOfPage 49 = .ok (.ior, 1) := by decide +kernel
theorem dX0_doersAheadOfPage_50 : decode cX0_doersAheadOfPage 50 = .ok (.istore_n 2, 1) := by decide +kernel
theorem dX0_doersAheadOfPage_51 : decode cX0_doersAheadOfPage 51 = .ok (.iinc 3 1, 3) := by decide +kernel
theorem dX0_doersAheadOfPage_54 : decode cX0_doersAheadOfPage 54 = .ok (.goto (-50), 3) := by decide +kernel
theorem dX0_doersAheadOfPage_57 : decode cX0_doersAheadOfPage 57 = .ok (.iload_n 2, 1) := by decide +kernel
theorem dX0_doersAheadOfPage_58 : decode cX0_doersAheadOfPage 58 = .ok (.ireturn, 1) := by decide +kernel
theorem dX0_dayAt_0 : decode cX0_dayAt 0 = .ok (.aload_n 0, 1) := by decide +kernel
theorem dX0_dayAt_1 : decode cX0_dayAt 1 = .ok (.iload_n 1, 1) := by decide +kernel
theorem dX0_dayAt_2 : decode cX0_dayAt 2 = .ok (.invokevirtual 46, 3) := by decide +kernel
theorem dX0_dayAt_5 : decode cX0_dayAt 5 = .ok (.astore_n 2, 1) := by decide +kernel
theorem dX0_dayAt_6 : decode cX0_dayAt 6 = .ok (.aload_n 2, 1) := by decide +kernel
theorem dX0_dayAt_7 : decode cX0_dayAt 7 = .ok (.ifnull 10, 3) := by decide +kernel
theorem dX0_dayAt_10 : decode cX0_dayAt 10 = .ok (.aload_n 2, 1) := by decide +kernel
theorem dX0_dayAt_11 : decode cX0_dayAt 11 = .ok (.getfield 53, 3) := by decide +kernel
theorem dX0_dayAt_14 : decode cX0_dayAt 14 = .ok (.goto 12, 3) := by decide +kernel
theorem dX0_dayAt_17 : decode cX0_dayAt 17 = .ok (.aload_n 0, 1) := by decide +kernel
theorem dX0_dayAt_18 : decode cX0_dayAt 18 = .ok (.getfield 12, 3) := by decide +kernel
theorem dX0_dayAt_21 : decode cX0_dayAt 21 = .ok (.invokevirtual 87, 3) := by decide +kernel
theorem dX0_dayAt_24 : decode cX0_dayAt 24 = .ok (.iconst 1, 1) := by decide +kernel
theorem dX0_dayAt_25 : decode cX0_dayAt 25 = .ok (.iadd, 1) := by decide +kernel
theorem dX0_dayAt_26 : decode cX0_dayAt 26 = .ok (.ireturn, 1) := by decide +kernel
theorem dX0_longestGap_0 : decode cX0_longestGap 0 = .ok (.iconst 0, 1) := by decide +kernel
theorem dX0_longestGap_1 : decode cX0_longestGap 1 = .ok (.istore_n 1, 1) := by decide +kernel
theorem dX0_longestGap_2 : decode cX0_longestGap 2 = .ok (.iconst 0, 1) := by decide +kernel
theorem dX0_longestGap_3 : decode cX0_longestGap 3 = .ok (.istore_n 2, 1) := by decide +kernel
theorem dX0_longestGap_4 : decode cX0_longestGap 4 = .ok (.iconst 0, 1) := by decide +kernel
theorem dX0_longestGap_5 : decode cX0_longestGap 5 = .ok (.istore_n 3, 1) := by decide +kernel
theorem dX0_longestGap_6 : decode cX0_longestGap 6 = .ok (.iload_n 3, 1) := by decide +kernel
theorem dX0_longestGap_7 : decode cX0_longestGap 7 = .ok (.aload_n 0, 1) := by decide +kernel
theorem dX0_longestGap_8 : decode cX0_longestGap 8 = .ok (.getfield 25, 3) := by decide +kernel
theorem dX0_longestGap_11 : decode cX0_longestGap 11 = .ok (.if_icmp .gt 29, 3) := by decide +kernel
theorem dX0_longestGap_14 : decode cX0_longestGap 14 = .ok (.iload_n 1, 1) := by decide +kernel
theorem dX0_longestGap_15 : decode cX0_longestGap 15 = .ok (.aload_n 0, 1) := by decide +kernel
theorem dX0_longestGap_16 : decode cX0_longestGap 16 = .ok (.iload_n 3, 1) := by decide +kernel
theorem dX0_longestGap_17 : decode cX0_longestGap 17 = .ok (.invokevirtual 90, 3) := by decide +kernel
theorem dX0_longestGap_20 : decode cX0_longestGap 20 = .ok (.iload_n 2, 1) := by decide +kernel
theorem dX0_longestGap_21 : decode cX0_longestGap 21 = .ok (.isub, 1) := by decide +kernel
theorem dX0_longestGap_22 : decode cX0_longestGap 22 = .ok (.invokestatic 93, 3) := by decide +kernel
theorem dX0_longestGap_25 : decode cX0_longestGap 25 = .ok (.istore_n 1, 1) := by decide +kernel
theorem dX0_longestGap_26 : decode cX0_longestGap 26 = .ok (.aload_n 0, 1) := by decide +kernel
theorem dX0_longestGap_27 : decode cX0_longestGap 27 = .ok (.iload_n 3, 1) := by decide +kernel
theorem dX0_longestGap_28 : decode cX0_longestGap 28 = .ok (.invokevirtual 90, 3) := by decide +kernel
theorem dX0_longestGap_31 : decode cX0_longestGap 31 = .ok (.iconst 1, 1) := by decide +kernel
theorem dX0_longestGap_32 : decode cX0_longestGap 32 = .ok (.iadd, 1) := by decide +kernel
theorem dX0_longestGap_33 : decode cX0_longestGap 33 = .ok (.istore_n 2, 1) := by decide +kernel
theorem dX0_longestGap_34 : decode cX0_longestGap 34 = .ok (.iinc 3 1, 3) := by decide +kernel
theorem dX0_longestGap_37 : decode cX0_longestGap 37 = .ok (.goto (-31), 3) := by decide +kernel
theorem dX0_longestGap_40 : decode cX0_longestGap 40 = .ok (.iload_n 1, 1) := by decide +kernel
theorem dX0_longestGap_41 : decode cX0_longestGap 41 = .ok (.ireturn, 1) := by decide +kernel
theorem dX0_firstOfLongestGap_0 : decode cX0_firstOfLongestGap 0 = .ok (.aload_n 0, 1) := by decide +kernel
theorem dX0_firstOfLongestGap_1 : decode cX0_firstOfLongestGap 1 = .ok (.invokevirtual 99, 3) := by decide +kernel
theorem dX0_firstOfLongestGap_4 : decode cX0_firstOfLongestGap 4 = .ok (.istore_n 1, 1) := by decide +kernel
theorem dX0_firstOfLongestGap_5 : decode cX0_firstOfLongestGap 5 = .ok (.iconst 0, 1) := by decide +kernel
theorem dX0_firstOfLongestGap_6 : decode cX0_firstOfLongestGap 6 = .ok (.istore_n 2, 1) := by decide +kernel
theorem dX0_firstOfLongestGap_7 : decode cX0_firstOfLongestGap 7 = .ok (.iconst 0, 1) := by decide +kernel
theorem dX0_firstOfLongestGap_8 : decode cX0_firstOfLongestGap 8 = .ok (.istore_n 3, 1) := by decide +kernel
theorem dX0_firstOfLongestGap_9 : decode cX0_firstOfLongestGap 9 = .ok (.iload_n 3, 1) := by decide +kernel
theorem dX0_firstOfLongestGap_10 : decode cX0_firstOfLongestGap 10 = .ok (.aload_n 0, 1) := by decide +kernel
theorem dX0_firstOfLongestGap_11 : decode cX0_firstOfLongestGap 11 = .ok (.getfield 25, 3) := by decide +kernel
theorem dX0_firstOfLongestGap_14 : decode cX0_firstOfLongestGap 14 = .ok (.if_icmp .gt 34, 3) := by decide +kernel
theorem dX0_firstOfLongestGap_17 : decode cX0_firstOfLongestGap 17 = .ok (.iload_n 1, 1) := by decide +kernel
theorem dX0_firstOfLongestGap_18 : decode cX0_firstOfLongestGap 18 = .ok (.ifCond .le 30, 3) := by decide +kernel
theorem dX0_firstOfLongestGap_21 : decode cX0_firstOfLongestGap 21 = .ok (.aload_n 0, 1) := by decide +kernel
theorem dX0_firstOfLongestGap_22 : decode cX0_firstOfLongestGap 22 = .ok (.iload_n 3, 1) := by decide +kernel
theorem dX0_firstOfLongestGap_23 : decode cX0_firstOfLongestGap 23 = .ok (.invokevirtual 90, 3) := by decide +kernel
theorem dX0_firstOfLongestGap_26 : decode cX0_firstOfLongestGap 26 = .ok (.iload_n 2, 1) := by decide +kernel
theorem dX0_firstOfLongestGap_27 : decode cX0_firstOfLongestGap 27 = .ok (.isub, 1) := by decide +kernel
theorem dX0_firstOfLongestGap_28 : decode cX0_firstOfLongestGap 28 = .ok (.iload_n 1, 1) := by decide +kernel
theorem dX0_firstOfLongestGap_29 : decode cX0_firstOfLongestGap 29 = .ok (.if_icmp .ne 5, 3) := by decide +kernel
theorem dX0_firstOfLongestGap_32 : decode cX0_firstOfLongestGap 32 = .ok (.iload_n 2, 1) := by decide +kernel
theorem dX0_firstOfLongestGap_33 : decode cX0_firstOfLongestGap 33 = .ok (.ireturn, 1) := by decide +kernel
theorem dX0_firstOfLongestGap_34 : decode cX0_firstOfLongestGap 34 = .ok (.aload_n 0, 1) := by decide +kernel
theorem dX0_firstOfLongestGap_35 : decode cX0_firstOfLongestGap 35 = .ok (.iload_n 3, 1) := by decide +kernel
theorem dX0_firstOfLongestGap_36 : decode cX0_firstOfLongestGap 36 = .ok (.invokevirtual 90, 3) := by decide +kernel
theorem dX0_firstOfLongestGap_39 : decode cX0_firstOfLongestGap 39 = .ok (.iconst 1, 1) := by decide +kernel
theorem dX0_firstOfLongestGap_40 : decode cX0_firstOfLongestGap 40 = .ok (.iadd, 1) := by decide +kernel
theorem dX0_firstOfLongestGap_41 : decode cX0_firstOfLongestGap 41 = .ok (.istore_n 2, 1) := by decide +kernel
theorem dX0_firstOfLongestGap_42 : decode cX0_firstOfLongestGap 42 = .ok (.iinc 3 1, 3) := by decide +kernel
theorem dX0_firstOfLongestGap_45 : decode cX0_firstOfLongestGap 45 = .ok (.goto (-36), 3) := by decide +kernel
theorem dX0_firstOfLongestGap_48 : decode cX0_firstOfLongestGap 48 = .ok (.bipush (-4), 2) := by decide +kernel
theorem dX0_firstOfLongestGap_50 : decode cX0_firstOfLongestGap 50 = .ok (.ireturn, 1) := by decide +kernel
theorem dX0_firstForged_0 : decode cX0_firstForged 0 = .ok (.iconst 0, 1) := by decide +kernel
theorem dX0_firstForged_1 : decode cX0_firstForged 1 = .ok (.istore_n 2, 1) := by decide +kernel
theorem dX0_firstForged_2 : decode cX0_firstForged 2 = .ok (.iload_n 2, 1) := by decide +kernel
theorem dX0_firstForged_3 : decode cX0_firstForged 3 = .ok (.aload_n 1, 1) := by decide +kernel
theorem dX0_firstForged_4 : decode cX0_firstForged 4 = .ok (.getfield 102, 3) := by decide +kernel
theorem dX0_firstForged_7 : decode cX0_firstForged 7 = .ok (.if_icmp .ge 32, 3) := by decide +kernel
theorem dX0_firstForged_10 : decode cX0_firstForged 10 = .ok (.iload_n 2, 1) := by decide +kernel
theorem dX0_firstForged_11 : decode cX0_firstForged 11 = .ok (.aload_n 0, 1) := by decide +kernel
theorem dX0_firstForged_12 : decode cX0_firstForged 12 = .ok (.getfield 25, 3) := by decide +kernel
theorem dX0_firstForged_15 : decode cX0_firstForged 15 = .ok (.if_icmp .ge 16, 3) := by decide +kernel
theorem dX0_firstForged_18 : decode cX0_firstForged 18 = .ok (.aload_n 1, 1) := by decide +kernel
theorem dX0_firstForged_19 : decode cX0_firstForged 19 = .ok (.iload_n 2, 1) := by decide +kernel
theorem dX0_firstForged_20 : decode cX0_firstForged 20 = .ok (.invokevirtual 107, 3) := by decide +kernel
theorem dX0_firstForged_23 : decode cX0_firstForged 23 = .ok (.aload_n 0, 1) := by decide +kernel
theorem dX0_firstForged_24 : decode cX0_firstForged 24 = .ok (.iload_n 2, 1) := by decide +kernel
theorem dX0_firstForged_25 : decode cX0_firstForged 25 = .ok (.invokevirtual 62, 3) := by decide +kernel
theorem dX0_firstForged_28 : decode cX0_firstForged 28 = .ok (.if_icmp .eq 5, 3) := by decide +kernel
theorem dX0_firstForged_31 : decode cX0_firstForged 31 = .ok (.iload_n 2, 1) := by decide +kernel
theorem dX0_firstForged_32 : decode cX0_firstForged 32 = .ok (.ireturn, 1) := by decide +kernel
theorem dX0_firstForged_33 : decode cX0_firstForged 33 = .ok (.iinc 2 1, 3) := by decide +kernel
theorem dX0_firstForged_36 : decode cX0_firstForged 36 = .ok (.goto (-34), 3) := by decide +kernel
theorem dX0_firstForged_39 : decode cX0_firstForged 39 = .ok (.bipush (-4), 2) := by decide +kernel
theorem dX0_firstForged_41 : decode cX0_firstForged 41 = .ok (.ireturn, 1) := by decide +kernel
theorem dX1_init_0 : decode cX1_init 0 = .ok (.aload_n 0, 1) := by decide +kernel
theorem dX1_init_1 : decode cX1_init 1 = .ok (.invokespecial 1, 3) := by decide +kernel
theorem dX1_init_4 : decode cX1_init 4 = .ok (.return_, 1) := by decide +kernel
theorem dX1_become_0 : decode cX1_become 0 = .ok (.aload_n 0, 1) := by decide +kernel
theorem dX1_become_1 : decode cX1_become 1 = .ok (.iload_n 1, 1) := by decide +kernel
theorem dX1_become_2 : decode cX1_become 2 = .ok (.putfield 7, 3) := by decide +kernel
theorem dX1_become_5 : decode cX1_become 5 = .ok (.aload_n 0, 1) := by decide +kernel
theorem dX1_become_6 : decode cX1_become 6 = .ok (.iload_n 2, 1) := by decide +kernel
theorem dX1_become_7 : decode cX1_become 7 = .ok (.putfield 13, 3) := by decide +kernel
theorem dX1_become_10 : decode cX1_become 10 = .ok (.aload_n 0, 1) := by decide +kernel
theorem dX1_become_11 : decode cX1_become 11 = .ok (.iload_n 3, 1) := by decide +kernel
theorem dX1_become_12 : decode cX1_become 12 = .ok (.putfield 16, 3) := by decide +kernel
theorem dX1_become_15 : decode cX1_become 15 = .ok (.aload_n 0, 1) := by decide +kernel
theorem dX1_become_16 : decode cX1_become 16 = .ok (.iload 4, 2) := by decide +kernel
theorem dX1_become_18 : decode cX1_become 18 = .ok (.putfield 19, 3) := by decide +kernel
theorem dX1_become_21 : decode cX1_become 21 = .ok (.aload_n 0, 1) := by decide +kernel
theorem dX1_become_22 : decode cX1_become 22 = .ok (.iload 5, 2) := by decide +kernel
theorem dX1_become_24 : decode cX1_become 24 = .ok (.iconst 1, 1) := by decide +kernel
theorem dX1_become_25 : decode cX1_become 25 = .ok (.iload 4, 2) := by decide +kernel
theorem dX1_become_27 : decode cX1_become 27 = .ok (.ishl, 1) := by decide +kernel
theorem dX1_become_28 : decode cX1_become 28 = .ok (.iconst (-1), 1) := by decide +kernel
theorem dX1_become_29 : decode cX1_become 29 = .ok (.ixor, 1) := by decide +kernel
theorem dX1_become_30 : decode cX1_become 30 = .ok (.iand, 1) := by decide +kernel
theorem dX1_become_31 : decode cX1_become 31 = .ok (.putfield 22, 3) := by decide +kernel
theorem dX1_become_34 : decode cX1_become 34 = .ok (.aload_n 0, 1) := by decide +kernel
theorem dX1_become_35 : decode cX1_become 35 = .ok (.iload_n 1, 1) := by decide +kernel
theorem dX1_become_36 : decode cX1_become 36 = .ok (.iload_n 2, 1) := by decide +kernel
theorem dX1_become_37 : decode cX1_become 37 = .ok (.invokestatic 25, 3) := by decide +kernel
theorem dX1_become_40 : decode cX1_become 40 = .ok (.putfield 31, 3) := by decide +kernel
theorem dX1_become_43 : decode cX1_become 43 = .ok (.aload_n 0, 1) := by decide +kernel
theorem dX1_become_44 : decode cX1_become 44 = .ok (.iload_n 1, 1) := by decide +kernel
theorem dX1_become_45 : decode cX1_become 45 = .ok (.aload_n 0, 1) := by decide +kernel
theorem dX1_become_46 : decode cX1_become 46 = .ok (.getfield 31, 3) := by decide +kernel
theorem dX1_become_49 : decode cX1_become 49 = .ok (.invokestatic 33, 3) := by decide +kernel
theorem dX1_become_52 : decode cX1_become 52 = .ok (.putfield 36, 3) := by decide +kernel
theorem dX1_become_55 : decode cX1_become 55 = .ok (.return_, 1) := by decide +kernel
theorem dX1_turnSeen_0 : decode cX1_turnSeen 0 = .ok (.aload_n 0, 1) := by decide +kernel
theorem dX1_turnSeen_1 : decode cX1_turnSeen 1 = .ok (.dup, 1) := by decide +kernel
theorem dX1_turnSeen_2 : decode cX1_turnSeen 2 = .ok (.getfield 22, 3) := by decide +kernel
theorem dX1_turnSeen_5 : decode cX1_turnSeen 5 = .ok (.iconst 1, 1) := by decide +kernel
theorem dX1_turnSeen_6 : decode cX1_turnSeen 6 = .ok (.iload_n 1, 1) := by decide +kernel
theorem dX1_turnSeen_7 : decode cX1_turnSeen 7 = .ok (.ishl, 1) := by decide +kernel
theorem dX1_turnSeen_8 : decode cX1_turnSeen 8 = .ok (.ixor, 1) := by decide +kernel
theorem dX1_turnSeen_9 : decode cX1_turnSeen 9 = .ok (.putfield 22, 3) := by decide +kernel
theorem dX1_turnSeen_12 : decode cX1_turnSeen 12 = .ok (.return_, 1) := by decide +kernel
theorem dX1_size_0 : decode cX1_size 0 = .ok (.aload_n 0, 1) := by decide +kernel
theorem dX1_size_1 : decode cX1_size 1 = .ok (.getfield 7, 3) := by decide +kernel
theorem dX1_size_4 : decode cX1_size 4 = .ok (.aload_n 0, 1) := by decide +kernel
theorem dX1_size_5 : decode cX1_size 5 = .ok (.getfield 13, 3) := by decide +kernel
theorem dX1_size_8 : decode cX1_size 8 = .ok (.invokestatic 38, 3) := by decide +kernel
theorem dX1_size_11 : decode cX1_size 11 = .ok (.ireturn, 1) := by decide +kernel
theorem dX1_burden_0 : decode cX1_burden 0 = .ok (.aload_n 0, 1) := by decide +kernel
theorem dX1_burden_1 : decode cX1_burden 1 = .ok (.getfield 7, 3) := by decide +kernel
theorem dX1_burden_4 : decode cX1_burden 4 = .ok (.aload_n 0, 1) := by decide +kernel
theorem dX1_burden_5 : decode cX1_burden 5 = .ok (.getfield 13, 3) := by decide +kernel
theorem dX1_burden_8 : decode cX1_burden 8 = .ok (.invokestatic 41, 3) := by decide +kernel
theorem dX1_burden_11 : decode cX1_burden 11 = .ok (.ireturn, 1) := by decide +kernel
theorem dX1_lastingFor_0 : decode cX1_lastingFor 0 = .ok (.iload_n 1, 1) := by decide +kernel
theorem dX1_lastingFor_1 : decode cX1_lastingFor 1 = .ok (.aload_n 0, 1) := by decide +kernel
theorem dX1_lastingFor_2 : decode cX1_lastingFor 2 = .ok (.getfield 19, 3) := by decide +kernel
theorem dX1_lastingFor_5 : decode cX1_lastingFor 5 = .ok (.if_icmp .ne 10, 3) := by decide +kernel
theorem dX1_lastingFor_8 : decode cX1_lastingFor 8 = .ok (.aload_n 0, 1) := by decide +kernel
theorem dX1_lastingFor_9 : decode cX1_lastingFor 9 = .ok (.getfield 36, 3) := by decide +kernel
theorem dX1_lastingFor_12 : decode cX1_lastingFor 12 = .ok (.goto 7, 3) := by decide +kernel
theorem dX1_lastingFor_15 : decode cX1_lastingFor 15 = .ok (.aload_n 0, 1) := by decide +kernel
theorem dX1_lastingFor_16 : decode cX1_lastingFor 16 = .ok (.getfield 31, 3) := by decide +kernel
theorem dX1_lastingFor_19 : decode cX1_lastingFor 19 = .ok (.ireturn, 1) := by decide +kernel
theorem dX1_isKnown_0 : decode cX1_isKnown 0 = .ok (.iload_n 1, 1) := by decide +kernel
theorem dX1_isKnown_1 : decode cX1_isKnown 1 = .ok (.aload_n 0, 1) := by decide +kernel
theorem dX1_isKnown_2 : decode cX1_isKnown 2 = .ok (.getfield 19, 3) := by decide +kernel
theorem dX1_isKnown_5 : decode cX1_isKnown 5 = .ok (.if_icmp .eq 14, 3) := by decide +kernel
theorem dX1_isKnown_8 : decode cX1_isKnown 8 = .ok (.aload_n 0, 1) := by decide +kernel
theorem dX1_isKnown_9 : decode cX1_isKnown 9 = .ok (.getfield 22, 3) := by decide +kernel
theorem dX1_isKnown_12 : decode cX1_isKnown 12 = .ok (.iload_n 1, 1) := by decide +kernel
theorem dX1_isKnown_13 : decode cX1_isKnown 13 = .ok (.ishr, 1) := by decide +kernel
theorem dX1_isKnown_14 : decode cX1_isKnown 14 = .ok (.iconst 1, 1) := by decide +kernel
theorem dX1_isKnown_15 : decode cX1_isKnown 15 = .ok (.iand, 1) := by decide +kernel
theorem dX1_isKnown_16 : decode cX1_isKnown 16 = .ok (.ifCond .eq 7, 3) := by decide +kernel
theorem dX1_isKnown_19 : decode cX1_isKnown 19 = .ok (.iconst 1, 1) := by decide +kernel
theorem dX1_isKnown_20 : decode cX1_isKnown 20 = .ok (.goto 4, 3) := by decide +kernel
theorem dX1_isKnown_23 : decode cX1_isKnown 23 = .ok (.iconst 0, 1) := by decide +kernel
theorem dX1_isKnown_24 : decode cX1_isKnown 24 = .ok (.ireturn, 1) := by decide +kernel
theorem dX1_isKept_0 : decode cX1_isKept 0 = .ok (.aload_n 0, 1) := by decide +kernel
theorem dX1_isKept_1 : decode cX1_isKept 1 = .ok (.getfield 16, 3) := by decide +kernel
theorem dX1_isKept_4 : decode cX1_isKept 4 = .ok (.iload_n 2, 1) := by decide +kernel
theorem dX1_isKept_5 : decode cX1_isKept 5 = .ok (.if_icmp .gt 29, 3) := by decide +kernel
theorem dX1_isKept_8 : decode cX1_isKept 8 = .ok (.aload_n 0, 1) := by decide +kernel
theorem dX1_isKept_9 : decode cX1_isKept 9 = .ok (.iload_n 1, 1) := by decide +kernel
theorem dX1_isKept_10 : decode cX1_isKept 10 = .ok (.invokevirtual 44, 3) := by decide +kernel
theorem dX1_isKept_13 : decode cX1_isKept 13 = .ok (.ifCond .eq 21, 3) := by decide +kernel
theorem dX1_isKept_16 : decode cX1_isKept 16 = .ok (.iload_n 2, 1) := by decide +kernel
theorem dX1_isKept_17 : decode cX1_isKept 17 = .ok (.aload_n 0, 1) := by decide +kernel
theorem dX1_isKept_18 : decode cX1_isKept 18 = .ok (.getfield 16, 3) := by decide +kernel
theorem dX1_isKept_21 : decode cX1_isKept 21 = .ok (.isub, 1) := by decide +kernel
theorem dX1_isKept_22 : decode cX1_isKept 22 = .ok (.aload_n 0, 1) := by decide +kernel
theorem dX1_isKept_23 : decode cX1_isKept 23 = .ok (.iload_n 1, 1) := by decide +kernel
theorem dX1_isKept_24 : decode cX1_isKept 24 = .ok (.invokevirtual 48, 3) := by decide +kernel
theorem dX1_isKept_27 : decode cX1_isKept 27 = .ok (.if_icmp .gt 7, 3) := by decide +kernel
theorem dX1_isKept_30 : decode cX1_isKept 30 = .ok (.iconst 1, 1) := by decide +kernel
theorem dX1_isKept_31 : decode cX1_isKept 31 = .ok (.goto 4, 3) := by decide +kernel
theorem dX1_isKept_34 : decode cX1_isKept 34 = .ok (.iconst 0, 1) := by decide +kernel
theorem dX1_isKept_35 : decode cX1_isKept 35 = .ok (.ireturn, 1) := by decide +kernel
theorem dX1_watchersLost_0 : decode cX1_watchersLost 0 = .ok (.aload_n 0, 1) := by decide +kernel
theorem dX1_watchersLost_1 : decode cX1_watchersLost 1 = .ok (.getfield 22, 3) := by decide +kernel
theorem dX1_watchersLost_4 : decode cX1_watchersLost 4 = .ok (.aload_n 0, 1) := by decide +kernel
theorem dX1_watchersLost_5 : decode cX1_watchersLost 5 = .ok (.iload_n 1, 1) := by decide +kernel
theorem dX1_watchersLost_6 : decode cX1_watchersLost 6 = .ok (.invokevirtual 52, 3) := by decide +kernel
theorem dX1_watchersLost_9 : decode cX1_watchersLost 9 = .ok (.iconst (-1), 1) := by decide +kernel
theorem dX1_watchersLost_10 : decode cX1_watchersLost 10 = .ok (.ixor, 1) := by decide +kernel
theorem dX1_watchersLost_11 : decode cX1_watchersLost 11 = .ok (.iand, 1) := by decide +kernel
theorem dX1_watchersLost_12 : decode cX1_watchersLost 12 = .ok (.invokestatic 55, 3) := by decide +kernel
theorem dX1_watchersLost_15 : decode cX1_watchersLost 15 = .ok (.ireturn, 1) := by decide +kernel
theorem dX1_isMatterBetween_0 : decode cX1_isMatterBetween 0 = .ok (.aload_n 0, 1) := by decide +kernel
theorem dX1_isMatterBetween_1 : decode cX1_isMatterBetween 1 = .ok (.iload_n 1, 1) := by decide +kernel
theorem dX1_isMatterBetween_2 : decode cX1_isMatterBetween 2 = .ok (.invokevirtual 44, 3) := by decide +kernel
theorem dX1_isMatterBetween_5 : decode cX1_isMatterBetween 5 = .ok (.ifCond .eq 30, 3) := by decide +kernel
theorem dX1_isMatterBetween_8 : decode cX1_isMatterBetween 8 = .ok (.aload_n 0, 1) := by decide +kernel
theorem dX1_isMatterBetween_9 : decode cX1_isMatterBetween 9 = .ok (.iload_n 2, 1) := by decide +kernel
theorem dX1_isMatterBetween_10 : decode cX1_isMatterBetween 10 = .ok (.invokevirtual 44, 3) := by decide +kernel
theorem dX1_isMatterBetween_13 : decode cX1_isMatterBetween 13 = .ok (.ifCond .eq 22, 3) := by decide +kernel
theorem dX1_isMatterBetween_16 : decode cX1_isMatterBetween 16 = .ok (.aload_n 0, 1) := by decide +kernel
theorem dX1_isMatterBetween_17 : decode cX1_isMatterBetween 17 = .ok (.iload_n 1, 1) := by decide +kernel
theorem dX1_isMatterBetween_18 : decode cX1_isMatterBetween 18 = .ok (.iload_n 3, 1) := by decide +kernel
theorem dX1_isMatterBetween_19 : decode cX1_isMatterBetween 19 = .ok (.invokevirtual 60, 3) := by decide +kernel
theorem dX1_isMatterBetween_22 : decode cX1_isMatterBetween 22 = .ok (.aload_n 0, 1) := by decide +kernel
theorem dX1_isMatterBetween_23 : decode cX1_isMatterBetween 23 = .ok (.iload_n 2, 1) := by decide +kernel
theorem dX1_isMatterBetween_24 : decode cX1_isMatterBetween 24 = .ok (.iload_n 3, 1) := by decide +kernel
theorem dX1_isMatterBetween_25 : decode cX1_isMatterBetween 25 = .ok (.invokevirtual 60, 3) := by decide +kernel
theorem dX1_isMatterBetween_28 : decode cX1_isMatterBetween 28 = .ok (.if_icmp .eq 7, 3) := by decide +kernel
theorem dX1_isMatterBetween_31 : decode cX1_isMatterBetween 31 = .ok (.iconst 1, 1) := by decide +kernel
theorem dX1_isMatterBetween_32 : decode cX1_isMatterBetween 32 = .ok (.goto 4, 3) := by decide +kernel
theorem dX1_isMatterBetween_35 : decode cX1_isMatterBetween 35 = .ok (.iconst 0, 1) := by decide +kernel
theorem dX1_isMatterBetween_36 : decode cX1_isMatterBetween 36 = .ok (.ireturn, 1) := by decide +kernel
theorem dX1_keepers_0 : decode cX1_keepers 0 = .ok (.aload_n 0, 1) := by decide +kernel
theorem dX1_keepers_1 : decode cX1_keepers 1 = .ok (.getfield 16, 3) := by decide +kernel
theorem dX1_keepers_4 : decode cX1_keepers 4 = .ok (.iload_n 1, 1) := by decide +kernel
theorem dX1_keepers_5 : decode cX1_keepers 5 = .ok (.if_icmp .gt 16, 3) := by decide +kernel
theorem dX1_keepers_8 : decode cX1_keepers 8 = .ok (.aload_n 0, 1) := by decide +kernel
theorem dX1_keepers_9 : decode cX1_keepers 9 = .ok (.iload_n 1, 1) := by decide +kernel
theorem dX1_keepers_10 : decode cX1_keepers 10 = .ok (.aload_n 0, 1) := by decide +kernel
theorem dX1_keepers_11 : decode cX1_keepers 11 = .ok (.getfield 16, 3) := by decide +kernel
theorem dX1_keepers_14 : decode cX1_keepers 14 = .ok (.isub, 1) := by decide +kernel
theorem dX1_keepers_15 : decode cX1_keepers 15 = .ok (.invokevirtual 64, 3) := by decide +kernel
theorem dX1_keepers_18 : decode cX1_keepers 18 = .ok (.goto 4, 3) := by decide +kernel
theorem dX1_keepers_21 : decode cX1_keepers 21 = .ok (.iconst 0, 1) := by decide +kernel
theorem dX1_keepers_22 : decode cX1_keepers 22 = .ok (.ireturn, 1) := by decide +kernel
theorem dX1_keepersAfter_0 : decode cX1_keepersAfter 0 = .ok (.iload_n 1, 1) := by decide +kernel
theorem dX1_keepersAfter_1 : decode cX1_keepersAfter 1 = .ok (.aload_n 0, 1) := by decide +kernel
theorem dX1_keepersAfter_2 : decode cX1_keepersAfter 2 = .ok (.getfield 36, 3) := by decide +kernel
theorem dX1_keepersAfter_5 : decode cX1_keepersAfter 5 = .ok (.if_icmp .gt 12, 3) := by decide +kernel
theorem dX1_keepersAfter_8 : decode cX1_keepersAfter 8 = .ok (.iconst 1, 1) := by decide +kernel
theorem dX1_keepersAfter_9 : decode cX1_keepersAfter 9 = .ok (.aload_n 0, 1) := by decide +kernel
theorem dX1_keepersAfter_10 : decode cX1_keepersAfter 10 = .ok (.getfield 19, 3) := by decide +kernel
theorem dX1_keepersAfter_13 : decode cX1_keepersAfter 13 = .ok (.ishl, 1) := by decide +kernel
theorem dX1_keepersAfter_14 : decode cX1_keepersAfter 14 = .ok (.goto 4, 3) := by decide +kernel
theorem dX1_keepersAfter_17 : decode cX1_keepersAfter 17 = .ok (.iconst 0, 1) := by decide +kernel
theorem dX1_keepersAfter_18 : decode cX1_keepersAfter 18 = .ok (.istore_n 2, 1) := by decide +kernel
theorem dX1_keepersAfter_19 : decode cX1_keepersAfter 19 = .ok (.iload_n 1, 1) := by decide +kernel
theorem dX1_keepersAfter_20 : decode cX1_keepersAfter 20 = .ok (.aload_n 0, 1) := by decide +kernel
theorem dX1_keepersAfter_21 : decode cX1_keepersAfter 21 = .ok (.getfield 31, 3) := by decide +kernel
theorem dX1_keepersAfter_24 : decode cX1_keepersAfter 24 = .ok (.if_icmp .gt 12, 3) := by decide +kernel
theorem dX1_keepersAfter_27 : decode cX1_keepersAfter 27 = .ok (.iload_n 2, 1) := by decide +kernel
theorem dX1_keepersAfter_28 : decode cX1_keepersAfter 28 = .ok (.aload_n 0, 1) := by decide +kernel
theorem dX1_keepersAfter_29 : decode cX1_keepersAfter 29 = .ok (.getfield 22, 3) := by decide +kernel
theorem dX1_keepersAfter_32 : decode cX1_keepersAfter 32 = .ok (.ior, 1) := by decide +kernel
theorem dX1_keepersAfter_33 : decode cX1_keepersAfter 33 = .ok (.goto 4, 3) := by decide +kernel
theorem dX1_keepersAfter_36 : decode cX1_keepersAfter 36 = .ok (.iload_n 2, 1) := by decide +kernel
theorem dX1_keepersAfter_37 : decode cX1_keepersAfter 37 = .ok (.ireturn, 1) := by decide +kernel
theorem dX2_isWhole_0 : decode cX2_isWhole 0 = .ok (.aload_n 0, 1) := by decide +kernel
theorem dX2_isWhole_1 : decode cX2_isWhole 1 = .ok (.getfield 9, 3) := by decide +kernel
theorem dX2_isWhole_4 : decode cX2_isWhole 4 = .ok (.iconst 2, 1) := by decide +kernel
theorem dX2_isWhole_5 : decode cX2_isWhole 5 = .ok (.irem, 1) := by decide +kernel
theorem dX2_isWhole_6 : decode cX2_isWhole 6 = .ok (.ifCond .eq 5, 3) := by decide +kernel
theorem dX2_isWhole_9 : decode cX2_isWhole 9 = .ok (.iconst 0, 1) := by decide +kernel
theorem dX2_isWhole_10 : decode cX2_isWhole 10 = .ok (.ireturn, 1) := by decide +kernel
theorem dX2_isWhole_11 : decode cX2_isWhole 11 = .ok (.iconst 0, 1) := by decide +kernel
theorem dX2_isWhole_12 : decode cX2_isWhole 12 = .ok (.istore_n 2, 1) := by decide +kernel
theorem dX2_isWhole_13 : decode cX2_isWhole 13 = .ok (.iload_n 2, 1) := by decide +kernel
theorem dX2_isWhole_14 : decode cX2_isWhole 14 = .ok (.aload_n 0, 1) := by decide +kernel
theorem dX2_isWhole_15 : decode cX2_isWhole 15 = .ok (.getfield 9, 3) := by decide +kernel
theorem dX2_isWhole_18 : decode cX2_isWhole 18 = .ok (.if_icmp .ge 39, 3) := by decide +kernel
theorem dX2_isWhole_21 : decode cX2_isWhole 21 = .ok (.aload_n 1, 1) := by decide +kernel
theorem dX2_isWhole_22 : decode cX2_isWhole 22 = .ok (.aload_n 0, 1) := by decide +kernel
theorem dX2_isWhole_23 : decode cX2_isWhole 23 = .ok (.iload_n 2, 1) := by decide +kernel
theorem dX2_isWhole_24 : decode cX2_isWhole 24 = .ok (.invokevirtual 15, 3) := by decide +kernel
theorem dX2_isWhole_27 : decode cX2_isWhole 27 = .ok (.invokevirtual 19, 3) := by decide +kernel
theorem dX2_isWhole_30 : decode cX2_isWhole 30 = .ok (.ifnull 19, 3) := by decide +kernel
theorem dX2_isWhole_33 : decode cX2_isWhole 33 = .ok (.aload_n 0, 1) := by decide +kernel
theorem dX2_isWhole_34 : decode cX2_isWhole 34 = .ok (.iload_n 2, 1) := by decide +kernel
theorem dX2_isWhole_35 : decode cX2_isWhole 35 = .ok (.iconst 1, 1) := by decide +kernel
theorem dX2_isWhole_36 : decode cX2_isWhole 36 = .ok (.iadd, 1) := by decide +kernel
theorem dX2_isWhole_37 : decode cX2_isWhole 37 = .ok (.invokevirtual 15, 3) := by decide +kernel
theorem dX2_isWhole_40 : decode cX2_isWhole 40 = .ok (.sipush 364, 3) := by decide +kernel
theorem dX2_isWhole_43 : decode cX2_isWhole 43 = .ok (.invokestatic 25, 3) := by decide +kernel
theorem dX2_isWhole_46 : decode cX2_isWhole 46 = .ok (.ifCond .ne 5, 3) := by decide +kernel
theorem dX2_isWhole_49 : decode cX2_isWhole 49 = .ok (.iconst 0, 1) := by decide +kernel
theorem dX2_isWhole_50 : decode cX2_isWhole 50 = .ok (.ireturn, 1) := by decide +kernel
theorem dX2_isWhole_51 : decode cX2_isWhole 51 = .ok (.iinc 2 2, 3) := by decide +kernel
theorem dX2_isWhole_54 : decode cX2_isWhole 54 = .ok (.goto (-41), 3) := by decide +kernel
theorem dX2_isWhole_57 : decode cX2_isWhole 57 = .ok (.iconst 1, 1) := by decide +kernel
theorem dX2_isWhole_58 : decode cX2_isWhole 58 = .ok (.ireturn, 1) := by decide +kernel
theorem dX2_timesTold_0 : decode cX2_timesTold 0 = .ok (.iconst 0, 1) := by decide +kernel
theorem dX2_timesTold_1 : decode cX2_timesTold 1 = .ok (.istore_n 3, 1) := by decide +kernel
theorem dX2_timesTold_2 : decode cX2_timesTold 2 = .ok (.iconst 0, 1) := by decide +kernel
theorem dX2_timesTold_3 : decode cX2_timesTold 3 = .ok (.istore 4, 2) := by decide +kernel
theorem dX2_timesTold_5 : decode cX2_timesTold 5 = .ok (.iload 4, 2) := by decide +kernel
theorem dX2_timesTold_7 : decode cX2_timesTold 7 = .ok (.aload_n 0, 1) := by decide +kernel
theorem dX2_timesTold_8 : decode cX2_timesTold 8 = .ok (.getfield 9, 3) := by decide +kernel
theorem dX2_timesTold_11 : decode cX2_timesTold 11 = .ok (.if_icmp .ge 34, 3) := by decide +kernel
theorem dX2_timesTold_14 : decode cX2_timesTold 14 = .ok (.aload_n 0, 1) := by decide +kernel
theorem dX2_timesTold_15 : decode cX2_timesTold 15 = .ok (.iload 4, 2) := by decide +kernel
theorem dX2_timesTold_17 : decode cX2_timesTold 17 = .ok (.invokevirtual 15, 3) := by decide +kernel
theorem dX2_timesTold_20 : decode cX2_timesTold 20 = .ok (.iload_n 1, 1) := by decide +kernel
theorem dX2_timesTold_21 : decode cX2_timesTold 21 = .ok (.if_icmp .ne 18, 3) := by decide +kernel
theorem dX2_timesTold_24 : decode cX2_timesTold 24 = .ok (.aload_n 0, 1) := by decide +kernel
theorem dX2_timesTold_25 : decode cX2_timesTold 25 = .ok (.iload 4, 2) := by decide +kernel
theorem dX2_timesTold_27 : decode cX2_timesTold 27 = .ok (.iconst 1, 1) := by decide +kernel
theorem dX2_timesTold_28 : decode cX2_timesTold 28 = .ok (.iadd, 1) := by decide +kernel
theorem dX2_timesTold_29 : decode cX2_timesTold 29 = .ok (.invokevirtual 15, 3) := by decide +kernel
theorem dX2_timesTold_32 : decode cX2_timesTold 32 = .ok (.iload_n 2, 1) := by decide +kernel
theorem dX2_timesTold_33 : decode cX2_timesTold 33 = .ok (.if_icmp .ne 6, 3) := by decide +kernel
theorem dX2_timesTold_36 : decode cX2_timesTold 36 = .ok (.iinc 3 1, 3) := by decide +kernel
theorem dX2_timesTold_39 : decode cX2_timesTold 39 = .ok (.iinc 4 2, 3) := by decide +kernel
theorem dX2_timesTold_42 : decode cX2_timesTold 42 = .ok (.goto (-37), 3) := by decide +kernel
theorem dX2_timesTold_45 : decode cX2_timesTold 45 = .ok (.iload_n 3, 1) := by decide +kernel
theorem dX2_timesTold_46 : decode cX2_timesTold 46 = .ok (.ireturn, 1) := by decide +kernel
theorem dX2_dayToldMost_0 : decode cX2_dayToldMost 0 = .ok (.bipush (-4), 2) := by decide +kernel
theorem dX2_dayToldMost_2 : decode cX2_dayToldMost 2 = .ok (.istore_n 2, 1) := by decide +kernel
theorem dX2_dayToldMost_3 : decode cX2_dayToldMost 3 = .ok (.iconst 0, 1) := by decide +kernel
theorem dX2_dayToldMost_4 : decode cX2_dayToldMost 4 = .ok (.istore_n 3, 1) := by decide +kernel
theorem dX2_dayToldMost_5 : decode cX2_dayToldMost 5 = .ok (.iconst 0, 1) := by decide +kernel
theorem dX2_dayToldMost_6 : decode cX2_dayToldMost 6 = .ok (.istore 4, 2) := by decide +kernel
theorem dX2_dayToldMost_8 : decode cX2_dayToldMost 8 = .ok (.iload 4, 2) := by decide +kernel
theorem dX2_dayToldMost_10 : decode cX2_dayToldMost 10 = .ok (.aload_n 0, 1) := by decide +kernel
theorem dX2_dayToldMost_11 : decode cX2_dayToldMost 11 = .ok (.getfield 9, 3) := by decide +kernel
theorem dX2_dayToldMost_14 : decode cX2_dayToldMost 14 = .ok (.if_icmp .ge 71, 3) := by decide +kernel
theorem dX2_dayToldMost_17 : decode cX2_dayToldMost 17 = .ok (.aload_n 0, 1) := by decide +kernel
theorem dX2_dayToldMost_18 : decode cX2_dayToldMost 18 = .ok (.iload 4, 2) := by decide +kernel
theorem dX2_dayToldMost_20 : decode cX2_dayToldMost 20 = .ok (.iconst 1, 1) := by decide +kernel
theorem dX2_dayToldMost_21 : decode cX2_dayToldMost 21 = .ok (.iadd, 1) := by decide +kernel
theorem dX2_dayToldMost_22 : decode cX2_dayToldMost 22 = .ok (.invokevirtual 15, 3) := by decide +kernel
theorem dX2_dayToldMost_25 : decode cX2_dayToldMost 25 = .ok (.istore 5, 2) := by decide +kernel
theorem dX2_dayToldMost_27 : decode cX2_dayToldMost 27 = .ok (.aload_n 0, 1) := by decide +kernel
theorem dX2_dayToldMost_28 : decode cX2_dayToldMost 28 = .ok (.iload 4, 2) := by decide +kernel
theorem dX2_dayToldMost_30 : decode cX2_dayToldMost 30 = .ok (.invokevirtual 15, 3) := by decide +kernel
theorem dX2_dayToldMost_33 : decode cX2_dayToldMost 33 = .ok (.iload_n 1, 1) := by decide +kernel
theorem dX2_dayToldMost_34 : decode cX2_dayToldMost 34 = .ok (.if_icmp .ne 13, 3) := by decide +kernel
theorem dX2_dayToldMost_37 : decode cX2_dayToldMost 37 = .ok (.aload_n 0, 1) := by decide +kernel
theorem dX2_dayToldMost_38 : decode cX2_dayToldMost 38 = .ok (.iload_n 1, 1) := by decide +kernel
theorem dX2_dayToldMost_39 : decode cX2_dayToldMost 39 = .ok (.iload 5, 2) := by decide +kernel
theorem dX2_dayToldMost_41 : decode cX2_dayToldMost 41 = .ok (.invokestatic 29, 3) := by decide +kernel
theorem dX2_dayToldMost_44 : decode cX2_dayToldMost 44 = .ok (.goto 4, 3) := by decide +kernel
theorem dX2_dayToldMost_47 : decode cX2_dayToldMost 47 = .ok (.iconst 0, 1) := by decide +kernel
theorem dX2_dayToldMost_48 : decode cX2_dayToldMost 48 = .ok (.istore 6, 2) := by decide +kernel
theorem dX2_dayToldMost_50 : decode cX2_dayToldMost 50 = .ok (.iload 6, 2) := by decide +kernel
theorem dX2_dayToldMost_52 : decode cX2_dayToldMost 52 = .ok (.iload_n 3, 1) := by decide +kernel
theorem dX2_dayToldMost_53 : decode cX2_dayToldMost 53 = .ok (.if_icmp .gt 20, 3) := by decide +kernel
theorem dX2_dayToldMost_56 : decode cX2_dayToldMost 56 = .ok (.iload 6, 2) := by decide +kernel
theorem dX2_dayToldMost_58 : decode cX2_dayToldMost 58 = .ok (.ifCond .le 21, 3) := by decide +kernel
theorem dX2_dayToldMost_61 : decode cX2_dayToldMost 61 = .ok (.iload 6, 2) := by decide +kernel
theorem dX2_dayToldMost_63 : decode cX2_dayToldMost 63 = .ok (.iload_n 3, 1) := by decide +kernel
theorem dX2_dayToldMost_64 : decode cX2_dayToldMost 64 = .ok (.if_icmp .ne 15, 3) := by decide +kernel
theorem dX2_dayToldMost_67 : decode cX2_dayToldMost 67 = .ok (.iload 5, 2) := by decide +kernel
theorem dX2_dayToldMost_69 : decode cX2_dayToldMost 69 = .ok (.iload_n 2, 1) := by decide +kernel
theorem dX2_dayToldMost_70 : decode cX2_dayToldMost 70 = .ok (.if_icmp .ge 9, 3) := by decide +kernel
theorem dX2_dayToldMost_73 : decode cX2_dayToldMost 73 = .ok (.iload 6, 2) := by decide +kernel
theorem dX2_dayToldMost_75 : decode cX2_dayToldMost 75 = .ok (.istore_n 3, 1) := by decide +kernel
theorem dX2_dayToldMost_76 : decode cX2_dayToldMost 76 = .ok (.iload 5, 2) := by decide +kernel
theorem dX2_dayToldMost_78 : decode cX2_dayToldMost 78 = .ok (.istore_n 2, 1) := by decide +kernel
theorem dX2_dayToldMost_79 : decode cX2_dayToldMost 79 = .ok (.iinc 4 2, 3) := by decide +kernel
theorem dX2_dayToldMost_82 : decode cX2_dayToldMost 82 = .ok (.goto (-74), 3) := by decide +kernel
theorem dX2_dayToldMost_85 : decode cX2_dayToldMost 85 = .ok (.iload_n 2, 1) := by decide +kernel
theorem dX2_dayToldMost_86 : decode cX2_dayToldMost 86 = .ok (.ireturn, 1) := by decide +kernel
theorem dX2_fewestStruck_0 : decode cX2_fewestStruck 0 = .ok (.aload_n 0, 1) := by decide +kernel
theorem dX2_fewestStruck_1 : decode cX2_fewestStruck 1 = .ok (.getfield 9, 3) := by decide +kernel
theorem dX2_fewestStruck_4 : decode cX2_fewestStruck 4 = .ok (.iconst 2, 1) := by decide +kernel
theorem dX2_fewestStruck_5 : decode cX2_fewestStruck 5 = .ok (.idiv, 1) := by decide +kernel
theorem dX2_fewestStruck_6 : decode cX2_fewestStruck 6 = .ok (.istore_n 1, 1) := by decide +kernel
theorem dX2_fewestStruck_7 : decode cX2_fewestStruck 7 = .ok (.iconst 0, 1) := by decide +kernel
theorem dX2_fewestStruck_8 : decode cX2_fewestStruck 8 = .ok (.istore_n 2, 1) := by decide +kernel
theorem dX2_fewestStruck_9 : decode cX2_fewestStruck 9 = .ok (.iload_n 2, 1) := by decide +kernel
theorem dX2_fewestStruck_10 : decode cX2_fewestStruck 10 = .ok (.bipush 10, 2) := by decide +kernel
theorem dX2_fewestStruck_12 : decode cX2_fewestStruck 12 = .ok (.if_icmp .ge 22, 3) := by decide +kernel
theorem dX2_fewestStruck_15 : decode cX2_fewestStruck 15 = .ok (.iload_n 1, 1) := by decide +kernel
theorem dX2_fewestStruck_16 : decode cX2_fewestStruck 16 = .ok (.aload_n 0, 1) := by decide +kernel
theorem dX2_fewestStruck_17 : decode cX2_fewestStruck 17 = .ok (.iload_n 2, 1) := by decide +kernel
theorem dX2_fewestStruck_18 : decode cX2_fewestStruck 18 = .ok (.aload_n 0, 1) := by decide +kernel
theorem dX2_fewestStruck_19 : decode cX2_fewestStruck 19 = .ok (.iload_n 2, 1) := by decide +kernel
theorem dX2_fewestStruck_20 : decode cX2_fewestStruck 20 = .ok (.invokestatic 35, 3) := by decide +kernel
theorem dX2_fewestStruck_23 : decode cX2_fewestStruck 23 = .ok (.invokestatic 29, 3) := by decide +kernel
theorem dX2_fewestStruck_26 : decode cX2_fewestStruck 26 = .ok (.isub, 1) := by decide +kernel
theorem dX2_fewestStruck_27 : decode cX2_fewestStruck 27 = .ok (.istore_n 1, 1) := by decide +kernel
theorem dX2_fewestStruck_28 : decode cX2_fewestStruck 28 = .ok (.iinc 2 1, 3) := by decide +kernel
theorem dX2_fewestStruck_31 : decode cX2_fewestStruck 31 = .ok (.goto (-22), 3) := by decide +kernel
theorem dX2_fewestStruck_34 : decode cX2_fewestStruck 34 = .ok (.iload_n 1, 1) := by decide +kernel
theorem dX2_fewestStruck_35 : decode cX2_fewestStruck 35 = .ok (.ireturn, 1) := by decide +kernel
theorem dX2_offTheirDay_0 : decode cX2_offTheirDay 0 = .ok (.iconst 0, 1) := by decide +kernel
theorem dX2_offTheirDay_1 : decode cX2_offTheirDay 1 = .ok (.istore_n 2, 1) := by decide +kernel
theorem dX2_offTheirDay_2 : decode cX2_offTheirDay 2 = .ok (.iconst 0, 1) := by decide +kernel
theorem dX2_offTheirDay_3 : decode cX2_offTheirDay 3 = .ok (.istore_n 3, 1) := by decide +kernel
theorem dX2_offTheirDay_4 : decode cX2_offTheirDay 4 = .ok (.iload_n 3, 1) := by decide +kernel
theorem dX2_offTheirDay_5 : decode cX2_offTheirDay 5 = .ok (.aload_n 0, 1) := by decide +kernel
theorem dX2_offTheirDay_6 : decode cX2_offTheirDay 6 = .ok (.getfield 9, 3) := by decide +kernel
theorem dX2_offTheirDay_9 : decode cX2_offTheirDay 9 = .ok (.if_icmp .ge 43, 3) := by decide +kernel
theorem dX2_offTheirDay_12 : decode cX2_offTheirDay 12 = .ok (.aload_n 1, 1) := by decide +kernel
theorem dX2_offTheirDay_13 : decode cX2_offTheirDay 13 = .ok (.aload_n 0, 1) := by decide +kernel
theorem dX2_offTheirDay_14 : decode cX2_offTheirDay 14 = .ok (.iload_n 3, 1) := by decide +kernel
theorem dX2_offTheirDay_15 : decode cX2_offTheirDay 15 = .ok (.invokevirtual 15, 3) := by decide +kernel
theorem dX2_offTheirDay_18 : decode cX2_offTheirDay 18 = .ok (.invokevirtual 19, 3) := by decide +kernel
theorem dX2_offTheirDay_21 : decode cX2_offTheirDay 21 = .ok (.astore 4, 2) := by decide +kernel
theorem dX2_offTheirDay_23 : decode cX2_offTheirDay 23 = .ok (.aload 4, 2) := by decide +kernel
theorem dX2_offTheirDay_25 : decode cX2_offTheirDay 25 = .ok (.ifnull 21, 3) := by decide +kernel
theorem dX2_offTheirDay_28 : decode cX2_offTheirDay 28 = .ok (.aload 4, 2) := by decide +kernel
theorem dX2_offTheirDay_30 : decode cX2_offTheirDay 30 = .ok (.getfield 39, 3) := by decide +kernel
theorem dX2_offTheirDay_33 : decode cX2_offTheirDay 33 = .ok (.aload_n 0, 1) := by decide +kernel
theorem dX2_offTheirDay_34 : decode cX2_offTheirDay 34 = .ok (.iload_n 3, 1) := by decide +kernel
theorem dX2_offTheirDay_35 : decode cX2_offTheirDay 35 = .ok (.iconst 1, 1) := by decide +kernel
theorem dX2_offTheirDay_36 : decode cX2_offTheirDay 36 = .ok (.iadd, 1) := by decide +kernel
theorem dX2_offTheirDay_37 : decode cX2_offTheirDay 37 = .ok (.invokevirtual 15, 3) := by decide +kernel
theorem dX2_offTheirDay_40 : decode cX2_offTheirDay 40 = .ok (.if_icmp .eq 6, 3) := by decide +kernel
theorem dX2_offTheirDay_43 : decode cX2_offTheirDay 43 = .ok (.iinc 2 1, 3) := by decide +kernel
theorem dX2_offTheirDay_46 : decode cX2_offTheirDay 46 = .ok (.iinc 3 2, 3) := by decide +kernel
theorem dX2_offTheirDay_49 : decode cX2_offTheirDay 49 = .ok (.goto (-45), 3) := by decide +kernel
theorem dX2_offTheirDay_52 : decode cX2_offTheirDay 52 = .ok (.iload_n 2, 1) := by decide +kernel
theorem dX2_offTheirDay_53 : decode cX2_offTheirDay 53 = .ok (.ireturn, 1) := by decide +kernel
theorem dX3_inLeastTerms_0 : decode cX3_inLeastTerms 0 = .ok (.lload_n 0, 1) := by decide +kernel
theorem dX3_inLeastTerms_1 : decode cX3_inLeastTerms 1 = .ok (.lload_n 2, 1) := by decide +kernel
theorem dX3_inLeastTerms_2 : decode cX3_inLeastTerms 2 = .ok (.invokestatic 7, 3) := by decide +kernel
theorem dX3_inLeastTerms_5 : decode cX3_inLeastTerms 5 = .ok (.lstore 5, 2) := by decide +kernel
theorem dX3_inLeastTerms_7 : decode cX3_inLeastTerms 7 = .ok (.iload 4, 2) := by decide +kernel
theorem dX3_inLeastTerms_9 : decode cX3_inLeastTerms 9 = .ok (.ifCond .ne 7, 3) := by decide +kernel
theorem dX3_inLeastTerms_12 : decode cX3_inLeastTerms 12 = .ok (.lload_n 0, 1) := by decide +kernel
theorem dX3_inLeastTerms_13 : decode cX3_inLeastTerms 13 = .ok (.goto 4, 3) := by decide +kernel
theorem dX3_inLeastTerms_16 : decode cX3_inLeastTerms 16 = .ok (.lload_n 2, 1) := by decide +kernel
theorem dX3_inLeastTerms_17 : decode cX3_inLeastTerms 17 = .ok (.lstore 7, 2) := by decide +kernel
theorem dX3_inLeastTerms_19 : decode cX3_inLeastTerms 19 = .ok (.lload 5, 2) := by decide +kernel
theorem dX3_inLeastTerms_21 : decode cX3_inLeastTerms 21 = .ok (.lconst 0, 1) := by decide +kernel
theorem dX3_inLeastTerms_22 : decode cX3_inLeastTerms 22 = .ok (.lcmp, 1) := by decide +kernel
theorem dX3_inLeastTerms_23 : decode cX3_inLeastTerms 23 = .ok (.ifCond .ne 8, 3) := by decide +kernel
theorem dX3_inLeastTerms_26 : decode cX3_inLeastTerms 26 = .ok (.lload 7, 2) := by decide +kernel
theorem dX3_inLeastTerms_28 : decode cX3_inLeastTerms 28 = .ok (.goto 8, 3) := by decide +kernel
theorem dX3_inLeastTerms_31 : decode cX3_inLeastTerms 31 = .ok (.lload 7, 2) := by decide +kernel
theorem dX3_inLeastTerms_33 : decode cX3_inLeastTerms 33 = .ok (.lload 5, 2) := by decide +kernel
theorem dX3_inLeastTerms_35 : decode cX3_inLeastTerms 35 = .ok (.ldiv, 1) := by decide +kernel
theorem dX3_inLeastTerms_36 : decode cX3_inLeastTerms 36 = .ok (.lreturn, 1) := by decide +kernel
theorem dX3_commonDivisor_0 : decode cX3_commonDivisor 0 = .ok (.lload_n 0, 1) := by decide +kernel
theorem dX3_commonDivisor_1 : decode cX3_commonDivisor 1 = .ok (.lstore 4, 2) := by decide +kernel
theorem dX3_commonDivisor_3 : decode cX3_commonDivisor 3 = .ok (.lload_n 2, 1) := by decide +kernel
theorem dX3_commonDivisor_4 : decode cX3_commonDivisor 4 = .ok (.lstore 6, 2) := by decide +kernel
theorem dX3_commonDivisor_6 : decode cX3_commonDivisor 6 = .ok (.iconst 0, 1) := by decide +kernel
theorem dX3_commonDivisor_7 : decode cX3_commonDivisor 7 = .ok (.istore 8, 2) := by decide +kernel
theorem dX3_commonDivisor_9 : decode cX3_commonDivisor 9 = .ok (.iload 8, 2) := by decide +kernel
theorem dX3_commonDivisor_11 : decode cX3_commonDivisor 11 = .ok (.sipush 200, 3) := by decide +kernel
theorem dX3_commonDivisor_14 : decode cX3_commonDivisor 14 = .ok (.if_icmp .ge 31, 3) := by decide +kernel
theorem dX3_commonDivisor_17 : decode cX3_commonDivisor 17 = .ok (.lload 6, 2) := by decide +kernel
theorem dX3_commonDivisor_19 : decode cX3_commonDivisor 19 = .ok (.lconst 0, 1) := by decide +kernel
theorem dX3_commonDivisor_20 : decode cX3_commonDivisor 20 = .ok (.lcmp, 1) := by decide +kernel
theorem dX3_commonDivisor_21 : decode cX3_commonDivisor 21 = .ok (.ifCond .eq 24, 3) := by decide +kernel
theorem dX3_commonDivisor_24 : decode cX3_commonDivisor 24 = .ok (.lload 4, 2) := by decide +kernel
theorem dX3_commonDivisor_26 : decode cX3_commonDivisor 26 = .ok (.lload 6, 2) := by decide +kernel
theorem dX3_commonDivisor_28 : decode cX3_commonDivisor 28 = .ok (.lrem, 1) := by decide +kernel
theorem dX3_commonDivisor_29 : decode cX3_commonDivisor 29 = .ok (.lstore 9, 2) := by decide +kernel
theorem dX3_commonDivisor_31 : decode cX3_commonDivisor 31 = .ok (.lload 6, 2) := by decide +kernel
theorem dX3_commonDivisor_33 : decode cX3_commonDivisor 33 = .ok (.lstore 4, 2) := by decide +kernel
theorem dX3_commonDivisor_35 : decode cX3_commonDivisor 35 = .ok (.lload 9, 2) := by decide +kernel
theorem dX3_commonDivisor_37 : decode cX3_commonDivisor 37 = .ok (.lstore 6, 2) := by decide +kernel
theorem dX3_commonDivisor_39 : decode cX3_commonDivisor 39 = .ok (.iinc 8 1, 3) := by decide +kernel
theorem dX3_commonDivisor_42 : decode cX3_commonDivisor 42 = .ok (.goto (-33), 3) := by decide +kernel
theorem dX3_commonDivisor_45 : decode cX3_commonDivisor 45 = .ok (.lload 4, 2) := by decide +kernel
theorem dX3_commonDivisor_47 : decode cX3_commonDivisor 47 = .ok (.lreturn, 1) := by decide +kernel
theorem dX3_power_0 : decode cX3_power 0 = .ok (.lconst 1, 1) := by decide +kernel
theorem dX3_power_1 : decode cX3_power 1 = .ok (.lstore_n 2, 1) := by decide +kernel
theorem dX3_power_2 : decode cX3_power 2 = .ok (.iconst 0, 1) := by decide +kernel
theorem dX3_power_3 : decode cX3_power 3 = .ok (.istore 4, 2) := by decide +kernel
theorem dX3_power_5 : decode cX3_power 5 = .ok (.iload 4, 2) := by decide +kernel
theorem dX3_power_7 : decode cX3_power 7 = .ok (.iload_n 1, 1) := by decide +kernel
theorem dX3_power_8 : decode cX3_power 8 = .ok (.if_icmp .ge 14, 3) := by decide +kernel
theorem dX3_power_11 : decode cX3_power 11 = .ok (.lload_n 2, 1) := by decide +kernel
theorem dX3_power_12 : decode cX3_power 12 = .ok (.iload_n 0, 1) := by decide +kernel
theorem dX3_power_13 : decode cX3_power 13 = .ok (.i2l, 1) := by decide +kernel
theorem dX3_power_14 : decode cX3_power 14 = .ok (.lmul, 1) := by decide +kernel
theorem dX3_power_15 : decode cX3_power 15 = .ok (.lstore_n 2, 1) := by decide +kernel
theorem dX3_power_16 : decode cX3_power 16 = .ok (.iinc 4 1, 3) := by decide +kernel
theorem dX3_power_19 : decode cX3_power 19 = .ok (.goto (-14), 3) := by decide +kernel
theorem dX3_power_22 : decode cX3_power 22 = .ok (.lload_n 2, 1) := by decide +kernel
theorem dX3_power_23 : decode cX3_power 23 = .ok (.lreturn, 1) := by decide +kernel
theorem dX3_waysToChoose_0 : decode cX3_waysToChoose 0 = .ok (.lconst 1, 1) := by decide +kernel
theorem dX3_waysToChoose_1 : decode cX3_waysToChoose 1 = .ok (.lstore_n 2, 1) := by decide +kernel
theorem dX3_waysToChoose_2 : decode cX3_waysToChoose 2 = .ok (.iconst 1, 1) := by decide +kernel
theorem dX3_waysToChoose_3 : decode cX3_waysToChoose 3 = .ok (.istore 4, 2) := by decide +kernel
theorem dX3_waysToChoose_5 : decode cX3_waysToChoose 5 = .ok (.iload 4, 2) := by decide +kernel
theorem dX3_waysToChoose_7 : decode cX3_waysToChoose 7 = .ok (.iload_n 1, 1) := by decide +kernel
theorem dX3_waysToChoose_8 : decode cX3_waysToChoose 8 = .ok (.if_icmp .gt 23, 3) := by decide +kernel
theorem dX3_waysToChoose_11 : decode cX3_waysToChoose 11 = .ok (.lload_n 2, 1) := by decide +kernel
theorem dX3_waysToChoose_12 : decode cX3_waysToChoose 12 = .ok (.iload_n 0, 1) := by decide +kernel
theorem dX3_waysToChoose_13 : decode cX3_waysToChoose 13 = .ok (.iload 4, 2) := by decide +kernel
theorem dX3_waysToChoose_15 : decode cX3_waysToChoose 15 = .ok (.isub, 1) := by decide +kernel
theorem dX3_waysToChoose_16 : decode cX3_waysToChoose 16 = .ok (.iconst 1, 1) := by decide +kernel
theorem dX3_waysToChoose_17 : decode cX3_waysToChoose 17 = .ok (.iadd, 1) := by decide +kernel
theorem dX3_waysToChoose_18 : decode cX3_waysToChoose 18 = .ok (.i2l, 1) := by decide +kernel
theorem dX3_waysToChoose_19 : decode cX3_waysToChoose 19 = .ok (.lmul, 1) := by decide +kernel
theorem dX3_waysToChoose_20 : decode cX3_waysToChoose 20 = .ok (.iload 4, 2) := by decide +kernel
theorem dX3_waysToChoose_22 : decode cX3_waysToChoose 22 = .ok (.i2l, 1) := by decide +kernel
theorem dX3_waysToChoose_23 : decode cX3_waysToChoose 23 = .ok (.ldiv, 1) := by decide +kernel
theorem dX3_waysToChoose_24 : decode cX3_waysToChoose 24 = .ok (.lstore_n 2, 1) := by decide +kernel
theorem dX3_waysToChoose_25 : decode cX3_waysToChoose 25 = .ok (.iinc 4 1, 3) := by decide +kernel
theorem dX3_waysToChoose_28 : decode cX3_waysToChoose 28 = .ok (.goto (-23), 3) := by decide +kernel
theorem dX3_waysToChoose_31 : decode cX3_waysToChoose 31 = .ok (.lload_n 2, 1) := by decide +kernel
theorem dX3_waysToChoose_32 : decode cX3_waysToChoose 32 = .ok (.lreturn, 1) := by decide +kernel
theorem dX3_waysOfSoMany_0 : decode cX3_waysOfSoMany 0 = .ok (.lconst 0, 1) := by decide +kernel
theorem dX3_waysOfSoMany_1 : decode cX3_waysOfSoMany 1 = .ok (.lstore_n 3, 1) := by decide +kernel
theorem dX3_waysOfSoMany_2 : decode cX3_waysOfSoMany 2 = .ok (.iload_n 2, 1) := by decide +kernel
theorem dX3_waysOfSoMany_3 : decode cX3_waysOfSoMany 3 = .ok (.istore 5, 2) := by decide +kernel
theorem dX3_waysOfSoMany_5 : decode cX3_waysOfSoMany 5 = .ok (.iload 5, 2) := by decide +kernel
theorem dX3_waysOfSoMany_7 : decode cX3_waysOfSoMany 7 = .ok (.iload_n 0, 1) := by decide +kernel
theorem dX3_waysOfSoMany_8 : decode cX3_waysOfSoMany 8 = .ok (.if_icmp .gt 29, 3) := by decide +kernel
theorem dX3_waysOfSoMany_11 : decode cX3_waysOfSoMany 11 = .ok (.lload_n 3, 1) := by decide +kernel
theorem dX3_waysOfSoMany_12 : decode cX3_waysOfSoMany 12 = .ok (.iload_n 0, 1) := by decide +kernel
theorem dX3_waysOfSoMany_13 : decode cX3_waysOfSoMany 13 = .ok (.iload 5, 2) := by decide +kernel
theorem dX3_waysOfSoMany_15 : decode cX3_waysOfSoMany 15 = .ok (.invokestatic 13, 3) := by decide +kernel
theorem dX3_waysOfSoMany_18 : decode cX3_waysOfSoMany 18 = .ok (.iload_n 1, 1) := by decide +kernel
theorem dX3_waysOfSoMany_19 : decode cX3_waysOfSoMany 19 = .ok (.iconst 1, 1) := by decide +kernel
theorem dX3_waysOfSoMany_20 : decode cX3_waysOfSoMany 20 = .ok (.isub, 1) := by decide +kernel
theorem dX3_waysOfSoMany_21 : decode cX3_waysOfSoMany 21 = .ok (.iload_n 0, 1) := by decide +kernel
theorem dX3_waysOfSoMany_22 : decode cX3_waysOfSoMany 22 = .ok (.iload 5, 2) := by decide +kernel
theorem dX3_waysOfSoMany_24 : decode cX3_waysOfSoMany 24 = .ok (.isub, 1) := by decide +kernel
theorem dX3_waysOfSoMany_25 : decode cX3_waysOfSoMany 25 = .ok (.invokestatic 17, 3) := by decide +kernel
theorem dX3_waysOfSoMany_28 : decode cX3_waysOfSoMany 28 = .ok (.lmul, 1) := by decide +kernel
theorem dX3_waysOfSoMany_29 : decode cX3_waysOfSoMany 29 = .ok (.ladd, 1) := by decide +kernel
theorem dX3_waysOfSoMany_30 : decode cX3_waysOfSoMany 30 = .ok (.lstore_n 3, 1) := by decide +kernel
theorem dX3_waysOfSoMany_31 : decode cX3_waysOfSoMany 31 = .ok (.iinc 5 1, 3) := by decide +kernel
theorem dX3_waysOfSoMany_34 : decode cX3_waysOfSoMany 34 = .ok (.goto (-29), 3) := by decide +kernel
theorem dX3_waysOfSoMany_37 : decode cX3_waysOfSoMany 37 = .ok (.lload_n 3, 1) := by decide +kernel
theorem dX3_waysOfSoMany_38 : decode cX3_waysOfSoMany 38 = .ok (.lreturn, 1) := by decide +kernel
theorem dX4_lasting_0 : decode cX4_lasting 0 = .ok (.bipush 10, 2) := by decide +kernel
theorem dX4_lasting_2 : decode cX4_lasting 2 = .ok (.iload_n 1, 1) := by decide +kernel
theorem dX4_lasting_3 : decode cX4_lasting 3 = .ok (.iadd, 1) := by decide +kernel
theorem dX4_lasting_4 : decode cX4_lasting 4 = .ok (.istore_n 2, 1) := by decide +kernel
theorem dX4_lasting_5 : decode cX4_lasting 5 = .ok (.iload_n 2, 1) := by decide +kernel
theorem dX4_lasting_6 : decode cX4_lasting 6 = .ok (.iconst 2, 1) := by decide +kernel
theorem dX4_lasting_7 : decode cX4_lasting 7 = .ok (.idiv, 1) := by decide +kernel
theorem dX4_lasting_8 : decode cX4_lasting 8 = .ok (.istore_n 3, 1) := by decide +kernel
theorem dX4_lasting_9 : decode cX4_lasting 9 = .ok (.iconst 4, 1) := by decide +kernel
theorem dX4_lasting_10 : decode cX4_lasting 10 = .ok (.iload_n 2, 1) := by decide +kernel
theorem dX4_lasting_11 : decode cX4_lasting 11 = .ok (.imul, 1) := by decide +kernel
theorem dX4_lasting_12 : decode cX4_lasting 12 = .ok (.istore 4, 2) := by decide +kernel
theorem dX4_lasting_14 : decode cX4_lasting 14 = .ok (.iload_n 0, 1) := by decide +kernel
theorem dX4_lasting_15 : decode cX4_lasting 15 = .ok (.tableswitch 67 1 7 #[41, 43, 46, 51, 53, 58, 63], 41) := by decide +kernel
theorem dX4_lasting_56 : decode cX4_lasting 56 = .ok (.iload_n 3, 1) := by decide +kernel
theorem dX4_lasting_57 : decode cX4_lasting 57 = .ok (.ireturn, 1) := by decide +kernel
theorem dX4_lasting_58 : decode cX4_lasting 58 = .ok (.iload 4, 2) := by decide +kernel
theorem dX4_lasting_60 : decode cX4_lasting 60 = .ok (.ireturn, 1) := by decide +kernel
theorem dX4_lasting_61 : decode cX4_lasting 61 = .ok (.iload_n 2, 1) := by decide +kernel
theorem dX4_lasting_62 : decode cX4_lasting 62 = .ok (.bipush 30, 2) := by decide +kernel
theorem dX4_lasting_64 : decode cX4_lasting 64 = .ok (.iadd, 1) := by decide +kernel
theorem dX4_lasting_65 : decode cX4_lasting 65 = .ok (.ireturn, 1) := by decide +kernel
theorem dX4_lasting_66 : decode cX4_lasting 66 = .ok (.iload_n 1, 1) := by decide +kernel
theorem dX4_lasting_67 : decode cX4_lasting 67 = .ok (.ireturn, 1) := by decide +kernel
theorem dX4_lasting_68 : decode cX4_lasting 68 = .ok (.iload_n 3, 1) := by decide +kernel
theorem dX4_lasting_69 : decode cX4_lasting 69 = .ok (.bipush 20, 2) := by decide +kernel
theorem dX4_lasting_71 : decode cX4_lasting 71 = .ok (.iadd, 1) := by decide +kernel
theorem dX4_lasting_72 : decode cX4_lasting 72 = .ok (.ireturn, 1) := by decide +kernel
theorem dX4_lasting_73 : decode cX4_lasting 73 = .ok (.iload 4, 2) := by decide +kernel
theorem dX4_lasting_75 : decode cX4_lasting 75 = .ok (.iconst 2, 1) := by decide +kernel
theorem dX4_lasting_76 : decode cX4_lasting 76 = .ok (.idiv, 1) := by decide +kernel
theorem dX4_lasting_77 : decode cX4_lasting 77 = .ok (.ireturn, 1) := by decide +kernel
theorem dX4_lasting_78 : decode cX4_lasting 78 = .ok (.iload_n 3, 1) := by decide +kernel
theorem dX4_lasting_79 : decode cX4_lasting 79 = .ok (.iconst 1, 1) := by decide +kernel
theorem dX4_lasting_80 : decode cX4_lasting 80 = .ok (.iadd, 1) := by decide +kernel
theorem dX4_lasting_81 : decode cX4_lasting 81 = .ok (.ireturn, 1) := by decide +kernel
theorem dX4_lasting_82 : decode cX4_lasting 82 = .ok (.iload_n 2, 1) := by decide +kernel
theorem dX4_lasting_83 : decode cX4_lasting 83 = .ok (.ireturn, 1) := by decide +kernel
theorem dX4_lastingOwn_0 : decode cX4_lastingOwn 0 = .ok (.iload_n 0, 1) := by decide +kernel
theorem dX4_lastingOwn_1 : decode cX4_lastingOwn 1 = .ok (.tableswitch 57 1 7 #[43, 47, 57, 57, 51, 55, 43], 43) := by decide +kernel
theorem dX4_lastingOwn_44 : decode cX4_lastingOwn 44 = .ok (.iconst 3, 1) := by decide +kernel
theorem dX4_lastingOwn_45 : decode cX4_lastingOwn 45 = .ok (.iload_n 1, 1) := by decide +kernel
theorem dX4_lastingOwn_46 : decode cX4_lastingOwn 46 = .ok (.imul, 1) := by decide +kernel
theorem dX4_lastingOwn_47 : decode cX4_lastingOwn 47 = .ok (.ireturn, 1) := by decide +kernel
theorem dX4_lastingOwn_48 : decode cX4_lastingOwn 48 = .ok (.iload_n 1, 1) := by decide +kernel
theorem dX4_lastingOwn_49 : decode cX4_lastingOwn 49 = .ok (.iconst 2, 1) := by decide +kernel
theorem dX4_lastingOwn_50 : decode cX4_lastingOwn 50 = .ok (.idiv, 1) := by decide +kernel
theorem dX4_lastingOwn_51 : decode cX4_lastingOwn 51 = .ok (.ireturn, 1) := by decide +kernel
theorem dX4_lastingOwn_52 : decode cX4_lastingOwn 52 = .ok (.sipush 365, 3) := by decide +kernel
theorem dX4_lastingOwn_55 : decode cX4_lastingOwn 55 = .ok (.ireturn, 1) := by decide +kernel
theorem dX4_lastingOwn_56 : decode cX4_lastingOwn 56 = .ok (.iconst 0, 1) := by decide +kernel
theorem dX4_lastingOwn_57 : decode cX4_lastingOwn 57 = .ok (.ireturn, 1) := by decide +kernel
theorem dX4_lastingOwn_58 : decode cX4_lastingOwn 58 = .ok (.iload_n 1, 1) := by decide +kernel
theorem dX4_lastingOwn_59 : decode cX4_lastingOwn 59 = .ok (.ireturn, 1) := by decide +kernel
theorem dX4_size_0 : decode cX4_size 0 = .ok (.bipush 10, 2) := by decide +kernel
theorem dX4_size_2 : decode cX4_size 2 = .ok (.istore_n 2, 1) := by decide +kernel
theorem dX4_size_3 : decode cX4_size 3 = .ok (.iload_n 2, 1) := by decide +kernel
theorem dX4_size_4 : decode cX4_size 4 = .ok (.iconst 4, 1) := by decide +kernel
theorem dX4_size_5 : decode cX4_size 5 = .ok (.isub, 1) := by decide +kernel
theorem dX4_size_6 : decode cX4_size 6 = .ok (.istore_n 3, 1) := by decide +kernel
theorem dX4_size_7 : decode cX4_size 7 = .ok (.iload_n 0, 1) := by decide +kernel
theorem dX4_size_8 : decode cX4_size 8 = .ok (.tableswitch 60 1 7 #[44, 46, 60, 50, 52, 46, 56], 44) := by decide +kernel
theorem dX4_size_52 : decode cX4_size 52 = .ok (.iload_n 3, 1) := by decide +kernel
theorem dX4_size_53 : decode cX4_size 53 = .ok (.ireturn, 1) := by decide +kernel
theorem dX4_size_54 : decode cX4_size 54 = .ok (.iload_n 2, 1) := by decide +kernel
theorem dX4_size_55 : decode cX4_size 55 = .ok (.iconst 2, 1) := by decide +kernel
theorem dX4_size_56 : decode cX4_size 56 = .ok (.iadd, 1) := by decide +kernel
theorem dX4_size_57 : decode cX4_size 57 = .ok (.ireturn, 1) := by decide +kernel
theorem dX4_size_58 : decode cX4_size 58 = .ok (.iload_n 1, 1) := by decide +kernel
theorem dX4_size_59 : decode cX4_size 59 = .ok (.ireturn, 1) := by decide +kernel
theorem dX4_size_60 : decode cX4_size 60 = .ok (.iconst 2, 1) := by decide +kernel
theorem dX4_size_61 : decode cX4_size 61 = .ok (.iload_n 3, 1) := by decide +kernel
theorem dX4_size_62 : decode cX4_size 62 = .ok (.imul, 1) := by decide +kernel
theorem dX4_size_63 : decode cX4_size 63 = .ok (.ireturn, 1) := by decide +kernel
theorem dX4_size_64 : decode cX4_size 64 = .ok (.iload_n 3, 1) := by decide +kernel
theorem dX4_size_65 : decode cX4_size 65 = .ok (.iconst 1, 1) := by decide +kernel
theorem dX4_size_66 : decode cX4_size 66 = .ok (.isub, 1) := by decide +kernel
theorem dX4_size_67 : decode cX4_size 67 = .ok (.ireturn, 1) := by decide +kernel
theorem dX4_size_68 : decode cX4_size 68 = .ok (.iload_n 2, 1) := by decide +kernel
theorem dX4_size_69 : decode cX4_size 69 = .ok (.ireturn, 1) := by decide +kernel
theorem dX4_burden_0 : decode cX4_burden 0 = .ok (.iconst 0, 1) := by decide +kernel
theorem dX4_burden_1 : decode cX4_burden 1 = .ok (.istore_n 2, 1) := by decide +kernel
theorem dX4_burden_2 : decode cX4_burden 2 = .ok (.iload_n 2, 1) := by decide +kernel
theorem dX4_burden_3 : decode cX4_burden 3 = .ok (.iconst 1, 1) := by decide +kernel
theorem dX4_burden_4 : decode cX4_burden 4 = .ok (.isub, 1) := by decide +kernel
theorem dX4_burden_5 : decode cX4_burden 5 = .ok (.istore_n 3, 1) := by decide +kernel
theorem dX4_burden_6 : decode cX4_burden 6 = .ok (.iload_n 1, 1) := by decide +kernel
theorem dX4_burden_7 : decode cX4_burden 7 = .ok (.iconst 1, 1) := by decide +kernel
theorem dX4_burden_8 : decode cX4_burden 8 = .ok (.iadd, 1) := by decide +kernel
theorem dX4_burden_9 : decode cX4_burden 9 = .ok (.istore 4, 2) := by decide +kernel
theorem dX4_burden_11 : decode cX4_burden 11 = .ok (.iload_n 0, 1) := by decide +kernel
theorem dX4_burden_12 : decode cX4_burden 12 = .ok (.tableswitch 58 1 7 #[44, 46, 58, 58, 49, 53, 44], 44) := by decide +kernel
theorem dX4_burden_56 : decode cX4_burden 56 = .ok (.iload_n 3, 1) := by decide +kernel
theorem dX4_burden_57 : decode cX4_burden 57 = .ok (.ireturn, 1) := by decide +kernel
theorem dX4_burden_58 : decode cX4_burden 58 = .ok (.iload 4, 2) := by decide +kernel
theorem dX4_burden_60 : decode cX4_burden 60 = .ok (.ireturn, 1) := by decide +kernel
theorem dX4_burden_61 : decode cX4_burden 61 = .ok (.iload_n 3, 1) := by decide +kernel
theorem dX4_burden_62 : decode cX4_burden 62 = .ok (.iconst 2, 1) := by decide +kernel
theorem dX4_burden_63 : decode cX4_burden 63 = .ok (.isub, 1) := by decide +kernel
theorem dX4_burden_64 : decode cX4_burden 64 = .ok (.ireturn, 1) := by decide +kernel
theorem dX4_burden_65 : decode cX4_burden 65 = .ok (.iconst 2, 1) := by decide +kernel
theorem dX4_burden_66 : decode cX4_burden 66 = .ok (.iload 4, 2) := by decide +kernel
theorem dX4_burden_68 : decode cX4_burden 68 = .ok (.imul, 1) := by decide +kernel
theorem dX4_burden_69 : decode cX4_burden 69 = .ok (.ireturn, 1) := by decide +kernel
theorem dX4_burden_70 : decode cX4_burden 70 = .ok (.iload_n 2, 1) := by decide +kernel
theorem dX4_burden_71 : decode cX4_burden 71 = .ok (.ireturn, 1) := by decide +kernel
theorem dX4_expense_0 : decode cX4_expense 0 = .ok (.iconst 3, 1) := by decide +kernel
theorem dX4_expense_1 : decode cX4_expense 1 = .ok (.istore_n 2, 1) := by decide +kernel
theorem dX4_expense_2 : decode cX4_expense 2 = .ok (.iload_n 2, 1) := by decide +kernel
theorem dX4_expense_3 : decode cX4_expense 3 = .ok (.iload_n 1, 1) := by decide +kernel
theorem dX4_expense_4 : decode cX4_expense 4 = .ok (.iadd, 1) := by decide +kernel
theorem dX4_expense_5 : decode cX4_expense 5 = .ok (.istore_n 3, 1) := by decide +kernel
theorem dX4_expense_6 : decode cX4_expense 6 = .ok (.bipush 7, 2) := by decide +kernel
theorem dX4_expense_8 : decode cX4_expense 8 = .ok (.istore 4, 2) := by decide +kernel
theorem dX4_expense_10 : decode cX4_expense 10 = .ok (.iload_n 0, 1) := by decide +kernel
theorem dX4_expense_11 : decode cX4_expense 11 = .ok (.tableswitch 65 1 7 #[41, 43, 46, 50, 52, 56, 61], 41) := by decide +kernel
theorem dX4_expense_52 : decode cX4_expense 52 = .ok (.iload_n 3, 1) := by decide +kernel
theorem dX4_expense_53 : decode cX4_expense 53 = .ok (.ireturn, 1) := by decide +kernel
theorem dX4_expense_54 : decode cX4_expense 54 = .ok (.iload 4, 2) := by decide +kernel
theorem dX4_expense_56 : decode cX4_expense 56 = .ok (.ireturn, 1) := by decide +kernel
theorem dX4_expense_57 : decode cX4_expense 57 = .ok (.iload_n 2, 1) := by decide +kernel
theorem dX4_expense_58 : decode cX4_expense 58 = .ok (.iconst 2, 1) := by decide +kernel
theorem dX4_expense_59 : decode cX4_expense 59 = .ok (.iadd, 1) := by decide +kernel
theorem dX4_expense_60 : decode cX4_expense 60 = .ok (.ireturn, 1) := by decide +kernel
theorem dX4_expense_61 : decode cX4_expense 61 = .ok (.iconst 1, 1) := by decide +kernel
theorem dX4_expense_62 : decode cX4_expense 62 = .ok (.ireturn, 1) := by decide +kernel
theorem dX4_expense_63 : decode cX4_expense 63 = .ok (.iload_n 3, 1) := by decide +kernel
theorem dX4_expense_64 : decode cX4_expense 64 = .ok (.iconst 5, 1) := by decide +kernel
theorem dX4_expense_65 : decode cX4_expense 65 = .ok (.iadd, 1) := by decide +kernel
theorem dX4_expense_66 : decode cX4_expense 66 = .ok (.ireturn, 1) := by decide +kernel
theorem dX4_expense_67 : decode cX4_expense 67 = .ok (.iload 4, 2) := by decide +kernel
theorem dX4_expense_69 : decode cX4_expense 69 = .ok (.iconst 2, 1) := by decide +kernel
theorem dX4_expense_70 : decode cX4_expense 70 = .ok (.idiv, 1) := by decide +kernel
theorem dX4_expense_71 : decode cX4_expense 71 = .ok (.ireturn, 1) := by decide +kernel
theorem dX4_expense_72 : decode cX4_expense 72 = .ok (.iconst 2, 1) := by decide +kernel
theorem dX4_expense_73 : decode cX4_expense 73 = .ok (.iload_n 3, 1) := by decide +kernel
theorem dX4_expense_74 : decode cX4_expense 74 = .ok (.imul, 1) := by decide +kernel
theorem dX4_expense_75 : decode cX4_expense 75 = .ok (.ireturn, 1) := by decide +kernel
theorem dX4_expense_76 : decode cX4_expense 76 = .ok (.iload_n 2, 1) := by decide +kernel
theorem dX4_expense_77 : decode cX4_expense 77 = .ok (.ireturn, 1) := by decide +kernel
theorem dX4_fail_0 : decode cX4_fail 0 = .ok (.iload_n 1, 1) := by decide +kernel
theorem dX4_fail_1 : decode cX4_fail 1 = .ok (.ifCond .ne 4, 3) := by decide +kernel
theorem dX4_fail_4 : decode cX4_fail 4 = .ok (.return_, 1) := by decide +kernel
theorem dX4_fail_5 : decode cX4_fail 5 = .ok (.iload_n 0, 1) := by decide +kernel
theorem dX4_fail_6 : decode cX4_fail 6 = .ok (.tableswitch 63 1 7 #[43, 63, 63, 42, 43, 42, 53], 42) := by decide +kernel
theorem dX4_fail_48 : decode cX4_fail 48 = .ok (.return_, 1) := by decide +kernel
theorem dX4_fail_49 : decode cX4_fail 49 = .ok (.new 9, 3) := by decide +kernel
theorem dX4_fail_52 : decode cX4_fail 52 = .ok (.dup, 1) := by decide +kernel
theorem dX4_fail_53 : decode cX4_fail 53 = .ok (.ldc 11, 2) := by decide +kernel
theorem dX4_fail_55 : decode cX4_fail 55 = .ok (.invokespecial 13, 3) := by decide +kernel
theorem dX4_fail_58 : decode cX4_fail 58 = .ok (.athrow, 1) := by decide +kernel
theorem dX4_fail_59 : decode cX4_fail 59 = .ok (.new 16, 3) := by decide +kernel
theorem dX4_fail_62 : decode cX4_fail 62 = .ok (.dup, 1) := by decide +kernel
theorem dX4_fail_63 : decode cX4_fail 63 = .ok (.ldc 18, 2) := by decide +kernel
theorem dX4_fail_65 : decode cX4_fail 65 = .ok (.invokespecial 20, 3) := by decide +kernel
theorem dX4_fail_68 : decode cX4_fail 68 = .ok (.athrow, 1) := by decide +kernel
theorem dX4_fail_69 : decode cX4_fail 69 = .ok (.new 21, 3) := by decide +kernel
theorem dX4_fail_72 : decode cX4_fail 72 = .ok (.dup, 1) := by decide +kernel
theorem dX4_fail_73 : decode cX4_fail 73 = .ok (.ldc 23, 2) := by decide +kernel
theorem dX4_fail_75 : decode cX4_fail 75 = .ok (.invokespecial 25, 3) := by decide +kernel
theorem dX4_fail_78 : decode cX4_fail 78 = .ok (.athrow, 1) := by decide +kernel
theorem dX5_init_0 : decode cX5_init 0 = .ok (.aload_n 0, 1) := by decide +kernel
theorem dX5_init_1 : decode cX5_init 1 = .ok (.invokespecial 1, 3) := by decide +kernel
theorem dX5_init_4 : decode cX5_init 4 = .ok (.aload_n 0, 1) := by decide +kernel
theorem dX5_init_5 : decode cX5_init 5 = .ok (.bipush 100, 2) := by decide +kernel
theorem dX5_init_7 : decode cX5_init 7 = .ok (.newarray .int, 2) := by decide +kernel
theorem dX5_init_9 : decode cX5_init 9 = .ok (.putfield 9, 3) := by decide +kernel
theorem dX5_init_12 : decode cX5_init 12 = .ok (.aload_n 0, 1) := by decide +kernel
theorem dX5_init_13 : decode cX5_init 13 = .ok (.iconst 0, 1) := by decide +kernel
theorem dX5_init_14 : decode cX5_init 14 = .ok (.putfield 13, 3) := by decide +kernel
theorem dX5_init_17 : decode cX5_init 17 = .ok (.aload_n 0, 1) := by decide +kernel
theorem dX5_init_18 : decode cX5_init 18 = .ok (.iconst (-1), 1) := by decide +kernel
theorem dX5_init_19 : decode cX5_init 19 = .ok (.putfield 17, 3) := by decide +kernel
theorem dX5_init_22 : decode cX5_init 22 = .ok (.aload_n 0, 1) := by decide +kernel
theorem dX5_init_23 : decode cX5_init 23 = .ok (.iconst (-1), 1) := by decide +kernel
theorem dX5_init_24 : decode cX5_init 24 = .ok (.putfield 20, 3) := by decide +kernel
theorem dX5_init_27 : decode cX5_init 27 = .ok (.aload_n 0, 1) := by decide +kernel
theorem dX5_init_28 : decode cX5_init 28 = .ok (.iconst 0, 1) := by decide +kernel
theorem dX5_init_29 : decode cX5_init 29 = .ok (.putfield 23, 3) := by decide +kernel
theorem dX5_init_32 : decode cX5_init 32 = .ok (.return_, 1) := by decide +kernel
theorem dX5_hasRow_0 : decode cX5_hasRow 0 = .ok (.aload_n 0, 1) := by decide +kernel
theorem dX5_hasRow_1 : decode cX5_hasRow 1 = .ok (.getfield 17, 3) := by decide +kernel
theorem dX5_hasRow_4 : decode cX5_hasRow 4 = .ok (.iconst (-1), 1) := by decide +kernel
theorem dX5_hasRow_5 : decode cX5_hasRow 5 = .ok (.if_icmp .eq 7, 3) := by decide +kernel
theorem dX5_hasRow_8 : decode cX5_hasRow 8 = .ok (.iconst 1, 1) := by decide +kernel
theorem dX5_hasRow_9 : decode cX5_hasRow 9 = .ok (.goto 4, 3) := by decide +kernel
theorem dX5_hasRow_12 : decode cX5_hasRow 12 = .ok (.iconst 0, 1) := by decide +kernel
theorem dX5_hasRow_13 : decode cX5_hasRow 13 = .ok (.ireturn, 1) := by decide +kernel
theorem dX5_isEmpty_0 : decode cX5_isEmpty 0 = .ok (.aload_n 0, 1) := by decide +kernel
theorem dX5_isEmpty_1 : decode cX5_isEmpty 1 = .ok (.getfield 17, 3) := by decide +kernel
theorem dX5_isEmpty_4 : decode cX5_isEmpty 4 = .ok (.iconst (-1), 1) := by decide +kernel
theorem dX5_isEmpty_5 : decode cX5_isEmpty 5 = .ok (.if_icmp .ne 15, 3) := by decide +kernel
theorem dX5_isEmpty_8 : decode cX5_isEmpty 8 = .ok (.aload_n 0, 1) := by decide +kernel
theorem dX5_isEmpty_9 : decode cX5_isEmpty 9 = .ok (.getfield 20, 3) := by decide +kernel
theorem dX5_isEmpty_12 : decode cX5_isEmpty 12 = .ok (.iconst (-1), 1) := by decide +kernel
theorem dX5_isEmpty_13 : decode cX5_isEmpty 13 = .ok (.if_icmp .ne 7, 3) := by decide +kernel
theorem dX5_isEmpty_16 : decode cX5_isEmpty 16 = .ok (.iconst 1, 1) := by decide +kernel
theorem dX5_isEmpty_17 : decode cX5_isEmpty 17 = .ok (.goto 4, 3) := by decide +kernel
theorem dX5_isEmpty_20 : decode cX5_isEmpty 20 = .ok (.iconst 0, 1) := by decide +kernel
theorem dX5_isEmpty_21 : decode cX5_isEmpty 21 = .ok (.ireturn, 1) := by decide +kernel
theorem dX5_empty_0 : decode cX5_empty 0 = .ok (.aload_n 0, 1) := by decide +kernel
theorem dX5_empty_1 : decode cX5_empty 1 = .ok (.iconst 0, 1) := by decide +kernel
theorem dX5_empty_2 : decode cX5_empty 2 = .ok (.putfield 13, 3) := by decide +kernel
theorem dX5_empty_5 : decode cX5_empty 5 = .ok (.aload_n 0, 1) := by decide +kernel
theorem dX5_empty_6 : decode cX5_empty 6 = .ok (.iconst (-1), 1) := by decide +kernel
theorem dX5_empty_7 : decode cX5_empty 7 = .ok (.putfield 17, 3) := by decide +kernel
theorem dX5_empty_10 : decode cX5_empty 10 = .ok (.aload_n 0, 1) := by decide +kernel
theorem dX5_empty_11 : decode cX5_empty 11 = .ok (.iconst (-1), 1) := by decide +kernel
theorem dX5_empty_12 : decode cX5_empty 12 = .ok (.putfield 20, 3) := by decide +kernel
theorem dX5_empty_15 : decode cX5_empty 15 = .ok (.aload_n 0, 1) := by decide +kernel
theorem dX5_empty_16 : decode cX5_empty 16 = .ok (.iconst 0, 1) := by decide +kernel
theorem dX5_empty_17 : decode cX5_empty 17 = .ok (.putfield 23, 3) := by decide +kernel
theorem dX5_empty_20 : decode cX5_empty 20 = .ok (.return_, 1) := by decide +kernel
theorem dX5_hold_0 : decode cX5_hold 0 = .ok (.aload_n 0, 1) := by decide +kernel
theorem dX5_hold_1 : decode cX5_hold 1 = .ok (.invokevirtual 26, 3) := by decide +kernel
theorem dX5_hold_4 : decode cX5_hold 4 = .ok (.aload_n 0, 1) := by decide +kernel
theorem dX5_hold_5 : decode cX5_hold 5 = .ok (.iload_n 1, 1) := by decide +kernel
theorem dX5_hold_6 : decode cX5_hold 6 = .ok (.putfield 20, 3) := by decide +kernel
theorem dX5_hold_9 : decode cX5_hold 9 = .ok (.aload_n 0, 1) := by decide +kernel
theorem dX5_hold_10 : decode cX5_hold 10 = .ok (.iload_n 2, 1) := by decide +kernel
theorem dX5_hold_11 : decode cX5_hold 11 = .ok (.putfield 23, 3) := by decide +kernel
theorem dX5_hold_14 : decode cX5_hold 14 = .ok (.return_, 1) := by decide +kernel
theorem dX5_lay_0 : decode cX5_lay 0 = .ok (.aload_n 0, 1) := by decide +kernel
theorem dX5_lay_1 : decode cX5_lay 1 = .ok (.invokevirtual 26, 3) := by decide +kernel
theorem dX5_lay_4 : decode cX5_lay 4 = .ok (.aload_n 0, 1) := by decide +kernel
theorem dX5_lay_5 : decode cX5_lay 5 = .ok (.iload_n 1, 1) := by decide +kernel
theorem dX5_lay_6 : decode cX5_lay 6 = .ok (.putfield 17, 3) := by decide +kernel
theorem dX5_lay_9 : decode cX5_lay 9 = .ok (.aload_n 0, 1) := by decide +kernel
theorem dX5_lay_10 : decode cX5_lay 10 = .ok (.iload_n 2, 1) := by decide +kernel
theorem dX5_lay_11 : decode cX5_lay 11 = .ok (.putfield 13, 3) := by decide +kernel
theorem dX5_lay_14 : decode cX5_lay 14 = .ok (.iconst 0, 1) := by decide +kernel
theorem dX5_lay_15 : decode cX5_lay 15 = .ok (.istore_n 3, 1) := by decide +kernel
theorem dX5_lay_16 : decode cX5_lay 16 = .ok (.iload_n 3, 1) := by decide +kernel
theorem dX5_lay_17 : decode cX5_lay 17 = .ok (.aload_n 0, 1) := by decide +kernel
theorem dX5_lay_18 : decode cX5_lay 18 = .ok (.getfield 9, 3) := by decide +kernel
theorem dX5_lay_21 : decode cX5_lay 21 = .ok (.arraylength, 1) := by decide +kernel
theorem dX5_lay_22 : decode cX5_lay 22 = .ok (.if_icmp .ge 16, 3) := by decide +kernel
theorem dX5_lay_25 : decode cX5_lay 25 = .ok (.aload_n 0, 1) := by decide +kernel
theorem dX5_lay_26 : decode cX5_lay 26 = .ok (.getfield 9, 3) := by decide +kernel
theorem dX5_lay_29 : decode cX5_lay 29 = .ok (.iload_n 3, 1) := by decide +kernel
theorem dX5_lay_30 : decode cX5_lay 30 = .ok (.iconst 0, 1) := by decide +kernel
theorem dX5_lay_31 : decode cX5_lay 31 = .ok (.iastore, 1) := by decide +kernel
theorem dX5_lay_32 : decode cX5_lay 32 = .ok (.iinc 3 1, 3) := by decide +kernel
theorem dX5_lay_35 : decode cX5_lay 35 = .ok (.goto (-19), 3) := by decide +kernel
theorem dX5_lay_38 : decode cX5_lay 38 = .ok (.return_, 1) := by decide +kernel
theorem dX5_cell_0 : decode cX5_cell 0 = .ok (.iload_n 1, 1) := by decide +kernel
theorem dX5_cell_1 : decode cX5_cell 1 = .ok (.ifCond .lt 29, 3) := by decide +kernel
theorem dX5_cell_4 : decode cX5_cell 4 = .ok (.iload_n 1, 1) := by decide +kernel
theorem dX5_cell_5 : decode cX5_cell 5 = .ok (.aload_n 0, 1) := by decide +kernel
theorem dX5_cell_6 : decode cX5_cell 6 = .ok (.getfield 13, 3) := by decide +kernel
theorem dX5_cell_9 : decode cX5_cell 9 = .ok (.if_icmp .ge 21, 3) := by decide +kernel
theorem dX5_cell_12 : decode cX5_cell 12 = .ok (.iload_n 1, 1) := by decide +kernel
theorem dX5_cell_13 : decode cX5_cell 13 = .ok (.aload_n 0, 1) := by decide +kernel
theorem dX5_cell_14 : decode cX5_cell 14 = .ok (.getfield 9, 3) := by decide +kernel
theorem dX5_cell_17 : decode cX5_cell 17 = .ok (.arraylength, 1) := by decide +kernel
theorem dX5_cell_18 : decode cX5_cell 18 = .ok (.if_icmp .ge 12, 3) := by decide +kernel
theorem dX5_cell_21 : decode cX5_cell 21 = .ok (.aload_n 0, 1) := by decide +kernel
theorem dX5_cell_22 : decode cX5_cell 22 = .ok (.getfield 9, 3) := by decide +kernel
theorem dX5_cell_25 : decode cX5_cell 25 = .ok (.iload_n 1, 1) := by decide +kernel
theorem dX5_cell_26 : decode cX5_cell 26 = .ok (.iaload, 1) := by decide +kernel
theorem dX5_cell_27 : decode cX5_cell 27 = .ok (.goto 4, 3) := by decide +kernel
theorem dX5_cell_30 : decode cX5_cell 30 = .ok (.iconst 0, 1) := by decide +kernel
theorem dX5_cell_31 : decode cX5_cell 31 = .ok (.ireturn, 1) := by decide +kernel
theorem dX5_set_0 : decode cX5_set 0 = .ok (.iload_n 1, 1) := by decide +kernel
theorem dX5_set_1 : decode cX5_set 1 = .ok (.ifCond .lt 20, 3) := by decide +kernel
theorem dX5_set_4 : decode cX5_set 4 = .ok (.iload_n 1, 1) := by decide +kernel
theorem dX5_set_5 : decode cX5_set 5 = .ok (.aload_n 0, 1) := by decide +kernel
theorem dX5_set_6 : decode cX5_set 6 = .ok (.getfield 13, 3) := by decide +kernel
theorem dX5_set_9 : decode cX5_set 9 = .ok (.if_icmp .ge 12, 3) := by decide +kernel
theorem dX5_set_12 : decode cX5_set 12 = .ok (.iload_n 1, 1) := by decide +kernel
theorem dX5_set_13 : decode cX5_set 13 = .ok (.aload_n 0, 1) := by decide +kernel
theorem dX5_set_14 : decode cX5_set 14 = .ok (.getfield 9, 3) := by decide +kernel
theorem dX5_set_17 : decode cX5_set 17 = .ok (.arraylength, 1) := by decide +kernel
theorem dX5_set_18 : decode cX5_set 18 = .ok (.if_icmp .lt 4, 3) := by decide +kernel
theorem dX5_set_21 : decode cX5_set 21 = .ok (.return_, 1) := by decide +kernel
theorem dX5_set_22 : decode cX5_set 22 = .ok (.aload_n 0, 1) := by decide +kernel
theorem dX5_set_23 : decode cX5_set 23 = .ok (.getfield 17, 3) := by decide +kernel
theorem dX5_set_26 : decode cX5_set 26 = .ok (.ifCond .ne 14, 3) := by decide +kernel
theorem dX5_set_29 : decode cX5_set 29 = .ok (.aload_n 0, 1) := by decide +kernel
theorem dX5_set_30 : decode cX5_set 30 = .ok (.getfield 9, 3) := by decide +kernel
theorem dX5_set_33 : decode cX5_set 33 = .ok (.iload_n 1, 1) := by decide +kernel
theorem dX5_set_34 : decode cX5_set 34 = .ok (.iload_n 2, 1) := by decide +kernel
theorem dX5_set_35 : decode cX5_set 35 = .ok (.i2b, 1) := by decide +kernel
theorem dX5_set_36 : decode cX5_set 36 = .ok (.iastore, 1) := by decide +kernel
theorem dX5_set_37 : decode cX5_set 37 = .ok (.goto 29, 3) := by decide +kernel
theorem dX5_set_40 : decode cX5_set 40 = .ok (.aload_n 0, 1) := by decide +kernel
theorem dX5_set_41 : decode cX5_set 41 = .ok (.getfield 17, 3) := by decide +kernel
theorem dX5_set_44 : decode cX5_set 44 = .ok (.iconst 1, 1) := by decide +kernel
theorem dX5_set_45 : decode cX5_set 45 = .ok (.if_icmp .ne 14, 3) := by decide +kernel
theorem dX5_set_48 : decode cX5_set 48 = .ok (.aload_n 0, 1) := by decide +kernel
theorem dX5_set_49 : decode cX5_set 49 = .ok (.getfield 9, 3) := by decide +kernel
theorem dX5_set_52 : decode cX5_set 52 = .ok (.iload_n 1, 1) := by decide +kernel
theorem dX5_set_53 : decode cX5_set 53 = .ok (.iload_n 2, 1) := by decide +kernel
theorem dX5_set_54 : decode cX5_set 54 = .ok (.i2s, 1) := by decide +kernel
theorem dX5_set_55 : decode cX5_set 55 = .ok (.iastore, 1) := by decide +kernel
theorem dX5_set_56 : decode cX5_set 56 = .ok (.goto 10, 3) := by decide +kernel
theorem dX5_set_59 : decode cX5_set 59 = .ok (.aload_n 0, 1) := by decide +kernel
theorem dX5_set_60 : decode cX5_set 60 = .ok (.getfield 9, 3) := by decide +kernel
theorem dX5_set_63 : decode cX5_set 63 = .ok (.iload_n 1, 1) := by decide +kernel
theorem dX5_set_64 : decode cX5_set 64 = .ok (.iload_n 2, 1) := by decide +kernel
theorem dX5_set_65 : decode cX5_set 65 = .ok (.iastore, 1) := by decide +kernel
theorem dX5_set_66 : decode cX5_set 66 = .ok (.return_, 1) := by decide +kernel
theorem dX5_hasStretch_0 : decode cX5_hasStretch 0 = .ok (.iload_n 1, 1) := by decide +kernel
theorem dX5_hasStretch_1 : decode cX5_hasStretch 1 = .ok (.ifCond .lt 29, 3) := by decide +kernel
theorem dX5_hasStretch_4 : decode cX5_hasStretch 4 = .ok (.iload_n 2, 1) := by decide +kernel
theorem dX5_hasStretch_5 : decode cX5_hasStretch 5 = .ok (.ifCond .lt 25, 3) := by decide +kernel
theorem dX5_hasStretch_8 : decode cX5_hasStretch 8 = .ok (.iload_n 1, 1) := by decide +kernel
theorem dX5_hasStretch_9 : decode cX5_hasStretch 9 = .ok (.aload_n 0, 1) := by decide +kernel
theorem dX5_hasStretch_10 : decode cX5_hasStretch 10 = .ok (.getfield 13, 3) := by decide +kernel
theorem dX5_hasStretch_13 : decode cX5_hasStretch 13 = .ok (.if_icmp .gt 17, 3) := by decide +kernel
theorem dX5_hasStretch_16 : decode cX5_hasStretch 16 = .ok (.iload_n 2, 1) := by decide +kernel
theorem dX5_hasStretch_17 : decode cX5_hasStretch 17 = .ok (.aload_n 0, 1) := by decide +kernel
theorem dX5_hasStretch_18 : decode cX5_hasStretch 18 = .ok (.getfield 13, 3) := by decide +kernel
theorem dX5_hasStretch_21 : decode cX5_hasStretch 21 = .ok (.iload_n 1, 1) := by decide +kernel
theorem dX5_hasStretch_22 : decode cX5_hasStretch 22 = .ok (.isub, 1) := by decide +kernel
theorem dX5_hasStretch_23 : decode cX5_hasStretch 23 = .ok (.if_icmp .gt 7, 3) := by decide +kernel
theorem dX5_hasStretch_26 : decode cX5_hasStretch 26 = .ok (.iconst 1, 1) := by decide +kernel
theorem dX5_hasStretch_27 : decode cX5_hasStretch 27 = .ok (.goto 4, 3) := by decide +kernel
theorem dX5_hasStretch_30 : decode cX5_hasStretch 30 = .ok (.iconst 0, 1) := by decide +kernel
theorem dX5_hasStretch_31 : decode cX5_hasStretch 31 = .ok (.ireturn, 1) := by decide +kernel
theorem dX5_isSkipped_0 : decode cX5_isSkipped 0 = .ok (.aload_n 0, 1) := by decide +kernel
theorem dX5_isSkipped_1 : decode cX5_isSkipped 1 = .ok (.getfield 17, 3) := by decide +kernel
theorem dX5_isSkipped_4 : decode cX5_isSkipped 4 = .ok (.ifCond .ne 19, 3) := by decide +kernel
theorem dX5_isSkipped_7 : decode cX5_isSkipped 7 = .ok (.aload_n 0, 1) := by decide +kernel
theorem dX5_isSkipped_8 : decode cX5_isSkipped 8 = .ok (.iload_n 1, 1) := by decide +kernel
theorem dX5_isSkipped_9 : decode cX5_isSkipped 9 = .ok (.invokevirtual 29, 3) := by decide +kernel
theorem dX5_isSkipped_12 : decode cX5_isSkipped 12 = .ok (.bipush (-128), 2) := by decide +kernel
theorem dX5_isSkipped_14 : decode cX5_isSkipped 14 = .ok (.if_icmp .ne 7, 3) := by decide +kernel
theorem dX5_isSkipped_17 : decode cX5_isSkipped 17 = .ok (.iconst 1, 1) := by decide +kernel
theorem dX5_isSkipped_18 : decode cX5_isSkipped 18 = .ok (.goto 4, 3) := by decide +kernel
theorem dX5_isSkipped_21 : decode cX5_isSkipped 21 = .ok (.iconst 0, 1) := by decide +kernel
theorem dX5_isSkipped_22 : decode cX5_isSkipped 22 = .ok (.ireturn, 1) := by decide +kernel
theorem dX5_isSkipped_23 : decode cX5_isSkipped 23 = .ok (.aload_n 0, 1) := by decide +kernel
theorem dX5_isSkipped_24 : decode cX5_isSkipped 24 = .ok (.iload_n 1, 1) := by decide +kernel
theorem dX5_isSkipped_25 : decode cX5_isSkipped 25 = .ok (.invokevirtual 29, 3) := by decide +kernel
theorem dX5_isSkipped_28 : decode cX5_isSkipped 28 = .ok (.aload_n 0, 1) := by decide +kernel
theorem dX5_isSkipped_29 : decode cX5_isSkipped 29 = .ok (.getfield 17, 3) := by decide +kernel
theorem dX5_isSkipped_32 : decode cX5_isSkipped 32 = .ok (.iconst 1, 1) := by decide +kernel
theorem dX5_isSkipped_33 : decode cX5_isSkipped 33 = .ok (.if_icmp .ne 9, 3) := by decide +kernel
theorem dX5_isSkipped_36 : decode cX5_isSkipped 36 = .ok (.sipush (-32768), 3) := by decide +kernel
theorem dX5_isSkipped_39 : decode cX5_isSkipped 39 = .ok (.goto 5, 3) := by decide +kernel
theorem dX5_isSkipped_42 : decode cX5_isSkipped 42 = .ok (.ldc 33, 2) := by decide +kernel
theorem dX5_isSkipped_44 : decode cX5_isSkipped 44 = .ok (.if_icmp .ne 7, 3) := by decide +kernel
theorem dX5_isSkipped_47 : decode cX5_isSkipped 47 = .ok (.iconst 1, 1) := by decide +kernel
theorem dX5_isSkipped_48 : decode cX5_isSkipped 48 = .ok (.goto 4, 3) := by decide +kernel
theorem dX5_isSkipped_51 : decode cX5_isSkipped 51 = .ok (.iconst 0, 1) := by decide +kernel
theorem dX5_isSkipped_52 : decode cX5_isSkipped 52 = .ok (.ireturn, 1) := by decide +kernel
theorem dX5_tellsAlways_0 : decode cX5_tellsAlways 0 = .ok (.iconst 0, 1) := by decide +kernel
theorem dX5_tellsAlways_1 : decode cX5_tellsAlways 1 = .ok (.istore_n 2, 1) := by decide +kernel
theorem dX5_tellsAlways_2 : decode cX5_tellsAlways 2 = .ok (.iload_n 2, 1) := by decide +kernel
theorem dX5_tellsAlways_3 : decode cX5_tellsAlways 3 = .ok (.aload_n 0, 1) := by decide +kernel
theorem dX5_tellsAlways_4 : decode cX5_tellsAlways 4 = .ok (.getfield 13, 3) := by decide +kernel
theorem dX5_tellsAlways_7 : decode cX5_tellsAlways 7 = .ok (.if_icmp .ge 28, 3) := by decide +kernel
theorem dX5_tellsAlways_10 : decode cX5_tellsAlways 10 = .ok (.aload_n 0, 1) := by decide +kernel
theorem dX5_tellsAlways_11 : decode cX5_tellsAlways 11 = .ok (.iload_n 2, 1) := by decide +kernel
theorem dX5_tellsAlways_12 : decode cX5_tellsAlways 12 = .ok (.invokevirtual 34, 3) := by decide +kernel
theorem dX5_tellsAlways_15 : decode cX5_tellsAlways 15 = .ok (.ifCond .ne 14, 3) := by decide +kernel
theorem dX5_tellsAlways_18 : decode cX5_tellsAlways 18 = .ok (.aload_n 0, 1) := by decide +kernel
theorem dX5_tellsAlways_19 : decode cX5_tellsAlways 19 = .ok (.iload_n 2, 1) := by decide +kernel
theorem dX5_tellsAlways_20 : decode cX5_tellsAlways 20 = .ok (.invokevirtual 29, 3) := by decide +kernel
theorem dX5_tellsAlways_23 : decode cX5_tellsAlways 23 = .ok (.iload_n 1, 1) := by decide +kernel
theorem dX5_tellsAlways_24 : decode cX5_tellsAlways 24 = .ok (.if_icmp .eq 5, 3) := by decide +kernel
theorem dX5_tellsAlways_27 : decode cX5_tellsAlways 27 = .ok (.iconst 0, 1) := by decide +kernel
theorem dX5_tellsAlways_28 : decode cX5_tellsAlways 28 = .ok (.ireturn, 1) := by decide +kernel
theorem dX5_tellsAlways_29 : decode cX5_tellsAlways 29 = .ok (.iinc 2 1, 3) := by decide +kernel
theorem dX5_tellsAlways_32 : decode cX5_tellsAlways 32 = .ok (.goto (-30), 3) := by decide +kernel
theorem dX5_tellsAlways_35 : decode cX5_tellsAlways 35 = .ok (.iconst 1, 1) := by decide +kernel
theorem dX5_tellsAlways_36 : decode cX5_tellsAlways 36 = .ok (.ireturn, 1) := by decide +kernel
theorem dX5_number_0 : decode cX5_number 0 = .ok (.iconst 0, 1) := by decide +kernel
theorem dX5_number_1 : decode cX5_number 1 = .ok (.istore_n 3, 1) := by decide +kernel
theorem dX5_number_2 : decode cX5_number 2 = .ok (.iload_n 1, 1) := by decide +kernel
theorem dX5_number_3 : decode cX5_number 3 = .ok (.istore 4, 2) := by decide +kernel
theorem dX5_number_5 : decode cX5_number 5 = .ok (.iload 4, 2) := by decide +kernel
theorem dX5_number_7 : decode cX5_number 7 = .ok (.iload_n 1, 1) := by decide +kernel
theorem dX5_number_8 : decode cX5_number 8 = .ok (.iload_n 2, 1) := by decide +kernel
theorem dX5_number_9 : decode cX5_number 9 = .ok (.iadd, 1) := by decide +kernel
theorem dX5_number_10 : decode cX5_number 10 = .ok (.if_icmp .ge 24, 3) := by decide +kernel
theorem dX5_number_13 : decode cX5_number 13 = .ok (.bipush 10, 2) := by decide +kernel
theorem dX5_number_15 : decode cX5_number 15 = .ok (.iload_n 3, 1) := by decide +kernel
theorem dX5_number_16 : decode cX5_number 16 = .ok (.imul, 1) := by decide +kernel
theorem dX5_number_17 : decode cX5_number 17 = .ok (.aload_n 0, 1) := by decide +kernel
theorem dX5_number_18 : decode cX5_number 18 = .ok (.iload 4, 2) := by decide +kernel
theorem dX5_number_20 : decode cX5_number 20 = .ok (.invokevirtual 29, 3) := by decide +kernel
theorem dX5_number_23 : decode cX5_number 23 = .ok (.iadd, 1) := by decide +kernel
theorem dX5_number_24 : decode cX5_number 24 = .ok (.bipush 48, 2) := by decide +kernel
theorem dX5_number_26 : decode cX5_number 26 = .ok (.isub, 1) := by decide +kernel
theorem dX5_number_27 : decode cX5_number 27 = .ok (.istore_n 3, 1) := by decide +kernel
theorem dX5_number_28 : decode cX5_number 28 = .ok (.iinc 4 1, 3) := by decide +kernel
theorem dX5_number_31 : decode cX5_number 31 = .ok (.goto (-26), 3) := by decide +kernel
theorem dX5_number_34 : decode cX5_number 34 = .ok (.iload_n 3, 1) := by decide +kernel
theorem dX5_number_35 : decode cX5_number 35 = .ok (.ireturn, 1) := by decide +kernel
theorem dX6_digitsBehind_0 : decode cX6_digitsBehind 0 = .ok (.iload_n 0, 1) := by decide +kernel
theorem dX6_digitsBehind_1 : decode cX6_digitsBehind 1 = .ok (.lookupswitch 42 #[(100, 35), (115, 40), (116, 38)], 35) := by decide +kernel
theorem dX6_digitsBehind_36 : decode cX6_digitsBehind 36 = .ok (.bipush 8, 2) := by decide +kernel
theorem dX6_digitsBehind_38 : decode cX6_digitsBehind 38 = .ok (.ireturn, 1) := by decide +kernel
theorem dX6_digitsBehind_39 : decode cX6_digitsBehind 39 = .ok (.iconst 3, 1) := by decide +kernel
theorem dX6_digitsBehind_40 : decode cX6_digitsBehind 40 = .ok (.ireturn, 1) := by decide +kernel
theorem dX6_digitsBehind_41 : decode cX6_digitsBehind 41 = .ok (.iconst 2, 1) := by decide +kernel
theorem dX6_digitsBehind_42 : decode cX6_digitsBehind 42 = .ok (.ireturn, 1) := by decide +kernel
theorem dX6_digitsBehind_43 : decode cX6_digitsBehind 43 = .ok (.iconst 0, 1) := by decide +kernel
theorem dX6_digitsBehind_44 : decode cX6_digitsBehind 44 = .ok (.ireturn, 1) := by decide +kernel
theorem dX6_firstBadByte_0 : decode cX6_firstBadByte 0 = .ok (.iconst 0, 1) := by decide +kernel
theorem dX6_firstBadByte_1 : decode cX6_firstBadByte 1 = .ok (.istore_n 1, 1) := by decide +kernel
theorem dX6_firstBadByte_2 : decode cX6_firstBadByte 2 = .ok (.iconst 0, 1) := by decide +kernel
theorem dX6_firstBadByte_3 : decode cX6_firstBadByte 3 = .ok (.istore_n 2, 1) := by decide +kernel
theorem dX6_firstBadByte_4 : decode cX6_firstBadByte 4 = .ok (.iconst 0, 1) := by decide +kernel
theorem dX6_firstBadByte_5 : decode cX6_firstBadByte 5 = .ok (.istore_n 3, 1) := by decide +kernel
theorem dX6_firstBadByte_6 : decode cX6_firstBadByte 6 = .ok (.iload_n 3, 1) := by decide +kernel
theorem dX6_firstBadByte_7 : decode cX6_firstBadByte 7 = .ok (.aload_n 0, 1) := by decide +kernel
theorem dX6_firstBadByte_8 : decode cX6_firstBadByte 8 = .ok (.getfield 9, 3) := by decide +kernel
theorem dX6_firstBadByte_11 : decode cX6_firstBadByte 11 = .ok (.if_icmp .ge 74, 3) := by decide +kernel
theorem dX6_firstBadByte_14 : decode cX6_firstBadByte 14 = .ok (.aload_n 0, 1) := by decide +kernel
theorem dX6_firstBadByte_15 : decode cX6_firstBadByte 15 = .ok (.iload_n 3, 1) := by decide +kernel
theorem dX6_firstBadByte_16 : decode cX6_firstBadByte 16 = .ok (.invokevirtual 15, 3) := by decide +kernel
theorem dX6_firstBadByte_19 : decode cX6_firstBadByte 19 = .ok (.istore 4, 2) := by decide +kernel
theorem dX6_firstBadByte_21 : decode cX6_firstBadByte 21 = .ok (.iload_n 1, 1) := by decide +kernel
theorem dX6_firstBadByte_22 : decode cX6_firstBadByte 22 = .ok (.ifCond .ne 20, 3) := by decide +kernel
theorem dX6_firstBadByte_25 : decode cX6_firstBadByte 25 = .ok (.iload 4, 2) := by decide +kernel
theorem dX6_firstBadByte_27 : decode cX6_firstBadByte 27 = .ok (.invokestatic 19, 3) := by decide +kernel
theorem dX6_firstBadByte_30 : decode cX6_firstBadByte 30 = .ok (.istore_n 2, 1) := by decide +kernel
theorem dX6_firstBadByte_31 : decode cX6_firstBadByte 31 = .ok (.iload_n 2, 1) := by decide +kernel
theorem dX6_firstBadByte_32 : decode cX6_firstBadByte 32 = .ok (.ifCond .ne 5, 3) := by decide +kernel
theorem dX6_firstBadByte_35 : decode cX6_firstBadByte 35 = .ok (.iload_n 3, 1) := by decide +kernel
theorem dX6_firstBadByte_36 : decode cX6_firstBadByte 36 = .ok (.ireturn, 1) := by decide +kernel
theorem dX6_firstBadByte_37 : decode cX6_firstBadByte 37 = .ok (.iconst 1, 1) := by decide +kernel
theorem dX6_firstBadByte_38 : decode cX6_firstBadByte 38 = .ok (.istore_n 1, 1) := by decide +kernel
theorem dX6_firstBadByte_39 : decode cX6_firstBadByte 39 = .ok (.goto 40, 3) := by decide +kernel
theorem dX6_firstBadByte_42 : decode cX6_firstBadByte 42 = .ok (.iload_n 2, 1) := by decide +kernel
theorem dX6_firstBadByte_43 : decode cX6_firstBadByte 43 = .ok (.ifCond .le 25, 3) := by decide +kernel
theorem dX6_firstBadByte_46 : decode cX6_firstBadByte 46 = .ok (.iload 4, 2) := by decide +kernel
theorem dX6_firstBadByte_48 : decode cX6_firstBadByte 48 = .ok (.bipush 48, 2) := by decide +kernel
theorem dX6_firstBadByte_50 : decode cX6_firstBadByte 50 = .ok (.if_icmp .lt 10, 3) := by decide +kernel
theorem dX6_firstBadByte_53 : decode cX6_firstBadByte 53 = .ok (.iload 4, 2) := by decide +kernel
theorem dX6_firstBadByte_55 : decode cX6_firstBadByte 55 = .ok (.bipush 57, 2) := by decide +kernel
theorem dX6_firstBadByte_57 : decode cX6_firstBadByte 57 = .ok (.if_icmp .le 5, 3) := by decide +kernel
theorem dX6_firstBadByte_60 : decode cX6_firstBadByte 60 = .ok (.iload_n 3, 1) := by decide +kernel
theorem dX6_firstBadByte_61 : decode cX6_firstBadByte 61 = .ok (.ireturn, 1) := by decide +kernel
theorem dX6_firstBadByte_62 : decode cX6_firstBadByte 62 = .ok (.iinc 2 (-1), 3) := by decide +kernel
theorem dX6_firstBadByte_65 : decode cX6_firstBadByte 65 = .ok (.goto 14, 3) := by decide +kernel
theorem dX6_firstBadByte_68 : decode cX6_firstBadByte 68 = .ok (.iload 4, 2) := by decide +kernel
theorem dX6_firstBadByte_70 : decode cX6_firstBadByte 70 = .ok (.bipush 59, 2) := by decide +kernel
theorem dX6_firstBadByte_72 : decode cX6_firstBadByte 72 = .ok (.if_icmp .eq 5, 3) := by decide +kernel
theorem dX6_firstBadByte_75 : decode cX6_firstBadByte 75 = .ok (.iload_n 3, 1) := by decide +kernel
theorem dX6_firstBadByte_76 : decode cX6_firstBadByte 76 = .ok (.ireturn, 1) := by decide +kernel
theorem dX6_firstBadByte_77 : decode cX6_firstBadByte 77 = .ok (.iconst 0, 1) := by decide +kernel
theorem dX6_firstBadByte_78 : decode cX6_firstBadByte 78 = .ok (.istore_n 1, 1) := by decide +kernel
theorem dX6_firstBadByte_79 : decode cX6_firstBadByte 79 = .ok (.iinc 3 1, 3) := by decide +kernel
theorem dX6_firstBadByte_82 : decode cX6_firstBadByte 82 = .ok (.goto (-76), 3) := by decide +kernel
theorem dX6_firstBadByte_85 : decode cX6_firstBadByte 85 = .ok (.iload_n 1, 1) := by decide +kernel
theorem dX6_firstBadByte_86 : decode cX6_firstBadByte 86 = .ok (.ifCond .ne 10, 3) := by decide +kernel
theorem dX6_firstBadByte_89 : decode cX6_firstBadByte 89 = .ok (.aload_n 0, 1) := by decide +kernel
theorem dX6_firstBadByte_90 : decode cX6_firstBadByte 90 = .ok (.getfield 9, 3) := by decide +kernel
theorem dX6_firstBadByte_93 : decode cX6_firstBadByte 93 = .ok (.ifCond .ne 10, 3) := by decide +kernel
theorem dX6_firstBadByte_96 : decode cX6_firstBadByte 96 = .ok (.aload_n 0, 1) := by decide +kernel
theorem dX6_firstBadByte_97 : decode cX6_firstBadByte 97 = .ok (.getfield 9, 3) := by decide +kernel
theorem dX6_firstBadByte_100 : decode cX6_firstBadByte 100 = .ok (.goto 4, 3) := by decide +kernel
theorem dX6_firstBadByte_103 : decode cX6_firstBadByte 103 = .ok (.iconst (-1), 1) := by decide +kernel
theorem dX6_firstBadByte_104 : decode cX6_firstBadByte 104 = .ok (.ireturn, 1) := by decide +kernel
theorem dX6_statements_0 : decode cX6_statements 0 = .ok (.iconst 0, 1) := by decide +kernel
theorem dX6_statements_1 : decode cX6_statements 1 = .ok (.istore_n 1, 1) := by decide +kernel
theorem dX6_statements_2 : decode cX6_statements 2 = .ok (.iconst 0, 1) := by decide +kernel
theorem dX6_statements_3 : decode cX6_statements 3 = .ok (.istore_n 2, 1) := by decide +kernel
theorem dX6_statements_4 : decode cX6_statements 4 = .ok (.iload_n 2, 1) := by decide +kernel
theorem dX6_statements_5 : decode cX6_statements 5 = .ok (.aload_n 0, 1) := by decide +kernel
theorem dX6_statements_6 : decode cX6_statements 6 = .ok (.getfield 9, 3) := by decide +kernel
theorem dX6_statements_9 : decode cX6_statements 9 = .ok (.if_icmp .ge 27, 3) := by decide +kernel
theorem dX6_statements_12 : decode cX6_statements 12 = .ok (.iload_n 1, 1) := by decide +kernel
theorem dX6_statements_13 : decode cX6_statements 13 = .ok (.aload_n 0, 1) := by decide +kernel
theorem dX6_statements_14 : decode cX6_statements 14 = .ok (.iload_n 2, 1) := by decide +kernel
theorem dX6_statements_15 : decode cX6_statements 15 = .ok (.invokevirtual 15, 3) := by decide +kernel
theorem dX6_statements_18 : decode cX6_statements 18 = .ok (.bipush 59, 2) := by decide +kernel
theorem dX6_statements_20 : decode cX6_statements 20 = .ok (.if_icmp .ne 7, 3) := by decide +kernel
theorem dX6_statements_23 : decode cX6_statements 23 = .ok (.iconst 1, 1) := by decide +kernel
theorem dX6_statements_24 : decode cX6_statements 24 = .ok (.goto 4, 3) := by decide +kernel
theorem dX6_statements_27 : decode cX6_statements 27 = .ok (.iconst 0, 1) := by decide +kernel
theorem dX6_statements_28 : decode cX6_statements 28 = .ok (.iadd, 1) := by decide +kernel
theorem dX6_statements_29 : decode cX6_statements 29 = .ok (.istore_n 1, 1) := by decide +kernel
theorem dX6_statements_30 : decode cX6_statements 30 = .ok (.iinc 2 1, 3) := by decide +kernel
theorem dX6_statements_33 : decode cX6_statements 33 = .ok (.goto (-29), 3) := by decide +kernel
theorem dX6_statements_36 : decode cX6_statements 36 = .ok (.iload_n 1, 1) := by decide +kernel
theorem dX6_statements_37 : decode cX6_statements 37 = .ok (.ireturn, 1) := by decide +kernel
theorem dX6_firstWrongStatement_0 : decode cX6_firstWrongStatement 0 = .ok (.iconst 0, 1) := by decide +kernel
theorem dX6_firstWrongStatement_1 : decode cX6_firstWrongStatement 1 = .ok (.istore_n 2, 1) := by decide +kernel
theorem dX6_firstWrongStatement_2 : decode cX6_firstWrongStatement 2 = .ok (.iload_n 2, 1) := by decide +kernel
theorem dX6_firstWrongStatement_3 : decode cX6_firstWrongStatement 3 = .ok (.aload_n 0, 1) := by decide +kernel
theorem dX6_firstWrongStatement_4 : decode cX6_firstWrongStatement 4 = .ok (.getfield 9, 3) := by decide +kernel
theorem dX6_firstWrongStatement_7 : decode cX6_firstWrongStatement 7 = .ok (.if_icmp .ge 46, 3) := by decide +kernel
theorem dX6_firstWrongStatement_10 : decode cX6_firstWrongStatement 10 = .ok (.iload_n 2, 1) := by decide +kernel
theorem dX6_firstWrongStatement_11 : decode cX6_firstWrongStatement 11 = .ok (.ifCond .eq 15, 3) := by decide +kernel
theorem dX6_firstWrongStatement_14 : decode cX6_firstWrongStatement 14 = .ok (.aload_n 0, 1) := by decide +kernel
theorem dX6_firstWrongStatement_15 : decode cX6_firstWrongStatement 15 = .ok (.iload_n 2, 1) := by decide +kernel
theorem dX6_firstWrongStatement_16 : decode cX6_firstWrongStatement 16 = .ok (.iconst 1, 1) := by decide +kernel
theorem dX6_firstWrongStatement_17 : decode cX6_firstWrongStatement 17 = .ok (.isub, 1) := by decide +kernel
theorem dX6_firstWrongStatement_18 : decode cX6_firstWrongStatement 18 = .ok (.invokevirtual 15, 3) := by decide +kernel
theorem dX6_firstWrongStatement_21 : decode cX6_firstWrongStatement 21 = .ok (.bipush 59, 2) := by decide +kernel
theorem dX6_firstWrongStatement_23 : decode cX6_firstWrongStatement 23 = .ok (.if_icmp .ne 7, 3) := by decide +kernel
theorem dX6_firstWrongStatement_26 : decode cX6_firstWrongStatement 26 = .ok (.iconst 1, 1) := by decide +kernel
theorem dX6_firstWrongStatement_27 : decode cX6_firstWrongStatement 27 = .ok (.goto 4, 3) := by decide +kernel
theorem dX6_firstWrongStatement_30 : decode cX6_firstWrongStatement 30 = .ok (.iconst 0, 1) := by decide +kernel
theorem dX6_firstWrongStatement_31 : decode cX6_firstWrongStatement 31 = .ok (.istore_n 3, 1) := by decide +kernel
theorem dX6_firstWrongStatement_32 : decode cX6_firstWrongStatement 32 = .ok (.iload_n 3, 1) := by decide +kernel
theorem dX6_firstWrongStatement_33 : decode cX6_firstWrongStatement 33 = .ok (.ifCond .eq 14, 3) := by decide +kernel
theorem dX6_firstWrongStatement_36 : decode cX6_firstWrongStatement 36 = .ok (.aload_n 0, 1) := by decide +kernel
theorem dX6_firstWrongStatement_37 : decode cX6_firstWrongStatement 37 = .ok (.iload_n 2, 1) := by decide +kernel
theorem dX6_firstWrongStatement_38 : decode cX6_firstWrongStatement 38 = .ok (.aload_n 1, 1) := by decide +kernel
theorem dX6_firstWrongStatement_39 : decode cX6_firstWrongStatement 39 = .ok (.invokestatic 24, 3) := by decide +kernel
theorem dX6_firstWrongStatement_42 : decode cX6_firstWrongStatement 42 = .ok (.ifCond .ne 5, 3) := by decide +kernel
theorem dX6_firstWrongStatement_45 : decode cX6_firstWrongStatement 45 = .ok (.iload_n 2, 1) := by decide +kernel
theorem dX6_firstWrongStatement_46 : decode cX6_firstWrongStatement 46 = .ok (.ireturn, 1) := by decide +kernel
theorem dX6_firstWrongStatement_47 : decode cX6_firstWrongStatement 47 = .ok (.iinc 2 1, 3) := by decide +kernel
theorem dX6_firstWrongStatement_50 : decode cX6_firstWrongStatement 50 = .ok (.goto (-48), 3) := by decide +kernel
theorem dX6_firstWrongStatement_53 : decode cX6_firstWrongStatement 53 = .ok (.iconst (-1), 1) := by decide +kernel
theorem dX6_firstWrongStatement_54 : decode cX6_firstWrongStatement 54 = .ok (.ireturn, 1) := by decide +kernel
theorem dX6_isTaken_0 : decode cX6_isTaken 0 = .ok (.aload_n 0, 1) := by decide +kernel
theorem dX6_isTaken_1 : decode cX6_isTaken 1 = .ok (.iload_n 1, 1) := by decide +kernel
theorem dX6_isTaken_2 : decode cX6_isTaken 2 = .ok (.invokevirtual 15, 3) := by decide +kernel
theorem dX6_isTaken_5 : decode cX6_isTaken 5 = .ok (.lookupswitch 47 #[(100, 27), (116, 34)], 27) := by decide +kernel
theorem dX6_isTaken_32 : decode cX6_isTaken 32 = .ok (.aload_n 0, 1) := by decide +kernel
theorem dX6_isTaken_33 : decode cX6_isTaken 33 = .ok (.iload_n 1, 1) := by decide +kernel
theorem dX6_isTaken_34 : decode cX6_isTaken 34 = .ok (.aload_n 2, 1) := by decide +kernel
theorem dX6_isTaken_35 : decode cX6_isTaken 35 = .ok (.invokestatic 28, 3) := by decide +kernel
theorem dX6_isTaken_38 : decode cX6_isTaken 38 = .ok (.ireturn, 1) := by decide +kernel
theorem dX6_isTaken_39 : decode cX6_isTaken 39 = .ok (.aload_n 0, 1) := by decide +kernel
theorem dX6_isTaken_40 : decode cX6_isTaken 40 = .ok (.iload_n 1, 1) := by decide +kernel
theorem dX6_isTaken_41 : decode cX6_isTaken 41 = .ok (.iconst 1, 1) := by decide +kernel
theorem dX6_isTaken_42 : decode cX6_isTaken 42 = .ok (.iadd, 1) := by decide +kernel
theorem dX6_isTaken_43 : decode cX6_isTaken 43 = .ok (.iconst 3, 1) := by decide +kernel
theorem dX6_isTaken_44 : decode cX6_isTaken 44 = .ok (.invokevirtual 31, 3) := by decide +kernel
theorem dX6_isTaken_47 : decode cX6_isTaken 47 = .ok (.aload_n 2, 1) := by decide +kernel
theorem dX6_isTaken_48 : decode cX6_isTaken 48 = .ok (.invokestatic 35, 3) := by decide +kernel
theorem dX6_isTaken_51 : decode cX6_isTaken 51 = .ok (.ireturn, 1) := by decide +kernel
theorem dX6_isTaken_52 : decode cX6_isTaken 52 = .ok (.aload_n 0, 1) := by decide +kernel
theorem dX6_isTaken_53 : decode cX6_isTaken 53 = .ok (.iload_n 1, 1) := by decide +kernel
theorem dX6_isTaken_54 : decode cX6_isTaken 54 = .ok (.iconst 1, 1) := by decide +kernel
theorem dX6_isTaken_55 : decode cX6_isTaken 55 = .ok (.iadd, 1) := by decide +kernel
theorem dX6_isTaken_56 : decode cX6_isTaken 56 = .ok (.iconst 1, 1) := by decide +kernel
theorem dX6_isTaken_57 : decode cX6_isTaken 57 = .ok (.invokevirtual 31, 3) := by decide +kernel
theorem dX6_isTaken_60 : decode cX6_isTaken 60 = .ok (.aload_n 0, 1) := by decide +kernel
theorem dX6_isTaken_61 : decode cX6_isTaken 61 = .ok (.iload_n 1, 1) := by decide +kernel
theorem dX6_isTaken_62 : decode cX6_isTaken 62 = .ok (.iconst 2, 1) := by decide +kernel
theorem dX6_isTaken_63 : decode cX6_isTaken 63 = .ok (.iadd, 1) := by decide +kernel
theorem dX6_isTaken_64 : decode cX6_isTaken 64 = .ok (.iconst 1, 1) := by decide +kernel
theorem dX6_isTaken_65 : decode cX6_isTaken 65 = .ok (.invokevirtual 31, 3) := by decide +kernel
theorem dX6_isTaken_68 : decode cX6_isTaken 68 = .ok (.aload_n 2, 1) := by decide +kernel
theorem dX6_isTaken_69 : decode cX6_isTaken 69 = .ok (.invokestatic 39, 3) := by decide +kernel
theorem dX6_isTaken_72 : decode cX6_isTaken 72 = .ok (.ireturn, 1) := by decide +kernel
theorem dX6_isDeedTaken_0 : decode cX6_isDeedTaken 0 = .ok (.aload_n 0, 1) := by decide +kernel
theorem dX6_isDeedTaken_1 : decode cX6_isDeedTaken 1 = .ok (.iload_n 1, 1) := by decide +kernel
theorem dX6_isDeedTaken_2 : decode cX6_isDeedTaken 2 = .ok (.iconst 1, 1) := by decide +kernel
theorem dX6_isDeedTaken_3 : decode cX6_isDeedTaken 3 = .ok (.iadd, 1) := by decide +kernel
theorem dX6_isDeedTaken_4 : decode cX6_isDeedTaken 4 = .ok (.iconst 1, 1) := by decide +kernel
theorem dX6_isDeedTaken_5 : decode cX6_isDeedTaken 5 = .ok (.invokevirtual 31, 3) := by decide +kernel
theorem dX6_isDeedTaken_8 : decode cX6_isDeedTaken 8 = .ok (.istore_n 3, 1) := by decide +kernel
theorem dX6_isDeedTaken_9 : decode cX6_isDeedTaken 9 = .ok (.aload_n 0, 1) := by decide +kernel
theorem dX6_isDeedTaken_10 : decode cX6_isDeedTaken 10 = .ok (.iload_n 1, 1) := by decide +kernel
theorem dX6_isDeedTaken_11 : decode cX6_isDeedTaken 11 = .ok (.iconst 2, 1) := by decide +kernel
theorem dX6_isDeedTaken_12 : decode cX6_isDeedTaken 12 = .ok (.iadd, 1) := by decide +kernel
theorem dX6_isDeedTaken_13 : decode cX6_isDeedTaken 13 = .ok (.iconst 1, 1) := by decide +kernel
theorem dX6_isDeedTaken_14 : decode cX6_isDeedTaken 14 = .ok (.invokevirtual 31, 3) := by decide +kernel
theorem dX6_isDeedTaken_17 : decode cX6_isDeedTaken 17 = .ok (.istore 4, 2) := by decide +kernel
theorem dX6_isDeedTaken_19 : decode cX6_isDeedTaken 19 = .ok (.aload_n 0, 1) := by decide +kernel
theorem dX6_isDeedTaken_20 : decode cX6_isDeedTaken 20 = .ok (.iload_n 1, 1) := by decide +kernel
theorem dX6_isDeedTaken_21 : decode cX6_isDeedTaken 21 = .ok (.iconst 3, 1) := by decide +kernel
theorem dX6_isDeedTaken_22 : decode cX6_isDeedTaken 22 = .ok (.iadd, 1) := by decide +kernel
theorem dX6_isDeedTaken_23 : decode cX6_isDeedTaken 23 = .ok (.iconst 3, 1) := by decide +kernel
theorem dX6_isDeedTaken_24 : decode cX6_isDeedTaken 24 = .ok (.invokevirtual 31, 3) := by decide +kernel
theorem dX6_isDeedTaken_27 : decode cX6_isDeedTaken 27 = .ok (.istore 5, 2) := by decide +kernel
theorem dX6_isDeedTaken_29 : decode cX6_isDeedTaken 29 = .ok (.aload_n 0, 1) := by decide +kernel
theorem dX6_isDeedTaken_30 : decode cX6_isDeedTaken 30 = .ok (.iload_n 1, 1) := by decide +kernel
theorem dX6_isDeedTaken_31 : decode cX6_isDeedTaken 31 = .ok (.bipush 6, 2) := by decide +kernel
theorem dX6_isDeedTaken_33 : decode cX6_isDeedTaken 33 = .ok (.iadd, 1) := by decide +kernel
theorem dX6_isDeedTaken_34 : decode cX6_isDeedTaken 34 = .ok (.iconst 1, 1) := by decide +kernel
theorem dX6_isDeedTaken_35 : decode cX6_isDeedTaken 35 = .ok (.invokevirtual 31, 3) := by decide +kernel
theorem dX6_isDeedTaken_38 : decode cX6_isDeedTaken 38 = .ok (.istore 6, 2) := by decide +kernel
theorem dX6_isDeedTaken_40 : decode cX6_isDeedTaken 40 = .ok (.aload_n 0, 1) := by decide +kernel
theorem dX6_isDeedTaken_41 : decode cX6_isDeedTaken 41 = .ok (.iload_n 1, 1) := by decide +kernel
theorem dX6_isDeedTaken_42 : decode cX6_isDeedTaken 42 = .ok (.bipush 7, 2) := by decide +kernel
theorem dX6_isDeedTaken_44 : decode cX6_isDeedTaken 44 = .ok (.iadd, 1) := by decide +kernel
theorem dX6_isDeedTaken_45 : decode cX6_isDeedTaken 45 = .ok (.iconst 2, 1) := by decide +kernel
theorem dX6_isDeedTaken_46 : decode cX6_isDeedTaken 46 = .ok (.invokevirtual 31, 3) := by decide +kernel
theorem dX6_isDeedTaken_49 : decode cX6_isDeedTaken 49 = .ok (.istore 7, 2) := by decide +kernel
theorem dX6_isDeedTaken_51 : decode cX6_isDeedTaken 51 = .ok (.iload_n 3, 1) := by decide +kernel
theorem dX6_isDeedTaken_52 : decode cX6_isDeedTaken 52 = .ok (.bipush 8, 2) := by decide +kernel
theorem dX6_isDeedTaken_54 : decode cX6_isDeedTaken 54 = .ok (.if_icmp .ge 24, 3) := by decide +kernel
theorem dX6_isDeedTaken_57 : decode cX6_isDeedTaken 57 = .ok (.iload 5, 2) := by decide +kernel
theorem dX6_isDeedTaken_59 : decode cX6_isDeedTaken 59 = .ok (.sipush 364, 3) := by decide +kernel
theorem dX6_isDeedTaken_62 : decode cX6_isDeedTaken 62 = .ok (.if_icmp .gt 16, 3) := by decide +kernel
theorem dX6_isDeedTaken_65 : decode cX6_isDeedTaken 65 = .ok (.iload 6, 2) := by decide +kernel
theorem dX6_isDeedTaken_67 : decode cX6_isDeedTaken 67 = .ok (.iconst 5, 1) := by decide +kernel
theorem dX6_isDeedTaken_68 : decode cX6_isDeedTaken 68 = .ok (.if_icmp .ge 10, 3) := by decide +kernel
theorem dX6_isDeedTaken_71 : decode cX6_isDeedTaken 71 = .ok (.iload 7, 2) := by decide +kernel
theorem dX6_isDeedTaken_73 : decode cX6_isDeedTaken 73 = .ok (.bipush 31, 2) := by decide +kernel
theorem dX6_isDeedTaken_75 : decode cX6_isDeedTaken 75 = .ok (.if_icmp .le 5, 3) := by decide +kernel
theorem dX6_isDeedTaken_78 : decode cX6_isDeedTaken 78 = .ok (.iconst 0, 1) := by decide +kernel
theorem dX6_isDeedTaken_79 : decode cX6_isDeedTaken 79 = .ok (.ireturn, 1) := by decide +kernel
theorem dX6_isDeedTaken_80 : decode cX6_isDeedTaken 80 = .ok (.iload 7, 2) := by decide +kernel
theorem dX6_isDeedTaken_82 : decode cX6_isDeedTaken 82 = .ok (.iload 6, 2) := by decide +kernel
theorem dX6_isDeedTaken_84 : decode cX6_isDeedTaken 84 = .ok (.ishr, 1) := by decide +kernel
theorem dX6_isDeedTaken_85 : decode cX6_isDeedTaken 85 = .ok (.iconst 1, 1) := by decide +kernel
theorem dX6_isDeedTaken_86 : decode cX6_isDeedTaken 86 = .ok (.iand, 1) := by decide +kernel
theorem dX6_isDeedTaken_87 : decode cX6_isDeedTaken 87 = .ok (.ifCond .ne 23, 3) := by decide +kernel
theorem dX6_isDeedTaken_90 : decode cX6_isDeedTaken 90 = .ok (.aload_n 2, 1) := by decide +kernel
theorem dX6_isDeedTaken_91 : decode cX6_isDeedTaken 91 = .ok (.iload_n 3, 1) := by decide +kernel
theorem dX6_isDeedTaken_92 : decode cX6_isDeedTaken 92 = .ok (.iload 4, 2) := by decide +kernel
theorem dX6_isDeedTaken_94 : decode cX6_isDeedTaken 94 = .ok (.iload 5, 2) := by decide +kernel
theorem dX6_isDeedTaken_96 : decode cX6_isDeedTaken 96 = .ok (.iload 6, 2) := by decide +kernel
theorem dX6_isDeedTaken_98 : decode cX6_isDeedTaken 98 = .ok (.iload 7, 2) := by decide +kernel
theorem dX6_isDeedTaken_100 : decode cX6_isDeedTaken 100 = .ok (.invokevirtual 43, 3) := by decide +kernel
theorem dX6_isDeedTaken_103 : decode cX6_isDeedTaken 103 = .ok (.ifCond .eq 7, 3) := by decide +kernel
theorem dX6_isDeedTaken_106 : decode cX6_isDeedTaken 106 = .ok (.iconst 1, 1) := by decide +kernel
theorem dX6_isDeedTaken_107 : decode cX6_isDeedTaken 107 = .ok (.goto 4, 3) := by decide +kernel
theorem dX6_isDeedTaken_110 : decode cX6_isDeedTaken 110 = .ok (.iconst 0, 1) := by decide +kernel
theorem dX6_isDeedTaken_111 : decode cX6_isDeedTaken 111 = .ok (.ireturn, 1) := by decide +kernel
theorem dX6_isTodayTaken_0 : decode cX6_isTodayTaken 0 = .ok (.iload_n 0, 1) := by decide +kernel
theorem dX6_isTodayTaken_1 : decode cX6_isTodayTaken 1 = .ok (.sipush 365, 3) := by decide +kernel
theorem dX6_isTodayTaken_4 : decode cX6_isTodayTaken 4 = .ok (.if_icmp .le 5, 3) := by decide +kernel
theorem dX6_isTodayTaken_7 : decode cX6_isTodayTaken 7 = .ok (.iconst 0, 1) := by decide +kernel
theorem dX6_isTodayTaken_8 : decode cX6_isTodayTaken 8 = .ok (.ireturn, 1) := by decide +kernel
theorem dX6_isTodayTaken_9 : decode cX6_isTodayTaken 9 = .ok (.aload_n 1, 1) := by decide +kernel
theorem dX6_isTodayTaken_10 : decode cX6_isTodayTaken 10 = .ok (.iload_n 0, 1) := by decide +kernel
theorem dX6_isTodayTaken_11 : decode cX6_isTodayTaken 11 = .ok (.putfield 49, 3) := by decide +kernel
theorem dX6_isTodayTaken_14 : decode cX6_isTodayTaken 14 = .ok (.iconst 1, 1) := by decide +kernel
theorem dX6_isTodayTaken_15 : decode cX6_isTodayTaken 15 = .ok (.ireturn, 1) := by decide +kernel
theorem dX6_isSightTaken_0 : decode cX6_isSightTaken 0 = .ok (.aload_n 2, 1) := by decide +kernel
theorem dX6_isSightTaken_1 : decode cX6_isSightTaken 1 = .ok (.iload_n 0, 1) := by decide +kernel
theorem dX6_isSightTaken_2 : decode cX6_isSightTaken 2 = .ok (.invokevirtual 52, 3) := by decide +kernel
theorem dX6_isSightTaken_5 : decode cX6_isSightTaken 5 = .ok (.astore_n 3, 1) := by decide +kernel
theorem dX6_isSightTaken_6 : decode cX6_isSightTaken 6 = .ok (.aload_n 3, 1) := by decide +kernel
theorem dX6_isSightTaken_7 : decode cX6_isSightTaken 7 = .ok (.ifnull 16, 3) := by decide +kernel
theorem dX6_isSightTaken_10 : decode cX6_isSightTaken 10 = .ok (.iload_n 1, 1) := by decide +kernel
theorem dX6_isSightTaken_11 : decode cX6_isSightTaken 11 = .ok (.iconst 5, 1) := by decide +kernel
theorem dX6_isSightTaken_12 : decode cX6_isSightTaken 12 = .ok (.if_icmp .ge 11, 3) := by decide +kernel
theorem dX6_isSightTaken_15 : decode cX6_isSightTaken 15 = .ok (.aload_n 3, 1) := by decide +kernel
theorem dX6_isSightTaken_16 : decode cX6_isSightTaken 16 = .ok (.getfield 56, 3) := by decide +kernel
theorem dX6_isSightTaken_19 : decode cX6_isSightTaken 19 = .ok (.iload_n 1, 1) := by decide +kernel
theorem dX6_isSightTaken_20 : decode cX6_isSightTaken 20 = .ok (.if_icmp .ne 5, 3) := by decide +kernel
theorem dX6_isSightTaken_23 : decode cX6_isSightTaken 23 = .ok (.iconst 0, 1) := by decide +kernel
theorem dX6_isSightTaken_24 : decode cX6_isSightTaken 24 = .ok (.ireturn, 1) := by decide +kernel
theorem dX6_isSightTaken_25 : decode cX6_isSightTaken 25 = .ok (.aload_n 3, 1) := by decide +kernel
theorem dX6_isSightTaken_26 : decode cX6_isSightTaken 26 = .ok (.iload_n 1, 1) := by decide +kernel
theorem dX6_isSightTaken_27 : decode cX6_isSightTaken 27 = .ok (.invokevirtual 61, 3) := by decide +kernel
theorem dX6_isSightTaken_30 : decode cX6_isSightTaken 30 = .ok (.iconst 1, 1) := by decide +kernel
theorem dX6_isSightTaken_31 : decode cX6_isSightTaken 31 = .ok (.ireturn, 1) := by decide +kernel
theorem dX7_init_0 : decode cX7_init 0 = .ok (.aload_n 0, 1) := by decide +kernel
theorem dX7_init_1 : decode cX7_init 1 = .ok (.invokespecial 3, 3) := by decide +kernel
theorem dX7_init_4 : decode cX7_init 4 = .ok (.aload_n 0, 1) := by decide +kernel
theorem dX7_init_5 : decode cX7_init 5 = .ok (.bipush 10, 2) := by decide +kernel
theorem dX7_init_7 : decode cX7_init 7 = .ok (.anewarray 9, 3) := by decide +kernel
theorem dX7_init_10 : decode cX7_init 10 = .ok (.putfield 11, 3) := by decide +kernel
theorem dX7_init_13 : decode cX7_init 13 = .ok (.iconst 0, 1) := by decide +kernel
theorem dX7_init_14 : decode cX7_init 14 = .ok (.istore_n 1, 1) := by decide +kernel
theorem dX7_init_15 : decode cX7_init 15 = .ok (.iload_n 1, 1) := by decide +kernel
theorem dX7_init_16 : decode cX7_init 16 = .ok (.aload_n 0, 1) := by decide +kernel
theorem dX7_init_17 : decode cX7_init 17 = .ok (.getfield 11, 3) := by decide +kernel
theorem dX7_init_20 : decode cX7_init 20 = .ok (.arraylength, 1) := by decide +kernel
theorem dX7_init_21 : decode cX7_init 21 = .ok (.if_icmp .ge 22, 3) := by decide +kernel
theorem dX7_init_24 : decode cX7_init 24 = .ok (.aload_n 0, 1) := by decide +kernel
theorem dX7_init_25 : decode cX7_init 25 = .ok (.getfield 11, 3) := by decide +kernel
theorem dX7_init_28 : decode cX7_init 28 = .ok (.iload_n 1, 1) := by decide +kernel
theorem dX7_init_29 : decode cX7_init 29 = .ok (.new 9, 3) := by decide +kernel
theorem dX7_init_32 : decode cX7_init 32 = .ok (.dup, 1) := by decide +kernel
theorem dX7_init_33 : decode cX7_init 33 = .ok (.invokespecial 17, 3) := by decide +kernel
theorem dX7_init_36 : decode cX7_init 36 = .ok (.aastore, 1) := by decide +kernel
theorem dX7_init_37 : decode cX7_init 37 = .ok (.iinc 1 1, 3) := by decide +kernel
theorem dX7_init_40 : decode cX7_init 40 = .ok (.goto (-25), 3) := by decide +kernel
theorem dX7_init_43 : decode cX7_init 43 = .ok (.aload_n 0, 1) := by decide +kernel
theorem dX7_init_44 : decode cX7_init 44 = .ok (.iconst 5, 1) := by decide +kernel
theorem dX7_init_45 : decode cX7_init 45 = .ok (.newarray .int, 2) := by decide +kernel
theorem dX7_init_47 : decode cX7_init 47 = .ok (.putfield 18, 3) := by decide +kernel
theorem dX7_init_50 : decode cX7_init 50 = .ok (.aload_n 0, 1) := by decide +kernel
theorem dX7_init_51 : decode cX7_init 51 = .ok (.iconst 0, 1) := by decide +kernel
theorem dX7_init_52 : decode cX7_init 52 = .ok (.putfield 22, 3) := by decide +kernel
theorem dX7_init_55 : decode cX7_init 55 = .ok (.aload_n 0, 1) := by decide +kernel
theorem dX7_init_56 : decode cX7_init 56 = .ok (.sipush 365, 3) := by decide +kernel
theorem dX7_init_59 : decode cX7_init 59 = .ok (.putfield 26, 3) := by decide +kernel
theorem dX7_init_62 : decode cX7_init 62 = .ok (.return_, 1) := by decide +kernel
theorem dX7_become_0 : decode cX7_become 0 = .ok (.aload_n 0, 1) := by decide +kernel
theorem dX7_become_1 : decode cX7_become 1 = .ok (.iconst 0, 1) := by decide +kernel
theorem dX7_become_2 : decode cX7_become 2 = .ok (.putfield 22, 3) := by decide +kernel
theorem dX7_become_5 : decode cX7_become 5 = .ok (.iconst 0, 1) := by decide +kernel
theorem dX7_become_6 : decode cX7_become 6 = .ok (.istore_n 2, 1) := by decide +kernel
theorem dX7_become_7 : decode cX7_become 7 = .ok (.iload_n 2, 1) := by decide +kernel
theorem dX7_become_8 : decode cX7_become 8 = .ok (.aload_n 1, 1) := by decide +kernel
theorem dX7_become_9 : decode cX7_become 9 = .ok (.getfield 22, 3) := by decide +kernel
theorem dX7_become_12 : decode cX7_become 12 = .ok (.if_icmp .ge 44, 3) := by decide +kernel
theorem dX7_become_15 : decode cX7_become 15 = .ok (.aload_n 1, 1) := by decide +kernel
theorem dX7_become_16 : decode cX7_become 16 = .ok (.iload_n 2, 1) := by decide +kernel
theorem dX7_become_17 : decode cX7_become 17 = .ok (.invokevirtual 29, 3) := by decide +kernel
theorem dX7_become_20 : decode cX7_become 20 = .ok (.astore_n 3, 1) := by decide +kernel
theorem dX7_become_21 : decode cX7_become 21 = .ok (.aload_n 3, 1) := by decide +kernel
theorem dX7_become_22 : decode cX7_become 22 = .ok (.ifnull 28, 3) := by decide +kernel
theorem dX7_become_25 : decode cX7_become 25 = .ok (.aload_n 0, 1) := by decide +kernel
theorem dX7_become_26 : decode cX7_become 26 = .ok (.aload_n 3, 1) := by decide +kernel
theorem dX7_become_27 : decode cX7_become 27 = .ok (.getfield 33, 3) := by decide +kernel
theorem dX7_become_30 : decode cX7_become 30 = .ok (.aload_n 3, 1) := by decide +kernel
theorem dX7_become_31 : decode cX7_become 31 = .ok (.getfield 36, 3) := by decide +kernel
theorem dX7_become_34 : decode cX7_become 34 = .ok (.aload_n 3, 1) := by decide +kernel
theorem dX7_become_35 : decode cX7_become 35 = .ok (.getfield 39, 3) := by decide +kernel
theorem dX7_become_38 : decode cX7_become 38 = .ok (.aload_n 3, 1) := by decide +kernel
theorem dX7_become_39 : decode cX7_become 39 = .ok (.getfield 40, 3) := by decide +kernel
theorem dX7_become_42 : decode cX7_become 42 = .ok (.aload_n 3, 1) := by decide +kernel
theorem dX7_become_43 : decode cX7_become 43 = .ok (.getfield 43, 3) := by decide +kernel
theorem dX7_become_46 : decode cX7_become 46 = .ok (.invokevirtual 46, 3) := by decide +kernel
theorem dX7_become_49 : decode cX7_become 49 = .ok (.pop, 1) := by decide +kernel
theorem dX7_become_50 : decode cX7_become 50 = .ok (.iinc 2 1, 3) := by decide +kernel
theorem dX7_become_53 : decode cX7_become 53 = .ok (.goto (-46), 3) := by decide +kernel
theorem dX7_become_56 : decode cX7_become 56 = .ok (.aload_n 0, 1) := by decide +kernel
theorem dX7_become_57 : decode cX7_become 57 = .ok (.aload_n 1, 1) := by decide +kernel
theorem dX7_become_58 : decode cX7_become 58 = .ok (.getfield 26, 3) := by decide +kernel
theorem dX7_become_61 : decode cX7_become 61 = .ok (.putfield 26, 3) := by decide +kernel
theorem dX7_become_64 : decode cX7_become 64 = .ok (.return_, 1) := by decide +kernel
theorem dX7_deedAt_0 : decode cX7_deedAt 0 = .ok (.iload_n 1, 1) := by decide +kernel
theorem dX7_deedAt_1 : decode cX7_deedAt 1 = .ok (.ifCond .lt 29, 3) := by decide +kernel
theorem dX7_deedAt_4 : decode cX7_deedAt 4 = .ok (.iload_n 1, 1) := by decide +kernel
theorem dX7_deedAt_5 : decode cX7_deedAt 5 = .ok (.aload_n 0, 1) := by decide +kernel
theorem dX7_deedAt_6 : decode cX7_deedAt 6 = .ok (.getfield 22, 3) := by decide +kernel
theorem dX7_deedAt_9 : decode cX7_deedAt 9 = .ok (.if_icmp .ge 21, 3) := by decide +kernel
theorem dX7_deedAt_12 : decode cX7_deedAt 12 = .ok (.iload_n 1, 1) := by decide +kernel
theorem dX7_deedAt_13 : decode cX7_deedAt 13 = .ok (.aload_n 0, 1) := by decide +kernel
theorem dX7_deedAt_14 : decode cX7_deedAt 14 = .ok (.getfield 11, 3) := by decide +kernel
theorem dX7_deedAt_17 : decode cX7_deedAt 17 = .ok (.arraylength, 1) := by decide +kernel
theorem dX7_deedAt_18 : decode cX7_deedAt 18 = .ok (.if_icmp .ge 12, 3) := by decide +kernel
theorem dX7_deedAt_21 : decode cX7_deedAt 21 = .ok (.aload_n 0, 1) := by decide +kernel
theorem dX7_deedAt_22 : decode cX7_deedAt 22 = .ok (.getfield 11, 3) := by decide +kernel
theorem dX7_deedAt_25 : decode cX7_deedAt 25 = .ok (.iload_n 1, 1) := by decide +kernel
theorem dX7_deedAt_26 : decode cX7_deedAt 26 = .ok (.aaload, 1) := by decide +kernel
theorem dX7_deedAt_27 : decode cX7_deedAt 27 = .ok (.goto 4, 3) := by decide +kernel
theorem dX7_deedAt_30 : decode cX7_deedAt 30 = .ok (.aconst_null, 1) := by decide +kernel
theorem dX7_deedAt_31 : decode cX7_deedAt 31 = .ok (.areturn, 1) := by decide +kernel
theorem dX7_toldAt_0 : decode cX7_toldAt 0 = .ok (.aload_n 0, 1) := by decide +kernel
theorem dX7_toldAt_1 : decode cX7_toldAt 1 = .ok (.iload_n 1, 1) := by decide +kernel
theorem dX7_toldAt_2 : decode cX7_toldAt 2 = .ok (.invokevirtual 29, 3) := by decide +kernel
theorem dX7_toldAt_5 : decode cX7_toldAt 5 = .ok (.astore_n 2, 1) := by decide +kernel
theorem dX7_toldAt_6 : decode cX7_toldAt 6 = .ok (.aload_n 2, 1) := by decide +kernel
theorem dX7_toldAt_7 : decode cX7_toldAt 7 = .ok (.ifnull 18, 3) := by decide +kernel
theorem dX7_toldAt_10 : decode cX7_toldAt 10 = .ok (.aload_n 2, 1) := by decide +kernel
theorem dX7_toldAt_11 : decode cX7_toldAt 11 = .ok (.getfield 39, 3) := by decide +kernel
theorem dX7_toldAt_14 : decode cX7_toldAt 14 = .ok (.aload_n 0, 1) := by decide +kernel
theorem dX7_toldAt_15 : decode cX7_toldAt 15 = .ok (.getfield 26, 3) := by decide +kernel
theorem dX7_toldAt_18 : decode cX7_toldAt 18 = .ok (.if_icmp .gt 7, 3) := by decide +kernel
theorem dX7_toldAt_21 : decode cX7_toldAt 21 = .ok (.aload_n 2, 1) := by decide +kernel
theorem dX7_toldAt_22 : decode cX7_toldAt 22 = .ok (.goto 4, 3) := by decide +kernel
theorem dX7_toldAt_25 : decode cX7_toldAt 25 = .ok (.aconst_null, 1) := by decide +kernel
theorem dX7_toldAt_26 : decode cX7_toldAt 26 = .ok (.areturn, 1) := by decide +kernel
theorem dX7_add_0 : decode cX7_add 0 = .ok (.aload_n 0, 1) := by decide +kernel
theorem dX7_add_1 : decode cX7_add 1 = .ok (.getfield 22, 3) := by decide +kernel
theorem dX7_add_4 : decode cX7_add 4 = .ok (.aload_n 0, 1) := by decide +kernel
theorem dX7_add_5 : decode cX7_add 5 = .ok (.getfield 11, 3) := by decide +kernel
theorem dX7_add_8 : decode cX7_add 8 = .ok (.arraylength, 1) := by decide +kernel
theorem dX7_add_9 : decode cX7_add 9 = .ok (.if_icmp .lt 5, 3) := by decide +kernel
theorem dX7_add_12 : decode cX7_add 12 = .ok (.iconst 0, 1) := by decide +kernel
theorem dX7_add_13 : decode cX7_add 13 = .ok (.ireturn, 1) := by decide +kernel
theorem dX7_add_14 : decode cX7_add 14 = .ok (.aload_n 0, 1) := by decide +kernel
theorem dX7_add_15 : decode cX7_add 15 = .ok (.getfield 11, 3) := by decide +kernel
theorem dX7_add_18 : decode cX7_add 18 = .ok (.aload_n 0, 1) := by decide +kernel
theorem dX7_add_19 : decode cX7_add 19 = .ok (.getfield 22, 3) := by decide +kernel
theorem dX7_add_22 : decode cX7_add 22 = .ok (.aaload, 1) := by decide +kernel
theorem dX7_add_23 : decode cX7_add 23 = .ok (.iload_n 1, 1) := by decide +kernel
theorem dX7_add_24 : decode cX7_add 24 = .ok (.iload_n 2, 1) := by decide +kernel
theorem dX7_add_25 : decode cX7_add 25 = .ok (.iload_n 3, 1) := by decide +kernel
theorem dX7_add_26 : decode cX7_add 26 = .ok (.iload 4, 2) := by decide +kernel
theorem dX7_add_28 : decode cX7_add 28 = .ok (.iload 5, 2) := by decide +kernel
theorem dX7_add_30 : decode cX7_add 30 = .ok (.invokevirtual 50, 3) := by decide +kernel
theorem dX7_add_33 : decode cX7_add 33 = .ok (.aload_n 0, 1) := by decide +kernel
theorem dX7_add_34 : decode cX7_add 34 = .ok (.dup, 1) := by decide +kernel
theorem dX7_add_35 : decode cX7_add 35 = .ok (.getfield 22, 3) := by decide +kernel
theorem dX7_add_38 : decode cX7_add 38 = .ok (.iconst 1, 1) := by decide +kernel
theorem dX7_add_39 : decode cX7_add 39 = .ok (.iadd, 1) := by decide +kernel
theorem dX7_add_40 : decode cX7_add 40 = .ok (.putfield 22, 3) := by decide +kernel
theorem dX7_add_43 : decode cX7_add 43 = .ok (.iconst 1, 1) := by decide +kernel
theorem dX7_add_44 : decode cX7_add 44 = .ok (.ireturn, 1) := by decide +kernel
theorem dX7_lastDay_0 : decode cX7_lastDay 0 = .ok (.aload_n 0, 1) := by decide +kernel
theorem dX7_lastDay_1 : decode cX7_lastDay 1 = .ok (.getfield 26, 3) := by decide +kernel
theorem dX7_lastDay_4 : decode cX7_lastDay 4 = .ok (.sipush 364, 3) := by decide +kernel
theorem dX7_lastDay_7 : decode cX7_lastDay 7 = .ok (.invokestatic 54, 3) := by decide +kernel
theorem dX7_lastDay_10 : decode cX7_lastDay 10 = .ok (.ireturn, 1) := by decide +kernel
theorem dX7_toldCount_0 : decode cX7_toldCount 0 = .ok (.iconst 0, 1) := by decide +kernel
theorem dX7_toldCount_1 : decode cX7_toldCount 1 = .ok (.istore_n 1, 1) := by decide +kernel
theorem dX7_toldCount_2 : decode cX7_toldCount 2 = .ok (.iconst 0, 1) := by decide +kernel
theorem dX7_toldCount_3 : decode cX7_toldCount 3 = .ok (.istore_n 2, 1) := by decide +kernel
theorem dX7_toldCount_4 : decode cX7_toldCount 4 = .ok (.iload_n 2, 1) := by decide +kernel
theorem dX7_toldCount_5 : decode cX7_toldCount 5 = .ok (.aload_n 0, 1) := by decide +kernel
theorem dX7_toldCount_6 : decode cX7_toldCount 6 = .ok (.getfield 22, 3) := by decide +kernel
theorem dX7_toldCount_9 : decode cX7_toldCount 9 = .ok (.if_icmp .ge 25, 3) := by decide +kernel
theorem dX7_toldCount_12 : decode cX7_toldCount 12 = .ok (.iload_n 1, 1) := by decide +kernel
theorem dX7_toldCount_13 : decode cX7_toldCount 13 = .ok (.aload_n 0, 1) := by decide +kernel
theorem dX7_toldCount_14 : decode cX7_toldCount 14 = .ok (.iload_n 2, 1) := by decide +kernel
theorem dX7_toldCount_15 : decode cX7_toldCount 15 = .ok (.invokevirtual 60, 3) := by decide +kernel
theorem dX7_toldCount_18 : decode cX7_toldCount 18 = .ok (.ifnull 7, 3) := by decide +kernel
theorem dX7_toldCount_21 : decode cX7_toldCount 21 = .ok (.iconst 1, 1) := by decide +kernel
theorem dX7_toldCount_22 : decode cX7_toldCount 22 = .ok (.goto 4, 3) := by decide +kernel
theorem dX7_toldCount_25 : decode cX7_toldCount 25 = .ok (.iconst 0, 1) := by decide +kernel
theorem dX7_toldCount_26 : decode cX7_toldCount 26 = .ok (.iadd, 1) := by decide +kernel
theorem dX7_toldCount_27 : decode cX7_toldCount 27 = .ok (.istore_n 1, 1) := by decide +kernel
theorem dX7_toldCount_28 : decode cX7_toldCount 28 = .ok (.iinc 2 1, 3) := by decide +kernel
theorem dX7_toldCount_31 : decode cX7_toldCount 31 = .ok (.goto (-27), 3) := by decide +kernel
theorem dX7_toldCount_34 : decode cX7_toldCount 34 = .ok (.iload_n 1, 1) := by decide +kernel
theorem dX7_toldCount_35 : decode cX7_toldCount 35 = .ok (.ireturn, 1) := by decide +kernel
theorem dX7_memoryOf_0 : decode cX7_memoryOf 0 = .ok (.iconst 0, 1) := by decide +kernel
theorem dX7_memoryOf_1 : decode cX7_memoryOf 1 = .ok (.istore_n 3, 1) := by decide +kernel
theorem dX7_memoryOf_2 : decode cX7_memoryOf 2 = .ok (.iconst 0, 1) := by decide +kernel
theorem dX7_memoryOf_3 : decode cX7_memoryOf 3 = .ok (.istore 4, 2) := by decide +kernel
theorem dX7_memoryOf_5 : decode cX7_memoryOf 5 = .ok (.iload 4, 2) := by decide +kernel
theorem dX7_memoryOf_7 : decode cX7_memoryOf 7 = .ok (.aload_n 0, 1) := by decide +kernel
theorem dX7_memoryOf_8 : decode cX7_memoryOf 8 = .ok (.getfield 22, 3) := by decide +kernel
theorem dX7_memoryOf_11 : decode cX7_memoryOf 11 = .ok (.if_icmp .ge 39, 3) := by decide +kernel
theorem dX7_memoryOf_14 : decode cX7_memoryOf 14 = .ok (.aload_n 0, 1) := by decide +kernel
theorem dX7_memoryOf_15 : decode cX7_memoryOf 15 = .ok (.iload 4, 2) := by decide +kernel
theorem dX7_memoryOf_17 : decode cX7_memoryOf 17 = .ok (.invokevirtual 29, 3) := by decide +kernel
theorem dX7_memoryOf_20 : decode cX7_memoryOf 20 = .ok (.astore 5, 2) := by decide +kernel
theorem dX7_memoryOf_22 : decode cX7_memoryOf 22 = .ok (.aload 5, 2) := by decide +kernel
theorem dX7_memoryOf_24 : decode cX7_memoryOf 24 = .ok (.ifnull 20, 3) := by decide +kernel
theorem dX7_memoryOf_27 : decode cX7_memoryOf 27 = .ok (.aload 5, 2) := by decide +kernel
theorem dX7_memoryOf_29 : decode cX7_memoryOf 29 = .ok (.iload_n 1, 1) := by decide +kernel
theorem dX7_memoryOf_30 : decode cX7_memoryOf 30 = .ok (.iload_n 2, 1) := by decide +kernel
theorem dX7_memoryOf_31 : decode cX7_memoryOf 31 = .ok (.invokevirtual 63, 3) := by decide +kernel
theorem dX7_memoryOf_34 : decode cX7_memoryOf 34 = .ok (.ifCond .eq 10, 3) := by decide +kernel
theorem dX7_memoryOf_37 : decode cX7_memoryOf 37 = .ok (.iload_n 3, 1) := by decide +kernel
theorem dX7_memoryOf_38 : decode cX7_memoryOf 38 = .ok (.iconst 1, 1) := by decide +kernel
theorem dX7_memoryOf_39 : decode cX7_memoryOf 39 = .ok (.iload 4, 2) := by decide +kernel
theorem dX7_memoryOf_41 : decode cX7_memoryOf 41 = .ok (.ishl, 1) := by decide +kernel
theorem dX7_memoryOf_42 : decode cX7_memoryOf 42 = .ok (.ior, 1) := by decide +kernel
theorem dX7_memoryOf_43 : decode cX7_memoryOf 43 = .ok (.istore_n 3, 1) := by decide +kernel
theorem dX7_memoryOf_44 : decode cX7_memoryOf 44 = .ok (.iinc 4 1, 3) := by decide +kernel
theorem dX7_memoryOf_47 : decode cX7_memoryOf 47 = .ok (.goto (-42), 3) := by decide +kernel
theorem dX7_memoryOf_50 : decode cX7_memoryOf 50 = .ok (.iload_n 3, 1) := by decide +kernel
theorem dX7_memoryOf_51 : decode cX7_memoryOf 51 = .ok (.ireturn, 1) := by decide +kernel
theorem dX7_memoryOfGroup_0 : decode cX7_memoryOfGroup 0 = .ok (.iconst 0, 1) := by decide +kernel
theorem dX7_memoryOfGroup_1 : decode cX7_memoryOfGroup 1 = .ok (.istore_n 2, 1) := by decide +kernel
theorem dX7_memoryOfGroup_2 : decode cX7_memoryOfGroup 2 = .ok (.iconst 0, 1) := by decide +kernel
theorem dX7_memoryOfGroup_3 : decode cX7_memoryOfGroup 3 = .ok (.istore_n 3, 1) := by decide +kernel
theorem dX7_memoryOfGroup_4 : decode cX7_memoryOfGroup 4 = .ok (.iload_n 3, 1) := by decide +kernel
theorem dX7_memoryOfGroup_5 : decode cX7_memoryOfGroup 5 = .ok (.aload_n 0, 1) := by decide +kernel
theorem dX7_memoryOfGroup_6 : decode cX7_memoryOfGroup 6 = .ok (.getfield 22, 3) := by decide +kernel
theorem dX7_memoryOfGroup_9 : decode cX7_memoryOfGroup 9 = .ok (.if_icmp .ge 41, 3) := by decide +kernel
theorem dX7_memoryOfGroup_12 : decode cX7_memoryOfGroup 12 = .ok (.aload_n 0, 1) := by decide +kernel
theorem dX7_memoryOfGroup_13 : decode cX7_memoryOfGroup 13 = .ok (.iload_n 3, 1) := by decide +kernel
theorem dX7_memoryOfGroup_14 : decode cX7_memoryOfGroup 14 = .ok (.invokevirtual 60, 3) := by decide +kernel
theorem dX7_memoryOfGroup_17 : decode cX7_memoryOfGroup 17 = .ok (.astore 4, 2) := by decide +kernel
theorem dX7_memoryOfGroup_19 : decode cX7_memoryOfGroup 19 = .ok (.aload 4, 2) := by decide +kernel
theorem dX7_memoryOfGroup_21 : decode cX7_memoryOfGroup 21 = .ok (.ifnull 23, 3) := by decide +kernel
theorem dX7_memoryOfGroup_24 : decode cX7_memoryOfGroup 24 = .ok (.aload 4, 2) := by decide +kernel
theorem dX7_memoryOfGroup_26 : decode cX7_memoryOfGroup 26 = .ok (.aload_n 0, 1) := by decide +kernel
theorem dX7_memoryOfGroup_27 : decode cX7_memoryOfGroup 27 = .ok (.getfield 26, 3) := by decide +kernel
theorem dX7_memoryOfGroup_30 : decode cX7_memoryOfGroup 30 = .ok (.invokevirtual 67, 3) := by decide +kernel
theorem dX7_memoryOfGroup_33 : decode cX7_memoryOfGroup 33 = .ok (.iload_n 1, 1) := by decide +kernel
theorem dX7_memoryOfGroup_34 : decode cX7_memoryOfGroup 34 = .ok (.iand, 1) := by decide +kernel
theorem dX7_memoryOfGroup_35 : decode cX7_memoryOfGroup 35 = .ok (.ifCond .eq 9, 3) := by decide +kernel
theorem dX7_memoryOfGroup_38 : decode cX7_memoryOfGroup 38 = .ok (.iload_n 2, 1) := by decide +kernel
theorem dX7_memoryOfGroup_39 : decode cX7_memoryOfGroup 39 = .ok (.iconst 1, 1) := by decide +kernel
theorem dX7_memoryOfGroup_40 : decode cX7_memoryOfGroup 40 = .ok (.iload_n 3, 1) := by decide +kernel
theorem dX7_memoryOfGroup_41 : decode cX7_memoryOfGroup 41 = .ok (.ishl, 1) := by decide +kernel
theorem dX7_memoryOfGroup_42 : decode cX7_memoryOfGroup 42 = .ok (.ior, 1) := by decide +kernel
theorem dX7_memoryOfGroup_43 : decode cX7_memoryOfGroup 43 = .ok (.istore_n 2, 1) := by decide +kernel
theorem dX7_memoryOfGroup_44 : decode cX7_memoryOfGroup 44 = .ok (.iinc 3 1, 3) := by decide +kernel
theorem dX7_memoryOfGroup_47 : decode cX7_memoryOfGroup 47 = .ok (.goto (-43), 3) := by decide +kernel
theorem dX7_memoryOfGroup_50 : decode cX7_memoryOfGroup 50 = .ok (.iload_n 2, 1) := by decide +kernel
theorem dX7_memoryOfGroup_51 : decode cX7_memoryOfGroup 51 = .ok (.ireturn, 1) := by decide +kernel
theorem dX7_keptBySoMany_0 : decode cX7_keptBySoMany 0 = .ok (.iconst 0, 1) := by decide +kernel
theorem dX7_keptBySoMany_1 : decode cX7_keptBySoMany 1 = .ok (.istore_n 2, 1) := by decide +kernel
theorem dX7_keptBySoMany_2 : decode cX7_keptBySoMany 2 = .ok (.iconst 0, 1) := by decide +kernel
theorem dX7_keptBySoMany_3 : decode cX7_keptBySoMany 3 = .ok (.istore_n 3, 1) := by decide +kernel
theorem dX7_keptBySoMany_4 : decode cX7_keptBySoMany 4 = .ok (.iload_n 3, 1) := by decide +kernel
theorem dX7_keptBySoMany_5 : decode cX7_keptBySoMany 5 = .ok (.aload_n 0, 1) := by decide +kernel
theorem dX7_keptBySoMany_6 : decode cX7_keptBySoMany 6 = .ok (.getfield 22, 3) := by decide +kernel
theorem dX7_keptBySoMany_9 : decode cX7_keptBySoMany 9 = .ok (.if_icmp .ge 43, 3) := by decide +kernel
theorem dX7_keptBySoMany_12 : decode cX7_keptBySoMany 12 = .ok (.aload_n 0, 1) := by decide +kernel
theorem dX7_keptBySoMany_13 : decode cX7_keptBySoMany 13 = .ok (.iload_n 3, 1) := by decide +kernel
theorem dX7_keptBySoMany_14 : decode cX7_keptBySoMany 14 = .ok (.invokevirtual 60, 3) := by decide +kernel
theorem dX7_keptBySoMany_17 : decode cX7_keptBySoMany 17 = .ok (.astore 4, 2) := by decide +kernel
theorem dX7_keptBySoMany_19 : decode cX7_keptBySoMany 19 = .ok (.aload 4, 2) := by decide +kernel
theorem dX7_keptBySoMany_21 : decode cX7_keptBySoMany 21 = .ok (.ifnull 25, 3) := by decide +kernel
theorem dX7_keptBySoMany_24 : decode cX7_keptBySoMany 24 = .ok (.aload 4, 2) := by decide +kernel
theorem dX7_keptBySoMany_26 : decode cX7_keptBySoMany 26 = .ok (.aload_n 0, 1) := by decide +kernel
theorem dX7_keptBySoMany_27 : decode cX7_keptBySoMany 27 = .ok (.getfield 26, 3) := by decide +kernel
theorem dX7_keptBySoMany_30 : decode cX7_keptBySoMany 30 = .ok (.invokevirtual 67, 3) := by decide +kernel
theorem dX7_keptBySoMany_33 : decode cX7_keptBySoMany 33 = .ok (.invokestatic 71, 3) := by decide +kernel
theorem dX7_keptBySoMany_36 : decode cX7_keptBySoMany 36 = .ok (.iload_n 1, 1) := by decide +kernel
theorem dX7_keptBySoMany_37 : decode cX7_keptBySoMany 37 = .ok (.if_icmp .ne 9, 3) := by decide +kernel
theorem dX7_keptBySoMany_40 : decode cX7_keptBySoMany 40 = .ok (.iload_n 2, 1) := by decide +kernel
theorem dX7_keptBySoMany_41 : decode cX7_keptBySoMany 41 = .ok (.iconst 1, 1) := by decide +kernel
theorem dX7_keptBySoMany_42 : decode cX7_keptBySoMany 42 = .ok (.iload_n 3, 1) := by decide +kernel
theorem dX7_keptBySoMany_43 : decode cX7_keptBySoMany 43 = .ok (.ishl, 1) := by decide +kernel
theorem dX7_keptBySoMany_44 : decode cX7_keptBySoMany 44 = .ok (.ior, 1) := by decide +kernel
theorem dX7_keptBySoMany_45 : decode cX7_keptBySoMany 45 = .ok (.istore_n 2, 1) := by decide +kernel
theorem dX7_keptBySoMany_46 : decode cX7_keptBySoMany 46 = .ok (.iinc 3 1, 3) := by decide +kernel
theorem dX7_keptBySoMany_49 : decode cX7_keptBySoMany 49 = .ok (.goto (-45), 3) := by decide +kernel
theorem dX7_keptBySoMany_52 : decode cX7_keptBySoMany 52 = .ok (.iload_n 2, 1) := by decide +kernel
theorem dX7_keptBySoMany_53 : decode cX7_keptBySoMany 53 = .ok (.ireturn, 1) := by decide +kernel
theorem dX7_mattersBetween_0 : decode cX7_mattersBetween 0 = .ok (.iconst 0, 1) := by decide +kernel
theorem dX7_mattersBetween_1 : decode cX7_mattersBetween 1 = .ok (.istore_n 3, 1) := by decide +kernel
theorem dX7_mattersBetween_2 : decode cX7_mattersBetween 2 = .ok (.iconst 0, 1) := by decide +kernel
theorem dX7_mattersBetween_3 : decode cX7_mattersBetween 3 = .ok (.istore 4, 2) := by decide +kernel
theorem dX7_mattersBetween_5 : decode cX7_mattersBetween 5 = .ok (.iload 4, 2) := by decide +kernel
theorem dX7_mattersBetween_7 : decode cX7_mattersBetween 7 = .ok (.aload_n 0, 1) := by decide +kernel
theorem dX7_mattersBetween_8 : decode cX7_mattersBetween 8 = .ok (.getfield 22, 3) := by decide +kernel
theorem dX7_mattersBetween_11 : decode cX7_mattersBetween 11 = .ok (.if_icmp .ge 44, 3) := by decide +kernel
theorem dX7_mattersBetween_14 : decode cX7_mattersBetween 14 = .ok (.aload_n 0, 1) := by decide +kernel
theorem dX7_mattersBetween_15 : decode cX7_mattersBetween 15 = .ok (.iload 4, 2) := by decide +kernel
theorem dX7_mattersBetween_17 : decode cX7_mattersBetween 17 = .ok (.invokevirtual 60, 3) := by decide +kernel
theorem dX7_mattersBetween_20 : decode cX7_mattersBetween 20 = .ok (.astore 5, 2) := by decide +kernel
theorem dX7_mattersBetween_22 : decode cX7_mattersBetween 22 = .ok (.iload_n 3, 1) := by decide +kernel
theorem dX7_mattersBetween_23 : decode cX7_mattersBetween 23 = .ok (.aload 5, 2) := by decide +kernel
theorem dX7_mattersBetween_25 : decode cX7_mattersBetween 25 = .ok (.ifnull 21, 3) := by decide +kernel
theorem dX7_mattersBetween_28 : decode cX7_mattersBetween 28 = .ok (.aload 5, 2) := by decide +kernel
theorem dX7_mattersBetween_30 : decode cX7_mattersBetween 30 = .ok (.iload_n 1, 1) := by decide +kernel
theorem dX7_mattersBetween_31 : decode cX7_mattersBetween 31 = .ok (.iload_n 2, 1) := by decide +kernel
theorem dX7_mattersBetween_32 : decode cX7_mattersBetween 32 = .ok (.aload_n 0, 1) := by decide +kernel
theorem dX7_mattersBetween_33 : decode cX7_mattersBetween 33 = .ok (.getfield 26, 3) := by decide +kernel
theorem dX7_mattersBetween_36 : decode cX7_mattersBetween 36 = .ok (.invokevirtual 76, 3) := by decide +kernel
theorem dX7_mattersBetween_39 : decode cX7_mattersBetween 39 = .ok (.ifCond .eq 7, 3) := by decide +kernel
theorem dX7_mattersBetween_42 : decode cX7_mattersBetween 42 = .ok (.iconst 1, 1) := by decide +kernel
theorem dX7_mattersBetween_43 : decode cX7_mattersBetween 43 = .ok (.goto 4, 3) := by decide +kernel
theorem dX7_mattersBetween_46 : decode cX7_mattersBetween 46 = .ok (.iconst 0, 1) := by decide +kernel
theorem dX7_mattersBetween_47 : decode cX7_mattersBetween 47 = .ok (.iadd, 1) := by decide +kernel
theorem dX7_mattersBetween_48 : decode cX7_mattersBetween 48 = .ok (.istore_n 3, 1) := by decide +kernel
theorem dX7_mattersBetween_49 : decode cX7_mattersBetween 49 = .ok (.iinc 4 1, 3) := by decide +kernel
theorem dX7_mattersBetween_52 : decode cX7_mattersBetween 52 = .ok (.goto (-47), 3) := by decide +kernel
theorem dX7_mattersBetween_55 : decode cX7_mattersBetween 55 = .ok (.iload_n 3, 1) := by decide +kernel
theorem dX7_mattersBetween_56 : decode cX7_mattersBetween 56 = .ok (.ireturn, 1) := by decide +kernel
theorem dX7_weighBurdens_0 : decode cX7_weighBurdens 0 = .ok (.iconst 0, 1) := by decide +kernel
theorem dX7_weighBurdens_1 : decode cX7_weighBurdens 1 = .ok (.istore_n 1, 1) := by decide +kernel
theorem dX7_weighBurdens_2 : decode cX7_weighBurdens 2 = .ok (.iload_n 1, 1) := by decide +kernel
theorem dX7_weighBurdens_3 : decode cX7_weighBurdens 3 = .ok (.aload_n 0, 1) := by decide +kernel
theorem dX7_weighBurdens_4 : decode cX7_weighBurdens 4 = .ok (.getfield 18, 3) := by decide +kernel
theorem dX7_weighBurdens_7 : decode cX7_weighBurdens 7 = .ok (.arraylength, 1) := by decide +kernel
theorem dX7_weighBurdens_8 : decode cX7_weighBurdens 8 = .ok (.if_icmp .ge 16, 3) := by decide +kernel
theorem dX7_weighBurdens_11 : decode cX7_weighBurdens 11 = .ok (.aload_n 0, 1) := by decide +kernel
theorem dX7_weighBurdens_12 : decode cX7_weighBurdens 12 = .ok (.getfield 18, 3) := by decide +kernel
theorem dX7_weighBurdens_15 : decode cX7_weighBurdens 15 = .ok (.iload_n 1, 1) := by decide +kernel
theorem dX7_weighBurdens_16 : decode cX7_weighBurdens 16 = .ok (.iconst 0, 1) := by decide +kernel
theorem dX7_weighBurdens_17 : decode cX7_weighBurdens 17 = .ok (.iastore, 1) := by decide +kernel
theorem dX7_weighBurdens_18 : decode cX7_weighBurdens 18 = .ok (.iinc 1 1, 3) := by decide +kernel
theorem dX7_weighBurdens_21 : decode cX7_weighBurdens 21 = .ok (.goto (-19), 3) := by decide +kernel
theorem dX7_weighBurdens_24 : decode cX7_weighBurdens 24 = .ok (.iconst 0, 1) := by decide +kernel
theorem dX7_weighBurdens_25 : decode cX7_weighBurdens 25 = .ok (.istore_n 1, 1) := by decide +kernel
theorem dX7_weighBurdens_26 : decode cX7_weighBurdens 26 = .ok (.iload_n 1, 1) := by decide +kernel
theorem dX7_weighBurdens_27 : decode cX7_weighBurdens 27 = .ok (.aload_n 0, 1) := by decide +kernel
theorem dX7_weighBurdens_28 : decode cX7_weighBurdens 28 = .ok (.getfield 22, 3) := by decide +kernel
theorem dX7_weighBurdens_31 : decode cX7_weighBurdens 31 = .ok (.if_icmp .ge 50, 3) := by decide +kernel
theorem dX7_weighBurdens_34 : decode cX7_weighBurdens 34 = .ok (.aload_n 0, 1) := by decide +kernel
theorem dX7_weighBurdens_35 : decode cX7_weighBurdens 35 = .ok (.iload_n 1, 1) := by decide +kernel
theorem dX7_weighBurdens_36 : decode cX7_weighBurdens 36 = .ok (.invokevirtual 60, 3) := by decide +kernel
theorem dX7_weighBurdens_39 : decode cX7_weighBurdens 39 = .ok (.astore_n 2, 1) := by decide +kernel
theorem dX7_weighBurdens_40 : decode cX7_weighBurdens 40 = .ok (.aload_n 2, 1) := by decide +kernel
theorem dX7_weighBurdens_41 : decode cX7_weighBurdens 41 = .ok (.ifnull 34, 3) := by decide +kernel
theorem dX7_weighBurdens_44 : decode cX7_weighBurdens 44 = .ok (.aload_n 2, 1) := by decide +kernel
theorem dX7_weighBurdens_45 : decode cX7_weighBurdens 45 = .ok (.getfield 40, 3) := by decide +kernel
theorem dX7_weighBurdens_48 : decode cX7_weighBurdens 48 = .ok (.aload_n 0, 1) := by decide +kernel
theorem dX7_weighBurdens_49 : decode cX7_weighBurdens 49 = .ok (.getfield 18, 3) := by decide +kernel
theorem dX7_weighBurdens_52 : decode cX7_weighBurdens 52 = .ok (.arraylength, 1) := by decide +kernel
theorem dX7_weighBurdens_53 : decode cX7_weighBurdens 53 = .ok (.invokestatic 80, 3) := by decide +kernel
theorem dX7_weighBurdens_56 : decode cX7_weighBurdens 56 = .ok (.ifCond .eq 19, 3) := by decide +kernel
theorem dX7_weighBurdens_59 : decode cX7_weighBurdens 59 = .ok (.aload_n 0, 1) := by decide +kernel
theorem dX7_weighBurdens_60 : decode cX7_weighBurdens 60 = .ok (.getfield 18, 3) := by decide +kernel
theorem dX7_weighBurdens_63 : decode cX7_weighBurdens 63 = .ok (.aload_n 2, 1) := by decide +kernel
theorem dX7_weighBurdens_64 : decode cX7_weighBurdens 64 = .ok (.getfield 40, 3) := by decide +kernel
theorem dX7_weighBurdens_67 : decode cX7_weighBurdens 67 = .ok (.dup2, 1) := by decide +kernel
theorem dX7_weighBurdens_68 : decode cX7_weighBurdens 68 = .ok (.iaload, 1) := by decide +kernel
theorem dX7_weighBurdens_69 : decode cX7_weighBurdens 69 = .ok (.aload_n 2, 1) := by decide +kernel
theorem dX7_weighBurdens_70 : decode cX7_weighBurdens 70 = .ok (.invokevirtual 83, 3) := by decide +kernel
theorem dX7_weighBurdens_73 : decode cX7_weighBurdens 73 = .ok (.iadd, 1) := by decide +kernel
theorem dX7_weighBurdens_74 : decode cX7_weighBurdens 74 = .ok (.iastore, 1) := by decide +kernel
theorem dX7_weighBurdens_75 : decode cX7_weighBurdens 75 = .ok (.iinc 1 1, 3) := by decide +kernel
theorem dX7_weighBurdens_78 : decode cX7_weighBurdens 78 = .ok (.goto (-52), 3) := by decide +kernel
theorem dX7_weighBurdens_81 : decode cX7_weighBurdens 81 = .ok (.return_, 1) := by decide +kernel
theorem dX7_burdenedWith_0 : decode cX7_burdenedWith 0 = .ok (.iconst 0, 1) := by decide +kernel
theorem dX7_burdenedWith_1 : decode cX7_burdenedWith 1 = .ok (.istore_n 2, 1) := by decide +kernel
theorem dX7_burdenedWith_2 : decode cX7_burdenedWith 2 = .ok (.iconst 0, 1) := by decide +kernel
theorem dX7_burdenedWith_3 : decode cX7_burdenedWith 3 = .ok (.istore_n 3, 1) := by decide +kernel
theorem dX7_burdenedWith_4 : decode cX7_burdenedWith 4 = .ok (.iload_n 3, 1) := by decide +kernel
theorem dX7_burdenedWith_5 : decode cX7_burdenedWith 5 = .ok (.aload_n 0, 1) := by decide +kernel
theorem dX7_burdenedWith_6 : decode cX7_burdenedWith 6 = .ok (.getfield 18, 3) := by decide +kernel
theorem dX7_burdenedWith_9 : decode cX7_burdenedWith 9 = .ok (.arraylength, 1) := by decide +kernel
theorem dX7_burdenedWith_10 : decode cX7_burdenedWith 10 = .ok (.if_icmp .ge 25, 3) := by decide +kernel
theorem dX7_burdenedWith_13 : decode cX7_burdenedWith 13 = .ok (.aload_n 0, 1) := by decide +kernel
theorem dX7_burdenedWith_14 : decode cX7_burdenedWith 14 = .ok (.getfield 18, 3) := by decide +kernel
theorem dX7_burdenedWith_17 : decode cX7_burdenedWith 17 = .ok (.iload_n 3, 1) := by decide +kernel
theorem dX7_burdenedWith_18 : decode cX7_burdenedWith 18 = .ok (.iaload, 1) := by decide +kernel
theorem dX7_burdenedWith_19 : decode cX7_burdenedWith 19 = .ok (.iload_n 1, 1) := by decide +kernel
theorem dX7_burdenedWith_20 : decode cX7_burdenedWith 20 = .ok (.if_icmp .lt 9, 3) := by decide +kernel
theorem dX7_burdenedWith_23 : decode cX7_burdenedWith 23 = .ok (.iload_n 2, 1) := by decide +kernel
theorem dX7_burdenedWith_24 : decode cX7_burdenedWith 24 = .ok (.iconst 1, 1) := by decide +kernel
theorem dX7_burdenedWith_25 : decode cX7_burdenedWith 25 = .ok (.iload_n 3, 1) := by decide +kernel
theorem dX7_burdenedWith_26 : decode cX7_burdenedWith 26 = .ok (.ishl, 1) := by decide +kernel
theorem dX7_burdenedWith_27 : decode cX7_burdenedWith 27 = .ok (.ior, 1) := by decide +kernel
theorem dX7_burdenedWith_28 : decode cX7_burdenedWith 28 = .ok (.istore_n 2, 1) := by decide +kernel
theorem dX7_burdenedWith_29 : decode cX7_burdenedWith 29 = .ok (.iinc 3 1, 3) := by decide +kernel
theorem dX7_burdenedWith_32 : decode cX7_burdenedWith 32 = .ok (.goto (-28), 3) := by decide +kernel
theorem dX7_burdenedWith_35 : decode cX7_burdenedWith 35 = .ok (.iload_n 2, 1) := by decide +kernel
theorem dX7_burdenedWith_36 : decode cX7_burdenedWith 36 = .ok (.ireturn, 1) := by decide +kernel
theorem dX7_sizesBut_0 : decode cX7_sizesBut 0 = .ok (.iconst 0, 1) := by decide +kernel
theorem dX7_sizesBut_1 : decode cX7_sizesBut 1 = .ok (.istore_n 2, 1) := by decide +kernel
theorem dX7_sizesBut_2 : decode cX7_sizesBut 2 = .ok (.iconst 0, 1) := by decide +kernel
theorem dX7_sizesBut_3 : decode cX7_sizesBut 3 = .ok (.istore_n 3, 1) := by decide +kernel
theorem dX7_sizesBut_4 : decode cX7_sizesBut 4 = .ok (.iload_n 3, 1) := by decide +kernel
theorem dX7_sizesBut_5 : decode cX7_sizesBut 5 = .ok (.aload_n 0, 1) := by decide +kernel
theorem dX7_sizesBut_6 : decode cX7_sizesBut 6 = .ok (.getfield 22, 3) := by decide +kernel
theorem dX7_sizesBut_9 : decode cX7_sizesBut 9 = .ok (.if_icmp .ge 37, 3) := by decide +kernel
theorem dX7_sizesBut_12 : decode cX7_sizesBut 12 = .ok (.aload_n 0, 1) := by decide +kernel
theorem dX7_sizesBut_13 : decode cX7_sizesBut 13 = .ok (.iload_n 3, 1) := by decide +kernel
theorem dX7_sizesBut_14 : decode cX7_sizesBut 14 = .ok (.invokevirtual 60, 3) := by decide +kernel
theorem dX7_sizesBut_17 : decode cX7_sizesBut 17 = .ok (.astore 4, 2) := by decide +kernel
theorem dX7_sizesBut_19 : decode cX7_sizesBut 19 = .ok (.aload 4, 2) := by decide +kernel
theorem dX7_sizesBut_21 : decode cX7_sizesBut 21 = .ok (.ifnull 19, 3) := by decide +kernel
theorem dX7_sizesBut_24 : decode cX7_sizesBut 24 = .ok (.iload_n 1, 1) := by decide +kernel
theorem dX7_sizesBut_25 : decode cX7_sizesBut 25 = .ok (.iload_n 3, 1) := by decide +kernel
theorem dX7_sizesBut_26 : decode cX7_sizesBut 26 = .ok (.ishr, 1) := by decide +kernel
theorem dX7_sizesBut_27 : decode cX7_sizesBut 27 = .ok (.iconst 1, 1) := by decide +kernel
theorem dX7_sizesBut_28 : decode cX7_sizesBut 28 = .ok (.iand, 1) := by decide +kernel
theorem dX7_sizesBut_29 : decode cX7_sizesBut 29 = .ok (.ifCond .ne 11, 3) := by decide +kernel
theorem dX7_sizesBut_32 : decode cX7_sizesBut 32 = .ok (.iload_n 2, 1) := by decide +kernel
theorem dX7_sizesBut_33 : decode cX7_sizesBut 33 = .ok (.aload 4, 2) := by decide +kernel
theorem dX7_sizesBut_35 : decode cX7_sizesBut 35 = .ok (.invokevirtual 87, 3) := by decide +kernel
theorem dX7_sizesBut_38 : decode cX7_sizesBut 38 = .ok (.iadd, 1) := by decide +kernel
theorem dX7_sizesBut_39 : decode cX7_sizesBut 39 = .ok (.istore_n 2, 1) := by decide +kernel
theorem dX7_sizesBut_40 : decode cX7_sizesBut 40 = .ok (.iinc 3 1, 3) := by decide +kernel
theorem dX7_sizesBut_43 : decode cX7_sizesBut 43 = .ok (.goto (-39), 3) := by decide +kernel
theorem dX7_sizesBut_46 : decode cX7_sizesBut 46 = .ok (.iload_n 2, 1) := by decide +kernel
theorem dX7_sizesBut_47 : decode cX7_sizesBut 47 = .ok (.ireturn, 1) := by decide +kernel
theorem dX7_greatestBut_0 : decode cX7_greatestBut 0 = .ok (.iconst 0, 1) := by decide +kernel
theorem dX7_greatestBut_1 : decode cX7_greatestBut 1 = .ok (.istore_n 2, 1) := by decide +kernel
theorem dX7_greatestBut_2 : decode cX7_greatestBut 2 = .ok (.iconst 0, 1) := by decide +kernel
theorem dX7_greatestBut_3 : decode cX7_greatestBut 3 = .ok (.istore_n 3, 1) := by decide +kernel
theorem dX7_greatestBut_4 : decode cX7_greatestBut 4 = .ok (.iconst 0, 1) := by decide +kernel
theorem dX7_greatestBut_5 : decode cX7_greatestBut 5 = .ok (.istore 4, 2) := by decide +kernel
theorem dX7_greatestBut_7 : decode cX7_greatestBut 7 = .ok (.iload 4, 2) := by decide +kernel
theorem dX7_greatestBut_9 : decode cX7_greatestBut 9 = .ok (.aload_n 0, 1) := by decide +kernel
theorem dX7_greatestBut_10 : decode cX7_greatestBut 10 = .ok (.getfield 22, 3) := by decide +kernel
theorem dX7_greatestBut_13 : decode cX7_greatestBut 13 = .ok (.if_icmp .ge 51, 3) := by decide +kernel
theorem dX7_greatestBut_16 : decode cX7_greatestBut 16 = .ok (.aload_n 0, 1) := by decide +kernel
theorem dX7_greatestBut_17 : decode cX7_greatestBut 17 = .ok (.iload 4, 2) := by decide +kernel
theorem dX7_greatestBut_19 : decode cX7_greatestBut 19 = .ok (.invokevirtual 60, 3) := by decide +kernel
theorem dX7_greatestBut_22 : decode cX7_greatestBut 22 = .ok (.astore 5, 2) := by decide +kernel
theorem dX7_greatestBut_24 : decode cX7_greatestBut 24 = .ok (.aload 5, 2) := by decide +kernel
theorem dX7_greatestBut_26 : decode cX7_greatestBut 26 = .ok (.ifnull 32, 3) := by decide +kernel
theorem dX7_greatestBut_29 : decode cX7_greatestBut 29 = .ok (.iload_n 1, 1) := by decide +kernel
theorem dX7_greatestBut_30 : decode cX7_greatestBut 30 = .ok (.iload 4, 2) := by decide +kernel
theorem dX7_greatestBut_32 : decode cX7_greatestBut 32 = .ok (.ishr, 1) := by decide +kernel
theorem dX7_greatestBut_33 : decode cX7_greatestBut 33 = .ok (.iconst 1, 1) := by decide +kernel
theorem dX7_greatestBut_34 : decode cX7_greatestBut 34 = .ok (.iand, 1) := by decide +kernel
theorem dX7_greatestBut_35 : decode cX7_greatestBut 35 = .ok (.ifCond .ne 23, 3) := by decide +kernel
theorem dX7_greatestBut_38 : decode cX7_greatestBut 38 = .ok (.aload 5, 2) := by decide +kernel
theorem dX7_greatestBut_40 : decode cX7_greatestBut 40 = .ok (.invokevirtual 87, 3) := by decide +kernel
theorem dX7_greatestBut_43 : decode cX7_greatestBut 43 = .ok (.iload_n 3, 1) := by decide +kernel
theorem dX7_greatestBut_44 : decode cX7_greatestBut 44 = .ok (.if_icmp .le 14, 3) := by decide +kernel
theorem dX7_greatestBut_47 : decode cX7_greatestBut 47 = .ok (.aload 5, 2) := by decide +kernel
theorem dX7_greatestBut_49 : decode cX7_greatestBut 49 = .ok (.invokevirtual 87, 3) := by decide +kernel
theorem dX7_greatestBut_52 : decode cX7_greatestBut 52 = .ok (.istore_n 3, 1) := by decide +kernel
theorem dX7_greatestBut_53 : decode cX7_greatestBut 53 = .ok (.iconst 1, 1) := by decide +kernel
theorem dX7_greatestBut_54 : decode cX7_greatestBut 54 = .ok (.iload 4, 2) := by decide +kernel
theorem dX7_greatestBut_56 : decode cX7_greatestBut 56 = .ok (.ishl, 1) := by decide +kernel
theorem dX7_greatestBut_57 : decode cX7_greatestBut 57 = .ok (.istore_n 2, 1) := by decide +kernel
theorem dX7_greatestBut_58 : decode cX7_greatestBut 58 = .ok (.iinc 4 1, 3) := by decide +kernel
theorem dX7_greatestBut_61 : decode cX7_greatestBut 61 = .ok (.goto (-54), 3) := by decide +kernel
theorem dX7_greatestBut_64 : decode cX7_greatestBut 64 = .ok (.iload_n 2, 1) := by decide +kernel
theorem dX7_greatestBut_65 : decode cX7_greatestBut 65 = .ok (.ireturn, 1) := by decide +kernel
theorem dX7_allLasting_0 : decode cX7_allLasting 0 = .ok (.iconst 0, 1) := by decide +kernel
theorem dX7_allLasting_1 : decode cX7_allLasting 1 = .ok (.istore_n 1, 1) := by decide +kernel
theorem dX7_allLasting_2 : decode cX7_allLasting 2 = .ok (.iconst 0, 1) := by decide +kernel
theorem dX7_allLasting_3 : decode cX7_allLasting 3 = .ok (.istore_n 2, 1) := by decide +kernel
theorem dX7_allLasting_4 : decode cX7_allLasting 4 = .ok (.iload_n 2, 1) := by decide +kernel
theorem dX7_allLasting_5 : decode cX7_allLasting 5 = .ok (.aload_n 0, 1) := by decide +kernel
theorem dX7_allLasting_6 : decode cX7_allLasting 6 = .ok (.getfield 22, 3) := by decide +kernel
theorem dX7_allLasting_9 : decode cX7_allLasting 9 = .ok (.if_icmp .ge 30, 3) := by decide +kernel
theorem dX7_allLasting_12 : decode cX7_allLasting 12 = .ok (.aload_n 0, 1) := by decide +kernel
theorem dX7_allLasting_13 : decode cX7_allLasting 13 = .ok (.iload_n 2, 1) := by decide +kernel
theorem dX7_allLasting_14 : decode cX7_allLasting 14 = .ok (.invokevirtual 29, 3) := by decide +kernel
theorem dX7_allLasting_17 : decode cX7_allLasting 17 = .ok (.astore_n 3, 1) := by decide +kernel
theorem dX7_allLasting_18 : decode cX7_allLasting 18 = .ok (.iload_n 1, 1) := by decide +kernel
theorem dX7_allLasting_19 : decode cX7_allLasting 19 = .ok (.aload_n 3, 1) := by decide +kernel
theorem dX7_allLasting_20 : decode cX7_allLasting 20 = .ok (.ifnull 10, 3) := by decide +kernel
theorem dX7_allLasting_23 : decode cX7_allLasting 23 = .ok (.aload_n 3, 1) := by decide +kernel
theorem dX7_allLasting_24 : decode cX7_allLasting 24 = .ok (.getfield 90, 3) := by decide +kernel
theorem dX7_allLasting_27 : decode cX7_allLasting 27 = .ok (.goto 4, 3) := by decide +kernel
theorem dX7_allLasting_30 : decode cX7_allLasting 30 = .ok (.iconst 0, 1) := by decide +kernel
theorem dX7_allLasting_31 : decode cX7_allLasting 31 = .ok (.iadd, 1) := by decide +kernel
theorem dX7_allLasting_32 : decode cX7_allLasting 32 = .ok (.istore_n 1, 1) := by decide +kernel
theorem dX7_allLasting_33 : decode cX7_allLasting 33 = .ok (.iinc 2 1, 3) := by decide +kernel
theorem dX7_allLasting_36 : decode cX7_allLasting 36 = .ok (.goto (-32), 3) := by decide +kernel
theorem dX7_allLasting_39 : decode cX7_allLasting 39 = .ok (.iload_n 1, 1) := by decide +kernel
theorem dX7_allLasting_40 : decode cX7_allLasting 40 = .ok (.ireturn, 1) := by decide +kernel
theorem dX7_allSeen_0 : decode cX7_allSeen 0 = .ok (.iconst 0, 1) := by decide +kernel
theorem dX7_allSeen_1 : decode cX7_allSeen 1 = .ok (.istore_n 1, 1) := by decide +kernel
theorem dX7_allSeen_2 : decode cX7_allSeen 2 = .ok (.iconst 0, 1) := by decide +kernel
theorem dX7_allSeen_3 : decode cX7_allSeen 3 = .ok (.istore_n 2, 1) := by decide +kernel
theorem dX7_allSeen_4 : decode cX7_allSeen 4 = .ok (.iload_n 2, 1) := by decide +kernel
theorem dX7_allSeen_5 : decode cX7_allSeen 5 = .ok (.aload_n 0, 1) := by decide +kernel
theorem dX7_allSeen_6 : decode cX7_allSeen 6 = .ok (.getfield 22, 3) := by decide +kernel
theorem dX7_allSeen_9 : decode cX7_allSeen 9 = .ok (.if_icmp .ge 33, 3) := by decide +kernel
theorem dX7_allSeen_12 : decode cX7_allSeen 12 = .ok (.aload_n 0, 1) := by decide +kernel
theorem dX7_allSeen_13 : decode cX7_allSeen 13 = .ok (.iload_n 2, 1) := by decide +kernel
theorem dX7_allSeen_14 : decode cX7_allSeen 14 = .ok (.invokevirtual 29, 3) := by decide +kernel
theorem dX7_allSeen_17 : decode cX7_allSeen 17 = .ok (.astore_n 3, 1) := by decide +kernel
theorem dX7_allSeen_18 : decode cX7_allSeen 18 = .ok (.iload_n 1, 1) := by decide +kernel
theorem dX7_allSeen_19 : decode cX7_allSeen 19 = .ok (.aload_n 3, 1) := by decide +kernel
theorem dX7_allSeen_20 : decode cX7_allSeen 20 = .ok (.ifnull 13, 3) := by decide +kernel
theorem dX7_allSeen_23 : decode cX7_allSeen 23 = .ok (.aload_n 3, 1) := by decide +kernel
theorem dX7_allSeen_24 : decode cX7_allSeen 24 = .ok (.getfield 43, 3) := by decide +kernel
theorem dX7_allSeen_27 : decode cX7_allSeen 27 = .ok (.invokestatic 71, 3) := by decide +kernel
theorem dX7_allSeen_30 : decode cX7_allSeen 30 = .ok (.goto 4, 3) := by decide +kernel
theorem dX7_allSeen_33 : decode cX7_allSeen 33 = .ok (.iconst 0, 1) := by decide +kernel
theorem dX7_allSeen_34 : decode cX7_allSeen 34 = .ok (.iadd, 1) := by decide +kernel
theorem dX7_allSeen_35 : decode cX7_allSeen 35 = .ok (.istore_n 1, 1) := by decide +kernel
theorem dX7_allSeen_36 : decode cX7_allSeen 36 = .ok (.iinc 2 1, 3) := by decide +kernel
theorem dX7_allSeen_39 : decode cX7_allSeen 39 = .ok (.goto (-35), 3) := by decide +kernel
theorem dX7_allSeen_42 : decode cX7_allSeen 42 = .ok (.iload_n 1, 1) := by decide +kernel
theorem dX7_allSeen_43 : decode cX7_allSeen 43 = .ok (.ireturn, 1) := by decide +kernel
theorem dX8_isBelow_0 : decode cX8_isBelow 0 = .ok (.iload_n 0, 1) := by decide +kernel
theorem dX8_isBelow_1 : decode cX8_isBelow 1 = .ok (.ifCond .lt 12, 3) := by decide +kernel
theorem dX8_isBelow_4 : decode cX8_isBelow 4 = .ok (.iload_n 0, 1) := by decide +kernel
theorem dX8_isBelow_5 : decode cX8_isBelow 5 = .ok (.iload_n 1, 1) := by decide +kernel
theorem dX8_isBelow_6 : decode cX8_isBelow 6 = .ok (.if_icmp .ge 7, 3) := by decide +kernel
theorem dX8_isBelow_9 : decode cX8_isBelow 9 = .ok (.iconst 1, 1) := by decide +kernel
theorem dX8_isBelow_10 : decode cX8_isBelow 10 = .ok (.goto 4, 3) := by decide +kernel
theorem dX8_isBelow_13 : decode cX8_isBelow 13 = .ok (.iconst 0, 1) := by decide +kernel
theorem dX8_isBelow_14 : decode cX8_isBelow 14 = .ok (.ireturn, 1) := by decide +kernel
theorem dX8_isWithin_0 : decode cX8_isWithin 0 = .ok (.iload_n 0, 1) := by decide +kernel
theorem dX8_isWithin_1 : decode cX8_isWithin 1 = .ok (.ifCond .lt 12, 3) := by decide +kernel
theorem dX8_isWithin_4 : decode cX8_isWithin 4 = .ok (.iload_n 0, 1) := by decide +kernel
theorem dX8_isWithin_5 : decode cX8_isWithin 5 = .ok (.iload_n 1, 1) := by decide +kernel
theorem dX8_isWithin_6 : decode cX8_isWithin 6 = .ok (.if_icmp .gt 7, 3) := by decide +kernel
theorem dX8_isWithin_9 : decode cX8_isWithin 9 = .ok (.iconst 1, 1) := by decide +kernel
theorem dX8_isWithin_10 : decode cX8_isWithin 10 = .ok (.goto 4, 3) := by decide +kernel
theorem dX8_isWithin_13 : decode cX8_isWithin 13 = .ok (.iconst 0, 1) := by decide +kernel
theorem dX8_isWithin_14 : decode cX8_isWithin 14 = .ok (.ireturn, 1) := by decide +kernel
theorem dJ6_bitCount_0f7a4_0 : decode cJ6_bitCount_0f7a4 0 = .ok (.iload_n 0, 1) := by decide +kernel
theorem dJ6_bitCount_0f7a4_1 : decode cJ6_bitCount_0f7a4 1 = .ok (.iload_n 0, 1) := by decide +kernel
theorem dJ6_bitCount_0f7a4_2 : decode cJ6_bitCount_0f7a4 2 = .ok (.iconst 1, 1) := by decide +kernel
theorem dJ6_bitCount_0f7a4_3 : decode cJ6_bitCount_0f7a4 3 = .ok (.iushr, 1) := by decide +kernel
theorem dJ6_bitCount_0f7a4_4 : decode cJ6_bitCount_0f7a4 4 = .ok (.ldc_w 265, 3) := by decide +kernel
theorem dJ6_bitCount_0f7a4_7 : decode cJ6_bitCount_0f7a4 7 = .ok (.iand, 1) := by decide +kernel
theorem dJ6_bitCount_0f7a4_8 : decode cJ6_bitCount_0f7a4 8 = .ok (.isub, 1) := by decide +kernel
theorem dJ6_bitCount_0f7a4_9 : decode cJ6_bitCount_0f7a4 9 = .ok (.istore_n 0, 1) := by decide +kernel
theorem dJ6_bitCount_0f7a4_10 : decode cJ6_bitCount_0f7a4 10 = .ok (.iload_n 0, 1) := by decide +kernel
theorem dJ6_bitCount_0f7a4_11 : decode cJ6_bitCount_0f7a4 11 = .ok (.ldc_w 266, 3) := by decide +kernel
theorem dJ6_bitCount_0f7a4_14 : decode cJ6_bitCount_0f7a4 14 = .ok (.iand, 1) := by decide +kernel
theorem dJ6_bitCount_0f7a4_15 : decode cJ6_bitCount_0f7a4 15 = .ok (.iload_n 0, 1) := by decide +kernel
theorem dJ6_bitCount_0f7a4_16 : decode cJ6_bitCount_0f7a4 16 = .ok (.iconst 2, 1) := by decide +kernel
theorem dJ6_bitCount_0f7a4_17 : decode cJ6_bitCount_0f7a4 17 = .ok (.iushr, 1) := by decide +kernel
theorem dJ6_bitCount_0f7a4_18 : decode cJ6_bitCount_0f7a4 18 = .ok (.ldc_w 266, 3) := by decide +kernel
theorem dJ6_bitCount_0f7a4_21 : decode cJ6_bitCount_0f7a4 21 = .ok (.iand, 1) := by decide +kernel
theorem dJ6_bitCount_0f7a4_22 : decode cJ6_bitCount_0f7a4 22 = .ok (.iadd, 1) := by decide +kernel
theorem dJ6_bitCount_0f7a4_23 : decode cJ6_bitCount_0f7a4 23 = .ok (.istore_n 0, 1) := by decide +kernel
theorem dJ6_bitCount_0f7a4_24 : decode cJ6_bitCount_0f7a4 24 = .ok (.iload_n 0, 1) := by decide +kernel
theorem dJ6_bitCount_0f7a4_25 : decode cJ6_bitCount_0f7a4 25 = .ok (.iload_n 0, 1) := by decide +kernel
theorem dJ6_bitCount_0f7a4_26 : decode cJ6_bitCount_0f7a4 26 = .ok (.iconst 4, 1) := by decide +kernel
theorem dJ6_bitCount_0f7a4_27 : decode cJ6_bitCount_0f7a4 27 = .ok (.iushr, 1) := by decide +kernel
theorem dJ6_bitCount_0f7a4_28 : decode cJ6_bitCount_0f7a4 28 = .ok (.iadd, 1) := by decide +kernel
theorem dJ6_bitCount_0f7a4_29 : decode cJ6_bitCount_0f7a4 29 = .ok (.ldc_w 267, 3) := by decide +kernel
theorem dJ6_bitCount_0f7a4_32 : decode cJ6_bitCount_0f7a4 32 = .ok (.iand, 1) := by decide +kernel
theorem dJ6_bitCount_0f7a4_33 : decode cJ6_bitCount_0f7a4 33 = .ok (.istore_n 0, 1) := by decide +kernel
theorem dJ6_bitCount_0f7a4_34 : decode cJ6_bitCount_0f7a4 34 = .ok (.iload_n 0, 1) := by decide +kernel
theorem dJ6_bitCount_0f7a4_35 : decode cJ6_bitCount_0f7a4 35 = .ok (.iload_n 0, 1) := by decide +kernel
theorem dJ6_bitCount_0f7a4_36 : decode cJ6_bitCount_0f7a4 36 = .ok (.bipush 8, 2) := by decide +kernel
theorem dJ6_bitCount_0f7a4_38 : decode cJ6_bitCount_0f7a4 38 = .ok (.iushr, 1) := by decide +kernel
theorem dJ6_bitCount_0f7a4_39 : decode cJ6_bitCount_0f7a4 39 = .ok (.iadd, 1) := by decide +kernel
theorem dJ6_bitCount_0f7a4_40 : decode cJ6_bitCount_0f7a4 40 = .ok (.istore_n 0, 1) := by decide +kernel
theorem dJ6_bitCount_0f7a4_41 : decode cJ6_bitCount_0f7a4 41 = .ok (.iload_n 0, 1) := by decide +kernel
theorem dJ6_bitCount_0f7a4_42 : decode cJ6_bitCount_0f7a4 42 = .ok (.iload_n 0, 1) := by decide +kernel
theorem dJ6_bitCount_0f7a4_43 : decode cJ6_bitCount_0f7a4 43 = .ok (.bipush 16, 2) := by decide +kernel
theorem dJ6_bitCount_0f7a4_45 : decode cJ6_bitCount_0f7a4 45 = .ok (.iushr, 1) := by decide +kernel
theorem dJ6_bitCount_0f7a4_46 : decode cJ6_bitCount_0f7a4 46 = .ok (.iadd, 1) := by decide +kernel
theorem dJ6_bitCount_0f7a4_47 : decode cJ6_bitCount_0f7a4 47 = .ok (.istore_n 0, 1) := by decide +kernel
theorem dJ6_bitCount_0f7a4_48 : decode cJ6_bitCount_0f7a4 48 = .ok (.iload_n 0, 1) := by decide +kernel
theorem dJ6_bitCount_0f7a4_49 : decode cJ6_bitCount_0f7a4 49 = .ok (.bipush 63, 2) := by decide +kernel
theorem dJ6_bitCount_0f7a4_51 : decode cJ6_bitCount_0f7a4 51 = .ok (.iand, 1) := by decide +kernel
theorem dJ6_bitCount_0f7a4_52 : decode cJ6_bitCount_0f7a4 52 = .ok (.ireturn, 1) := by decide +kernel
