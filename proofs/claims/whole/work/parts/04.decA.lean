theorem dX0_init_0 : decode cX0_init 0 = .ok (.aload_n 0, 1) := by decide +kernel
theorem dX0_init_1 : decode cX0_init 1 = .ok (.invokespecial 3, 3) := by decide +kernel
theorem dX0_init_4 : decode cX0_init 4 = .ok (.aload_n 0, 1) := by decide +kernel
theorem dX0_init_5 : decode cX0_init 5 = .ok (.iconst (-1), 1) := by decide +kernel
theorem dX0_init_6 : decode cX0_init 6 = .ok (.putfield 9, 3) := by decide +kernel
theorem dX0_init_9 : decode cX0_init 9 = .ok (.aload_n 0, 1) := by decide +kernel
theorem dX0_init_10 : decode cX0_init 10 = .ok (.iconst (-1), 1) := by decide +kernel
theorem dX0_init_11 : decode cX0_init 11 = .ok (.putfield 15, 3) := by decide +kernel
theorem dX0_init_14 : decode cX0_init 14 = .ok (.aload_n 0, 1) := by decide +kernel
theorem dX0_init_15 : decode cX0_init 15 = .ok (.iconst (-1), 1) := by decide +kernel
theorem dX0_init_16 : decode cX0_init 16 = .ok (.putfield 18, 3) := by decide +kernel
theorem dX0_init_19 : decode cX0_init 19 = .ok (.aload_n 0, 1) := by decide +kernel
theorem dX0_init_20 : decode cX0_init 20 = .ok (.iconst (-1), 1) := by decide +kernel
theorem dX0_init_21 : decode cX0_init 21 = .ok (.putfield 21, 3) := by decide +kernel
theorem dX0_init_24 : decode cX0_init 24 = .ok (.return_, 1) := by decide +kernel
theorem dX0_setFirst_0 : decode cX0_setFirst 0 = .ok (.aload_n 0, 1) := by decide +kernel
theorem dX0_setFirst_1 : decode cX0_setFirst 1 = .ok (.iload_n 1, 1) := by decide +kernel
theorem dX0_setFirst_2 : decode cX0_setFirst 2 = .ok (.putfield 9, 3) := by decide +kernel
theorem dX0_setFirst_5 : decode cX0_setFirst 5 = .ok (.aload_n 0, 1) := by decide +kernel
theorem dX0_setFirst_6 : decode cX0_setFirst 6 = .ok (.iload_n 2, 1) := by decide +kernel
theorem dX0_setFirst_7 : decode cX0_setFirst 7 = .ok (.putfield 15, 3) := by decide +kernel
theorem dX0_setFirst_10 : decode cX0_setFirst 10 = .ok (.return_, 1) := by decide +kernel
theorem dX0_setSecond_0 : decode cX0_setSecond 0 = .ok (.aload_n 0, 1) := by decide +kernel
theorem dX0_setSecond_1 : decode cX0_setSecond 1 = .ok (.iload_n 1, 1) := by decide +kernel
theorem dX0_setSecond_2 : decode cX0_setSecond 2 = .ok (.putfield 18, 3) := by decide +kernel
theorem dX0_setSecond_5 : decode cX0_setSecond 5 = .ok (.aload_n 0, 1) := by decide +kernel
theorem dX0_setSecond_6 : decode cX0_setSecond 6 = .ok (.iload_n 2, 1) := by decide +kernel
theorem dX0_setSecond_7 : decode cX0_setSecond 7 = .ok (.putfield 21, 3) := by decide +kernel
theorem dX0_setSecond_10 : decode cX0_setSecond 10 = .ok (.return_, 1) := by decide +kernel
theorem dX0_setRest_0 : decode cX0_setRest 0 = .ok (.aload_n 0, 1) := by decide +kernel
theorem dX0_setRest_1 : decode cX0_setRest 1 = .ok (.iload_n 1, 1) := by decide +kernel
theorem dX0_setRest_2 : decode cX0_setRest 2 = .ok (.putfield 24, 3) := by decide +kernel
theorem dX0_setRest_5 : decode cX0_setRest 5 = .ok (.aload_n 0, 1) := by decide +kernel
theorem dX0_setRest_6 : decode cX0_setRest 6 = .ok (.iload_n 2, 1) := by decide +kernel
theorem dX0_setRest_7 : decode cX0_setRest 7 = .ok (.putfield 27, 3) := by decide +kernel
theorem dX0_setRest_10 : decode cX0_setRest 10 = .ok (.aload_n 0, 1) := by decide +kernel
theorem dX0_setRest_11 : decode cX0_setRest 11 = .ok (.iload_n 3, 1) := by decide +kernel
theorem dX0_setRest_12 : decode cX0_setRest 12 = .ok (.putfield 30, 3) := by decide +kernel
theorem dX0_setRest_15 : decode cX0_setRest 15 = .ok (.aload_n 0, 1) := by decide +kernel
theorem dX0_setRest_16 : decode cX0_setRest 16 = .ok (.iload 4, 2) := by decide +kernel
theorem dX0_setRest_18 : decode cX0_setRest 18 = .ok (.putfield 33, 3) := by decide +kernel
theorem dX0_setRest_21 : decode cX0_setRest 21 = .ok (.return_, 1) := by decide +kernel
theorem dX0_tells_0 : decode cX0_tells 0 = .ok (.aload_n 0, 1) := by decide +kernel
theorem dX0_tells_1 : decode cX0_tells 1 = .ok (.getfield 27, 3) := by decide +kernel
theorem dX0_tells_4 : decode cX0_tells 4 = .ok (.istore_n 3, 1) := by decide +kernel
theorem dX0_tells_5 : decode cX0_tells 5 = .ok (.aload_n 0, 1) := by decide +kernel
theorem dX0_tells_6 : decode cX0_tells 6 = .ok (.getfield 24, 3) := by decide +kernel
theorem dX0_tells_9 : decode cX0_tells 9 = .ok (.ifCond .le 23, 3) := by decide +kernel
theorem dX0_tells_12 : decode cX0_tells 12 = .ok (.iload_n 2, 1) := by decide +kernel
theorem dX0_tells_13 : decode cX0_tells 13 = .ok (.aload_n 0, 1) := by decide +kernel
theorem dX0_tells_14 : decode cX0_tells 14 = .ok (.getfield 9, 3) := by decide +kernel
theorem dX0_tells_17 : decode cX0_tells 17 = .ok (.ishr, 1) := by decide +kernel
theorem dX0_tells_18 : decode cX0_tells 18 = .ok (.iconst 1, 1) := by decide +kernel
theorem dX0_tells_19 : decode cX0_tells 19 = .ok (.iand, 1) := by decide +kernel
theorem dX0_tells_20 : decode cX0_tells 20 = .ok (.iconst 1, 1) := by decide +kernel
theorem dX0_tells_21 : decode cX0_tells 21 = .ok (.if_icmp .ne 11, 3) := by decide +kernel
theorem dX0_tells_24 : decode cX0_tells 24 = .ok (.aload_n 0, 1) := by decide +kernel
theorem dX0_tells_25 : decode cX0_tells 25 = .ok (.getfield 15, 3) := by decide +kernel
theorem dX0_tells_28 : decode cX0_tells 28 = .ok (.istore_n 3, 1) := by decide +kernel
theorem dX0_tells_29 : decode cX0_tells 29 = .ok (.goto 28, 3) := by decide +kernel
theorem dX0_tells_32 : decode cX0_tells 32 = .ok (.aload_n 0, 1) := by decide +kernel
theorem dX0_tells_33 : decode cX0_tells 33 = .ok (.getfield 24, 3) := by decide +kernel
theorem dX0_tells_36 : decode cX0_tells 36 = .ok (.iconst 1, 1) := by decide +kernel
theorem dX0_tells_37 : decode cX0_tells 37 = .ok (.if_icmp .le 20, 3) := by decide +kernel
theorem dX0_tells_40 : decode cX0_tells 40 = .ok (.iload_n 2, 1) := by decide +kernel
theorem dX0_tells_41 : decode cX0_tells 41 = .ok (.aload_n 0, 1) := by decide +kernel
theorem dX0_tells_42 : decode cX0_tells 42 = .ok (.getfield 18, 3) := by decide +kernel
theorem dX0_tells_45 : decode cX0_tells 45 = .ok (.ishr, 1) := by decide +kernel
theorem dX0_tells_46 : decode cX0_tells 46 = .ok (.iconst 1, 1) := by decide +kernel
theorem dX0_tells_47 : decode cX0_tells 47 = .ok (.iand, 1) := by decide +kernel
theorem dX0_tells_48 : decode cX0_tells 48 = .ok (.iconst 1, 1) := by decide +kernel
theorem dX0_tells_49 : decode cX0_tells 49 = .ok (.if_icmp .ne 8, 3) := by decide +kernel
theorem dX0_tells_52 : decode cX0_tells 52 = .ok (.aload_n 0, 1) := by decide +kernel
theorem dX0_tells_53 : decode cX0_tells 53 = .ok (.getfield 21, 3) := by decide +kernel
theorem dX0_tells_56 : decode cX0_tells 56 = .ok (.istore_n 3, 1) := by decide +kernel
theorem dX0_tells_57 : decode cX0_tells 57 = .ok (.iload_n 1, 1) := by decide +kernel
theorem dX0_tells_58 : decode cX0_tells 58 = .ok (.iload_n 3, 1) := by decide +kernel
theorem dX0_tells_59 : decode cX0_tells 59 = .ok (.invokestatic 36, 3) := by decide +kernel
theorem dX0_tells_62 : decode cX0_tells 62 = .ok (.ireturn, 1) := by decide +kernel
theorem dX0_tell_0 : decode cX0_tell 0 = .ok (.iload_n 1, 1) := by decide +kernel
theorem dX0_tell_1 : decode cX0_tell 1 = .ok (.tableswitch 78 0 6 #[43, 48, 53, 58, 63, 68, 73], 43) := by decide +kernel
theorem dX0_tell_44 : decode cX0_tell 44 = .ok (.aload_n 0, 1) := by decide +kernel
theorem dX0_tell_45 : decode cX0_tell 45 = .ok (.getfield 24, 3) := by decide +kernel
theorem dX0_tell_48 : decode cX0_tell 48 = .ok (.ireturn, 1) := by decide +kernel
theorem dX0_tell_49 : decode cX0_tell 49 = .ok (.aload_n 0, 1) := by decide +kernel
theorem dX0_tell_50 : decode cX0_tell 50 = .ok (.getfield 9, 3) := by decide +kernel
theorem dX0_tell_53 : decode cX0_tell 53 = .ok (.ireturn, 1) := by decide +kernel
theorem dX0_tell_54 : decode cX0_tell 54 = .ok (.aload_n 0, 1) := by decide +kernel
theorem dX0_tell_55 : decode cX0_tell 55 = .ok (.getfield 15, 3) := by decide +kernel
theorem dX0_tell_58 : decode cX0_tell 58 = .ok (.ireturn, 1) := by decide +kernel
theorem dX0_tell_59 : decode cX0_tell 59 = .ok (.aload_n 0, 1) := by decide +kernel
theorem dX0_tell_60 : decode cX0_tell 60 = .ok (.getfield 18, 3) := by decide +kernel
theorem dX0_tell_63 : decode cX0_tell 63 = .ok (.ireturn, 1) := by decide +kernel
theorem dX0_tell_64 : decode cX0_tell 64 = .ok (.aload_n 0, 1) := by decide +kernel
theorem dX0_tell_65 : decode cX0_tell 65 = .ok (.getfield 21, 3) := by decide +kernel
theorem dX0_tell_68 : decode cX0_tell 68 = .ok (.ireturn, 1) := by decide +kernel
theorem dX0_tell_69 : decode cX0_tell 69 = .ok (.aload_n 0, 1) := by decide +kernel
theorem dX0_tell_70 : decode cX0_tell 70 = .ok (.getfield 27, 3) := by decide +kernel
theorem dX0_tell_73 : decode cX0_tell 73 = .ok (.ireturn, 1) := by decide +kernel
theorem dX0_tell_74 : decode cX0_tell 74 = .ok (.aload_n 0, 1) := by decide +kernel
theorem dX0_tell_75 : decode cX0_tell 75 = .ok (.getfield 30, 3) := by decide +kernel
theorem dX0_tell_78 : decode cX0_tell 78 = .ok (.ireturn, 1) := by decide +kernel
theorem dX0_tell_79 : decode cX0_tell 79 = .ok (.aload_n 0, 1) := by decide +kernel
theorem dX0_tell_80 : decode cX0_tell 80 = .ok (.getfield 33, 3) := by decide +kernel
theorem dX0_tell_83 : decode cX0_tell 83 = .ok (.ireturn, 1) := by decide +kernel
theorem dX1_init_0 : decode cX1_init 0 = .ok (.aload_n 0, 1) := by decide +kernel
theorem dX1_init_1 : decode cX1_init 1 = .ok (.invokespecial 3, 3) := by decide +kernel
theorem dX1_init_4 : decode cX1_init 4 = .ok (.aload_n 0, 1) := by decide +kernel
theorem dX1_init_5 : decode cX1_init 5 = .ok (.bipush 32, 2) := by decide +kernel
theorem dX1_init_7 : decode cX1_init 7 = .ok (.newarray .byte, 2) := by decide +kernel
theorem dX1_init_9 : decode cX1_init 9 = .ok (.putfield 9, 3) := by decide +kernel
theorem dX1_init_12 : decode cX1_init 12 = .ok (.return_, 1) := by decide +kernel
theorem dX1_make_0 : decode cX1_make 0 = .ok (.aload_n 0, 1) := by decide +kernel
theorem dX1_make_1 : decode cX1_make 1 = .ok (.iconst 0, 1) := by decide +kernel
theorem dX1_make_2 : decode cX1_make 2 = .ok (.putfield 15, 3) := by decide +kernel
theorem dX1_make_5 : decode cX1_make 5 = .ok (.aload_n 0, 1) := by decide +kernel
theorem dX1_make_6 : decode cX1_make 6 = .ok (.iconst 0, 1) := by decide +kernel
theorem dX1_make_7 : decode cX1_make 7 = .ok (.putfield 19, 3) := by decide +kernel
theorem dX1_make_10 : decode cX1_make 10 = .ok (.iconst 1, 1) := by decide +kernel
theorem dX1_make_11 : decode cX1_make 11 = .ok (.istore 5, 2) := by decide +kernel
theorem dX1_make_13 : decode cX1_make 13 = .ok (.iconst 0, 1) := by decide +kernel
theorem dX1_make_14 : decode cX1_make 14 = .ok (.iload_n 2, 1) := by decide +kernel
theorem dX1_make_15 : decode cX1_make 15 = .ok (.invokestatic 22, 3) := by decide +kernel
theorem dX1_make_18 : decode cX1_make 18 = .ok (.istore 6, 2) := by decide +kernel
theorem dX1_make_20 : decode cX1_make 20 = .ok (.iload 6, 2) := by decide +kernel
theorem dX1_make_22 : decode cX1_make 22 = .ok (.iload_n 3, 1) := by decide +kernel
theorem dX1_make_23 : decode cX1_make 23 = .ok (.if_icmp .ge 68, 3) := by decide +kernel
theorem dX1_make_26 : decode cX1_make 26 = .ok (.iload 6, 2) := by decide +kernel
theorem dX1_make_28 : decode cX1_make 28 = .ok (.aload_n 1, 1) := by decide +kernel
theorem dX1_make_29 : decode cX1_make 29 = .ok (.arraylength, 1) := by decide +kernel
theorem dX1_make_30 : decode cX1_make 30 = .ok (.if_icmp .ge 61, 3) := by decide +kernel
theorem dX1_make_33 : decode cX1_make 33 = .ok (.aload_n 1, 1) := by decide +kernel
theorem dX1_make_34 : decode cX1_make 34 = .ok (.iload 6, 2) := by decide +kernel
theorem dX1_make_36 : decode cX1_make 36 = .ok (.baload, 1) := by decide +kernel
theorem dX1_make_37 : decode cX1_make 37 = .ok (.istore 7, 2) := by decide +kernel
theorem dX1_make_39 : decode cX1_make 39 = .ok (.iload 7, 2) := by decide +kernel
theorem dX1_make_41 : decode cX1_make 41 = .ok (.bipush 95, 2) := by decide +kernel
theorem dX1_make_43 : decode cX1_make 43 = .ok (.if_icmp .ne 9, 3) := by decide +kernel
theorem dX1_make_46 : decode cX1_make 46 = .ok (.iconst 1, 1) := by decide +kernel
theorem dX1_make_47 : decode cX1_make 47 = .ok (.istore 5, 2) := by decide +kernel
theorem dX1_make_49 : decode cX1_make 49 = .ok (.goto 36, 3) := by decide +kernel
theorem dX1_make_52 : decode cX1_make 52 = .ok (.iload 5, 2) := by decide +kernel
theorem dX1_make_54 : decode cX1_make 54 = .ok (.ifCond .ne 11, 3) := by decide +kernel
theorem dX1_make_57 : decode cX1_make 57 = .ok (.iload 7, 2) := by decide +kernel
theorem dX1_make_59 : decode cX1_make 59 = .ok (.invokestatic 28, 3) := by decide +kernel
theorem dX1_make_62 : decode cX1_make 62 = .ok (.ifCond .eq 17, 3) := by decide +kernel
theorem dX1_make_65 : decode cX1_make 65 = .ok (.aload_n 0, 1) := by decide +kernel
theorem dX1_make_66 : decode cX1_make 66 = .ok (.iload 7, 2) := by decide +kernel
theorem dX1_make_68 : decode cX1_make 68 = .ok (.iload 4, 2) := by decide +kernel
theorem dX1_make_70 : decode cX1_make 70 = .ok (.invokevirtual 32, 3) := by decide +kernel
theorem dX1_make_73 : decode cX1_make 73 = .ok (.iconst 0, 1) := by decide +kernel
theorem dX1_make_74 : decode cX1_make 74 = .ok (.istore 5, 2) := by decide +kernel
theorem dX1_make_76 : decode cX1_make 76 = .ok (.goto 9, 3) := by decide +kernel
theorem dX1_make_79 : decode cX1_make 79 = .ok (.aload_n 0, 1) := by decide +kernel
theorem dX1_make_80 : decode cX1_make 80 = .ok (.iload 7, 2) := by decide +kernel
theorem dX1_make_82 : decode cX1_make 82 = .ok (.invokevirtual 36, 3) := by decide +kernel
theorem dX1_make_85 : decode cX1_make 85 = .ok (.iinc 6 1, 3) := by decide +kernel
theorem dX1_make_88 : decode cX1_make 88 = .ok (.goto (-68), 3) := by decide +kernel
theorem dX1_make_91 : decode cX1_make 91 = .ok (.return_, 1) := by decide +kernel
theorem dX1_startPart_0 : decode cX1_startPart 0 = .ok (.aload_n 0, 1) := by decide +kernel
theorem dX1_startPart_1 : decode cX1_startPart 1 = .ok (.dup, 1) := by decide +kernel
theorem dX1_startPart_2 : decode cX1_startPart 2 = .ok (.getfield 19, 3) := by decide +kernel
theorem dX1_startPart_5 : decode cX1_startPart 5 = .ok (.iconst 1, 1) := by decide +kernel
theorem dX1_startPart_6 : decode cX1_startPart 6 = .ok (.iadd, 1) := by decide +kernel
theorem dX1_startPart_7 : decode cX1_startPart 7 = .ok (.putfield 19, 3) := by decide +kernel
theorem dX1_startPart_10 : decode cX1_startPart 10 = .ok (.iload_n 1, 1) := by decide +kernel
theorem dX1_startPart_11 : decode cX1_startPart 11 = .ok (.invokestatic 28, 3) := by decide +kernel
theorem dX1_startPart_14 : decode cX1_startPart 14 = .ok (.ifCond .eq 13, 3) := by decide +kernel
theorem dX1_startPart_17 : decode cX1_startPart 17 = .ok (.iload_n 1, 1) := by decide +kernel
theorem dX1_startPart_18 : decode cX1_startPart 18 = .ok (.bipush 65, 2) := by decide +kernel
theorem dX1_startPart_20 : decode cX1_startPart 20 = .ok (.isub, 1) := by decide +kernel
theorem dX1_startPart_21 : decode cX1_startPart 21 = .ok (.bipush 97, 2) := by decide +kernel
theorem dX1_startPart_23 : decode cX1_startPart 23 = .ok (.iadd, 1) := by decide +kernel
theorem dX1_startPart_24 : decode cX1_startPart 24 = .ok (.goto 4, 3) := by decide +kernel
theorem dX1_startPart_27 : decode cX1_startPart 27 = .ok (.iload_n 1, 1) := by decide +kernel
theorem dX1_startPart_28 : decode cX1_startPart 28 = .ok (.istore_n 3, 1) := by decide +kernel
theorem dX1_startPart_29 : decode cX1_startPart 29 = .ok (.aload_n 0, 1) := by decide +kernel
theorem dX1_startPart_30 : decode cX1_startPart 30 = .ok (.getfield 19, 3) := by decide +kernel
theorem dX1_startPart_33 : decode cX1_startPart 33 = .ok (.iconst 1, 1) := by decide +kernel
theorem dX1_startPart_34 : decode cX1_startPart 34 = .ok (.if_icmp .ne 11, 3) := by decide +kernel
theorem dX1_startPart_37 : decode cX1_startPart 37 = .ok (.aload_n 0, 1) := by decide +kernel
theorem dX1_startPart_38 : decode cX1_startPart 38 = .ok (.iload_n 3, 1) := by decide +kernel
theorem dX1_startPart_39 : decode cX1_startPart 39 = .ok (.invokevirtual 36, 3) := by decide +kernel
theorem dX1_startPart_42 : decode cX1_startPart 42 = .ok (.goto 43, 3) := by decide +kernel
theorem dX1_startPart_45 : decode cX1_startPart 45 = .ok (.iload_n 2, 1) := by decide +kernel
theorem dX1_startPart_46 : decode cX1_startPart 46 = .ok (.ifCond .ne 17, 3) := by decide +kernel
theorem dX1_startPart_49 : decode cX1_startPart 49 = .ok (.aload_n 0, 1) := by decide +kernel
theorem dX1_startPart_50 : decode cX1_startPart 50 = .ok (.bipush 95, 2) := by decide +kernel
theorem dX1_startPart_52 : decode cX1_startPart 52 = .ok (.invokevirtual 36, 3) := by decide +kernel
theorem dX1_startPart_55 : decode cX1_startPart 55 = .ok (.aload_n 0, 1) := by decide +kernel
theorem dX1_startPart_56 : decode cX1_startPart 56 = .ok (.iload_n 3, 1) := by decide +kernel
theorem dX1_startPart_57 : decode cX1_startPart 57 = .ok (.invokevirtual 36, 3) := by decide +kernel
theorem dX1_startPart_60 : decode cX1_startPart 60 = .ok (.goto 25, 3) := by decide +kernel
theorem dX1_startPart_63 : decode cX1_startPart 63 = .ok (.aload_n 0, 1) := by decide +kernel
theorem dX1_startPart_64 : decode cX1_startPart 64 = .ok (.iload_n 3, 1) := by decide +kernel
theorem dX1_startPart_65 : decode cX1_startPart 65 = .ok (.invokestatic 40, 3) := by decide +kernel
theorem dX1_startPart_68 : decode cX1_startPart 68 = .ok (.ifCond .eq 13, 3) := by decide +kernel
theorem dX1_startPart_71 : decode cX1_startPart 71 = .ok (.iload_n 3, 1) := by decide +kernel
theorem dX1_startPart_72 : decode cX1_startPart 72 = .ok (.bipush 97, 2) := by decide +kernel
theorem dX1_startPart_74 : decode cX1_startPart 74 = .ok (.isub, 1) := by decide +kernel
theorem dX1_startPart_75 : decode cX1_startPart 75 = .ok (.bipush 65, 2) := by decide +kernel
theorem dX1_startPart_77 : decode cX1_startPart 77 = .ok (.iadd, 1) := by decide +kernel
theorem dX1_startPart_78 : decode cX1_startPart 78 = .ok (.goto 4, 3) := by decide +kernel
theorem dX1_startPart_81 : decode cX1_startPart 81 = .ok (.iload_n 3, 1) := by decide +kernel
theorem dX1_startPart_82 : decode cX1_startPart 82 = .ok (.invokevirtual 36, 3) := by decide +kernel
theorem dX1_startPart_85 : decode cX1_startPart 85 = .ok (.return_, 1) := by decide +kernel
theorem dX1_put_0 : decode cX1_put 0 = .ok (.aload_n 0, 1) := by decide +kernel
theorem dX1_put_1 : decode cX1_put 1 = .ok (.getfield 15, 3) := by decide +kernel
theorem dX1_put_4 : decode cX1_put 4 = .ok (.aload_n 0, 1) := by decide +kernel
theorem dX1_put_5 : decode cX1_put 5 = .ok (.getfield 9, 3) := by decide +kernel
theorem dX1_put_8 : decode cX1_put 8 = .ok (.arraylength, 1) := by decide +kernel
theorem dX1_put_9 : decode cX1_put 9 = .ok (.if_icmp .ge 24, 3) := by decide +kernel
theorem dX1_put_12 : decode cX1_put 12 = .ok (.aload_n 0, 1) := by decide +kernel
theorem dX1_put_13 : decode cX1_put 13 = .ok (.getfield 9, 3) := by decide +kernel
theorem dX1_put_16 : decode cX1_put 16 = .ok (.aload_n 0, 1) := by decide +kernel
theorem dX1_put_17 : decode cX1_put 17 = .ok (.getfield 15, 3) := by decide +kernel
theorem dX1_put_20 : decode cX1_put 20 = .ok (.iload_n 1, 1) := by decide +kernel
theorem dX1_put_21 : decode cX1_put 21 = .ok (.i2b, 1) := by decide +kernel
theorem dX1_put_22 : decode cX1_put 22 = .ok (.bastore, 1) := by decide +kernel
theorem dX1_put_23 : decode cX1_put 23 = .ok (.aload_n 0, 1) := by decide +kernel
theorem dX1_put_24 : decode cX1_put 24 = .ok (.dup, 1) := by decide +kernel
theorem dX1_put_25 : decode cX1_put 25 = .ok (.getfield 15, 3) := by decide +kernel
theorem dX1_put_28 : decode cX1_put 28 = .ok (.iconst 1, 1) := by decide +kernel
theorem dX1_put_29 : decode cX1_put 29 = .ok (.iadd, 1) := by decide +kernel
theorem dX1_put_30 : decode cX1_put 30 = .ok (.putfield 15, 3) := by decide +kernel
theorem dX1_put_33 : decode cX1_put 33 = .ok (.return_, 1) := by decide +kernel
theorem dX2_init_0 : decode cX2_init 0 = .ok (.aload_n 0, 1) := by decide +kernel
theorem dX2_init_1 : decode cX2_init 1 = .ok (.invokespecial 3, 3) := by decide +kernel
theorem dX2_init_4 : decode cX2_init 4 = .ok (.aload_n 0, 1) := by decide +kernel
theorem dX2_init_5 : decode cX2_init 5 = .ok (.sipush 2000, 3) := by decide +kernel
theorem dX2_init_8 : decode cX2_init 8 = .ok (.newarray .byte, 2) := by decide +kernel
theorem dX2_init_10 : decode cX2_init 10 = .ok (.putfield 9, 3) := by decide +kernel
theorem dX2_init_13 : decode cX2_init 13 = .ok (.return_, 1) := by decide +kernel
theorem dX2_clear_0 : decode cX2_clear 0 = .ok (.aload_n 0, 1) := by decide +kernel
theorem dX2_clear_1 : decode cX2_clear 1 = .ok (.iconst 0, 1) := by decide +kernel
theorem dX2_clear_2 : decode cX2_clear 2 = .ok (.putfield 15, 3) := by decide +kernel
theorem dX2_clear_5 : decode cX2_clear 5 = .ok (.aload_n 0, 1) := by decide +kernel
theorem dX2_clear_6 : decode cX2_clear 6 = .ok (.iconst 0, 1) := by decide +kernel
theorem dX2_clear_7 : decode cX2_clear 7 = .ok (.putfield 19, 3) := by decide +kernel
theorem dX2_clear_10 : decode cX2_clear 10 = .ok (.return_, 1) := by decide +kernel
theorem dX2_put_0 : decode cX2_put 0 = .ok (.aload_n 0, 1) := by decide +kernel
theorem dX2_put_1 : decode cX2_put 1 = .ok (.getfield 15, 3) := by decide +kernel
theorem dX2_put_4 : decode cX2_put 4 = .ok (.aload_n 0, 1) := by decide +kernel
theorem dX2_put_5 : decode cX2_put 5 = .ok (.getfield 9, 3) := by decide +kernel
theorem dX2_put_8 : decode cX2_put 8 = .ok (.arraylength, 1) := by decide +kernel
theorem dX2_put_9 : decode cX2_put 9 = .ok (.if_icmp .ge 27, 3) := by decide +kernel
theorem dX2_put_12 : decode cX2_put 12 = .ok (.aload_n 0, 1) := by decide +kernel
theorem dX2_put_13 : decode cX2_put 13 = .ok (.getfield 9, 3) := by decide +kernel
theorem dX2_put_16 : decode cX2_put 16 = .ok (.aload_n 0, 1) := by decide +kernel
theorem dX2_put_17 : decode cX2_put 17 = .ok (.getfield 15, 3) := by decide +kernel
theorem dX2_put_20 : decode cX2_put 20 = .ok (.iload_n 1, 1) := by decide +kernel
theorem dX2_put_21 : decode cX2_put 21 = .ok (.i2b, 1) := by decide +kernel
theorem dX2_put_22 : decode cX2_put 22 = .ok (.bastore, 1) := by decide +kernel
theorem dX2_put_23 : decode cX2_put 23 = .ok (.aload_n 0, 1) := by decide +kernel
theorem dX2_put_24 : decode cX2_put 24 = .ok (.dup, 1) := by decide +kernel
theorem dX2_put_25 : decode cX2_put 25 = .ok (.getfield 15, 3) := by decide +kernel
theorem dX2_put_28 : decode cX2_put 28 = .ok (.iconst 1, 1) := by decide +kernel
theorem dX2_put_29 : decode cX2_put 29 = .ok (.iadd, 1) := by decide +kernel
theorem dX2_put_30 : decode cX2_put 30 = .ok (.putfield 15, 3) := by decide +kernel
theorem dX2_put_33 : decode cX2_put 33 = .ok (.goto 8, 3) := by decide +kernel
theorem dX2_put_36 : decode cX2_put 36 = .ok (.aload_n 0, 1) := by decide +kernel
theorem dX2_put_37 : decode cX2_put 37 = .ok (.iconst 1, 1) := by decide +kernel
theorem dX2_put_38 : decode cX2_put 38 = .ok (.putfield 19, 3) := by decide +kernel
theorem dX2_put_41 : decode cX2_put 41 = .ok (.return_, 1) := by decide +kernel
theorem dX2_putAll_0 : decode cX2_putAll 0 = .ok (.iconst 0, 1) := by decide +kernel
theorem dX2_putAll_1 : decode cX2_putAll 1 = .ok (.iload_n 2, 1) := by decide +kernel
theorem dX2_putAll_2 : decode cX2_putAll 2 = .ok (.invokestatic 23, 3) := by decide +kernel
theorem dX2_putAll_5 : decode cX2_putAll 5 = .ok (.istore 4, 2) := by decide +kernel
theorem dX2_putAll_7 : decode cX2_putAll 7 = .ok (.iload 4, 2) := by decide +kernel
theorem dX2_putAll_9 : decode cX2_putAll 9 = .ok (.iload_n 3, 1) := by decide +kernel
theorem dX2_putAll_10 : decode cX2_putAll 10 = .ok (.if_icmp .ge 24, 3) := by decide +kernel
theorem dX2_putAll_13 : decode cX2_putAll 13 = .ok (.iload 4, 2) := by decide +kernel
theorem dX2_putAll_15 : decode cX2_putAll 15 = .ok (.aload_n 1, 1) := by decide +kernel
theorem dX2_putAll_16 : decode cX2_putAll 16 = .ok (.arraylength, 1) := by decide +kernel
theorem dX2_putAll_17 : decode cX2_putAll 17 = .ok (.if_icmp .ge 17, 3) := by decide +kernel
theorem dX2_putAll_20 : decode cX2_putAll 20 = .ok (.aload_n 0, 1) := by decide +kernel
theorem dX2_putAll_21 : decode cX2_putAll 21 = .ok (.aload_n 1, 1) := by decide +kernel
theorem dX2_putAll_22 : decode cX2_putAll 22 = .ok (.iload 4, 2) := by decide +kernel
theorem dX2_putAll_24 : decode cX2_putAll 24 = .ok (.baload, 1) := by decide +kernel
theorem dX2_putAll_25 : decode cX2_putAll 25 = .ok (.invokevirtual 29, 3) := by decide +kernel
theorem dX2_putAll_28 : decode cX2_putAll 28 = .ok (.iinc 4 1, 3) := by decide +kernel
theorem dX2_putAll_31 : decode cX2_putAll 31 = .ok (.goto (-24), 3) := by decide +kernel
theorem dX2_putAll_34 : decode cX2_putAll 34 = .ok (.return_, 1) := by decide +kernel
theorem dX2_putGap_0 : decode cX2_putGap 0 = .ok (.iload_n 1, 1) := by decide +kernel
theorem dX2_putGap_1 : decode cX2_putGap 1 = .ok (.iconst 1, 1) := by decide +kernel
theorem dX2_putGap_2 : decode cX2_putGap 2 = .ok (.if_icmp .ne 12, 3) := by decide +kernel
theorem dX2_putGap_5 : decode cX2_putGap 5 = .ok (.aload_n 0, 1) := by decide +kernel
theorem dX2_putGap_6 : decode cX2_putGap 6 = .ok (.bipush 32, 2) := by decide +kernel
theorem dX2_putGap_8 : decode cX2_putGap 8 = .ok (.invokevirtual 29, 3) := by decide +kernel
theorem dX2_putGap_11 : decode cX2_putGap 11 = .ok (.goto 35, 3) := by decide +kernel
theorem dX2_putGap_14 : decode cX2_putGap 14 = .ok (.iload_n 1, 1) := by decide +kernel
theorem dX2_putGap_15 : decode cX2_putGap 15 = .ok (.iconst 2, 1) := by decide +kernel
theorem dX2_putGap_16 : decode cX2_putGap 16 = .ok (.if_icmp .ne 30, 3) := by decide +kernel
theorem dX2_putGap_19 : decode cX2_putGap 19 = .ok (.aload_n 0, 1) := by decide +kernel
theorem dX2_putGap_20 : decode cX2_putGap 20 = .ok (.bipush 10, 2) := by decide +kernel
theorem dX2_putGap_22 : decode cX2_putGap 22 = .ok (.invokevirtual 29, 3) := by decide +kernel
theorem dX2_putGap_25 : decode cX2_putGap 25 = .ok (.iconst 0, 1) := by decide +kernel
theorem dX2_putGap_26 : decode cX2_putGap 26 = .ok (.istore_n 3, 1) := by decide +kernel
theorem dX2_putGap_27 : decode cX2_putGap 27 = .ok (.iload_n 3, 1) := by decide +kernel
theorem dX2_putGap_28 : decode cX2_putGap 28 = .ok (.iconst 2, 1) := by decide +kernel
theorem dX2_putGap_29 : decode cX2_putGap 29 = .ok (.iload_n 2, 1) := by decide +kernel
theorem dX2_putGap_30 : decode cX2_putGap 30 = .ok (.imul, 1) := by decide +kernel
theorem dX2_putGap_31 : decode cX2_putGap 31 = .ok (.if_icmp .ge 15, 3) := by decide +kernel
theorem dX2_putGap_34 : decode cX2_putGap 34 = .ok (.aload_n 0, 1) := by decide +kernel
theorem dX2_putGap_35 : decode cX2_putGap 35 = .ok (.bipush 32, 2) := by decide +kernel
theorem dX2_putGap_37 : decode cX2_putGap 37 = .ok (.invokevirtual 29, 3) := by decide +kernel
theorem dX2_putGap_40 : decode cX2_putGap 40 = .ok (.iinc 3 1, 3) := by decide +kernel
theorem dX2_putGap_43 : decode cX2_putGap 43 = .ok (.goto (-16), 3) := by decide +kernel
theorem dX2_putGap_46 : decode cX2_putGap 46 = .ok (.return_, 1) := by decide +kernel
theorem dX3_init_0 : decode cX3_init 0 = .ok (.aload_n 0, 1) := by decide +kernel
theorem dX3_init_1 : decode cX3_init 1 = .ok (.invokespecial 3, 3) := by decide +kernel
theorem dX3_init_4 : decode cX3_init 4 = .ok (.aload_n 0, 1) := by decide +kernel
theorem dX3_init_5 : decode cX3_init 5 = .ok (.bipush 6, 2) := by decide +kernel
theorem dX3_init_7 : decode cX3_init 7 = .ok (.newarray .int, 2) := by decide +kernel
theorem dX3_init_9 : decode cX3_init 9 = .ok (.putfield 9, 3) := by decide +kernel
theorem dX3_init_12 : decode cX3_init 12 = .ok (.aload_n 0, 1) := by decide +kernel
theorem dX3_init_13 : decode cX3_init 13 = .ok (.iconst (-1), 1) := by decide +kernel
theorem dX3_init_14 : decode cX3_init 14 = .ok (.putfield 15, 3) := by decide +kernel
theorem dX3_init_17 : decode cX3_init 17 = .ok (.return_, 1) := by decide +kernel
theorem dX3_read_0 : decode cX3_read 0 = .ok (.aload_n 0, 1) := by decide +kernel
theorem dX3_read_1 : decode cX3_read 1 = .ok (.iconst 0, 1) := by decide +kernel
theorem dX3_read_2 : decode cX3_read 2 = .ok (.putfield 19, 3) := by decide +kernel
theorem dX3_read_5 : decode cX3_read 5 = .ok (.aload_n 0, 1) := by decide +kernel
theorem dX3_read_6 : decode cX3_read 6 = .ok (.iconst 0, 1) := by decide +kernel
theorem dX3_read_7 : decode cX3_read 7 = .ok (.putfield 22, 3) := by decide +kernel
theorem dX3_read_10 : decode cX3_read 10 = .ok (.aload_n 0, 1) := by decide +kernel
theorem dX3_read_11 : decode cX3_read 11 = .ok (.iconst 0, 1) := by decide +kernel
theorem dX3_read_12 : decode cX3_read 12 = .ok (.putfield 25, 3) := by decide +kernel
theorem dX3_read_15 : decode cX3_read 15 = .ok (.aload_n 0, 1) := by decide +kernel
theorem dX3_read_16 : decode cX3_read 16 = .ok (.iconst 0, 1) := by decide +kernel
theorem dX3_read_17 : decode cX3_read 17 = .ok (.putfield 29, 3) := by decide +kernel
theorem dX3_read_20 : decode cX3_read 20 = .ok (.aload_n 0, 1) := by decide +kernel
theorem dX3_read_21 : decode cX3_read 21 = .ok (.iconst 0, 1) := by decide +kernel
theorem dX3_read_22 : decode cX3_read 22 = .ok (.putfield 32, 3) := by decide +kernel
theorem dX3_read_25 : decode cX3_read 25 = .ok (.aload_n 0, 1) := by decide +kernel
theorem dX3_read_26 : decode cX3_read 26 = .ok (.iconst 0, 1) := by decide +kernel
theorem dX3_read_27 : decode cX3_read 27 = .ok (.putfield 35, 3) := by decide +kernel
theorem dX3_read_30 : decode cX3_read 30 = .ok (.aload_n 0, 1) := by decide +kernel
theorem dX3_read_31 : decode cX3_read 31 = .ok (.iconst (-1), 1) := by decide +kernel
theorem dX3_read_32 : decode cX3_read 32 = .ok (.putfield 15, 3) := by decide +kernel
theorem dX3_read_35 : decode cX3_read 35 = .ok (.aload_n 0, 1) := by decide +kernel
theorem dX3_read_36 : decode cX3_read 36 = .ok (.iconst 0, 1) := by decide +kernel
theorem dX3_read_37 : decode cX3_read 37 = .ok (.putfield 38, 3) := by decide +kernel
theorem dX3_read_40 : decode cX3_read 40 = .ok (.iconst 0, 1) := by decide +kernel
theorem dX3_read_41 : decode cX3_read 41 = .ok (.istore_n 2, 1) := by decide +kernel
theorem dX3_read_42 : decode cX3_read 42 = .ok (.iload_n 2, 1) := by decide +kernel
theorem dX3_read_43 : decode cX3_read 43 = .ok (.sipush 200, 3) := by decide +kernel
theorem dX3_read_46 : decode cX3_read 46 = .ok (.if_icmp .gt 129, 3) := by decide +kernel
theorem dX3_read_49 : decode cX3_read 49 = .ok (.aload_n 0, 1) := by decide +kernel
theorem dX3_read_50 : decode cX3_read 50 = .ok (.aload_n 1, 1) := by decide +kernel
theorem dX3_read_51 : decode cX3_read 51 = .ok (.invokevirtual 41, 3) := by decide +kernel
theorem dX3_read_54 : decode cX3_read 54 = .ok (.aload_n 0, 1) := by decide +kernel
theorem dX3_read_55 : decode cX3_read 55 = .ok (.getfield 45, 3) := by decide +kernel
theorem dX3_read_58 : decode cX3_read 58 = .ok (.bipush 8, 2) := by decide +kernel
theorem dX3_read_60 : decode cX3_read 60 = .ok (.if_icmp .ne 32, 3) := by decide +kernel
theorem dX3_read_63 : decode cX3_read 63 = .ok (.aload_n 1, 1) := by decide +kernel
theorem dX3_read_64 : decode cX3_read 64 = .ok (.aload_n 0, 1) := by decide +kernel
theorem dX3_read_65 : decode cX3_read 65 = .ok (.getfield 35, 3) := by decide +kernel
theorem dX3_read_68 : decode cX3_read 68 = .ok (.putfield 48, 3) := by decide +kernel
theorem dX3_read_71 : decode cX3_read 71 = .ok (.aload_n 0, 1) := by decide +kernel
theorem dX3_read_72 : decode cX3_read 72 = .ok (.invokevirtual 51, 3) := by decide +kernel
theorem dX3_read_75 : decode cX3_read 75 = .ok (.ifCond .eq 7, 3) := by decide +kernel
theorem dX3_read_78 : decode cX3_read 78 = .ok (.iconst 0, 1) := by decide +kernel
theorem dX3_read_79 : decode cX3_read 79 = .ok (.goto 12, 3) := by decide +kernel
theorem dX3_read_82 : decode cX3_read 82 = .ok (.aload_n 0, 1) := by decide +kernel
theorem dX3_read_83 : decode cX3_read 83 = .ok (.iconst 1, 1) := by decide +kernel
theorem dX3_read_84 : decode cX3_read 84 = .ok (.aload_n 0, 1) := by decide +kernel
theorem dX3_read_85 : decode cX3_read 85 = .ok (.getfield 55, 3) := by decide +kernel
theorem dX3_read_88 : decode cX3_read 88 = .ok (.invokevirtual 58, 3) := by decide +kernel
theorem dX3_read_91 : decode cX3_read 91 = .ok (.ireturn, 1) := by decide +kernel
theorem dX3_read_92 : decode cX3_read 92 = .ok (.aload_n 0, 1) := by decide +kernel
theorem dX3_read_93 : decode cX3_read 93 = .ok (.invokevirtual 62, 3) := by decide +kernel
theorem dX3_read_96 : decode cX3_read 96 = .ok (.ifCond .ne 13, 3) := by decide +kernel
theorem dX3_read_99 : decode cX3_read 99 = .ok (.aload_n 0, 1) := by decide +kernel
theorem dX3_read_100 : decode cX3_read 100 = .ok (.iconst 1, 1) := by decide +kernel
theorem dX3_read_101 : decode cX3_read 101 = .ok (.aload_n 0, 1) := by decide +kernel
theorem dX3_read_102 : decode cX3_read 102 = .ok (.getfield 55, 3) := by decide +kernel
theorem dX3_read_105 : decode cX3_read 105 = .ok (.invokevirtual 58, 3) := by decide +kernel
theorem dX3_read_108 : decode cX3_read 108 = .ok (.ireturn, 1) := by decide +kernel
theorem dX3_read_109 : decode cX3_read 109 = .ok (.aload_n 0, 1) := by decide +kernel
theorem dX3_read_110 : decode cX3_read 110 = .ok (.aload_n 1, 1) := by decide +kernel
theorem dX3_read_111 : decode cX3_read 111 = .ok (.invokevirtual 65, 3) := by decide +kernel
theorem dX3_read_114 : decode cX3_read 114 = .ok (.ifCond .eq 13, 3) := by decide +kernel
theorem dX3_read_117 : decode cX3_read 117 = .ok (.aload_n 0, 1) := by decide +kernel
theorem dX3_read_118 : decode cX3_read 118 = .ok (.iconst 2, 1) := by decide +kernel
theorem dX3_read_119 : decode cX3_read 119 = .ok (.aload_n 0, 1) := by decide +kernel
theorem dX3_read_120 : decode cX3_read 120 = .ok (.getfield 55, 3) := by decide +kernel
theorem dX3_read_123 : decode cX3_read 123 = .ok (.invokevirtual 58, 3) := by decide +kernel
theorem dX3_read_126 : decode cX3_read 126 = .ok (.ireturn, 1) := by decide +kernel
theorem dX3_read_127 : decode cX3_read 127 = .ok (.aload_n 1, 1) := by decide +kernel
theorem dX3_read_128 : decode cX3_read 128 = .ok (.aload_n 0, 1) := by decide +kernel
theorem dX3_read_129 : decode cX3_read 129 = .ok (.getfield 55, 3) := by decide +kernel
theorem dX3_read_132 : decode cX3_read 132 = .ok (.aload_n 0, 1) := by decide +kernel
theorem dX3_read_133 : decode cX3_read 133 = .ok (.getfield 38, 3) := by decide +kernel
theorem dX3_read_136 : decode cX3_read 136 = .ok (.aload_n 0, 1) := by decide +kernel
theorem dX3_read_137 : decode cX3_read 137 = .ok (.getfield 45, 3) := by decide +kernel
theorem dX3_read_140 : decode cX3_read 140 = .ok (.aload_n 0, 1) := by decide +kernel
theorem dX3_read_141 : decode cX3_read 141 = .ok (.getfield 45, 3) := by decide +kernel
theorem dX3_read_144 : decode cX3_read 144 = .ok (.bipush 123, 2) := by decide +kernel
theorem dX3_read_146 : decode cX3_read 146 = .ok (.if_icmp .ne 12, 3) := by decide +kernel
theorem dX3_read_149 : decode cX3_read 149 = .ok (.aload_n 0, 1) := by decide +kernel
theorem dX3_read_150 : decode cX3_read 150 = .ok (.getfield 22, 3) := by decide +kernel
theorem dX3_read_153 : decode cX3_read 153 = .ok (.iconst 1, 1) := by decide +kernel
theorem dX3_read_154 : decode cX3_read 154 = .ok (.isub, 1) := by decide +kernel
theorem dX3_read_155 : decode cX3_read 155 = .ok (.goto 7, 3) := by decide +kernel
theorem dX3_read_158 : decode cX3_read 158 = .ok (.aload_n 0, 1) := by decide +kernel
theorem dX3_read_159 : decode cX3_read 159 = .ok (.getfield 22, 3) := by decide +kernel
theorem dX3_read_162 : decode cX3_read 162 = .ok (.aload_n 0, 1) := by decide +kernel
theorem dX3_read_163 : decode cX3_read 163 = .ok (.getfield 32, 3) := by decide +kernel
theorem dX3_read_166 : decode cX3_read 166 = .ok (.invokevirtual 69, 3) := by decide +kernel
theorem dX3_read_169 : decode cX3_read 169 = .ok (.iinc 2 1, 3) := by decide +kernel
theorem dX3_read_172 : decode cX3_read 172 = .ok (.goto (-130), 3) := by decide +kernel
theorem dX3_read_175 : decode cX3_read 175 = .ok (.aload_n 0, 1) := by decide +kernel
theorem dX3_read_176 : decode cX3_read 176 = .ok (.iconst 2, 1) := by decide +kernel
theorem dX3_read_177 : decode cX3_read 177 = .ok (.aload_n 0, 1) := by decide +kernel
theorem dX3_read_178 : decode cX3_read 178 = .ok (.getfield 55, 3) := by decide +kernel
theorem dX3_read_181 : decode cX3_read 181 = .ok (.invokevirtual 58, 3) := by decide +kernel
theorem dX3_read_184 : decode cX3_read 184 = .ok (.ireturn, 1) := by decide +kernel
theorem dX3_faultAt_0 : decode cX3_faultAt 0 = .ok (.aload_n 0, 1) := by decide +kernel
theorem dX3_faultAt_1 : decode cX3_faultAt 1 = .ok (.iload_n 2, 1) := by decide +kernel
theorem dX3_faultAt_2 : decode cX3_faultAt 2 = .ok (.putfield 15, 3) := by decide +kernel
theorem dX3_faultAt_5 : decode cX3_faultAt 5 = .ok (.iload_n 1, 1) := by decide +kernel
theorem dX3_faultAt_6 : decode cX3_faultAt 6 = .ok (.ireturn, 1) := by decide +kernel
theorem dX3_mayEnd_0 : decode cX3_mayEnd 0 = .ok (.aload_n 0, 1) := by decide +kernel
theorem dX3_mayEnd_1 : decode cX3_mayEnd 1 = .ok (.getfield 19, 3) := by decide +kernel
theorem dX3_mayEnd_4 : decode cX3_mayEnd 4 = .ok (.ifCond .ne 22, 3) := by decide +kernel
theorem dX3_mayEnd_7 : decode cX3_mayEnd 7 = .ok (.aload_n 0, 1) := by decide +kernel
theorem dX3_mayEnd_8 : decode cX3_mayEnd 8 = .ok (.getfield 29, 3) := by decide +kernel
theorem dX3_mayEnd_11 : decode cX3_mayEnd 11 = .ok (.ifCond .eq 11, 3) := by decide +kernel
theorem dX3_mayEnd_14 : decode cX3_mayEnd 14 = .ok (.aload_n 0, 1) := by decide +kernel
theorem dX3_mayEnd_15 : decode cX3_mayEnd 15 = .ok (.getfield 29, 3) := by decide +kernel
theorem dX3_mayEnd_18 : decode cX3_mayEnd 18 = .ok (.iconst 1, 1) := by decide +kernel
theorem dX3_mayEnd_19 : decode cX3_mayEnd 19 = .ok (.if_icmp .ne 7, 3) := by decide +kernel
theorem dX3_mayEnd_22 : decode cX3_mayEnd 22 = .ok (.iconst 1, 1) := by decide +kernel
theorem dX3_mayEnd_23 : decode cX3_mayEnd 23 = .ok (.goto 4, 3) := by decide +kernel
theorem dX3_mayEnd_26 : decode cX3_mayEnd 26 = .ok (.iconst 0, 1) := by decide +kernel
theorem dX3_mayEnd_27 : decode cX3_mayEnd 27 = .ok (.ireturn, 1) := by decide +kernel
theorem dX3_isTooMuch_0 : decode cX3_isTooMuch 0 = .ok (.aload_n 0, 1) := by decide +kernel
theorem dX3_isTooMuch_1 : decode cX3_isTooMuch 1 = .ok (.getfield 38, 3) := by decide +kernel
theorem dX3_isTooMuch_4 : decode cX3_isTooMuch 4 = .ok (.aload_n 0, 1) := by decide +kernel
theorem dX3_isTooMuch_5 : decode cX3_isTooMuch 5 = .ok (.getfield 55, 3) := by decide +kernel
theorem dX3_isTooMuch_8 : decode cX3_isTooMuch 8 = .ok (.isub, 1) := by decide +kernel
theorem dX3_isTooMuch_9 : decode cX3_isTooMuch 9 = .ok (.istore_n 2, 1) := by decide +kernel
theorem dX3_isTooMuch_10 : decode cX3_isTooMuch 10 = .ok (.aload_n 1, 1) := by decide +kernel
theorem dX3_isTooMuch_11 : decode cX3_isTooMuch 11 = .ok (.invokevirtual 73, 3) := by decide +kernel
theorem dX3_isTooMuch_14 : decode cX3_isTooMuch 14 = .ok (.ifCond .ne 38, 3) := by decide +kernel
theorem dX3_isTooMuch_17 : decode cX3_isTooMuch 17 = .ok (.aload_n 0, 1) := by decide +kernel
theorem dX3_isTooMuch_18 : decode cX3_isTooMuch 18 = .ok (.getfield 25, 3) := by decide +kernel
theorem dX3_isTooMuch_21 : decode cX3_isTooMuch 21 = .ok (.ifCond .ne 31, 3) := by decide +kernel
theorem dX3_isTooMuch_24 : decode cX3_isTooMuch 24 = .ok (.aload_n 0, 1) := by decide +kernel
theorem dX3_isTooMuch_25 : decode cX3_isTooMuch 25 = .ok (.getfield 45, 3) := by decide +kernel
theorem dX3_isTooMuch_28 : decode cX3_isTooMuch 28 = .ok (.iconst 1, 1) := by decide +kernel
theorem dX3_isTooMuch_29 : decode cX3_isTooMuch 29 = .ok (.if_icmp .ne 9, 3) := by decide +kernel
theorem dX3_isTooMuch_32 : decode cX3_isTooMuch 32 = .ok (.iload_n 2, 1) := by decide +kernel
theorem dX3_isTooMuch_33 : decode cX3_isTooMuch 33 = .ok (.bipush 16, 2) := by decide +kernel
theorem dX3_isTooMuch_35 : decode cX3_isTooMuch 35 = .ok (.if_icmp .gt 17, 3) := by decide +kernel
theorem dX3_isTooMuch_38 : decode cX3_isTooMuch 38 = .ok (.aload_n 0, 1) := by decide +kernel
theorem dX3_isTooMuch_39 : decode cX3_isTooMuch 39 = .ok (.getfield 45, 3) := by decide +kernel
theorem dX3_isTooMuch_42 : decode cX3_isTooMuch 42 = .ok (.iconst 2, 1) := by decide +kernel
theorem dX3_isTooMuch_43 : decode cX3_isTooMuch 43 = .ok (.if_icmp .ne 13, 3) := by decide +kernel
theorem dX3_isTooMuch_46 : decode cX3_isTooMuch 46 = .ok (.iload_n 2, 1) := by decide +kernel
theorem dX3_isTooMuch_47 : decode cX3_isTooMuch 47 = .ok (.bipush 6, 2) := by decide +kernel
theorem dX3_isTooMuch_49 : decode cX3_isTooMuch 49 = .ok (.if_icmp .le 7, 3) := by decide +kernel
theorem dX3_isTooMuch_52 : decode cX3_isTooMuch 52 = .ok (.iconst 1, 1) := by decide +kernel
theorem dX3_isTooMuch_53 : decode cX3_isTooMuch 53 = .ok (.goto 4, 3) := by decide +kernel
theorem dX3_isTooMuch_56 : decode cX3_isTooMuch 56 = .ok (.iconst 0, 1) := by decide +kernel
theorem dX3_isTooMuch_57 : decode cX3_isTooMuch 57 = .ok (.ireturn, 1) := by decide +kernel
theorem dX3_scan_0 : decode cX3_scan 0 = .ok (.aload_n 0, 1) := by decide +kernel
theorem dX3_scan_1 : decode cX3_scan 1 = .ok (.aload_n 0, 1) := by decide +kernel
theorem dX3_scan_2 : decode cX3_scan 2 = .ok (.getfield 38, 3) := by decide +kernel
theorem dX3_scan_5 : decode cX3_scan 5 = .ok (.putfield 55, 3) := by decide +kernel
theorem dX3_scan_8 : decode cX3_scan 8 = .ok (.aload_n 0, 1) := by decide +kernel
theorem dX3_scan_9 : decode cX3_scan 9 = .ok (.getfield 55, 3) := by decide +kernel
theorem dX3_scan_12 : decode cX3_scan 12 = .ok (.aload_n 1, 1) := by decide +kernel
theorem dX3_scan_13 : decode cX3_scan 13 = .ok (.getfield 76, 3) := by decide +kernel
theorem dX3_scan_16 : decode cX3_scan 16 = .ok (.if_icmp .ge 30, 3) := by decide +kernel
theorem dX3_scan_19 : decode cX3_scan 19 = .ok (.aload_n 1, 1) := by decide +kernel
theorem dX3_scan_20 : decode cX3_scan 20 = .ok (.aload_n 0, 1) := by decide +kernel
theorem dX3_scan_21 : decode cX3_scan 21 = .ok (.getfield 55, 3) := by decide +kernel
theorem dX3_scan_24 : decode cX3_scan 24 = .ok (.invokevirtual 79, 3) := by decide +kernel
theorem dX3_scan_27 : decode cX3_scan 27 = .ok (.invokestatic 83, 3) := by decide +kernel
theorem dX3_scan_30 : decode cX3_scan 30 = .ok (.ifCond .eq 16, 3) := by decide +kernel
theorem dX3_scan_33 : decode cX3_scan 33 = .ok (.aload_n 0, 1) := by decide +kernel
theorem dX3_scan_34 : decode cX3_scan 34 = .ok (.dup, 1) := by decide +kernel
theorem dX3_scan_35 : decode cX3_scan 35 = .ok (.getfield 55, 3) := by decide +kernel
theorem dX3_scan_38 : decode cX3_scan 38 = .ok (.iconst 1, 1) := by decide +kernel
theorem dX3_scan_39 : decode cX3_scan 39 = .ok (.iadd, 1) := by decide +kernel
theorem dX3_scan_40 : decode cX3_scan 40 = .ok (.putfield 55, 3) := by decide +kernel
theorem dX3_scan_43 : decode cX3_scan 43 = .ok (.goto (-35), 3) := by decide +kernel
theorem dX3_scan_46 : decode cX3_scan 46 = .ok (.aload_n 0, 1) := by decide +kernel
theorem dX3_scan_47 : decode cX3_scan 47 = .ok (.aload_n 0, 1) := by decide +kernel
theorem dX3_scan_48 : decode cX3_scan 48 = .ok (.getfield 55, 3) := by decide +kernel
theorem dX3_scan_51 : decode cX3_scan 51 = .ok (.putfield 38, 3) := by decide +kernel
theorem dX3_scan_54 : decode cX3_scan 54 = .ok (.aload_n 0, 1) := by decide +kernel
theorem dX3_scan_55 : decode cX3_scan 55 = .ok (.getfield 55, 3) := by decide +kernel
theorem dX3_scan_58 : decode cX3_scan 58 = .ok (.aload_n 1, 1) := by decide +kernel
theorem dX3_scan_59 : decode cX3_scan 59 = .ok (.getfield 76, 3) := by decide +kernel
theorem dX3_scan_62 : decode cX3_scan 62 = .ok (.if_icmp .lt 10, 3) := by decide +kernel
theorem dX3_scan_65 : decode cX3_scan 65 = .ok (.aload_n 0, 1) := by decide +kernel
theorem dX3_scan_66 : decode cX3_scan 66 = .ok (.bipush 8, 2) := by decide +kernel
theorem dX3_scan_68 : decode cX3_scan 68 = .ok (.putfield 45, 3) := by decide +kernel
theorem dX3_scan_71 : decode cX3_scan 71 = .ok (.return_, 1) := by decide +kernel
theorem dX3_scan_72 : decode cX3_scan 72 = .ok (.aload_n 1, 1) := by decide +kernel
theorem dX3_scan_73 : decode cX3_scan 73 = .ok (.aload_n 0, 1) := by decide +kernel
theorem dX3_scan_74 : decode cX3_scan 74 = .ok (.getfield 55, 3) := by decide +kernel
theorem dX3_scan_77 : decode cX3_scan 77 = .ok (.invokevirtual 79, 3) := by decide +kernel
theorem dX3_scan_80 : decode cX3_scan 80 = .ok (.istore_n 2, 1) := by decide +kernel
theorem dX3_scan_81 : decode cX3_scan 81 = .ok (.iload_n 2, 1) := by decide +kernel
theorem dX3_scan_82 : decode cX3_scan 82 = .ok (.invokestatic 87, 3) := by decide +kernel
theorem dX3_scan_85 : decode cX3_scan 85 = .ok (.ifCond .ne 10, 3) := by decide +kernel
theorem dX3_scan_88 : decode cX3_scan 88 = .ok (.iload_n 2, 1) := by decide +kernel
theorem dX3_scan_89 : decode cX3_scan 89 = .ok (.invokestatic 90, 3) := by decide +kernel
theorem dX3_scan_92 : decode cX3_scan 92 = .ok (.ifCond .eq 34, 3) := by decide +kernel
theorem dX3_scan_95 : decode cX3_scan 95 = .ok (.aload_n 0, 1) := by decide +kernel
theorem dX3_scan_96 : decode cX3_scan 96 = .ok (.aload_n 0, 1) := by decide +kernel
theorem dX3_scan_97 : decode cX3_scan 97 = .ok (.aload_n 1, 1) := by decide +kernel
theorem dX3_scan_98 : decode cX3_scan 98 = .ok (.invokevirtual 93, 3) := by decide +kernel
theorem dX3_scan_101 : decode cX3_scan 101 = .ok (.putfield 38, 3) := by decide +kernel
theorem dX3_scan_104 : decode cX3_scan 104 = .ok (.aload_n 0, 1) := by decide +kernel
theorem dX3_scan_105 : decode cX3_scan 105 = .ok (.aload_n 1, 1) := by decide +kernel
theorem dX3_scan_106 : decode cX3_scan 106 = .ok (.getfield 97, 3) := by decide +kernel
theorem dX3_scan_109 : decode cX3_scan 109 = .ok (.aload_n 0, 1) := by decide +kernel
theorem dX3_scan_110 : decode cX3_scan 110 = .ok (.getfield 55, 3) := by decide +kernel
theorem dX3_scan_113 : decode cX3_scan 113 = .ok (.aload_n 0, 1) := by decide +kernel
theorem dX3_scan_114 : decode cX3_scan 114 = .ok (.getfield 38, 3) := by decide +kernel
theorem dX3_scan_117 : decode cX3_scan 117 = .ok (.invokestatic 101, 3) := by decide +kernel
theorem dX3_scan_120 : decode cX3_scan 120 = .ok (.putfield 45, 3) := by decide +kernel
theorem dX3_scan_123 : decode cX3_scan 123 = .ok (.goto 54, 3) := by decide +kernel
theorem dX3_scan_126 : decode cX3_scan 126 = .ok (.iload_n 2, 1) := by decide +kernel
theorem dX3_scan_127 : decode cX3_scan 127 = .ok (.invokestatic 105, 3) := by decide +kernel
theorem dX3_scan_130 : decode cX3_scan 130 = .ok (.ifCond .eq 20, 3) := by decide +kernel
theorem dX3_scan_133 : decode cX3_scan 133 = .ok (.aload_n 0, 1) := by decide +kernel
theorem dX3_scan_134 : decode cX3_scan 134 = .ok (.aload_n 0, 1) := by decide +kernel
theorem dX3_scan_135 : decode cX3_scan 135 = .ok (.aload_n 1, 1) := by decide +kernel
theorem dX3_scan_136 : decode cX3_scan 136 = .ok (.invokevirtual 108, 3) := by decide +kernel
theorem dX3_scan_139 : decode cX3_scan 139 = .ok (.putfield 38, 3) := by decide +kernel
theorem dX3_scan_142 : decode cX3_scan 142 = .ok (.aload_n 0, 1) := by decide +kernel
theorem dX3_scan_143 : decode cX3_scan 143 = .ok (.iconst 2, 1) := by decide +kernel
theorem dX3_scan_144 : decode cX3_scan 144 = .ok (.putfield 45, 3) := by decide +kernel
theorem dX3_scan_147 : decode cX3_scan 147 = .ok (.goto 30, 3) := by decide +kernel
theorem dX3_scan_150 : decode cX3_scan 150 = .ok (.aload_n 0, 1) := by decide +kernel
theorem dX3_scan_151 : decode cX3_scan 151 = .ok (.aload_n 0, 1) := by decide +kernel
theorem dX3_scan_152 : decode cX3_scan 152 = .ok (.getfield 55, 3) := by decide +kernel
theorem dX3_scan_155 : decode cX3_scan 155 = .ok (.iconst 1, 1) := by decide +kernel
theorem dX3_scan_156 : decode cX3_scan 156 = .ok (.iadd, 1) := by decide +kernel
theorem dX3_scan_157 : decode cX3_scan 157 = .ok (.putfield 38, 3) := by decide +kernel
theorem dX3_scan_160 : decode cX3_scan 160 = .ok (.aload_n 0, 1) := by decide +kernel
theorem dX3_scan_161 : decode cX3_scan 161 = .ok (.iload_n 2, 1) := by decide +kernel
theorem dX3_scan_162 : decode cX3_scan 162 = .ok (.invokestatic 111, 3) := by decide +kernel
theorem dX3_scan_165 : decode cX3_scan 165 = .ok (.ifCond .eq 7, 3) := by decide +kernel
theorem dX3_scan_168 : decode cX3_scan 168 = .ok (.iload_n 2, 1) := by decide +kernel
theorem dX3_scan_169 : decode cX3_scan 169 = .ok (.goto 5, 3) := by decide +kernel
theorem dX3_scan_172 : decode cX3_scan 172 = .ok (.bipush 7, 2) := by decide +kernel
theorem dX3_scan_174 : decode cX3_scan 174 = .ok (.putfield 45, 3) := by decide +kernel
theorem dX3_scan_177 : decode cX3_scan 177 = .ok (.return_, 1) := by decide +kernel
theorem dX3_wordEnd_0 : decode cX3_wordEnd 0 = .ok (.aload_n 0, 1) := by decide +kernel
theorem dX3_wordEnd_1 : decode cX3_wordEnd 1 = .ok (.getfield 55, 3) := by decide +kernel
theorem dX3_wordEnd_4 : decode cX3_wordEnd 4 = .ok (.istore_n 2, 1) := by decide +kernel
theorem dX3_wordEnd_5 : decode cX3_wordEnd 5 = .ok (.iload_n 2, 1) := by decide +kernel
theorem dX3_wordEnd_6 : decode cX3_wordEnd 6 = .ok (.aload_n 1, 1) := by decide +kernel
theorem dX3_wordEnd_7 : decode cX3_wordEnd 7 = .ok (.getfield 76, 3) := by decide +kernel
theorem dX3_wordEnd_10 : decode cX3_wordEnd 10 = .ok (.if_icmp .ge 20, 3) := by decide +kernel
theorem dX3_wordEnd_13 : decode cX3_wordEnd 13 = .ok (.aload_n 1, 1) := by decide +kernel
theorem dX3_wordEnd_14 : decode cX3_wordEnd 14 = .ok (.iload_n 2, 1) := by decide +kernel
theorem dX3_wordEnd_15 : decode cX3_wordEnd 15 = .ok (.invokevirtual 79, 3) := by decide +kernel
theorem dX3_wordEnd_18 : decode cX3_wordEnd 18 = .ok (.invokestatic 114, 3) := by decide +kernel
theorem dX3_wordEnd_21 : decode cX3_wordEnd 21 = .ok (.ifCond .eq 9, 3) := by decide +kernel
theorem dX3_wordEnd_24 : decode cX3_wordEnd 24 = .ok (.iinc 2 1, 3) := by decide +kernel
theorem dX3_wordEnd_27 : decode cX3_wordEnd 27 = .ok (.goto (-22), 3) := by decide +kernel
theorem dX3_wordEnd_30 : decode cX3_wordEnd 30 = .ok (.iload_n 2, 1) := by decide +kernel
theorem dX3_wordEnd_31 : decode cX3_wordEnd 31 = .ok (.ireturn, 1) := by decide +kernel
theorem dX3_digitsEnd_0 : decode cX3_digitsEnd 0 = .ok (.aload_n 0, 1) := by decide +kernel
theorem dX3_digitsEnd_1 : decode cX3_digitsEnd 1 = .ok (.getfield 55, 3) := by decide +kernel
theorem dX3_digitsEnd_4 : decode cX3_digitsEnd 4 = .ok (.istore_n 2, 1) := by decide +kernel
theorem dX3_digitsEnd_5 : decode cX3_digitsEnd 5 = .ok (.iload_n 2, 1) := by decide +kernel
theorem dX3_digitsEnd_6 : decode cX3_digitsEnd 6 = .ok (.aload_n 1, 1) := by decide +kernel
theorem dX3_digitsEnd_7 : decode cX3_digitsEnd 7 = .ok (.getfield 76, 3) := by decide +kernel
theorem dX3_digitsEnd_10 : decode cX3_digitsEnd 10 = .ok (.if_icmp .ge 20, 3) := by decide +kernel
theorem dX3_digitsEnd_13 : decode cX3_digitsEnd 13 = .ok (.aload_n 1, 1) := by decide +kernel
theorem dX3_digitsEnd_14 : decode cX3_digitsEnd 14 = .ok (.iload_n 2, 1) := by decide +kernel
theorem dX3_digitsEnd_15 : decode cX3_digitsEnd 15 = .ok (.invokevirtual 79, 3) := by decide +kernel
theorem dX3_digitsEnd_18 : decode cX3_digitsEnd 18 = .ok (.invokestatic 105, 3) := by decide +kernel
theorem dX3_digitsEnd_21 : decode cX3_digitsEnd 21 = .ok (.ifCond .eq 9, 3) := by decide +kernel
theorem dX3_digitsEnd_24 : decode cX3_digitsEnd 24 = .ok (.iinc 2 1, 3) := by decide +kernel
theorem dX3_digitsEnd_27 : decode cX3_digitsEnd 27 = .ok (.goto (-22), 3) := by decide +kernel
theorem dX3_digitsEnd_30 : decode cX3_digitsEnd 30 = .ok (.iload_n 2, 1) := by decide +kernel
theorem dX3_digitsEnd_31 : decode cX3_digitsEnd 31 = .ok (.ireturn, 1) := by decide +kernel
theorem dX3_isBlank_0 : decode cX3_isBlank 0 = .ok (.iload_n 0, 1) := by decide +kernel
theorem dX3_isBlank_1 : decode cX3_isBlank 1 = .ok (.bipush 32, 2) := by decide +kernel
theorem dX3_isBlank_3 : decode cX3_isBlank 3 = .ok (.if_icmp .eq 9, 3) := by decide +kernel
theorem dX3_isBlank_6 : decode cX3_isBlank 6 = .ok (.iload_n 0, 1) := by decide +kernel
theorem dX3_isBlank_7 : decode cX3_isBlank 7 = .ok (.bipush 10, 2) := by decide +kernel
theorem dX3_isBlank_9 : decode cX3_isBlank 9 = .ok (.if_icmp .ne 7, 3) := by decide +kernel
theorem dX3_isBlank_12 : decode cX3_isBlank 12 = .ok (.iconst 1, 1) := by decide +kernel
theorem dX3_isBlank_13 : decode cX3_isBlank 13 = .ok (.goto 4, 3) := by decide +kernel
theorem dX3_isBlank_16 : decode cX3_isBlank 16 = .ok (.iconst 0, 1) := by decide +kernel
theorem dX3_isBlank_17 : decode cX3_isBlank 17 = .ok (.ireturn, 1) := by decide +kernel
theorem dX3_isOfWord_0 : decode cX3_isOfWord 0 = .ok (.iload_n 0, 1) := by decide +kernel
theorem dX3_isOfWord_1 : decode cX3_isOfWord 1 = .ok (.invokestatic 87, 3) := by decide +kernel
theorem dX3_isOfWord_4 : decode cX3_isOfWord 4 = .ok (.ifCond .ne 23, 3) := by decide +kernel
theorem dX3_isOfWord_7 : decode cX3_isOfWord 7 = .ok (.iload_n 0, 1) := by decide +kernel
theorem dX3_isOfWord_8 : decode cX3_isOfWord 8 = .ok (.invokestatic 90, 3) := by decide +kernel
theorem dX3_isOfWord_11 : decode cX3_isOfWord 11 = .ok (.ifCond .ne 16, 3) := by decide +kernel
theorem dX3_isOfWord_14 : decode cX3_isOfWord 14 = .ok (.iload_n 0, 1) := by decide +kernel
theorem dX3_isOfWord_15 : decode cX3_isOfWord 15 = .ok (.invokestatic 105, 3) := by decide +kernel
theorem dX3_isOfWord_18 : decode cX3_isOfWord 18 = .ok (.ifCond .ne 9, 3) := by decide +kernel
theorem dX3_isOfWord_21 : decode cX3_isOfWord 21 = .ok (.iload_n 0, 1) := by decide +kernel
theorem dX3_isOfWord_22 : decode cX3_isOfWord 22 = .ok (.bipush 95, 2) := by decide +kernel
theorem dX3_isOfWord_24 : decode cX3_isOfWord 24 = .ok (.if_icmp .ne 7, 3) := by decide +kernel
theorem dX3_isOfWord_27 : decode cX3_isOfWord 27 = .ok (.iconst 1, 1) := by decide +kernel
theorem dX3_isOfWord_28 : decode cX3_isOfWord 28 = .ok (.goto 4, 3) := by decide +kernel
theorem dX3_isOfWord_31 : decode cX3_isOfWord 31 = .ok (.iconst 0, 1) := by decide +kernel
theorem dX3_isOfWord_32 : decode cX3_isOfWord 32 = .ok (.ireturn, 1) := by decide +kernel
theorem dX3_isSign_0 : decode cX3_isSign 0 = .ok (.iload_n 0, 1) := by decide +kernel
theorem dX3_isSign_1 : decode cX3_isSign 1 = .ok (.invokestatic 117, 3) := by decide +kernel
theorem dX3_isSign_4 : decode cX3_isSign 4 = .ok (.ifCond .ne 45, 3) := by decide +kernel
theorem dX3_isSign_7 : decode cX3_isSign 7 = .ok (.iload_n 0, 1) := by decide +kernel
theorem dX3_isSign_8 : decode cX3_isSign 8 = .ok (.bipush 61, 2) := by decide +kernel
theorem dX3_isSign_10 : decode cX3_isSign 10 = .ok (.if_icmp .eq 39, 3) := by decide +kernel
theorem dX3_isSign_13 : decode cX3_isSign 13 = .ok (.iload_n 0, 1) := by decide +kernel
theorem dX3_isSign_14 : decode cX3_isSign 14 = .ok (.bipush 40, 2) := by decide +kernel
theorem dX3_isSign_16 : decode cX3_isSign 16 = .ok (.if_icmp .eq 33, 3) := by decide +kernel
theorem dX3_isSign_19 : decode cX3_isSign 19 = .ok (.iload_n 0, 1) := by decide +kernel
theorem dX3_isSign_20 : decode cX3_isSign 20 = .ok (.bipush 41, 2) := by decide +kernel
theorem dX3_isSign_22 : decode cX3_isSign 22 = .ok (.if_icmp .eq 27, 3) := by decide +kernel
theorem dX3_isSign_25 : decode cX3_isSign 25 = .ok (.iload_n 0, 1) := by decide +kernel
theorem dX3_isSign_26 : decode cX3_isSign 26 = .ok (.bipush 123, 2) := by decide +kernel
theorem dX3_isSign_28 : decode cX3_isSign 28 = .ok (.if_icmp .eq 21, 3) := by decide +kernel
theorem dX3_isSign_31 : decode cX3_isSign 31 = .ok (.iload_n 0, 1) := by decide +kernel
theorem dX3_isSign_32 : decode cX3_isSign 32 = .ok (.bipush 125, 2) := by decide +kernel
theorem dX3_isSign_34 : decode cX3_isSign 34 = .ok (.if_icmp .eq 15, 3) := by decide +kernel
theorem dX3_isSign_37 : decode cX3_isSign 37 = .ok (.iload_n 0, 1) := by decide +kernel
theorem dX3_isSign_38 : decode cX3_isSign 38 = .ok (.bipush 44, 2) := by decide +kernel
theorem dX3_isSign_40 : decode cX3_isSign 40 = .ok (.if_icmp .eq 9, 3) := by decide +kernel
theorem dX3_isSign_43 : decode cX3_isSign 43 = .ok (.iload_n 0, 1) := by decide +kernel
theorem dX3_isSign_44 : decode cX3_isSign 44 = .ok (.bipush 59, 2) := by decide +kernel
theorem dX3_isSign_46 : decode cX3_isSign 46 = .ok (.if_icmp .ne 7, 3) := by decide +kernel
theorem dX3_isSign_49 : decode cX3_isSign 49 = .ok (.iconst 1, 1) := by decide +kernel
theorem dX3_isSign_50 : decode cX3_isSign 50 = .ok (.goto 4, 3) := by decide +kernel
theorem dX3_isSign_53 : decode cX3_isSign 53 = .ok (.iconst 0, 1) := by decide +kernel
theorem dX3_isSign_54 : decode cX3_isSign 54 = .ok (.ireturn, 1) := by decide +kernel
theorem dX3_stands_0 : decode cX3_stands 0 = .ok (.aload_n 0, 1) := by decide +kernel
theorem dX3_stands_1 : decode cX3_stands 1 = .ok (.getfield 29, 3) := by decide +kernel
theorem dX3_stands_4 : decode cX3_stands 4 = .ok (.tableswitch 198 2 9 #[48, 69, 88, 124, 145, 150, 155, 175], 48) := by decide +kernel
theorem dX3_stands_52 : decode cX3_stands 52 = .ok (.aload_n 0, 1) := by decide +kernel
theorem dX3_stands_53 : decode cX3_stands 53 = .ok (.aload_n 0, 1) := by decide +kernel
theorem dX3_stands_54 : decode cX3_stands 54 = .ok (.getfield 45, 3) := by decide +kernel
theorem dX3_stands_57 : decode cX3_stands 57 = .ok (.bipush 61, 2) := by decide +kernel
theorem dX3_stands_59 : decode cX3_stands 59 = .ok (.if_icmp .ne 7, 3) := by decide +kernel
theorem dX3_stands_62 : decode cX3_stands 62 = .ok (.iconst 1, 1) := by decide +kernel
theorem dX3_stands_63 : decode cX3_stands 63 = .ok (.goto 4, 3) := by decide +kernel
theorem dX3_stands_66 : decode cX3_stands 66 = .ok (.iconst 0, 1) := by decide +kernel
theorem dX3_stands_67 : decode cX3_stands 67 = .ok (.bipush 6, 2) := by decide +kernel
theorem dX3_stands_69 : decode cX3_stands 69 = .ok (.invokevirtual 120, 3) := by decide +kernel
theorem dX3_stands_72 : decode cX3_stands 72 = .ok (.ireturn, 1) := by decide +kernel
theorem dX3_stands_73 : decode cX3_stands 73 = .ok (.aload_n 0, 1) := by decide +kernel
theorem dX3_stands_74 : decode cX3_stands 74 = .ok (.aload_n 0, 1) := by decide +kernel
theorem dX3_stands_75 : decode cX3_stands 75 = .ok (.getfield 45, 3) := by decide +kernel
theorem dX3_stands_78 : decode cX3_stands 78 = .ok (.iconst 1, 1) := by decide +kernel
theorem dX3_stands_79 : decode cX3_stands 79 = .ok (.if_icmp .ne 7, 3) := by decide +kernel
theorem dX3_stands_82 : decode cX3_stands 82 = .ok (.iconst 1, 1) := by decide +kernel
theorem dX3_stands_83 : decode cX3_stands 83 = .ok (.goto 4, 3) := by decide +kernel
theorem dX3_stands_86 : decode cX3_stands 86 = .ok (.iconst 0, 1) := by decide +kernel
theorem dX3_stands_87 : decode cX3_stands 87 = .ok (.iconst 4, 1) := by decide +kernel
theorem dX3_stands_88 : decode cX3_stands 88 = .ok (.invokevirtual 120, 3) := by decide +kernel
theorem dX3_stands_91 : decode cX3_stands 91 = .ok (.ireturn, 1) := by decide +kernel
theorem dX3_stands_92 : decode cX3_stands 92 = .ok (.aload_n 0, 1) := by decide +kernel
theorem dX3_stands_93 : decode cX3_stands 93 = .ok (.aload_n 0, 1) := by decide +kernel
theorem dX3_stands_94 : decode cX3_stands 94 = .ok (.getfield 45, 3) := by decide +kernel
theorem dX3_stands_97 : decode cX3_stands 97 = .ok (.bipush 40, 2) := by decide +kernel
theorem dX3_stands_99 : decode cX3_stands 99 = .ok (.if_icmp .ne 7, 3) := by decide +kernel
theorem dX3_stands_102 : decode cX3_stands 102 = .ok (.iconst 1, 1) := by decide +kernel
theorem dX3_stands_103 : decode cX3_stands 103 = .ok (.goto 4, 3) := by decide +kernel
theorem dX3_stands_106 : decode cX3_stands 106 = .ok (.iconst 0, 1) := by decide +kernel
theorem dX3_stands_107 : decode cX3_stands 107 = .ok (.iconst 5, 1) := by decide +kernel
theorem dX3_stands_108 : decode cX3_stands 108 = .ok (.invokevirtual 120, 3) := by decide +kernel
theorem dX3_stands_111 : decode cX3_stands 111 = .ok (.ifCond .eq 15, 3) := by decide +kernel
theorem dX3_stands_114 : decode cX3_stands 114 = .ok (.aload_n 0, 1) := by decide +kernel
theorem dX3_stands_115 : decode cX3_stands 115 = .ok (.iconst 1, 1) := by decide +kernel
theorem dX3_stands_116 : decode cX3_stands 116 = .ok (.invokevirtual 124, 3) := by decide +kernel
theorem dX3_stands_119 : decode cX3_stands 119 = .ok (.ifCond .eq 7, 3) := by decide +kernel
theorem dX3_stands_122 : decode cX3_stands 122 = .ok (.iconst 1, 1) := by decide +kernel
theorem dX3_stands_123 : decode cX3_stands 123 = .ok (.goto 4, 3) := by decide +kernel
theorem dX3_stands_126 : decode cX3_stands 126 = .ok (.iconst 0, 1) := by decide +kernel
theorem dX3_stands_127 : decode cX3_stands 127 = .ok (.ireturn, 1) := by decide +kernel
theorem dX3_stands_128 : decode cX3_stands 128 = .ok (.aload_n 0, 1) := by decide +kernel
theorem dX3_stands_129 : decode cX3_stands 129 = .ok (.getfield 45, 3) := by decide +kernel
theorem dX3_stands_132 : decode cX3_stands 132 = .ok (.bipush 41, 2) := by decide +kernel
theorem dX3_stands_134 : decode cX3_stands 134 = .ok (.if_icmp .ne 10, 3) := by decide +kernel
theorem dX3_stands_137 : decode cX3_stands 137 = .ok (.aload_n 0, 1) := by decide +kernel
theorem dX3_stands_138 : decode cX3_stands 138 = .ok (.invokevirtual 127, 3) := by decide +kernel
theorem dX3_stands_141 : decode cX3_stands 141 = .ok (.goto 7, 3) := by decide +kernel
theorem dX3_stands_144 : decode cX3_stands 144 = .ok (.aload_n 0, 1) := by decide +kernel
theorem dX3_stands_145 : decode cX3_stands 145 = .ok (.invokevirtual 130, 3) := by decide +kernel
theorem dX3_stands_148 : decode cX3_stands 148 = .ok (.ireturn, 1) := by decide +kernel
theorem dX3_stands_149 : decode cX3_stands 149 = .ok (.aload_n 0, 1) := by decide +kernel
theorem dX3_stands_150 : decode cX3_stands 150 = .ok (.invokevirtual 130, 3) := by decide +kernel
theorem dX3_stands_153 : decode cX3_stands 153 = .ok (.ireturn, 1) := by decide +kernel
theorem dX3_stands_154 : decode cX3_stands 154 = .ok (.aload_n 0, 1) := by decide +kernel
theorem dX3_stands_155 : decode cX3_stands 155 = .ok (.invokevirtual 133, 3) := by decide +kernel
theorem dX3_stands_158 : decode cX3_stands 158 = .ok (.ireturn, 1) := by decide +kernel
theorem dX3_stands_159 : decode cX3_stands 159 = .ok (.aload_n 0, 1) := by decide +kernel
theorem dX3_stands_160 : decode cX3_stands 160 = .ok (.aload_n 0, 1) := by decide +kernel
theorem dX3_stands_161 : decode cX3_stands 161 = .ok (.getfield 45, 3) := by decide +kernel
theorem dX3_stands_164 : decode cX3_stands 164 = .ok (.bipush 59, 2) := by decide +kernel
theorem dX3_stands_166 : decode cX3_stands 166 = .ok (.if_icmp .ne 7, 3) := by decide +kernel
theorem dX3_stands_169 : decode cX3_stands 169 = .ok (.iconst 1, 1) := by decide +kernel
theorem dX3_stands_170 : decode cX3_stands 170 = .ok (.goto 4, 3) := by decide +kernel
theorem dX3_stands_173 : decode cX3_stands 173 = .ok (.iconst 0, 1) := by decide +kernel
theorem dX3_stands_174 : decode cX3_stands 174 = .ok (.iconst 0, 1) := by decide +kernel
theorem dX3_stands_175 : decode cX3_stands 175 = .ok (.invokevirtual 120, 3) := by decide +kernel
theorem dX3_stands_178 : decode cX3_stands 178 = .ok (.ireturn, 1) := by decide +kernel
theorem dX3_stands_179 : decode cX3_stands 179 = .ok (.aload_n 0, 1) := by decide +kernel
theorem dX3_stands_180 : decode cX3_stands 180 = .ok (.getfield 45, 3) := by decide +kernel
theorem dX3_stands_183 : decode cX3_stands 183 = .ok (.bipush 123, 2) := by decide +kernel
theorem dX3_stands_185 : decode cX3_stands 185 = .ok (.if_icmp .ne 15, 3) := by decide +kernel
theorem dX3_stands_188 : decode cX3_stands 188 = .ok (.aload_n 0, 1) := by decide +kernel
theorem dX3_stands_189 : decode cX3_stands 189 = .ok (.iconst 3, 1) := by decide +kernel
theorem dX3_stands_190 : decode cX3_stands 190 = .ok (.invokevirtual 136, 3) := by decide +kernel
theorem dX3_stands_193 : decode cX3_stands 193 = .ok (.ifCond .eq 7, 3) := by decide +kernel
theorem dX3_stands_196 : decode cX3_stands 196 = .ok (.iconst 1, 1) := by decide +kernel
theorem dX3_stands_197 : decode cX3_stands 197 = .ok (.goto 4, 3) := by decide +kernel
theorem dX3_stands_200 : decode cX3_stands 200 = .ok (.iconst 0, 1) := by decide +kernel
theorem dX3_stands_201 : decode cX3_stands 201 = .ok (.ireturn, 1) := by decide +kernel
theorem dX3_stands_202 : decode cX3_stands 202 = .ok (.aload_n 0, 1) := by decide +kernel
theorem dX3_stands_203 : decode cX3_stands 203 = .ok (.invokevirtual 139, 3) := by decide +kernel
theorem dX3_stands_206 : decode cX3_stands 206 = .ok (.ireturn, 1) := by decide +kernel
theorem dX3_expect_0 : decode cX3_expect 0 = .ok (.iload_n 1, 1) := by decide +kernel
theorem dX3_expect_1 : decode cX3_expect 1 = .ok (.ifCond .eq 8, 3) := by decide +kernel
theorem dX3_expect_4 : decode cX3_expect 4 = .ok (.aload_n 0, 1) := by decide +kernel
theorem dX3_expect_5 : decode cX3_expect 5 = .ok (.iload_n 2, 1) := by decide +kernel
theorem dX3_expect_6 : decode cX3_expect 6 = .ok (.putfield 29, 3) := by decide +kernel
theorem dX3_expect_9 : decode cX3_expect 9 = .ok (.iload_n 1, 1) := by decide +kernel
theorem dX3_expect_10 : decode cX3_expect 10 = .ok (.ireturn, 1) := by decide +kernel
theorem dX3_startStatement_0 : decode cX3_startStatement 0 = .ok (.aload_n 0, 1) := by decide +kernel
theorem dX3_startStatement_1 : decode cX3_startStatement 1 = .ok (.getfield 45, 3) := by decide +kernel
theorem dX3_startStatement_4 : decode cX3_startStatement 4 = .ok (.lookupswitch 115 #[(1, 60), (3, 74), (4, 90), (5, 82), (6, 67), (125, 110)], 60) := by decide +kernel
theorem dX3_startStatement_64 : decode cX3_startStatement 64 = .ok (.aload_n 0, 1) := by decide +kernel
theorem dX3_startStatement_65 : decode cX3_startStatement 65 = .ok (.iconst 0, 1) := by decide +kernel
theorem dX3_startStatement_66 : decode cX3_startStatement 66 = .ok (.iconst 2, 1) := by decide +kernel
theorem dX3_startStatement_67 : decode cX3_startStatement 67 = .ok (.invokevirtual 142, 3) := by decide +kernel
theorem dX3_startStatement_70 : decode cX3_startStatement 70 = .ok (.ireturn, 1) := by decide +kernel
theorem dX3_startStatement_71 : decode cX3_startStatement 71 = .ok (.aload_n 0, 1) := by decide +kernel
theorem dX3_startStatement_72 : decode cX3_startStatement 72 = .ok (.iconst 1, 1) := by decide +kernel
theorem dX3_startStatement_73 : decode cX3_startStatement 73 = .ok (.iconst 3, 1) := by decide +kernel
theorem dX3_startStatement_74 : decode cX3_startStatement 74 = .ok (.invokevirtual 142, 3) := by decide +kernel
theorem dX3_startStatement_77 : decode cX3_startStatement 77 = .ok (.ireturn, 1) := by decide +kernel
theorem dX3_startStatement_78 : decode cX3_startStatement 78 = .ok (.aload_n 0, 1) := by decide +kernel
theorem dX3_startStatement_79 : decode cX3_startStatement 79 = .ok (.iconst 2, 1) := by decide +kernel
theorem dX3_startStatement_80 : decode cX3_startStatement 80 = .ok (.bipush 6, 2) := by decide +kernel
theorem dX3_startStatement_82 : decode cX3_startStatement 82 = .ok (.invokevirtual 142, 3) := by decide +kernel
theorem dX3_startStatement_85 : decode cX3_startStatement 85 = .ok (.ireturn, 1) := by decide +kernel
theorem dX3_startStatement_86 : decode cX3_startStatement 86 = .ok (.aload_n 0, 1) := by decide +kernel
theorem dX3_startStatement_87 : decode cX3_startStatement 87 = .ok (.iconst 3, 1) := by decide +kernel
theorem dX3_startStatement_88 : decode cX3_startStatement 88 = .ok (.bipush 6, 2) := by decide +kernel
theorem dX3_startStatement_90 : decode cX3_startStatement 90 = .ok (.invokevirtual 142, 3) := by decide +kernel
theorem dX3_startStatement_93 : decode cX3_startStatement 93 = .ok (.ireturn, 1) := by decide +kernel
theorem dX3_startStatement_94 : decode cX3_startStatement 94 = .ok (.aload_n 0, 1) := by decide +kernel
theorem dX3_startStatement_95 : decode cX3_startStatement 95 = .ok (.aload_n 0, 1) := by decide +kernel
theorem dX3_startStatement_96 : decode cX3_startStatement 96 = .ok (.getfield 29, 3) := by decide +kernel
theorem dX3_startStatement_99 : decode cX3_startStatement 99 = .ok (.iconst 1, 1) := by decide +kernel
theorem dX3_startStatement_100 : decode cX3_startStatement 100 = .ok (.if_icmp .ne 7, 3) := by decide +kernel
theorem dX3_startStatement_103 : decode cX3_startStatement 103 = .ok (.iconst 1, 1) := by decide +kernel
theorem dX3_startStatement_104 : decode cX3_startStatement 104 = .ok (.goto 4, 3) := by decide +kernel
theorem dX3_startStatement_107 : decode cX3_startStatement 107 = .ok (.iconst 0, 1) := by decide +kernel
theorem dX3_startStatement_108 : decode cX3_startStatement 108 = .ok (.bipush 9, 2) := by decide +kernel
theorem dX3_startStatement_110 : decode cX3_startStatement 110 = .ok (.invokevirtual 120, 3) := by decide +kernel
theorem dX3_startStatement_113 : decode cX3_startStatement 113 = .ok (.ireturn, 1) := by decide +kernel
theorem dX3_startStatement_114 : decode cX3_startStatement 114 = .ok (.aload_n 0, 1) := by decide +kernel
theorem dX3_startStatement_115 : decode cX3_startStatement 115 = .ok (.invokevirtual 146, 3) := by decide +kernel
theorem dX3_startStatement_118 : decode cX3_startStatement 118 = .ok (.ireturn, 1) := by decide +kernel
theorem dX3_startStatement_119 : decode cX3_startStatement 119 = .ok (.iconst 0, 1) := by decide +kernel
theorem dX3_startStatement_120 : decode cX3_startStatement 120 = .ok (.ireturn, 1) := by decide +kernel
theorem dX3_ownStatement_0 : decode cX3_ownStatement 0 = .ok (.aload_n 0, 1) := by decide +kernel
theorem dX3_ownStatement_1 : decode cX3_ownStatement 1 = .ok (.iload_n 1, 1) := by decide +kernel
theorem dX3_ownStatement_2 : decode cX3_ownStatement 2 = .ok (.putfield 32, 3) := by decide +kernel
theorem dX3_ownStatement_5 : decode cX3_ownStatement 5 = .ok (.aload_n 0, 1) := by decide +kernel
theorem dX3_ownStatement_6 : decode cX3_ownStatement 6 = .ok (.dup, 1) := by decide +kernel
theorem dX3_ownStatement_7 : decode cX3_ownStatement 7 = .ok (.getfield 35, 3) := by decide +kernel
theorem dX3_ownStatement_10 : decode cX3_ownStatement 10 = .ok (.iconst 1, 1) := by decide +kernel
theorem dX3_ownStatement_11 : decode cX3_ownStatement 11 = .ok (.iadd, 1) := by decide +kernel
theorem dX3_ownStatement_12 : decode cX3_ownStatement 12 = .ok (.putfield 35, 3) := by decide +kernel
theorem dX3_ownStatement_15 : decode cX3_ownStatement 15 = .ok (.aload_n 0, 1) := by decide +kernel
theorem dX3_ownStatement_16 : decode cX3_ownStatement 16 = .ok (.iload_n 2, 1) := by decide +kernel
theorem dX3_ownStatement_17 : decode cX3_ownStatement 17 = .ok (.putfield 29, 3) := by decide +kernel
theorem dX3_ownStatement_20 : decode cX3_ownStatement 20 = .ok (.iconst 1, 1) := by decide +kernel
theorem dX3_ownStatement_21 : decode cX3_ownStatement 21 = .ok (.ireturn, 1) := by decide +kernel
theorem dX3_startPart_0 : decode cX3_startPart 0 = .ok (.aload_n 0, 1) := by decide +kernel
theorem dX3_startPart_1 : decode cX3_startPart 1 = .ok (.getfield 45, 3) := by decide +kernel
theorem dX3_startPart_4 : decode cX3_startPart 4 = .ok (.bipush 40, 2) := by decide +kernel
theorem dX3_startPart_6 : decode cX3_startPart 6 = .ok (.if_icmp .ne 15, 3) := by decide +kernel
theorem dX3_startPart_9 : decode cX3_startPart 9 = .ok (.aload_n 0, 1) := by decide +kernel
theorem dX3_startPart_10 : decode cX3_startPart 10 = .ok (.bipush 6, 2) := by decide +kernel
theorem dX3_startPart_12 : decode cX3_startPart 12 = .ok (.putfield 29, 3) := by decide +kernel
theorem dX3_startPart_15 : decode cX3_startPart 15 = .ok (.aload_n 0, 1) := by decide +kernel
theorem dX3_startPart_16 : decode cX3_startPart 16 = .ok (.iconst 0, 1) := by decide +kernel
theorem dX3_startPart_17 : decode cX3_startPart 17 = .ok (.invokevirtual 124, 3) := by decide +kernel
theorem dX3_startPart_20 : decode cX3_startPart 20 = .ok (.ireturn, 1) := by decide +kernel
theorem dX3_startPart_21 : decode cX3_startPart 21 = .ok (.aload_n 0, 1) := by decide +kernel
theorem dX3_startPart_22 : decode cX3_startPart 22 = .ok (.aload_n 0, 1) := by decide +kernel
theorem dX3_startPart_23 : decode cX3_startPart 23 = .ok (.getfield 45, 3) := by decide +kernel
theorem dX3_startPart_26 : decode cX3_startPart 26 = .ok (.iconst 1, 1) := by decide +kernel
theorem dX3_startPart_27 : decode cX3_startPart 27 = .ok (.if_icmp .eq 11, 3) := by decide +kernel
theorem dX3_startPart_30 : decode cX3_startPart 30 = .ok (.aload_n 0, 1) := by decide +kernel
theorem dX3_startPart_31 : decode cX3_startPart 31 = .ok (.getfield 45, 3) := by decide +kernel
theorem dX3_startPart_34 : decode cX3_startPart 34 = .ok (.iconst 2, 1) := by decide +kernel
theorem dX3_startPart_35 : decode cX3_startPart 35 = .ok (.if_icmp .ne 7, 3) := by decide +kernel
theorem dX3_startPart_38 : decode cX3_startPart 38 = .ok (.iconst 1, 1) := by decide +kernel
theorem dX3_startPart_39 : decode cX3_startPart 39 = .ok (.goto 4, 3) := by decide +kernel
theorem dX3_startPart_42 : decode cX3_startPart 42 = .ok (.iconst 0, 1) := by decide +kernel
theorem dX3_startPart_43 : decode cX3_startPart 43 = .ok (.bipush 7, 2) := by decide +kernel
theorem dX3_startPart_45 : decode cX3_startPart 45 = .ok (.invokevirtual 120, 3) := by decide +kernel
theorem dX3_startPart_48 : decode cX3_startPart 48 = .ok (.ireturn, 1) := by decide +kernel
theorem dX3_goOnBehindPart_0 : decode cX3_goOnBehindPart 0 = .ok (.aload_n 0, 1) := by decide +kernel
theorem dX3_goOnBehindPart_1 : decode cX3_goOnBehindPart 1 = .ok (.getfield 45, 3) := by decide +kernel
theorem dX3_goOnBehindPart_4 : decode cX3_goOnBehindPart 4 = .ok (.invokestatic 117, 3) := by decide +kernel
theorem dX3_goOnBehindPart_7 : decode cX3_goOnBehindPart 7 = .ok (.ifCond .eq 11, 3) := by decide +kernel
theorem dX3_goOnBehindPart_10 : decode cX3_goOnBehindPart 10 = .ok (.aload_n 0, 1) := by decide +kernel
theorem dX3_goOnBehindPart_11 : decode cX3_goOnBehindPart 11 = .ok (.bipush 6, 2) := by decide +kernel
theorem dX3_goOnBehindPart_13 : decode cX3_goOnBehindPart 13 = .ok (.putfield 29, 3) := by decide +kernel
theorem dX3_goOnBehindPart_16 : decode cX3_goOnBehindPart 16 = .ok (.iconst 1, 1) := by decide +kernel
theorem dX3_goOnBehindPart_17 : decode cX3_goOnBehindPart 17 = .ok (.ireturn, 1) := by decide +kernel
theorem dX3_goOnBehindPart_18 : decode cX3_goOnBehindPart 18 = .ok (.aload_n 0, 1) := by decide +kernel
theorem dX3_goOnBehindPart_19 : decode cX3_goOnBehindPart 19 = .ok (.invokevirtual 149, 3) := by decide +kernel
theorem dX3_goOnBehindPart_22 : decode cX3_goOnBehindPart 22 = .ok (.ifCond .ne 25, 3) := by decide +kernel
theorem dX3_goOnBehindPart_25 : decode cX3_goOnBehindPart 25 = .ok (.aload_n 0, 1) := by decide +kernel
theorem dX3_goOnBehindPart_26 : decode cX3_goOnBehindPart 26 = .ok (.getfield 45, 3) := by decide +kernel
theorem dX3_goOnBehindPart_29 : decode cX3_goOnBehindPart 29 = .ok (.bipush 41, 2) := by decide +kernel
theorem dX3_goOnBehindPart_31 : decode cX3_goOnBehindPart 31 = .ok (.if_icmp .ne 14, 3) := by decide +kernel
theorem dX3_goOnBehindPart_34 : decode cX3_goOnBehindPart 34 = .ok (.aload_n 0, 1) := by decide +kernel
theorem dX3_goOnBehindPart_35 : decode cX3_goOnBehindPart 35 = .ok (.invokevirtual 127, 3) := by decide +kernel
theorem dX3_goOnBehindPart_38 : decode cX3_goOnBehindPart 38 = .ok (.ifCond .eq 7, 3) := by decide +kernel
theorem dX3_goOnBehindPart_41 : decode cX3_goOnBehindPart 41 = .ok (.iconst 1, 1) := by decide +kernel
theorem dX3_goOnBehindPart_42 : decode cX3_goOnBehindPart 42 = .ok (.goto 4, 3) := by decide +kernel
theorem dX3_goOnBehindPart_45 : decode cX3_goOnBehindPart 45 = .ok (.iconst 0, 1) := by decide +kernel
theorem dX3_goOnBehindPart_46 : decode cX3_goOnBehindPart 46 = .ok (.ireturn, 1) := by decide +kernel
theorem dX3_goOnBehindPart_47 : decode cX3_goOnBehindPart 47 = .ok (.aload_n 0, 1) := by decide +kernel
theorem dX3_goOnBehindPart_48 : decode cX3_goOnBehindPart 48 = .ok (.invokevirtual 149, 3) := by decide +kernel
theorem dX3_goOnBehindPart_51 : decode cX3_goOnBehindPart 51 = .ok (.iconst 1, 1) := by decide +kernel
theorem dX3_goOnBehindPart_52 : decode cX3_goOnBehindPart 52 = .ok (.if_icmp .ne 40, 3) := by decide +kernel
theorem dX3_goOnBehindPart_55 : decode cX3_goOnBehindPart 55 = .ok (.aload_n 0, 1) := by decide +kernel
theorem dX3_goOnBehindPart_56 : decode cX3_goOnBehindPart 56 = .ok (.getfield 45, 3) := by decide +kernel
theorem dX3_goOnBehindPart_59 : decode cX3_goOnBehindPart 59 = .ok (.bipush 41, 2) := by decide +kernel
theorem dX3_goOnBehindPart_61 : decode cX3_goOnBehindPart 61 = .ok (.if_icmp .ne 10, 3) := by decide +kernel
theorem dX3_goOnBehindPart_64 : decode cX3_goOnBehindPart 64 = .ok (.aload_n 0, 1) := by decide +kernel
theorem dX3_goOnBehindPart_65 : decode cX3_goOnBehindPart 65 = .ok (.invokevirtual 127, 3) := by decide +kernel
theorem dX3_goOnBehindPart_68 : decode cX3_goOnBehindPart 68 = .ok (.goto 23, 3) := by decide +kernel
theorem dX3_goOnBehindPart_71 : decode cX3_goOnBehindPart 71 = .ok (.aload_n 0, 1) := by decide +kernel
theorem dX3_goOnBehindPart_72 : decode cX3_goOnBehindPart 72 = .ok (.aload_n 0, 1) := by decide +kernel
theorem dX3_goOnBehindPart_73 : decode cX3_goOnBehindPart 73 = .ok (.getfield 45, 3) := by decide +kernel
theorem dX3_goOnBehindPart_76 : decode cX3_goOnBehindPart 76 = .ok (.bipush 44, 2) := by decide +kernel
theorem dX3_goOnBehindPart_78 : decode cX3_goOnBehindPart 78 = .ok (.if_icmp .ne 7, 3) := by decide +kernel
theorem dX3_goOnBehindPart_81 : decode cX3_goOnBehindPart 81 = .ok (.iconst 1, 1) := by decide +kernel
theorem dX3_goOnBehindPart_82 : decode cX3_goOnBehindPart 82 = .ok (.goto 4, 3) := by decide +kernel
theorem dX3_goOnBehindPart_85 : decode cX3_goOnBehindPart 85 = .ok (.iconst 0, 1) := by decide +kernel
theorem dX3_goOnBehindPart_86 : decode cX3_goOnBehindPart 86 = .ok (.bipush 6, 2) := by decide +kernel
theorem dX3_goOnBehindPart_88 : decode cX3_goOnBehindPart 88 = .ok (.invokevirtual 120, 3) := by decide +kernel
theorem dX3_goOnBehindPart_91 : decode cX3_goOnBehindPart 91 = .ok (.ireturn, 1) := by decide +kernel
theorem dX3_goOnBehindPart_92 : decode cX3_goOnBehindPart 92 = .ok (.aload_n 0, 1) := by decide +kernel
theorem dX3_goOnBehindPart_93 : decode cX3_goOnBehindPart 93 = .ok (.getfield 32, 3) := by decide +kernel
theorem dX3_goOnBehindPart_96 : decode cX3_goOnBehindPart 96 = .ok (.ifCond .ne 23, 3) := by decide +kernel
theorem dX3_goOnBehindPart_99 : decode cX3_goOnBehindPart 99 = .ok (.aload_n 0, 1) := by decide +kernel
theorem dX3_goOnBehindPart_100 : decode cX3_goOnBehindPart 100 = .ok (.aload_n 0, 1) := by decide +kernel
theorem dX3_goOnBehindPart_101 : decode cX3_goOnBehindPart 101 = .ok (.getfield 45, 3) := by decide +kernel
theorem dX3_goOnBehindPart_104 : decode cX3_goOnBehindPart 104 = .ok (.bipush 59, 2) := by decide +kernel
theorem dX3_goOnBehindPart_106 : decode cX3_goOnBehindPart 106 = .ok (.if_icmp .ne 7, 3) := by decide +kernel
theorem dX3_goOnBehindPart_109 : decode cX3_goOnBehindPart 109 = .ok (.iconst 1, 1) := by decide +kernel
theorem dX3_goOnBehindPart_110 : decode cX3_goOnBehindPart 110 = .ok (.goto 4, 3) := by decide +kernel
theorem dX3_goOnBehindPart_113 : decode cX3_goOnBehindPart 113 = .ok (.iconst 0, 1) := by decide +kernel
theorem dX3_goOnBehindPart_114 : decode cX3_goOnBehindPart 114 = .ok (.iconst 0, 1) := by decide +kernel
theorem dX3_goOnBehindPart_115 : decode cX3_goOnBehindPart 115 = .ok (.invokevirtual 120, 3) := by decide +kernel
theorem dX3_goOnBehindPart_118 : decode cX3_goOnBehindPart 118 = .ok (.ireturn, 1) := by decide +kernel
theorem dX3_goOnBehindPart_119 : decode cX3_goOnBehindPart 119 = .ok (.aload_n 0, 1) := by decide +kernel
theorem dX3_goOnBehindPart_120 : decode cX3_goOnBehindPart 120 = .ok (.getfield 45, 3) := by decide +kernel
theorem dX3_goOnBehindPart_123 : decode cX3_goOnBehindPart 123 = .ok (.bipush 123, 2) := by decide +kernel
theorem dX3_goOnBehindPart_125 : decode cX3_goOnBehindPart 125 = .ok (.if_icmp .ne 27, 3) := by decide +kernel
theorem dX3_goOnBehindPart_128 : decode cX3_goOnBehindPart 128 = .ok (.aload_n 0, 1) := by decide +kernel
theorem dX3_goOnBehindPart_129 : decode cX3_goOnBehindPart 129 = .ok (.aload_n 0, 1) := by decide +kernel
theorem dX3_goOnBehindPart_130 : decode cX3_goOnBehindPart 130 = .ok (.getfield 32, 3) := by decide +kernel
theorem dX3_goOnBehindPart_133 : decode cX3_goOnBehindPart 133 = .ok (.iconst 2, 1) := by decide +kernel
theorem dX3_goOnBehindPart_134 : decode cX3_goOnBehindPart 134 = .ok (.if_icmp .ne 7, 3) := by decide +kernel
theorem dX3_goOnBehindPart_137 : decode cX3_goOnBehindPart 137 = .ok (.iconst 2, 1) := by decide +kernel
theorem dX3_goOnBehindPart_138 : decode cX3_goOnBehindPart 138 = .ok (.goto 4, 3) := by decide +kernel
theorem dX3_goOnBehindPart_141 : decode cX3_goOnBehindPart 141 = .ok (.iconst 4, 1) := by decide +kernel
theorem dX3_goOnBehindPart_142 : decode cX3_goOnBehindPart 142 = .ok (.invokevirtual 136, 3) := by decide +kernel
theorem dX3_goOnBehindPart_145 : decode cX3_goOnBehindPart 145 = .ok (.ifCond .eq 7, 3) := by decide +kernel
theorem dX3_goOnBehindPart_148 : decode cX3_goOnBehindPart 148 = .ok (.iconst 1, 1) := by decide +kernel
theorem dX3_goOnBehindPart_149 : decode cX3_goOnBehindPart 149 = .ok (.goto 4, 3) := by decide +kernel
theorem dX3_goOnBehindPart_152 : decode cX3_goOnBehindPart 152 = .ok (.iconst 0, 1) := by decide +kernel
theorem dX3_goOnBehindPart_153 : decode cX3_goOnBehindPart 153 = .ok (.ireturn, 1) := by decide +kernel
theorem dX3_startBlock_0 : decode cX3_startBlock 0 = .ok (.aload_n 0, 1) := by decide +kernel
theorem dX3_startBlock_1 : decode cX3_startBlock 1 = .ok (.iconst 0, 1) := by decide +kernel
theorem dX3_startBlock_2 : decode cX3_startBlock 2 = .ok (.putfield 29, 3) := by decide +kernel
theorem dX3_startBlock_5 : decode cX3_startBlock 5 = .ok (.aload_n 0, 1) := by decide +kernel
theorem dX3_startBlock_6 : decode cX3_startBlock 6 = .ok (.dup, 1) := by decide +kernel
theorem dX3_startBlock_7 : decode cX3_startBlock 7 = .ok (.getfield 22, 3) := by decide +kernel
theorem dX3_startBlock_10 : decode cX3_startBlock 10 = .ok (.iconst 1, 1) := by decide +kernel
theorem dX3_startBlock_11 : decode cX3_startBlock 11 = .ok (.iadd, 1) := by decide +kernel
theorem dX3_startBlock_12 : decode cX3_startBlock 12 = .ok (.putfield 22, 3) := by decide +kernel
theorem dX3_startBlock_15 : decode cX3_startBlock 15 = .ok (.aload_n 0, 1) := by decide +kernel
theorem dX3_startBlock_16 : decode cX3_startBlock 16 = .ok (.iload_n 1, 1) := by decide +kernel
theorem dX3_startBlock_17 : decode cX3_startBlock 17 = .ok (.invokevirtual 124, 3) := by decide +kernel
theorem dX3_startBlock_20 : decode cX3_startBlock 20 = .ok (.ireturn, 1) := by decide +kernel
theorem dX3_innermost_0 : decode cX3_innermost 0 = .ok (.aload_n 0, 1) := by decide +kernel
theorem dX3_innermost_1 : decode cX3_innermost 1 = .ok (.getfield 19, 3) := by decide +kernel
theorem dX3_innermost_4 : decode cX3_innermost 4 = .ok (.ifCond .le 29, 3) := by decide +kernel
theorem dX3_innermost_7 : decode cX3_innermost 7 = .ok (.aload_n 0, 1) := by decide +kernel
theorem dX3_innermost_8 : decode cX3_innermost 8 = .ok (.getfield 19, 3) := by decide +kernel
theorem dX3_innermost_11 : decode cX3_innermost 11 = .ok (.aload_n 0, 1) := by decide +kernel
theorem dX3_innermost_12 : decode cX3_innermost 12 = .ok (.getfield 9, 3) := by decide +kernel
theorem dX3_innermost_15 : decode cX3_innermost 15 = .ok (.arraylength, 1) := by decide +kernel
theorem dX3_innermost_16 : decode cX3_innermost 16 = .ok (.if_icmp .gt 17, 3) := by decide +kernel
theorem dX3_innermost_19 : decode cX3_innermost 19 = .ok (.aload_n 0, 1) := by decide +kernel
theorem dX3_innermost_20 : decode cX3_innermost 20 = .ok (.getfield 9, 3) := by decide +kernel
theorem dX3_innermost_23 : decode cX3_innermost 23 = .ok (.aload_n 0, 1) := by decide +kernel
theorem dX3_innermost_24 : decode cX3_innermost 24 = .ok (.getfield 19, 3) := by decide +kernel
theorem dX3_innermost_27 : decode cX3_innermost 27 = .ok (.iconst 1, 1) := by decide +kernel
theorem dX3_innermost_28 : decode cX3_innermost 28 = .ok (.isub, 1) := by decide +kernel
theorem dX3_innermost_29 : decode cX3_innermost 29 = .ok (.iaload, 1) := by decide +kernel
theorem dX3_innermost_30 : decode cX3_innermost 30 = .ok (.goto 4, 3) := by decide +kernel
theorem dX3_innermost_33 : decode cX3_innermost 33 = .ok (.iconst (-1), 1) := by decide +kernel
theorem dX3_innermost_34 : decode cX3_innermost 34 = .ok (.ireturn, 1) := by decide +kernel
theorem dX3_push_0 : decode cX3_push 0 = .ok (.aload_n 0, 1) := by decide +kernel
theorem dX3_push_1 : decode cX3_push 1 = .ok (.getfield 19, 3) := by decide +kernel
theorem dX3_push_4 : decode cX3_push 4 = .ok (.aload_n 0, 1) := by decide +kernel
theorem dX3_push_5 : decode cX3_push 5 = .ok (.getfield 9, 3) := by decide +kernel
theorem dX3_push_8 : decode cX3_push 8 = .ok (.arraylength, 1) := by decide +kernel
theorem dX3_push_9 : decode cX3_push 9 = .ok (.if_icmp .ge 26, 3) := by decide +kernel
theorem dX3_push_12 : decode cX3_push 12 = .ok (.aload_n 0, 1) := by decide +kernel
theorem dX3_push_13 : decode cX3_push 13 = .ok (.getfield 9, 3) := by decide +kernel
theorem dX3_push_16 : decode cX3_push 16 = .ok (.aload_n 0, 1) := by decide +kernel
theorem dX3_push_17 : decode cX3_push 17 = .ok (.getfield 19, 3) := by decide +kernel
theorem dX3_push_20 : decode cX3_push 20 = .ok (.iload_n 1, 1) := by decide +kernel
theorem dX3_push_21 : decode cX3_push 21 = .ok (.iastore, 1) := by decide +kernel
theorem dX3_push_22 : decode cX3_push 22 = .ok (.aload_n 0, 1) := by decide +kernel
theorem dX3_push_23 : decode cX3_push 23 = .ok (.dup, 1) := by decide +kernel
theorem dX3_push_24 : decode cX3_push 24 = .ok (.getfield 19, 3) := by decide +kernel
theorem dX3_push_27 : decode cX3_push 27 = .ok (.iconst 1, 1) := by decide +kernel
theorem dX3_push_28 : decode cX3_push 28 = .ok (.iadd, 1) := by decide +kernel
theorem dX3_push_29 : decode cX3_push 29 = .ok (.putfield 19, 3) := by decide +kernel
theorem dX3_push_32 : decode cX3_push 32 = .ok (.goto 8, 3) := by decide +kernel
theorem dX3_push_35 : decode cX3_push 35 = .ok (.aload_n 0, 1) := by decide +kernel
theorem dX3_push_36 : decode cX3_push 36 = .ok (.iconst 1, 1) := by decide +kernel
theorem dX3_push_37 : decode cX3_push 37 = .ok (.putfield 25, 3) := by decide +kernel
theorem dX3_push_40 : decode cX3_push 40 = .ok (.iconst 1, 1) := by decide +kernel
theorem dX3_push_41 : decode cX3_push 41 = .ok (.ireturn, 1) := by decide +kernel
theorem dX3_endBracket_0 : decode cX3_endBracket 0 = .ok (.aload_n 0, 1) := by decide +kernel
theorem dX3_endBracket_1 : decode cX3_endBracket 1 = .ok (.aload_n 0, 1) := by decide +kernel
theorem dX3_endBracket_2 : decode cX3_endBracket 2 = .ok (.invokevirtual 149, 3) := by decide +kernel
theorem dX3_endBracket_5 : decode cX3_endBracket 5 = .ok (.iconst 1, 1) := by decide +kernel
theorem dX3_endBracket_6 : decode cX3_endBracket 6 = .ok (.if_icmp .ne 8, 3) := by decide +kernel
theorem dX3_endBracket_9 : decode cX3_endBracket 9 = .ok (.bipush 8, 2) := by decide +kernel
theorem dX3_endBracket_11 : decode cX3_endBracket 11 = .ok (.goto 5, 3) := by decide +kernel
theorem dX3_endBracket_14 : decode cX3_endBracket 14 = .ok (.bipush 7, 2) := by decide +kernel
theorem dX3_endBracket_16 : decode cX3_endBracket 16 = .ok (.putfield 29, 3) := by decide +kernel
theorem dX3_endBracket_19 : decode cX3_endBracket 19 = .ok (.aload_n 0, 1) := by decide +kernel
theorem dX3_endBracket_20 : decode cX3_endBracket 20 = .ok (.dup, 1) := by decide +kernel
theorem dX3_endBracket_21 : decode cX3_endBracket 21 = .ok (.getfield 19, 3) := by decide +kernel
theorem dX3_endBracket_24 : decode cX3_endBracket 24 = .ok (.iconst 1, 1) := by decide +kernel
theorem dX3_endBracket_25 : decode cX3_endBracket 25 = .ok (.isub, 1) := by decide +kernel
theorem dX3_endBracket_26 : decode cX3_endBracket 26 = .ok (.putfield 19, 3) := by decide +kernel
theorem dX3_endBracket_29 : decode cX3_endBracket 29 = .ok (.iconst 1, 1) := by decide +kernel
theorem dX3_endBracket_30 : decode cX3_endBracket 30 = .ok (.ireturn, 1) := by decide +kernel
theorem dX3_endBlock_0 : decode cX3_endBlock 0 = .ok (.aload_n 0, 1) := by decide +kernel
theorem dX3_endBlock_1 : decode cX3_endBlock 1 = .ok (.invokevirtual 149, 3) := by decide +kernel
theorem dX3_endBlock_4 : decode cX3_endBlock 4 = .ok (.istore_n 1, 1) := by decide +kernel
theorem dX3_endBlock_5 : decode cX3_endBlock 5 = .ok (.iload_n 1, 1) := by decide +kernel
theorem dX3_endBlock_6 : decode cX3_endBlock 6 = .ok (.iconst (-1), 1) := by decide +kernel
theorem dX3_endBlock_7 : decode cX3_endBlock 7 = .ok (.if_icmp .ne 5, 3) := by decide +kernel
theorem dX3_endBlock_10 : decode cX3_endBlock 10 = .ok (.iconst 0, 1) := by decide +kernel
theorem dX3_endBlock_11 : decode cX3_endBlock 11 = .ok (.ireturn, 1) := by decide +kernel
theorem dX3_endBlock_12 : decode cX3_endBlock 12 = .ok (.aload_n 0, 1) := by decide +kernel
theorem dX3_endBlock_13 : decode cX3_endBlock 13 = .ok (.dup, 1) := by decide +kernel
theorem dX3_endBlock_14 : decode cX3_endBlock 14 = .ok (.getfield 19, 3) := by decide +kernel
theorem dX3_endBlock_17 : decode cX3_endBlock 17 = .ok (.iconst 1, 1) := by decide +kernel
theorem dX3_endBlock_18 : decode cX3_endBlock 18 = .ok (.isub, 1) := by decide +kernel
theorem dX3_endBlock_19 : decode cX3_endBlock 19 = .ok (.putfield 19, 3) := by decide +kernel
theorem dX3_endBlock_22 : decode cX3_endBlock 22 = .ok (.aload_n 0, 1) := by decide +kernel
theorem dX3_endBlock_23 : decode cX3_endBlock 23 = .ok (.dup, 1) := by decide +kernel
theorem dX3_endBlock_24 : decode cX3_endBlock 24 = .ok (.getfield 22, 3) := by decide +kernel
theorem dX3_endBlock_27 : decode cX3_endBlock 27 = .ok (.iconst 1, 1) := by decide +kernel
theorem dX3_endBlock_28 : decode cX3_endBlock 28 = .ok (.isub, 1) := by decide +kernel
theorem dX3_endBlock_29 : decode cX3_endBlock 29 = .ok (.putfield 22, 3) := by decide +kernel
theorem dX3_endBlock_32 : decode cX3_endBlock 32 = .ok (.aload_n 0, 1) := by decide +kernel
theorem dX3_endBlock_33 : decode cX3_endBlock 33 = .ok (.iload_n 1, 1) := by decide +kernel
theorem dX3_endBlock_34 : decode cX3_endBlock 34 = .ok (.iconst 4, 1) := by decide +kernel
theorem dX3_endBlock_35 : decode cX3_endBlock 35 = .ok (.if_icmp .ne 7, 3) := by decide +kernel
theorem dX3_endBlock_38 : decode cX3_endBlock 38 = .ok (.iconst 3, 1) := by decide +kernel
theorem dX3_endBlock_39 : decode cX3_endBlock 39 = .ok (.goto 4, 3) := by decide +kernel
theorem dX3_endBlock_42 : decode cX3_endBlock 42 = .ok (.iconst 2, 1) := by decide +kernel
theorem dX3_endBlock_43 : decode cX3_endBlock 43 = .ok (.putfield 32, 3) := by decide +kernel
theorem dX3_endBlock_46 : decode cX3_endBlock 46 = .ok (.aload_n 0, 1) := by decide +kernel
theorem dX3_endBlock_47 : decode cX3_endBlock 47 = .ok (.iload_n 1, 1) := by decide +kernel
theorem dX3_endBlock_48 : decode cX3_endBlock 48 = .ok (.iconst 2, 1) := by decide +kernel
theorem dX3_endBlock_49 : decode cX3_endBlock 49 = .ok (.if_icmp .ne 7, 3) := by decide +kernel
theorem dX3_endBlock_52 : decode cX3_endBlock 52 = .ok (.iconst 1, 1) := by decide +kernel
theorem dX3_endBlock_53 : decode cX3_endBlock 53 = .ok (.goto 4, 3) := by decide +kernel
theorem dX3_endBlock_56 : decode cX3_endBlock 56 = .ok (.iconst 0, 1) := by decide +kernel
theorem dX3_endBlock_57 : decode cX3_endBlock 57 = .ok (.putfield 29, 3) := by decide +kernel
theorem dX3_endBlock_60 : decode cX3_endBlock 60 = .ok (.iconst 1, 1) := by decide +kernel
theorem dX3_endBlock_61 : decode cX3_endBlock 61 = .ok (.ireturn, 1) := by decide +kernel
theorem dX4_init_0 : decode cX4_init 0 = .ok (.aload_n 0, 1) := by decide +kernel
theorem dX4_init_1 : decode cX4_init 1 = .ok (.invokespecial 3, 3) := by decide +kernel
theorem dX4_init_4 : decode cX4_init 4 = .ok (.aload_n 0, 1) := by decide +kernel
theorem dX4_init_5 : decode cX4_init 5 = .ok (.iconst 3, 1) := by decide +kernel
theorem dX4_init_6 : decode cX4_init 6 = .ok (.newarray .int, 2) := by decide +kernel
theorem dX4_init_8 : decode cX4_init 8 = .ok (.putfield 9, 3) := by decide +kernel
theorem dX4_init_11 : decode cX4_init 11 = .ok (.aload_n 0, 1) := by decide +kernel
theorem dX4_init_12 : decode cX4_init 12 = .ok (.sipush 300, 3) := by decide +kernel
theorem dX4_init_15 : decode cX4_init 15 = .ok (.newarray .int, 2) := by decide +kernel
theorem dX4_init_17 : decode cX4_init 17 = .ok (.putfield 15, 3) := by decide +kernel
theorem dX4_init_20 : decode cX4_init 20 = .ok (.return_, 1) := by decide +kernel
theorem dX4_clear_0 : decode cX4_clear 0 = .ok (.aload_n 0, 1) := by decide +kernel
theorem dX4_clear_1 : decode cX4_clear 1 = .ok (.getfield 9, 3) := by decide +kernel
theorem dX4_clear_4 : decode cX4_clear 4 = .ok (.iconst 0, 1) := by decide +kernel
theorem dX4_clear_5 : decode cX4_clear 5 = .ok (.invokestatic 18, 3) := by decide +kernel
theorem dX4_clear_8 : decode cX4_clear 8 = .ok (.aload_n 0, 1) := by decide +kernel
theorem dX4_clear_9 : decode cX4_clear 9 = .ok (.getfield 15, 3) := by decide +kernel
theorem dX4_clear_12 : decode cX4_clear 12 = .ok (.iconst 0, 1) := by decide +kernel
theorem dX4_clear_13 : decode cX4_clear 13 = .ok (.invokestatic 18, 3) := by decide +kernel
theorem dX4_clear_16 : decode cX4_clear 16 = .ok (.return_, 1) := by decide +kernel
theorem dX4_count_0 : decode cX4_count 0 = .ok (.iconst 0, 1) := by decide +kernel
theorem dX4_count_1 : decode cX4_count 1 = .ok (.istore 4, 2) := by decide +kernel
theorem dX4_count_3 : decode cX4_count 3 = .ok (.iload 4, 2) := by decide +kernel
theorem dX4_count_5 : decode cX4_count 5 = .ok (.iconst 3, 1) := by decide +kernel
theorem dX4_count_6 : decode cX4_count 6 = .ok (.if_icmp .ge 37, 3) := by decide +kernel
theorem dX4_count_9 : decode cX4_count 9 = .ok (.iload_n 1, 1) := by decide +kernel
theorem dX4_count_10 : decode cX4_count 10 = .ok (.iload 4, 2) := by decide +kernel
theorem dX4_count_12 : decode cX4_count 12 = .ok (.invokestatic 24, 3) := by decide +kernel
theorem dX4_count_15 : decode cX4_count 15 = .ok (.iload_n 3, 1) := by decide +kernel
theorem dX4_count_16 : decode cX4_count 16 = .ok (.if_icmp .eq 21, 3) := by decide +kernel
theorem dX4_count_19 : decode cX4_count 19 = .ok (.aload_n 0, 1) := by decide +kernel
theorem dX4_count_20 : decode cX4_count 20 = .ok (.getfield 9, 3) := by decide +kernel
theorem dX4_count_23 : decode cX4_count 23 = .ok (.iload 4, 2) := by decide +kernel
theorem dX4_count_25 : decode cX4_count 25 = .ok (.dup2, 1) := by decide +kernel
theorem dX4_count_26 : decode cX4_count 26 = .ok (.iaload, 1) := by decide +kernel
theorem dX4_count_27 : decode cX4_count 27 = .ok (.iconst 1, 1) := by decide +kernel
theorem dX4_count_28 : decode cX4_count 28 = .ok (.iadd, 1) := by decide +kernel
theorem dX4_count_29 : decode cX4_count 29 = .ok (.iastore, 1) := by decide +kernel
theorem dX4_count_30 : decode cX4_count 30 = .ok (.aload_n 0, 1) := by decide +kernel
theorem dX4_count_31 : decode cX4_count 31 = .ok (.iload_n 2, 1) := by decide +kernel
theorem dX4_count_32 : decode cX4_count 32 = .ok (.iload 4, 2) := by decide +kernel
theorem dX4_count_34 : decode cX4_count 34 = .ok (.invokevirtual 28, 3) := by decide +kernel
theorem dX4_count_37 : decode cX4_count 37 = .ok (.iinc 4 1, 3) := by decide +kernel
theorem dX4_count_40 : decode cX4_count 40 = .ok (.goto (-37), 3) := by decide +kernel
theorem dX4_count_43 : decode cX4_count 43 = .ok (.return_, 1) := by decide +kernel
theorem dX4_countWrong_0 : decode cX4_countWrong 0 = .ok (.iconst 0, 1) := by decide +kernel
theorem dX4_countWrong_1 : decode cX4_countWrong 1 = .ok (.istore_n 3, 1) := by decide +kernel
theorem dX4_countWrong_2 : decode cX4_countWrong 2 = .ok (.iload_n 3, 1) := by decide +kernel
theorem dX4_countWrong_3 : decode cX4_countWrong 3 = .ok (.bipush 10, 2) := by decide +kernel
theorem dX4_countWrong_5 : decode cX4_countWrong 5 = .ok (.if_icmp .ge 64, 3) := by decide +kernel
theorem dX4_countWrong_8 : decode cX4_countWrong 8 = .ok (.iload_n 1, 1) := by decide +kernel
theorem dX4_countWrong_9 : decode cX4_countWrong 9 = .ok (.iload_n 3, 1) := by decide +kernel
theorem dX4_countWrong_10 : decode cX4_countWrong 10 = .ok (.ishr, 1) := by decide +kernel
theorem dX4_countWrong_11 : decode cX4_countWrong 11 = .ok (.iconst 1, 1) := by decide +kernel
theorem dX4_countWrong_12 : decode cX4_countWrong 12 = .ok (.iand, 1) := by decide +kernel
theorem dX4_countWrong_13 : decode cX4_countWrong 13 = .ok (.iconst 1, 1) := by decide +kernel
theorem dX4_countWrong_14 : decode cX4_countWrong 14 = .ok (.if_icmp .ne 49, 3) := by decide +kernel
theorem dX4_countWrong_17 : decode cX4_countWrong 17 = .ok (.iconst 0, 1) := by decide +kernel
theorem dX4_countWrong_18 : decode cX4_countWrong 18 = .ok (.istore 4, 2) := by decide +kernel
theorem dX4_countWrong_20 : decode cX4_countWrong 20 = .ok (.iload 4, 2) := by decide +kernel
theorem dX4_countWrong_22 : decode cX4_countWrong 22 = .ok (.bipush 10, 2) := by decide +kernel
theorem dX4_countWrong_24 : decode cX4_countWrong 24 = .ok (.if_icmp .ge 39, 3) := by decide +kernel
theorem dX4_countWrong_27 : decode cX4_countWrong 27 = .ok (.iload_n 1, 1) := by decide +kernel
theorem dX4_countWrong_28 : decode cX4_countWrong 28 = .ok (.iload 4, 2) := by decide +kernel
theorem dX4_countWrong_30 : decode cX4_countWrong 30 = .ok (.ishr, 1) := by decide +kernel
theorem dX4_countWrong_31 : decode cX4_countWrong 31 = .ok (.iconst 1, 1) := by decide +kernel
theorem dX4_countWrong_32 : decode cX4_countWrong 32 = .ok (.iand, 1) := by decide +kernel
theorem dX4_countWrong_33 : decode cX4_countWrong 33 = .ok (.iconst 1, 1) := by decide +kernel
theorem dX4_countWrong_34 : decode cX4_countWrong 34 = .ok (.if_icmp .ne 23, 3) := by decide +kernel
theorem dX4_countWrong_37 : decode cX4_countWrong 37 = .ok (.aload_n 0, 1) := by decide +kernel
theorem dX4_countWrong_38 : decode cX4_countWrong 38 = .ok (.getfield 15, 3) := by decide +kernel
theorem dX4_countWrong_41 : decode cX4_countWrong 41 = .ok (.iload_n 3, 1) := by decide +kernel
theorem dX4_countWrong_42 : decode cX4_countWrong 42 = .ok (.bipush 10, 2) := by decide +kernel
theorem dX4_countWrong_44 : decode cX4_countWrong 44 = .ok (.imul, 1) := by decide +kernel
theorem dX4_countWrong_45 : decode cX4_countWrong 45 = .ok (.iload 4, 2) := by decide +kernel
theorem dX4_countWrong_47 : decode cX4_countWrong 47 = .ok (.iadd, 1) := by decide +kernel
theorem dX4_countWrong_48 : decode cX4_countWrong 48 = .ok (.iconst 3, 1) := by decide +kernel
theorem dX4_countWrong_49 : decode cX4_countWrong 49 = .ok (.imul, 1) := by decide +kernel
theorem dX4_countWrong_50 : decode cX4_countWrong 50 = .ok (.iload_n 2, 1) := by decide +kernel
theorem dX4_countWrong_51 : decode cX4_countWrong 51 = .ok (.iadd, 1) := by decide +kernel
theorem dX4_countWrong_52 : decode cX4_countWrong 52 = .ok (.dup2, 1) := by decide +kernel
theorem dX4_countWrong_53 : decode cX4_countWrong 53 = .ok (.iaload, 1) := by decide +kernel
theorem dX4_countWrong_54 : decode cX4_countWrong 54 = .ok (.iconst 1, 1) := by decide +kernel
theorem dX4_countWrong_55 : decode cX4_countWrong 55 = .ok (.iadd, 1) := by decide +kernel
theorem dX4_countWrong_56 : decode cX4_countWrong 56 = .ok (.iastore, 1) := by decide +kernel
theorem dX4_countWrong_57 : decode cX4_countWrong 57 = .ok (.iinc 4 1, 3) := by decide +kernel
theorem dX4_countWrong_60 : decode cX4_countWrong 60 = .ok (.goto (-40), 3) := by decide +kernel
theorem dX4_countWrong_63 : decode cX4_countWrong 63 = .ok (.iinc 3 1, 3) := by decide +kernel
theorem dX4_countWrong_66 : decode cX4_countWrong 66 = .ok (.goto (-64), 3) := by decide +kernel
theorem dX4_countWrong_69 : decode cX4_countWrong 69 = .ok (.return_, 1) := by decide +kernel
theorem dX4_wrongWhere_0 : decode cX4_wrongWhere 0 = .ok (.iload_n 1, 1) := by decide +kernel
theorem dX4_wrongWhere_1 : decode cX4_wrongWhere 1 = .ok (.ifCond .lt 19, 3) := by decide +kernel
theorem dX4_wrongWhere_4 : decode cX4_wrongWhere 4 = .ok (.iload_n 1, 1) := by decide +kernel
theorem dX4_wrongWhere_5 : decode cX4_wrongWhere 5 = .ok (.bipush 10, 2) := by decide +kernel
theorem dX4_wrongWhere_7 : decode cX4_wrongWhere 7 = .ok (.if_icmp .ge 13, 3) := by decide +kernel
theorem dX4_wrongWhere_10 : decode cX4_wrongWhere 10 = .ok (.iload_n 2, 1) := by decide +kernel
theorem dX4_wrongWhere_11 : decode cX4_wrongWhere 11 = .ok (.ifCond .lt 9, 3) := by decide +kernel
theorem dX4_wrongWhere_14 : decode cX4_wrongWhere 14 = .ok (.iload_n 2, 1) := by decide +kernel
theorem dX4_wrongWhere_15 : decode cX4_wrongWhere 15 = .ok (.bipush 10, 2) := by decide +kernel
theorem dX4_wrongWhere_17 : decode cX4_wrongWhere 17 = .ok (.if_icmp .lt 5, 3) := by decide +kernel
theorem dX4_wrongWhere_20 : decode cX4_wrongWhere 20 = .ok (.iconst 0, 1) := by decide +kernel
theorem dX4_wrongWhere_21 : decode cX4_wrongWhere 21 = .ok (.ireturn, 1) := by decide +kernel
theorem dX4_wrongWhere_22 : decode cX4_wrongWhere 22 = .ok (.aload_n 0, 1) := by decide +kernel
theorem dX4_wrongWhere_23 : decode cX4_wrongWhere 23 = .ok (.getfield 15, 3) := by decide +kernel
theorem dX4_wrongWhere_26 : decode cX4_wrongWhere 26 = .ok (.iload_n 1, 1) := by decide +kernel
theorem dX4_wrongWhere_27 : decode cX4_wrongWhere 27 = .ok (.bipush 10, 2) := by decide +kernel
theorem dX4_wrongWhere_29 : decode cX4_wrongWhere 29 = .ok (.imul, 1) := by decide +kernel
theorem dX4_wrongWhere_30 : decode cX4_wrongWhere 30 = .ok (.iload_n 2, 1) := by decide +kernel
theorem dX4_wrongWhere_31 : decode cX4_wrongWhere 31 = .ok (.iadd, 1) := by decide +kernel
theorem dX4_wrongWhere_32 : decode cX4_wrongWhere 32 = .ok (.iconst 3, 1) := by decide +kernel
theorem dX4_wrongWhere_33 : decode cX4_wrongWhere 33 = .ok (.imul, 1) := by decide +kernel
theorem dX4_wrongWhere_34 : decode cX4_wrongWhere 34 = .ok (.iload_n 3, 1) := by decide +kernel
theorem dX4_wrongWhere_35 : decode cX4_wrongWhere 35 = .ok (.iadd, 1) := by decide +kernel
theorem dX4_wrongWhere_36 : decode cX4_wrongWhere 36 = .ok (.iaload, 1) := by decide +kernel
theorem dX4_wrongWhere_37 : decode cX4_wrongWhere 37 = .ok (.ireturn, 1) := by decide +kernel
theorem dX4_wrongByFirst_0 : decode cX4_wrongByFirst 0 = .ok (.aload_n 0, 1) := by decide +kernel
theorem dX4_wrongByFirst_1 : decode cX4_wrongByFirst 1 = .ok (.iload_n 1, 1) := by decide +kernel
theorem dX4_wrongByFirst_2 : decode cX4_wrongByFirst 2 = .ok (.iload_n 1, 1) := by decide +kernel
theorem dX4_wrongByFirst_3 : decode cX4_wrongByFirst 3 = .ok (.iload_n 2, 1) := by decide +kernel
theorem dX4_wrongByFirst_4 : decode cX4_wrongByFirst 4 = .ok (.invokevirtual 32, 3) := by decide +kernel
theorem dX4_wrongByFirst_7 : decode cX4_wrongByFirst 7 = .ok (.ireturn, 1) := by decide +kernel
theorem dX4_wrongBySecond_0 : decode cX4_wrongBySecond 0 = .ok (.aload_n 0, 1) := by decide +kernel
theorem dX4_wrongBySecond_1 : decode cX4_wrongBySecond 1 = .ok (.iload_n 2, 1) := by decide +kernel
theorem dX4_wrongBySecond_2 : decode cX4_wrongBySecond 2 = .ok (.iload_n 2, 1) := by decide +kernel
theorem dX4_wrongBySecond_3 : decode cX4_wrongBySecond 3 = .ok (.iload_n 3, 1) := by decide +kernel
theorem dX4_wrongBySecond_4 : decode cX4_wrongBySecond 4 = .ok (.invokevirtual 32, 3) := by decide +kernel
theorem dX4_wrongBySecond_7 : decode cX4_wrongBySecond 7 = .ok (.aload_n 0, 1) := by decide +kernel
theorem dX4_wrongBySecond_8 : decode cX4_wrongBySecond 8 = .ok (.iload_n 1, 1) := by decide +kernel
theorem dX4_wrongBySecond_9 : decode cX4_wrongBySecond 9 = .ok (.iload_n 2, 1) := by decide +kernel
theorem dX4_wrongBySecond_10 : decode cX4_wrongBySecond 10 = .ok (.iload_n 3, 1) := by decide +kernel
theorem dX4_wrongBySecond_11 : decode cX4_wrongBySecond 11 = .ok (.invokevirtual 32, 3) := by decide +kernel
theorem dX4_wrongBySecond_14 : decode cX4_wrongBySecond 14 = .ok (.isub, 1) := by decide +kernel
theorem dX4_wrongBySecond_15 : decode cX4_wrongBySecond 15 = .ok (.ireturn, 1) := by decide +kernel
theorem dX4_wrongByLast_0 : decode cX4_wrongByLast 0 = .ok (.aload_n 0, 1) := by decide +kernel
theorem dX4_wrongByLast_1 : decode cX4_wrongByLast 1 = .ok (.getfield 9, 3) := by decide +kernel
theorem dX4_wrongByLast_4 : decode cX4_wrongByLast 4 = .ok (.iload_n 3, 1) := by decide +kernel
theorem dX4_wrongByLast_5 : decode cX4_wrongByLast 5 = .ok (.iaload, 1) := by decide +kernel
theorem dX4_wrongByLast_6 : decode cX4_wrongByLast 6 = .ok (.aload_n 0, 1) := by decide +kernel
theorem dX4_wrongByLast_7 : decode cX4_wrongByLast 7 = .ok (.iload_n 1, 1) := by decide +kernel
theorem dX4_wrongByLast_8 : decode cX4_wrongByLast 8 = .ok (.iload_n 3, 1) := by decide +kernel
theorem dX4_wrongByLast_9 : decode cX4_wrongByLast 9 = .ok (.invokevirtual 36, 3) := by decide +kernel
theorem dX4_wrongByLast_12 : decode cX4_wrongByLast 12 = .ok (.isub, 1) := by decide +kernel
theorem dX4_wrongByLast_13 : decode cX4_wrongByLast 13 = .ok (.aload_n 0, 1) := by decide +kernel
theorem dX4_wrongByLast_14 : decode cX4_wrongByLast 14 = .ok (.iload_n 1, 1) := by decide +kernel
theorem dX4_wrongByLast_15 : decode cX4_wrongByLast 15 = .ok (.iload_n 2, 1) := by decide +kernel
theorem dX4_wrongByLast_16 : decode cX4_wrongByLast 16 = .ok (.iload_n 3, 1) := by decide +kernel
theorem dX4_wrongByLast_17 : decode cX4_wrongByLast 17 = .ok (.invokevirtual 39, 3) := by decide +kernel
theorem dX4_wrongByLast_20 : decode cX4_wrongByLast 20 = .ok (.isub, 1) := by decide +kernel
theorem dX4_wrongByLast_21 : decode cX4_wrongByLast 21 = .ok (.ireturn, 1) := by decide +kernel
theorem dX4_search_0 : decode cX4_search 0 = .ok (.aload_n 0, 1) := by decide +kernel
theorem dX4_search_1 : decode cX4_search 1 = .ok (.iload_n 2, 1) := by decide +kernel
theorem dX4_search_2 : decode cX4_search 2 = .ok (.putfield 42, 3) := by decide +kernel
theorem dX4_search_5 : decode cX4_search 5 = .ok (.aload_n 0, 1) := by decide +kernel
theorem dX4_search_6 : decode cX4_search 6 = .ok (.iload_n 3, 1) := by decide +kernel
theorem dX4_search_7 : decode cX4_search 7 = .ok (.putfield 46, 3) := by decide +kernel
theorem dX4_search_10 : decode cX4_search 10 = .ok (.aload_n 0, 1) := by decide +kernel
theorem dX4_search_11 : decode cX4_search 11 = .ok (.aload_n 1, 1) := by decide +kernel
theorem dX4_search_12 : decode cX4_search 12 = .ok (.iconst 0, 1) := by decide +kernel
theorem dX4_search_13 : decode cX4_search 13 = .ok (.iconst (-1), 1) := by decide +kernel
theorem dX4_search_14 : decode cX4_search 14 = .ok (.iconst (-1), 1) := by decide +kernel
theorem dX4_search_15 : decode cX4_search 15 = .ok (.invokevirtual 49, 3) := by decide +kernel
theorem dX4_search_18 : decode cX4_search 18 = .ok (.iconst 0, 1) := by decide +kernel
theorem dX4_search_19 : decode cX4_search 19 = .ok (.istore 4, 2) := by decide +kernel
theorem dX4_search_21 : decode cX4_search 21 = .ok (.iload 4, 2) := by decide +kernel
theorem dX4_search_23 : decode cX4_search 23 = .ok (.bipush 10, 2) := by decide +kernel
theorem dX4_search_25 : decode cX4_search 25 = .ok (.if_icmp .ge 29, 3) := by decide +kernel
theorem dX4_search_28 : decode cX4_search 28 = .ok (.aload_n 0, 1) := by decide +kernel
theorem dX4_search_29 : decode cX4_search 29 = .ok (.getfield 42, 3) := by decide +kernel
theorem dX4_search_32 : decode cX4_search 32 = .ok (.aload_n 1, 1) := by decide +kernel
theorem dX4_search_33 : decode cX4_search 33 = .ok (.getfield 53, 3) := by decide +kernel
theorem dX4_search_36 : decode cX4_search 36 = .ok (.if_icmp .ge 18, 3) := by decide +kernel
theorem dX4_search_39 : decode cX4_search 39 = .ok (.aload_n 0, 1) := by decide +kernel
theorem dX4_search_40 : decode cX4_search 40 = .ok (.aload_n 1, 1) := by decide +kernel
theorem dX4_search_41 : decode cX4_search 41 = .ok (.iconst 1, 1) := by decide +kernel
theorem dX4_search_42 : decode cX4_search 42 = .ok (.iload 4, 2) := by decide +kernel
theorem dX4_search_44 : decode cX4_search 44 = .ok (.iconst (-1), 1) := by decide +kernel
theorem dX4_search_45 : decode cX4_search 45 = .ok (.invokevirtual 49, 3) := by decide +kernel
theorem dX4_search_48 : decode cX4_search 48 = .ok (.iinc 4 1, 3) := by decide +kernel
theorem dX4_search_51 : decode cX4_search 51 = .ok (.goto (-30), 3) := by decide +kernel
theorem dX4_search_54 : decode cX4_search 54 = .ok (.iconst 0, 1) := by decide +kernel
theorem dX4_search_55 : decode cX4_search 55 = .ok (.istore 4, 2) := by decide +kernel
theorem dX4_search_57 : decode cX4_search 57 = .ok (.iload 4, 2) := by decide +kernel
theorem dX4_search_59 : decode cX4_search 59 = .ok (.bipush 10, 2) := by decide +kernel
theorem dX4_search_61 : decode cX4_search 61 = .ok (.if_icmp .ge 29, 3) := by decide +kernel
theorem dX4_search_64 : decode cX4_search 64 = .ok (.iconst 2, 1) := by decide +kernel
theorem dX4_search_65 : decode cX4_search 65 = .ok (.aload_n 0, 1) := by decide +kernel
theorem dX4_search_66 : decode cX4_search 66 = .ok (.getfield 42, 3) := by decide +kernel
theorem dX4_search_69 : decode cX4_search 69 = .ok (.imul, 1) := by decide +kernel
theorem dX4_search_70 : decode cX4_search 70 = .ok (.aload_n 1, 1) := by decide +kernel
theorem dX4_search_71 : decode cX4_search 71 = .ok (.getfield 53, 3) := by decide +kernel
theorem dX4_search_74 : decode cX4_search 74 = .ok (.if_icmp .ge 16, 3) := by decide +kernel
theorem dX4_search_77 : decode cX4_search 77 = .ok (.aload_n 0, 1) := by decide +kernel
theorem dX4_search_78 : decode cX4_search 78 = .ok (.aload_n 1, 1) := by decide +kernel
theorem dX4_search_79 : decode cX4_search 79 = .ok (.iload 4, 2) := by decide +kernel
theorem dX4_search_81 : decode cX4_search 81 = .ok (.invokevirtual 58, 3) := by decide +kernel
theorem dX4_search_84 : decode cX4_search 84 = .ok (.iinc 4 1, 3) := by decide +kernel
theorem dX4_search_87 : decode cX4_search 87 = .ok (.goto (-30), 3) := by decide +kernel
theorem dX4_search_90 : decode cX4_search 90 = .ok (.return_, 1) := by decide +kernel
theorem dX4_weighTwo_0 : decode cX4_weighTwo 0 = .ok (.iconst 0, 1) := by decide +kernel
theorem dX4_weighTwo_1 : decode cX4_weighTwo 1 = .ok (.istore_n 3, 1) := by decide +kernel
theorem dX4_weighTwo_2 : decode cX4_weighTwo 2 = .ok (.iload_n 3, 1) := by decide +kernel
theorem dX4_weighTwo_3 : decode cX4_weighTwo 3 = .ok (.bipush 10, 2) := by decide +kernel
theorem dX4_weighTwo_5 : decode cX4_weighTwo 5 = .ok (.if_icmp .ge 22, 3) := by decide +kernel
theorem dX4_weighTwo_8 : decode cX4_weighTwo 8 = .ok (.iload_n 3, 1) := by decide +kernel
theorem dX4_weighTwo_9 : decode cX4_weighTwo 9 = .ok (.iload_n 2, 1) := by decide +kernel
theorem dX4_weighTwo_10 : decode cX4_weighTwo 10 = .ok (.if_icmp .eq 11, 3) := by decide +kernel
theorem dX4_weighTwo_13 : decode cX4_weighTwo 13 = .ok (.aload_n 0, 1) := by decide +kernel
theorem dX4_weighTwo_14 : decode cX4_weighTwo 14 = .ok (.aload_n 1, 1) := by decide +kernel
theorem dX4_weighTwo_15 : decode cX4_weighTwo 15 = .ok (.iconst 2, 1) := by decide +kernel
theorem dX4_weighTwo_16 : decode cX4_weighTwo 16 = .ok (.iload_n 2, 1) := by decide +kernel
theorem dX4_weighTwo_17 : decode cX4_weighTwo 17 = .ok (.iload_n 3, 1) := by decide +kernel
theorem dX4_weighTwo_18 : decode cX4_weighTwo 18 = .ok (.invokevirtual 49, 3) := by decide +kernel
theorem dX4_weighTwo_21 : decode cX4_weighTwo 21 = .ok (.iinc 3 1, 3) := by decide +kernel
theorem dX4_weighTwo_24 : decode cX4_weighTwo 24 = .ok (.goto (-22), 3) := by decide +kernel
theorem dX4_weighTwo_27 : decode cX4_weighTwo 27 = .ok (.return_, 1) := by decide +kernel
theorem dX4_weigh_0 : decode cX4_weigh 0 = .ok (.iconst 0, 1) := by decide +kernel
theorem dX4_weigh_1 : decode cX4_weigh 1 = .ok (.istore 5, 2) := by decide +kernel
theorem dX4_weigh_3 : decode cX4_weigh 3 = .ok (.iconst 0, 1) := by decide +kernel
theorem dX4_weigh_4 : decode cX4_weigh 4 = .ok (.istore 6, 2) := by decide +kernel
theorem dX4_weigh_6 : decode cX4_weigh 6 = .ok (.iconst 0, 1) := by decide +kernel
theorem dX4_weigh_7 : decode cX4_weigh 7 = .ok (.istore 7, 2) := by decide +kernel
theorem dX4_weigh_9 : decode cX4_weigh 9 = .ok (.iconst 1, 1) := by decide +kernel
theorem dX4_weigh_10 : decode cX4_weigh 10 = .ok (.istore 8, 2) := by decide +kernel
theorem dX4_weigh_12 : decode cX4_weigh 12 = .ok (.iload 8, 2) := by decide +kernel
theorem dX4_weigh_14 : decode cX4_weigh 14 = .ok (.iconst 3, 1) := by decide +kernel
theorem dX4_weigh_15 : decode cX4_weigh 15 = .ok (.if_icmp .ge 92, 3) := by decide +kernel
theorem dX4_weigh_18 : decode cX4_weigh 18 = .ok (.aload_n 0, 1) := by decide +kernel
theorem dX4_weigh_19 : decode cX4_weigh 19 = .ok (.aload_n 0, 1) := by decide +kernel
theorem dX4_weigh_20 : decode cX4_weigh 20 = .ok (.iload_n 3, 1) := by decide +kernel
theorem dX4_weigh_21 : decode cX4_weigh 21 = .ok (.iload 8, 2) := by decide +kernel
theorem dX4_weigh_23 : decode cX4_weigh 23 = .ok (.invokevirtual 36, 3) := by decide +kernel
theorem dX4_weigh_26 : decode cX4_weigh 26 = .ok (.aload_n 0, 1) := by decide +kernel
theorem dX4_weigh_27 : decode cX4_weigh 27 = .ok (.iload_n 3, 1) := by decide +kernel
theorem dX4_weigh_28 : decode cX4_weigh 28 = .ok (.iload 5, 2) := by decide +kernel
theorem dX4_weigh_30 : decode cX4_weigh 30 = .ok (.invokevirtual 36, 3) := by decide +kernel
theorem dX4_weigh_33 : decode cX4_weigh 33 = .ok (.invokevirtual 62, 3) := by decide +kernel
theorem dX4_weigh_36 : decode cX4_weigh 36 = .ok (.ifCond .eq 7, 3) := by decide +kernel
theorem dX4_weigh_39 : decode cX4_weigh 39 = .ok (.iload 8, 2) := by decide +kernel
theorem dX4_weigh_41 : decode cX4_weigh 41 = .ok (.istore 5, 2) := by decide +kernel
theorem dX4_weigh_43 : decode cX4_weigh 43 = .ok (.aload_n 0, 1) := by decide +kernel
theorem dX4_weigh_44 : decode cX4_weigh 44 = .ok (.aload_n 0, 1) := by decide +kernel
theorem dX4_weigh_45 : decode cX4_weigh 45 = .ok (.iload_n 3, 1) := by decide +kernel
theorem dX4_weigh_46 : decode cX4_weigh 46 = .ok (.iload 4, 2) := by decide +kernel
theorem dX4_weigh_48 : decode cX4_weigh 48 = .ok (.iload 8, 2) := by decide +kernel
theorem dX4_weigh_50 : decode cX4_weigh 50 = .ok (.invokevirtual 39, 3) := by decide +kernel
theorem dX4_weigh_53 : decode cX4_weigh 53 = .ok (.aload_n 0, 1) := by decide +kernel
theorem dX4_weigh_54 : decode cX4_weigh 54 = .ok (.iload_n 3, 1) := by decide +kernel
theorem dX4_weigh_55 : decode cX4_weigh 55 = .ok (.iload 4, 2) := by decide +kernel
theorem dX4_weigh_57 : decode cX4_weigh 57 = .ok (.iload 6, 2) := by decide +kernel
theorem dX4_weigh_59 : decode cX4_weigh 59 = .ok (.invokevirtual 39, 3) := by decide +kernel
theorem dX4_weigh_62 : decode cX4_weigh 62 = .ok (.invokevirtual 62, 3) := by decide +kernel
theorem dX4_weigh_65 : decode cX4_weigh 65 = .ok (.ifCond .eq 7, 3) := by decide +kernel
theorem dX4_weigh_68 : decode cX4_weigh 68 = .ok (.iload 8, 2) := by decide +kernel
theorem dX4_weigh_70 : decode cX4_weigh 70 = .ok (.istore 6, 2) := by decide +kernel
theorem dX4_weigh_72 : decode cX4_weigh 72 = .ok (.aload_n 0, 1) := by decide +kernel
theorem dX4_weigh_73 : decode cX4_weigh 73 = .ok (.aload_n 0, 1) := by decide +kernel
theorem dX4_weigh_74 : decode cX4_weigh 74 = .ok (.iload_n 3, 1) := by decide +kernel
theorem dX4_weigh_75 : decode cX4_weigh 75 = .ok (.iload 4, 2) := by decide +kernel
theorem dX4_weigh_77 : decode cX4_weigh 77 = .ok (.iload 8, 2) := by decide +kernel
theorem dX4_weigh_79 : decode cX4_weigh 79 = .ok (.invokevirtual 66, 3) := by decide +kernel
theorem dX4_weigh_82 : decode cX4_weigh 82 = .ok (.aload_n 0, 1) := by decide +kernel
theorem dX4_weigh_83 : decode cX4_weigh 83 = .ok (.iload_n 3, 1) := by decide +kernel
theorem dX4_weigh_84 : decode cX4_weigh 84 = .ok (.iload 4, 2) := by decide +kernel
theorem dX4_weigh_86 : decode cX4_weigh 86 = .ok (.iload 7, 2) := by decide +kernel
theorem dX4_weigh_88 : decode cX4_weigh 88 = .ok (.invokevirtual 66, 3) := by decide +kernel
theorem dX4_weigh_91 : decode cX4_weigh 91 = .ok (.invokevirtual 62, 3) := by decide +kernel
theorem dX4_weigh_94 : decode cX4_weigh 94 = .ok (.ifCond .eq 7, 3) := by decide +kernel
theorem dX4_weigh_97 : decode cX4_weigh 97 = .ok (.iload 8, 2) := by decide +kernel
theorem dX4_weigh_99 : decode cX4_weigh 99 = .ok (.istore 7, 2) := by decide +kernel
theorem dX4_weigh_101 : decode cX4_weigh 101 = .ok (.iinc 8 1, 3) := by decide +kernel
theorem dX4_weigh_104 : decode cX4_weigh 104 = .ok (.goto (-92), 3) := by decide +kernel
theorem dX4_weigh_107 : decode cX4_weigh 107 = .ok (.aload_n 0, 1) := by decide +kernel
theorem dX4_weigh_108 : decode cX4_weigh 108 = .ok (.iload_n 3, 1) := by decide +kernel
theorem dX4_weigh_109 : decode cX4_weigh 109 = .ok (.iload 5, 2) := by decide +kernel
theorem dX4_weigh_111 : decode cX4_weigh 111 = .ok (.invokevirtual 36, 3) := by decide +kernel
theorem dX4_weigh_114 : decode cX4_weigh 114 = .ok (.aload_n 0, 1) := by decide +kernel
theorem dX4_weigh_115 : decode cX4_weigh 115 = .ok (.iload_n 3, 1) := by decide +kernel
theorem dX4_weigh_116 : decode cX4_weigh 116 = .ok (.iload 4, 2) := by decide +kernel
theorem dX4_weigh_118 : decode cX4_weigh 118 = .ok (.iload 6, 2) := by decide +kernel
theorem dX4_weigh_120 : decode cX4_weigh 120 = .ok (.invokevirtual 39, 3) := by decide +kernel
theorem dX4_weigh_123 : decode cX4_weigh 123 = .ok (.iadd, 1) := by decide +kernel
theorem dX4_weigh_124 : decode cX4_weigh 124 = .ok (.aload_n 0, 1) := by decide +kernel
theorem dX4_weigh_125 : decode cX4_weigh 125 = .ok (.iload_n 3, 1) := by decide +kernel
theorem dX4_weigh_126 : decode cX4_weigh 126 = .ok (.iload 4, 2) := by decide +kernel
theorem dX4_weigh_128 : decode cX4_weigh 128 = .ok (.iload 7, 2) := by decide +kernel
theorem dX4_weigh_130 : decode cX4_weigh 130 = .ok (.invokevirtual 66, 3) := by decide +kernel
theorem dX4_weigh_133 : decode cX4_weigh 133 = .ok (.iadd, 1) := by decide +kernel
theorem dX4_weigh_134 : decode cX4_weigh 134 = .ok (.istore 8, 2) := by decide +kernel
theorem dX4_weigh_136 : decode cX4_weigh 136 = .ok (.iload_n 2, 1) := by decide +kernel
theorem dX4_weigh_137 : decode cX4_weigh 137 = .ok (.aload_n 0, 1) := by decide +kernel
theorem dX4_weigh_138 : decode cX4_weigh 138 = .ok (.getfield 42, 3) := by decide +kernel
theorem dX4_weigh_141 : decode cX4_weigh 141 = .ok (.imul, 1) := by decide +kernel
theorem dX4_weigh_142 : decode cX4_weigh 142 = .ok (.iload 8, 2) := by decide +kernel
theorem dX4_weigh_144 : decode cX4_weigh 144 = .ok (.aload_n 0, 1) := by decide +kernel
theorem dX4_weigh_145 : decode cX4_weigh 145 = .ok (.getfield 46, 3) := by decide +kernel
theorem dX4_weigh_148 : decode cX4_weigh 148 = .ok (.imul, 1) := by decide +kernel
theorem dX4_weigh_149 : decode cX4_weigh 149 = .ok (.iadd, 1) := by decide +kernel
theorem dX4_weigh_150 : decode cX4_weigh 150 = .ok (.istore 9, 2) := by decide +kernel
theorem dX4_weigh_152 : decode cX4_weigh 152 = .ok (.iload_n 2, 1) := by decide +kernel
theorem dX4_weigh_153 : decode cX4_weigh 153 = .ok (.ifCond .eq 12, 3) := by decide +kernel
theorem dX4_weigh_156 : decode cX4_weigh 156 = .ok (.iload 9, 2) := by decide +kernel
theorem dX4_weigh_158 : decode cX4_weigh 158 = .ok (.aload_n 1, 1) := by decide +kernel
theorem dX4_weigh_159 : decode cX4_weigh 159 = .ok (.getfield 53, 3) := by decide +kernel
theorem dX4_weigh_162 : decode cX4_weigh 162 = .ok (.if_icmp .ge 46, 3) := by decide +kernel
theorem dX4_weigh_165 : decode cX4_weigh 165 = .ok (.aload_n 1, 1) := by decide +kernel
theorem dX4_weigh_166 : decode cX4_weigh 166 = .ok (.iload_n 3, 1) := by decide +kernel
theorem dX4_weigh_167 : decode cX4_weigh 167 = .ok (.iload_n 2, 1) := by decide +kernel
theorem dX4_weigh_168 : decode cX4_weigh 168 = .ok (.ifCond .le 8, 3) := by decide +kernel
theorem dX4_weigh_171 : decode cX4_weigh 171 = .ok (.iload 5, 2) := by decide +kernel
theorem dX4_weigh_173 : decode cX4_weigh 173 = .ok (.goto 4, 3) := by decide +kernel
theorem dX4_weigh_176 : decode cX4_weigh 176 = .ok (.iconst (-1), 1) := by decide +kernel
theorem dX4_weigh_177 : decode cX4_weigh 177 = .ok (.invokevirtual 69, 3) := by decide +kernel
theorem dX4_weigh_180 : decode cX4_weigh 180 = .ok (.aload_n 1, 1) := by decide +kernel
theorem dX4_weigh_181 : decode cX4_weigh 181 = .ok (.iload 4, 2) := by decide +kernel
theorem dX4_weigh_183 : decode cX4_weigh 183 = .ok (.iload_n 2, 1) := by decide +kernel
theorem dX4_weigh_184 : decode cX4_weigh 184 = .ok (.iconst 1, 1) := by decide +kernel
theorem dX4_weigh_185 : decode cX4_weigh 185 = .ok (.if_icmp .le 8, 3) := by decide +kernel
theorem dX4_weigh_188 : decode cX4_weigh 188 = .ok (.iload 6, 2) := by decide +kernel
theorem dX4_weigh_190 : decode cX4_weigh 190 = .ok (.goto 4, 3) := by decide +kernel
theorem dX4_weigh_193 : decode cX4_weigh 193 = .ok (.iconst (-1), 1) := by decide +kernel
theorem dX4_weigh_194 : decode cX4_weigh 194 = .ok (.invokevirtual 72, 3) := by decide +kernel
theorem dX4_weigh_197 : decode cX4_weigh 197 = .ok (.aload_n 1, 1) := by decide +kernel
theorem dX4_weigh_198 : decode cX4_weigh 198 = .ok (.iload_n 2, 1) := by decide +kernel
theorem dX4_weigh_199 : decode cX4_weigh 199 = .ok (.iload 7, 2) := by decide +kernel
theorem dX4_weigh_201 : decode cX4_weigh 201 = .ok (.iload 9, 2) := by decide +kernel
theorem dX4_weigh_203 : decode cX4_weigh 203 = .ok (.iload 8, 2) := by decide +kernel
theorem dX4_weigh_205 : decode cX4_weigh 205 = .ok (.invokevirtual 75, 3) := by decide +kernel
theorem dX4_weigh_208 : decode cX4_weigh 208 = .ok (.return_, 1) := by decide +kernel
theorem dX4_isCheaper_0 : decode cX4_isCheaper 0 = .ok (.aload_n 0, 1) := by decide +kernel
theorem dX4_isCheaper_1 : decode cX4_isCheaper 1 = .ok (.getfield 46, 3) := by decide +kernel
theorem dX4_isCheaper_4 : decode cX4_isCheaper 4 = .ok (.ifCond .le 12, 3) := by decide +kernel
theorem dX4_isCheaper_7 : decode cX4_isCheaper 7 = .ok (.iload_n 1, 1) := by decide +kernel
theorem dX4_isCheaper_8 : decode cX4_isCheaper 8 = .ok (.iload_n 2, 1) := by decide +kernel
theorem dX4_isCheaper_9 : decode cX4_isCheaper 9 = .ok (.if_icmp .ge 7, 3) := by decide +kernel
theorem dX4_isCheaper_12 : decode cX4_isCheaper 12 = .ok (.iconst 1, 1) := by decide +kernel
theorem dX4_isCheaper_13 : decode cX4_isCheaper 13 = .ok (.goto 4, 3) := by decide +kernel
theorem dX4_isCheaper_16 : decode cX4_isCheaper 16 = .ok (.iconst 0, 1) := by decide +kernel
theorem dX4_isCheaper_17 : decode cX4_isCheaper 17 = .ok (.ireturn, 1) := by decide +kernel
theorem dX5_init_0 : decode cX5_init 0 = .ok (.aload_n 0, 1) := by decide +kernel
theorem dX5_init_1 : decode cX5_init 1 = .ok (.invokespecial 3, 3) := by decide +kernel
theorem dX5_init_4 : decode cX5_init 4 = .ok (.aload_n 0, 1) := by decide +kernel
theorem dX5_init_5 : decode cX5_init 5 = .ok (.sipush 800, 3) := by decide +kernel
theorem dX5_init_8 : decode cX5_init 8 = .ok (.newarray .byte, 2) := by decide +kernel
theorem dX5_init_10 : decode cX5_init 10 = .ok (.putfield 9, 3) := by decide +kernel
theorem dX5_init_13 : decode cX5_init 13 = .ok (.aload_n 0, 1) := by decide +kernel
theorem dX5_init_14 : decode cX5_init 14 = .ok (.sipush 200, 3) := by decide +kernel
theorem dX5_init_17 : decode cX5_init 17 = .ok (.newarray .int, 2) := by decide +kernel
theorem dX5_init_19 : decode cX5_init 19 = .ok (.putfield 15, 3) := by decide +kernel
theorem dX5_init_22 : decode cX5_init 22 = .ok (.aload_n 0, 1) := by decide +kernel
theorem dX5_init_23 : decode cX5_init 23 = .ok (.sipush 200, 3) := by decide +kernel
theorem dX5_init_26 : decode cX5_init 26 = .ok (.newarray .int, 2) := by decide +kernel
theorem dX5_init_28 : decode cX5_init 28 = .ok (.putfield 19, 3) := by decide +kernel
theorem dX5_init_31 : decode cX5_init 31 = .ok (.aload_n 0, 1) := by decide +kernel
theorem dX5_init_32 : decode cX5_init 32 = .ok (.sipush 200, 3) := by decide +kernel
theorem dX5_init_35 : decode cX5_init 35 = .ok (.newarray .int, 2) := by decide +kernel
theorem dX5_init_37 : decode cX5_init 37 = .ok (.putfield 22, 3) := by decide +kernel
theorem dX5_init_40 : decode cX5_init 40 = .ok (.aload_n 0, 1) := by decide +kernel
theorem dX5_init_41 : decode cX5_init 41 = .ok (.sipush 200, 3) := by decide +kernel
theorem dX5_init_44 : decode cX5_init 44 = .ok (.newarray .int, 2) := by decide +kernel
theorem dX5_init_46 : decode cX5_init 46 = .ok (.putfield 25, 3) := by decide +kernel
theorem dX5_init_49 : decode cX5_init 49 = .ok (.aload_n 0, 1) := by decide +kernel
theorem dX5_init_50 : decode cX5_init 50 = .ok (.sipush 200, 3) := by decide +kernel
theorem dX5_init_53 : decode cX5_init 53 = .ok (.newarray .int, 2) := by decide +kernel
theorem dX5_init_55 : decode cX5_init 55 = .ok (.putfield 28, 3) := by decide +kernel
theorem dX5_init_58 : decode cX5_init 58 = .ok (.aload_n 0, 1) := by decide +kernel
theorem dX5_init_59 : decode cX5_init 59 = .ok (.sipush 200, 3) := by decide +kernel
theorem dX5_init_62 : decode cX5_init 62 = .ok (.newarray .int, 2) := by decide +kernel
theorem dX5_init_64 : decode cX5_init 64 = .ok (.putfield 31, 3) := by decide +kernel
theorem dX5_init_67 : decode cX5_init 67 = .ok (.aload_n 0, 1) := by decide +kernel
theorem dX5_init_68 : decode cX5_init 68 = .ok (.sipush 200, 3) := by decide +kernel
theorem dX5_init_71 : decode cX5_init 71 = .ok (.newarray .int, 2) := by decide +kernel
theorem dX5_init_73 : decode cX5_init 73 = .ok (.putfield 34, 3) := by decide +kernel
theorem dX5_init_76 : decode cX5_init 76 = .ok (.return_, 1) := by decide +kernel
theorem dX5_start_0 : decode cX5_start 0 = .ok (.aload_n 0, 1) := by decide +kernel
theorem dX5_start_1 : decode cX5_start 1 = .ok (.iconst 0, 1) := by decide +kernel
theorem dX5_start_2 : decode cX5_start 2 = .ok (.iload_n 2, 1) := by decide +kernel
theorem dX5_start_3 : decode cX5_start 3 = .ok (.aload_n 1, 1) := by decide +kernel
theorem dX5_start_4 : decode cX5_start 4 = .ok (.arraylength, 1) := by decide +kernel
theorem dX5_start_5 : decode cX5_start 5 = .ok (.aload_n 0, 1) := by decide +kernel
theorem dX5_start_6 : decode cX5_start 6 = .ok (.getfield 9, 3) := by decide +kernel
theorem dX5_start_9 : decode cX5_start 9 = .ok (.arraylength, 1) := by decide +kernel
theorem dX5_start_10 : decode cX5_start 10 = .ok (.invokestatic 37, 3) := by decide +kernel
theorem dX5_start_13 : decode cX5_start 13 = .ok (.invokestatic 37, 3) := by decide +kernel
theorem dX5_start_16 : decode cX5_start 16 = .ok (.invokestatic 43, 3) := by decide +kernel
theorem dX5_start_19 : decode cX5_start 19 = .ok (.putfield 46, 3) := by decide +kernel
theorem dX5_start_22 : decode cX5_start 22 = .ok (.aload_n 1, 1) := by decide +kernel
theorem dX5_start_23 : decode cX5_start 23 = .ok (.iconst 0, 1) := by decide +kernel
theorem dX5_start_24 : decode cX5_start 24 = .ok (.aload_n 0, 1) := by decide +kernel
theorem dX5_start_25 : decode cX5_start 25 = .ok (.getfield 9, 3) := by decide +kernel
theorem dX5_start_28 : decode cX5_start 28 = .ok (.iconst 0, 1) := by decide +kernel
theorem dX5_start_29 : decode cX5_start 29 = .ok (.aload_n 0, 1) := by decide +kernel
theorem dX5_start_30 : decode cX5_start 30 = .ok (.getfield 46, 3) := by decide +kernel
theorem dX5_start_33 : decode cX5_start 33 = .ok (.invokestatic 50, 3) := by decide +kernel
theorem dX5_start_36 : decode cX5_start 36 = .ok (.aload_n 0, 1) := by decide +kernel
theorem dX5_start_37 : decode cX5_start 37 = .ok (.iload_n 3, 1) := by decide +kernel
theorem dX5_start_38 : decode cX5_start 38 = .ok (.putfield 56, 3) := by decide +kernel
theorem dX5_start_41 : decode cX5_start 41 = .ok (.aload_n 0, 1) := by decide +kernel
theorem dX5_start_42 : decode cX5_start 42 = .ok (.iconst 0, 1) := by decide +kernel
theorem dX5_start_43 : decode cX5_start 43 = .ok (.putfield 59, 3) := by decide +kernel
theorem dX5_start_46 : decode cX5_start 46 = .ok (.return_, 1) := by decide +kernel
theorem dX5_byteAt_0 : decode cX5_byteAt 0 = .ok (.iload_n 1, 1) := by decide +kernel
theorem dX5_byteAt_1 : decode cX5_byteAt 1 = .ok (.ifCond .lt 20, 3) := by decide +kernel
theorem dX5_byteAt_4 : decode cX5_byteAt 4 = .ok (.iload_n 1, 1) := by decide +kernel
theorem dX5_byteAt_5 : decode cX5_byteAt 5 = .ok (.aload_n 0, 1) := by decide +kernel
theorem dX5_byteAt_6 : decode cX5_byteAt 6 = .ok (.getfield 46, 3) := by decide +kernel
theorem dX5_byteAt_9 : decode cX5_byteAt 9 = .ok (.if_icmp .ge 12, 3) := by decide +kernel
theorem dX5_byteAt_12 : decode cX5_byteAt 12 = .ok (.aload_n 0, 1) := by decide +kernel
theorem dX5_byteAt_13 : decode cX5_byteAt 13 = .ok (.getfield 9, 3) := by decide +kernel
theorem dX5_byteAt_16 : decode cX5_byteAt 16 = .ok (.iload_n 1, 1) := by decide +kernel
theorem dX5_byteAt_17 : decode cX5_byteAt 17 = .ok (.baload, 1) := by decide +kernel
theorem dX5_byteAt_18 : decode cX5_byteAt 18 = .ok (.goto 4, 3) := by decide +kernel
theorem dX5_byteAt_21 : decode cX5_byteAt 21 = .ok (.iconst (-1), 1) := by decide +kernel
theorem dX5_byteAt_22 : decode cX5_byteAt 22 = .ok (.ireturn, 1) := by decide +kernel
theorem dX5_isFull_0 : decode cX5_isFull 0 = .ok (.aload_n 0, 1) := by decide +kernel
theorem dX5_isFull_1 : decode cX5_isFull 1 = .ok (.getfield 59, 3) := by decide +kernel
theorem dX5_isFull_4 : decode cX5_isFull 4 = .ok (.sipush 200, 3) := by decide +kernel
theorem dX5_isFull_7 : decode cX5_isFull 7 = .ok (.if_icmp .lt 7, 3) := by decide +kernel
theorem dX5_isFull_10 : decode cX5_isFull 10 = .ok (.iconst 1, 1) := by decide +kernel
theorem dX5_isFull_11 : decode cX5_isFull 11 = .ok (.goto 4, 3) := by decide +kernel
theorem dX5_isFull_14 : decode cX5_isFull 14 = .ok (.iconst 0, 1) := by decide +kernel
theorem dX5_isFull_15 : decode cX5_isFull 15 = .ok (.ireturn, 1) := by decide +kernel
theorem dX5_addToken_0 : decode cX5_addToken 0 = .ok (.aload_n 0, 1) := by decide +kernel
theorem dX5_addToken_1 : decode cX5_addToken 1 = .ok (.getfield 59, 3) := by decide +kernel
theorem dX5_addToken_4 : decode cX5_addToken 4 = .ok (.sipush 200, 3) := by decide +kernel
theorem dX5_addToken_7 : decode cX5_addToken 7 = .ok (.if_icmp .ge 65, 3) := by decide +kernel
theorem dX5_addToken_10 : decode cX5_addToken 10 = .ok (.aload_n 0, 1) := by decide +kernel
theorem dX5_addToken_11 : decode cX5_addToken 11 = .ok (.getfield 15, 3) := by decide +kernel
theorem dX5_addToken_14 : decode cX5_addToken 14 = .ok (.aload_n 0, 1) := by decide +kernel
theorem dX5_addToken_15 : decode cX5_addToken 15 = .ok (.getfield 59, 3) := by decide +kernel
theorem dX5_addToken_18 : decode cX5_addToken 18 = .ok (.iload_n 1, 1) := by decide +kernel
theorem dX5_addToken_19 : decode cX5_addToken 19 = .ok (.iastore, 1) := by decide +kernel
theorem dX5_addToken_20 : decode cX5_addToken 20 = .ok (.aload_n 0, 1) := by decide +kernel
theorem dX5_addToken_21 : decode cX5_addToken 21 = .ok (.getfield 19, 3) := by decide +kernel
theorem dX5_addToken_24 : decode cX5_addToken 24 = .ok (.aload_n 0, 1) := by decide +kernel
theorem dX5_addToken_25 : decode cX5_addToken 25 = .ok (.getfield 59, 3) := by decide +kernel
theorem dX5_addToken_28 : decode cX5_addToken 28 = .ok (.iload_n 2, 1) := by decide +kernel
theorem dX5_addToken_29 : decode cX5_addToken 29 = .ok (.iastore, 1) := by decide +kernel
theorem dX5_addToken_30 : decode cX5_addToken 30 = .ok (.aload_n 0, 1) := by decide +kernel
theorem dX5_addToken_31 : decode cX5_addToken 31 = .ok (.getfield 22, 3) := by decide +kernel
theorem dX5_addToken_34 : decode cX5_addToken 34 = .ok (.aload_n 0, 1) := by decide +kernel
theorem dX5_addToken_35 : decode cX5_addToken 35 = .ok (.getfield 59, 3) := by decide +kernel
theorem dX5_addToken_38 : decode cX5_addToken 38 = .ok (.iload_n 3, 1) := by decide +kernel
theorem dX5_addToken_39 : decode cX5_addToken 39 = .ok (.iastore, 1) := by decide +kernel
theorem dX5_addToken_40 : decode cX5_addToken 40 = .ok (.aload_n 0, 1) := by decide +kernel
theorem dX5_addToken_41 : decode cX5_addToken 41 = .ok (.getfield 25, 3) := by decide +kernel
theorem dX5_addToken_44 : decode cX5_addToken 44 = .ok (.aload_n 0, 1) := by decide +kernel
theorem dX5_addToken_45 : decode cX5_addToken 45 = .ok (.getfield 59, 3) := by decide +kernel
theorem dX5_addToken_48 : decode cX5_addToken 48 = .ok (.iload 4, 2) := by decide +kernel
theorem dX5_addToken_50 : decode cX5_addToken 50 = .ok (.iastore, 1) := by decide +kernel
theorem dX5_addToken_51 : decode cX5_addToken 51 = .ok (.aload_n 0, 1) := by decide +kernel
theorem dX5_addToken_52 : decode cX5_addToken 52 = .ok (.getfield 28, 3) := by decide +kernel
theorem dX5_addToken_55 : decode cX5_addToken 55 = .ok (.aload_n 0, 1) := by decide +kernel
theorem dX5_addToken_56 : decode cX5_addToken 56 = .ok (.getfield 59, 3) := by decide +kernel
theorem dX5_addToken_59 : decode cX5_addToken 59 = .ok (.iload 5, 2) := by decide +kernel
theorem dX5_addToken_61 : decode cX5_addToken 61 = .ok (.iastore, 1) := by decide +kernel
theorem dX5_addToken_62 : decode cX5_addToken 62 = .ok (.aload_n 0, 1) := by decide +kernel
theorem dX5_addToken_63 : decode cX5_addToken 63 = .ok (.dup, 1) := by decide +kernel
theorem dX5_addToken_64 : decode cX5_addToken 64 = .ok (.getfield 59, 3) := by decide +kernel
theorem dX5_addToken_67 : decode cX5_addToken 67 = .ok (.iconst 1, 1) := by decide +kernel
theorem dX5_addToken_68 : decode cX5_addToken 68 = .ok (.iadd, 1) := by decide +kernel
theorem dX5_addToken_69 : decode cX5_addToken 69 = .ok (.putfield 59, 3) := by decide +kernel
theorem dX5_addToken_72 : decode cX5_addToken 72 = .ok (.return_, 1) := by decide +kernel
theorem dX5_gapCount_0 : decode cX5_gapCount 0 = .ok (.aload_n 0, 1) := by decide +kernel
theorem dX5_gapCount_1 : decode cX5_gapCount 1 = .ok (.getfield 59, 3) := by decide +kernel
theorem dX5_gapCount_4 : decode cX5_gapCount 4 = .ok (.ifCond .le 12, 3) := by decide +kernel
theorem dX5_gapCount_7 : decode cX5_gapCount 7 = .ok (.aload_n 0, 1) := by decide +kernel
theorem dX5_gapCount_8 : decode cX5_gapCount 8 = .ok (.getfield 59, 3) := by decide +kernel
theorem dX5_gapCount_11 : decode cX5_gapCount 11 = .ok (.iconst 1, 1) := by decide +kernel
theorem dX5_gapCount_12 : decode cX5_gapCount 12 = .ok (.isub, 1) := by decide +kernel
theorem dX5_gapCount_13 : decode cX5_gapCount 13 = .ok (.goto 4, 3) := by decide +kernel
theorem dX5_gapCount_16 : decode cX5_gapCount 16 = .ok (.iconst 0, 1) := by decide +kernel
theorem dX5_gapCount_17 : decode cX5_gapCount 17 = .ok (.ireturn, 1) := by decide +kernel
theorem dX5_seeGaps_0 : decode cX5_seeGaps 0 = .ok (.iconst 0, 1) := by decide +kernel
theorem dX5_seeGaps_1 : decode cX5_seeGaps 1 = .ok (.istore_n 1, 1) := by decide +kernel
theorem dX5_seeGaps_2 : decode cX5_seeGaps 2 = .ok (.iload_n 1, 1) := by decide +kernel
theorem dX5_seeGaps_3 : decode cX5_seeGaps 3 = .ok (.iconst 1, 1) := by decide +kernel
theorem dX5_seeGaps_4 : decode cX5_seeGaps 4 = .ok (.iadd, 1) := by decide +kernel
theorem dX5_seeGaps_5 : decode cX5_seeGaps 5 = .ok (.aload_n 0, 1) := by decide +kernel
theorem dX5_seeGaps_6 : decode cX5_seeGaps 6 = .ok (.getfield 59, 3) := by decide +kernel
theorem dX5_seeGaps_9 : decode cX5_seeGaps 9 = .ok (.if_icmp .ge 64, 3) := by decide +kernel
theorem dX5_seeGaps_12 : decode cX5_seeGaps 12 = .ok (.aload_n 0, 1) := by decide +kernel
theorem dX5_seeGaps_13 : decode cX5_seeGaps 13 = .ok (.getfield 31, 3) := by decide +kernel
theorem dX5_seeGaps_16 : decode cX5_seeGaps 16 = .ok (.iload_n 1, 1) := by decide +kernel
theorem dX5_seeGaps_17 : decode cX5_seeGaps 17 = .ok (.aload_n 0, 1) := by decide +kernel
theorem dX5_seeGaps_18 : decode cX5_seeGaps 18 = .ok (.getfield 22, 3) := by decide +kernel
theorem dX5_seeGaps_21 : decode cX5_seeGaps 21 = .ok (.iload_n 1, 1) := by decide +kernel
theorem dX5_seeGaps_22 : decode cX5_seeGaps 22 = .ok (.iaload, 1) := by decide +kernel
theorem dX5_seeGaps_23 : decode cX5_seeGaps 23 = .ok (.aload_n 0, 1) := by decide +kernel
theorem dX5_seeGaps_24 : decode cX5_seeGaps 24 = .ok (.getfield 22, 3) := by decide +kernel
theorem dX5_seeGaps_27 : decode cX5_seeGaps 27 = .ok (.iload_n 1, 1) := by decide +kernel
theorem dX5_seeGaps_28 : decode cX5_seeGaps 28 = .ok (.iconst 1, 1) := by decide +kernel
theorem dX5_seeGaps_29 : decode cX5_seeGaps 29 = .ok (.iadd, 1) := by decide +kernel
theorem dX5_seeGaps_30 : decode cX5_seeGaps 30 = .ok (.iaload, 1) := by decide +kernel
theorem dX5_seeGaps_31 : decode cX5_seeGaps 31 = .ok (.invokestatic 62, 3) := by decide +kernel
theorem dX5_seeGaps_34 : decode cX5_seeGaps 34 = .ok (.iastore, 1) := by decide +kernel
theorem dX5_seeGaps_35 : decode cX5_seeGaps 35 = .ok (.aload_n 0, 1) := by decide +kernel
theorem dX5_seeGaps_36 : decode cX5_seeGaps 36 = .ok (.getfield 34, 3) := by decide +kernel
theorem dX5_seeGaps_39 : decode cX5_seeGaps 39 = .ok (.iload_n 1, 1) := by decide +kernel
theorem dX5_seeGaps_40 : decode cX5_seeGaps 40 = .ok (.aload_n 0, 1) := by decide +kernel
theorem dX5_seeGaps_41 : decode cX5_seeGaps 41 = .ok (.aload_n 0, 1) := by decide +kernel
theorem dX5_seeGaps_42 : decode cX5_seeGaps 42 = .ok (.getfield 19, 3) := by decide +kernel
theorem dX5_seeGaps_45 : decode cX5_seeGaps 45 = .ok (.iload_n 1, 1) := by decide +kernel
theorem dX5_seeGaps_46 : decode cX5_seeGaps 46 = .ok (.iaload, 1) := by decide +kernel
theorem dX5_seeGaps_47 : decode cX5_seeGaps 47 = .ok (.aload_n 0, 1) := by decide +kernel
theorem dX5_seeGaps_48 : decode cX5_seeGaps 48 = .ok (.getfield 15, 3) := by decide +kernel
theorem dX5_seeGaps_51 : decode cX5_seeGaps 51 = .ok (.iload_n 1, 1) := by decide +kernel
theorem dX5_seeGaps_52 : decode cX5_seeGaps 52 = .ok (.iconst 1, 1) := by decide +kernel
theorem dX5_seeGaps_53 : decode cX5_seeGaps 53 = .ok (.iadd, 1) := by decide +kernel
theorem dX5_seeGaps_54 : decode cX5_seeGaps 54 = .ok (.iaload, 1) := by decide +kernel
theorem dX5_seeGaps_55 : decode cX5_seeGaps 55 = .ok (.aload_n 0, 1) := by decide +kernel
theorem dX5_seeGaps_56 : decode cX5_seeGaps 56 = .ok (.getfield 25, 3) := by decide +kernel
theorem dX5_seeGaps_59 : decode cX5_seeGaps 59 = .ok (.iload_n 1, 1) := by decide +kernel
theorem dX5_seeGaps_60 : decode cX5_seeGaps 60 = .ok (.iconst 1, 1) := by decide +kernel
theorem dX5_seeGaps_61 : decode cX5_seeGaps 61 = .ok (.iadd, 1) := by decide +kernel
theorem dX5_seeGaps_62 : decode cX5_seeGaps 62 = .ok (.iaload, 1) := by decide +kernel
theorem dX5_seeGaps_63 : decode cX5_seeGaps 63 = .ok (.invokevirtual 65, 3) := by decide +kernel
theorem dX5_seeGaps_66 : decode cX5_seeGaps 66 = .ok (.iastore, 1) := by decide +kernel
theorem dX5_seeGaps_67 : decode cX5_seeGaps 67 = .ok (.iinc 1 1, 3) := by decide +kernel
theorem dX5_seeGaps_70 : decode cX5_seeGaps 70 = .ok (.goto (-68), 3) := by decide +kernel
theorem dX5_seeGaps_73 : decode cX5_seeGaps 73 = .ok (.return_, 1) := by decide +kernel
theorem dX5_kindBetween_0 : decode cX5_kindBetween 0 = .ok (.iload_n 1, 1) := by decide +kernel
theorem dX5_kindBetween_1 : decode cX5_kindBetween 1 = .ok (.bipush 59, 2) := by decide +kernel
theorem dX5_kindBetween_3 : decode cX5_kindBetween 3 = .ok (.if_icmp .ne 5, 3) := by decide +kernel
theorem dX5_kindBetween_6 : decode cX5_kindBetween 6 = .ok (.iconst 0, 1) := by decide +kernel
theorem dX5_kindBetween_7 : decode cX5_kindBetween 7 = .ok (.ireturn, 1) := by decide +kernel
theorem dX5_kindBetween_8 : decode cX5_kindBetween 8 = .ok (.iload_n 0, 1) := by decide +kernel
theorem dX5_kindBetween_9 : decode cX5_kindBetween 9 = .ok (.bipush 59, 2) := by decide +kernel
theorem dX5_kindBetween_11 : decode cX5_kindBetween 11 = .ok (.if_icmp .ne 5, 3) := by decide +kernel
theorem dX5_kindBetween_14 : decode cX5_kindBetween 14 = .ok (.iconst 1, 1) := by decide +kernel
theorem dX5_kindBetween_15 : decode cX5_kindBetween 15 = .ok (.ireturn, 1) := by decide +kernel
theorem dX5_kindBetween_16 : decode cX5_kindBetween 16 = .ok (.iload_n 0, 1) := by decide +kernel
theorem dX5_kindBetween_17 : decode cX5_kindBetween 17 = .ok (.bipush 123, 2) := by decide +kernel
theorem dX5_kindBetween_19 : decode cX5_kindBetween 19 = .ok (.if_icmp .ne 5, 3) := by decide +kernel
theorem dX5_kindBetween_22 : decode cX5_kindBetween 22 = .ok (.iconst 2, 1) := by decide +kernel
theorem dX5_kindBetween_23 : decode cX5_kindBetween 23 = .ok (.ireturn, 1) := by decide +kernel
theorem dX5_kindBetween_24 : decode cX5_kindBetween 24 = .ok (.iload_n 1, 1) := by decide +kernel
theorem dX5_kindBetween_25 : decode cX5_kindBetween 25 = .ok (.bipush 125, 2) := by decide +kernel
theorem dX5_kindBetween_27 : decode cX5_kindBetween 27 = .ok (.if_icmp .ne 5, 3) := by decide +kernel
theorem dX5_kindBetween_30 : decode cX5_kindBetween 30 = .ok (.iconst 3, 1) := by decide +kernel
theorem dX5_kindBetween_31 : decode cX5_kindBetween 31 = .ok (.ireturn, 1) := by decide +kernel
theorem dX5_kindBetween_32 : decode cX5_kindBetween 32 = .ok (.iload_n 0, 1) := by decide +kernel
theorem dX5_kindBetween_33 : decode cX5_kindBetween 33 = .ok (.bipush 125, 2) := by decide +kernel
theorem dX5_kindBetween_35 : decode cX5_kindBetween 35 = .ok (.if_icmp .ne 5, 3) := by decide +kernel
theorem dX5_kindBetween_38 : decode cX5_kindBetween 38 = .ok (.iconst 4, 1) := by decide +kernel
theorem dX5_kindBetween_39 : decode cX5_kindBetween 39 = .ok (.ireturn, 1) := by decide +kernel
theorem dX5_kindBetween_40 : decode cX5_kindBetween 40 = .ok (.iload_n 1, 1) := by decide +kernel
theorem dX5_kindBetween_41 : decode cX5_kindBetween 41 = .ok (.bipush 123, 2) := by decide +kernel
theorem dX5_kindBetween_43 : decode cX5_kindBetween 43 = .ok (.if_icmp .ne 5, 3) := by decide +kernel
theorem dX5_kindBetween_46 : decode cX5_kindBetween 46 = .ok (.iconst 5, 1) := by decide +kernel
theorem dX5_kindBetween_47 : decode cX5_kindBetween 47 = .ok (.ireturn, 1) := by decide +kernel
theorem dX5_kindBetween_48 : decode cX5_kindBetween 48 = .ok (.iload_n 0, 1) := by decide +kernel
theorem dX5_kindBetween_49 : decode cX5_kindBetween 49 = .ok (.iload_n 1, 1) := by decide +kernel
theorem dX5_kindBetween_50 : decode cX5_kindBetween 50 = .ok (.invokestatic 69, 3) := by decide +kernel
theorem dX5_kindBetween_53 : decode cX5_kindBetween 53 = .ok (.ireturn, 1) := by decide +kernel
theorem dX5_kindInStatement_0 : decode cX5_kindInStatement 0 = .ok (.iload_n 1, 1) := by decide +kernel
theorem dX5_kindInStatement_1 : decode cX5_kindInStatement 1 = .ok (.bipush 44, 2) := by decide +kernel
theorem dX5_kindInStatement_3 : decode cX5_kindInStatement 3 = .ok (.if_icmp .ne 6, 3) := by decide +kernel
theorem dX5_kindInStatement_6 : decode cX5_kindInStatement 6 = .ok (.bipush 6, 2) := by decide +kernel
theorem dX5_kindInStatement_8 : decode cX5_kindInStatement 8 = .ok (.ireturn, 1) := by decide +kernel
theorem dX5_kindInStatement_9 : decode cX5_kindInStatement 9 = .ok (.iload_n 0, 1) := by decide +kernel
theorem dX5_kindInStatement_10 : decode cX5_kindInStatement 10 = .ok (.bipush 44, 2) := by decide +kernel
theorem dX5_kindInStatement_12 : decode cX5_kindInStatement 12 = .ok (.if_icmp .ne 6, 3) := by decide +kernel
theorem dX5_kindInStatement_15 : decode cX5_kindInStatement 15 = .ok (.bipush 7, 2) := by decide +kernel
theorem dX5_kindInStatement_17 : decode cX5_kindInStatement 17 = .ok (.ireturn, 1) := by decide +kernel
theorem dX5_kindInStatement_18 : decode cX5_kindInStatement 18 = .ok (.iload_n 0, 1) := by decide +kernel
theorem dX5_kindInStatement_19 : decode cX5_kindInStatement 19 = .ok (.bipush 40, 2) := by decide +kernel
theorem dX5_kindInStatement_21 : decode cX5_kindInStatement 21 = .ok (.if_icmp .ne 6, 3) := by decide +kernel
theorem dX5_kindInStatement_24 : decode cX5_kindInStatement 24 = .ok (.bipush 8, 2) := by decide +kernel
theorem dX5_kindInStatement_26 : decode cX5_kindInStatement 26 = .ok (.ireturn, 1) := by decide +kernel
theorem dX5_kindInStatement_27 : decode cX5_kindInStatement 27 = .ok (.iload_n 1, 1) := by decide +kernel
theorem dX5_kindInStatement_28 : decode cX5_kindInStatement 28 = .ok (.bipush 41, 2) := by decide +kernel
theorem dX5_kindInStatement_30 : decode cX5_kindInStatement 30 = .ok (.if_icmp .ne 6, 3) := by decide +kernel
theorem dX5_kindInStatement_33 : decode cX5_kindInStatement 33 = .ok (.bipush 9, 2) := by decide +kernel
theorem dX5_kindInStatement_35 : decode cX5_kindInStatement 35 = .ok (.ireturn, 1) := by decide +kernel
theorem dX5_kindInStatement_36 : decode cX5_kindInStatement 36 = .ok (.iload_n 1, 1) := by decide +kernel
theorem dX5_kindInStatement_37 : decode cX5_kindInStatement 37 = .ok (.bipush 40, 2) := by decide +kernel
theorem dX5_kindInStatement_39 : decode cX5_kindInStatement 39 = .ok (.if_icmp .ne 6, 3) := by decide +kernel
theorem dX5_kindInStatement_42 : decode cX5_kindInStatement 42 = .ok (.bipush 10, 2) := by decide +kernel
theorem dX5_kindInStatement_44 : decode cX5_kindInStatement 44 = .ok (.ireturn, 1) := by decide +kernel
theorem dX5_kindInStatement_45 : decode cX5_kindInStatement 45 = .ok (.iload_n 1, 1) := by decide +kernel
theorem dX5_kindInStatement_46 : decode cX5_kindInStatement 46 = .ok (.bipush 61, 2) := by decide +kernel
theorem dX5_kindInStatement_48 : decode cX5_kindInStatement 48 = .ok (.if_icmp .ne 6, 3) := by decide +kernel
theorem dX5_kindInStatement_51 : decode cX5_kindInStatement 51 = .ok (.bipush 11, 2) := by decide +kernel
theorem dX5_kindInStatement_53 : decode cX5_kindInStatement 53 = .ok (.ireturn, 1) := by decide +kernel
theorem dX5_kindInStatement_54 : decode cX5_kindInStatement 54 = .ok (.iload_n 0, 1) := by decide +kernel
theorem dX5_kindInStatement_55 : decode cX5_kindInStatement 55 = .ok (.bipush 61, 2) := by decide +kernel
theorem dX5_kindInStatement_57 : decode cX5_kindInStatement 57 = .ok (.if_icmp .ne 6, 3) := by decide +kernel
theorem dX5_kindInStatement_60 : decode cX5_kindInStatement 60 = .ok (.bipush 12, 2) := by decide +kernel
theorem dX5_kindInStatement_62 : decode cX5_kindInStatement 62 = .ok (.ireturn, 1) := by decide +kernel
theorem dX5_kindInStatement_63 : decode cX5_kindInStatement 63 = .ok (.iload_n 1, 1) := by decide +kernel
theorem dX5_kindInStatement_64 : decode cX5_kindInStatement 64 = .ok (.invokestatic 72, 3) := by decide +kernel
theorem dX5_kindInStatement_67 : decode cX5_kindInStatement 67 = .ok (.ifCond .eq 6, 3) := by decide +kernel
theorem dX5_kindInStatement_70 : decode cX5_kindInStatement 70 = .ok (.bipush 13, 2) := by decide +kernel
theorem dX5_kindInStatement_72 : decode cX5_kindInStatement 72 = .ok (.ireturn, 1) := by decide +kernel
theorem dX5_kindInStatement_73 : decode cX5_kindInStatement 73 = .ok (.iload_n 0, 1) := by decide +kernel
theorem dX5_kindInStatement_74 : decode cX5_kindInStatement 74 = .ok (.invokestatic 72, 3) := by decide +kernel
theorem dX5_kindInStatement_77 : decode cX5_kindInStatement 77 = .ok (.ifCond .eq 8, 3) := by decide +kernel
theorem dX5_kindInStatement_80 : decode cX5_kindInStatement 80 = .ok (.bipush 14, 2) := by decide +kernel
theorem dX5_kindInStatement_82 : decode cX5_kindInStatement 82 = .ok (.goto 5, 3) := by decide +kernel
theorem dX5_kindInStatement_85 : decode cX5_kindInStatement 85 = .ok (.bipush 15, 2) := by decide +kernel
theorem dX5_kindInStatement_87 : decode cX5_kindInStatement 87 = .ok (.ireturn, 1) := by decide +kernel
theorem dX5_choiceBetween_0 : decode cX5_choiceBetween 0 = .ok (.iload_n 2, 1) := by decide +kernel
theorem dX5_choiceBetween_1 : decode cX5_choiceBetween 1 = .ok (.iload_n 1, 1) := by decide +kernel
theorem dX5_choiceBetween_2 : decode cX5_choiceBetween 2 = .ok (.isub, 1) := by decide +kernel
theorem dX5_choiceBetween_3 : decode cX5_choiceBetween 3 = .ok (.istore 4, 2) := by decide +kernel
theorem dX5_choiceBetween_5 : decode cX5_choiceBetween 5 = .ok (.iload 4, 2) := by decide +kernel
theorem dX5_choiceBetween_7 : decode cX5_choiceBetween 7 = .ok (.ifCond .ne 5, 3) := by decide +kernel
theorem dX5_choiceBetween_10 : decode cX5_choiceBetween 10 = .ok (.iconst 0, 1) := by decide +kernel
theorem dX5_choiceBetween_11 : decode cX5_choiceBetween 11 = .ok (.ireturn, 1) := by decide +kernel
theorem dX5_choiceBetween_12 : decode cX5_choiceBetween 12 = .ok (.iload 4, 2) := by decide +kernel
theorem dX5_choiceBetween_14 : decode cX5_choiceBetween 14 = .ok (.iconst 1, 1) := by decide +kernel
theorem dX5_choiceBetween_15 : decode cX5_choiceBetween 15 = .ok (.if_icmp .ne 15, 3) := by decide +kernel
theorem dX5_choiceBetween_18 : decode cX5_choiceBetween 18 = .ok (.aload_n 0, 1) := by decide +kernel
theorem dX5_choiceBetween_19 : decode cX5_choiceBetween 19 = .ok (.iload_n 1, 1) := by decide +kernel
theorem dX5_choiceBetween_20 : decode cX5_choiceBetween 20 = .ok (.invokevirtual 76, 3) := by decide +kernel
theorem dX5_choiceBetween_23 : decode cX5_choiceBetween 23 = .ok (.bipush 32, 2) := by decide +kernel
theorem dX5_choiceBetween_25 : decode cX5_choiceBetween 25 = .ok (.if_icmp .ne 5, 3) := by decide +kernel
theorem dX5_choiceBetween_28 : decode cX5_choiceBetween 28 = .ok (.iconst 1, 1) := by decide +kernel
theorem dX5_choiceBetween_29 : decode cX5_choiceBetween 29 = .ok (.ireturn, 1) := by decide +kernel
theorem dX5_choiceBetween_30 : decode cX5_choiceBetween 30 = .ok (.iload 4, 2) := by decide +kernel
theorem dX5_choiceBetween_32 : decode cX5_choiceBetween 32 = .ok (.iconst 1, 1) := by decide +kernel
theorem dX5_choiceBetween_33 : decode cX5_choiceBetween 33 = .ok (.iconst 2, 1) := by decide +kernel
theorem dX5_choiceBetween_34 : decode cX5_choiceBetween 34 = .ok (.iload_n 3, 1) := by decide +kernel
theorem dX5_choiceBetween_35 : decode cX5_choiceBetween 35 = .ok (.imul, 1) := by decide +kernel
theorem dX5_choiceBetween_36 : decode cX5_choiceBetween 36 = .ok (.iadd, 1) := by decide +kernel
theorem dX5_choiceBetween_37 : decode cX5_choiceBetween 37 = .ok (.if_icmp .ne 13, 3) := by decide +kernel
theorem dX5_choiceBetween_40 : decode cX5_choiceBetween 40 = .ok (.aload_n 0, 1) := by decide +kernel
theorem dX5_choiceBetween_41 : decode cX5_choiceBetween 41 = .ok (.iload_n 1, 1) := by decide +kernel
theorem dX5_choiceBetween_42 : decode cX5_choiceBetween 42 = .ok (.invokevirtual 76, 3) := by decide +kernel
theorem dX5_choiceBetween_45 : decode cX5_choiceBetween 45 = .ok (.bipush 10, 2) := by decide +kernel
theorem dX5_choiceBetween_47 : decode cX5_choiceBetween 47 = .ok (.if_icmp .eq 5, 3) := by decide +kernel
theorem dX5_choiceBetween_50 : decode cX5_choiceBetween 50 = .ok (.iconst 3, 1) := by decide +kernel
theorem dX5_choiceBetween_51 : decode cX5_choiceBetween 51 = .ok (.ireturn, 1) := by decide +kernel
theorem dX5_choiceBetween_52 : decode cX5_choiceBetween 52 = .ok (.iload_n 1, 1) := by decide +kernel
theorem dX5_choiceBetween_53 : decode cX5_choiceBetween 53 = .ok (.iconst 1, 1) := by decide +kernel
theorem dX5_choiceBetween_54 : decode cX5_choiceBetween 54 = .ok (.iadd, 1) := by decide +kernel
theorem dX5_choiceBetween_55 : decode cX5_choiceBetween 55 = .ok (.istore 5, 2) := by decide +kernel
theorem dX5_choiceBetween_57 : decode cX5_choiceBetween 57 = .ok (.iload 5, 2) := by decide +kernel
theorem dX5_choiceBetween_59 : decode cX5_choiceBetween 59 = .ok (.iload_n 2, 1) := by decide +kernel
theorem dX5_choiceBetween_60 : decode cX5_choiceBetween 60 = .ok (.if_icmp .ge 22, 3) := by decide +kernel
theorem dX5_choiceBetween_63 : decode cX5_choiceBetween 63 = .ok (.aload_n 0, 1) := by decide +kernel
theorem dX5_choiceBetween_64 : decode cX5_choiceBetween 64 = .ok (.iload 5, 2) := by decide +kernel
theorem dX5_choiceBetween_66 : decode cX5_choiceBetween 66 = .ok (.invokevirtual 76, 3) := by decide +kernel
theorem dX5_choiceBetween_69 : decode cX5_choiceBetween 69 = .ok (.bipush 32, 2) := by decide +kernel
theorem dX5_choiceBetween_71 : decode cX5_choiceBetween 71 = .ok (.if_icmp .eq 5, 3) := by decide +kernel
theorem dX5_choiceBetween_74 : decode cX5_choiceBetween 74 = .ok (.iconst 3, 1) := by decide +kernel
theorem dX5_choiceBetween_75 : decode cX5_choiceBetween 75 = .ok (.ireturn, 1) := by decide +kernel
theorem dX5_choiceBetween_76 : decode cX5_choiceBetween 76 = .ok (.iinc 5 1, 3) := by decide +kernel
theorem dX5_choiceBetween_79 : decode cX5_choiceBetween 79 = .ok (.goto (-22), 3) := by decide +kernel
theorem dX5_choiceBetween_82 : decode cX5_choiceBetween 82 = .ok (.iconst 2, 1) := by decide +kernel
theorem dX5_choiceBetween_83 : decode cX5_choiceBetween 83 = .ok (.ireturn, 1) := by decide +kernel
theorem dX5_testsAt_0 : decode cX5_testsAt 0 = .ok (.aload_n 0, 1) := by decide +kernel
theorem dX5_testsAt_1 : decode cX5_testsAt 1 = .ok (.getfield 25, 3) := by decide +kernel
theorem dX5_testsAt_4 : decode cX5_testsAt 4 = .ok (.iload_n 1, 1) := by decide +kernel
theorem dX5_testsAt_5 : decode cX5_testsAt 5 = .ok (.iconst 1, 1) := by decide +kernel
theorem dX5_testsAt_6 : decode cX5_testsAt 6 = .ok (.iadd, 1) := by decide +kernel
theorem dX5_testsAt_7 : decode cX5_testsAt 7 = .ok (.iaload, 1) := by decide +kernel
theorem dX5_testsAt_8 : decode cX5_testsAt 8 = .ok (.istore_n 2, 1) := by decide +kernel
theorem dX5_testsAt_9 : decode cX5_testsAt 9 = .ok (.iconst 1, 1) := by decide +kernel
theorem dX5_testsAt_10 : decode cX5_testsAt 10 = .ok (.iconst 2, 1) := by decide +kernel
theorem dX5_testsAt_11 : decode cX5_testsAt 11 = .ok (.aload_n 0, 1) := by decide +kernel
theorem dX5_testsAt_12 : decode cX5_testsAt 12 = .ok (.getfield 28, 3) := by decide +kernel
theorem dX5_testsAt_15 : decode cX5_testsAt 15 = .ok (.iload_n 1, 1) := by decide +kernel
theorem dX5_testsAt_16 : decode cX5_testsAt 16 = .ok (.iaload, 1) := by decide +kernel
theorem dX5_testsAt_17 : decode cX5_testsAt 17 = .ok (.iadd, 1) := by decide +kernel
theorem dX5_testsAt_18 : decode cX5_testsAt 18 = .ok (.ishl, 1) := by decide +kernel
theorem dX5_testsAt_19 : decode cX5_testsAt 19 = .ok (.iconst 1, 1) := by decide +kernel
theorem dX5_testsAt_20 : decode cX5_testsAt 20 = .ok (.bipush 6, 2) := by decide +kernel
theorem dX5_testsAt_22 : decode cX5_testsAt 22 = .ok (.aload_n 0, 1) := by decide +kernel
theorem dX5_testsAt_23 : decode cX5_testsAt 23 = .ok (.getfield 56, 3) := by decide +kernel
theorem dX5_testsAt_26 : decode cX5_testsAt 26 = .ok (.iadd, 1) := by decide +kernel
theorem dX5_testsAt_27 : decode cX5_testsAt 27 = .ok (.ishl, 1) := by decide +kernel
theorem dX5_testsAt_28 : decode cX5_testsAt 28 = .ok (.ior, 1) := by decide +kernel
theorem dX5_testsAt_29 : decode cX5_testsAt 29 = .ok (.istore_n 3, 1) := by decide +kernel
theorem dX5_testsAt_30 : decode cX5_testsAt 30 = .ok (.iload_n 2, 1) := by decide +kernel
theorem dX5_testsAt_31 : decode cX5_testsAt 31 = .ok (.ifCond .ne 10, 3) := by decide +kernel
theorem dX5_testsAt_34 : decode cX5_testsAt 34 = .ok (.iload_n 3, 1) := by decide +kernel
theorem dX5_testsAt_35 : decode cX5_testsAt 35 = .ok (.iconst 1, 1) := by decide +kernel
theorem dX5_testsAt_36 : decode cX5_testsAt 36 = .ok (.ior, 1) := by decide +kernel
theorem dX5_testsAt_37 : decode cX5_testsAt 37 = .ok (.istore_n 3, 1) := by decide +kernel
theorem dX5_testsAt_38 : decode cX5_testsAt 38 = .ok (.goto 12, 3) := by decide +kernel
theorem dX5_testsAt_41 : decode cX5_testsAt 41 = .ok (.iload_n 2, 1) := by decide +kernel
theorem dX5_testsAt_42 : decode cX5_testsAt 42 = .ok (.iconst 2, 1) := by decide +kernel
theorem dX5_testsAt_43 : decode cX5_testsAt 43 = .ok (.if_icmp .lt 7, 3) := by decide +kernel
theorem dX5_testsAt_46 : decode cX5_testsAt 46 = .ok (.iload_n 3, 1) := by decide +kernel
theorem dX5_testsAt_47 : decode cX5_testsAt 47 = .ok (.iconst 2, 1) := by decide +kernel
theorem dX5_testsAt_48 : decode cX5_testsAt 48 = .ok (.ior, 1) := by decide +kernel
theorem dX5_testsAt_49 : decode cX5_testsAt 49 = .ok (.istore_n 3, 1) := by decide +kernel
theorem dX5_testsAt_50 : decode cX5_testsAt 50 = .ok (.iload_n 3, 1) := by decide +kernel
theorem dX5_testsAt_51 : decode cX5_testsAt 51 = .ok (.ireturn, 1) := by decide +kernel
theorem dX5_countGaps_0 : decode cX5_countGaps 0 = .ok (.aload_n 0, 1) := by decide +kernel
theorem dX5_countGaps_1 : decode cX5_countGaps 1 = .ok (.invokevirtual 80, 3) := by decide +kernel
theorem dX5_countGaps_4 : decode cX5_countGaps 4 = .ok (.istore_n 3, 1) := by decide +kernel
theorem dX5_countGaps_5 : decode cX5_countGaps 5 = .ok (.iconst 0, 1) := by decide +kernel
theorem dX5_countGaps_6 : decode cX5_countGaps 6 = .ok (.istore 4, 2) := by decide +kernel
theorem dX5_countGaps_8 : decode cX5_countGaps 8 = .ok (.iconst 0, 1) := by decide +kernel
theorem dX5_countGaps_9 : decode cX5_countGaps 9 = .ok (.istore 5, 2) := by decide +kernel
theorem dX5_countGaps_11 : decode cX5_countGaps 11 = .ok (.iload 5, 2) := by decide +kernel
theorem dX5_countGaps_13 : decode cX5_countGaps 13 = .ok (.iload_n 3, 1) := by decide +kernel
theorem dX5_countGaps_14 : decode cX5_countGaps 14 = .ok (.if_icmp .ge 39, 3) := by decide +kernel
theorem dX5_countGaps_17 : decode cX5_countGaps 17 = .ok (.aload_n 0, 1) := by decide +kernel
theorem dX5_countGaps_18 : decode cX5_countGaps 18 = .ok (.getfield 31, 3) := by decide +kernel
theorem dX5_countGaps_21 : decode cX5_countGaps 21 = .ok (.iload 5, 2) := by decide +kernel
theorem dX5_countGaps_23 : decode cX5_countGaps 23 = .ok (.iaload, 1) := by decide +kernel
theorem dX5_countGaps_24 : decode cX5_countGaps 24 = .ok (.iload_n 1, 1) := by decide +kernel
theorem dX5_countGaps_25 : decode cX5_countGaps 25 = .ok (.if_icmp .ne 22, 3) := by decide +kernel
theorem dX5_countGaps_28 : decode cX5_countGaps 28 = .ok (.iload_n 2, 1) := by decide +kernel
theorem dX5_countGaps_29 : decode cX5_countGaps 29 = .ok (.iconst (-1), 1) := by decide +kernel
theorem dX5_countGaps_30 : decode cX5_countGaps 30 = .ok (.if_icmp .eq 14, 3) := by decide +kernel
theorem dX5_countGaps_33 : decode cX5_countGaps 33 = .ok (.aload_n 0, 1) := by decide +kernel
theorem dX5_countGaps_34 : decode cX5_countGaps 34 = .ok (.getfield 34, 3) := by decide +kernel
theorem dX5_countGaps_37 : decode cX5_countGaps 37 = .ok (.iload 5, 2) := by decide +kernel
theorem dX5_countGaps_39 : decode cX5_countGaps 39 = .ok (.iaload, 1) := by decide +kernel
theorem dX5_countGaps_40 : decode cX5_countGaps 40 = .ok (.iload_n 2, 1) := by decide +kernel
theorem dX5_countGaps_41 : decode cX5_countGaps 41 = .ok (.if_icmp .ne 6, 3) := by decide +kernel
theorem dX5_countGaps_44 : decode cX5_countGaps 44 = .ok (.iinc 4 1, 3) := by decide +kernel
theorem dX5_countGaps_47 : decode cX5_countGaps 47 = .ok (.iinc 5 1, 3) := by decide +kernel
theorem dX5_countGaps_50 : decode cX5_countGaps 50 = .ok (.goto (-39), 3) := by decide +kernel
theorem dX5_countGaps_53 : decode cX5_countGaps 53 = .ok (.iload 4, 2) := by decide +kernel
theorem dX5_countGaps_55 : decode cX5_countGaps 55 = .ok (.ireturn, 1) := by decide +kernel
theorem dX5_sameToken_0 : decode cX5_sameToken 0 = .ok (.aload_n 0, 1) := by decide +kernel
theorem dX5_sameToken_1 : decode cX5_sameToken 1 = .ok (.getfield 9, 3) := by decide +kernel
theorem dX5_sameToken_4 : decode cX5_sameToken 4 = .ok (.aload_n 0, 1) := by decide +kernel
theorem dX5_sameToken_5 : decode cX5_sameToken 5 = .ok (.getfield 15, 3) := by decide +kernel
theorem dX5_sameToken_8 : decode cX5_sameToken 8 = .ok (.iload_n 1, 1) := by decide +kernel
theorem dX5_sameToken_9 : decode cX5_sameToken 9 = .ok (.iaload, 1) := by decide +kernel
theorem dX5_sameToken_10 : decode cX5_sameToken 10 = .ok (.aload_n 0, 1) := by decide +kernel
theorem dX5_sameToken_11 : decode cX5_sameToken 11 = .ok (.getfield 19, 3) := by decide +kernel
theorem dX5_sameToken_14 : decode cX5_sameToken 14 = .ok (.iload_n 1, 1) := by decide +kernel
theorem dX5_sameToken_15 : decode cX5_sameToken 15 = .ok (.iaload, 1) := by decide +kernel
theorem dX5_sameToken_16 : decode cX5_sameToken 16 = .ok (.aload_n 2, 1) := by decide +kernel
theorem dX5_sameToken_17 : decode cX5_sameToken 17 = .ok (.getfield 9, 3) := by decide +kernel
theorem dX5_sameToken_20 : decode cX5_sameToken 20 = .ok (.aload_n 2, 1) := by decide +kernel
theorem dX5_sameToken_21 : decode cX5_sameToken 21 = .ok (.getfield 15, 3) := by decide +kernel
theorem dX5_sameToken_24 : decode cX5_sameToken 24 = .ok (.iload_n 3, 1) := by decide +kernel
theorem dX5_sameToken_25 : decode cX5_sameToken 25 = .ok (.iaload, 1) := by decide +kernel
theorem dX5_sameToken_26 : decode cX5_sameToken 26 = .ok (.aload_n 2, 1) := by decide +kernel
theorem dX5_sameToken_27 : decode cX5_sameToken 27 = .ok (.getfield 19, 3) := by decide +kernel
theorem dX5_sameToken_30 : decode cX5_sameToken 30 = .ok (.iload_n 3, 1) := by decide +kernel
theorem dX5_sameToken_31 : decode cX5_sameToken 31 = .ok (.iaload, 1) := by decide +kernel
theorem dX5_sameToken_32 : decode cX5_sameToken 32 = .ok (.invokestatic 84, 3) := by decide +kernel
theorem dX5_sameToken_35 : decode cX5_sameToken 35 = .ok (.ireturn, 1) := by decide +kernel
