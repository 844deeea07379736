/-! X6_hasOption -/
theorem dX6_hasOption_0 : decode cX6_hasOption 0 = .ok (.iload_n 1, 1) := by decide +kernel
theorem dX6_hasOption_1 : decode cX6_hasOption 1 = .ok (.ifCond .lt 22, 3) := by decide +kernel
theorem dX6_hasOption_4 : decode cX6_hasOption 4 = .ok (.iload_n 1, 1) := by decide +kernel
theorem dX6_hasOption_5 : decode cX6_hasOption 5 = .ok (.bipush 48, 2) := by decide +kernel
theorem dX6_hasOption_7 : decode cX6_hasOption 7 = .ok (.if_icmp .ge 16, 3) := by decide +kernel
theorem dX6_hasOption_10 : decode cX6_hasOption 10 = .ok (.aload_n 0, 1) := by decide +kernel
theorem dX6_hasOption_11 : decode cX6_hasOption 11 = .ok (.getfield 42, 3) := by decide +kernel
theorem dX6_hasOption_14 : decode cX6_hasOption 14 = .ok (.iload_n 1, 1) := by decide +kernel
theorem dX6_hasOption_15 : decode cX6_hasOption 15 = .ok (.baload, 1) := by decide +kernel
theorem dX6_hasOption_16 : decode cX6_hasOption 16 = .ok (.ifCond .eq 7, 3) := by decide +kernel
theorem dX6_hasOption_19 : decode cX6_hasOption 19 = .ok (.iconst 1, 1) := by decide +kernel
theorem dX6_hasOption_20 : decode cX6_hasOption 20 = .ok (.goto 4, 3) := by decide +kernel
theorem dX6_hasOption_23 : decode cX6_hasOption 23 = .ok (.iconst 0, 1) := by decide +kernel
theorem dX6_hasOption_24 : decode cX6_hasOption 24 = .ok (.ireturn, 1) := by decide +kernel
/-! X6_hasRoomForFive -/
theorem dX6_hasRoomForFive_0 : decode cX6_hasRoomForFive 0 = .ok (.aload_n 0, 1) := by decide +kernel
theorem dX6_hasRoomForFive_1 : decode cX6_hasRoomForFive 1 = .ok (.getfield 15, 3) := by decide +kernel
theorem dX6_hasRoomForFive_4 : decode cX6_hasRoomForFive 4 = .ok (.bipush 20, 2) := by decide +kernel
theorem dX6_hasRoomForFive_6 : decode cX6_hasRoomForFive 6 = .ok (.iadd, 1) := by decide +kernel
theorem dX6_hasRoomForFive_7 : decode cX6_hasRoomForFive 7 = .ok (.sipush 500, 3) := by decide +kernel
theorem dX6_hasRoomForFive_10 : decode cX6_hasRoomForFive 10 = .ok (.if_icmp .gt 7, 3) := by decide +kernel
theorem dX6_hasRoomForFive_13 : decode cX6_hasRoomForFive 13 = .ok (.iconst 1, 1) := by decide +kernel
theorem dX6_hasRoomForFive_14 : decode cX6_hasRoomForFive 14 = .ok (.goto 4, 3) := by decide +kernel
theorem dX6_hasRoomForFive_17 : decode cX6_hasRoomForFive 17 = .ok (.iconst 0, 1) := by decide +kernel
theorem dX6_hasRoomForFive_18 : decode cX6_hasRoomForFive 18 = .ok (.ireturn, 1) := by decide +kernel
/-! X6_init -/
theorem dX6_init_0 : decode cX6_init 0 = .ok (.aload_n 0, 1) := by decide +kernel
theorem dX6_init_1 : decode cX6_init 1 = .ok (.invokespecial 3, 3) := by decide +kernel
theorem dX6_init_4 : decode cX6_init 4 = .ok (.aload_n 0, 1) := by decide +kernel
theorem dX6_init_5 : decode cX6_init 5 = .ok (.sipush 500, 3) := by decide +kernel
theorem dX6_init_8 : decode cX6_init 8 = .ok (.newarray .byte, 2) := by decide +kernel
theorem dX6_init_10 : decode cX6_init 10 = .ok (.putfield 11, 3) := by decide +kernel
theorem dX6_init_13 : decode cX6_init 13 = .ok (.aload_n 0, 1) := by decide +kernel
theorem dX6_init_14 : decode cX6_init 14 = .ok (.iconst 0, 1) := by decide +kernel
theorem dX6_init_15 : decode cX6_init 15 = .ok (.putfield 15, 3) := by decide +kernel
theorem dX6_init_18 : decode cX6_init 18 = .ok (.aload_n 0, 1) := by decide +kernel
theorem dX6_init_19 : decode cX6_init 19 = .ok (.iconst 0, 1) := by decide +kernel
theorem dX6_init_20 : decode cX6_init 20 = .ok (.putfield 19, 3) := by decide +kernel
theorem dX6_init_23 : decode cX6_init 23 = .ok (.aload_n 0, 1) := by decide +kernel
theorem dX6_init_24 : decode cX6_init 24 = .ok (.iconst 0, 1) := by decide +kernel
theorem dX6_init_25 : decode cX6_init 25 = .ok (.putfield 22, 3) := by decide +kernel
theorem dX6_init_28 : decode cX6_init 28 = .ok (.aload_n 0, 1) := by decide +kernel
theorem dX6_init_29 : decode cX6_init 29 = .ok (.iconst 0, 1) := by decide +kernel
theorem dX6_init_30 : decode cX6_init 30 = .ok (.putfield 26, 3) := by decide +kernel
theorem dX6_init_33 : decode cX6_init 33 = .ok (.aload_n 0, 1) := by decide +kernel
theorem dX6_init_34 : decode cX6_init 34 = .ok (.iconst (-1), 1) := by decide +kernel
theorem dX6_init_35 : decode cX6_init 35 = .ok (.putfield 29, 3) := by decide +kernel
theorem dX6_init_38 : decode cX6_init 38 = .ok (.aload_n 0, 1) := by decide +kernel
theorem dX6_init_39 : decode cX6_init 39 = .ok (.iconst 0, 1) := by decide +kernel
theorem dX6_init_40 : decode cX6_init 40 = .ok (.putfield 32, 3) := by decide +kernel
theorem dX6_init_43 : decode cX6_init 43 = .ok (.aload_n 0, 1) := by decide +kernel
theorem dX6_init_44 : decode cX6_init 44 = .ok (.bipush 48, 2) := by decide +kernel
theorem dX6_init_46 : decode cX6_init 46 = .ok (.newarray .int, 2) := by decide +kernel
theorem dX6_init_48 : decode cX6_init 48 = .ok (.putfield 35, 3) := by decide +kernel
theorem dX6_init_51 : decode cX6_init 51 = .ok (.aload_n 0, 1) := by decide +kernel
theorem dX6_init_52 : decode cX6_init 52 = .ok (.sipush 192, 3) := by decide +kernel
theorem dX6_init_55 : decode cX6_init 55 = .ok (.newarray .int, 2) := by decide +kernel
theorem dX6_init_57 : decode cX6_init 57 = .ok (.putfield 39, 3) := by decide +kernel
theorem dX6_init_60 : decode cX6_init 60 = .ok (.aload_n 0, 1) := by decide +kernel
theorem dX6_init_61 : decode cX6_init 61 = .ok (.bipush 48, 2) := by decide +kernel
theorem dX6_init_63 : decode cX6_init 63 = .ok (.newarray .boolean, 2) := by decide +kernel
theorem dX6_init_65 : decode cX6_init 65 = .ok (.putfield 42, 3) := by decide +kernel
theorem dX6_init_68 : decode cX6_init 68 = .ok (.aload_n 0, 1) := by decide +kernel
theorem dX6_init_69 : decode cX6_init 69 = .ok (.bipush 10, 2) := by decide +kernel
theorem dX6_init_71 : decode cX6_init 71 = .ok (.newarray .int, 2) := by decide +kernel
theorem dX6_init_73 : decode cX6_init 73 = .ok (.putfield 46, 3) := by decide +kernel
theorem dX6_init_76 : decode cX6_init 76 = .ok (.return_, 1) := by decide +kernel
/-! X6_isAnotherDue -/
theorem dX6_isAnotherDue_0 : decode cX6_isAnotherDue 0 = .ok (.aload_n 0, 1) := by decide +kernel
theorem dX6_isAnotherDue_1 : decode cX6_isAnotherDue 1 = .ok (.getfield 19, 3) := by decide +kernel
theorem dX6_isAnotherDue_4 : decode cX6_isAnotherDue 4 = .ok (.aload_n 0, 1) := by decide +kernel
theorem dX6_isAnotherDue_5 : decode cX6_isAnotherDue 5 = .ok (.getfield 15, 3) := by decide +kernel
theorem dX6_isAnotherDue_8 : decode cX6_isAnotherDue 8 = .ok (.if_icmp .lt 12, 3) := by decide +kernel
theorem dX6_isAnotherDue_11 : decode cX6_isAnotherDue 11 = .ok (.aload_n 0, 1) := by decide +kernel
theorem dX6_isAnotherDue_12 : decode cX6_isAnotherDue 12 = .ok (.getfield 22, 3) := by decide +kernel
theorem dX6_isAnotherDue_15 : decode cX6_isAnotherDue 15 = .ok (.ifCond .ne 5, 3) := by decide +kernel
theorem dX6_isAnotherDue_18 : decode cX6_isAnotherDue 18 = .ok (.iconst 0, 1) := by decide +kernel
theorem dX6_isAnotherDue_19 : decode cX6_isAnotherDue 19 = .ok (.ireturn, 1) := by decide +kernel
theorem dX6_isAnotherDue_20 : decode cX6_isAnotherDue 20 = .ok (.aload_n 0, 1) := by decide +kernel
theorem dX6_isAnotherDue_21 : decode cX6_isAnotherDue 21 = .ok (.invokevirtual 69, 3) := by decide +kernel
theorem dX6_isAnotherDue_24 : decode cX6_isAnotherDue 24 = .ok (.bipush 59, 2) := by decide +kernel
theorem dX6_isAnotherDue_26 : decode cX6_isAnotherDue 26 = .ok (.if_icmp .eq 13, 3) := by decide +kernel
theorem dX6_isAnotherDue_29 : decode cX6_isAnotherDue 29 = .ok (.aload_n 0, 1) := by decide +kernel
theorem dX6_isAnotherDue_30 : decode cX6_isAnotherDue 30 = .ok (.iconst 1, 1) := by decide +kernel
theorem dX6_isAnotherDue_31 : decode cX6_isAnotherDue 31 = .ok (.aload_n 0, 1) := by decide +kernel
theorem dX6_isAnotherDue_32 : decode cX6_isAnotherDue 32 = .ok (.getfield 19, 3) := by decide +kernel
theorem dX6_isAnotherDue_35 : decode cX6_isAnotherDue 35 = .ok (.invokevirtual 73, 3) := by decide +kernel
theorem dX6_isAnotherDue_38 : decode cX6_isAnotherDue 38 = .ok (.ireturn, 1) := by decide +kernel
theorem dX6_isAnotherDue_39 : decode cX6_isAnotherDue 39 = .ok (.aload_n 0, 1) := by decide +kernel
theorem dX6_isAnotherDue_40 : decode cX6_isAnotherDue 40 = .ok (.dup, 1) := by decide +kernel
theorem dX6_isAnotherDue_41 : decode cX6_isAnotherDue 41 = .ok (.getfield 19, 3) := by decide +kernel
theorem dX6_isAnotherDue_44 : decode cX6_isAnotherDue 44 = .ok (.iconst 1, 1) := by decide +kernel
theorem dX6_isAnotherDue_45 : decode cX6_isAnotherDue 45 = .ok (.iadd, 1) := by decide +kernel
theorem dX6_isAnotherDue_46 : decode cX6_isAnotherDue 46 = .ok (.putfield 19, 3) := by decide +kernel
theorem dX6_isAnotherDue_49 : decode cX6_isAnotherDue 49 = .ok (.aload_n 0, 1) := by decide +kernel
theorem dX6_isAnotherDue_50 : decode cX6_isAnotherDue 50 = .ok (.invokevirtual 59, 3) := by decide +kernel
theorem dX6_isAnotherDue_53 : decode cX6_isAnotherDue 53 = .ok (.aload_n 0, 1) := by decide +kernel
theorem dX6_isAnotherDue_54 : decode cX6_isAnotherDue 54 = .ok (.getfield 22, 3) := by decide +kernel
theorem dX6_isAnotherDue_57 : decode cX6_isAnotherDue 57 = .ok (.ifCond .eq 14, 3) := by decide +kernel
theorem dX6_isAnotherDue_60 : decode cX6_isAnotherDue 60 = .ok (.aload_n 0, 1) := by decide +kernel
theorem dX6_isAnotherDue_61 : decode cX6_isAnotherDue 61 = .ok (.getfield 19, 3) := by decide +kernel
theorem dX6_isAnotherDue_64 : decode cX6_isAnotherDue 64 = .ok (.aload_n 0, 1) := by decide +kernel
theorem dX6_isAnotherDue_65 : decode cX6_isAnotherDue 65 = .ok (.getfield 15, 3) := by decide +kernel
theorem dX6_isAnotherDue_68 : decode cX6_isAnotherDue 68 = .ok (.if_icmp .ge 7, 3) := by decide +kernel
theorem dX6_isAnotherDue_71 : decode cX6_isAnotherDue 71 = .ok (.iconst 1, 1) := by decide +kernel
theorem dX6_isAnotherDue_72 : decode cX6_isAnotherDue 72 = .ok (.goto 4, 3) := by decide +kernel
theorem dX6_isAnotherDue_75 : decode cX6_isAnotherDue 75 = .ok (.iconst 0, 1) := by decide +kernel
theorem dX6_isAnotherDue_76 : decode cX6_isAnotherDue 76 = .ok (.ireturn, 1) := by decide +kernel
/-! X6_isDigit -/
theorem dX6_isDigit_0 : decode cX6_isDigit 0 = .ok (.aload_n 0, 1) := by decide +kernel
theorem dX6_isDigit_1 : decode cX6_isDigit 1 = .ok (.invokevirtual 69, 3) := by decide +kernel
theorem dX6_isDigit_4 : decode cX6_isDigit 4 = .ok (.bipush 48, 2) := by decide +kernel
theorem dX6_isDigit_6 : decode cX6_isDigit 6 = .ok (.if_icmp .lt 16, 3) := by decide +kernel
theorem dX6_isDigit_9 : decode cX6_isDigit 9 = .ok (.aload_n 0, 1) := by decide +kernel
theorem dX6_isDigit_10 : decode cX6_isDigit 10 = .ok (.invokevirtual 69, 3) := by decide +kernel
theorem dX6_isDigit_13 : decode cX6_isDigit 13 = .ok (.bipush 57, 2) := by decide +kernel
theorem dX6_isDigit_15 : decode cX6_isDigit 15 = .ok (.if_icmp .gt 7, 3) := by decide +kernel
theorem dX6_isDigit_18 : decode cX6_isDigit 18 = .ok (.iconst 1, 1) := by decide +kernel
theorem dX6_isDigit_19 : decode cX6_isDigit 19 = .ok (.goto 4, 3) := by decide +kernel
theorem dX6_isDigit_22 : decode cX6_isDigit 22 = .ok (.iconst 0, 1) := by decide +kernel
theorem dX6_isDigit_23 : decode cX6_isDigit 23 = .ok (.ireturn, 1) := by decide +kernel
/-! X6_isFailed -/
theorem dX6_isFailed_0 : decode cX6_isFailed 0 = .ok (.aload_n 0, 1) := by decide +kernel
theorem dX6_isFailed_1 : decode cX6_isFailed 1 = .ok (.iload_n 1, 1) := by decide +kernel
theorem dX6_isFailed_2 : decode cX6_isFailed 2 = .ok (.putfield 26, 3) := by decide +kernel
theorem dX6_isFailed_5 : decode cX6_isFailed 5 = .ok (.aload_n 0, 1) := by decide +kernel
theorem dX6_isFailed_6 : decode cX6_isFailed 6 = .ok (.iload_n 2, 1) := by decide +kernel
theorem dX6_isFailed_7 : decode cX6_isFailed 7 = .ok (.putfield 29, 3) := by decide +kernel
theorem dX6_isFailed_10 : decode cX6_isFailed 10 = .ok (.iconst 0, 1) := by decide +kernel
theorem dX6_isFailed_11 : decode cX6_isFailed 11 = .ok (.ireturn, 1) := by decide +kernel
/-! X6_isLetter -/
theorem dX6_isLetter_0 : decode cX6_isLetter 0 = .ok (.aload_n 0, 1) := by decide +kernel
theorem dX6_isLetter_1 : decode cX6_isLetter 1 = .ok (.invokevirtual 69, 3) := by decide +kernel
theorem dX6_isLetter_4 : decode cX6_isLetter 4 = .ok (.bipush 97, 2) := by decide +kernel
theorem dX6_isLetter_6 : decode cX6_isLetter 6 = .ok (.if_icmp .lt 16, 3) := by decide +kernel
theorem dX6_isLetter_9 : decode cX6_isLetter 9 = .ok (.aload_n 0, 1) := by decide +kernel
theorem dX6_isLetter_10 : decode cX6_isLetter 10 = .ok (.invokevirtual 69, 3) := by decide +kernel
theorem dX6_isLetter_13 : decode cX6_isLetter 13 = .ok (.bipush 122, 2) := by decide +kernel
theorem dX6_isLetter_15 : decode cX6_isLetter 15 = .ok (.if_icmp .gt 7, 3) := by decide +kernel
theorem dX6_isLetter_18 : decode cX6_isLetter 18 = .ok (.iconst 1, 1) := by decide +kernel
theorem dX6_isLetter_19 : decode cX6_isLetter 19 = .ok (.goto 4, 3) := by decide +kernel
theorem dX6_isLetter_22 : decode cX6_isLetter 22 = .ok (.iconst 0, 1) := by decide +kernel
theorem dX6_isLetter_23 : decode cX6_isLetter 23 = .ok (.ireturn, 1) := by decide +kernel
/-! X6_isNumberRead -/
theorem dX6_isNumberRead_0 : decode cX6_isNumberRead 0 = .ok (.aload_n 0, 1) := by decide +kernel
theorem dX6_isNumberRead_1 : decode cX6_isNumberRead 1 = .ok (.getfield 19, 3) := by decide +kernel
theorem dX6_isNumberRead_4 : decode cX6_isNumberRead 4 = .ok (.istore_n 3, 1) := by decide +kernel
theorem dX6_isNumberRead_5 : decode cX6_isNumberRead 5 = .ok (.iconst 0, 1) := by decide +kernel
theorem dX6_isNumberRead_6 : decode cX6_isNumberRead 6 = .ok (.istore 4, 2) := by decide +kernel
theorem dX6_isNumberRead_8 : decode cX6_isNumberRead 8 = .ok (.iconst 0, 1) := by decide +kernel
theorem dX6_isNumberRead_9 : decode cX6_isNumberRead 9 = .ok (.istore 5, 2) := by decide +kernel
theorem dX6_isNumberRead_11 : decode cX6_isNumberRead 11 = .ok (.aload_n 0, 1) := by decide +kernel
theorem dX6_isNumberRead_12 : decode cX6_isNumberRead 12 = .ok (.getfield 19, 3) := by decide +kernel
theorem dX6_isNumberRead_15 : decode cX6_isNumberRead 15 = .ok (.aload_n 0, 1) := by decide +kernel
theorem dX6_isNumberRead_16 : decode cX6_isNumberRead 16 = .ok (.getfield 15, 3) := by decide +kernel
theorem dX6_isNumberRead_19 : decode cX6_isNumberRead 19 = .ok (.if_icmp .ge 47, 3) := by decide +kernel
theorem dX6_isNumberRead_22 : decode cX6_isNumberRead 22 = .ok (.aload_n 0, 1) := by decide +kernel
theorem dX6_isNumberRead_23 : decode cX6_isNumberRead 23 = .ok (.invokevirtual 139, 3) := by decide +kernel
theorem dX6_isNumberRead_26 : decode cX6_isNumberRead 26 = .ok (.ifCond .eq 40, 3) := by decide +kernel
theorem dX6_isNumberRead_29 : decode cX6_isNumberRead 29 = .ok (.iload 5, 2) := by decide +kernel
theorem dX6_isNumberRead_31 : decode cX6_isNumberRead 31 = .ok (.iconst 4, 1) := by decide +kernel
theorem dX6_isNumberRead_32 : decode cX6_isNumberRead 32 = .ok (.if_icmp .ge 18, 3) := by decide +kernel
theorem dX6_isNumberRead_35 : decode cX6_isNumberRead 35 = .ok (.iload 4, 2) := by decide +kernel
theorem dX6_isNumberRead_37 : decode cX6_isNumberRead 37 = .ok (.bipush 10, 2) := by decide +kernel
theorem dX6_isNumberRead_39 : decode cX6_isNumberRead 39 = .ok (.imul, 1) := by decide +kernel
theorem dX6_isNumberRead_40 : decode cX6_isNumberRead 40 = .ok (.aload_n 0, 1) := by decide +kernel
theorem dX6_isNumberRead_41 : decode cX6_isNumberRead 41 = .ok (.invokevirtual 69, 3) := by decide +kernel
theorem dX6_isNumberRead_44 : decode cX6_isNumberRead 44 = .ok (.iadd, 1) := by decide +kernel
theorem dX6_isNumberRead_45 : decode cX6_isNumberRead 45 = .ok (.bipush 48, 2) := by decide +kernel
theorem dX6_isNumberRead_47 : decode cX6_isNumberRead 47 = .ok (.isub, 1) := by decide +kernel
theorem dX6_isNumberRead_48 : decode cX6_isNumberRead 48 = .ok (.istore 4, 2) := by decide +kernel
theorem dX6_isNumberRead_50 : decode cX6_isNumberRead 50 = .ok (.iinc 5 1, 3) := by decide +kernel
theorem dX6_isNumberRead_53 : decode cX6_isNumberRead 53 = .ok (.aload_n 0, 1) := by decide +kernel
theorem dX6_isNumberRead_54 : decode cX6_isNumberRead 54 = .ok (.dup, 1) := by decide +kernel
theorem dX6_isNumberRead_55 : decode cX6_isNumberRead 55 = .ok (.getfield 19, 3) := by decide +kernel
theorem dX6_isNumberRead_58 : decode cX6_isNumberRead 58 = .ok (.iconst 1, 1) := by decide +kernel
theorem dX6_isNumberRead_59 : decode cX6_isNumberRead 59 = .ok (.iadd, 1) := by decide +kernel
theorem dX6_isNumberRead_60 : decode cX6_isNumberRead 60 = .ok (.putfield 19, 3) := by decide +kernel
theorem dX6_isNumberRead_63 : decode cX6_isNumberRead 63 = .ok (.goto (-52), 3) := by decide +kernel
theorem dX6_isNumberRead_66 : decode cX6_isNumberRead 66 = .ok (.iload 5, 2) := by decide +kernel
theorem dX6_isNumberRead_68 : decode cX6_isNumberRead 68 = .ok (.ifCond .eq 9, 3) := by decide +kernel
theorem dX6_isNumberRead_71 : decode cX6_isNumberRead 71 = .ok (.iload 5, 2) := by decide +kernel
theorem dX6_isNumberRead_73 : decode cX6_isNumberRead 73 = .ok (.iconst 4, 1) := by decide +kernel
theorem dX6_isNumberRead_74 : decode cX6_isNumberRead 74 = .ok (.if_icmp .le 10, 3) := by decide +kernel
theorem dX6_isNumberRead_77 : decode cX6_isNumberRead 77 = .ok (.aload_n 0, 1) := by decide +kernel
theorem dX6_isNumberRead_78 : decode cX6_isNumberRead 78 = .ok (.iconst 1, 1) := by decide +kernel
theorem dX6_isNumberRead_79 : decode cX6_isNumberRead 79 = .ok (.iload_n 3, 1) := by decide +kernel
theorem dX6_isNumberRead_80 : decode cX6_isNumberRead 80 = .ok (.invokevirtual 73, 3) := by decide +kernel
theorem dX6_isNumberRead_83 : decode cX6_isNumberRead 83 = .ok (.ireturn, 1) := by decide +kernel
theorem dX6_isNumberRead_84 : decode cX6_isNumberRead 84 = .ok (.iload_n 1, 1) := by decide +kernel
theorem dX6_isNumberRead_85 : decode cX6_isNumberRead 85 = .ok (.iconst 4, 1) := by decide +kernel
theorem dX6_isNumberRead_86 : decode cX6_isNumberRead 86 = .ok (.imul, 1) := by decide +kernel
theorem dX6_isNumberRead_87 : decode cX6_isNumberRead 87 = .ok (.iload_n 2, 1) := by decide +kernel
theorem dX6_isNumberRead_88 : decode cX6_isNumberRead 88 = .ok (.iadd, 1) := by decide +kernel
theorem dX6_isNumberRead_89 : decode cX6_isNumberRead 89 = .ok (.istore 6, 2) := by decide +kernel
theorem dX6_isNumberRead_91 : decode cX6_isNumberRead 91 = .ok (.iload_n 1, 1) := by decide +kernel
theorem dX6_isNumberRead_92 : decode cX6_isNumberRead 92 = .ok (.bipush 6, 2) := by decide +kernel
theorem dX6_isNumberRead_94 : decode cX6_isNumberRead 94 = .ok (.if_icmp .ne 20, 3) := by decide +kernel
theorem dX6_isNumberRead_97 : decode cX6_isNumberRead 97 = .ok (.iload_n 2, 1) := by decide +kernel
theorem dX6_isNumberRead_98 : decode cX6_isNumberRead 98 = .ok (.iconst 1, 1) := by decide +kernel
theorem dX6_isNumberRead_99 : decode cX6_isNumberRead 99 = .ok (.if_icmp .ne 15, 3) := by decide +kernel
theorem dX6_isNumberRead_102 : decode cX6_isNumberRead 102 = .ok (.iload 4, 2) := by decide +kernel
theorem dX6_isNumberRead_104 : decode cX6_isNumberRead 104 = .ok (.bipush 8, 2) := by decide +kernel
theorem dX6_isNumberRead_106 : decode cX6_isNumberRead 106 = .ok (.irem, 1) := by decide +kernel
theorem dX6_isNumberRead_107 : decode cX6_isNumberRead 107 = .ok (.ifCond .eq 7, 3) := by decide +kernel
theorem dX6_isNumberRead_110 : decode cX6_isNumberRead 110 = .ok (.iconst 1, 1) := by decide +kernel
theorem dX6_isNumberRead_111 : decode cX6_isNumberRead 111 = .ok (.goto 4, 3) := by decide +kernel
theorem dX6_isNumberRead_114 : decode cX6_isNumberRead 114 = .ok (.iconst 0, 1) := by decide +kernel
theorem dX6_isNumberRead_115 : decode cX6_isNumberRead 115 = .ok (.istore 7, 2) := by decide +kernel
theorem dX6_isNumberRead_117 : decode cX6_isNumberRead 117 = .ok (.iload 4, 2) := by decide +kernel
theorem dX6_isNumberRead_119 : decode cX6_isNumberRead 119 = .ok (.getstatic 142, 3) := by decide +kernel
theorem dX6_isNumberRead_122 : decode cX6_isNumberRead 122 = .ok (.iload 6, 2) := by decide +kernel
theorem dX6_isNumberRead_124 : decode cX6_isNumberRead 124 = .ok (.invokestatic 49, 3) := by decide +kernel
theorem dX6_isNumberRead_127 : decode cX6_isNumberRead 127 = .ok (.if_icmp .lt 21, 3) := by decide +kernel
theorem dX6_isNumberRead_130 : decode cX6_isNumberRead 130 = .ok (.iload 4, 2) := by decide +kernel
theorem dX6_isNumberRead_132 : decode cX6_isNumberRead 132 = .ok (.getstatic 145, 3) := by decide +kernel
theorem dX6_isNumberRead_135 : decode cX6_isNumberRead 135 = .ok (.iload 6, 2) := by decide +kernel
theorem dX6_isNumberRead_137 : decode cX6_isNumberRead 137 = .ok (.invokestatic 49, 3) := by decide +kernel
theorem dX6_isNumberRead_140 : decode cX6_isNumberRead 140 = .ok (.if_icmp .gt 8, 3) := by decide +kernel
theorem dX6_isNumberRead_143 : decode cX6_isNumberRead 143 = .ok (.iload 7, 2) := by decide +kernel
theorem dX6_isNumberRead_145 : decode cX6_isNumberRead 145 = .ok (.ifCond .eq 10, 3) := by decide +kernel
theorem dX6_isNumberRead_148 : decode cX6_isNumberRead 148 = .ok (.aload_n 0, 1) := by decide +kernel
theorem dX6_isNumberRead_149 : decode cX6_isNumberRead 149 = .ok (.iconst 2, 1) := by decide +kernel
theorem dX6_isNumberRead_150 : decode cX6_isNumberRead 150 = .ok (.iload_n 3, 1) := by decide +kernel
theorem dX6_isNumberRead_151 : decode cX6_isNumberRead 151 = .ok (.invokevirtual 73, 3) := by decide +kernel
theorem dX6_isNumberRead_154 : decode cX6_isNumberRead 154 = .ok (.ireturn, 1) := by decide +kernel
theorem dX6_isNumberRead_155 : decode cX6_isNumberRead 155 = .ok (.aload_n 0, 1) := by decide +kernel
theorem dX6_isNumberRead_156 : decode cX6_isNumberRead 156 = .ok (.getfield 39, 3) := by decide +kernel
theorem dX6_isNumberRead_159 : decode cX6_isNumberRead 159 = .ok (.aload_n 0, 1) := by decide +kernel
theorem dX6_isNumberRead_160 : decode cX6_isNumberRead 160 = .ok (.getfield 32, 3) := by decide +kernel
theorem dX6_isNumberRead_163 : decode cX6_isNumberRead 163 = .ok (.iconst 4, 1) := by decide +kernel
theorem dX6_isNumberRead_164 : decode cX6_isNumberRead 164 = .ok (.imul, 1) := by decide +kernel
theorem dX6_isNumberRead_165 : decode cX6_isNumberRead 165 = .ok (.iload_n 2, 1) := by decide +kernel
theorem dX6_isNumberRead_166 : decode cX6_isNumberRead 166 = .ok (.iadd, 1) := by decide +kernel
theorem dX6_isNumberRead_167 : decode cX6_isNumberRead 167 = .ok (.iload 4, 2) := by decide +kernel
theorem dX6_isNumberRead_169 : decode cX6_isNumberRead 169 = .ok (.invokestatic 84, 3) := by decide +kernel
theorem dX6_isNumberRead_172 : decode cX6_isNumberRead 172 = .ok (.aload_n 0, 1) := by decide +kernel
theorem dX6_isNumberRead_173 : decode cX6_isNumberRead 173 = .ok (.invokevirtual 59, 3) := by decide +kernel
theorem dX6_isNumberRead_176 : decode cX6_isNumberRead 176 = .ok (.iconst 1, 1) := by decide +kernel
theorem dX6_isNumberRead_177 : decode cX6_isNumberRead 177 = .ok (.ireturn, 1) := by decide +kernel
/-! X6_isOptionRead -/
theorem dX6_isOptionRead_0 : decode cX6_isOptionRead 0 = .ok (.iload_n 1, 1) := by decide +kernel
theorem dX6_isOptionRead_1 : decode cX6_isOptionRead 1 = .ok (.iconst 3, 1) := by decide +kernel
theorem dX6_isOptionRead_2 : decode cX6_isOptionRead 2 = .ok (.if_icmp .eq 11, 3) := by decide +kernel
theorem dX6_isOptionRead_5 : decode cX6_isOptionRead 5 = .ok (.iload_n 1, 1) := by decide +kernel
theorem dX6_isOptionRead_6 : decode cX6_isOptionRead 6 = .ok (.bipush 6, 2) := by decide +kernel
theorem dX6_isOptionRead_8 : decode cX6_isOptionRead 8 = .ok (.if_icmp .eq 5, 3) := by decide +kernel
theorem dX6_isOptionRead_11 : decode cX6_isOptionRead 11 = .ok (.iconst 0, 1) := by decide +kernel
theorem dX6_isOptionRead_12 : decode cX6_isOptionRead 12 = .ok (.ireturn, 1) := by decide +kernel
theorem dX6_isOptionRead_13 : decode cX6_isOptionRead 13 = .ok (.aload_n 0, 1) := by decide +kernel
theorem dX6_isOptionRead_14 : decode cX6_isOptionRead 14 = .ok (.getfield 19, 3) := by decide +kernel
theorem dX6_isOptionRead_17 : decode cX6_isOptionRead 17 = .ok (.istore_n 2, 1) := by decide +kernel
theorem dX6_isOptionRead_18 : decode cX6_isOptionRead 18 = .ok (.aload_n 0, 1) := by decide +kernel
theorem dX6_isOptionRead_19 : decode cX6_isOptionRead 19 = .ok (.invokevirtual 97, 3) := by decide +kernel
theorem dX6_isOptionRead_22 : decode cX6_isOptionRead 22 = .ok (.aload_n 0, 1) := by decide +kernel
theorem dX6_isOptionRead_23 : decode cX6_isOptionRead 23 = .ok (.iload_n 2, 1) := by decide +kernel
theorem dX6_isOptionRead_24 : decode cX6_isOptionRead 24 = .ok (.iload_n 1, 1) := by decide +kernel
theorem dX6_isOptionRead_25 : decode cX6_isOptionRead 25 = .ok (.iconst 3, 1) := by decide +kernel
theorem dX6_isOptionRead_26 : decode cX6_isOptionRead 26 = .ok (.if_icmp .ne 8, 3) := by decide +kernel
theorem dX6_isOptionRead_29 : decode cX6_isOptionRead 29 = .ok (.ldc 148, 2) := by decide +kernel
theorem dX6_isOptionRead_31 : decode cX6_isOptionRead 31 = .ok (.goto 5, 3) := by decide +kernel
theorem dX6_isOptionRead_34 : decode cX6_isOptionRead 34 = .ok (.ldc 150, 2) := by decide +kernel
theorem dX6_isOptionRead_36 : decode cX6_isOptionRead 36 = .ok (.invokevirtual 104, 3) := by decide +kernel
theorem dX6_isOptionRead_39 : decode cX6_isOptionRead 39 = .ok (.ifCond .eq 9, 3) := by decide +kernel
theorem dX6_isOptionRead_42 : decode cX6_isOptionRead 42 = .ok (.aload_n 0, 1) := by decide +kernel
theorem dX6_isOptionRead_43 : decode cX6_isOptionRead 43 = .ok (.invokevirtual 59, 3) := by decide +kernel
theorem dX6_isOptionRead_46 : decode cX6_isOptionRead 46 = .ok (.iconst 1, 1) := by decide +kernel
theorem dX6_isOptionRead_47 : decode cX6_isOptionRead 47 = .ok (.ireturn, 1) := by decide +kernel
theorem dX6_isOptionRead_48 : decode cX6_isOptionRead 48 = .ok (.aload_n 0, 1) := by decide +kernel
theorem dX6_isOptionRead_49 : decode cX6_isOptionRead 49 = .ok (.iload_n 2, 1) := by decide +kernel
theorem dX6_isOptionRead_50 : decode cX6_isOptionRead 50 = .ok (.putfield 19, 3) := by decide +kernel
theorem dX6_isOptionRead_53 : decode cX6_isOptionRead 53 = .ok (.iconst 0, 1) := by decide +kernel
theorem dX6_isOptionRead_54 : decode cX6_isOptionRead 54 = .ok (.ireturn, 1) := by decide +kernel
/-! X6_isStatementRead -/
theorem dX6_isStatementRead_0 : decode cX6_isStatementRead 0 = .ok (.aload_n 0, 1) := by decide +kernel
theorem dX6_isStatementRead_1 : decode cX6_isStatementRead 1 = .ok (.getfield 19, 3) := by decide +kernel
theorem dX6_isStatementRead_4 : decode cX6_isStatementRead 4 = .ok (.istore_n 1, 1) := by decide +kernel
theorem dX6_isStatementRead_5 : decode cX6_isStatementRead 5 = .ok (.aload_n 0, 1) := by decide +kernel
theorem dX6_isStatementRead_6 : decode cX6_isStatementRead 6 = .ok (.invokevirtual 77, 3) := by decide +kernel
theorem dX6_isStatementRead_9 : decode cX6_isStatementRead 9 = .ok (.istore_n 2, 1) := by decide +kernel
theorem dX6_isStatementRead_10 : decode cX6_isStatementRead 10 = .ok (.iload_n 2, 1) := by decide +kernel
theorem dX6_isStatementRead_11 : decode cX6_isStatementRead 11 = .ok (.iconst (-1), 1) := by decide +kernel
theorem dX6_isStatementRead_12 : decode cX6_isStatementRead 12 = .ok (.if_icmp .eq 21, 3) := by decide +kernel
theorem dX6_isStatementRead_15 : decode cX6_isStatementRead 15 = .ok (.aload_n 0, 1) := by decide +kernel
theorem dX6_isStatementRead_16 : decode cX6_isStatementRead 16 = .ok (.getfield 22, 3) := by decide +kernel
theorem dX6_isStatementRead_19 : decode cX6_isStatementRead 19 = .ok (.ifCond .ne 21, 3) := by decide +kernel
theorem dX6_isStatementRead_22 : decode cX6_isStatementRead 22 = .ok (.aload_n 0, 1) := by decide +kernel
theorem dX6_isStatementRead_23 : decode cX6_isStatementRead 23 = .ok (.getfield 32, 3) := by decide +kernel
theorem dX6_isStatementRead_26 : decode cX6_isStatementRead 26 = .ok (.ifCond .ne 14, 3) := by decide +kernel
theorem dX6_isStatementRead_29 : decode cX6_isStatementRead 29 = .ok (.iload_n 2, 1) := by decide +kernel
theorem dX6_isStatementRead_30 : decode cX6_isStatementRead 30 = .ok (.ifCond .eq 10, 3) := by decide +kernel
theorem dX6_isStatementRead_33 : decode cX6_isStatementRead 33 = .ok (.aload_n 0, 1) := by decide +kernel
theorem dX6_isStatementRead_34 : decode cX6_isStatementRead 34 = .ok (.iconst 1, 1) := by decide +kernel
theorem dX6_isStatementRead_35 : decode cX6_isStatementRead 35 = .ok (.iload_n 1, 1) := by decide +kernel
theorem dX6_isStatementRead_36 : decode cX6_isStatementRead 36 = .ok (.invokevirtual 73, 3) := by decide +kernel
theorem dX6_isStatementRead_39 : decode cX6_isStatementRead 39 = .ok (.ireturn, 1) := by decide +kernel
theorem dX6_isStatementRead_40 : decode cX6_isStatementRead 40 = .ok (.aload_n 0, 1) := by decide +kernel
theorem dX6_isStatementRead_41 : decode cX6_isStatementRead 41 = .ok (.getfield 46, 3) := by decide +kernel
theorem dX6_isStatementRead_44 : decode cX6_isStatementRead 44 = .ok (.iload_n 2, 1) := by decide +kernel
theorem dX6_isStatementRead_45 : decode cX6_isStatementRead 45 = .ok (.invokestatic 49, 3) := by decide +kernel
theorem dX6_isStatementRead_48 : decode cX6_isStatementRead 48 = .ok (.ifCond .le 20, 3) := by decide +kernel
theorem dX6_isStatementRead_51 : decode cX6_isStatementRead 51 = .ok (.iload_n 2, 1) := by decide +kernel
theorem dX6_isStatementRead_52 : decode cX6_isStatementRead 52 = .ok (.iconst 1, 1) := by decide +kernel
theorem dX6_isStatementRead_53 : decode cX6_isStatementRead 53 = .ok (.if_icmp .eq 8, 3) := by decide +kernel
theorem dX6_isStatementRead_56 : decode cX6_isStatementRead 56 = .ok (.iload_n 2, 1) := by decide +kernel
theorem dX6_isStatementRead_57 : decode cX6_isStatementRead 57 = .ok (.iconst 2, 1) := by decide +kernel
theorem dX6_isStatementRead_58 : decode cX6_isStatementRead 58 = .ok (.if_icmp .ne 10, 3) := by decide +kernel
theorem dX6_isStatementRead_61 : decode cX6_isStatementRead 61 = .ok (.aload_n 0, 1) := by decide +kernel
theorem dX6_isStatementRead_62 : decode cX6_isStatementRead 62 = .ok (.iconst 3, 1) := by decide +kernel
theorem dX6_isStatementRead_63 : decode cX6_isStatementRead 63 = .ok (.iload_n 1, 1) := by decide +kernel
theorem dX6_isStatementRead_64 : decode cX6_isStatementRead 64 = .ok (.invokevirtual 73, 3) := by decide +kernel
theorem dX6_isStatementRead_67 : decode cX6_isStatementRead 67 = .ok (.ireturn, 1) := by decide +kernel
theorem dX6_isStatementRead_68 : decode cX6_isStatementRead 68 = .ok (.aload_n 0, 1) := by decide +kernel
theorem dX6_isStatementRead_69 : decode cX6_isStatementRead 69 = .ok (.iload_n 2, 1) := by decide +kernel
theorem dX6_isStatementRead_70 : decode cX6_isStatementRead 70 = .ok (.invokevirtual 80, 3) := by decide +kernel
theorem dX6_isStatementRead_73 : decode cX6_isStatementRead 73 = .ok (.ifCond .ne 19, 3) := by decide +kernel
theorem dX6_isStatementRead_76 : decode cX6_isStatementRead 76 = .ok (.aload_n 0, 1) := by decide +kernel
theorem dX6_isStatementRead_77 : decode cX6_isStatementRead 77 = .ok (.getfield 32, 3) := by decide +kernel
theorem dX6_isStatementRead_80 : decode cX6_isStatementRead 80 = .ok (.ifCond .lt 12, 3) := by decide +kernel
theorem dX6_isStatementRead_83 : decode cX6_isStatementRead 83 = .ok (.aload_n 0, 1) := by decide +kernel
theorem dX6_isStatementRead_84 : decode cX6_isStatementRead 84 = .ok (.getfield 32, 3) := by decide +kernel
theorem dX6_isStatementRead_87 : decode cX6_isStatementRead 87 = .ok (.bipush 48, 2) := by decide +kernel
theorem dX6_isStatementRead_89 : decode cX6_isStatementRead 89 = .ok (.if_icmp .lt 10, 3) := by decide +kernel
theorem dX6_isStatementRead_92 : decode cX6_isStatementRead 92 = .ok (.aload_n 0, 1) := by decide +kernel
theorem dX6_isStatementRead_93 : decode cX6_isStatementRead 93 = .ok (.iconst 4, 1) := by decide +kernel
theorem dX6_isStatementRead_94 : decode cX6_isStatementRead 94 = .ok (.iload_n 1, 1) := by decide +kernel
theorem dX6_isStatementRead_95 : decode cX6_isStatementRead 95 = .ok (.invokevirtual 73, 3) := by decide +kernel
theorem dX6_isStatementRead_98 : decode cX6_isStatementRead 98 = .ok (.ireturn, 1) := by decide +kernel
theorem dX6_isStatementRead_99 : decode cX6_isStatementRead 99 = .ok (.aload_n 0, 1) := by decide +kernel
theorem dX6_isStatementRead_100 : decode cX6_isStatementRead 100 = .ok (.getfield 46, 3) := by decide +kernel
theorem dX6_isStatementRead_103 : decode cX6_isStatementRead 103 = .ok (.iload_n 2, 1) := by decide +kernel
theorem dX6_isStatementRead_104 : decode cX6_isStatementRead 104 = .ok (.aload_n 0, 1) := by decide +kernel
theorem dX6_isStatementRead_105 : decode cX6_isStatementRead 105 = .ok (.getfield 46, 3) := by decide +kernel
theorem dX6_isStatementRead_108 : decode cX6_isStatementRead 108 = .ok (.iload_n 2, 1) := by decide +kernel
theorem dX6_isStatementRead_109 : decode cX6_isStatementRead 109 = .ok (.invokestatic 49, 3) := by decide +kernel
theorem dX6_isStatementRead_112 : decode cX6_isStatementRead 112 = .ok (.iconst 1, 1) := by decide +kernel
theorem dX6_isStatementRead_113 : decode cX6_isStatementRead 113 = .ok (.iadd, 1) := by decide +kernel
theorem dX6_isStatementRead_114 : decode cX6_isStatementRead 114 = .ok (.invokestatic 84, 3) := by decide +kernel
theorem dX6_isStatementRead_117 : decode cX6_isStatementRead 117 = .ok (.iconst 0, 1) := by decide +kernel
theorem dX6_isStatementRead_118 : decode cX6_isStatementRead 118 = .ok (.istore_n 3, 1) := by decide +kernel
theorem dX6_isStatementRead_119 : decode cX6_isStatementRead 119 = .ok (.iload_n 3, 1) := by decide +kernel
theorem dX6_isStatementRead_120 : decode cX6_isStatementRead 120 = .ok (.getstatic 88, 3) := by decide +kernel
theorem dX6_isStatementRead_123 : decode cX6_isStatementRead 123 = .ok (.iload_n 2, 1) := by decide +kernel
theorem dX6_isStatementRead_124 : decode cX6_isStatementRead 124 = .ok (.invokestatic 49, 3) := by decide +kernel
theorem dX6_isStatementRead_127 : decode cX6_isStatementRead 127 = .ok (.if_icmp .ge 20, 3) := by decide +kernel
theorem dX6_isStatementRead_130 : decode cX6_isStatementRead 130 = .ok (.aload_n 0, 1) := by decide +kernel
theorem dX6_isStatementRead_131 : decode cX6_isStatementRead 131 = .ok (.iload_n 2, 1) := by decide +kernel
theorem dX6_isStatementRead_132 : decode cX6_isStatementRead 132 = .ok (.iload_n 3, 1) := by decide +kernel
theorem dX6_isStatementRead_133 : decode cX6_isStatementRead 133 = .ok (.invokevirtual 91, 3) := by decide +kernel
theorem dX6_isStatementRead_136 : decode cX6_isStatementRead 136 = .ok (.ifCond .ne 5, 3) := by decide +kernel
theorem dX6_isStatementRead_139 : decode cX6_isStatementRead 139 = .ok (.iconst 0, 1) := by decide +kernel
theorem dX6_isStatementRead_140 : decode cX6_isStatementRead 140 = .ok (.ireturn, 1) := by decide +kernel
theorem dX6_isStatementRead_141 : decode cX6_isStatementRead 141 = .ok (.iinc 3 1, 3) := by decide +kernel
theorem dX6_isStatementRead_144 : decode cX6_isStatementRead 144 = .ok (.goto (-25), 3) := by decide +kernel
theorem dX6_isStatementRead_147 : decode cX6_isStatementRead 147 = .ok (.aload_n 0, 1) := by decide +kernel
theorem dX6_isStatementRead_148 : decode cX6_isStatementRead 148 = .ok (.getfield 35, 3) := by decide +kernel
theorem dX6_isStatementRead_151 : decode cX6_isStatementRead 151 = .ok (.aload_n 0, 1) := by decide +kernel
theorem dX6_isStatementRead_152 : decode cX6_isStatementRead 152 = .ok (.getfield 32, 3) := by decide +kernel
theorem dX6_isStatementRead_155 : decode cX6_isStatementRead 155 = .ok (.iload_n 2, 1) := by decide +kernel
theorem dX6_isStatementRead_156 : decode cX6_isStatementRead 156 = .ok (.iastore, 1) := by decide +kernel
theorem dX6_isStatementRead_157 : decode cX6_isStatementRead 157 = .ok (.aload_n 0, 1) := by decide +kernel
theorem dX6_isStatementRead_158 : decode cX6_isStatementRead 158 = .ok (.getfield 42, 3) := by decide +kernel
theorem dX6_isStatementRead_161 : decode cX6_isStatementRead 161 = .ok (.aload_n 0, 1) := by decide +kernel
theorem dX6_isStatementRead_162 : decode cX6_isStatementRead 162 = .ok (.getfield 32, 3) := by decide +kernel
theorem dX6_isStatementRead_165 : decode cX6_isStatementRead 165 = .ok (.aload_n 0, 1) := by decide +kernel
theorem dX6_isStatementRead_166 : decode cX6_isStatementRead 166 = .ok (.iload_n 2, 1) := by decide +kernel
theorem dX6_isStatementRead_167 : decode cX6_isStatementRead 167 = .ok (.invokevirtual 94, 3) := by decide +kernel
theorem dX6_isStatementRead_170 : decode cX6_isStatementRead 170 = .ok (.bastore, 1) := by decide +kernel
theorem dX6_isStatementRead_171 : decode cX6_isStatementRead 171 = .ok (.aload_n 0, 1) := by decide +kernel
theorem dX6_isStatementRead_172 : decode cX6_isStatementRead 172 = .ok (.dup, 1) := by decide +kernel
theorem dX6_isStatementRead_173 : decode cX6_isStatementRead 173 = .ok (.getfield 32, 3) := by decide +kernel
theorem dX6_isStatementRead_176 : decode cX6_isStatementRead 176 = .ok (.iconst 1, 1) := by decide +kernel
theorem dX6_isStatementRead_177 : decode cX6_isStatementRead 177 = .ok (.iadd, 1) := by decide +kernel
theorem dX6_isStatementRead_178 : decode cX6_isStatementRead 178 = .ok (.putfield 32, 3) := by decide +kernel
theorem dX6_isStatementRead_181 : decode cX6_isStatementRead 181 = .ok (.iconst 1, 1) := by decide +kernel
theorem dX6_isStatementRead_182 : decode cX6_isStatementRead 182 = .ok (.ireturn, 1) := by decide +kernel
/-! X6_isTooMany -/
theorem dX6_isTooMany_0 : decode cX6_isTooMany 0 = .ok (.aload_n 0, 1) := by decide +kernel
theorem dX6_isTooMany_1 : decode cX6_isTooMany 1 = .ok (.getfield 22, 3) := by decide +kernel
theorem dX6_isTooMany_4 : decode cX6_isTooMany 4 = .ok (.ifCond .eq 18, 3) := by decide +kernel
theorem dX6_isTooMany_7 : decode cX6_isTooMany 7 = .ok (.aload_n 0, 1) := by decide +kernel
theorem dX6_isTooMany_8 : decode cX6_isTooMany 8 = .ok (.getfield 32, 3) := by decide +kernel
theorem dX6_isTooMany_11 : decode cX6_isTooMany 11 = .ok (.bipush 30, 2) := by decide +kernel
theorem dX6_isTooMany_13 : decode cX6_isTooMany 13 = .ok (.if_icmp .lt 7, 3) := by decide +kernel
theorem dX6_isTooMany_16 : decode cX6_isTooMany 16 = .ok (.iconst 1, 1) := by decide +kernel
theorem dX6_isTooMany_17 : decode cX6_isTooMany 17 = .ok (.goto 4, 3) := by decide +kernel
theorem dX6_isTooMany_20 : decode cX6_isTooMany 20 = .ok (.iconst 0, 1) := by decide +kernel
theorem dX6_isTooMany_21 : decode cX6_isTooMany 21 = .ok (.ireturn, 1) := by decide +kernel
theorem dX6_isTooMany_22 : decode cX6_isTooMany 22 = .ok (.iload_n 1, 1) := by decide +kernel
theorem dX6_isTooMany_23 : decode cX6_isTooMany 23 = .ok (.ifCond .ne 16, 3) := by decide +kernel
theorem dX6_isTooMany_26 : decode cX6_isTooMany 26 = .ok (.aload_n 0, 1) := by decide +kernel
theorem dX6_isTooMany_27 : decode cX6_isTooMany 27 = .ok (.getfield 46, 3) := by decide +kernel
theorem dX6_isTooMany_30 : decode cX6_isTooMany 30 = .ok (.iconst 0, 1) := by decide +kernel
theorem dX6_isTooMany_31 : decode cX6_isTooMany 31 = .ok (.invokestatic 49, 3) := by decide +kernel
theorem dX6_isTooMany_34 : decode cX6_isTooMany 34 = .ok (.bipush 6, 2) := by decide +kernel
theorem dX6_isTooMany_36 : decode cX6_isTooMany 36 = .ok (.if_icmp .ge 21, 3) := by decide +kernel
theorem dX6_isTooMany_39 : decode cX6_isTooMany 39 = .ok (.iload_n 1, 1) := by decide +kernel
theorem dX6_isTooMany_40 : decode cX6_isTooMany 40 = .ok (.iconst 3, 1) := by decide +kernel
theorem dX6_isTooMany_41 : decode cX6_isTooMany 41 = .ok (.if_icmp .ne 20, 3) := by decide +kernel
theorem dX6_isTooMany_44 : decode cX6_isTooMany 44 = .ok (.aload_n 0, 1) := by decide +kernel
theorem dX6_isTooMany_45 : decode cX6_isTooMany 45 = .ok (.getfield 46, 3) := by decide +kernel
theorem dX6_isTooMany_48 : decode cX6_isTooMany 48 = .ok (.iconst 3, 1) := by decide +kernel
theorem dX6_isTooMany_49 : decode cX6_isTooMany 49 = .ok (.invokestatic 49, 3) := by decide +kernel
theorem dX6_isTooMany_52 : decode cX6_isTooMany 52 = .ok (.bipush 40, 2) := by decide +kernel
theorem dX6_isTooMany_54 : decode cX6_isTooMany 54 = .ok (.if_icmp .lt 7, 3) := by decide +kernel
theorem dX6_isTooMany_57 : decode cX6_isTooMany 57 = .ok (.iconst 1, 1) := by decide +kernel
theorem dX6_isTooMany_58 : decode cX6_isTooMany 58 = .ok (.goto 4, 3) := by decide +kernel
theorem dX6_isTooMany_61 : decode cX6_isTooMany 61 = .ok (.iconst 0, 1) := by decide +kernel
theorem dX6_isTooMany_62 : decode cX6_isTooMany 62 = .ok (.ireturn, 1) := by decide +kernel
/-! X6_isWellRead -/
theorem dX6_isWellRead_0 : decode cX6_isWellRead 0 = .ok (.aload_n 0, 1) := by decide +kernel
theorem dX6_isWellRead_1 : decode cX6_isWellRead 1 = .ok (.iload_n 1, 1) := by decide +kernel
theorem dX6_isWellRead_2 : decode cX6_isWellRead 2 = .ok (.putfield 22, 3) := by decide +kernel
theorem dX6_isWellRead_5 : decode cX6_isWellRead 5 = .ok (.aload_n 0, 1) := by decide +kernel
theorem dX6_isWellRead_6 : decode cX6_isWellRead 6 = .ok (.iconst 0, 1) := by decide +kernel
theorem dX6_isWellRead_7 : decode cX6_isWellRead 7 = .ok (.putfield 19, 3) := by decide +kernel
theorem dX6_isWellRead_10 : decode cX6_isWellRead 10 = .ok (.aload_n 0, 1) := by decide +kernel
theorem dX6_isWellRead_11 : decode cX6_isWellRead 11 = .ok (.iconst 0, 1) := by decide +kernel
theorem dX6_isWellRead_12 : decode cX6_isWellRead 12 = .ok (.putfield 26, 3) := by decide +kernel
theorem dX6_isWellRead_15 : decode cX6_isWellRead 15 = .ok (.aload_n 0, 1) := by decide +kernel
theorem dX6_isWellRead_16 : decode cX6_isWellRead 16 = .ok (.iconst (-1), 1) := by decide +kernel
theorem dX6_isWellRead_17 : decode cX6_isWellRead 17 = .ok (.putfield 29, 3) := by decide +kernel
theorem dX6_isWellRead_20 : decode cX6_isWellRead 20 = .ok (.aload_n 0, 1) := by decide +kernel
theorem dX6_isWellRead_21 : decode cX6_isWellRead 21 = .ok (.iconst 0, 1) := by decide +kernel
theorem dX6_isWellRead_22 : decode cX6_isWellRead 22 = .ok (.putfield 32, 3) := by decide +kernel
theorem dX6_isWellRead_25 : decode cX6_isWellRead 25 = .ok (.aload_n 0, 1) := by decide +kernel
theorem dX6_isWellRead_26 : decode cX6_isWellRead 26 = .ok (.getfield 46, 3) := by decide +kernel
theorem dX6_isWellRead_29 : decode cX6_isWellRead 29 = .ok (.iconst 0, 1) := by decide +kernel
theorem dX6_isWellRead_30 : decode cX6_isWellRead 30 = .ok (.invokestatic 53, 3) := by decide +kernel
theorem dX6_isWellRead_33 : decode cX6_isWellRead 33 = .ok (.aload_n 0, 1) := by decide +kernel
theorem dX6_isWellRead_34 : decode cX6_isWellRead 34 = .ok (.invokevirtual 59, 3) := by decide +kernel
theorem dX6_isWellRead_37 : decode cX6_isWellRead 37 = .ok (.aload_n 0, 1) := by decide +kernel
theorem dX6_isWellRead_38 : decode cX6_isWellRead 38 = .ok (.getfield 22, 3) := by decide +kernel
theorem dX6_isWellRead_41 : decode cX6_isWellRead 41 = .ok (.ifCond .eq 14, 3) := by decide +kernel
theorem dX6_isWellRead_44 : decode cX6_isWellRead 44 = .ok (.aload_n 0, 1) := by decide +kernel
theorem dX6_isWellRead_45 : decode cX6_isWellRead 45 = .ok (.getfield 19, 3) := by decide +kernel
theorem dX6_isWellRead_48 : decode cX6_isWellRead 48 = .ok (.aload_n 0, 1) := by decide +kernel
theorem dX6_isWellRead_49 : decode cX6_isWellRead 49 = .ok (.getfield 15, 3) := by decide +kernel
theorem dX6_isWellRead_52 : decode cX6_isWellRead 52 = .ok (.if_icmp .ge 7, 3) := by decide +kernel
theorem dX6_isWellRead_55 : decode cX6_isWellRead 55 = .ok (.iconst 1, 1) := by decide +kernel
theorem dX6_isWellRead_56 : decode cX6_isWellRead 56 = .ok (.goto 4, 3) := by decide +kernel
theorem dX6_isWellRead_59 : decode cX6_isWellRead 59 = .ok (.iconst 0, 1) := by decide +kernel
theorem dX6_isWellRead_60 : decode cX6_isWellRead 60 = .ok (.istore_n 2, 1) := by decide +kernel
theorem dX6_isWellRead_61 : decode cX6_isWellRead 61 = .ok (.iconst 0, 1) := by decide +kernel
theorem dX6_isWellRead_62 : decode cX6_isWellRead 62 = .ok (.istore_n 3, 1) := by decide +kernel
theorem dX6_isWellRead_63 : decode cX6_isWellRead 63 = .ok (.iload_n 3, 1) := by decide +kernel
theorem dX6_isWellRead_64 : decode cX6_isWellRead 64 = .ok (.sipush 500, 3) := by decide +kernel
theorem dX6_isWellRead_67 : decode cX6_isWellRead 67 = .ok (.if_icmp .ge 33, 3) := by decide +kernel
theorem dX6_isWellRead_70 : decode cX6_isWellRead 70 = .ok (.iload_n 2, 1) := by decide +kernel
theorem dX6_isWellRead_71 : decode cX6_isWellRead 71 = .ok (.ifCond .eq 29, 3) := by decide +kernel
theorem dX6_isWellRead_74 : decode cX6_isWellRead 74 = .ok (.aload_n 0, 1) := by decide +kernel
theorem dX6_isWellRead_75 : decode cX6_isWellRead 75 = .ok (.invokevirtual 62, 3) := by decide +kernel
theorem dX6_isWellRead_78 : decode cX6_isWellRead 78 = .ok (.ifCond .eq 14, 3) := by decide +kernel
theorem dX6_isWellRead_81 : decode cX6_isWellRead 81 = .ok (.aload_n 0, 1) := by decide +kernel
theorem dX6_isWellRead_82 : decode cX6_isWellRead 82 = .ok (.invokevirtual 66, 3) := by decide +kernel
theorem dX6_isWellRead_85 : decode cX6_isWellRead 85 = .ok (.ifCond .eq 7, 3) := by decide +kernel
theorem dX6_isWellRead_88 : decode cX6_isWellRead 88 = .ok (.iconst 1, 1) := by decide +kernel
theorem dX6_isWellRead_89 : decode cX6_isWellRead 89 = .ok (.goto 4, 3) := by decide +kernel
theorem dX6_isWellRead_92 : decode cX6_isWellRead 92 = .ok (.iconst 0, 1) := by decide +kernel
theorem dX6_isWellRead_93 : decode cX6_isWellRead 93 = .ok (.istore_n 2, 1) := by decide +kernel
theorem dX6_isWellRead_94 : decode cX6_isWellRead 94 = .ok (.iinc 3 1, 3) := by decide +kernel
theorem dX6_isWellRead_97 : decode cX6_isWellRead 97 = .ok (.goto (-34), 3) := by decide +kernel
theorem dX6_isWellRead_100 : decode cX6_isWellRead 100 = .ok (.aload_n 0, 1) := by decide +kernel
theorem dX6_isWellRead_101 : decode cX6_isWellRead 101 = .ok (.iconst 0, 1) := by decide +kernel
theorem dX6_isWellRead_102 : decode cX6_isWellRead 102 = .ok (.putfield 15, 3) := by decide +kernel
theorem dX6_isWellRead_105 : decode cX6_isWellRead 105 = .ok (.aload_n 0, 1) := by decide +kernel
theorem dX6_isWellRead_106 : decode cX6_isWellRead 106 = .ok (.getfield 26, 3) := by decide +kernel
theorem dX6_isWellRead_109 : decode cX6_isWellRead 109 = .ok (.ifCond .ne 7, 3) := by decide +kernel
theorem dX6_isWellRead_112 : decode cX6_isWellRead 112 = .ok (.iconst 1, 1) := by decide +kernel
theorem dX6_isWellRead_113 : decode cX6_isWellRead 113 = .ok (.goto 4, 3) := by decide +kernel
theorem dX6_isWellRead_116 : decode cX6_isWellRead 116 = .ok (.iconst 0, 1) := by decide +kernel
theorem dX6_isWellRead_117 : decode cX6_isWellRead 117 = .ok (.ireturn, 1) := by decide +kernel
/-! X6_isWord -/
theorem dX6_isWord_0 : decode cX6_isWord 0 = .ok (.aload_n 0, 1) := by decide +kernel
theorem dX6_isWord_1 : decode cX6_isWord 1 = .ok (.getfield 19, 3) := by decide +kernel
theorem dX6_isWord_4 : decode cX6_isWord 4 = .ok (.iload_n 1, 1) := by decide +kernel
theorem dX6_isWord_5 : decode cX6_isWord 5 = .ok (.isub, 1) := by decide +kernel
theorem dX6_isWord_6 : decode cX6_isWord 6 = .ok (.aload_n 2, 1) := by decide +kernel
theorem dX6_isWord_7 : decode cX6_isWord 7 = .ok (.invokevirtual 111, 3) := by decide +kernel
theorem dX6_isWord_10 : decode cX6_isWord 10 = .ok (.if_icmp .eq 5, 3) := by decide +kernel
theorem dX6_isWord_13 : decode cX6_isWord 13 = .ok (.iconst 0, 1) := by decide +kernel
theorem dX6_isWord_14 : decode cX6_isWord 14 = .ok (.ireturn, 1) := by decide +kernel
theorem dX6_isWord_15 : decode cX6_isWord 15 = .ok (.iconst 0, 1) := by decide +kernel
theorem dX6_isWord_16 : decode cX6_isWord 16 = .ok (.istore_n 3, 1) := by decide +kernel
theorem dX6_isWord_17 : decode cX6_isWord 17 = .ok (.iload_n 3, 1) := by decide +kernel
theorem dX6_isWord_18 : decode cX6_isWord 18 = .ok (.aload_n 2, 1) := by decide +kernel
theorem dX6_isWord_19 : decode cX6_isWord 19 = .ok (.invokevirtual 111, 3) := by decide +kernel
theorem dX6_isWord_22 : decode cX6_isWord 22 = .ok (.if_icmp .ge 44, 3) := by decide +kernel
theorem dX6_isWord_25 : decode cX6_isWord 25 = .ok (.iload_n 1, 1) := by decide +kernel
theorem dX6_isWord_26 : decode cX6_isWord 26 = .ok (.iload_n 3, 1) := by decide +kernel
theorem dX6_isWord_27 : decode cX6_isWord 27 = .ok (.iadd, 1) := by decide +kernel
theorem dX6_isWord_28 : decode cX6_isWord 28 = .ok (.istore 4, 2) := by decide +kernel
theorem dX6_isWord_30 : decode cX6_isWord 30 = .ok (.iload 4, 2) := by decide +kernel
theorem dX6_isWord_32 : decode cX6_isWord 32 = .ok (.ifCond .lt 26, 3) := by decide +kernel
theorem dX6_isWord_35 : decode cX6_isWord 35 = .ok (.iload 4, 2) := by decide +kernel
theorem dX6_isWord_37 : decode cX6_isWord 37 = .ok (.sipush 500, 3) := by decide +kernel
theorem dX6_isWord_40 : decode cX6_isWord 40 = .ok (.if_icmp .ge 18, 3) := by decide +kernel
theorem dX6_isWord_43 : decode cX6_isWord 43 = .ok (.aload_n 0, 1) := by decide +kernel
theorem dX6_isWord_44 : decode cX6_isWord 44 = .ok (.getfield 11, 3) := by decide +kernel
theorem dX6_isWord_47 : decode cX6_isWord 47 = .ok (.iload 4, 2) := by decide +kernel
theorem dX6_isWord_49 : decode cX6_isWord 49 = .ok (.baload, 1) := by decide +kernel
theorem dX6_isWord_50 : decode cX6_isWord 50 = .ok (.aload_n 2, 1) := by decide +kernel
theorem dX6_isWord_51 : decode cX6_isWord 51 = .ok (.iload_n 3, 1) := by decide +kernel
theorem dX6_isWord_52 : decode cX6_isWord 52 = .ok (.invokevirtual 115, 3) := by decide +kernel
theorem dX6_isWord_55 : decode cX6_isWord 55 = .ok (.if_icmp .eq 5, 3) := by decide +kernel
theorem dX6_isWord_58 : decode cX6_isWord 58 = .ok (.iconst 0, 1) := by decide +kernel
theorem dX6_isWord_59 : decode cX6_isWord 59 = .ok (.ireturn, 1) := by decide +kernel
theorem dX6_isWord_60 : decode cX6_isWord 60 = .ok (.iinc 3 1, 3) := by decide +kernel
theorem dX6_isWord_63 : decode cX6_isWord 63 = .ok (.goto (-46), 3) := by decide +kernel
theorem dX6_isWord_66 : decode cX6_isWord 66 = .ok (.iconst 1, 1) := by decide +kernel
theorem dX6_isWord_67 : decode cX6_isWord 67 = .ok (.ireturn, 1) := by decide +kernel
/-! X6_kindOf -/
theorem dX6_kindOf_0 : decode cX6_kindOf 0 = .ok (.iload_n 1, 1) := by decide +kernel
theorem dX6_kindOf_1 : decode cX6_kindOf 1 = .ok (.aload_n 0, 1) := by decide +kernel
theorem dX6_kindOf_2 : decode cX6_kindOf 2 = .ok (.getfield 32, 3) := by decide +kernel
theorem dX6_kindOf_5 : decode cX6_kindOf 5 = .ok (.if_icmp .ge 14, 3) := by decide +kernel
theorem dX6_kindOf_8 : decode cX6_kindOf 8 = .ok (.aload_n 0, 1) := by decide +kernel
theorem dX6_kindOf_9 : decode cX6_kindOf 9 = .ok (.getfield 35, 3) := by decide +kernel
theorem dX6_kindOf_12 : decode cX6_kindOf 12 = .ok (.iload_n 1, 1) := by decide +kernel
theorem dX6_kindOf_13 : decode cX6_kindOf 13 = .ok (.invokestatic 49, 3) := by decide +kernel
theorem dX6_kindOf_16 : decode cX6_kindOf 16 = .ok (.goto 4, 3) := by decide +kernel
theorem dX6_kindOf_19 : decode cX6_kindOf 19 = .ok (.iconst (-1), 1) := by decide +kernel
theorem dX6_kindOf_20 : decode cX6_kindOf 20 = .ok (.ireturn, 1) := by decide +kernel
/-! X6_numberOf -/
theorem dX6_numberOf_0 : decode cX6_numberOf 0 = .ok (.aload_n 0, 1) := by decide +kernel
theorem dX6_numberOf_1 : decode cX6_numberOf 1 = .ok (.getfield 39, 3) := by decide +kernel
theorem dX6_numberOf_4 : decode cX6_numberOf 4 = .ok (.iload_n 1, 1) := by decide +kernel
theorem dX6_numberOf_5 : decode cX6_numberOf 5 = .ok (.iconst 4, 1) := by decide +kernel
theorem dX6_numberOf_6 : decode cX6_numberOf 6 = .ok (.imul, 1) := by decide +kernel
theorem dX6_numberOf_7 : decode cX6_numberOf 7 = .ok (.iload_n 2, 1) := by decide +kernel
theorem dX6_numberOf_8 : decode cX6_numberOf 8 = .ok (.iadd, 1) := by decide +kernel
theorem dX6_numberOf_9 : decode cX6_numberOf 9 = .ok (.invokestatic 49, 3) := by decide +kernel
theorem dX6_numberOf_12 : decode cX6_numberOf 12 = .ok (.ireturn, 1) := by decide +kernel
/-! X6_readKind -/
theorem dX6_readKind_0 : decode cX6_readKind 0 = .ok (.aload_n 0, 1) := by decide +kernel
theorem dX6_readKind_1 : decode cX6_readKind 1 = .ok (.getfield 19, 3) := by decide +kernel
theorem dX6_readKind_4 : decode cX6_readKind 4 = .ok (.istore_n 1, 1) := by decide +kernel
theorem dX6_readKind_5 : decode cX6_readKind 5 = .ok (.aload_n 0, 1) := by decide +kernel
theorem dX6_readKind_6 : decode cX6_readKind 6 = .ok (.invokevirtual 97, 3) := by decide +kernel
theorem dX6_readKind_9 : decode cX6_readKind 9 = .ok (.iconst 0, 1) := by decide +kernel
theorem dX6_readKind_10 : decode cX6_readKind 10 = .ok (.istore_n 2, 1) := by decide +kernel
theorem dX6_readKind_11 : decode cX6_readKind 11 = .ok (.iload_n 2, 1) := by decide +kernel
theorem dX6_readKind_12 : decode cX6_readKind 12 = .ok (.bipush 10, 2) := by decide +kernel
theorem dX6_readKind_14 : decode cX6_readKind 14 = .ok (.if_icmp .ge 62, 3) := by decide +kernel
theorem dX6_readKind_17 : decode cX6_readKind 17 = .ok (.aload_n 0, 1) := by decide +kernel
theorem dX6_readKind_18 : decode cX6_readKind 18 = .ok (.getfield 22, 3) := by decide +kernel
theorem dX6_readKind_21 : decode cX6_readKind 21 = .ok (.ifCond .eq 16, 3) := by decide +kernel
theorem dX6_readKind_24 : decode cX6_readKind 24 = .ok (.iload_n 2, 1) := by decide +kernel
theorem dX6_readKind_25 : decode cX6_readKind 25 = .ok (.iconst 3, 1) := by decide +kernel
theorem dX6_readKind_26 : decode cX6_readKind 26 = .ok (.if_icmp .lt 7, 3) := by decide +kernel
theorem dX6_readKind_29 : decode cX6_readKind 29 = .ok (.iconst 1, 1) := by decide +kernel
theorem dX6_readKind_30 : decode cX6_readKind 30 = .ok (.goto 17, 3) := by decide +kernel
theorem dX6_readKind_33 : decode cX6_readKind 33 = .ok (.iconst 0, 1) := by decide +kernel
theorem dX6_readKind_34 : decode cX6_readKind 34 = .ok (.goto 13, 3) := by decide +kernel
theorem dX6_readKind_37 : decode cX6_readKind 37 = .ok (.iload_n 2, 1) := by decide +kernel
theorem dX6_readKind_38 : decode cX6_readKind 38 = .ok (.iconst 3, 1) := by decide +kernel
theorem dX6_readKind_39 : decode cX6_readKind 39 = .ok (.if_icmp .gt 7, 3) := by decide +kernel
theorem dX6_readKind_42 : decode cX6_readKind 42 = .ok (.iconst 1, 1) := by decide +kernel
theorem dX6_readKind_43 : decode cX6_readKind 43 = .ok (.goto 4, 3) := by decide +kernel
theorem dX6_readKind_46 : decode cX6_readKind 46 = .ok (.iconst 0, 1) := by decide +kernel
theorem dX6_readKind_47 : decode cX6_readKind 47 = .ok (.istore_n 3, 1) := by decide +kernel
theorem dX6_readKind_48 : decode cX6_readKind 48 = .ok (.iload_n 3, 1) := by decide +kernel
theorem dX6_readKind_49 : decode cX6_readKind 49 = .ok (.ifCond .eq 21, 3) := by decide +kernel
theorem dX6_readKind_52 : decode cX6_readKind 52 = .ok (.aload_n 0, 1) := by decide +kernel
theorem dX6_readKind_53 : decode cX6_readKind 53 = .ok (.iload_n 1, 1) := by decide +kernel
theorem dX6_readKind_54 : decode cX6_readKind 54 = .ok (.iload_n 2, 1) := by decide +kernel
theorem dX6_readKind_55 : decode cX6_readKind 55 = .ok (.invokestatic 100, 3) := by decide +kernel
theorem dX6_readKind_58 : decode cX6_readKind 58 = .ok (.invokevirtual 104, 3) := by decide +kernel
theorem dX6_readKind_61 : decode cX6_readKind 61 = .ok (.ifCond .eq 9, 3) := by decide +kernel
theorem dX6_readKind_64 : decode cX6_readKind 64 = .ok (.aload_n 0, 1) := by decide +kernel
theorem dX6_readKind_65 : decode cX6_readKind 65 = .ok (.invokevirtual 59, 3) := by decide +kernel
theorem dX6_readKind_68 : decode cX6_readKind 68 = .ok (.iload_n 2, 1) := by decide +kernel
theorem dX6_readKind_69 : decode cX6_readKind 69 = .ok (.ireturn, 1) := by decide +kernel
theorem dX6_readKind_70 : decode cX6_readKind 70 = .ok (.iinc 2 1, 3) := by decide +kernel
theorem dX6_readKind_73 : decode cX6_readKind 73 = .ok (.goto (-62), 3) := by decide +kernel
theorem dX6_readKind_76 : decode cX6_readKind 76 = .ok (.iconst (-1), 1) := by decide +kernel
theorem dX6_readKind_77 : decode cX6_readKind 77 = .ok (.ireturn, 1) := by decide +kernel
/-! X6_sign -/
theorem dX6_sign_0 : decode cX6_sign 0 = .ok (.aload_n 0, 1) := by decide +kernel
theorem dX6_sign_1 : decode cX6_sign 1 = .ok (.getfield 19, 3) := by decide +kernel
theorem dX6_sign_4 : decode cX6_sign 4 = .ok (.ifCond .lt 40, 3) := by decide +kernel
theorem dX6_sign_7 : decode cX6_sign 7 = .ok (.aload_n 0, 1) := by decide +kernel
theorem dX6_sign_8 : decode cX6_sign 8 = .ok (.getfield 19, 3) := by decide +kernel
theorem dX6_sign_11 : decode cX6_sign 11 = .ok (.aload_n 0, 1) := by decide +kernel
theorem dX6_sign_12 : decode cX6_sign 12 = .ok (.getfield 15, 3) := by decide +kernel
theorem dX6_sign_15 : decode cX6_sign 15 = .ok (.if_icmp .ge 29, 3) := by decide +kernel
theorem dX6_sign_18 : decode cX6_sign 18 = .ok (.aload_n 0, 1) := by decide +kernel
theorem dX6_sign_19 : decode cX6_sign 19 = .ok (.getfield 19, 3) := by decide +kernel
theorem dX6_sign_22 : decode cX6_sign 22 = .ok (.sipush 500, 3) := by decide +kernel
theorem dX6_sign_25 : decode cX6_sign 25 = .ok (.if_icmp .ge 19, 3) := by decide +kernel
theorem dX6_sign_28 : decode cX6_sign 28 = .ok (.aload_n 0, 1) := by decide +kernel
theorem dX6_sign_29 : decode cX6_sign 29 = .ok (.getfield 11, 3) := by decide +kernel
theorem dX6_sign_32 : decode cX6_sign 32 = .ok (.aload_n 0, 1) := by decide +kernel
theorem dX6_sign_33 : decode cX6_sign 33 = .ok (.getfield 19, 3) := by decide +kernel
theorem dX6_sign_36 : decode cX6_sign 36 = .ok (.baload, 1) := by decide +kernel
theorem dX6_sign_37 : decode cX6_sign 37 = .ok (.sipush 255, 3) := by decide +kernel
theorem dX6_sign_40 : decode cX6_sign 40 = .ok (.iand, 1) := by decide +kernel
theorem dX6_sign_41 : decode cX6_sign 41 = .ok (.goto 4, 3) := by decide +kernel
theorem dX6_sign_44 : decode cX6_sign 44 = .ok (.iconst 0, 1) := by decide +kernel
theorem dX6_sign_45 : decode cX6_sign 45 = .ok (.ireturn, 1) := by decide +kernel
/-! X6_skipSpaces -/
theorem dX6_skipSpaces_0 : decode cX6_skipSpaces 0 = .ok (.aload_n 0, 1) := by decide +kernel
theorem dX6_skipSpaces_1 : decode cX6_skipSpaces 1 = .ok (.getfield 19, 3) := by decide +kernel
theorem dX6_skipSpaces_4 : decode cX6_skipSpaces 4 = .ok (.aload_n 0, 1) := by decide +kernel
theorem dX6_skipSpaces_5 : decode cX6_skipSpaces 5 = .ok (.getfield 15, 3) := by decide +kernel
theorem dX6_skipSpaces_8 : decode cX6_skipSpaces 8 = .ok (.if_icmp .ge 25, 3) := by decide +kernel
theorem dX6_skipSpaces_11 : decode cX6_skipSpaces 11 = .ok (.aload_n 0, 1) := by decide +kernel
theorem dX6_skipSpaces_12 : decode cX6_skipSpaces 12 = .ok (.invokevirtual 69, 3) := by decide +kernel
theorem dX6_skipSpaces_15 : decode cX6_skipSpaces 15 = .ok (.bipush 32, 2) := by decide +kernel
theorem dX6_skipSpaces_17 : decode cX6_skipSpaces 17 = .ok (.if_icmp .ne 16, 3) := by decide +kernel
theorem dX6_skipSpaces_20 : decode cX6_skipSpaces 20 = .ok (.aload_n 0, 1) := by decide +kernel
theorem dX6_skipSpaces_21 : decode cX6_skipSpaces 21 = .ok (.dup, 1) := by decide +kernel
theorem dX6_skipSpaces_22 : decode cX6_skipSpaces 22 = .ok (.getfield 19, 3) := by decide +kernel
theorem dX6_skipSpaces_25 : decode cX6_skipSpaces 25 = .ok (.iconst 1, 1) := by decide +kernel
theorem dX6_skipSpaces_26 : decode cX6_skipSpaces 26 = .ok (.iadd, 1) := by decide +kernel
theorem dX6_skipSpaces_27 : decode cX6_skipSpaces 27 = .ok (.putfield 19, 3) := by decide +kernel
theorem dX6_skipSpaces_30 : decode cX6_skipSpaces 30 = .ok (.goto (-30), 3) := by decide +kernel
theorem dX6_skipSpaces_33 : decode cX6_skipSpaces 33 = .ok (.return_, 1) := by decide +kernel
/-! X6_skipWord -/
theorem dX6_skipWord_0 : decode cX6_skipWord 0 = .ok (.aload_n 0, 1) := by decide +kernel
theorem dX6_skipWord_1 : decode cX6_skipWord 1 = .ok (.getfield 19, 3) := by decide +kernel
theorem dX6_skipWord_4 : decode cX6_skipWord 4 = .ok (.aload_n 0, 1) := by decide +kernel
theorem dX6_skipWord_5 : decode cX6_skipWord 5 = .ok (.getfield 15, 3) := by decide +kernel
theorem dX6_skipWord_8 : decode cX6_skipWord 8 = .ok (.if_icmp .ge 23, 3) := by decide +kernel
theorem dX6_skipWord_11 : decode cX6_skipWord 11 = .ok (.aload_n 0, 1) := by decide +kernel
theorem dX6_skipWord_12 : decode cX6_skipWord 12 = .ok (.invokevirtual 108, 3) := by decide +kernel
theorem dX6_skipWord_15 : decode cX6_skipWord 15 = .ok (.ifCond .eq 16, 3) := by decide +kernel
theorem dX6_skipWord_18 : decode cX6_skipWord 18 = .ok (.aload_n 0, 1) := by decide +kernel
theorem dX6_skipWord_19 : decode cX6_skipWord 19 = .ok (.dup, 1) := by decide +kernel
theorem dX6_skipWord_20 : decode cX6_skipWord 20 = .ok (.getfield 19, 3) := by decide +kernel
theorem dX6_skipWord_23 : decode cX6_skipWord 23 = .ok (.iconst 1, 1) := by decide +kernel
theorem dX6_skipWord_24 : decode cX6_skipWord 24 = .ok (.iadd, 1) := by decide +kernel
theorem dX6_skipWord_25 : decode cX6_skipWord 25 = .ok (.putfield 19, 3) := by decide +kernel
theorem dX6_skipWord_28 : decode cX6_skipWord 28 = .ok (.goto (-28), 3) := by decide +kernel
theorem dX6_skipWord_31 : decode cX6_skipWord 31 = .ok (.return_, 1) := by decide +kernel
/-! X6_takeNumber -/
theorem dX6_takeNumber_0 : decode cX6_takeNumber 0 = .ok (.bipush 24, 2) := by decide +kernel
theorem dX6_takeNumber_2 : decode cX6_takeNumber 2 = .ok (.istore_n 2, 1) := by decide +kernel
theorem dX6_takeNumber_3 : decode cX6_takeNumber 3 = .ok (.iload_n 2, 1) := by decide +kernel
theorem dX6_takeNumber_4 : decode cX6_takeNumber 4 = .ok (.ifCond .lt 49, 3) := by decide +kernel
theorem dX6_takeNumber_7 : decode cX6_takeNumber 7 = .ok (.aload_n 0, 1) := by decide +kernel
theorem dX6_takeNumber_8 : decode cX6_takeNumber 8 = .ok (.getfield 15, 3) := by decide +kernel
theorem dX6_takeNumber_11 : decode cX6_takeNumber 11 = .ok (.ifCond .lt 36, 3) := by decide +kernel
theorem dX6_takeNumber_14 : decode cX6_takeNumber 14 = .ok (.aload_n 0, 1) := by decide +kernel
theorem dX6_takeNumber_15 : decode cX6_takeNumber 15 = .ok (.getfield 15, 3) := by decide +kernel
theorem dX6_takeNumber_18 : decode cX6_takeNumber 18 = .ok (.sipush 500, 3) := by decide +kernel
theorem dX6_takeNumber_21 : decode cX6_takeNumber 21 = .ok (.if_icmp .ge 26, 3) := by decide +kernel
theorem dX6_takeNumber_24 : decode cX6_takeNumber 24 = .ok (.aload_n 0, 1) := by decide +kernel
theorem dX6_takeNumber_25 : decode cX6_takeNumber 25 = .ok (.getfield 11, 3) := by decide +kernel
theorem dX6_takeNumber_28 : decode cX6_takeNumber 28 = .ok (.aload_n 0, 1) := by decide +kernel
theorem dX6_takeNumber_29 : decode cX6_takeNumber 29 = .ok (.getfield 15, 3) := by decide +kernel
theorem dX6_takeNumber_32 : decode cX6_takeNumber 32 = .ok (.iload_n 1, 1) := by decide +kernel
theorem dX6_takeNumber_33 : decode cX6_takeNumber 33 = .ok (.iload_n 2, 1) := by decide +kernel
theorem dX6_takeNumber_34 : decode cX6_takeNumber 34 = .ok (.ishr, 1) := by decide +kernel
theorem dX6_takeNumber_35 : decode cX6_takeNumber 35 = .ok (.i2b, 1) := by decide +kernel
theorem dX6_takeNumber_36 : decode cX6_takeNumber 36 = .ok (.bastore, 1) := by decide +kernel
theorem dX6_takeNumber_37 : decode cX6_takeNumber 37 = .ok (.aload_n 0, 1) := by decide +kernel
theorem dX6_takeNumber_38 : decode cX6_takeNumber 38 = .ok (.dup, 1) := by decide +kernel
theorem dX6_takeNumber_39 : decode cX6_takeNumber 39 = .ok (.getfield 15, 3) := by decide +kernel
theorem dX6_takeNumber_42 : decode cX6_takeNumber 42 = .ok (.iconst 1, 1) := by decide +kernel
theorem dX6_takeNumber_43 : decode cX6_takeNumber 43 = .ok (.iadd, 1) := by decide +kernel
theorem dX6_takeNumber_44 : decode cX6_takeNumber 44 = .ok (.putfield 15, 3) := by decide +kernel
theorem dX6_takeNumber_47 : decode cX6_takeNumber 47 = .ok (.iinc 2 (-8), 3) := by decide +kernel
theorem dX6_takeNumber_50 : decode cX6_takeNumber 50 = .ok (.goto (-47), 3) := by decide +kernel
theorem dX6_takeNumber_53 : decode cX6_takeNumber 53 = .ok (.return_, 1) := by decide +kernel
/-! X6_wordOf -/
theorem dX6_wordOf_0 : decode cX6_wordOf 0 = .ok (.iload_n 0, 1) := by decide +kernel
theorem dX6_wordOf_1 : decode cX6_wordOf 1 = .ok (.tableswitch 78 0 8 #[51, 54, 57, 60, 63, 66, 69, 72, 75], 51) := by decide +kernel
theorem dX6_wordOf_52 : decode cX6_wordOf 52 = .ok (.ldc 119, 2) := by decide +kernel
theorem dX6_wordOf_54 : decode cX6_wordOf 54 = .ok (.areturn, 1) := by decide +kernel
theorem dX6_wordOf_55 : decode cX6_wordOf 55 = .ok (.ldc 121, 2) := by decide +kernel
theorem dX6_wordOf_57 : decode cX6_wordOf 57 = .ok (.areturn, 1) := by decide +kernel
theorem dX6_wordOf_58 : decode cX6_wordOf 58 = .ok (.ldc 123, 2) := by decide +kernel
theorem dX6_wordOf_60 : decode cX6_wordOf 60 = .ok (.areturn, 1) := by decide +kernel
theorem dX6_wordOf_61 : decode cX6_wordOf 61 = .ok (.ldc 125, 2) := by decide +kernel
theorem dX6_wordOf_63 : decode cX6_wordOf 63 = .ok (.areturn, 1) := by decide +kernel
theorem dX6_wordOf_64 : decode cX6_wordOf 64 = .ok (.ldc 127, 2) := by decide +kernel
theorem dX6_wordOf_66 : decode cX6_wordOf 66 = .ok (.areturn, 1) := by decide +kernel
theorem dX6_wordOf_67 : decode cX6_wordOf 67 = .ok (.ldc 129, 2) := by decide +kernel
theorem dX6_wordOf_69 : decode cX6_wordOf 69 = .ok (.areturn, 1) := by decide +kernel
theorem dX6_wordOf_70 : decode cX6_wordOf 70 = .ok (.ldc 131, 2) := by decide +kernel
theorem dX6_wordOf_72 : decode cX6_wordOf 72 = .ok (.areturn, 1) := by decide +kernel
theorem dX6_wordOf_73 : decode cX6_wordOf 73 = .ok (.ldc 133, 2) := by decide +kernel
theorem dX6_wordOf_75 : decode cX6_wordOf 75 = .ok (.areturn, 1) := by decide +kernel
theorem dX6_wordOf_76 : decode cX6_wordOf 76 = .ok (.ldc 135, 2) := by decide +kernel
theorem dX6_wordOf_78 : decode cX6_wordOf 78 = .ok (.areturn, 1) := by decide +kernel
theorem dX6_wordOf_79 : decode cX6_wordOf 79 = .ok (.ldc 137, 2) := by decide +kernel
theorem dX6_wordOf_81 : decode cX6_wordOf 81 = .ok (.areturn, 1) := by decide +kernel
/-! X7_addLink -/
theorem dX7_addLink_0 : decode cX7_addLink 0 = .ok (.aload_n 0, 1) := by decide +kernel
theorem dX7_addLink_1 : decode cX7_addLink 1 = .ok (.getfield 30, 3) := by decide +kernel
theorem dX7_addLink_4 : decode cX7_addLink 4 = .ok (.ifCond .lt 37, 3) := by decide +kernel
theorem dX7_addLink_7 : decode cX7_addLink 7 = .ok (.aload_n 0, 1) := by decide +kernel
theorem dX7_addLink_8 : decode cX7_addLink 8 = .ok (.getfield 30, 3) := by decide +kernel
theorem dX7_addLink_11 : decode cX7_addLink 11 = .ok (.bipush 6, 2) := by decide +kernel
theorem dX7_addLink_13 : decode cX7_addLink 13 = .ok (.if_icmp .ge 28, 3) := by decide +kernel
theorem dX7_addLink_16 : decode cX7_addLink 16 = .ok (.aload_n 0, 1) := by decide +kernel
theorem dX7_addLink_17 : decode cX7_addLink 17 = .ok (.getfield 38, 3) := by decide +kernel
theorem dX7_addLink_20 : decode cX7_addLink 20 = .ok (.aload_n 0, 1) := by decide +kernel
theorem dX7_addLink_21 : decode cX7_addLink 21 = .ok (.getfield 30, 3) := by decide +kernel
theorem dX7_addLink_24 : decode cX7_addLink 24 = .ok (.aaload, 1) := by decide +kernel
theorem dX7_addLink_25 : decode cX7_addLink 25 = .ok (.iload_n 1, 1) := by decide +kernel
theorem dX7_addLink_26 : decode cX7_addLink 26 = .ok (.iload_n 2, 1) := by decide +kernel
theorem dX7_addLink_27 : decode cX7_addLink 27 = .ok (.iload_n 3, 1) := by decide +kernel
theorem dX7_addLink_28 : decode cX7_addLink 28 = .ok (.invokevirtual 105, 3) := by decide +kernel
theorem dX7_addLink_31 : decode cX7_addLink 31 = .ok (.aload_n 0, 1) := by decide +kernel
theorem dX7_addLink_32 : decode cX7_addLink 32 = .ok (.dup, 1) := by decide +kernel
theorem dX7_addLink_33 : decode cX7_addLink 33 = .ok (.getfield 30, 3) := by decide +kernel
theorem dX7_addLink_36 : decode cX7_addLink 36 = .ok (.iconst 1, 1) := by decide +kernel
theorem dX7_addLink_37 : decode cX7_addLink 37 = .ok (.iadd, 1) := by decide +kernel
theorem dX7_addLink_38 : decode cX7_addLink 38 = .ok (.putfield 30, 3) := by decide +kernel
theorem dX7_addLink_41 : decode cX7_addLink 41 = .ok (.return_, 1) := by decide +kernel
/-! X7_answerComes -/
theorem dX7_answerComes_0 : decode cX7_answerComes 0 = .ok (.aload_n 0, 1) := by decide +kernel
theorem dX7_answerComes_1 : decode cX7_answerComes 1 = .ok (.getfield 71, 3) := by decide +kernel
theorem dX7_answerComes_4 : decode cX7_answerComes 4 = .ok (.dup, 1) := by decide +kernel
theorem dX7_answerComes_5 : decode cX7_answerComes 5 = .ok (.getfield 219, 3) := by decide +kernel
theorem dX7_answerComes_8 : decode cX7_answerComes 8 = .ok (.iconst 1, 1) := by decide +kernel
theorem dX7_answerComes_9 : decode cX7_answerComes 9 = .ok (.iadd, 1) := by decide +kernel
theorem dX7_answerComes_10 : decode cX7_answerComes 10 = .ok (.putfield 219, 3) := by decide +kernel
theorem dX7_answerComes_13 : decode cX7_answerComes 13 = .ok (.aload_n 0, 1) := by decide +kernel
theorem dX7_answerComes_14 : decode cX7_answerComes 14 = .ok (.aload_n 0, 1) := by decide +kernel
theorem dX7_answerComes_15 : decode cX7_answerComes 15 = .ok (.getfield 24, 3) := by decide +kernel
theorem dX7_answerComes_18 : decode cX7_answerComes 18 = .ok (.iload_n 1, 1) := by decide +kernel
theorem dX7_answerComes_19 : decode cX7_answerComes 19 = .ok (.invokestatic 222, 3) := by decide +kernel
theorem dX7_answerComes_22 : decode cX7_answerComes 22 = .ok (.putfield 24, 3) := by decide +kernel
theorem dX7_answerComes_25 : decode cX7_answerComes 25 = .ok (.return_, 1) := by decide +kernel
/-! X7_carry -/
theorem dX7_carry_0 : decode cX7_carry 0 = .ok (.aload_n 0, 1) := by decide +kernel
theorem dX7_carry_1 : decode cX7_carry 1 = .ok (.iload_n 1, 1) := by decide +kernel
theorem dX7_carry_2 : decode cX7_carry 2 = .ok (.invokevirtual 112, 3) := by decide +kernel
theorem dX7_carry_5 : decode cX7_carry 5 = .ok (.astore 5, 2) := by decide +kernel
theorem dX7_carry_7 : decode cX7_carry 7 = .ok (.aload 5, 2) := by decide +kernel
theorem dX7_carry_9 : decode cX7_carry 9 = .ok (.ifnonnull 4, 3) := by decide +kernel
theorem dX7_carry_12 : decode cX7_carry 12 = .ok (.return_, 1) := by decide +kernel
theorem dX7_carry_13 : decode cX7_carry 13 = .ok (.aload 5, 2) := by decide +kernel
theorem dX7_carry_15 : decode cX7_carry 15 = .ok (.dup, 1) := by decide +kernel
theorem dX7_carry_16 : decode cX7_carry 16 = .ok (.getfield 153, 3) := by decide +kernel
theorem dX7_carry_19 : decode cX7_carry 19 = .ok (.iconst 1, 1) := by decide +kernel
theorem dX7_carry_20 : decode cX7_carry 20 = .ok (.iadd, 1) := by decide +kernel
theorem dX7_carry_21 : decode cX7_carry 21 = .ok (.putfield 153, 3) := by decide +kernel
theorem dX7_carry_24 : decode cX7_carry 24 = .ok (.aload 5, 2) := by decide +kernel
theorem dX7_carry_26 : decode cX7_carry 26 = .ok (.dup, 1) := by decide +kernel
theorem dX7_carry_27 : decode cX7_carry 27 = .ok (.getfield 156, 3) := by decide +kernel
theorem dX7_carry_30 : decode cX7_carry 30 = .ok (.iload 4, 2) := by decide +kernel
theorem dX7_carry_32 : decode cX7_carry 32 = .ok (.iadd, 1) := by decide +kernel
theorem dX7_carry_33 : decode cX7_carry 33 = .ok (.putfield 156, 3) := by decide +kernel
theorem dX7_carry_36 : decode cX7_carry 36 = .ok (.aload_n 0, 1) := by decide +kernel
theorem dX7_carry_37 : decode cX7_carry 37 = .ok (.getfield 71, 3) := by decide +kernel
theorem dX7_carry_40 : decode cX7_carry 40 = .ok (.dup, 1) := by decide +kernel
theorem dX7_carry_41 : decode cX7_carry 41 = .ok (.getfield 159, 3) := by decide +kernel
theorem dX7_carry_44 : decode cX7_carry 44 = .ok (.iconst 1, 1) := by decide +kernel
theorem dX7_carry_45 : decode cX7_carry 45 = .ok (.iadd, 1) := by decide +kernel
theorem dX7_carry_46 : decode cX7_carry 46 = .ok (.putfield 159, 3) := by decide +kernel
theorem dX7_carry_49 : decode cX7_carry 49 = .ok (.aload 5, 2) := by decide +kernel
theorem dX7_carry_51 : decode cX7_carry 51 = .ok (.getfield 160, 3) := by decide +kernel
theorem dX7_carry_54 : decode cX7_carry 54 = .ok (.ifCond .le 44, 3) := by decide +kernel
theorem dX7_carry_57 : decode cX7_carry 57 = .ok (.aload 5, 2) := by decide +kernel
theorem dX7_carry_59 : decode cX7_carry 59 = .ok (.getfield 153, 3) := by decide +kernel
theorem dX7_carry_62 : decode cX7_carry 62 = .ok (.aload 5, 2) := by decide +kernel
theorem dX7_carry_64 : decode cX7_carry 64 = .ok (.getfield 160, 3) := by decide +kernel
theorem dX7_carry_67 : decode cX7_carry 67 = .ok (.irem, 1) := by decide +kernel
theorem dX7_carry_68 : decode cX7_carry 68 = .ok (.ifCond .ne 30, 3) := by decide +kernel
theorem dX7_carry_71 : decode cX7_carry 71 = .ok (.aload 5, 2) := by decide +kernel
theorem dX7_carry_73 : decode cX7_carry 73 = .ok (.dup, 1) := by decide +kernel
theorem dX7_carry_74 : decode cX7_carry 74 = .ok (.getfield 163, 3) := by decide +kernel
theorem dX7_carry_77 : decode cX7_carry 77 = .ok (.iconst 1, 1) := by decide +kernel
theorem dX7_carry_78 : decode cX7_carry 78 = .ok (.iadd, 1) := by decide +kernel
theorem dX7_carry_79 : decode cX7_carry 79 = .ok (.putfield 163, 3) := by decide +kernel
theorem dX7_carry_82 : decode cX7_carry 82 = .ok (.aload_n 0, 1) := by decide +kernel
theorem dX7_carry_83 : decode cX7_carry 83 = .ok (.getfield 71, 3) := by decide +kernel
theorem dX7_carry_86 : decode cX7_carry 86 = .ok (.dup, 1) := by decide +kernel
theorem dX7_carry_87 : decode cX7_carry 87 = .ok (.getfield 166, 3) := by decide +kernel
theorem dX7_carry_90 : decode cX7_carry 90 = .ok (.iconst 1, 1) := by decide +kernel
theorem dX7_carry_91 : decode cX7_carry 91 = .ok (.iadd, 1) := by decide +kernel
theorem dX7_carry_92 : decode cX7_carry 92 = .ok (.putfield 166, 3) := by decide +kernel
theorem dX7_carry_95 : decode cX7_carry 95 = .ok (.goto 51, 3) := by decide +kernel
theorem dX7_carry_98 : decode cX7_carry 98 = .ok (.aload_n 0, 1) := by decide +kernel
theorem dX7_carry_99 : decode cX7_carry 99 = .ok (.getfield 57, 3) := by decide +kernel
theorem dX7_carry_102 : decode cX7_carry 102 = .ok (.invokevirtual 167, 3) := by decide +kernel
theorem dX7_carry_105 : decode cX7_carry 105 = .ok (.ifCond .eq 19, 3) := by decide +kernel
theorem dX7_carry_108 : decode cX7_carry 108 = .ok (.aload_n 0, 1) := by decide +kernel
theorem dX7_carry_109 : decode cX7_carry 109 = .ok (.getfield 71, 3) := by decide +kernel
theorem dX7_carry_112 : decode cX7_carry 112 = .ok (.dup, 1) := by decide +kernel
theorem dX7_carry_113 : decode cX7_carry 113 = .ok (.getfield 171, 3) := by decide +kernel
theorem dX7_carry_116 : decode cX7_carry 116 = .ok (.iconst 1, 1) := by decide +kernel
theorem dX7_carry_117 : decode cX7_carry 117 = .ok (.iadd, 1) := by decide +kernel
theorem dX7_carry_118 : decode cX7_carry 118 = .ok (.putfield 171, 3) := by decide +kernel
theorem dX7_carry_121 : decode cX7_carry 121 = .ok (.goto 25, 3) := by decide +kernel
theorem dX7_carry_124 : decode cX7_carry 124 = .ok (.aload_n 0, 1) := by decide +kernel
theorem dX7_carry_125 : decode cX7_carry 125 = .ok (.getfield 57, 3) := by decide +kernel
theorem dX7_carry_128 : decode cX7_carry 128 = .ok (.iload_n 1, 1) := by decide +kernel
theorem dX7_carry_129 : decode cX7_carry 129 = .ok (.aload_n 0, 1) := by decide +kernel
theorem dX7_carry_130 : decode cX7_carry 130 = .ok (.getfield 9, 3) := by decide +kernel
theorem dX7_carry_133 : decode cX7_carry 133 = .ok (.aload 5, 2) := by decide +kernel
theorem dX7_carry_135 : decode cX7_carry 135 = .ok (.getfield 109, 3) := by decide +kernel
theorem dX7_carry_138 : decode cX7_carry 138 = .ok (.iadd, 1) := by decide +kernel
theorem dX7_carry_139 : decode cX7_carry 139 = .ok (.iload_n 2, 1) := by decide +kernel
theorem dX7_carry_140 : decode cX7_carry 140 = .ok (.iload_n 3, 1) := by decide +kernel
theorem dX7_carry_141 : decode cX7_carry 141 = .ok (.iload 4, 2) := by decide +kernel
theorem dX7_carry_143 : decode cX7_carry 143 = .ok (.invokevirtual 174, 3) := by decide +kernel
theorem dX7_carry_146 : decode cX7_carry 146 = .ok (.return_, 1) := by decide +kernel
/-! X7_clear -/
theorem dX7_clear_0 : decode cX7_clear 0 = .ok (.aload_n 0, 1) := by decide +kernel
theorem dX7_clear_1 : decode cX7_clear 1 = .ok (.iconst 0, 1) := by decide +kernel
theorem dX7_clear_2 : decode cX7_clear 2 = .ok (.putfield 9, 3) := by decide +kernel
theorem dX7_clear_5 : decode cX7_clear 5 = .ok (.aload_n 0, 1) := by decide +kernel
theorem dX7_clear_6 : decode cX7_clear 6 = .ok (.bipush 60, 2) := by decide +kernel
theorem dX7_clear_8 : decode cX7_clear 8 = .ok (.putfield 15, 3) := by decide +kernel
theorem dX7_clear_11 : decode cX7_clear 11 = .ok (.aload_n 0, 1) := by decide +kernel
theorem dX7_clear_12 : decode cX7_clear 12 = .ok (.iconst 0, 1) := by decide +kernel
theorem dX7_clear_13 : decode cX7_clear 13 = .ok (.putfield 18, 3) := by decide +kernel
theorem dX7_clear_16 : decode cX7_clear 16 = .ok (.aload_n 0, 1) := by decide +kernel
theorem dX7_clear_17 : decode cX7_clear 17 = .ok (.iconst 0, 1) := by decide +kernel
theorem dX7_clear_18 : decode cX7_clear 18 = .ok (.putfield 30, 3) := by decide +kernel
theorem dX7_clear_21 : decode cX7_clear 21 = .ok (.aload_n 0, 1) := by decide +kernel
theorem dX7_clear_22 : decode cX7_clear 22 = .ok (.iconst 0, 1) := by decide +kernel
theorem dX7_clear_23 : decode cX7_clear 23 = .ok (.putfield 33, 3) := by decide +kernel
theorem dX7_clear_26 : decode cX7_clear 26 = .ok (.iconst 0, 1) := by decide +kernel
theorem dX7_clear_27 : decode cX7_clear 27 = .ok (.istore_n 1, 1) := by decide +kernel
theorem dX7_clear_28 : decode cX7_clear 28 = .ok (.iload_n 1, 1) := by decide +kernel
theorem dX7_clear_29 : decode cX7_clear 29 = .ok (.iconst 4, 1) := by decide +kernel
theorem dX7_clear_30 : decode cX7_clear 30 = .ok (.if_icmp .ge 19, 3) := by decide +kernel
theorem dX7_clear_33 : decode cX7_clear 33 = .ok (.aload_n 0, 1) := by decide +kernel
theorem dX7_clear_34 : decode cX7_clear 34 = .ok (.getfield 50, 3) := by decide +kernel
theorem dX7_clear_37 : decode cX7_clear 37 = .ok (.iload_n 1, 1) := by decide +kernel
theorem dX7_clear_38 : decode cX7_clear 38 = .ok (.aaload, 1) := by decide +kernel
theorem dX7_clear_39 : decode cX7_clear 39 = .ok (.iconst (-1), 1) := by decide +kernel
theorem dX7_clear_40 : decode cX7_clear 40 = .ok (.putfield 78, 3) := by decide +kernel
theorem dX7_clear_43 : decode cX7_clear 43 = .ok (.iinc 1 1, 3) := by decide +kernel
theorem dX7_clear_46 : decode cX7_clear 46 = .ok (.goto (-18), 3) := by decide +kernel
theorem dX7_clear_49 : decode cX7_clear 49 = .ok (.aload_n 0, 1) := by decide +kernel
theorem dX7_clear_50 : decode cX7_clear 50 = .ok (.getfield 57, 3) := by decide +kernel
theorem dX7_clear_53 : decode cX7_clear 53 = .ok (.invokevirtual 81, 3) := by decide +kernel
theorem dX7_clear_56 : decode cX7_clear 56 = .ok (.aload_n 0, 1) := by decide +kernel
theorem dX7_clear_57 : decode cX7_clear 57 = .ok (.getfield 64, 3) := by decide +kernel
theorem dX7_clear_60 : decode cX7_clear 60 = .ok (.invokevirtual 84, 3) := by decide +kernel
theorem dX7_clear_63 : decode cX7_clear 63 = .ok (.aload_n 0, 1) := by decide +kernel
theorem dX7_clear_64 : decode cX7_clear 64 = .ok (.getfield 71, 3) := by decide +kernel
theorem dX7_clear_67 : decode cX7_clear 67 = .ok (.invokevirtual 85, 3) := by decide +kernel
theorem dX7_clear_70 : decode cX7_clear 70 = .ok (.return_, 1) := by decide +kernel
/-! X7_copyFrom -/
theorem dX7_copyFrom_0 : decode cX7_copyFrom 0 = .ok (.aload_n 0, 1) := by decide +kernel
theorem dX7_copyFrom_1 : decode cX7_copyFrom 1 = .ok (.aload_n 1, 1) := by decide +kernel
theorem dX7_copyFrom_2 : decode cX7_copyFrom 2 = .ok (.getfield 9, 3) := by decide +kernel
theorem dX7_copyFrom_5 : decode cX7_copyFrom 5 = .ok (.putfield 9, 3) := by decide +kernel
theorem dX7_copyFrom_8 : decode cX7_copyFrom 8 = .ok (.aload_n 0, 1) := by decide +kernel
theorem dX7_copyFrom_9 : decode cX7_copyFrom 9 = .ok (.aload_n 1, 1) := by decide +kernel
theorem dX7_copyFrom_10 : decode cX7_copyFrom 10 = .ok (.getfield 15, 3) := by decide +kernel
theorem dX7_copyFrom_13 : decode cX7_copyFrom 13 = .ok (.putfield 15, 3) := by decide +kernel
theorem dX7_copyFrom_16 : decode cX7_copyFrom 16 = .ok (.aload_n 0, 1) := by decide +kernel
theorem dX7_copyFrom_17 : decode cX7_copyFrom 17 = .ok (.aload_n 1, 1) := by decide +kernel
theorem dX7_copyFrom_18 : decode cX7_copyFrom 18 = .ok (.getfield 18, 3) := by decide +kernel
theorem dX7_copyFrom_21 : decode cX7_copyFrom 21 = .ok (.putfield 18, 3) := by decide +kernel
theorem dX7_copyFrom_24 : decode cX7_copyFrom 24 = .ok (.aload_n 0, 1) := by decide +kernel
theorem dX7_copyFrom_25 : decode cX7_copyFrom 25 = .ok (.aload_n 1, 1) := by decide +kernel
theorem dX7_copyFrom_26 : decode cX7_copyFrom 26 = .ok (.getfield 21, 3) := by decide +kernel
theorem dX7_copyFrom_29 : decode cX7_copyFrom 29 = .ok (.putfield 21, 3) := by decide +kernel
theorem dX7_copyFrom_32 : decode cX7_copyFrom 32 = .ok (.aload_n 0, 1) := by decide +kernel
theorem dX7_copyFrom_33 : decode cX7_copyFrom 33 = .ok (.aload_n 1, 1) := by decide +kernel
theorem dX7_copyFrom_34 : decode cX7_copyFrom 34 = .ok (.getfield 24, 3) := by decide +kernel
theorem dX7_copyFrom_37 : decode cX7_copyFrom 37 = .ok (.putfield 24, 3) := by decide +kernel
theorem dX7_copyFrom_40 : decode cX7_copyFrom 40 = .ok (.aload_n 0, 1) := by decide +kernel
theorem dX7_copyFrom_41 : decode cX7_copyFrom 41 = .ok (.aload_n 1, 1) := by decide +kernel
theorem dX7_copyFrom_42 : decode cX7_copyFrom 42 = .ok (.getfield 27, 3) := by decide +kernel
theorem dX7_copyFrom_45 : decode cX7_copyFrom 45 = .ok (.putfield 27, 3) := by decide +kernel
theorem dX7_copyFrom_48 : decode cX7_copyFrom 48 = .ok (.aload_n 0, 1) := by decide +kernel
theorem dX7_copyFrom_49 : decode cX7_copyFrom 49 = .ok (.aload_n 1, 1) := by decide +kernel
theorem dX7_copyFrom_50 : decode cX7_copyFrom 50 = .ok (.getfield 30, 3) := by decide +kernel
theorem dX7_copyFrom_53 : decode cX7_copyFrom 53 = .ok (.putfield 30, 3) := by decide +kernel
theorem dX7_copyFrom_56 : decode cX7_copyFrom 56 = .ok (.aload_n 0, 1) := by decide +kernel
theorem dX7_copyFrom_57 : decode cX7_copyFrom 57 = .ok (.aload_n 1, 1) := by decide +kernel
theorem dX7_copyFrom_58 : decode cX7_copyFrom 58 = .ok (.getfield 33, 3) := by decide +kernel
theorem dX7_copyFrom_61 : decode cX7_copyFrom 61 = .ok (.putfield 33, 3) := by decide +kernel
theorem dX7_copyFrom_64 : decode cX7_copyFrom 64 = .ok (.iconst 0, 1) := by decide +kernel
theorem dX7_copyFrom_65 : decode cX7_copyFrom 65 = .ok (.istore_n 2, 1) := by decide +kernel
theorem dX7_copyFrom_66 : decode cX7_copyFrom 66 = .ok (.iload_n 2, 1) := by decide +kernel
theorem dX7_copyFrom_67 : decode cX7_copyFrom 67 = .ok (.aload_n 0, 1) := by decide +kernel
theorem dX7_copyFrom_68 : decode cX7_copyFrom 68 = .ok (.getfield 30, 3) := by decide +kernel
theorem dX7_copyFrom_71 : decode cX7_copyFrom 71 = .ok (.if_icmp .ge 30, 3) := by decide +kernel
theorem dX7_copyFrom_74 : decode cX7_copyFrom 74 = .ok (.iload_n 2, 1) := by decide +kernel
theorem dX7_copyFrom_75 : decode cX7_copyFrom 75 = .ok (.bipush 6, 2) := by decide +kernel
theorem dX7_copyFrom_77 : decode cX7_copyFrom 77 = .ok (.if_icmp .ge 24, 3) := by decide +kernel
theorem dX7_copyFrom_80 : decode cX7_copyFrom 80 = .ok (.aload_n 0, 1) := by decide +kernel
theorem dX7_copyFrom_81 : decode cX7_copyFrom 81 = .ok (.getfield 38, 3) := by decide +kernel
theorem dX7_copyFrom_84 : decode cX7_copyFrom 84 = .ok (.iload_n 2, 1) := by decide +kernel
theorem dX7_copyFrom_85 : decode cX7_copyFrom 85 = .ok (.aaload, 1) := by decide +kernel
theorem dX7_copyFrom_86 : decode cX7_copyFrom 86 = .ok (.aload_n 1, 1) := by decide +kernel
theorem dX7_copyFrom_87 : decode cX7_copyFrom 87 = .ok (.getfield 38, 3) := by decide +kernel
theorem dX7_copyFrom_90 : decode cX7_copyFrom 90 = .ok (.iload_n 2, 1) := by decide +kernel
theorem dX7_copyFrom_91 : decode cX7_copyFrom 91 = .ok (.aaload, 1) := by decide +kernel
theorem dX7_copyFrom_92 : decode cX7_copyFrom 92 = .ok (.invokevirtual 86, 3) := by decide +kernel
theorem dX7_copyFrom_95 : decode cX7_copyFrom 95 = .ok (.iinc 2 1, 3) := by decide +kernel
theorem dX7_copyFrom_98 : decode cX7_copyFrom 98 = .ok (.goto (-32), 3) := by decide +kernel
theorem dX7_copyFrom_101 : decode cX7_copyFrom 101 = .ok (.iconst 0, 1) := by decide +kernel
theorem dX7_copyFrom_102 : decode cX7_copyFrom 102 = .ok (.istore_n 2, 1) := by decide +kernel
theorem dX7_copyFrom_103 : decode cX7_copyFrom 103 = .ok (.iload_n 2, 1) := by decide +kernel
theorem dX7_copyFrom_104 : decode cX7_copyFrom 104 = .ok (.aload_n 0, 1) := by decide +kernel
theorem dX7_copyFrom_105 : decode cX7_copyFrom 105 = .ok (.getfield 33, 3) := by decide +kernel
theorem dX7_copyFrom_108 : decode cX7_copyFrom 108 = .ok (.if_icmp .ge 30, 3) := by decide +kernel
theorem dX7_copyFrom_111 : decode cX7_copyFrom 111 = .ok (.iload_n 2, 1) := by decide +kernel
theorem dX7_copyFrom_112 : decode cX7_copyFrom 112 = .ok (.bipush 40, 2) := by decide +kernel
theorem dX7_copyFrom_114 : decode cX7_copyFrom 114 = .ok (.if_icmp .ge 24, 3) := by decide +kernel
theorem dX7_copyFrom_117 : decode cX7_copyFrom 117 = .ok (.aload_n 0, 1) := by decide +kernel
theorem dX7_copyFrom_118 : decode cX7_copyFrom 118 = .ok (.getfield 44, 3) := by decide +kernel
theorem dX7_copyFrom_121 : decode cX7_copyFrom 121 = .ok (.iload_n 2, 1) := by decide +kernel
theorem dX7_copyFrom_122 : decode cX7_copyFrom 122 = .ok (.aaload, 1) := by decide +kernel
theorem dX7_copyFrom_123 : decode cX7_copyFrom 123 = .ok (.aload_n 1, 1) := by decide +kernel
theorem dX7_copyFrom_124 : decode cX7_copyFrom 124 = .ok (.getfield 44, 3) := by decide +kernel
theorem dX7_copyFrom_127 : decode cX7_copyFrom 127 = .ok (.iload_n 2, 1) := by decide +kernel
theorem dX7_copyFrom_128 : decode cX7_copyFrom 128 = .ok (.aaload, 1) := by decide +kernel
theorem dX7_copyFrom_129 : decode cX7_copyFrom 129 = .ok (.invokevirtual 90, 3) := by decide +kernel
theorem dX7_copyFrom_132 : decode cX7_copyFrom 132 = .ok (.iinc 2 1, 3) := by decide +kernel
theorem dX7_copyFrom_135 : decode cX7_copyFrom 135 = .ok (.goto (-32), 3) := by decide +kernel
theorem dX7_copyFrom_138 : decode cX7_copyFrom 138 = .ok (.iconst 0, 1) := by decide +kernel
theorem dX7_copyFrom_139 : decode cX7_copyFrom 139 = .ok (.istore_n 2, 1) := by decide +kernel
theorem dX7_copyFrom_140 : decode cX7_copyFrom 140 = .ok (.iload_n 2, 1) := by decide +kernel
theorem dX7_copyFrom_141 : decode cX7_copyFrom 141 = .ok (.iconst 4, 1) := by decide +kernel
theorem dX7_copyFrom_142 : decode cX7_copyFrom 142 = .ok (.if_icmp .ge 24, 3) := by decide +kernel
theorem dX7_copyFrom_145 : decode cX7_copyFrom 145 = .ok (.aload_n 0, 1) := by decide +kernel
theorem dX7_copyFrom_146 : decode cX7_copyFrom 146 = .ok (.getfield 50, 3) := by decide +kernel
theorem dX7_copyFrom_149 : decode cX7_copyFrom 149 = .ok (.iload_n 2, 1) := by decide +kernel
theorem dX7_copyFrom_150 : decode cX7_copyFrom 150 = .ok (.aaload, 1) := by decide +kernel
theorem dX7_copyFrom_151 : decode cX7_copyFrom 151 = .ok (.aload_n 1, 1) := by decide +kernel
theorem dX7_copyFrom_152 : decode cX7_copyFrom 152 = .ok (.getfield 50, 3) := by decide +kernel
theorem dX7_copyFrom_155 : decode cX7_copyFrom 155 = .ok (.iload_n 2, 1) := by decide +kernel
theorem dX7_copyFrom_156 : decode cX7_copyFrom 156 = .ok (.aaload, 1) := by decide +kernel
theorem dX7_copyFrom_157 : decode cX7_copyFrom 157 = .ok (.invokevirtual 93, 3) := by decide +kernel
theorem dX7_copyFrom_160 : decode cX7_copyFrom 160 = .ok (.iinc 2 1, 3) := by decide +kernel
theorem dX7_copyFrom_163 : decode cX7_copyFrom 163 = .ok (.goto (-23), 3) := by decide +kernel
theorem dX7_copyFrom_166 : decode cX7_copyFrom 166 = .ok (.aload_n 0, 1) := by decide +kernel
theorem dX7_copyFrom_167 : decode cX7_copyFrom 167 = .ok (.getfield 57, 3) := by decide +kernel
theorem dX7_copyFrom_170 : decode cX7_copyFrom 170 = .ok (.aload_n 1, 1) := by decide +kernel
theorem dX7_copyFrom_171 : decode cX7_copyFrom 171 = .ok (.getfield 57, 3) := by decide +kernel
theorem dX7_copyFrom_174 : decode cX7_copyFrom 174 = .ok (.invokevirtual 96, 3) := by decide +kernel
theorem dX7_copyFrom_177 : decode cX7_copyFrom 177 = .ok (.aload_n 0, 1) := by decide +kernel
theorem dX7_copyFrom_178 : decode cX7_copyFrom 178 = .ok (.getfield 64, 3) := by decide +kernel
theorem dX7_copyFrom_181 : decode cX7_copyFrom 181 = .ok (.aload_n 1, 1) := by decide +kernel
theorem dX7_copyFrom_182 : decode cX7_copyFrom 182 = .ok (.getfield 64, 3) := by decide +kernel
theorem dX7_copyFrom_185 : decode cX7_copyFrom 185 = .ok (.invokevirtual 99, 3) := by decide +kernel
theorem dX7_copyFrom_188 : decode cX7_copyFrom 188 = .ok (.aload_n 0, 1) := by decide +kernel
theorem dX7_copyFrom_189 : decode cX7_copyFrom 189 = .ok (.getfield 71, 3) := by decide +kernel
theorem dX7_copyFrom_192 : decode cX7_copyFrom 192 = .ok (.aload_n 1, 1) := by decide +kernel
theorem dX7_copyFrom_193 : decode cX7_copyFrom 193 = .ok (.getfield 71, 3) := by decide +kernel
theorem dX7_copyFrom_196 : decode cX7_copyFrom 196 = .ok (.invokevirtual 102, 3) := by decide +kernel
theorem dX7_copyFrom_199 : decode cX7_copyFrom 199 = .ok (.return_, 1) := by decide +kernel
/-! X7_datagramAt -/
theorem dX7_datagramAt_0 : decode cX7_datagramAt 0 = .ok (.iload_n 1, 1) := by decide +kernel
theorem dX7_datagramAt_1 : decode cX7_datagramAt 1 = .ok (.ifCond .lt 26, 3) := by decide +kernel
theorem dX7_datagramAt_4 : decode cX7_datagramAt 4 = .ok (.iload_n 1, 1) := by decide +kernel
theorem dX7_datagramAt_5 : decode cX7_datagramAt 5 = .ok (.aload_n 0, 1) := by decide +kernel
theorem dX7_datagramAt_6 : decode cX7_datagramAt 6 = .ok (.getfield 33, 3) := by decide +kernel
theorem dX7_datagramAt_9 : decode cX7_datagramAt 9 = .ok (.if_icmp .ge 18, 3) := by decide +kernel
theorem dX7_datagramAt_12 : decode cX7_datagramAt 12 = .ok (.iload_n 1, 1) := by decide +kernel
theorem dX7_datagramAt_13 : decode cX7_datagramAt 13 = .ok (.bipush 40, 2) := by decide +kernel
theorem dX7_datagramAt_15 : decode cX7_datagramAt 15 = .ok (.if_icmp .ge 12, 3) := by decide +kernel
theorem dX7_datagramAt_18 : decode cX7_datagramAt 18 = .ok (.aload_n 0, 1) := by decide +kernel
theorem dX7_datagramAt_19 : decode cX7_datagramAt 19 = .ok (.getfield 44, 3) := by decide +kernel
theorem dX7_datagramAt_22 : decode cX7_datagramAt 22 = .ok (.iload_n 1, 1) := by decide +kernel
theorem dX7_datagramAt_23 : decode cX7_datagramAt 23 = .ok (.aaload, 1) := by decide +kernel
theorem dX7_datagramAt_24 : decode cX7_datagramAt 24 = .ok (.goto 4, 3) := by decide +kernel
theorem dX7_datagramAt_27 : decode cX7_datagramAt 27 = .ok (.aconst_null, 1) := by decide +kernel
theorem dX7_datagramAt_28 : decode cX7_datagramAt 28 = .ok (.areturn, 1) := by decide +kernel
/-! X7_delaysAhead -/
theorem dX7_delaysAhead_0 : decode cX7_delaysAhead 0 = .ok (.iconst 0, 1) := by decide +kernel
theorem dX7_delaysAhead_1 : decode cX7_delaysAhead 1 = .ok (.istore_n 2, 1) := by decide +kernel
theorem dX7_delaysAhead_2 : decode cX7_delaysAhead 2 = .ok (.iconst 0, 1) := by decide +kernel
theorem dX7_delaysAhead_3 : decode cX7_delaysAhead 3 = .ok (.istore_n 3, 1) := by decide +kernel
theorem dX7_delaysAhead_4 : decode cX7_delaysAhead 4 = .ok (.iload_n 3, 1) := by decide +kernel
theorem dX7_delaysAhead_5 : decode cX7_delaysAhead 5 = .ok (.iload_n 1, 1) := by decide +kernel
theorem dX7_delaysAhead_6 : decode cX7_delaysAhead 6 = .ok (.if_icmp .ge 35, 3) := by decide +kernel
theorem dX7_delaysAhead_9 : decode cX7_delaysAhead 9 = .ok (.iload_n 3, 1) := by decide +kernel
theorem dX7_delaysAhead_10 : decode cX7_delaysAhead 10 = .ok (.aload_n 0, 1) := by decide +kernel
theorem dX7_delaysAhead_11 : decode cX7_delaysAhead 11 = .ok (.getfield 30, 3) := by decide +kernel
theorem dX7_delaysAhead_14 : decode cX7_delaysAhead 14 = .ok (.if_icmp .ge 27, 3) := by decide +kernel
theorem dX7_delaysAhead_17 : decode cX7_delaysAhead 17 = .ok (.iload_n 3, 1) := by decide +kernel
theorem dX7_delaysAhead_18 : decode cX7_delaysAhead 18 = .ok (.bipush 6, 2) := by decide +kernel
theorem dX7_delaysAhead_20 : decode cX7_delaysAhead 20 = .ok (.if_icmp .ge 21, 3) := by decide +kernel
theorem dX7_delaysAhead_23 : decode cX7_delaysAhead 23 = .ok (.iload_n 2, 1) := by decide +kernel
theorem dX7_delaysAhead_24 : decode cX7_delaysAhead 24 = .ok (.aload_n 0, 1) := by decide +kernel
theorem dX7_delaysAhead_25 : decode cX7_delaysAhead 25 = .ok (.getfield 38, 3) := by decide +kernel
theorem dX7_delaysAhead_28 : decode cX7_delaysAhead 28 = .ok (.iload_n 3, 1) := by decide +kernel
theorem dX7_delaysAhead_29 : decode cX7_delaysAhead 29 = .ok (.aaload, 1) := by decide +kernel
theorem dX7_delaysAhead_30 : decode cX7_delaysAhead 30 = .ok (.getfield 109, 3) := by decide +kernel
theorem dX7_delaysAhead_33 : decode cX7_delaysAhead 33 = .ok (.iadd, 1) := by decide +kernel
theorem dX7_delaysAhead_34 : decode cX7_delaysAhead 34 = .ok (.istore_n 2, 1) := by decide +kernel
theorem dX7_delaysAhead_35 : decode cX7_delaysAhead 35 = .ok (.iinc 3 1, 3) := by decide +kernel
theorem dX7_delaysAhead_38 : decode cX7_delaysAhead 38 = .ok (.goto (-34), 3) := by decide +kernel
theorem dX7_delaysAhead_41 : decode cX7_delaysAhead 41 = .ok (.iload_n 2, 1) := by decide +kernel
theorem dX7_delaysAhead_42 : decode cX7_delaysAhead 42 = .ok (.ireturn, 1) := by decide +kernel
/-! X7_fateCount -/
theorem dX7_fateCount_0 : decode cX7_fateCount 0 = .ok (.iconst 0, 1) := by decide +kernel
theorem dX7_fateCount_1 : decode cX7_fateCount 1 = .ok (.istore_n 2, 1) := by decide +kernel
theorem dX7_fateCount_2 : decode cX7_fateCount 2 = .ok (.iconst 0, 1) := by decide +kernel
theorem dX7_fateCount_3 : decode cX7_fateCount 3 = .ok (.istore_n 3, 1) := by decide +kernel
theorem dX7_fateCount_4 : decode cX7_fateCount 4 = .ok (.iload_n 3, 1) := by decide +kernel
theorem dX7_fateCount_5 : decode cX7_fateCount 5 = .ok (.aload_n 0, 1) := by decide +kernel
theorem dX7_fateCount_6 : decode cX7_fateCount 6 = .ok (.getfield 33, 3) := by decide +kernel
theorem dX7_fateCount_9 : decode cX7_fateCount 9 = .ok (.if_icmp .ge 31, 3) := by decide +kernel
theorem dX7_fateCount_12 : decode cX7_fateCount 12 = .ok (.iload_n 3, 1) := by decide +kernel
theorem dX7_fateCount_13 : decode cX7_fateCount 13 = .ok (.bipush 40, 2) := by decide +kernel
theorem dX7_fateCount_15 : decode cX7_fateCount 15 = .ok (.if_icmp .ge 25, 3) := by decide +kernel
theorem dX7_fateCount_18 : decode cX7_fateCount 18 = .ok (.aload_n 0, 1) := by decide +kernel
theorem dX7_fateCount_19 : decode cX7_fateCount 19 = .ok (.getfield 44, 3) := by decide +kernel
theorem dX7_fateCount_22 : decode cX7_fateCount 22 = .ok (.iload_n 3, 1) := by decide +kernel
theorem dX7_fateCount_23 : decode cX7_fateCount 23 = .ok (.aaload, 1) := by decide +kernel
theorem dX7_fateCount_24 : decode cX7_fateCount 24 = .ok (.getfield 216, 3) := by decide +kernel
theorem dX7_fateCount_27 : decode cX7_fateCount 27 = .ok (.iload_n 1, 1) := by decide +kernel
theorem dX7_fateCount_28 : decode cX7_fateCount 28 = .ok (.if_icmp .ne 6, 3) := by decide +kernel
theorem dX7_fateCount_31 : decode cX7_fateCount 31 = .ok (.iinc 2 1, 3) := by decide +kernel
theorem dX7_fateCount_34 : decode cX7_fateCount 34 = .ok (.iinc 3 1, 3) := by decide +kernel
theorem dX7_fateCount_37 : decode cX7_fateCount 37 = .ok (.goto (-33), 3) := by decide +kernel
theorem dX7_fateCount_40 : decode cX7_fateCount 40 = .ok (.iload_n 2, 1) := by decide +kernel
theorem dX7_fateCount_41 : decode cX7_fateCount 41 = .ok (.ireturn, 1) := by decide +kernel
/-! X7_firstHeap -/
theorem dX7_firstHeap_0 : decode cX7_firstHeap 0 = .ok (.aload_n 0, 1) := by decide +kernel
theorem dX7_firstHeap_1 : decode cX7_firstHeap 1 = .ok (.getfield 50, 3) := by decide +kernel
theorem dX7_firstHeap_4 : decode cX7_firstHeap 4 = .ok (.iconst 0, 1) := by decide +kernel
theorem dX7_firstHeap_5 : decode cX7_firstHeap 5 = .ok (.aaload, 1) := by decide +kernel
theorem dX7_firstHeap_6 : decode cX7_firstHeap 6 = .ok (.astore_n 1, 1) := by decide +kernel
theorem dX7_firstHeap_7 : decode cX7_firstHeap 7 = .ok (.iconst 0, 1) := by decide +kernel
theorem dX7_firstHeap_8 : decode cX7_firstHeap 8 = .ok (.istore_n 2, 1) := by decide +kernel
theorem dX7_firstHeap_9 : decode cX7_firstHeap 9 = .ok (.iload_n 2, 1) := by decide +kernel
theorem dX7_firstHeap_10 : decode cX7_firstHeap 10 = .ok (.iconst 4, 1) := by decide +kernel
theorem dX7_firstHeap_11 : decode cX7_firstHeap 11 = .ok (.if_icmp .ge 61, 3) := by decide +kernel
theorem dX7_firstHeap_14 : decode cX7_firstHeap 14 = .ok (.aload_n 0, 1) := by decide +kernel
theorem dX7_firstHeap_15 : decode cX7_firstHeap 15 = .ok (.getfield 50, 3) := by decide +kernel
theorem dX7_firstHeap_18 : decode cX7_firstHeap 18 = .ok (.iload_n 2, 1) := by decide +kernel
theorem dX7_firstHeap_19 : decode cX7_firstHeap 19 = .ok (.aaload, 1) := by decide +kernel
theorem dX7_firstHeap_20 : decode cX7_firstHeap 20 = .ok (.astore_n 3, 1) := by decide +kernel
theorem dX7_firstHeap_21 : decode cX7_firstHeap 21 = .ok (.aload_n 3, 1) := by decide +kernel
theorem dX7_firstHeap_22 : decode cX7_firstHeap 22 = .ok (.getfield 78, 3) := by decide +kernel
theorem dX7_firstHeap_25 : decode cX7_firstHeap 25 = .ok (.iconst (-1), 1) := by decide +kernel
theorem dX7_firstHeap_26 : decode cX7_firstHeap 26 = .ok (.if_icmp .ne 5, 3) := by decide +kernel
theorem dX7_firstHeap_29 : decode cX7_firstHeap 29 = .ok (.aload_n 3, 1) := by decide +kernel
theorem dX7_firstHeap_30 : decode cX7_firstHeap 30 = .ok (.areturn, 1) := by decide +kernel
theorem dX7_firstHeap_31 : decode cX7_firstHeap 31 = .ok (.aload_n 3, 1) := by decide +kernel
theorem dX7_firstHeap_32 : decode cX7_firstHeap 32 = .ok (.getfield 280, 3) := by decide +kernel
theorem dX7_firstHeap_35 : decode cX7_firstHeap 35 = .ok (.aload_n 1, 1) := by decide +kernel
theorem dX7_firstHeap_36 : decode cX7_firstHeap 36 = .ok (.getfield 280, 3) := by decide +kernel
theorem dX7_firstHeap_39 : decode cX7_firstHeap 39 = .ok (.if_icmp .lt 25, 3) := by decide +kernel
theorem dX7_firstHeap_42 : decode cX7_firstHeap 42 = .ok (.aload_n 3, 1) := by decide +kernel
theorem dX7_firstHeap_43 : decode cX7_firstHeap 43 = .ok (.getfield 280, 3) := by decide +kernel
theorem dX7_firstHeap_46 : decode cX7_firstHeap 46 = .ok (.aload_n 1, 1) := by decide +kernel
theorem dX7_firstHeap_47 : decode cX7_firstHeap 47 = .ok (.getfield 280, 3) := by decide +kernel
theorem dX7_firstHeap_50 : decode cX7_firstHeap 50 = .ok (.if_icmp .ne 16, 3) := by decide +kernel
theorem dX7_firstHeap_53 : decode cX7_firstHeap 53 = .ok (.aload_n 3, 1) := by decide +kernel
theorem dX7_firstHeap_54 : decode cX7_firstHeap 54 = .ok (.getfield 78, 3) := by decide +kernel
theorem dX7_firstHeap_57 : decode cX7_firstHeap 57 = .ok (.aload_n 1, 1) := by decide +kernel
theorem dX7_firstHeap_58 : decode cX7_firstHeap 58 = .ok (.getfield 78, 3) := by decide +kernel
theorem dX7_firstHeap_61 : decode cX7_firstHeap 61 = .ok (.if_icmp .ge 5, 3) := by decide +kernel
theorem dX7_firstHeap_64 : decode cX7_firstHeap 64 = .ok (.aload_n 3, 1) := by decide +kernel
theorem dX7_firstHeap_65 : decode cX7_firstHeap 65 = .ok (.astore_n 1, 1) := by decide +kernel
theorem dX7_firstHeap_66 : decode cX7_firstHeap 66 = .ok (.iinc 2 1, 3) := by decide +kernel
theorem dX7_firstHeap_69 : decode cX7_firstHeap 69 = .ok (.goto (-60), 3) := by decide +kernel
theorem dX7_firstHeap_72 : decode cX7_firstHeap 72 = .ok (.aload_n 1, 1) := by decide +kernel
theorem dX7_firstHeap_73 : decode cX7_firstHeap 73 = .ok (.areturn, 1) := by decide +kernel
/-! X7_giveUp -/
theorem dX7_giveUp_0 : decode cX7_giveUp 0 = .ok (.aload_n 0, 1) := by decide +kernel
theorem dX7_giveUp_1 : decode cX7_giveUp 1 = .ok (.aload_n 1, 1) := by decide +kernel
theorem dX7_giveUp_2 : decode cX7_giveUp 2 = .ok (.getfield 78, 3) := by decide +kernel
theorem dX7_giveUp_5 : decode cX7_giveUp 5 = .ok (.invokevirtual 188, 3) := by decide +kernel
theorem dX7_giveUp_8 : decode cX7_giveUp 8 = .ok (.astore_n 3, 1) := by decide +kernel
theorem dX7_giveUp_9 : decode cX7_giveUp 9 = .ok (.aload_n 3, 1) := by decide +kernel
theorem dX7_giveUp_10 : decode cX7_giveUp 10 = .ok (.ifnull 13, 3) := by decide +kernel
theorem dX7_giveUp_13 : decode cX7_giveUp 13 = .ok (.aload_n 3, 1) := by decide +kernel
theorem dX7_giveUp_14 : decode cX7_giveUp 14 = .ok (.iconst 3, 1) := by decide +kernel
theorem dX7_giveUp_15 : decode cX7_giveUp 15 = .ok (.aload_n 0, 1) := by decide +kernel
theorem dX7_giveUp_16 : decode cX7_giveUp 16 = .ok (.getfield 9, 3) := by decide +kernel
theorem dX7_giveUp_19 : decode cX7_giveUp 19 = .ok (.iload_n 2, 1) := by decide +kernel
theorem dX7_giveUp_20 : decode cX7_giveUp 20 = .ok (.invokevirtual 283, 3) := by decide +kernel
theorem dX7_giveUp_23 : decode cX7_giveUp 23 = .ok (.aload_n 1, 1) := by decide +kernel
theorem dX7_giveUp_24 : decode cX7_giveUp 24 = .ok (.iconst (-1), 1) := by decide +kernel
theorem dX7_giveUp_25 : decode cX7_giveUp 25 = .ok (.putfield 78, 3) := by decide +kernel
theorem dX7_giveUp_28 : decode cX7_giveUp 28 = .ok (.return_, 1) := by decide +kernel
/-! X7_handOver -/
theorem dX7_handOver_0 : decode cX7_handOver 0 = .ok (.aload_n 2, 1) := by decide +kernel
theorem dX7_handOver_1 : decode cX7_handOver 1 = .ok (.aload_n 1, 1) := by decide +kernel
theorem dX7_handOver_2 : decode cX7_handOver 2 = .ok (.aload_n 2, 1) := by decide +kernel
theorem dX7_handOver_3 : decode cX7_handOver 3 = .ok (.invokevirtual 286, 3) := by decide +kernel
theorem dX7_handOver_6 : decode cX7_handOver 6 = .ok (.ifCond .eq 7, 3) := by decide +kernel
theorem dX7_handOver_9 : decode cX7_handOver 9 = .ok (.iconst 1, 1) := by decide +kernel
theorem dX7_handOver_10 : decode cX7_handOver 10 = .ok (.goto 4, 3) := by decide +kernel
theorem dX7_handOver_13 : decode cX7_handOver 13 = .ok (.iconst 2, 1) := by decide +kernel
theorem dX7_handOver_14 : decode cX7_handOver 14 = .ok (.aload_n 0, 1) := by decide +kernel
theorem dX7_handOver_15 : decode cX7_handOver 15 = .ok (.getfield 9, 3) := by decide +kernel
theorem dX7_handOver_18 : decode cX7_handOver 18 = .ok (.iconst 0, 1) := by decide +kernel
theorem dX7_handOver_19 : decode cX7_handOver 19 = .ok (.invokevirtual 283, 3) := by decide +kernel
theorem dX7_handOver_22 : decode cX7_handOver 22 = .ok (.aload_n 0, 1) := by decide +kernel
theorem dX7_handOver_23 : decode cX7_handOver 23 = .ok (.getfield 71, 3) := by decide +kernel
theorem dX7_handOver_26 : decode cX7_handOver 26 = .ok (.dup, 1) := by decide +kernel
theorem dX7_handOver_27 : decode cX7_handOver 27 = .ok (.getfield 290, 3) := by decide +kernel
theorem dX7_handOver_30 : decode cX7_handOver 30 = .ok (.aload_n 1, 1) := by decide +kernel
theorem dX7_handOver_31 : decode cX7_handOver 31 = .ok (.getfield 253, 3) := by decide +kernel
theorem dX7_handOver_34 : decode cX7_handOver 34 = .ok (.iadd, 1) := by decide +kernel
theorem dX7_handOver_35 : decode cX7_handOver 35 = .ok (.putfield 290, 3) := by decide +kernel
theorem dX7_handOver_38 : decode cX7_handOver 38 = .ok (.aload_n 1, 1) := by decide +kernel
theorem dX7_handOver_39 : decode cX7_handOver 39 = .ok (.iconst (-1), 1) := by decide +kernel
theorem dX7_handOver_40 : decode cX7_handOver 40 = .ok (.putfield 78, 3) := by decide +kernel
theorem dX7_handOver_43 : decode cX7_handOver 43 = .ok (.return_, 1) := by decide +kernel
/-! X7_handedCount -/
theorem dX7_handedCount_0 : decode cX7_handedCount 0 = .ok (.aload_n 0, 1) := by decide +kernel
theorem dX7_handedCount_1 : decode cX7_handedCount 1 = .ok (.iconst 1, 1) := by decide +kernel
theorem dX7_handedCount_2 : decode cX7_handedCount 2 = .ok (.invokevirtual 340, 3) := by decide +kernel
theorem dX7_handedCount_5 : decode cX7_handedCount 5 = .ok (.aload_n 0, 1) := by decide +kernel
theorem dX7_handedCount_6 : decode cX7_handedCount 6 = .ok (.iconst 2, 1) := by decide +kernel
theorem dX7_handedCount_7 : decode cX7_handedCount 7 = .ok (.invokevirtual 340, 3) := by decide +kernel
theorem dX7_handedCount_10 : decode cX7_handedCount 10 = .ok (.iadd, 1) := by decide +kernel
theorem dX7_handedCount_11 : decode cX7_handedCount 11 = .ok (.ireturn, 1) := by decide +kernel
/-! X7_hasMore -/
theorem dX7_hasMore_0 : decode cX7_hasMore 0 = .ok (.aload_n 0, 1) := by decide +kernel
theorem dX7_hasMore_1 : decode cX7_hasMore 1 = .ok (.aload_n 0, 1) := by decide +kernel
theorem dX7_hasMore_2 : decode cX7_hasMore 2 = .ok (.getfield 57, 3) := by decide +kernel
theorem dX7_hasMore_5 : decode cX7_hasMore 5 = .ok (.getfield 181, 3) := by decide +kernel
theorem dX7_hasMore_8 : decode cX7_hasMore 8 = .ok (.iload_n 1, 1) := by decide +kernel
theorem dX7_hasMore_9 : decode cX7_hasMore 9 = .ok (.invokestatic 184, 3) := by decide +kernel
theorem dX7_hasMore_12 : decode cX7_hasMore 12 = .ok (.invokevirtual 188, 3) := by decide +kernel
theorem dX7_hasMore_15 : decode cX7_hasMore 15 = .ok (.astore_n 2, 1) := by decide +kernel
theorem dX7_hasMore_16 : decode cX7_hasMore 16 = .ok (.aload_n 2, 1) := by decide +kernel
theorem dX7_hasMore_17 : decode cX7_hasMore 17 = .ok (.ifnull 40, 3) := by decide +kernel
theorem dX7_hasMore_20 : decode cX7_hasMore 20 = .ok (.aload_n 0, 1) := by decide +kernel
theorem dX7_hasMore_21 : decode cX7_hasMore 21 = .ok (.getfield 57, 3) := by decide +kernel
theorem dX7_hasMore_24 : decode cX7_hasMore 24 = .ok (.getfield 192, 3) := by decide +kernel
theorem dX7_hasMore_27 : decode cX7_hasMore 27 = .ok (.iload_n 1, 1) := by decide +kernel
theorem dX7_hasMore_28 : decode cX7_hasMore 28 = .ok (.invokestatic 184, 3) := by decide +kernel
theorem dX7_hasMore_31 : decode cX7_hasMore 31 = .ok (.aload_n 0, 1) := by decide +kernel
theorem dX7_hasMore_32 : decode cX7_hasMore 32 = .ok (.getfield 57, 3) := by decide +kernel
theorem dX7_hasMore_35 : decode cX7_hasMore 35 = .ok (.getfield 195, 3) := by decide +kernel
theorem dX7_hasMore_38 : decode cX7_hasMore 38 = .ok (.iload_n 1, 1) := by decide +kernel
theorem dX7_hasMore_39 : decode cX7_hasMore 39 = .ok (.invokestatic 184, 3) := by decide +kernel
theorem dX7_hasMore_42 : decode cX7_hasMore 42 = .ok (.iadd, 1) := by decide +kernel
theorem dX7_hasMore_43 : decode cX7_hasMore 43 = .ok (.bipush 20, 2) := by decide +kernel
theorem dX7_hasMore_45 : decode cX7_hasMore 45 = .ok (.isub, 1) := by decide +kernel
theorem dX7_hasMore_46 : decode cX7_hasMore 46 = .ok (.aload_n 2, 1) := by decide +kernel
theorem dX7_hasMore_47 : decode cX7_hasMore 47 = .ok (.getfield 197, 3) := by decide +kernel
theorem dX7_hasMore_50 : decode cX7_hasMore 50 = .ok (.if_icmp .ge 7, 3) := by decide +kernel
theorem dX7_hasMore_53 : decode cX7_hasMore 53 = .ok (.iconst 1, 1) := by decide +kernel
theorem dX7_hasMore_54 : decode cX7_hasMore 54 = .ok (.goto 4, 3) := by decide +kernel
theorem dX7_hasMore_57 : decode cX7_hasMore 57 = .ok (.iconst 0, 1) := by decide +kernel
theorem dX7_hasMore_58 : decode cX7_hasMore 58 = .ok (.ireturn, 1) := by decide +kernel
/-! X7_heapCount -/
theorem dX7_heapCount_0 : decode cX7_heapCount 0 = .ok (.iconst 0, 1) := by decide +kernel
theorem dX7_heapCount_1 : decode cX7_heapCount 1 = .ok (.istore_n 1, 1) := by decide +kernel
theorem dX7_heapCount_2 : decode cX7_heapCount 2 = .ok (.iconst 0, 1) := by decide +kernel
theorem dX7_heapCount_3 : decode cX7_heapCount 3 = .ok (.istore_n 2, 1) := by decide +kernel
theorem dX7_heapCount_4 : decode cX7_heapCount 4 = .ok (.iload_n 2, 1) := by decide +kernel
theorem dX7_heapCount_5 : decode cX7_heapCount 5 = .ok (.iconst 4, 1) := by decide +kernel
theorem dX7_heapCount_6 : decode cX7_heapCount 6 = .ok (.if_icmp .ge 25, 3) := by decide +kernel
theorem dX7_heapCount_9 : decode cX7_heapCount 9 = .ok (.aload_n 0, 1) := by decide +kernel
theorem dX7_heapCount_10 : decode cX7_heapCount 10 = .ok (.getfield 50, 3) := by decide +kernel
theorem dX7_heapCount_13 : decode cX7_heapCount 13 = .ok (.iload_n 2, 1) := by decide +kernel
theorem dX7_heapCount_14 : decode cX7_heapCount 14 = .ok (.aaload, 1) := by decide +kernel
theorem dX7_heapCount_15 : decode cX7_heapCount 15 = .ok (.getfield 78, 3) := by decide +kernel
theorem dX7_heapCount_18 : decode cX7_heapCount 18 = .ok (.iconst (-1), 1) := by decide +kernel
theorem dX7_heapCount_19 : decode cX7_heapCount 19 = .ok (.if_icmp .eq 6, 3) := by decide +kernel
theorem dX7_heapCount_22 : decode cX7_heapCount 22 = .ok (.iinc 1 1, 3) := by decide +kernel
theorem dX7_heapCount_25 : decode cX7_heapCount 25 = .ok (.iinc 2 1, 3) := by decide +kernel
theorem dX7_heapCount_28 : decode cX7_heapCount 28 = .ok (.goto (-24), 3) := by decide +kernel
theorem dX7_heapCount_31 : decode cX7_heapCount 31 = .ok (.iload_n 1, 1) := by decide +kernel
theorem dX7_heapCount_32 : decode cX7_heapCount 32 = .ok (.ireturn, 1) := by decide +kernel
/-! X7_heapFor -/
theorem dX7_heapFor_0 : decode cX7_heapFor 0 = .ok (.aload_n 0, 1) := by decide +kernel
theorem dX7_heapFor_1 : decode cX7_heapFor 1 = .ok (.iload_n 1, 1) := by decide +kernel
theorem dX7_heapFor_2 : decode cX7_heapFor 2 = .ok (.invokevirtual 271, 3) := by decide +kernel
theorem dX7_heapFor_5 : decode cX7_heapFor 5 = .ok (.astore_n 2, 1) := by decide +kernel
theorem dX7_heapFor_6 : decode cX7_heapFor 6 = .ok (.aload_n 2, 1) := by decide +kernel
theorem dX7_heapFor_7 : decode cX7_heapFor 7 = .ok (.ifnull 5, 3) := by decide +kernel
theorem dX7_heapFor_10 : decode cX7_heapFor 10 = .ok (.aload_n 2, 1) := by decide +kernel
theorem dX7_heapFor_11 : decode cX7_heapFor 11 = .ok (.areturn, 1) := by decide +kernel
theorem dX7_heapFor_12 : decode cX7_heapFor 12 = .ok (.aload_n 0, 1) := by decide +kernel
theorem dX7_heapFor_13 : decode cX7_heapFor 13 = .ok (.invokevirtual 274, 3) := by decide +kernel
theorem dX7_heapFor_16 : decode cX7_heapFor 16 = .ok (.astore_n 3, 1) := by decide +kernel
theorem dX7_heapFor_17 : decode cX7_heapFor 17 = .ok (.aload_n 3, 1) := by decide +kernel
theorem dX7_heapFor_18 : decode cX7_heapFor 18 = .ok (.getfield 78, 3) := by decide +kernel
theorem dX7_heapFor_21 : decode cX7_heapFor 21 = .ok (.iconst (-1), 1) := by decide +kernel
theorem dX7_heapFor_22 : decode cX7_heapFor 22 = .ok (.if_icmp .eq 9, 3) := by decide +kernel
theorem dX7_heapFor_25 : decode cX7_heapFor 25 = .ok (.aload_n 0, 1) := by decide +kernel
theorem dX7_heapFor_26 : decode cX7_heapFor 26 = .ok (.aload_n 3, 1) := by decide +kernel
theorem dX7_heapFor_27 : decode cX7_heapFor 27 = .ok (.iconst 2, 1) := by decide +kernel
theorem dX7_heapFor_28 : decode cX7_heapFor 28 = .ok (.invokevirtual 249, 3) := by decide +kernel
theorem dX7_heapFor_31 : decode cX7_heapFor 31 = .ok (.aload_n 3, 1) := by decide +kernel
theorem dX7_heapFor_32 : decode cX7_heapFor 32 = .ok (.iload_n 1, 1) := by decide +kernel
theorem dX7_heapFor_33 : decode cX7_heapFor 33 = .ok (.aload_n 0, 1) := by decide +kernel
theorem dX7_heapFor_34 : decode cX7_heapFor 34 = .ok (.getfield 9, 3) := by decide +kernel
theorem dX7_heapFor_37 : decode cX7_heapFor 37 = .ok (.invokevirtual 278, 3) := by decide +kernel
theorem dX7_heapFor_40 : decode cX7_heapFor 40 = .ok (.aload_n 3, 1) := by decide +kernel
theorem dX7_heapFor_41 : decode cX7_heapFor 41 = .ok (.areturn, 1) := by decide +kernel
/-! X7_heapOf -/
theorem dX7_heapOf_0 : decode cX7_heapOf 0 = .ok (.iconst 0, 1) := by decide +kernel
theorem dX7_heapOf_1 : decode cX7_heapOf 1 = .ok (.istore_n 2, 1) := by decide +kernel
theorem dX7_heapOf_2 : decode cX7_heapOf 2 = .ok (.iload_n 2, 1) := by decide +kernel
theorem dX7_heapOf_3 : decode cX7_heapOf 3 = .ok (.iconst 4, 1) := by decide +kernel
theorem dX7_heapOf_4 : decode cX7_heapOf 4 = .ok (.if_icmp .ge 33, 3) := by decide +kernel
theorem dX7_heapOf_7 : decode cX7_heapOf 7 = .ok (.iload_n 1, 1) := by decide +kernel
theorem dX7_heapOf_8 : decode cX7_heapOf 8 = .ok (.ifCond .lt 23, 3) := by decide +kernel
theorem dX7_heapOf_11 : decode cX7_heapOf 11 = .ok (.aload_n 0, 1) := by decide +kernel
theorem dX7_heapOf_12 : decode cX7_heapOf 12 = .ok (.getfield 50, 3) := by decide +kernel
theorem dX7_heapOf_15 : decode cX7_heapOf 15 = .ok (.iload_n 2, 1) := by decide +kernel
theorem dX7_heapOf_16 : decode cX7_heapOf 16 = .ok (.aaload, 1) := by decide +kernel
theorem dX7_heapOf_17 : decode cX7_heapOf 17 = .ok (.getfield 78, 3) := by decide +kernel
theorem dX7_heapOf_20 : decode cX7_heapOf 20 = .ok (.iload_n 1, 1) := by decide +kernel
theorem dX7_heapOf_21 : decode cX7_heapOf 21 = .ok (.if_icmp .ne 10, 3) := by decide +kernel
theorem dX7_heapOf_24 : decode cX7_heapOf 24 = .ok (.aload_n 0, 1) := by decide +kernel
theorem dX7_heapOf_25 : decode cX7_heapOf 25 = .ok (.getfield 50, 3) := by decide +kernel
theorem dX7_heapOf_28 : decode cX7_heapOf 28 = .ok (.iload_n 2, 1) := by decide +kernel
theorem dX7_heapOf_29 : decode cX7_heapOf 29 = .ok (.aaload, 1) := by decide +kernel
theorem dX7_heapOf_30 : decode cX7_heapOf 30 = .ok (.areturn, 1) := by decide +kernel
theorem dX7_heapOf_31 : decode cX7_heapOf 31 = .ok (.iinc 2 1, 3) := by decide +kernel
theorem dX7_heapOf_34 : decode cX7_heapOf 34 = .ok (.goto (-32), 3) := by decide +kernel
theorem dX7_heapOf_37 : decode cX7_heapOf 37 = .ok (.aconst_null, 1) := by decide +kernel
theorem dX7_heapOf_38 : decode cX7_heapOf 38 = .ok (.areturn, 1) := by decide +kernel
/-! X7_hearDue -/
theorem dX7_hearDue_0 : decode cX7_hearDue 0 = .ok (.iconst 0, 1) := by decide +kernel
theorem dX7_hearDue_1 : decode cX7_hearDue 1 = .ok (.istore_n 1, 1) := by decide +kernel
theorem dX7_hearDue_2 : decode cX7_hearDue 2 = .ok (.iconst 0, 1) := by decide +kernel
theorem dX7_hearDue_3 : decode cX7_hearDue 3 = .ok (.istore_n 2, 1) := by decide +kernel
theorem dX7_hearDue_4 : decode cX7_hearDue 4 = .ok (.iload_n 2, 1) := by decide +kernel
theorem dX7_hearDue_5 : decode cX7_hearDue 5 = .ok (.aload_n 0, 1) := by decide +kernel
theorem dX7_hearDue_6 : decode cX7_hearDue 6 = .ok (.getfield 64, 3) := by decide +kernel
theorem dX7_hearDue_9 : decode cX7_hearDue 9 = .ok (.getfield 315, 3) := by decide +kernel
theorem dX7_hearDue_12 : decode cX7_hearDue 12 = .ok (.if_icmp .ge 95, 3) := by decide +kernel
theorem dX7_hearDue_15 : decode cX7_hearDue 15 = .ok (.iload_n 2, 1) := by decide +kernel
theorem dX7_hearDue_16 : decode cX7_hearDue 16 = .ok (.sipush 2100, 3) := by decide +kernel
theorem dX7_hearDue_19 : decode cX7_hearDue 19 = .ok (.if_icmp .ge 88, 3) := by decide +kernel
theorem dX7_hearDue_22 : decode cX7_hearDue 22 = .ok (.aload_n 0, 1) := by decide +kernel
theorem dX7_hearDue_23 : decode cX7_hearDue 23 = .ok (.getfield 64, 3) := by decide +kernel
theorem dX7_hearDue_26 : decode cX7_hearDue 26 = .ok (.iload_n 2, 1) := by decide +kernel
theorem dX7_hearDue_27 : decode cX7_hearDue 27 = .ok (.invokevirtual 318, 3) := by decide +kernel
theorem dX7_hearDue_30 : decode cX7_hearDue 30 = .ok (.istore_n 3, 1) := by decide +kernel
theorem dX7_hearDue_31 : decode cX7_hearDue 31 = .ok (.aload_n 0, 1) := by decide +kernel
theorem dX7_hearDue_32 : decode cX7_hearDue 32 = .ok (.getfield 64, 3) := by decide +kernel
theorem dX7_hearDue_35 : decode cX7_hearDue 35 = .ok (.iload_n 2, 1) := by decide +kernel
theorem dX7_hearDue_36 : decode cX7_hearDue 36 = .ok (.invokevirtual 321, 3) := by decide +kernel
theorem dX7_hearDue_39 : decode cX7_hearDue 39 = .ok (.istore 4, 2) := by decide +kernel
theorem dX7_hearDue_41 : decode cX7_hearDue 41 = .ok (.aload_n 0, 1) := by decide +kernel
theorem dX7_hearDue_42 : decode cX7_hearDue 42 = .ok (.getfield 64, 3) := by decide +kernel
theorem dX7_hearDue_45 : decode cX7_hearDue 45 = .ok (.iload_n 2, 1) := by decide +kernel
theorem dX7_hearDue_46 : decode cX7_hearDue 46 = .ok (.aload_n 0, 1) := by decide +kernel
theorem dX7_hearDue_47 : decode cX7_hearDue 47 = .ok (.getfield 9, 3) := by decide +kernel
theorem dX7_hearDue_50 : decode cX7_hearDue 50 = .ok (.invokevirtual 324, 3) := by decide +kernel
theorem dX7_hearDue_53 : decode cX7_hearDue 53 = .ok (.ifCond .ne 18, 3) := by decide +kernel
theorem dX7_hearDue_56 : decode cX7_hearDue 56 = .ok (.aload_n 0, 1) := by decide +kernel
theorem dX7_hearDue_57 : decode cX7_hearDue 57 = .ok (.getfield 64, 3) := by decide +kernel
theorem dX7_hearDue_60 : decode cX7_hearDue 60 = .ok (.iload_n 2, 1) := by decide +kernel
theorem dX7_hearDue_61 : decode cX7_hearDue 61 = .ok (.iload_n 1, 1) := by decide +kernel
theorem dX7_hearDue_62 : decode cX7_hearDue 62 = .ok (.invokevirtual 327, 3) := by decide +kernel
theorem dX7_hearDue_65 : decode cX7_hearDue 65 = .ok (.iinc 1 1, 3) := by decide +kernel
theorem dX7_hearDue_68 : decode cX7_hearDue 68 = .ok (.goto 33, 3) := by decide +kernel
theorem dX7_hearDue_71 : decode cX7_hearDue 71 = .ok (.iload 4, 2) := by decide +kernel
theorem dX7_hearDue_73 : decode cX7_hearDue 73 = .ok (.iconst (-1), 1) := by decide +kernel
theorem dX7_hearDue_74 : decode cX7_hearDue 74 = .ok (.if_icmp .ne 11, 3) := by decide +kernel
theorem dX7_hearDue_77 : decode cX7_hearDue 77 = .ok (.aload_n 0, 1) := by decide +kernel
theorem dX7_hearDue_78 : decode cX7_hearDue 78 = .ok (.iload_n 3, 1) := by decide +kernel
theorem dX7_hearDue_79 : decode cX7_hearDue 79 = .ok (.invokevirtual 330, 3) := by decide +kernel
theorem dX7_hearDue_82 : decode cX7_hearDue 82 = .ok (.goto 19, 3) := by decide +kernel
theorem dX7_hearDue_85 : decode cX7_hearDue 85 = .ok (.aload_n 0, 1) := by decide +kernel
theorem dX7_hearDue_86 : decode cX7_hearDue 86 = .ok (.iload 4, 2) := by decide +kernel
theorem dX7_hearDue_88 : decode cX7_hearDue 88 = .ok (.iload_n 3, 1) := by decide +kernel
theorem dX7_hearDue_89 : decode cX7_hearDue 89 = .ok (.invokevirtual 131, 3) := by decide +kernel
theorem dX7_hearDue_92 : decode cX7_hearDue 92 = .ok (.ifCond .eq 9, 3) := by decide +kernel
theorem dX7_hearDue_95 : decode cX7_hearDue 95 = .ok (.aload_n 0, 1) := by decide +kernel
theorem dX7_hearDue_96 : decode cX7_hearDue 96 = .ok (.iload_n 3, 1) := by decide +kernel
theorem dX7_hearDue_97 : decode cX7_hearDue 97 = .ok (.iconst 0, 1) := by decide +kernel
theorem dX7_hearDue_98 : decode cX7_hearDue 98 = .ok (.invokevirtual 203, 3) := by decide +kernel
theorem dX7_hearDue_101 : decode cX7_hearDue 101 = .ok (.iinc 2 1, 3) := by decide +kernel
theorem dX7_hearDue_104 : decode cX7_hearDue 104 = .ok (.goto (-100), 3) := by decide +kernel
theorem dX7_hearDue_107 : decode cX7_hearDue 107 = .ok (.aload_n 0, 1) := by decide +kernel
theorem dX7_hearDue_108 : decode cX7_hearDue 108 = .ok (.getfield 64, 3) := by decide +kernel
theorem dX7_hearDue_111 : decode cX7_hearDue 111 = .ok (.iload_n 1, 1) := by decide +kernel
theorem dX7_hearDue_112 : decode cX7_hearDue 112 = .ok (.invokevirtual 333, 3) := by decide +kernel
theorem dX7_hearDue_115 : decode cX7_hearDue 115 = .ok (.return_, 1) := by decide +kernel
/-! X7_init -/
theorem dX7_init_0 : decode cX7_init 0 = .ok (.aload_n 0, 1) := by decide +kernel
theorem dX7_init_1 : decode cX7_init 1 = .ok (.invokespecial 3, 3) := by decide +kernel
theorem dX7_init_4 : decode cX7_init 4 = .ok (.aload_n 0, 1) := by decide +kernel
theorem dX7_init_5 : decode cX7_init 5 = .ok (.iconst 0, 1) := by decide +kernel
theorem dX7_init_6 : decode cX7_init 6 = .ok (.putfield 9, 3) := by decide +kernel
theorem dX7_init_9 : decode cX7_init 9 = .ok (.aload_n 0, 1) := by decide +kernel
theorem dX7_init_10 : decode cX7_init 10 = .ok (.bipush 60, 2) := by decide +kernel
theorem dX7_init_12 : decode cX7_init 12 = .ok (.putfield 15, 3) := by decide +kernel
theorem dX7_init_15 : decode cX7_init 15 = .ok (.aload_n 0, 1) := by decide +kernel
theorem dX7_init_16 : decode cX7_init 16 = .ok (.iconst 0, 1) := by decide +kernel
theorem dX7_init_17 : decode cX7_init 17 = .ok (.putfield 18, 3) := by decide +kernel
theorem dX7_init_20 : decode cX7_init 20 = .ok (.aload_n 0, 1) := by decide +kernel
theorem dX7_init_21 : decode cX7_init 21 = .ok (.bipush 28, 2) := by decide +kernel
theorem dX7_init_23 : decode cX7_init 23 = .ok (.putfield 21, 3) := by decide +kernel
theorem dX7_init_26 : decode cX7_init 26 = .ok (.aload_n 0, 1) := by decide +kernel
theorem dX7_init_27 : decode cX7_init 27 = .ok (.bipush 27, 2) := by decide +kernel
theorem dX7_init_29 : decode cX7_init 29 = .ok (.putfield 24, 3) := by decide +kernel
theorem dX7_init_32 : decode cX7_init 32 = .ok (.aload_n 0, 1) := by decide +kernel
theorem dX7_init_33 : decode cX7_init 33 = .ok (.iconst (-1), 1) := by decide +kernel
theorem dX7_init_34 : decode cX7_init 34 = .ok (.putfield 27, 3) := by decide +kernel
theorem dX7_init_37 : decode cX7_init 37 = .ok (.aload_n 0, 1) := by decide +kernel
theorem dX7_init_38 : decode cX7_init 38 = .ok (.iconst 0, 1) := by decide +kernel
theorem dX7_init_39 : decode cX7_init 39 = .ok (.putfield 30, 3) := by decide +kernel
theorem dX7_init_42 : decode cX7_init 42 = .ok (.aload_n 0, 1) := by decide +kernel
theorem dX7_init_43 : decode cX7_init 43 = .ok (.iconst 0, 1) := by decide +kernel
theorem dX7_init_44 : decode cX7_init 44 = .ok (.putfield 33, 3) := by decide +kernel
theorem dX7_init_47 : decode cX7_init 47 = .ok (.aload_n 0, 1) := by decide +kernel
theorem dX7_init_48 : decode cX7_init 48 = .ok (.bipush 6, 2) := by decide +kernel
theorem dX7_init_50 : decode cX7_init 50 = .ok (.anewarray 36, 3) := by decide +kernel
theorem dX7_init_53 : decode cX7_init 53 = .ok (.putfield 38, 3) := by decide +kernel
theorem dX7_init_56 : decode cX7_init 56 = .ok (.aload_n 0, 1) := by decide +kernel
theorem dX7_init_57 : decode cX7_init 57 = .ok (.bipush 40, 2) := by decide +kernel
theorem dX7_init_59 : decode cX7_init 59 = .ok (.anewarray 42, 3) := by decide +kernel
theorem dX7_init_62 : decode cX7_init 62 = .ok (.putfield 44, 3) := by decide +kernel
theorem dX7_init_65 : decode cX7_init 65 = .ok (.aload_n 0, 1) := by decide +kernel
theorem dX7_init_66 : decode cX7_init 66 = .ok (.iconst 4, 1) := by decide +kernel
theorem dX7_init_67 : decode cX7_init 67 = .ok (.anewarray 48, 3) := by decide +kernel
theorem dX7_init_70 : decode cX7_init 70 = .ok (.putfield 50, 3) := by decide +kernel
theorem dX7_init_73 : decode cX7_init 73 = .ok (.aload_n 0, 1) := by decide +kernel
theorem dX7_init_74 : decode cX7_init 74 = .ok (.new 54, 3) := by decide +kernel
theorem dX7_init_77 : decode cX7_init 77 = .ok (.dup, 1) := by decide +kernel
theorem dX7_init_78 : decode cX7_init 78 = .ok (.invokespecial 56, 3) := by decide +kernel
theorem dX7_init_81 : decode cX7_init 81 = .ok (.putfield 57, 3) := by decide +kernel
theorem dX7_init_84 : decode cX7_init 84 = .ok (.aload_n 0, 1) := by decide +kernel
theorem dX7_init_85 : decode cX7_init 85 = .ok (.new 61, 3) := by decide +kernel
theorem dX7_init_88 : decode cX7_init 88 = .ok (.dup, 1) := by decide +kernel
theorem dX7_init_89 : decode cX7_init 89 = .ok (.invokespecial 63, 3) := by decide +kernel
theorem dX7_init_92 : decode cX7_init 92 = .ok (.putfield 64, 3) := by decide +kernel
theorem dX7_init_95 : decode cX7_init 95 = .ok (.aload_n 0, 1) := by decide +kernel
theorem dX7_init_96 : decode cX7_init 96 = .ok (.new 68, 3) := by decide +kernel
theorem dX7_init_99 : decode cX7_init 99 = .ok (.dup, 1) := by decide +kernel
theorem dX7_init_100 : decode cX7_init 100 = .ok (.invokespecial 70, 3) := by decide +kernel
theorem dX7_init_103 : decode cX7_init 103 = .ok (.putfield 71, 3) := by decide +kernel
theorem dX7_init_106 : decode cX7_init 106 = .ok (.iconst 0, 1) := by decide +kernel
theorem dX7_init_107 : decode cX7_init 107 = .ok (.istore_n 1, 1) := by decide +kernel
theorem dX7_init_108 : decode cX7_init 108 = .ok (.iload_n 1, 1) := by decide +kernel
theorem dX7_init_109 : decode cX7_init 109 = .ok (.bipush 6, 2) := by decide +kernel
theorem dX7_init_111 : decode cX7_init 111 = .ok (.if_icmp .ge 22, 3) := by decide +kernel
theorem dX7_init_114 : decode cX7_init 114 = .ok (.aload_n 0, 1) := by decide +kernel
theorem dX7_init_115 : decode cX7_init 115 = .ok (.getfield 38, 3) := by decide +kernel
theorem dX7_init_118 : decode cX7_init 118 = .ok (.iload_n 1, 1) := by decide +kernel
theorem dX7_init_119 : decode cX7_init 119 = .ok (.new 36, 3) := by decide +kernel
theorem dX7_init_122 : decode cX7_init 122 = .ok (.dup, 1) := by decide +kernel
theorem dX7_init_123 : decode cX7_init 123 = .ok (.invokespecial 75, 3) := by decide +kernel
theorem dX7_init_126 : decode cX7_init 126 = .ok (.aastore, 1) := by decide +kernel
theorem dX7_init_127 : decode cX7_init 127 = .ok (.iinc 1 1, 3) := by decide +kernel
theorem dX7_init_130 : decode cX7_init 130 = .ok (.goto (-22), 3) := by decide +kernel
theorem dX7_init_133 : decode cX7_init 133 = .ok (.iconst 0, 1) := by decide +kernel
theorem dX7_init_134 : decode cX7_init 134 = .ok (.istore_n 1, 1) := by decide +kernel
theorem dX7_init_135 : decode cX7_init 135 = .ok (.iload_n 1, 1) := by decide +kernel
theorem dX7_init_136 : decode cX7_init 136 = .ok (.bipush 40, 2) := by decide +kernel
theorem dX7_init_138 : decode cX7_init 138 = .ok (.if_icmp .ge 22, 3) := by decide +kernel
theorem dX7_init_141 : decode cX7_init 141 = .ok (.aload_n 0, 1) := by decide +kernel
theorem dX7_init_142 : decode cX7_init 142 = .ok (.getfield 44, 3) := by decide +kernel
theorem dX7_init_145 : decode cX7_init 145 = .ok (.iload_n 1, 1) := by decide +kernel
theorem dX7_init_146 : decode cX7_init 146 = .ok (.new 42, 3) := by decide +kernel
theorem dX7_init_149 : decode cX7_init 149 = .ok (.dup, 1) := by decide +kernel
theorem dX7_init_150 : decode cX7_init 150 = .ok (.invokespecial 76, 3) := by decide +kernel
theorem dX7_init_153 : decode cX7_init 153 = .ok (.aastore, 1) := by decide +kernel
theorem dX7_init_154 : decode cX7_init 154 = .ok (.iinc 1 1, 3) := by decide +kernel
theorem dX7_init_157 : decode cX7_init 157 = .ok (.goto (-22), 3) := by decide +kernel
theorem dX7_init_160 : decode cX7_init 160 = .ok (.iconst 0, 1) := by decide +kernel
theorem dX7_init_161 : decode cX7_init 161 = .ok (.istore_n 1, 1) := by decide +kernel
theorem dX7_init_162 : decode cX7_init 162 = .ok (.iload_n 1, 1) := by decide +kernel
theorem dX7_init_163 : decode cX7_init 163 = .ok (.iconst 4, 1) := by decide +kernel
theorem dX7_init_164 : decode cX7_init 164 = .ok (.if_icmp .ge 22, 3) := by decide +kernel
theorem dX7_init_167 : decode cX7_init 167 = .ok (.aload_n 0, 1) := by decide +kernel
theorem dX7_init_168 : decode cX7_init 168 = .ok (.getfield 50, 3) := by decide +kernel
theorem dX7_init_171 : decode cX7_init 171 = .ok (.iload_n 1, 1) := by decide +kernel
theorem dX7_init_172 : decode cX7_init 172 = .ok (.new 48, 3) := by decide +kernel
theorem dX7_init_175 : decode cX7_init 175 = .ok (.dup, 1) := by decide +kernel
theorem dX7_init_176 : decode cX7_init 176 = .ok (.invokespecial 77, 3) := by decide +kernel
theorem dX7_init_179 : decode cX7_init 179 = .ok (.aastore, 1) := by decide +kernel
theorem dX7_init_180 : decode cX7_init 180 = .ok (.iinc 1 1, 3) := by decide +kernel
theorem dX7_init_183 : decode cX7_init 183 = .ok (.goto (-21), 3) := by decide +kernel
theorem dX7_init_186 : decode cX7_init 186 = .ok (.return_, 1) := by decide +kernel
/-! X7_isFirm -/
theorem dX7_isFirm_0 : decode cX7_isFirm 0 = .ok (.iload_n 1, 1) := by decide +kernel
theorem dX7_isFirm_1 : decode cX7_isFirm 1 = .ok (.ifCond .lt 21, 3) := by decide +kernel
theorem dX7_isFirm_4 : decode cX7_isFirm 4 = .ok (.iload_n 1, 1) := by decide +kernel
theorem dX7_isFirm_5 : decode cX7_isFirm 5 = .ok (.bipush 40, 2) := by decide +kernel
theorem dX7_isFirm_7 : decode cX7_isFirm 7 = .ok (.if_icmp .ge 15, 3) := by decide +kernel
theorem dX7_isFirm_10 : decode cX7_isFirm 10 = .ok (.aload_n 0, 1) := by decide +kernel
theorem dX7_isFirm_11 : decode cX7_isFirm 11 = .ok (.getfield 44, 3) := by decide +kernel
theorem dX7_isFirm_14 : decode cX7_isFirm 14 = .ok (.iload_n 1, 1) := by decide +kernel
theorem dX7_isFirm_15 : decode cX7_isFirm 15 = .ok (.aaload, 1) := by decide +kernel
theorem dX7_isFirm_16 : decode cX7_isFirm 16 = .ok (.getfield 178, 3) := by decide +kernel
theorem dX7_isFirm_19 : decode cX7_isFirm 19 = .ok (.ifCond .eq 7, 3) := by decide +kernel
theorem dX7_isFirm_22 : decode cX7_isFirm 22 = .ok (.iconst 1, 1) := by decide +kernel
theorem dX7_isFirm_23 : decode cX7_isFirm 23 = .ok (.goto 4, 3) := by decide +kernel
theorem dX7_isFirm_26 : decode cX7_isFirm 26 = .ok (.iconst 0, 1) := by decide +kernel
theorem dX7_isFirm_27 : decode cX7_isFirm 27 = .ok (.ireturn, 1) := by decide +kernel
/-! X7_isForged -/
theorem dX7_isForged_0 : decode cX7_isForged 0 = .ok (.aload_n 0, 1) := by decide +kernel
theorem dX7_isForged_1 : decode cX7_isForged 1 = .ok (.iload_n 1, 1) := by decide +kernel
theorem dX7_isForged_2 : decode cX7_isForged 2 = .ok (.invokevirtual 188, 3) := by decide +kernel
theorem dX7_isForged_5 : decode cX7_isForged 5 = .ok (.ifnonnull 5, 3) := by decide +kernel
theorem dX7_isForged_8 : decode cX7_isForged 8 = .ok (.iconst 0, 1) := by decide +kernel
theorem dX7_isForged_9 : decode cX7_isForged 9 = .ok (.ireturn, 1) := by decide +kernel
theorem dX7_isForged_10 : decode cX7_isForged 10 = .ok (.aload_n 0, 1) := by decide +kernel
theorem dX7_isForged_11 : decode cX7_isForged 11 = .ok (.getfield 71, 3) := by decide +kernel
theorem dX7_isForged_14 : decode cX7_isForged 14 = .ok (.dup, 1) := by decide +kernel
theorem dX7_isForged_15 : decode cX7_isForged 15 = .ok (.getfield 227, 3) := by decide +kernel
theorem dX7_isForged_18 : decode cX7_isForged 18 = .ok (.iconst 1, 1) := by decide +kernel
theorem dX7_isForged_19 : decode cX7_isForged 19 = .ok (.iadd, 1) := by decide +kernel
theorem dX7_isForged_20 : decode cX7_isForged 20 = .ok (.putfield 227, 3) := by decide +kernel
theorem dX7_isForged_23 : decode cX7_isForged 23 = .ok (.aload_n 0, 1) := by decide +kernel
theorem dX7_isForged_24 : decode cX7_isForged 24 = .ok (.iload_n 1, 1) := by decide +kernel
theorem dX7_isForged_25 : decode cX7_isForged 25 = .ok (.iload_n 2, 1) := by decide +kernel
theorem dX7_isForged_26 : decode cX7_isForged 26 = .ok (.iload_n 3, 1) := by decide +kernel
theorem dX7_isForged_27 : decode cX7_isForged 27 = .ok (.iload 4, 2) := by decide +kernel
theorem dX7_isForged_29 : decode cX7_isForged 29 = .ok (.iload 5, 2) := by decide +kernel
theorem dX7_isForged_31 : decode cX7_isForged 31 = .ok (.invokevirtual 230, 3) := by decide +kernel
theorem dX7_isForged_34 : decode cX7_isForged 34 = .ok (.iconst 1, 1) := by decide +kernel
theorem dX7_isForged_35 : decode cX7_isForged 35 = .ok (.ireturn, 1) := by decide +kernel
/-! X7_isQuiet -/
theorem dX7_isQuiet_0 : decode cX7_isQuiet 0 = .ok (.aload_n 0, 1) := by decide +kernel
theorem dX7_isQuiet_1 : decode cX7_isQuiet 1 = .ok (.getfield 57, 3) := by decide +kernel
theorem dX7_isQuiet_4 : decode cX7_isQuiet 4 = .ok (.getfield 335, 3) := by decide +kernel
theorem dX7_isQuiet_7 : decode cX7_isQuiet 7 = .ok (.ifCond .ne 24, 3) := by decide +kernel
theorem dX7_isQuiet_10 : decode cX7_isQuiet 10 = .ok (.aload_n 0, 1) := by decide +kernel
theorem dX7_isQuiet_11 : decode cX7_isQuiet 11 = .ok (.getfield 64, 3) := by decide +kernel
theorem dX7_isQuiet_14 : decode cX7_isQuiet 14 = .ok (.getfield 315, 3) := by decide +kernel
theorem dX7_isQuiet_17 : decode cX7_isQuiet 17 = .ok (.ifCond .ne 14, 3) := by decide +kernel
theorem dX7_isQuiet_20 : decode cX7_isQuiet 20 = .ok (.aload_n 0, 1) := by decide +kernel
theorem dX7_isQuiet_21 : decode cX7_isQuiet 21 = .ok (.invokevirtual 336, 3) := by decide +kernel
theorem dX7_isQuiet_24 : decode cX7_isQuiet 24 = .ok (.ifCond .ne 7, 3) := by decide +kernel
theorem dX7_isQuiet_27 : decode cX7_isQuiet 27 = .ok (.iconst 1, 1) := by decide +kernel
theorem dX7_isQuiet_28 : decode cX7_isQuiet 28 = .ok (.goto 4, 3) := by decide +kernel
theorem dX7_isQuiet_31 : decode cX7_isQuiet 31 = .ok (.iconst 0, 1) := by decide +kernel
theorem dX7_isQuiet_32 : decode cX7_isQuiet 32 = .ok (.ireturn, 1) := by decide +kernel
/-! X7_linkAt -/
theorem dX7_linkAt_0 : decode cX7_linkAt 0 = .ok (.iload_n 1, 1) := by decide +kernel
theorem dX7_linkAt_1 : decode cX7_linkAt 1 = .ok (.ifCond .lt 26, 3) := by decide +kernel
theorem dX7_linkAt_4 : decode cX7_linkAt 4 = .ok (.iload_n 1, 1) := by decide +kernel
theorem dX7_linkAt_5 : decode cX7_linkAt 5 = .ok (.aload_n 0, 1) := by decide +kernel
theorem dX7_linkAt_6 : decode cX7_linkAt 6 = .ok (.getfield 30, 3) := by decide +kernel
theorem dX7_linkAt_9 : decode cX7_linkAt 9 = .ok (.if_icmp .ge 18, 3) := by decide +kernel
theorem dX7_linkAt_12 : decode cX7_linkAt 12 = .ok (.iload_n 1, 1) := by decide +kernel
theorem dX7_linkAt_13 : decode cX7_linkAt 13 = .ok (.bipush 6, 2) := by decide +kernel
theorem dX7_linkAt_15 : decode cX7_linkAt 15 = .ok (.if_icmp .ge 12, 3) := by decide +kernel
theorem dX7_linkAt_18 : decode cX7_linkAt 18 = .ok (.aload_n 0, 1) := by decide +kernel
theorem dX7_linkAt_19 : decode cX7_linkAt 19 = .ok (.getfield 38, 3) := by decide +kernel
theorem dX7_linkAt_22 : decode cX7_linkAt 22 = .ok (.iload_n 1, 1) := by decide +kernel
theorem dX7_linkAt_23 : decode cX7_linkAt 23 = .ok (.aaload, 1) := by decide +kernel
theorem dX7_linkAt_24 : decode cX7_linkAt 24 = .ok (.goto 4, 3) := by decide +kernel
theorem dX7_linkAt_27 : decode cX7_linkAt 27 = .ok (.aconst_null, 1) := by decide +kernel
theorem dX7_linkAt_28 : decode cX7_linkAt 28 = .ok (.areturn, 1) := by decide +kernel
/-! X7_moveDue -/
theorem dX7_moveDue_0 : decode cX7_moveDue 0 = .ok (.iconst 0, 1) := by decide +kernel
theorem dX7_moveDue_1 : decode cX7_moveDue 1 = .ok (.istore_n 2, 1) := by decide +kernel
theorem dX7_moveDue_2 : decode cX7_moveDue 2 = .ok (.iload_n 2, 1) := by decide +kernel
theorem dX7_moveDue_3 : decode cX7_moveDue 3 = .ok (.sipush 300, 3) := by decide +kernel
theorem dX7_moveDue_6 : decode cX7_moveDue 6 = .ok (.if_icmp .ge 178, 3) := by decide +kernel
theorem dX7_moveDue_9 : decode cX7_moveDue 9 = .ok (.aload_n 0, 1) := by decide +kernel
theorem dX7_moveDue_10 : decode cX7_moveDue 10 = .ok (.getfield 57, 3) := by decide +kernel
theorem dX7_moveDue_13 : decode cX7_moveDue 13 = .ok (.iload_n 1, 1) := by decide +kernel
theorem dX7_moveDue_14 : decode cX7_moveDue 14 = .ok (.aload_n 0, 1) := by decide +kernel
theorem dX7_moveDue_15 : decode cX7_moveDue 15 = .ok (.getfield 9, 3) := by decide +kernel
theorem dX7_moveDue_18 : decode cX7_moveDue 18 = .ok (.invokevirtual 303, 3) := by decide +kernel
theorem dX7_moveDue_21 : decode cX7_moveDue 21 = .ok (.istore_n 3, 1) := by decide +kernel
theorem dX7_moveDue_22 : decode cX7_moveDue 22 = .ok (.iload_n 3, 1) := by decide +kernel
theorem dX7_moveDue_23 : decode cX7_moveDue 23 = .ok (.iconst (-1), 1) := by decide +kernel
theorem dX7_moveDue_24 : decode cX7_moveDue 24 = .ok (.if_icmp .ne 4, 3) := by decide +kernel
theorem dX7_moveDue_27 : decode cX7_moveDue 27 = .ok (.return_, 1) := by decide +kernel
theorem dX7_moveDue_28 : decode cX7_moveDue 28 = .ok (.aload_n 0, 1) := by decide +kernel
theorem dX7_moveDue_29 : decode cX7_moveDue 29 = .ok (.getfield 57, 3) := by decide +kernel
theorem dX7_moveDue_32 : decode cX7_moveDue 32 = .ok (.getfield 181, 3) := by decide +kernel
theorem dX7_moveDue_35 : decode cX7_moveDue 35 = .ok (.iload_n 3, 1) := by decide +kernel
theorem dX7_moveDue_36 : decode cX7_moveDue 36 = .ok (.invokestatic 184, 3) := by decide +kernel
theorem dX7_moveDue_39 : decode cX7_moveDue 39 = .ok (.istore 4, 2) := by decide +kernel
theorem dX7_moveDue_41 : decode cX7_moveDue 41 = .ok (.aload_n 0, 1) := by decide +kernel
theorem dX7_moveDue_42 : decode cX7_moveDue 42 = .ok (.getfield 57, 3) := by decide +kernel
theorem dX7_moveDue_45 : decode cX7_moveDue 45 = .ok (.getfield 192, 3) := by decide +kernel
theorem dX7_moveDue_48 : decode cX7_moveDue 48 = .ok (.iload_n 3, 1) := by decide +kernel
theorem dX7_moveDue_49 : decode cX7_moveDue 49 = .ok (.invokestatic 184, 3) := by decide +kernel
theorem dX7_moveDue_52 : decode cX7_moveDue 52 = .ok (.istore 5, 2) := by decide +kernel
theorem dX7_moveDue_54 : decode cX7_moveDue 54 = .ok (.aload_n 0, 1) := by decide +kernel
theorem dX7_moveDue_55 : decode cX7_moveDue 55 = .ok (.getfield 57, 3) := by decide +kernel
theorem dX7_moveDue_58 : decode cX7_moveDue 58 = .ok (.getfield 195, 3) := by decide +kernel
theorem dX7_moveDue_61 : decode cX7_moveDue 61 = .ok (.iload_n 3, 1) := by decide +kernel
theorem dX7_moveDue_62 : decode cX7_moveDue 62 = .ok (.invokestatic 184, 3) := by decide +kernel
theorem dX7_moveDue_65 : decode cX7_moveDue 65 = .ok (.istore 6, 2) := by decide +kernel
theorem dX7_moveDue_67 : decode cX7_moveDue 67 = .ok (.aload_n 0, 1) := by decide +kernel
theorem dX7_moveDue_68 : decode cX7_moveDue 68 = .ok (.iload_n 3, 1) := by decide +kernel
theorem dX7_moveDue_69 : decode cX7_moveDue 69 = .ok (.invokevirtual 306, 3) := by decide +kernel
theorem dX7_moveDue_72 : decode cX7_moveDue 72 = .ok (.ifCond .ne 7, 3) := by decide +kernel
theorem dX7_moveDue_75 : decode cX7_moveDue 75 = .ok (.iconst 1, 1) := by decide +kernel
theorem dX7_moveDue_76 : decode cX7_moveDue 76 = .ok (.goto 4, 3) := by decide +kernel
theorem dX7_moveDue_79 : decode cX7_moveDue 79 = .ok (.iconst 0, 1) := by decide +kernel
theorem dX7_moveDue_80 : decode cX7_moveDue 80 = .ok (.istore 7, 2) := by decide +kernel
theorem dX7_moveDue_82 : decode cX7_moveDue 82 = .ok (.aload_n 0, 1) := by decide +kernel
theorem dX7_moveDue_83 : decode cX7_moveDue 83 = .ok (.getfield 57, 3) := by decide +kernel
theorem dX7_moveDue_86 : decode cX7_moveDue 86 = .ok (.iload_n 1, 1) := by decide +kernel
theorem dX7_moveDue_87 : decode cX7_moveDue 87 = .ok (.invokevirtual 309, 3) := by decide +kernel
theorem dX7_moveDue_90 : decode cX7_moveDue 90 = .ok (.aload_n 0, 1) := by decide +kernel
theorem dX7_moveDue_91 : decode cX7_moveDue 91 = .ok (.getfield 71, 3) := by decide +kernel
theorem dX7_moveDue_94 : decode cX7_moveDue 94 = .ok (.dup, 1) := by decide +kernel
theorem dX7_moveDue_95 : decode cX7_moveDue 95 = .ok (.getfield 312, 3) := by decide +kernel
theorem dX7_moveDue_98 : decode cX7_moveDue 98 = .ok (.iconst 1, 1) := by decide +kernel
theorem dX7_moveDue_99 : decode cX7_moveDue 99 = .ok (.iadd, 1) := by decide +kernel
theorem dX7_moveDue_100 : decode cX7_moveDue 100 = .ok (.putfield 312, 3) := by decide +kernel
theorem dX7_moveDue_103 : decode cX7_moveDue 103 = .ok (.iload_n 1, 1) := by decide +kernel
theorem dX7_moveDue_104 : decode cX7_moveDue 104 = .ok (.iconst 1, 1) := by decide +kernel
theorem dX7_moveDue_105 : decode cX7_moveDue 105 = .ok (.iadd, 1) := by decide +kernel
theorem dX7_moveDue_106 : decode cX7_moveDue 106 = .ok (.aload_n 0, 1) := by decide +kernel
theorem dX7_moveDue_107 : decode cX7_moveDue 107 = .ok (.getfield 30, 3) := by decide +kernel
theorem dX7_moveDue_110 : decode cX7_moveDue 110 = .ok (.if_icmp .ge 20, 3) := by decide +kernel
theorem dX7_moveDue_113 : decode cX7_moveDue 113 = .ok (.aload_n 0, 1) := by decide +kernel
theorem dX7_moveDue_114 : decode cX7_moveDue 114 = .ok (.iload_n 1, 1) := by decide +kernel
theorem dX7_moveDue_115 : decode cX7_moveDue 115 = .ok (.iconst 1, 1) := by decide +kernel
theorem dX7_moveDue_116 : decode cX7_moveDue 116 = .ok (.iadd, 1) := by decide +kernel
theorem dX7_moveDue_117 : decode cX7_moveDue 117 = .ok (.iload 4, 2) := by decide +kernel
theorem dX7_moveDue_119 : decode cX7_moveDue 119 = .ok (.iload 5, 2) := by decide +kernel
theorem dX7_moveDue_121 : decode cX7_moveDue 121 = .ok (.iload 6, 2) := by decide +kernel
theorem dX7_moveDue_123 : decode cX7_moveDue 123 = .ok (.invokevirtual 207, 3) := by decide +kernel
theorem dX7_moveDue_126 : decode cX7_moveDue 126 = .ok (.pop, 1) := by decide +kernel
theorem dX7_moveDue_127 : decode cX7_moveDue 127 = .ok (.goto 51, 3) := by decide +kernel
theorem dX7_moveDue_130 : decode cX7_moveDue 130 = .ok (.iload 4, 2) := by decide +kernel
theorem dX7_moveDue_132 : decode cX7_moveDue 132 = .ok (.iconst (-1), 1) := by decide +kernel
theorem dX7_moveDue_133 : decode cX7_moveDue 133 = .ok (.if_icmp .ne 29, 3) := by decide +kernel
theorem dX7_moveDue_136 : decode cX7_moveDue 136 = .ok (.aload_n 0, 1) := by decide +kernel
theorem dX7_moveDue_137 : decode cX7_moveDue 137 = .ok (.getfield 64, 3) := by decide +kernel
theorem dX7_moveDue_140 : decode cX7_moveDue 140 = .ok (.aload_n 0, 1) := by decide +kernel
theorem dX7_moveDue_141 : decode cX7_moveDue 141 = .ok (.getfield 9, 3) := by decide +kernel
theorem dX7_moveDue_144 : decode cX7_moveDue 144 = .ok (.aload_n 0, 1) := by decide +kernel
theorem dX7_moveDue_145 : decode cX7_moveDue 145 = .ok (.aload_n 0, 1) := by decide +kernel
theorem dX7_moveDue_146 : decode cX7_moveDue 146 = .ok (.getfield 30, 3) := by decide +kernel
theorem dX7_moveDue_149 : decode cX7_moveDue 149 = .ok (.invokevirtual 127, 3) := by decide +kernel
theorem dX7_moveDue_152 : decode cX7_moveDue 152 = .ok (.iadd, 1) := by decide +kernel
theorem dX7_moveDue_153 : decode cX7_moveDue 153 = .ok (.iconst (-1), 1) := by decide +kernel
theorem dX7_moveDue_154 : decode cX7_moveDue 154 = .ok (.iload 6, 2) := by decide +kernel
theorem dX7_moveDue_156 : decode cX7_moveDue 156 = .ok (.invokevirtual 135, 3) := by decide +kernel
theorem dX7_moveDue_159 : decode cX7_moveDue 159 = .ok (.goto 19, 3) := by decide +kernel
theorem dX7_moveDue_162 : decode cX7_moveDue 162 = .ok (.aload_n 0, 1) := by decide +kernel
theorem dX7_moveDue_163 : decode cX7_moveDue 163 = .ok (.iload 4, 2) := by decide +kernel
theorem dX7_moveDue_165 : decode cX7_moveDue 165 = .ok (.iload 5, 2) := by decide +kernel
theorem dX7_moveDue_167 : decode cX7_moveDue 167 = .ok (.iload 6, 2) := by decide +kernel
theorem dX7_moveDue_169 : decode cX7_moveDue 169 = .ok (.bipush 20, 2) := by decide +kernel
theorem dX7_moveDue_171 : decode cX7_moveDue 171 = .ok (.isub, 1) := by decide +kernel
theorem dX7_moveDue_172 : decode cX7_moveDue 172 = .ok (.iconst (-1), 1) := by decide +kernel
theorem dX7_moveDue_173 : decode cX7_moveDue 173 = .ok (.iload 7, 2) := by decide +kernel
theorem dX7_moveDue_175 : decode cX7_moveDue 175 = .ok (.invokevirtual 230, 3) := by decide +kernel
theorem dX7_moveDue_178 : decode cX7_moveDue 178 = .ok (.iinc 2 1, 3) := by decide +kernel
theorem dX7_moveDue_181 : decode cX7_moveDue 181 = .ok (.goto (-179), 3) := by decide +kernel
theorem dX7_moveDue_184 : decode cX7_moveDue 184 = .ok (.return_, 1) := by decide +kernel
/-! X7_noteComes -/
theorem dX7_noteComes_0 : decode cX7_noteComes 0 = .ok (.aload_n 0, 1) := by decide +kernel
theorem dX7_noteComes_1 : decode cX7_noteComes 1 = .ok (.getfield 71, 3) := by decide +kernel
theorem dX7_noteComes_4 : decode cX7_noteComes 4 = .ok (.dup, 1) := by decide +kernel
theorem dX7_noteComes_5 : decode cX7_noteComes 5 = .ok (.getfield 213, 3) := by decide +kernel
theorem dX7_noteComes_8 : decode cX7_noteComes 8 = .ok (.iconst 1, 1) := by decide +kernel
theorem dX7_noteComes_9 : decode cX7_noteComes 9 = .ok (.iadd, 1) := by decide +kernel
theorem dX7_noteComes_10 : decode cX7_noteComes 10 = .ok (.putfield 213, 3) := by decide +kernel
theorem dX7_noteComes_13 : decode cX7_noteComes 13 = .ok (.iload_n 1, 1) := by decide +kernel
theorem dX7_noteComes_14 : decode cX7_noteComes 14 = .ok (.aload_n 0, 1) := by decide +kernel
theorem dX7_noteComes_15 : decode cX7_noteComes 15 = .ok (.getfield 21, 3) := by decide +kernel
theorem dX7_noteComes_18 : decode cX7_noteComes 18 = .ok (.if_icmp .ge 7, 3) := by decide +kernel
theorem dX7_noteComes_21 : decode cX7_noteComes 21 = .ok (.iconst 1, 1) := by decide +kernel
theorem dX7_noteComes_22 : decode cX7_noteComes 22 = .ok (.goto 4, 3) := by decide +kernel
theorem dX7_noteComes_25 : decode cX7_noteComes 25 = .ok (.iconst 0, 1) := by decide +kernel
theorem dX7_noteComes_26 : decode cX7_noteComes 26 = .ok (.istore_n 3, 1) := by decide +kernel
theorem dX7_noteComes_27 : decode cX7_noteComes 27 = .ok (.iload_n 3, 1) := by decide +kernel
theorem dX7_noteComes_28 : decode cX7_noteComes 28 = .ok (.ifCond .eq 8, 3) := by decide +kernel
theorem dX7_noteComes_31 : decode cX7_noteComes 31 = .ok (.aload_n 0, 1) := by decide +kernel
theorem dX7_noteComes_32 : decode cX7_noteComes 32 = .ok (.iload_n 1, 1) := by decide +kernel
theorem dX7_noteComes_33 : decode cX7_noteComes 33 = .ok (.putfield 21, 3) := by decide +kernel
theorem dX7_noteComes_36 : decode cX7_noteComes 36 = .ok (.iload_n 2, 1) := by decide +kernel
theorem dX7_noteComes_37 : decode cX7_noteComes 37 = .ok (.ifCond .ge 28, 3) := by decide +kernel
theorem dX7_noteComes_40 : decode cX7_noteComes 40 = .ok (.aload_n 0, 1) := by decide +kernel
theorem dX7_noteComes_41 : decode cX7_noteComes 41 = .ok (.getfield 27, 3) := by decide +kernel
theorem dX7_noteComes_44 : decode cX7_noteComes 44 = .ok (.iconst (-1), 1) := by decide +kernel
theorem dX7_noteComes_45 : decode cX7_noteComes 45 = .ok (.if_icmp .eq 12, 3) := by decide +kernel
theorem dX7_noteComes_48 : decode cX7_noteComes 48 = .ok (.aload_n 0, 1) := by decide +kernel
theorem dX7_noteComes_49 : decode cX7_noteComes 49 = .ok (.getfield 27, 3) := by decide +kernel
theorem dX7_noteComes_52 : decode cX7_noteComes 52 = .ok (.iload_n 2, 1) := by decide +kernel
theorem dX7_noteComes_53 : decode cX7_noteComes 53 = .ok (.ineg, 1) := by decide +kernel
theorem dX7_noteComes_54 : decode cX7_noteComes 54 = .ok (.if_icmp .le 9, 3) := by decide +kernel
theorem dX7_noteComes_57 : decode cX7_noteComes 57 = .ok (.aload_n 0, 1) := by decide +kernel
theorem dX7_noteComes_58 : decode cX7_noteComes 58 = .ok (.iload_n 2, 1) := by decide +kernel
theorem dX7_noteComes_59 : decode cX7_noteComes 59 = .ok (.ineg, 1) := by decide +kernel
theorem dX7_noteComes_60 : decode cX7_noteComes 60 = .ok (.putfield 27, 3) := by decide +kernel
theorem dX7_noteComes_63 : decode cX7_noteComes 63 = .ok (.iconst 0, 1) := by decide +kernel
theorem dX7_noteComes_64 : decode cX7_noteComes 64 = .ok (.ireturn, 1) := by decide +kernel
theorem dX7_noteComes_65 : decode cX7_noteComes 65 = .ok (.iload_n 3, 1) := by decide +kernel
theorem dX7_noteComes_66 : decode cX7_noteComes 66 = .ok (.ifCond .eq 9, 3) := by decide +kernel
theorem dX7_noteComes_69 : decode cX7_noteComes 69 = .ok (.iload_n 2, 1) := by decide +kernel
theorem dX7_noteComes_70 : decode cX7_noteComes 70 = .ok (.bipush 40, 2) := by decide +kernel
theorem dX7_noteComes_72 : decode cX7_noteComes 72 = .ok (.if_icmp .lt 5, 3) := by decide +kernel
theorem dX7_noteComes_75 : decode cX7_noteComes 75 = .ok (.iconst 0, 1) := by decide +kernel
theorem dX7_noteComes_76 : decode cX7_noteComes 76 = .ok (.ireturn, 1) := by decide +kernel
theorem dX7_noteComes_77 : decode cX7_noteComes 77 = .ok (.aload_n 0, 1) := by decide +kernel
theorem dX7_noteComes_78 : decode cX7_noteComes 78 = .ok (.getfield 44, 3) := by decide +kernel
theorem dX7_noteComes_81 : decode cX7_noteComes 81 = .ok (.iload_n 2, 1) := by decide +kernel
theorem dX7_noteComes_82 : decode cX7_noteComes 82 = .ok (.aaload, 1) := by decide +kernel
theorem dX7_noteComes_83 : decode cX7_noteComes 83 = .ok (.astore 4, 2) := by decide +kernel
theorem dX7_noteComes_85 : decode cX7_noteComes 85 = .ok (.aload 4, 2) := by decide +kernel
theorem dX7_noteComes_87 : decode cX7_noteComes 87 = .ok (.getfield 210, 3) := by decide +kernel
theorem dX7_noteComes_90 : decode cX7_noteComes 90 = .ok (.iconst 3, 1) := by decide +kernel
theorem dX7_noteComes_91 : decode cX7_noteComes 91 = .ok (.if_icmp .ge 15, 3) := by decide +kernel
theorem dX7_noteComes_94 : decode cX7_noteComes 94 = .ok (.aload 4, 2) := by decide +kernel
theorem dX7_noteComes_96 : decode cX7_noteComes 96 = .ok (.getfield 216, 3) := by decide +kernel
theorem dX7_noteComes_99 : decode cX7_noteComes 99 = .ok (.ifCond .ne 7, 3) := by decide +kernel
theorem dX7_noteComes_102 : decode cX7_noteComes 102 = .ok (.iconst 1, 1) := by decide +kernel
theorem dX7_noteComes_103 : decode cX7_noteComes 103 = .ok (.goto 4, 3) := by decide +kernel
theorem dX7_noteComes_106 : decode cX7_noteComes 106 = .ok (.iconst 0, 1) := by decide +kernel
theorem dX7_noteComes_107 : decode cX7_noteComes 107 = .ok (.ireturn, 1) := by decide +kernel
/-! X7_put -/
theorem dX7_put_0 : decode cX7_put 0 = .ok (.aload_n 0, 1) := by decide +kernel
theorem dX7_put_1 : decode cX7_put 1 = .ok (.iload_n 1, 1) := by decide +kernel
theorem dX7_put_2 : decode cX7_put 2 = .ok (.invokevirtual 112, 3) := by decide +kernel
theorem dX7_put_5 : decode cX7_put 5 = .ok (.astore 5, 2) := by decide +kernel
theorem dX7_put_7 : decode cX7_put 7 = .ok (.aload 5, 2) := by decide +kernel
theorem dX7_put_9 : decode cX7_put 9 = .ok (.ifnonnull 5, 3) := by decide +kernel
theorem dX7_put_12 : decode cX7_put 12 = .ok (.iconst 0, 1) := by decide +kernel
theorem dX7_put_13 : decode cX7_put 13 = .ok (.ireturn, 1) := by decide +kernel
theorem dX7_put_14 : decode cX7_put 14 = .ok (.iload 4, 2) := by decide +kernel
theorem dX7_put_16 : decode cX7_put 16 = .ok (.aload 5, 2) := by decide +kernel
theorem dX7_put_18 : decode cX7_put 18 = .ok (.getfield 116, 3) := by decide +kernel
theorem dX7_put_21 : decode cX7_put 21 = .ok (.if_icmp .le 96, 3) := by decide +kernel
theorem dX7_put_24 : decode cX7_put 24 = .ok (.aload_n 0, 1) := by decide +kernel
theorem dX7_put_25 : decode cX7_put 25 = .ok (.iload_n 2, 1) := by decide +kernel
theorem dX7_put_26 : decode cX7_put 26 = .ok (.invokevirtual 119, 3) := by decide +kernel
theorem dX7_put_29 : decode cX7_put 29 = .ok (.ifCond .eq 88, 3) := by decide +kernel
theorem dX7_put_32 : decode cX7_put 32 = .ok (.aload 5, 2) := by decide +kernel
theorem dX7_put_34 : decode cX7_put 34 = .ok (.dup, 1) := by decide +kernel
theorem dX7_put_35 : decode cX7_put 35 = .ok (.getfield 123, 3) := by decide +kernel
theorem dX7_put_38 : decode cX7_put 38 = .ok (.iconst 1, 1) := by decide +kernel
theorem dX7_put_39 : decode cX7_put 39 = .ok (.iadd, 1) := by decide +kernel
theorem dX7_put_40 : decode cX7_put 40 = .ok (.putfield 123, 3) := by decide +kernel
theorem dX7_put_43 : decode cX7_put 43 = .ok (.aload_n 0, 1) := by decide +kernel
theorem dX7_put_44 : decode cX7_put 44 = .ok (.getfield 71, 3) := by decide +kernel
theorem dX7_put_47 : decode cX7_put 47 = .ok (.dup, 1) := by decide +kernel
theorem dX7_put_48 : decode cX7_put 48 = .ok (.getfield 126, 3) := by decide +kernel
theorem dX7_put_51 : decode cX7_put 51 = .ok (.iconst 1, 1) := by decide +kernel
theorem dX7_put_52 : decode cX7_put 52 = .ok (.iadd, 1) := by decide +kernel
theorem dX7_put_53 : decode cX7_put 53 = .ok (.putfield 126, 3) := by decide +kernel
theorem dX7_put_56 : decode cX7_put 56 = .ok (.aload_n 0, 1) := by decide +kernel
theorem dX7_put_57 : decode cX7_put 57 = .ok (.iload_n 1, 1) := by decide +kernel
theorem dX7_put_58 : decode cX7_put 58 = .ok (.invokevirtual 127, 3) := by decide +kernel
theorem dX7_put_61 : decode cX7_put 61 = .ok (.istore 6, 2) := by decide +kernel
theorem dX7_put_63 : decode cX7_put 63 = .ok (.iload_n 2, 1) := by decide +kernel
theorem dX7_put_64 : decode cX7_put 64 = .ok (.iconst (-1), 1) := by decide +kernel
theorem dX7_put_65 : decode cX7_put 65 = .ok (.if_icmp .ne 9, 3) := by decide +kernel
theorem dX7_put_68 : decode cX7_put 68 = .ok (.iload 4, 2) := by decide +kernel
theorem dX7_put_70 : decode cX7_put 70 = .ok (.ineg, 1) := by decide +kernel
theorem dX7_put_71 : decode cX7_put 71 = .ok (.goto 4, 3) := by decide +kernel
theorem dX7_put_74 : decode cX7_put 74 = .ok (.iload_n 2, 1) := by decide +kernel
theorem dX7_put_75 : decode cX7_put 75 = .ok (.istore 7, 2) := by decide +kernel
theorem dX7_put_77 : decode cX7_put 77 = .ok (.iload 6, 2) := by decide +kernel
theorem dX7_put_79 : decode cX7_put 79 = .ok (.ifCond .ne 15, 3) := by decide +kernel
theorem dX7_put_82 : decode cX7_put 82 = .ok (.aload_n 0, 1) := by decide +kernel
theorem dX7_put_83 : decode cX7_put 83 = .ok (.aload 5, 2) := by decide +kernel
theorem dX7_put_85 : decode cX7_put 85 = .ok (.getfield 116, 3) := by decide +kernel
theorem dX7_put_88 : decode cX7_put 88 = .ok (.iload 7, 2) := by decide +kernel
theorem dX7_put_90 : decode cX7_put 90 = .ok (.invokevirtual 131, 3) := by decide +kernel
theorem dX7_put_93 : decode cX7_put 93 = .ok (.ireturn, 1) := by decide +kernel
theorem dX7_put_94 : decode cX7_put 94 = .ok (.aload_n 0, 1) := by decide +kernel
theorem dX7_put_95 : decode cX7_put 95 = .ok (.getfield 64, 3) := by decide +kernel
theorem dX7_put_98 : decode cX7_put 98 = .ok (.aload_n 0, 1) := by decide +kernel
theorem dX7_put_99 : decode cX7_put 99 = .ok (.getfield 9, 3) := by decide +kernel
theorem dX7_put_102 : decode cX7_put 102 = .ok (.iload 6, 2) := by decide +kernel
theorem dX7_put_104 : decode cX7_put 104 = .ok (.iadd, 1) := by decide +kernel
theorem dX7_put_105 : decode cX7_put 105 = .ok (.aload 5, 2) := by decide +kernel
theorem dX7_put_107 : decode cX7_put 107 = .ok (.getfield 116, 3) := by decide +kernel
theorem dX7_put_110 : decode cX7_put 110 = .ok (.iload 7, 2) := by decide +kernel
theorem dX7_put_112 : decode cX7_put 112 = .ok (.invokevirtual 135, 3) := by decide +kernel
theorem dX7_put_115 : decode cX7_put 115 = .ok (.iconst 0, 1) := by decide +kernel
theorem dX7_put_116 : decode cX7_put 116 = .ok (.ireturn, 1) := by decide +kernel
theorem dX7_put_117 : decode cX7_put 117 = .ok (.iload 4, 2) := by decide +kernel
theorem dX7_put_119 : decode cX7_put 119 = .ok (.bipush 20, 2) := by decide +kernel
theorem dX7_put_121 : decode cX7_put 121 = .ok (.isub, 1) := by decide +kernel
theorem dX7_put_122 : decode cX7_put 122 = .ok (.aload 5, 2) := by decide +kernel
theorem dX7_put_124 : decode cX7_put 124 = .ok (.getfield 116, 3) := by decide +kernel
theorem dX7_put_127 : decode cX7_put 127 = .ok (.invokestatic 138, 3) := by decide +kernel
theorem dX7_put_130 : decode cX7_put 130 = .ok (.istore 6, 2) := by decide +kernel
theorem dX7_put_132 : decode cX7_put 132 = .ok (.aload 5, 2) := by decide +kernel
theorem dX7_put_134 : decode cX7_put 134 = .ok (.getfield 116, 3) := by decide +kernel
theorem dX7_put_137 : decode cX7_put 137 = .ok (.invokestatic 142, 3) := by decide +kernel
theorem dX7_put_140 : decode cX7_put 140 = .ok (.istore 7, 2) := by decide +kernel
theorem dX7_put_142 : decode cX7_put 142 = .ok (.iload 6, 2) := by decide +kernel
theorem dX7_put_144 : decode cX7_put 144 = .ok (.ifCond .le 27, 3) := by decide +kernel
theorem dX7_put_147 : decode cX7_put 147 = .ok (.aload 5, 2) := by decide +kernel
theorem dX7_put_149 : decode cX7_put 149 = .ok (.dup, 1) := by decide +kernel
theorem dX7_put_150 : decode cX7_put 150 = .ok (.getfield 145, 3) := by decide +kernel
theorem dX7_put_153 : decode cX7_put 153 = .ok (.iconst 1, 1) := by decide +kernel
theorem dX7_put_154 : decode cX7_put 154 = .ok (.iadd, 1) := by decide +kernel
theorem dX7_put_155 : decode cX7_put 155 = .ok (.putfield 145, 3) := by decide +kernel
theorem dX7_put_158 : decode cX7_put 158 = .ok (.aload_n 0, 1) := by decide +kernel
theorem dX7_put_159 : decode cX7_put 159 = .ok (.getfield 71, 3) := by decide +kernel
theorem dX7_put_162 : decode cX7_put 162 = .ok (.dup, 1) := by decide +kernel
theorem dX7_put_163 : decode cX7_put 163 = .ok (.getfield 148, 3) := by decide +kernel
theorem dX7_put_166 : decode cX7_put 166 = .ok (.iconst 1, 1) := by decide +kernel
theorem dX7_put_167 : decode cX7_put 167 = .ok (.iadd, 1) := by decide +kernel
theorem dX7_put_168 : decode cX7_put 168 = .ok (.putfield 148, 3) := by decide +kernel
theorem dX7_put_171 : decode cX7_put 171 = .ok (.iconst 0, 1) := by decide +kernel
theorem dX7_put_172 : decode cX7_put 172 = .ok (.istore 8, 2) := by decide +kernel
theorem dX7_put_174 : decode cX7_put 174 = .ok (.iload 8, 2) := by decide +kernel
theorem dX7_put_176 : decode cX7_put 176 = .ok (.iload 6, 2) := by decide +kernel
theorem dX7_put_178 : decode cX7_put 178 = .ok (.if_icmp .ge 27, 3) := by decide +kernel
theorem dX7_put_181 : decode cX7_put 181 = .ok (.aload_n 0, 1) := by decide +kernel
theorem dX7_put_182 : decode cX7_put 182 = .ok (.iload_n 1, 1) := by decide +kernel
theorem dX7_put_183 : decode cX7_put 183 = .ok (.iload_n 2, 1) := by decide +kernel
theorem dX7_put_184 : decode cX7_put 184 = .ok (.iload_n 3, 1) := by decide +kernel
theorem dX7_put_185 : decode cX7_put 185 = .ok (.iload 8, 2) := by decide +kernel
theorem dX7_put_187 : decode cX7_put 187 = .ok (.iload 7, 2) := by decide +kernel
theorem dX7_put_189 : decode cX7_put 189 = .ok (.imul, 1) := by decide +kernel
theorem dX7_put_190 : decode cX7_put 190 = .ok (.iadd, 1) := by decide +kernel
theorem dX7_put_191 : decode cX7_put 191 = .ok (.iload 7, 2) := by decide +kernel
theorem dX7_put_193 : decode cX7_put 193 = .ok (.bipush 20, 2) := by decide +kernel
theorem dX7_put_195 : decode cX7_put 195 = .ok (.iadd, 1) := by decide +kernel
theorem dX7_put_196 : decode cX7_put 196 = .ok (.invokevirtual 149, 3) := by decide +kernel
theorem dX7_put_199 : decode cX7_put 199 = .ok (.iinc 8 1, 3) := by decide +kernel
theorem dX7_put_202 : decode cX7_put 202 = .ok (.goto (-28), 3) := by decide +kernel
theorem dX7_put_205 : decode cX7_put 205 = .ok (.aload_n 0, 1) := by decide +kernel
theorem dX7_put_206 : decode cX7_put 206 = .ok (.iload_n 1, 1) := by decide +kernel
theorem dX7_put_207 : decode cX7_put 207 = .ok (.iload_n 2, 1) := by decide +kernel
theorem dX7_put_208 : decode cX7_put 208 = .ok (.iload 6, 2) := by decide +kernel
theorem dX7_put_210 : decode cX7_put 210 = .ok (.ifCond .le 13, 3) := by decide +kernel
theorem dX7_put_213 : decode cX7_put 213 = .ok (.iload_n 3, 1) := by decide +kernel
theorem dX7_put_214 : decode cX7_put 214 = .ok (.iload 6, 2) := by decide +kernel
theorem dX7_put_216 : decode cX7_put 216 = .ok (.iload 7, 2) := by decide +kernel
theorem dX7_put_218 : decode cX7_put 218 = .ok (.imul, 1) := by decide +kernel
theorem dX7_put_219 : decode cX7_put 219 = .ok (.iadd, 1) := by decide +kernel
theorem dX7_put_220 : decode cX7_put 220 = .ok (.goto 4, 3) := by decide +kernel
theorem dX7_put_223 : decode cX7_put 223 = .ok (.iload_n 3, 1) := by decide +kernel
theorem dX7_put_224 : decode cX7_put 224 = .ok (.iload 4, 2) := by decide +kernel
theorem dX7_put_226 : decode cX7_put 226 = .ok (.iload 6, 2) := by decide +kernel
theorem dX7_put_228 : decode cX7_put 228 = .ok (.iload 7, 2) := by decide +kernel
theorem dX7_put_230 : decode cX7_put 230 = .ok (.imul, 1) := by decide +kernel
theorem dX7_put_231 : decode cX7_put 231 = .ok (.isub, 1) := by decide +kernel
theorem dX7_put_232 : decode cX7_put 232 = .ok (.invokevirtual 149, 3) := by decide +kernel
theorem dX7_put_235 : decode cX7_put 235 = .ok (.iconst 0, 1) := by decide +kernel
theorem dX7_put_236 : decode cX7_put 236 = .ok (.ireturn, 1) := by decide +kernel
/-! X7_receive -/
theorem dX7_receive_0 : decode cX7_receive 0 = .ok (.aload_n 0, 1) := by decide +kernel
theorem dX7_receive_1 : decode cX7_receive 1 = .ok (.getfield 71, 3) := by decide +kernel
theorem dX7_receive_4 : decode cX7_receive 4 = .ok (.dup, 1) := by decide +kernel
theorem dX7_receive_5 : decode cX7_receive 5 = .ok (.getfield 234, 3) := by decide +kernel
theorem dX7_receive_8 : decode cX7_receive 8 = .ok (.iconst 1, 1) := by decide +kernel
theorem dX7_receive_9 : decode cX7_receive 9 = .ok (.iadd, 1) := by decide +kernel
theorem dX7_receive_10 : decode cX7_receive 10 = .ok (.putfield 234, 3) := by decide +kernel
theorem dX7_receive_13 : decode cX7_receive 13 = .ok (.aload_n 0, 1) := by decide +kernel
theorem dX7_receive_14 : decode cX7_receive 14 = .ok (.iload_n 1, 1) := by decide +kernel
theorem dX7_receive_15 : decode cX7_receive 15 = .ok (.invokevirtual 188, 3) := by decide +kernel
theorem dX7_receive_18 : decode cX7_receive 18 = .ok (.astore 6, 2) := by decide +kernel
theorem dX7_receive_20 : decode cX7_receive 20 = .ok (.aload 6, 2) := by decide +kernel
theorem dX7_receive_22 : decode cX7_receive 22 = .ok (.ifnull 11, 3) := by decide +kernel
theorem dX7_receive_25 : decode cX7_receive 25 = .ok (.aload 6, 2) := by decide +kernel
theorem dX7_receive_27 : decode cX7_receive 27 = .ok (.getfield 216, 3) := by decide +kernel
theorem dX7_receive_30 : decode cX7_receive 30 = .ok (.ifCond .eq 17, 3) := by decide +kernel
theorem dX7_receive_33 : decode cX7_receive 33 = .ok (.aload_n 0, 1) := by decide +kernel
theorem dX7_receive_34 : decode cX7_receive 34 = .ok (.getfield 71, 3) := by decide +kernel
theorem dX7_receive_37 : decode cX7_receive 37 = .ok (.dup, 1) := by decide +kernel
theorem dX7_receive_38 : decode cX7_receive 38 = .ok (.getfield 237, 3) := by decide +kernel
theorem dX7_receive_41 : decode cX7_receive 41 = .ok (.iconst 1, 1) := by decide +kernel
theorem dX7_receive_42 : decode cX7_receive 42 = .ok (.iadd, 1) := by decide +kernel
theorem dX7_receive_43 : decode cX7_receive 43 = .ok (.putfield 237, 3) := by decide +kernel
theorem dX7_receive_46 : decode cX7_receive 46 = .ok (.return_, 1) := by decide +kernel
theorem dX7_receive_47 : decode cX7_receive 47 = .ok (.aload_n 0, 1) := by decide +kernel
theorem dX7_receive_48 : decode cX7_receive 48 = .ok (.iload_n 1, 1) := by decide +kernel
theorem dX7_receive_49 : decode cX7_receive 49 = .ok (.invokevirtual 240, 3) := by decide +kernel
theorem dX7_receive_52 : decode cX7_receive 52 = .ok (.astore 7, 2) := by decide +kernel
theorem dX7_receive_54 : decode cX7_receive 54 = .ok (.aload 7, 2) := by decide +kernel
theorem dX7_receive_56 : decode cX7_receive 56 = .ok (.dup, 1) := by decide +kernel
theorem dX7_receive_57 : decode cX7_receive 57 = .ok (.getfield 244, 3) := by decide +kernel
theorem dX7_receive_60 : decode cX7_receive 60 = .ok (.iconst 1, 1) := by decide +kernel
theorem dX7_receive_61 : decode cX7_receive 61 = .ok (.iadd, 1) := by decide +kernel
theorem dX7_receive_62 : decode cX7_receive 62 = .ok (.putfield 244, 3) := by decide +kernel
theorem dX7_receive_65 : decode cX7_receive 65 = .ok (.iload_n 2, 1) := by decide +kernel
theorem dX7_receive_66 : decode cX7_receive 66 = .ok (.iload_n 3, 1) := by decide +kernel
theorem dX7_receive_67 : decode cX7_receive 67 = .ok (.iadd, 1) := by decide +kernel
theorem dX7_receive_68 : decode cX7_receive 68 = .ok (.istore 8, 2) := by decide +kernel
theorem dX7_receive_70 : decode cX7_receive 70 = .ok (.aload 7, 2) := by decide +kernel
theorem dX7_receive_72 : decode cX7_receive 72 = .ok (.iload 8, 2) := by decide +kernel
theorem dX7_receive_74 : decode cX7_receive 74 = .ok (.iload 5, 2) := by decide +kernel
theorem dX7_receive_76 : decode cX7_receive 76 = .ok (.invokevirtual 245, 3) := by decide +kernel
theorem dX7_receive_79 : decode cX7_receive 79 = .ok (.ifCond .eq 11, 3) := by decide +kernel
theorem dX7_receive_82 : decode cX7_receive 82 = .ok (.aload_n 0, 1) := by decide +kernel
theorem dX7_receive_83 : decode cX7_receive 83 = .ok (.aload 7, 2) := by decide +kernel
theorem dX7_receive_85 : decode cX7_receive 85 = .ok (.iconst 3, 1) := by decide +kernel
theorem dX7_receive_86 : decode cX7_receive 86 = .ok (.invokevirtual 249, 3) := by decide +kernel
theorem dX7_receive_89 : decode cX7_receive 89 = .ok (.return_, 1) := by decide +kernel
theorem dX7_receive_90 : decode cX7_receive 90 = .ok (.iload 5, 2) := by decide +kernel
theorem dX7_receive_92 : decode cX7_receive 92 = .ok (.ifCond .eq 10, 3) := by decide +kernel
theorem dX7_receive_95 : decode cX7_receive 95 = .ok (.aload 7, 2) := by decide +kernel
theorem dX7_receive_97 : decode cX7_receive 97 = .ok (.iload 8, 2) := by decide +kernel
theorem dX7_receive_99 : decode cX7_receive 99 = .ok (.putfield 253, 3) := by decide +kernel
theorem dX7_receive_102 : decode cX7_receive 102 = .ok (.aload 7, 2) := by decide +kernel
theorem dX7_receive_104 : decode cX7_receive 104 = .ok (.getfield 256, 3) := by decide +kernel
theorem dX7_receive_107 : decode cX7_receive 107 = .ok (.istore 9, 2) := by decide +kernel
theorem dX7_receive_109 : decode cX7_receive 109 = .ok (.aload 7, 2) := by decide +kernel
theorem dX7_receive_111 : decode cX7_receive 111 = .ok (.aload 6, 2) := by decide +kernel
theorem dX7_receive_113 : decode cX7_receive 113 = .ok (.iload_n 2, 1) := by decide +kernel
theorem dX7_receive_114 : decode cX7_receive 114 = .ok (.iload 8, 2) := by decide +kernel
theorem dX7_receive_116 : decode cX7_receive 116 = .ok (.iload 4, 2) := by decide +kernel
theorem dX7_receive_118 : decode cX7_receive 118 = .ok (.aload_n 0, 1) := by decide +kernel
theorem dX7_receive_119 : decode cX7_receive 119 = .ok (.getfield 18, 3) := by decide +kernel
theorem dX7_receive_122 : decode cX7_receive 122 = .ok (.iconst 1, 1) := by decide +kernel
theorem dX7_receive_123 : decode cX7_receive 123 = .ok (.if_icmp .ne 7, 3) := by decide +kernel
theorem dX7_receive_126 : decode cX7_receive 126 = .ok (.iconst 1, 1) := by decide +kernel
theorem dX7_receive_127 : decode cX7_receive 127 = .ok (.goto 4, 3) := by decide +kernel
theorem dX7_receive_130 : decode cX7_receive 130 = .ok (.iconst 0, 1) := by decide +kernel
theorem dX7_receive_131 : decode cX7_receive 131 = .ok (.invokevirtual 259, 3) := by decide +kernel
theorem dX7_receive_134 : decode cX7_receive 134 = .ok (.istore 10, 2) := by decide +kernel
theorem dX7_receive_136 : decode cX7_receive 136 = .ok (.aload_n 0, 1) := by decide +kernel
theorem dX7_receive_137 : decode cX7_receive 137 = .ok (.getfield 71, 3) := by decide +kernel
theorem dX7_receive_140 : decode cX7_receive 140 = .ok (.dup, 1) := by decide +kernel
theorem dX7_receive_141 : decode cX7_receive 141 = .ok (.getfield 263, 3) := by decide +kernel
theorem dX7_receive_144 : decode cX7_receive 144 = .ok (.aload 7, 2) := by decide +kernel
theorem dX7_receive_146 : decode cX7_receive 146 = .ok (.getfield 256, 3) := by decide +kernel
theorem dX7_receive_149 : decode cX7_receive 149 = .ok (.iload 9, 2) := by decide +kernel
theorem dX7_receive_151 : decode cX7_receive 151 = .ok (.isub, 1) := by decide +kernel
theorem dX7_receive_152 : decode cX7_receive 152 = .ok (.iadd, 1) := by decide +kernel
theorem dX7_receive_153 : decode cX7_receive 153 = .ok (.putfield 263, 3) := by decide +kernel
theorem dX7_receive_156 : decode cX7_receive 156 = .ok (.iload 10, 2) := by decide +kernel
theorem dX7_receive_158 : decode cX7_receive 158 = .ok (.ifCond .eq 21, 3) := by decide +kernel
theorem dX7_receive_161 : decode cX7_receive 161 = .ok (.aload_n 0, 1) := by decide +kernel
theorem dX7_receive_162 : decode cX7_receive 162 = .ok (.getfield 18, 3) := by decide +kernel
theorem dX7_receive_165 : decode cX7_receive 165 = .ok (.iconst 2, 1) := by decide +kernel
theorem dX7_receive_166 : decode cX7_receive 166 = .ok (.if_icmp .ne 13, 3) := by decide +kernel
theorem dX7_receive_169 : decode cX7_receive 169 = .ok (.aload_n 0, 1) := by decide +kernel
theorem dX7_receive_170 : decode cX7_receive 170 = .ok (.aload 7, 2) := by decide +kernel
theorem dX7_receive_172 : decode cX7_receive 172 = .ok (.iconst 4, 1) := by decide +kernel
theorem dX7_receive_173 : decode cX7_receive 173 = .ok (.invokevirtual 249, 3) := by decide +kernel
theorem dX7_receive_176 : decode cX7_receive 176 = .ok (.goto 19, 3) := by decide +kernel
theorem dX7_receive_179 : decode cX7_receive 179 = .ok (.aload 7, 2) := by decide +kernel
theorem dX7_receive_181 : decode cX7_receive 181 = .ok (.invokevirtual 264, 3) := by decide +kernel
theorem dX7_receive_184 : decode cX7_receive 184 = .ok (.ifCond .eq 11, 3) := by decide +kernel
theorem dX7_receive_187 : decode cX7_receive 187 = .ok (.aload_n 0, 1) := by decide +kernel
theorem dX7_receive_188 : decode cX7_receive 188 = .ok (.aload 7, 2) := by decide +kernel
theorem dX7_receive_190 : decode cX7_receive 190 = .ok (.aload 6, 2) := by decide +kernel
theorem dX7_receive_192 : decode cX7_receive 192 = .ok (.invokevirtual 267, 3) := by decide +kernel
theorem dX7_receive_195 : decode cX7_receive 195 = .ok (.return_, 1) := by decide +kernel
/-! X7_sendNew -/
theorem dX7_sendNew_0 : decode cX7_sendNew 0 = .ok (.aload_n 0, 1) := by decide +kernel
theorem dX7_sendNew_1 : decode cX7_sendNew 1 = .ok (.getfield 33, 3) := by decide +kernel
theorem dX7_sendNew_4 : decode cX7_sendNew 4 = .ok (.istore 4, 2) := by decide +kernel
theorem dX7_sendNew_6 : decode cX7_sendNew 6 = .ok (.iload 4, 2) := by decide +kernel
theorem dX7_sendNew_8 : decode cX7_sendNew 8 = .ok (.ifCond .lt 10, 3) := by decide +kernel
theorem dX7_sendNew_11 : decode cX7_sendNew 11 = .ok (.iload 4, 2) := by decide +kernel
theorem dX7_sendNew_13 : decode cX7_sendNew 13 = .ok (.bipush 40, 2) := by decide +kernel
theorem dX7_sendNew_15 : decode cX7_sendNew 15 = .ok (.if_icmp .lt 5, 3) := by decide +kernel
theorem dX7_sendNew_18 : decode cX7_sendNew 18 = .ok (.iconst (-1), 1) := by decide +kernel
theorem dX7_sendNew_19 : decode cX7_sendNew 19 = .ok (.ireturn, 1) := by decide +kernel
theorem dX7_sendNew_20 : decode cX7_sendNew 20 = .ok (.aload_n 0, 1) := by decide +kernel
theorem dX7_sendNew_21 : decode cX7_sendNew 21 = .ok (.getfield 44, 3) := by decide +kernel
theorem dX7_sendNew_24 : decode cX7_sendNew 24 = .ok (.iload 4, 2) := by decide +kernel
theorem dX7_sendNew_26 : decode cX7_sendNew 26 = .ok (.aaload, 1) := by decide +kernel
theorem dX7_sendNew_27 : decode cX7_sendNew 27 = .ok (.iload_n 1, 1) := by decide +kernel
theorem dX7_sendNew_28 : decode cX7_sendNew 28 = .ok (.iload_n 2, 1) := by decide +kernel
theorem dX7_sendNew_29 : decode cX7_sendNew 29 = .ok (.iload_n 3, 1) := by decide +kernel
theorem dX7_sendNew_30 : decode cX7_sendNew 30 = .ok (.aload_n 0, 1) := by decide +kernel
theorem dX7_sendNew_31 : decode cX7_sendNew 31 = .ok (.getfield 9, 3) := by decide +kernel
theorem dX7_sendNew_34 : decode cX7_sendNew 34 = .ok (.invokevirtual 200, 3) := by decide +kernel
theorem dX7_sendNew_37 : decode cX7_sendNew 37 = .ok (.aload_n 0, 1) := by decide +kernel
theorem dX7_sendNew_38 : decode cX7_sendNew 38 = .ok (.dup, 1) := by decide +kernel
theorem dX7_sendNew_39 : decode cX7_sendNew 39 = .ok (.getfield 33, 3) := by decide +kernel
theorem dX7_sendNew_42 : decode cX7_sendNew 42 = .ok (.iconst 1, 1) := by decide +kernel
theorem dX7_sendNew_43 : decode cX7_sendNew 43 = .ok (.iadd, 1) := by decide +kernel
theorem dX7_sendNew_44 : decode cX7_sendNew 44 = .ok (.putfield 33, 3) := by decide +kernel
theorem dX7_sendNew_47 : decode cX7_sendNew 47 = .ok (.aload_n 0, 1) := by decide +kernel
theorem dX7_sendNew_48 : decode cX7_sendNew 48 = .ok (.iload 4, 2) := by decide +kernel
theorem dX7_sendNew_50 : decode cX7_sendNew 50 = .ok (.iconst 0, 1) := by decide +kernel
theorem dX7_sendNew_51 : decode cX7_sendNew 51 = .ok (.invokevirtual 203, 3) := by decide +kernel
theorem dX7_sendNew_54 : decode cX7_sendNew 54 = .ok (.iload 4, 2) := by decide +kernel
theorem dX7_sendNew_56 : decode cX7_sendNew 56 = .ok (.ireturn, 1) := by decide +kernel
/-! X7_sendProbe -/
theorem dX7_sendProbe_0 : decode cX7_sendProbe 0 = .ok (.aload_n 0, 1) := by decide +kernel
theorem dX7_sendProbe_1 : decode cX7_sendProbe 1 = .ok (.iconst 0, 1) := by decide +kernel
theorem dX7_sendProbe_2 : decode cX7_sendProbe 2 = .ok (.iconst (-1), 1) := by decide +kernel
theorem dX7_sendProbe_3 : decode cX7_sendProbe 3 = .ok (.iconst (-1), 1) := by decide +kernel
theorem dX7_sendProbe_4 : decode cX7_sendProbe 4 = .ok (.iload_n 1, 1) := by decide +kernel
theorem dX7_sendProbe_5 : decode cX7_sendProbe 5 = .ok (.invokevirtual 207, 3) := by decide +kernel
theorem dX7_sendProbe_8 : decode cX7_sendProbe 8 = .ok (.pop, 1) := by decide +kernel
theorem dX7_sendProbe_9 : decode cX7_sendProbe 9 = .ok (.return_, 1) := by decide +kernel
/-! X7_tick -/
theorem dX7_tick_0 : decode cX7_tick 0 = .ok (.aload_n 0, 1) := by decide +kernel
theorem dX7_tick_1 : decode cX7_tick 1 = .ok (.dup, 1) := by decide +kernel
theorem dX7_tick_2 : decode cX7_tick 2 = .ok (.getfield 9, 3) := by decide +kernel
theorem dX7_tick_5 : decode cX7_tick 5 = .ok (.iconst 1, 1) := by decide +kernel
theorem dX7_tick_6 : decode cX7_tick 6 = .ok (.iadd, 1) := by decide +kernel
theorem dX7_tick_7 : decode cX7_tick 7 = .ok (.putfield 9, 3) := by decide +kernel
theorem dX7_tick_10 : decode cX7_tick 10 = .ok (.iconst 0, 1) := by decide +kernel
theorem dX7_tick_11 : decode cX7_tick 11 = .ok (.istore_n 1, 1) := by decide +kernel
theorem dX7_tick_12 : decode cX7_tick 12 = .ok (.iload_n 1, 1) := by decide +kernel
theorem dX7_tick_13 : decode cX7_tick 13 = .ok (.aload_n 0, 1) := by decide +kernel
theorem dX7_tick_14 : decode cX7_tick 14 = .ok (.getfield 30, 3) := by decide +kernel
theorem dX7_tick_17 : decode cX7_tick 17 = .ok (.if_icmp .ge 14, 3) := by decide +kernel
theorem dX7_tick_20 : decode cX7_tick 20 = .ok (.aload_n 0, 1) := by decide +kernel
theorem dX7_tick_21 : decode cX7_tick 21 = .ok (.iload_n 1, 1) := by decide +kernel
theorem dX7_tick_22 : decode cX7_tick 22 = .ok (.invokevirtual 293, 3) := by decide +kernel
theorem dX7_tick_25 : decode cX7_tick 25 = .ok (.iinc 1 1, 3) := by decide +kernel
theorem dX7_tick_28 : decode cX7_tick 28 = .ok (.goto (-16), 3) := by decide +kernel
theorem dX7_tick_31 : decode cX7_tick 31 = .ok (.aload_n 0, 1) := by decide +kernel
theorem dX7_tick_32 : decode cX7_tick 32 = .ok (.getfield 64, 3) := by decide +kernel
theorem dX7_tick_35 : decode cX7_tick 35 = .ok (.getfield 297, 3) := by decide +kernel
theorem dX7_tick_38 : decode cX7_tick 38 = .ok (.aload_n 0, 1) := by decide +kernel
theorem dX7_tick_39 : decode cX7_tick 39 = .ok (.getfield 9, 3) := by decide +kernel
theorem dX7_tick_42 : decode cX7_tick 42 = .ok (.if_icmp .gt 7, 3) := by decide +kernel
theorem dX7_tick_45 : decode cX7_tick 45 = .ok (.aload_n 0, 1) := by decide +kernel
theorem dX7_tick_46 : decode cX7_tick 46 = .ok (.invokevirtual 300, 3) := by decide +kernel
theorem dX7_tick_49 : decode cX7_tick 49 = .ok (.iconst 0, 1) := by decide +kernel
theorem dX7_tick_50 : decode cX7_tick 50 = .ok (.istore_n 1, 1) := by decide +kernel
theorem dX7_tick_51 : decode cX7_tick 51 = .ok (.iload_n 1, 1) := by decide +kernel
theorem dX7_tick_52 : decode cX7_tick 52 = .ok (.iconst 4, 1) := by decide +kernel
theorem dX7_tick_53 : decode cX7_tick 53 = .ok (.if_icmp .ge 54, 3) := by decide +kernel
theorem dX7_tick_56 : decode cX7_tick 56 = .ok (.aload_n 0, 1) := by decide +kernel
theorem dX7_tick_57 : decode cX7_tick 57 = .ok (.getfield 50, 3) := by decide +kernel
theorem dX7_tick_60 : decode cX7_tick 60 = .ok (.iload_n 1, 1) := by decide +kernel
theorem dX7_tick_61 : decode cX7_tick 61 = .ok (.aaload, 1) := by decide +kernel
theorem dX7_tick_62 : decode cX7_tick 62 = .ok (.getfield 78, 3) := by decide +kernel
theorem dX7_tick_65 : decode cX7_tick 65 = .ok (.iconst (-1), 1) := by decide +kernel
theorem dX7_tick_66 : decode cX7_tick 66 = .ok (.if_icmp .eq 35, 3) := by decide +kernel
theorem dX7_tick_69 : decode cX7_tick 69 = .ok (.aload_n 0, 1) := by decide +kernel
theorem dX7_tick_70 : decode cX7_tick 70 = .ok (.getfield 9, 3) := by decide +kernel
theorem dX7_tick_73 : decode cX7_tick 73 = .ok (.aload_n 0, 1) := by decide +kernel
theorem dX7_tick_74 : decode cX7_tick 74 = .ok (.getfield 50, 3) := by decide +kernel
theorem dX7_tick_77 : decode cX7_tick 77 = .ok (.iload_n 1, 1) := by decide +kernel
theorem dX7_tick_78 : decode cX7_tick 78 = .ok (.aaload, 1) := by decide +kernel
theorem dX7_tick_79 : decode cX7_tick 79 = .ok (.getfield 280, 3) := by decide +kernel
theorem dX7_tick_82 : decode cX7_tick 82 = .ok (.isub, 1) := by decide +kernel
theorem dX7_tick_83 : decode cX7_tick 83 = .ok (.aload_n 0, 1) := by decide +kernel
theorem dX7_tick_84 : decode cX7_tick 84 = .ok (.getfield 15, 3) := by decide +kernel
theorem dX7_tick_87 : decode cX7_tick 87 = .ok (.if_icmp .lt 14, 3) := by decide +kernel
theorem dX7_tick_90 : decode cX7_tick 90 = .ok (.aload_n 0, 1) := by decide +kernel
theorem dX7_tick_91 : decode cX7_tick 91 = .ok (.aload_n 0, 1) := by decide +kernel
theorem dX7_tick_92 : decode cX7_tick 92 = .ok (.getfield 50, 3) := by decide +kernel
theorem dX7_tick_95 : decode cX7_tick 95 = .ok (.iload_n 1, 1) := by decide +kernel
theorem dX7_tick_96 : decode cX7_tick 96 = .ok (.aaload, 1) := by decide +kernel
theorem dX7_tick_97 : decode cX7_tick 97 = .ok (.iconst 1, 1) := by decide +kernel
theorem dX7_tick_98 : decode cX7_tick 98 = .ok (.invokevirtual 249, 3) := by decide +kernel
theorem dX7_tick_101 : decode cX7_tick 101 = .ok (.iinc 1 1, 3) := by decide +kernel
theorem dX7_tick_104 : decode cX7_tick 104 = .ok (.goto (-53), 3) := by decide +kernel
theorem dX7_tick_107 : decode cX7_tick 107 = .ok (.return_, 1) := by decide +kernel
/-! X7_transmit -/
theorem dX7_transmit_0 : decode cX7_transmit 0 = .ok (.aload_n 0, 1) := by decide +kernel
theorem dX7_transmit_1 : decode cX7_transmit 1 = .ok (.iload_n 1, 1) := by decide +kernel
theorem dX7_transmit_2 : decode cX7_transmit 2 = .ok (.invokevirtual 188, 3) := by decide +kernel
theorem dX7_transmit_5 : decode cX7_transmit 5 = .ok (.astore_n 3, 1) := by decide +kernel
theorem dX7_transmit_6 : decode cX7_transmit 6 = .ok (.aload_n 3, 1) := by decide +kernel
theorem dX7_transmit_7 : decode cX7_transmit 7 = .ok (.ifnull 8, 3) := by decide +kernel
theorem dX7_transmit_10 : decode cX7_transmit 10 = .ok (.iload_n 2, 1) := by decide +kernel
theorem dX7_transmit_11 : decode cX7_transmit 11 = .ok (.iconst 4, 1) := by decide +kernel
theorem dX7_transmit_12 : decode cX7_transmit 12 = .ok (.if_icmp .le 4, 3) := by decide +kernel
theorem dX7_transmit_15 : decode cX7_transmit 15 = .ok (.return_, 1) := by decide +kernel
theorem dX7_transmit_16 : decode cX7_transmit 16 = .ok (.aload_n 3, 1) := by decide +kernel
theorem dX7_transmit_17 : decode cX7_transmit 17 = .ok (.dup, 1) := by decide +kernel
theorem dX7_transmit_18 : decode cX7_transmit 18 = .ok (.getfield 210, 3) := by decide +kernel
theorem dX7_transmit_21 : decode cX7_transmit 21 = .ok (.iconst 1, 1) := by decide +kernel
theorem dX7_transmit_22 : decode cX7_transmit 22 = .ok (.iadd, 1) := by decide +kernel
theorem dX7_transmit_23 : decode cX7_transmit 23 = .ok (.putfield 210, 3) := by decide +kernel
theorem dX7_transmit_26 : decode cX7_transmit 26 = .ok (.aload_n 0, 1) := by decide +kernel
theorem dX7_transmit_27 : decode cX7_transmit 27 = .ok (.getfield 21, 3) := by decide +kernel
theorem dX7_transmit_30 : decode cX7_transmit 30 = .ok (.invokestatic 142, 3) := by decide +kernel
theorem dX7_transmit_33 : decode cX7_transmit 33 = .ok (.istore 4, 2) := by decide +kernel
theorem dX7_transmit_35 : decode cX7_transmit 35 = .ok (.aload_n 3, 1) := by decide +kernel
theorem dX7_transmit_36 : decode cX7_transmit 36 = .ok (.getfield 178, 3) := by decide +kernel
theorem dX7_transmit_39 : decode cX7_transmit 39 = .ok (.ifCond .eq 17, 3) := by decide +kernel
theorem dX7_transmit_42 : decode cX7_transmit 42 = .ok (.aload_n 3, 1) := by decide +kernel
theorem dX7_transmit_43 : decode cX7_transmit 43 = .ok (.getfield 197, 3) := by decide +kernel
theorem dX7_transmit_46 : decode cX7_transmit 46 = .ok (.aload_n 0, 1) := by decide +kernel
theorem dX7_transmit_47 : decode cX7_transmit 47 = .ok (.getfield 21, 3) := by decide +kernel
theorem dX7_transmit_50 : decode cX7_transmit 50 = .ok (.invokestatic 138, 3) := by decide +kernel
theorem dX7_transmit_53 : decode cX7_transmit 53 = .ok (.goto 4, 3) := by decide +kernel
theorem dX7_transmit_56 : decode cX7_transmit 56 = .ok (.iconst 0, 1) := by decide +kernel
theorem dX7_transmit_57 : decode cX7_transmit 57 = .ok (.istore 5, 2) := by decide +kernel
theorem dX7_transmit_59 : decode cX7_transmit 59 = .ok (.iconst 0, 1) := by decide +kernel
theorem dX7_transmit_60 : decode cX7_transmit 60 = .ok (.istore 6, 2) := by decide +kernel
theorem dX7_transmit_62 : decode cX7_transmit 62 = .ok (.iload 6, 2) := by decide +kernel
theorem dX7_transmit_64 : decode cX7_transmit 64 = .ok (.iload 5, 2) := by decide +kernel
theorem dX7_transmit_66 : decode cX7_transmit 66 = .ok (.if_icmp .gt 60, 3) := by decide +kernel
theorem dX7_transmit_69 : decode cX7_transmit 69 = .ok (.iload 6, 2) := by decide +kernel
theorem dX7_transmit_71 : decode cX7_transmit 71 = .ok (.iload 5, 2) := by decide +kernel
theorem dX7_transmit_73 : decode cX7_transmit 73 = .ok (.if_icmp .ge 8, 3) := by decide +kernel
theorem dX7_transmit_76 : decode cX7_transmit 76 = .ok (.iload 4, 2) := by decide +kernel
theorem dX7_transmit_78 : decode cX7_transmit 78 = .ok (.goto 13, 3) := by decide +kernel
theorem dX7_transmit_81 : decode cX7_transmit 81 = .ok (.aload_n 3, 1) := by decide +kernel
theorem dX7_transmit_82 : decode cX7_transmit 82 = .ok (.getfield 197, 3) := by decide +kernel
theorem dX7_transmit_85 : decode cX7_transmit 85 = .ok (.iload 5, 2) := by decide +kernel
theorem dX7_transmit_87 : decode cX7_transmit 87 = .ok (.iload 4, 2) := by decide +kernel
theorem dX7_transmit_89 : decode cX7_transmit 89 = .ok (.imul, 1) := by decide +kernel
theorem dX7_transmit_90 : decode cX7_transmit 90 = .ok (.isub, 1) := by decide +kernel
theorem dX7_transmit_91 : decode cX7_transmit 91 = .ok (.istore 7, 2) := by decide +kernel
theorem dX7_transmit_93 : decode cX7_transmit 93 = .ok (.aload_n 0, 1) := by decide +kernel
theorem dX7_transmit_94 : decode cX7_transmit 94 = .ok (.iconst 0, 1) := by decide +kernel
theorem dX7_transmit_95 : decode cX7_transmit 95 = .ok (.iload_n 1, 1) := by decide +kernel
theorem dX7_transmit_96 : decode cX7_transmit 96 = .ok (.iload 6, 2) := by decide +kernel
theorem dX7_transmit_98 : decode cX7_transmit 98 = .ok (.iload 4, 2) := by decide +kernel
theorem dX7_transmit_100 : decode cX7_transmit 100 = .ok (.imul, 1) := by decide +kernel
theorem dX7_transmit_101 : decode cX7_transmit 101 = .ok (.iload 7, 2) := by decide +kernel
theorem dX7_transmit_103 : decode cX7_transmit 103 = .ok (.bipush 20, 2) := by decide +kernel
theorem dX7_transmit_105 : decode cX7_transmit 105 = .ok (.iadd, 1) := by decide +kernel
theorem dX7_transmit_106 : decode cX7_transmit 106 = .ok (.invokevirtual 207, 3) := by decide +kernel
theorem dX7_transmit_109 : decode cX7_transmit 109 = .ok (.ifCond .eq 11, 3) := by decide +kernel
theorem dX7_transmit_112 : decode cX7_transmit 112 = .ok (.aload_n 0, 1) := by decide +kernel
theorem dX7_transmit_113 : decode cX7_transmit 113 = .ok (.iload_n 1, 1) := by decide +kernel
theorem dX7_transmit_114 : decode cX7_transmit 114 = .ok (.iload_n 2, 1) := by decide +kernel
theorem dX7_transmit_115 : decode cX7_transmit 115 = .ok (.iconst 1, 1) := by decide +kernel
theorem dX7_transmit_116 : decode cX7_transmit 116 = .ok (.iadd, 1) := by decide +kernel
theorem dX7_transmit_117 : decode cX7_transmit 117 = .ok (.invokevirtual 203, 3) := by decide +kernel
theorem dX7_transmit_120 : decode cX7_transmit 120 = .ok (.iinc 6 1, 3) := by decide +kernel
theorem dX7_transmit_123 : decode cX7_transmit 123 = .ok (.goto (-61), 3) := by decide +kernel
theorem dX7_transmit_126 : decode cX7_transmit 126 = .ok (.return_, 1) := by decide +kernel
/-! X7_unlearn -/
theorem dX7_unlearn_0 : decode cX7_unlearn 0 = .ok (.aload_n 0, 1) := by decide +kernel
theorem dX7_unlearn_1 : decode cX7_unlearn 1 = .ok (.iconst 0, 1) := by decide +kernel
theorem dX7_unlearn_2 : decode cX7_unlearn 2 = .ok (.invokevirtual 112, 3) := by decide +kernel
theorem dX7_unlearn_5 : decode cX7_unlearn 5 = .ok (.astore_n 1, 1) := by decide +kernel
theorem dX7_unlearn_6 : decode cX7_unlearn 6 = .ok (.aload_n 0, 1) := by decide +kernel
theorem dX7_unlearn_7 : decode cX7_unlearn 7 = .ok (.aload_n 1, 1) := by decide +kernel
theorem dX7_unlearn_8 : decode cX7_unlearn 8 = .ok (.ifnonnull 8, 3) := by decide +kernel
theorem dX7_unlearn_11 : decode cX7_unlearn 11 = .ok (.bipush 28, 2) := by decide +kernel
theorem dX7_unlearn_13 : decode cX7_unlearn 13 = .ok (.goto 7, 3) := by decide +kernel
theorem dX7_unlearn_16 : decode cX7_unlearn 16 = .ok (.aload_n 1, 1) := by decide +kernel
theorem dX7_unlearn_17 : decode cX7_unlearn 17 = .ok (.getfield 116, 3) := by decide +kernel
theorem dX7_unlearn_20 : decode cX7_unlearn 20 = .ok (.putfield 21, 3) := by decide +kernel
theorem dX7_unlearn_23 : decode cX7_unlearn 23 = .ok (.aload_n 0, 1) := by decide +kernel
theorem dX7_unlearn_24 : decode cX7_unlearn 24 = .ok (.bipush 27, 2) := by decide +kernel
theorem dX7_unlearn_26 : decode cX7_unlearn 26 = .ok (.putfield 24, 3) := by decide +kernel
theorem dX7_unlearn_29 : decode cX7_unlearn 29 = .ok (.aload_n 0, 1) := by decide +kernel
theorem dX7_unlearn_30 : decode cX7_unlearn 30 = .ok (.iconst (-1), 1) := by decide +kernel
theorem dX7_unlearn_31 : decode cX7_unlearn 31 = .ok (.putfield 27, 3) := by decide +kernel
theorem dX7_unlearn_34 : decode cX7_unlearn 34 = .ok (.return_, 1) := by decide +kernel
