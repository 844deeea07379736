/-! X0_clear -/
theorem dX0_clear_0 : decode cX0_clear 0 = .ok (.aload_n 0, 1) := by decide +kernel
theorem dX0_clear_1 : decode cX0_clear 1 = .ok (.iconst 0, 1) := by decide +kernel
theorem dX0_clear_2 : decode cX0_clear 2 = .ok (.putfield 7, 3) := by decide +kernel
theorem dX0_clear_5 : decode cX0_clear 5 = .ok (.aload_n 0, 1) := by decide +kernel
theorem dX0_clear_6 : decode cX0_clear 6 = .ok (.iconst 0, 1) := by decide +kernel
theorem dX0_clear_7 : decode cX0_clear 7 = .ok (.putfield 13, 3) := by decide +kernel
theorem dX0_clear_10 : decode cX0_clear 10 = .ok (.aload_n 0, 1) := by decide +kernel
theorem dX0_clear_11 : decode cX0_clear 11 = .ok (.iconst 0, 1) := by decide +kernel
theorem dX0_clear_12 : decode cX0_clear 12 = .ok (.putfield 16, 3) := by decide +kernel
theorem dX0_clear_15 : decode cX0_clear 15 = .ok (.aload_n 0, 1) := by decide +kernel
theorem dX0_clear_16 : decode cX0_clear 16 = .ok (.iconst 0, 1) := by decide +kernel
theorem dX0_clear_17 : decode cX0_clear 17 = .ok (.putfield 19, 3) := by decide +kernel
theorem dX0_clear_20 : decode cX0_clear 20 = .ok (.aload_n 0, 1) := by decide +kernel
theorem dX0_clear_21 : decode cX0_clear 21 = .ok (.iconst 0, 1) := by decide +kernel
theorem dX0_clear_22 : decode cX0_clear 22 = .ok (.putfield 22, 3) := by decide +kernel
theorem dX0_clear_25 : decode cX0_clear 25 = .ok (.aload_n 0, 1) := by decide +kernel
theorem dX0_clear_26 : decode cX0_clear 26 = .ok (.iconst 0, 1) := by decide +kernel
theorem dX0_clear_27 : decode cX0_clear 27 = .ok (.putfield 25, 3) := by decide +kernel
theorem dX0_clear_30 : decode cX0_clear 30 = .ok (.aload_n 0, 1) := by decide +kernel
theorem dX0_clear_31 : decode cX0_clear 31 = .ok (.iconst 0, 1) := by decide +kernel
theorem dX0_clear_32 : decode cX0_clear 32 = .ok (.putfield 28, 3) := by decide +kernel
theorem dX0_clear_35 : decode cX0_clear 35 = .ok (.aload_n 0, 1) := by decide +kernel
theorem dX0_clear_36 : decode cX0_clear 36 = .ok (.iconst 0, 1) := by decide +kernel
theorem dX0_clear_37 : decode cX0_clear 37 = .ok (.putfield 31, 3) := by decide +kernel
theorem dX0_clear_40 : decode cX0_clear 40 = .ok (.aload_n 0, 1) := by decide +kernel
theorem dX0_clear_41 : decode cX0_clear 41 = .ok (.iconst 0, 1) := by decide +kernel
theorem dX0_clear_42 : decode cX0_clear 42 = .ok (.putfield 34, 3) := by decide +kernel
theorem dX0_clear_45 : decode cX0_clear 45 = .ok (.aload_n 0, 1) := by decide +kernel
theorem dX0_clear_46 : decode cX0_clear 46 = .ok (.iconst 0, 1) := by decide +kernel
theorem dX0_clear_47 : decode cX0_clear 47 = .ok (.putfield 37, 3) := by decide +kernel
theorem dX0_clear_50 : decode cX0_clear 50 = .ok (.aload_n 0, 1) := by decide +kernel
theorem dX0_clear_51 : decode cX0_clear 51 = .ok (.iconst 0, 1) := by decide +kernel
theorem dX0_clear_52 : decode cX0_clear 52 = .ok (.putfield 40, 3) := by decide +kernel
theorem dX0_clear_55 : decode cX0_clear 55 = .ok (.aload_n 0, 1) := by decide +kernel
theorem dX0_clear_56 : decode cX0_clear 56 = .ok (.iconst 0, 1) := by decide +kernel
theorem dX0_clear_57 : decode cX0_clear 57 = .ok (.putfield 43, 3) := by decide +kernel
theorem dX0_clear_60 : decode cX0_clear 60 = .ok (.aload_n 0, 1) := by decide +kernel
theorem dX0_clear_61 : decode cX0_clear 61 = .ok (.iconst 0, 1) := by decide +kernel
theorem dX0_clear_62 : decode cX0_clear 62 = .ok (.putfield 46, 3) := by decide +kernel
theorem dX0_clear_65 : decode cX0_clear 65 = .ok (.return_, 1) := by decide +kernel
/-! X0_copyFrom -/
theorem dX0_copyFrom_0 : decode cX0_copyFrom 0 = .ok (.aload_n 0, 1) := by decide +kernel
theorem dX0_copyFrom_1 : decode cX0_copyFrom 1 = .ok (.aload_n 1, 1) := by decide +kernel
theorem dX0_copyFrom_2 : decode cX0_copyFrom 2 = .ok (.getfield 7, 3) := by decide +kernel
theorem dX0_copyFrom_5 : decode cX0_copyFrom 5 = .ok (.putfield 7, 3) := by decide +kernel
theorem dX0_copyFrom_8 : decode cX0_copyFrom 8 = .ok (.aload_n 0, 1) := by decide +kernel
theorem dX0_copyFrom_9 : decode cX0_copyFrom 9 = .ok (.aload_n 1, 1) := by decide +kernel
theorem dX0_copyFrom_10 : decode cX0_copyFrom 10 = .ok (.getfield 13, 3) := by decide +kernel
theorem dX0_copyFrom_13 : decode cX0_copyFrom 13 = .ok (.putfield 13, 3) := by decide +kernel
theorem dX0_copyFrom_16 : decode cX0_copyFrom 16 = .ok (.aload_n 0, 1) := by decide +kernel
theorem dX0_copyFrom_17 : decode cX0_copyFrom 17 = .ok (.aload_n 1, 1) := by decide +kernel
theorem dX0_copyFrom_18 : decode cX0_copyFrom 18 = .ok (.getfield 16, 3) := by decide +kernel
theorem dX0_copyFrom_21 : decode cX0_copyFrom 21 = .ok (.putfield 16, 3) := by decide +kernel
theorem dX0_copyFrom_24 : decode cX0_copyFrom 24 = .ok (.aload_n 0, 1) := by decide +kernel
theorem dX0_copyFrom_25 : decode cX0_copyFrom 25 = .ok (.aload_n 1, 1) := by decide +kernel
theorem dX0_copyFrom_26 : decode cX0_copyFrom 26 = .ok (.getfield 19, 3) := by decide +kernel
theorem dX0_copyFrom_29 : decode cX0_copyFrom 29 = .ok (.putfield 19, 3) := by decide +kernel
theorem dX0_copyFrom_32 : decode cX0_copyFrom 32 = .ok (.aload_n 0, 1) := by decide +kernel
theorem dX0_copyFrom_33 : decode cX0_copyFrom 33 = .ok (.aload_n 1, 1) := by decide +kernel
theorem dX0_copyFrom_34 : decode cX0_copyFrom 34 = .ok (.getfield 22, 3) := by decide +kernel
theorem dX0_copyFrom_37 : decode cX0_copyFrom 37 = .ok (.putfield 22, 3) := by decide +kernel
theorem dX0_copyFrom_40 : decode cX0_copyFrom 40 = .ok (.aload_n 0, 1) := by decide +kernel
theorem dX0_copyFrom_41 : decode cX0_copyFrom 41 = .ok (.aload_n 1, 1) := by decide +kernel
theorem dX0_copyFrom_42 : decode cX0_copyFrom 42 = .ok (.getfield 25, 3) := by decide +kernel
theorem dX0_copyFrom_45 : decode cX0_copyFrom 45 = .ok (.putfield 25, 3) := by decide +kernel
theorem dX0_copyFrom_48 : decode cX0_copyFrom 48 = .ok (.aload_n 0, 1) := by decide +kernel
theorem dX0_copyFrom_49 : decode cX0_copyFrom 49 = .ok (.aload_n 1, 1) := by decide +kernel
theorem dX0_copyFrom_50 : decode cX0_copyFrom 50 = .ok (.getfield 28, 3) := by decide +kernel
theorem dX0_copyFrom_53 : decode cX0_copyFrom 53 = .ok (.putfield 28, 3) := by decide +kernel
theorem dX0_copyFrom_56 : decode cX0_copyFrom 56 = .ok (.aload_n 0, 1) := by decide +kernel
theorem dX0_copyFrom_57 : decode cX0_copyFrom 57 = .ok (.aload_n 1, 1) := by decide +kernel
theorem dX0_copyFrom_58 : decode cX0_copyFrom 58 = .ok (.getfield 31, 3) := by decide +kernel
theorem dX0_copyFrom_61 : decode cX0_copyFrom 61 = .ok (.putfield 31, 3) := by decide +kernel
theorem dX0_copyFrom_64 : decode cX0_copyFrom 64 = .ok (.aload_n 0, 1) := by decide +kernel
theorem dX0_copyFrom_65 : decode cX0_copyFrom 65 = .ok (.aload_n 1, 1) := by decide +kernel
theorem dX0_copyFrom_66 : decode cX0_copyFrom 66 = .ok (.getfield 34, 3) := by decide +kernel
theorem dX0_copyFrom_69 : decode cX0_copyFrom 69 = .ok (.putfield 34, 3) := by decide +kernel
theorem dX0_copyFrom_72 : decode cX0_copyFrom 72 = .ok (.aload_n 0, 1) := by decide +kernel
theorem dX0_copyFrom_73 : decode cX0_copyFrom 73 = .ok (.aload_n 1, 1) := by decide +kernel
theorem dX0_copyFrom_74 : decode cX0_copyFrom 74 = .ok (.getfield 37, 3) := by decide +kernel
theorem dX0_copyFrom_77 : decode cX0_copyFrom 77 = .ok (.putfield 37, 3) := by decide +kernel
theorem dX0_copyFrom_80 : decode cX0_copyFrom 80 = .ok (.aload_n 0, 1) := by decide +kernel
theorem dX0_copyFrom_81 : decode cX0_copyFrom 81 = .ok (.aload_n 1, 1) := by decide +kernel
theorem dX0_copyFrom_82 : decode cX0_copyFrom 82 = .ok (.getfield 40, 3) := by decide +kernel
theorem dX0_copyFrom_85 : decode cX0_copyFrom 85 = .ok (.putfield 40, 3) := by decide +kernel
theorem dX0_copyFrom_88 : decode cX0_copyFrom 88 = .ok (.aload_n 0, 1) := by decide +kernel
theorem dX0_copyFrom_89 : decode cX0_copyFrom 89 = .ok (.aload_n 1, 1) := by decide +kernel
theorem dX0_copyFrom_90 : decode cX0_copyFrom 90 = .ok (.getfield 43, 3) := by decide +kernel
theorem dX0_copyFrom_93 : decode cX0_copyFrom 93 = .ok (.putfield 43, 3) := by decide +kernel
theorem dX0_copyFrom_96 : decode cX0_copyFrom 96 = .ok (.aload_n 0, 1) := by decide +kernel
theorem dX0_copyFrom_97 : decode cX0_copyFrom 97 = .ok (.aload_n 1, 1) := by decide +kernel
theorem dX0_copyFrom_98 : decode cX0_copyFrom 98 = .ok (.getfield 46, 3) := by decide +kernel
theorem dX0_copyFrom_101 : decode cX0_copyFrom 101 = .ok (.putfield 46, 3) := by decide +kernel
theorem dX0_copyFrom_104 : decode cX0_copyFrom 104 = .ok (.return_, 1) := by decide +kernel
/-! X0_init -/
theorem dX0_init_0 : decode cX0_init 0 = .ok (.aload_n 0, 1) := by decide +kernel
theorem dX0_init_1 : decode cX0_init 1 = .ok (.invokespecial 1, 3) := by decide +kernel
theorem dX0_init_4 : decode cX0_init 4 = .ok (.aload_n 0, 1) := by decide +kernel
theorem dX0_init_5 : decode cX0_init 5 = .ok (.iconst 0, 1) := by decide +kernel
theorem dX0_init_6 : decode cX0_init 6 = .ok (.putfield 7, 3) := by decide +kernel
theorem dX0_init_9 : decode cX0_init 9 = .ok (.aload_n 0, 1) := by decide +kernel
theorem dX0_init_10 : decode cX0_init 10 = .ok (.iconst 0, 1) := by decide +kernel
theorem dX0_init_11 : decode cX0_init 11 = .ok (.putfield 13, 3) := by decide +kernel
theorem dX0_init_14 : decode cX0_init 14 = .ok (.aload_n 0, 1) := by decide +kernel
theorem dX0_init_15 : decode cX0_init 15 = .ok (.iconst 0, 1) := by decide +kernel
theorem dX0_init_16 : decode cX0_init 16 = .ok (.putfield 16, 3) := by decide +kernel
theorem dX0_init_19 : decode cX0_init 19 = .ok (.aload_n 0, 1) := by decide +kernel
theorem dX0_init_20 : decode cX0_init 20 = .ok (.iconst 0, 1) := by decide +kernel
theorem dX0_init_21 : decode cX0_init 21 = .ok (.putfield 19, 3) := by decide +kernel
theorem dX0_init_24 : decode cX0_init 24 = .ok (.aload_n 0, 1) := by decide +kernel
theorem dX0_init_25 : decode cX0_init 25 = .ok (.iconst 0, 1) := by decide +kernel
theorem dX0_init_26 : decode cX0_init 26 = .ok (.putfield 22, 3) := by decide +kernel
theorem dX0_init_29 : decode cX0_init 29 = .ok (.aload_n 0, 1) := by decide +kernel
theorem dX0_init_30 : decode cX0_init 30 = .ok (.iconst 0, 1) := by decide +kernel
theorem dX0_init_31 : decode cX0_init 31 = .ok (.putfield 25, 3) := by decide +kernel
theorem dX0_init_34 : decode cX0_init 34 = .ok (.aload_n 0, 1) := by decide +kernel
theorem dX0_init_35 : decode cX0_init 35 = .ok (.iconst 0, 1) := by decide +kernel
theorem dX0_init_36 : decode cX0_init 36 = .ok (.putfield 28, 3) := by decide +kernel
theorem dX0_init_39 : decode cX0_init 39 = .ok (.aload_n 0, 1) := by decide +kernel
theorem dX0_init_40 : decode cX0_init 40 = .ok (.iconst 0, 1) := by decide +kernel
theorem dX0_init_41 : decode cX0_init 41 = .ok (.putfield 31, 3) := by decide +kernel
theorem dX0_init_44 : decode cX0_init 44 = .ok (.aload_n 0, 1) := by decide +kernel
theorem dX0_init_45 : decode cX0_init 45 = .ok (.iconst 0, 1) := by decide +kernel
theorem dX0_init_46 : decode cX0_init 46 = .ok (.putfield 34, 3) := by decide +kernel
theorem dX0_init_49 : decode cX0_init 49 = .ok (.aload_n 0, 1) := by decide +kernel
theorem dX0_init_50 : decode cX0_init 50 = .ok (.iconst 0, 1) := by decide +kernel
theorem dX0_init_51 : decode cX0_init 51 = .ok (.putfield 37, 3) := by decide +kernel
theorem dX0_init_54 : decode cX0_init 54 = .ok (.aload_n 0, 1) := by decide +kernel
theorem dX0_init_55 : decode cX0_init 55 = .ok (.iconst 0, 1) := by decide +kernel
theorem dX0_init_56 : decode cX0_init 56 = .ok (.putfield 40, 3) := by decide +kernel
theorem dX0_init_59 : decode cX0_init 59 = .ok (.aload_n 0, 1) := by decide +kernel
theorem dX0_init_60 : decode cX0_init 60 = .ok (.iconst 0, 1) := by decide +kernel
theorem dX0_init_61 : decode cX0_init 61 = .ok (.putfield 43, 3) := by decide +kernel
theorem dX0_init_64 : decode cX0_init 64 = .ok (.aload_n 0, 1) := by decide +kernel
theorem dX0_init_65 : decode cX0_init 65 = .ok (.iconst 0, 1) := by decide +kernel
theorem dX0_init_66 : decode cX0_init 66 = .ok (.putfield 46, 3) := by decide +kernel
theorem dX0_init_69 : decode cX0_init 69 = .ok (.return_, 1) := by decide +kernel
/-! X0_numberOf -/
theorem dX0_numberOf_0 : decode cX0_numberOf 0 = .ok (.iload_n 1, 1) := by decide +kernel
theorem dX0_numberOf_1 : decode cX0_numberOf 1 = .ok (.tableswitch 114 0 10 #[59, 64, 69, 74, 79, 84, 89, 94, 99, 104, 109], 59) := by decide +kernel
theorem dX0_numberOf_60 : decode cX0_numberOf 60 = .ok (.aload_n 0, 1) := by decide +kernel
theorem dX0_numberOf_61 : decode cX0_numberOf 61 = .ok (.getfield 7, 3) := by decide +kernel
theorem dX0_numberOf_64 : decode cX0_numberOf 64 = .ok (.ireturn, 1) := by decide +kernel
theorem dX0_numberOf_65 : decode cX0_numberOf 65 = .ok (.aload_n 0, 1) := by decide +kernel
theorem dX0_numberOf_66 : decode cX0_numberOf 66 = .ok (.getfield 13, 3) := by decide +kernel
theorem dX0_numberOf_69 : decode cX0_numberOf 69 = .ok (.ireturn, 1) := by decide +kernel
theorem dX0_numberOf_70 : decode cX0_numberOf 70 = .ok (.aload_n 0, 1) := by decide +kernel
theorem dX0_numberOf_71 : decode cX0_numberOf 71 = .ok (.getfield 16, 3) := by decide +kernel
theorem dX0_numberOf_74 : decode cX0_numberOf 74 = .ok (.ireturn, 1) := by decide +kernel
theorem dX0_numberOf_75 : decode cX0_numberOf 75 = .ok (.aload_n 0, 1) := by decide +kernel
theorem dX0_numberOf_76 : decode cX0_numberOf 76 = .ok (.getfield 19, 3) := by decide +kernel
theorem dX0_numberOf_79 : decode cX0_numberOf 79 = .ok (.ireturn, 1) := by decide +kernel
theorem dX0_numberOf_80 : decode cX0_numberOf 80 = .ok (.aload_n 0, 1) := by decide +kernel
theorem dX0_numberOf_81 : decode cX0_numberOf 81 = .ok (.getfield 22, 3) := by decide +kernel
theorem dX0_numberOf_84 : decode cX0_numberOf 84 = .ok (.ireturn, 1) := by decide +kernel
theorem dX0_numberOf_85 : decode cX0_numberOf 85 = .ok (.aload_n 0, 1) := by decide +kernel
theorem dX0_numberOf_86 : decode cX0_numberOf 86 = .ok (.getfield 25, 3) := by decide +kernel
theorem dX0_numberOf_89 : decode cX0_numberOf 89 = .ok (.ireturn, 1) := by decide +kernel
theorem dX0_numberOf_90 : decode cX0_numberOf 90 = .ok (.aload_n 0, 1) := by decide +kernel
theorem dX0_numberOf_91 : decode cX0_numberOf 91 = .ok (.getfield 28, 3) := by decide +kernel
theorem dX0_numberOf_94 : decode cX0_numberOf 94 = .ok (.ireturn, 1) := by decide +kernel
theorem dX0_numberOf_95 : decode cX0_numberOf 95 = .ok (.aload_n 0, 1) := by decide +kernel
theorem dX0_numberOf_96 : decode cX0_numberOf 96 = .ok (.getfield 31, 3) := by decide +kernel
theorem dX0_numberOf_99 : decode cX0_numberOf 99 = .ok (.ireturn, 1) := by decide +kernel
theorem dX0_numberOf_100 : decode cX0_numberOf 100 = .ok (.aload_n 0, 1) := by decide +kernel
theorem dX0_numberOf_101 : decode cX0_numberOf 101 = .ok (.getfield 34, 3) := by decide +kernel
theorem dX0_numberOf_104 : decode cX0_numberOf 104 = .ok (.ireturn, 1) := by decide +kernel
theorem dX0_numberOf_105 : decode cX0_numberOf 105 = .ok (.aload_n 0, 1) := by decide +kernel
theorem dX0_numberOf_106 : decode cX0_numberOf 106 = .ok (.getfield 37, 3) := by decide +kernel
theorem dX0_numberOf_109 : decode cX0_numberOf 109 = .ok (.ireturn, 1) := by decide +kernel
theorem dX0_numberOf_110 : decode cX0_numberOf 110 = .ok (.aload_n 0, 1) := by decide +kernel
theorem dX0_numberOf_111 : decode cX0_numberOf 111 = .ok (.getfield 40, 3) := by decide +kernel
theorem dX0_numberOf_114 : decode cX0_numberOf 114 = .ok (.ireturn, 1) := by decide +kernel
theorem dX0_numberOf_115 : decode cX0_numberOf 115 = .ok (.aload_n 0, 1) := by decide +kernel
theorem dX0_numberOf_116 : decode cX0_numberOf 116 = .ok (.getfield 43, 3) := by decide +kernel
theorem dX0_numberOf_119 : decode cX0_numberOf 119 = .ok (.ireturn, 1) := by decide +kernel
/-! X1_begin -/
theorem dX1_begin_0 : decode cX1_begin 0 = .ok (.aload_n 0, 1) := by decide +kernel
theorem dX1_begin_1 : decode cX1_begin 1 = .ok (.iload_n 1, 1) := by decide +kernel
theorem dX1_begin_2 : decode cX1_begin 2 = .ok (.putfield 9, 3) := by decide +kernel
theorem dX1_begin_5 : decode cX1_begin 5 = .ok (.aload_n 0, 1) := by decide +kernel
theorem dX1_begin_6 : decode cX1_begin 6 = .ok (.iload_n 2, 1) := by decide +kernel
theorem dX1_begin_7 : decode cX1_begin 7 = .ok (.putfield 15, 3) := by decide +kernel
theorem dX1_begin_10 : decode cX1_begin 10 = .ok (.aload_n 0, 1) := by decide +kernel
theorem dX1_begin_11 : decode cX1_begin 11 = .ok (.iload_n 3, 1) := by decide +kernel
theorem dX1_begin_12 : decode cX1_begin 12 = .ok (.putfield 18, 3) := by decide +kernel
theorem dX1_begin_15 : decode cX1_begin 15 = .ok (.aload_n 0, 1) := by decide +kernel
theorem dX1_begin_16 : decode cX1_begin 16 = .ok (.iconst 0, 1) := by decide +kernel
theorem dX1_begin_17 : decode cX1_begin 17 = .ok (.putfield 22, 3) := by decide +kernel
theorem dX1_begin_20 : decode cX1_begin 20 = .ok (.aload_n 0, 1) := by decide +kernel
theorem dX1_begin_21 : decode cX1_begin 21 = .ok (.iload 4, 2) := by decide +kernel
theorem dX1_begin_23 : decode cX1_begin 23 = .ok (.putfield 25, 3) := by decide +kernel
theorem dX1_begin_26 : decode cX1_begin 26 = .ok (.aload_n 0, 1) := by decide +kernel
theorem dX1_begin_27 : decode cX1_begin 27 = .ok (.iconst 0, 1) := by decide +kernel
theorem dX1_begin_28 : decode cX1_begin 28 = .ok (.putfield 28, 3) := by decide +kernel
theorem dX1_begin_31 : decode cX1_begin 31 = .ok (.aload_n 0, 1) := by decide +kernel
theorem dX1_begin_32 : decode cX1_begin 32 = .ok (.iconst (-1), 1) := by decide +kernel
theorem dX1_begin_33 : decode cX1_begin 33 = .ok (.putfield 31, 3) := by decide +kernel
theorem dX1_begin_36 : decode cX1_begin 36 = .ok (.aload_n 0, 1) := by decide +kernel
theorem dX1_begin_37 : decode cX1_begin 37 = .ok (.iconst 0, 1) := by decide +kernel
theorem dX1_begin_38 : decode cX1_begin 38 = .ok (.putfield 34, 3) := by decide +kernel
theorem dX1_begin_41 : decode cX1_begin 41 = .ok (.return_, 1) := by decide +kernel
/-! X1_byteAt -/
theorem dX1_byteAt_0 : decode cX1_byteAt 0 = .ok (.aload_n 0, 1) := by decide +kernel
theorem dX1_byteAt_1 : decode cX1_byteAt 1 = .ok (.getfield 15, 3) := by decide +kernel
theorem dX1_byteAt_4 : decode cX1_byteAt 4 = .ok (.bipush 31, 2) := by decide +kernel
theorem dX1_byteAt_6 : decode cX1_byteAt 6 = .ok (.iload_n 1, 1) := by decide +kernel
theorem dX1_byteAt_7 : decode cX1_byteAt 7 = .ok (.imul, 1) := by decide +kernel
theorem dX1_byteAt_8 : decode cX1_byteAt 8 = .ok (.iadd, 1) := by decide +kernel
theorem dX1_byteAt_9 : decode cX1_byteAt 9 = .ok (.sipush 255, 3) := by decide +kernel
theorem dX1_byteAt_12 : decode cX1_byteAt 12 = .ok (.iand, 1) := by decide +kernel
theorem dX1_byteAt_13 : decode cX1_byteAt 13 = .ok (.ireturn, 1) := by decide +kernel
/-! X1_close -/
theorem dX1_close_0 : decode cX1_close 0 = .ok (.aload_n 0, 1) := by decide +kernel
theorem dX1_close_1 : decode cX1_close 1 = .ok (.iload_n 1, 1) := by decide +kernel
theorem dX1_close_2 : decode cX1_close 2 = .ok (.putfield 28, 3) := by decide +kernel
theorem dX1_close_5 : decode cX1_close 5 = .ok (.aload_n 0, 1) := by decide +kernel
theorem dX1_close_6 : decode cX1_close 6 = .ok (.iload_n 2, 1) := by decide +kernel
theorem dX1_close_7 : decode cX1_close 7 = .ok (.putfield 31, 3) := by decide +kernel
theorem dX1_close_10 : decode cX1_close 10 = .ok (.aload_n 0, 1) := by decide +kernel
theorem dX1_close_11 : decode cX1_close 11 = .ok (.iload_n 3, 1) := by decide +kernel
theorem dX1_close_12 : decode cX1_close 12 = .ok (.putfield 34, 3) := by decide +kernel
theorem dX1_close_15 : decode cX1_close 15 = .ok (.return_, 1) := by decide +kernel
/-! X1_copyFrom -/
theorem dX1_copyFrom_0 : decode cX1_copyFrom 0 = .ok (.aload_n 0, 1) := by decide +kernel
theorem dX1_copyFrom_1 : decode cX1_copyFrom 1 = .ok (.aload_n 1, 1) := by decide +kernel
theorem dX1_copyFrom_2 : decode cX1_copyFrom 2 = .ok (.getfield 9, 3) := by decide +kernel
theorem dX1_copyFrom_5 : decode cX1_copyFrom 5 = .ok (.putfield 9, 3) := by decide +kernel
theorem dX1_copyFrom_8 : decode cX1_copyFrom 8 = .ok (.aload_n 0, 1) := by decide +kernel
theorem dX1_copyFrom_9 : decode cX1_copyFrom 9 = .ok (.aload_n 1, 1) := by decide +kernel
theorem dX1_copyFrom_10 : decode cX1_copyFrom 10 = .ok (.getfield 15, 3) := by decide +kernel
theorem dX1_copyFrom_13 : decode cX1_copyFrom 13 = .ok (.putfield 15, 3) := by decide +kernel
theorem dX1_copyFrom_16 : decode cX1_copyFrom 16 = .ok (.aload_n 0, 1) := by decide +kernel
theorem dX1_copyFrom_17 : decode cX1_copyFrom 17 = .ok (.aload_n 1, 1) := by decide +kernel
theorem dX1_copyFrom_18 : decode cX1_copyFrom 18 = .ok (.getfield 18, 3) := by decide +kernel
theorem dX1_copyFrom_21 : decode cX1_copyFrom 21 = .ok (.putfield 18, 3) := by decide +kernel
theorem dX1_copyFrom_24 : decode cX1_copyFrom 24 = .ok (.aload_n 0, 1) := by decide +kernel
theorem dX1_copyFrom_25 : decode cX1_copyFrom 25 = .ok (.aload_n 1, 1) := by decide +kernel
theorem dX1_copyFrom_26 : decode cX1_copyFrom 26 = .ok (.getfield 22, 3) := by decide +kernel
theorem dX1_copyFrom_29 : decode cX1_copyFrom 29 = .ok (.putfield 22, 3) := by decide +kernel
theorem dX1_copyFrom_32 : decode cX1_copyFrom 32 = .ok (.aload_n 0, 1) := by decide +kernel
theorem dX1_copyFrom_33 : decode cX1_copyFrom 33 = .ok (.aload_n 1, 1) := by decide +kernel
theorem dX1_copyFrom_34 : decode cX1_copyFrom 34 = .ok (.getfield 25, 3) := by decide +kernel
theorem dX1_copyFrom_37 : decode cX1_copyFrom 37 = .ok (.putfield 25, 3) := by decide +kernel
theorem dX1_copyFrom_40 : decode cX1_copyFrom 40 = .ok (.aload_n 0, 1) := by decide +kernel
theorem dX1_copyFrom_41 : decode cX1_copyFrom 41 = .ok (.aload_n 1, 1) := by decide +kernel
theorem dX1_copyFrom_42 : decode cX1_copyFrom 42 = .ok (.getfield 28, 3) := by decide +kernel
theorem dX1_copyFrom_45 : decode cX1_copyFrom 45 = .ok (.putfield 28, 3) := by decide +kernel
theorem dX1_copyFrom_48 : decode cX1_copyFrom 48 = .ok (.aload_n 0, 1) := by decide +kernel
theorem dX1_copyFrom_49 : decode cX1_copyFrom 49 = .ok (.aload_n 1, 1) := by decide +kernel
theorem dX1_copyFrom_50 : decode cX1_copyFrom 50 = .ok (.getfield 31, 3) := by decide +kernel
theorem dX1_copyFrom_53 : decode cX1_copyFrom 53 = .ok (.putfield 31, 3) := by decide +kernel
theorem dX1_copyFrom_56 : decode cX1_copyFrom 56 = .ok (.aload_n 0, 1) := by decide +kernel
theorem dX1_copyFrom_57 : decode cX1_copyFrom 57 = .ok (.aload_n 1, 1) := by decide +kernel
theorem dX1_copyFrom_58 : decode cX1_copyFrom 58 = .ok (.getfield 34, 3) := by decide +kernel
theorem dX1_copyFrom_61 : decode cX1_copyFrom 61 = .ok (.putfield 34, 3) := by decide +kernel
theorem dX1_copyFrom_64 : decode cX1_copyFrom 64 = .ok (.return_, 1) := by decide +kernel
/-! X1_init -/
theorem dX1_init_0 : decode cX1_init 0 = .ok (.aload_n 0, 1) := by decide +kernel
theorem dX1_init_1 : decode cX1_init 1 = .ok (.invokespecial 3, 3) := by decide +kernel
theorem dX1_init_4 : decode cX1_init 4 = .ok (.aload_n 0, 1) := by decide +kernel
theorem dX1_init_5 : decode cX1_init 5 = .ok (.iconst 0, 1) := by decide +kernel
theorem dX1_init_6 : decode cX1_init 6 = .ok (.putfield 9, 3) := by decide +kernel
theorem dX1_init_9 : decode cX1_init 9 = .ok (.aload_n 0, 1) := by decide +kernel
theorem dX1_init_10 : decode cX1_init 10 = .ok (.iconst 0, 1) := by decide +kernel
theorem dX1_init_11 : decode cX1_init 11 = .ok (.putfield 15, 3) := by decide +kernel
theorem dX1_init_14 : decode cX1_init 14 = .ok (.aload_n 0, 1) := by decide +kernel
theorem dX1_init_15 : decode cX1_init 15 = .ok (.iconst 0, 1) := by decide +kernel
theorem dX1_init_16 : decode cX1_init 16 = .ok (.putfield 18, 3) := by decide +kernel
theorem dX1_init_19 : decode cX1_init 19 = .ok (.aload_n 0, 1) := by decide +kernel
theorem dX1_init_20 : decode cX1_init 20 = .ok (.iconst 0, 1) := by decide +kernel
theorem dX1_init_21 : decode cX1_init 21 = .ok (.putfield 22, 3) := by decide +kernel
theorem dX1_init_24 : decode cX1_init 24 = .ok (.aload_n 0, 1) := by decide +kernel
theorem dX1_init_25 : decode cX1_init 25 = .ok (.iconst 0, 1) := by decide +kernel
theorem dX1_init_26 : decode cX1_init 26 = .ok (.putfield 25, 3) := by decide +kernel
theorem dX1_init_29 : decode cX1_init 29 = .ok (.aload_n 0, 1) := by decide +kernel
theorem dX1_init_30 : decode cX1_init 30 = .ok (.iconst 0, 1) := by decide +kernel
theorem dX1_init_31 : decode cX1_init 31 = .ok (.putfield 28, 3) := by decide +kernel
theorem dX1_init_34 : decode cX1_init 34 = .ok (.aload_n 0, 1) := by decide +kernel
theorem dX1_init_35 : decode cX1_init 35 = .ok (.iconst (-1), 1) := by decide +kernel
theorem dX1_init_36 : decode cX1_init 36 = .ok (.putfield 31, 3) := by decide +kernel
theorem dX1_init_39 : decode cX1_init 39 = .ok (.aload_n 0, 1) := by decide +kernel
theorem dX1_init_40 : decode cX1_init 40 = .ok (.iconst 0, 1) := by decide +kernel
theorem dX1_init_41 : decode cX1_init 41 = .ok (.putfield 34, 3) := by decide +kernel
theorem dX1_init_44 : decode cX1_init 44 = .ok (.return_, 1) := by decide +kernel
/-! X1_isHanded -/
theorem dX1_isHanded_0 : decode cX1_isHanded 0 = .ok (.aload_n 0, 1) := by decide +kernel
theorem dX1_isHanded_1 : decode cX1_isHanded 1 = .ok (.getfield 28, 3) := by decide +kernel
theorem dX1_isHanded_4 : decode cX1_isHanded 4 = .ok (.iconst 1, 1) := by decide +kernel
theorem dX1_isHanded_5 : decode cX1_isHanded 5 = .ok (.if_icmp .eq 11, 3) := by decide +kernel
theorem dX1_isHanded_8 : decode cX1_isHanded 8 = .ok (.aload_n 0, 1) := by decide +kernel
theorem dX1_isHanded_9 : decode cX1_isHanded 9 = .ok (.getfield 28, 3) := by decide +kernel
theorem dX1_isHanded_12 : decode cX1_isHanded 12 = .ok (.iconst 2, 1) := by decide +kernel
theorem dX1_isHanded_13 : decode cX1_isHanded 13 = .ok (.if_icmp .ne 7, 3) := by decide +kernel
theorem dX1_isHanded_16 : decode cX1_isHanded 16 = .ok (.iconst 1, 1) := by decide +kernel
theorem dX1_isHanded_17 : decode cX1_isHanded 17 = .ok (.goto 4, 3) := by decide +kernel
theorem dX1_isHanded_20 : decode cX1_isHanded 20 = .ok (.iconst 0, 1) := by decide +kernel
theorem dX1_isHanded_21 : decode cX1_isHanded 21 = .ok (.ireturn, 1) := by decide +kernel
/-! X2_begin -/
theorem dX2_begin_0 : decode cX2_begin 0 = .ok (.aload_n 0, 1) := by decide +kernel
theorem dX2_begin_1 : decode cX2_begin 1 = .ok (.getfield 33, 3) := by decide +kernel
theorem dX2_begin_4 : decode cX2_begin 4 = .ok (.arraylength, 1) := by decide +kernel
theorem dX2_begin_5 : decode cX2_begin 5 = .ok (.sipush 1192, 3) := by decide +kernel
theorem dX2_begin_8 : decode cX2_begin 8 = .ok (.if_icmp .ge 12, 3) := by decide +kernel
theorem dX2_begin_11 : decode cX2_begin 11 = .ok (.aload_n 0, 1) := by decide +kernel
theorem dX2_begin_12 : decode cX2_begin 12 = .ok (.sipush 1192, 3) := by decide +kernel
theorem dX2_begin_15 : decode cX2_begin 15 = .ok (.newarray .int, 2) := by decide +kernel
theorem dX2_begin_17 : decode cX2_begin 17 = .ok (.putfield 33, 3) := by decide +kernel
theorem dX2_begin_20 : decode cX2_begin 20 = .ok (.aload_n 0, 1) := by decide +kernel
theorem dX2_begin_21 : decode cX2_begin 21 = .ok (.iload_n 1, 1) := by decide +kernel
theorem dX2_begin_22 : decode cX2_begin 22 = .ok (.putfield 11, 3) := by decide +kernel
theorem dX2_begin_25 : decode cX2_begin 25 = .ok (.aload_n 0, 1) := by decide +kernel
theorem dX2_begin_26 : decode cX2_begin 26 = .ok (.iload_n 2, 1) := by decide +kernel
theorem dX2_begin_27 : decode cX2_begin 27 = .ok (.putfield 15, 3) := by decide +kernel
theorem dX2_begin_30 : decode cX2_begin 30 = .ok (.aload_n 0, 1) := by decide +kernel
theorem dX2_begin_31 : decode cX2_begin 31 = .ok (.iconst (-1), 1) := by decide +kernel
theorem dX2_begin_32 : decode cX2_begin 32 = .ok (.putfield 18, 3) := by decide +kernel
theorem dX2_begin_35 : decode cX2_begin 35 = .ok (.aload_n 0, 1) := by decide +kernel
theorem dX2_begin_36 : decode cX2_begin 36 = .ok (.iconst 0, 1) := by decide +kernel
theorem dX2_begin_37 : decode cX2_begin 37 = .ok (.putfield 21, 3) := by decide +kernel
theorem dX2_begin_40 : decode cX2_begin 40 = .ok (.aload_n 0, 1) := by decide +kernel
theorem dX2_begin_41 : decode cX2_begin 41 = .ok (.iconst 0, 1) := by decide +kernel
theorem dX2_begin_42 : decode cX2_begin 42 = .ok (.putfield 24, 3) := by decide +kernel
theorem dX2_begin_45 : decode cX2_begin 45 = .ok (.aload_n 0, 1) := by decide +kernel
theorem dX2_begin_46 : decode cX2_begin 46 = .ok (.iconst 0, 1) := by decide +kernel
theorem dX2_begin_47 : decode cX2_begin 47 = .ok (.putfield 27, 3) := by decide +kernel
theorem dX2_begin_50 : decode cX2_begin 50 = .ok (.aload_n 0, 1) := by decide +kernel
theorem dX2_begin_51 : decode cX2_begin 51 = .ok (.iconst 0, 1) := by decide +kernel
theorem dX2_begin_52 : decode cX2_begin 52 = .ok (.putfield 30, 3) := by decide +kernel
theorem dX2_begin_55 : decode cX2_begin 55 = .ok (.return_, 1) := by decide +kernel
/-! X2_copyFrom -/
theorem dX2_copyFrom_0 : decode cX2_copyFrom 0 = .ok (.aload_n 0, 1) := by decide +kernel
theorem dX2_copyFrom_1 : decode cX2_copyFrom 1 = .ok (.aload_n 1, 1) := by decide +kernel
theorem dX2_copyFrom_2 : decode cX2_copyFrom 2 = .ok (.getfield 11, 3) := by decide +kernel
theorem dX2_copyFrom_5 : decode cX2_copyFrom 5 = .ok (.putfield 11, 3) := by decide +kernel
theorem dX2_copyFrom_8 : decode cX2_copyFrom 8 = .ok (.aload_n 0, 1) := by decide +kernel
theorem dX2_copyFrom_9 : decode cX2_copyFrom 9 = .ok (.aload_n 1, 1) := by decide +kernel
theorem dX2_copyFrom_10 : decode cX2_copyFrom 10 = .ok (.getfield 15, 3) := by decide +kernel
theorem dX2_copyFrom_13 : decode cX2_copyFrom 13 = .ok (.putfield 15, 3) := by decide +kernel
theorem dX2_copyFrom_16 : decode cX2_copyFrom 16 = .ok (.aload_n 0, 1) := by decide +kernel
theorem dX2_copyFrom_17 : decode cX2_copyFrom 17 = .ok (.aload_n 1, 1) := by decide +kernel
theorem dX2_copyFrom_18 : decode cX2_copyFrom 18 = .ok (.getfield 18, 3) := by decide +kernel
theorem dX2_copyFrom_21 : decode cX2_copyFrom 21 = .ok (.putfield 18, 3) := by decide +kernel
theorem dX2_copyFrom_24 : decode cX2_copyFrom 24 = .ok (.aload_n 0, 1) := by decide +kernel
theorem dX2_copyFrom_25 : decode cX2_copyFrom 25 = .ok (.aload_n 1, 1) := by decide +kernel
theorem dX2_copyFrom_26 : decode cX2_copyFrom 26 = .ok (.getfield 21, 3) := by decide +kernel
theorem dX2_copyFrom_29 : decode cX2_copyFrom 29 = .ok (.putfield 21, 3) := by decide +kernel
theorem dX2_copyFrom_32 : decode cX2_copyFrom 32 = .ok (.aload_n 0, 1) := by decide +kernel
theorem dX2_copyFrom_33 : decode cX2_copyFrom 33 = .ok (.aload_n 1, 1) := by decide +kernel
theorem dX2_copyFrom_34 : decode cX2_copyFrom 34 = .ok (.getfield 24, 3) := by decide +kernel
theorem dX2_copyFrom_37 : decode cX2_copyFrom 37 = .ok (.putfield 24, 3) := by decide +kernel
theorem dX2_copyFrom_40 : decode cX2_copyFrom 40 = .ok (.aload_n 0, 1) := by decide +kernel
theorem dX2_copyFrom_41 : decode cX2_copyFrom 41 = .ok (.aload_n 1, 1) := by decide +kernel
theorem dX2_copyFrom_42 : decode cX2_copyFrom 42 = .ok (.getfield 27, 3) := by decide +kernel
theorem dX2_copyFrom_45 : decode cX2_copyFrom 45 = .ok (.putfield 27, 3) := by decide +kernel
theorem dX2_copyFrom_48 : decode cX2_copyFrom 48 = .ok (.aload_n 0, 1) := by decide +kernel
theorem dX2_copyFrom_49 : decode cX2_copyFrom 49 = .ok (.aload_n 1, 1) := by decide +kernel
theorem dX2_copyFrom_50 : decode cX2_copyFrom 50 = .ok (.getfield 30, 3) := by decide +kernel
theorem dX2_copyFrom_53 : decode cX2_copyFrom 53 = .ok (.putfield 30, 3) := by decide +kernel
theorem dX2_copyFrom_56 : decode cX2_copyFrom 56 = .ok (.aload_n 0, 1) := by decide +kernel
theorem dX2_copyFrom_57 : decode cX2_copyFrom 57 = .ok (.getfield 11, 3) := by decide +kernel
theorem dX2_copyFrom_60 : decode cX2_copyFrom 60 = .ok (.iconst (-1), 1) := by decide +kernel
theorem dX2_copyFrom_61 : decode cX2_copyFrom 61 = .ok (.if_icmp .eq 27, 3) := by decide +kernel
theorem dX2_copyFrom_64 : decode cX2_copyFrom 64 = .ok (.aload_n 0, 1) := by decide +kernel
theorem dX2_copyFrom_65 : decode cX2_copyFrom 65 = .ok (.getfield 33, 3) := by decide +kernel
theorem dX2_copyFrom_68 : decode cX2_copyFrom 68 = .ok (.arraylength, 1) := by decide +kernel
theorem dX2_copyFrom_69 : decode cX2_copyFrom 69 = .ok (.aload_n 1, 1) := by decide +kernel
theorem dX2_copyFrom_70 : decode cX2_copyFrom 70 = .ok (.getfield 33, 3) := by decide +kernel
theorem dX2_copyFrom_73 : decode cX2_copyFrom 73 = .ok (.arraylength, 1) := by decide +kernel
theorem dX2_copyFrom_74 : decode cX2_copyFrom 74 = .ok (.if_icmp .ge 14, 3) := by decide +kernel
theorem dX2_copyFrom_77 : decode cX2_copyFrom 77 = .ok (.aload_n 0, 1) := by decide +kernel
theorem dX2_copyFrom_78 : decode cX2_copyFrom 78 = .ok (.aload_n 1, 1) := by decide +kernel
theorem dX2_copyFrom_79 : decode cX2_copyFrom 79 = .ok (.getfield 33, 3) := by decide +kernel
theorem dX2_copyFrom_82 : decode cX2_copyFrom 82 = .ok (.arraylength, 1) := by decide +kernel
theorem dX2_copyFrom_83 : decode cX2_copyFrom 83 = .ok (.newarray .int, 2) := by decide +kernel
theorem dX2_copyFrom_85 : decode cX2_copyFrom 85 = .ok (.putfield 33, 3) := by decide +kernel
theorem dX2_copyFrom_88 : decode cX2_copyFrom 88 = .ok (.aload_n 0, 1) := by decide +kernel
theorem dX2_copyFrom_89 : decode cX2_copyFrom 89 = .ok (.getfield 30, 3) := by decide +kernel
theorem dX2_copyFrom_92 : decode cX2_copyFrom 92 = .ok (.aload_n 0, 1) := by decide +kernel
theorem dX2_copyFrom_93 : decode cX2_copyFrom 93 = .ok (.getfield 33, 3) := by decide +kernel
theorem dX2_copyFrom_96 : decode cX2_copyFrom 96 = .ok (.arraylength, 1) := by decide +kernel
theorem dX2_copyFrom_97 : decode cX2_copyFrom 97 = .ok (.aload_n 1, 1) := by decide +kernel
theorem dX2_copyFrom_98 : decode cX2_copyFrom 98 = .ok (.getfield 33, 3) := by decide +kernel
theorem dX2_copyFrom_101 : decode cX2_copyFrom 101 = .ok (.arraylength, 1) := by decide +kernel
theorem dX2_copyFrom_102 : decode cX2_copyFrom 102 = .ok (.invokestatic 56, 3) := by decide +kernel
theorem dX2_copyFrom_105 : decode cX2_copyFrom 105 = .ok (.invokestatic 56, 3) := by decide +kernel
theorem dX2_copyFrom_108 : decode cX2_copyFrom 108 = .ok (.istore_n 2, 1) := by decide +kernel
theorem dX2_copyFrom_109 : decode cX2_copyFrom 109 = .ok (.aload_n 0, 1) := by decide +kernel
theorem dX2_copyFrom_110 : decode cX2_copyFrom 110 = .ok (.getfield 11, 3) := by decide +kernel
theorem dX2_copyFrom_113 : decode cX2_copyFrom 113 = .ok (.iconst (-1), 1) := by decide +kernel
theorem dX2_copyFrom_114 : decode cX2_copyFrom 114 = .ok (.if_icmp .eq 21, 3) := by decide +kernel
theorem dX2_copyFrom_117 : decode cX2_copyFrom 117 = .ok (.iload_n 2, 1) := by decide +kernel
theorem dX2_copyFrom_118 : decode cX2_copyFrom 118 = .ok (.ifCond .le 17, 3) := by decide +kernel
theorem dX2_copyFrom_121 : decode cX2_copyFrom 121 = .ok (.aload_n 1, 1) := by decide +kernel
theorem dX2_copyFrom_122 : decode cX2_copyFrom 122 = .ok (.getfield 33, 3) := by decide +kernel
theorem dX2_copyFrom_125 : decode cX2_copyFrom 125 = .ok (.iconst 0, 1) := by decide +kernel
theorem dX2_copyFrom_126 : decode cX2_copyFrom 126 = .ok (.aload_n 0, 1) := by decide +kernel
theorem dX2_copyFrom_127 : decode cX2_copyFrom 127 = .ok (.getfield 33, 3) := by decide +kernel
theorem dX2_copyFrom_130 : decode cX2_copyFrom 130 = .ok (.iconst 0, 1) := by decide +kernel
theorem dX2_copyFrom_131 : decode cX2_copyFrom 131 = .ok (.iload_n 2, 1) := by decide +kernel
theorem dX2_copyFrom_132 : decode cX2_copyFrom 132 = .ok (.invokestatic 73, 3) := by decide +kernel
theorem dX2_copyFrom_135 : decode cX2_copyFrom 135 = .ok (.return_, 1) := by decide +kernel
/-! X2_holeCount -/
theorem dX2_holeCount_0 : decode cX2_holeCount 0 = .ok (.aload_n 0, 1) := by decide +kernel
theorem dX2_holeCount_1 : decode cX2_holeCount 1 = .ok (.getfield 18, 3) := by decide +kernel
theorem dX2_holeCount_4 : decode cX2_holeCount 4 = .ok (.iconst (-1), 1) := by decide +kernel
theorem dX2_holeCount_5 : decode cX2_holeCount 5 = .ok (.if_icmp .ne 7, 3) := by decide +kernel
theorem dX2_holeCount_8 : decode cX2_holeCount 8 = .ok (.iconst 1, 1) := by decide +kernel
theorem dX2_holeCount_9 : decode cX2_holeCount 9 = .ok (.goto 4, 3) := by decide +kernel
theorem dX2_holeCount_12 : decode cX2_holeCount 12 = .ok (.iconst 0, 1) := by decide +kernel
theorem dX2_holeCount_13 : decode cX2_holeCount 13 = .ok (.istore_n 1, 1) := by decide +kernel
theorem dX2_holeCount_14 : decode cX2_holeCount 14 = .ok (.iconst 0, 1) := by decide +kernel
theorem dX2_holeCount_15 : decode cX2_holeCount 15 = .ok (.istore_n 2, 1) := by decide +kernel
theorem dX2_holeCount_16 : decode cX2_holeCount 16 = .ok (.iload_n 2, 1) := by decide +kernel
theorem dX2_holeCount_17 : decode cX2_holeCount 17 = .ok (.aload_n 0, 1) := by decide +kernel
theorem dX2_holeCount_18 : decode cX2_holeCount 18 = .ok (.invokevirtual 62, 3) := by decide +kernel
theorem dX2_holeCount_21 : decode cX2_holeCount 21 = .ok (.if_icmp .ge 20, 3) := by decide +kernel
theorem dX2_holeCount_24 : decode cX2_holeCount 24 = .ok (.aload_n 0, 1) := by decide +kernel
theorem dX2_holeCount_25 : decode cX2_holeCount 25 = .ok (.iload_n 2, 1) := by decide +kernel
theorem dX2_holeCount_26 : decode cX2_holeCount 26 = .ok (.invokevirtual 66, 3) := by decide +kernel
theorem dX2_holeCount_29 : decode cX2_holeCount 29 = .ok (.ifCond .eq 6, 3) := by decide +kernel
theorem dX2_holeCount_32 : decode cX2_holeCount 32 = .ok (.iinc 1 1, 3) := by decide +kernel
theorem dX2_holeCount_35 : decode cX2_holeCount 35 = .ok (.iinc 2 1, 3) := by decide +kernel
theorem dX2_holeCount_38 : decode cX2_holeCount 38 = .ok (.goto (-22), 3) := by decide +kernel
theorem dX2_holeCount_41 : decode cX2_holeCount 41 = .ok (.iload_n 1, 1) := by decide +kernel
theorem dX2_holeCount_42 : decode cX2_holeCount 42 = .ok (.ireturn, 1) := by decide +kernel
/-! X2_holeEnd -/
theorem dX2_holeEnd_0 : decode cX2_holeEnd 0 = .ok (.iload_n 1, 1) := by decide +kernel
theorem dX2_holeEnd_1 : decode cX2_holeEnd 1 = .ok (.aload_n 0, 1) := by decide +kernel
theorem dX2_holeEnd_2 : decode cX2_holeEnd 2 = .ok (.invokevirtual 62, 3) := by decide +kernel
theorem dX2_holeEnd_5 : decode cX2_holeEnd 5 = .ok (.if_icmp .lt 5, 3) := by decide +kernel
theorem dX2_holeEnd_8 : decode cX2_holeEnd 8 = .ok (.iconst (-1), 1) := by decide +kernel
theorem dX2_holeEnd_9 : decode cX2_holeEnd 9 = .ok (.ireturn, 1) := by decide +kernel
theorem dX2_holeEnd_10 : decode cX2_holeEnd 10 = .ok (.iload_n 1, 1) := by decide +kernel
theorem dX2_holeEnd_11 : decode cX2_holeEnd 11 = .ok (.istore_n 2, 1) := by decide +kernel
theorem dX2_holeEnd_12 : decode cX2_holeEnd 12 = .ok (.iload_n 2, 1) := by decide +kernel
theorem dX2_holeEnd_13 : decode cX2_holeEnd 13 = .ok (.aload_n 0, 1) := by decide +kernel
theorem dX2_holeEnd_14 : decode cX2_holeEnd 14 = .ok (.invokevirtual 62, 3) := by decide +kernel
theorem dX2_holeEnd_17 : decode cX2_holeEnd 17 = .ok (.if_icmp .ge 17, 3) := by decide +kernel
theorem dX2_holeEnd_20 : decode cX2_holeEnd 20 = .ok (.aload_n 0, 1) := by decide +kernel
theorem dX2_holeEnd_21 : decode cX2_holeEnd 21 = .ok (.iload_n 2, 1) := by decide +kernel
theorem dX2_holeEnd_22 : decode cX2_holeEnd 22 = .ok (.invokevirtual 70, 3) := by decide +kernel
theorem dX2_holeEnd_25 : decode cX2_holeEnd 25 = .ok (.ifCond .ne 9, 3) := by decide +kernel
theorem dX2_holeEnd_28 : decode cX2_holeEnd 28 = .ok (.iinc 2 1, 3) := by decide +kernel
theorem dX2_holeEnd_31 : decode cX2_holeEnd 31 = .ok (.goto (-19), 3) := by decide +kernel
theorem dX2_holeEnd_34 : decode cX2_holeEnd 34 = .ok (.iload_n 2, 1) := by decide +kernel
theorem dX2_holeEnd_35 : decode cX2_holeEnd 35 = .ok (.ireturn, 1) := by decide +kernel
/-! X2_holeStart -/
theorem dX2_holeStart_0 : decode cX2_holeStart 0 = .ok (.iconst 0, 1) := by decide +kernel
theorem dX2_holeStart_1 : decode cX2_holeStart 1 = .ok (.istore_n 2, 1) := by decide +kernel
theorem dX2_holeStart_2 : decode cX2_holeStart 2 = .ok (.iconst 0, 1) := by decide +kernel
theorem dX2_holeStart_3 : decode cX2_holeStart 3 = .ok (.istore_n 3, 1) := by decide +kernel
theorem dX2_holeStart_4 : decode cX2_holeStart 4 = .ok (.iload_n 3, 1) := by decide +kernel
theorem dX2_holeStart_5 : decode cX2_holeStart 5 = .ok (.aload_n 0, 1) := by decide +kernel
theorem dX2_holeStart_6 : decode cX2_holeStart 6 = .ok (.invokevirtual 62, 3) := by decide +kernel
theorem dX2_holeStart_9 : decode cX2_holeStart 9 = .ok (.if_icmp .ge 27, 3) := by decide +kernel
theorem dX2_holeStart_12 : decode cX2_holeStart 12 = .ok (.aload_n 0, 1) := by decide +kernel
theorem dX2_holeStart_13 : decode cX2_holeStart 13 = .ok (.iload_n 3, 1) := by decide +kernel
theorem dX2_holeStart_14 : decode cX2_holeStart 14 = .ok (.invokevirtual 66, 3) := by decide +kernel
theorem dX2_holeStart_17 : decode cX2_holeStart 17 = .ok (.ifCond .eq 13, 3) := by decide +kernel
theorem dX2_holeStart_20 : decode cX2_holeStart 20 = .ok (.iload_n 2, 1) := by decide +kernel
theorem dX2_holeStart_21 : decode cX2_holeStart 21 = .ok (.iload_n 1, 1) := by decide +kernel
theorem dX2_holeStart_22 : decode cX2_holeStart 22 = .ok (.if_icmp .ne 5, 3) := by decide +kernel
theorem dX2_holeStart_25 : decode cX2_holeStart 25 = .ok (.iload_n 3, 1) := by decide +kernel
theorem dX2_holeStart_26 : decode cX2_holeStart 26 = .ok (.ireturn, 1) := by decide +kernel
theorem dX2_holeStart_27 : decode cX2_holeStart 27 = .ok (.iinc 2 1, 3) := by decide +kernel
theorem dX2_holeStart_30 : decode cX2_holeStart 30 = .ok (.iinc 3 1, 3) := by decide +kernel
theorem dX2_holeStart_33 : decode cX2_holeStart 33 = .ok (.goto (-29), 3) := by decide +kernel
theorem dX2_holeStart_36 : decode cX2_holeStart 36 = .ok (.aload_n 0, 1) := by decide +kernel
theorem dX2_holeStart_37 : decode cX2_holeStart 37 = .ok (.getfield 18, 3) := by decide +kernel
theorem dX2_holeStart_40 : decode cX2_holeStart 40 = .ok (.iconst (-1), 1) := by decide +kernel
theorem dX2_holeStart_41 : decode cX2_holeStart 41 = .ok (.if_icmp .ne 15, 3) := by decide +kernel
theorem dX2_holeStart_44 : decode cX2_holeStart 44 = .ok (.iload_n 2, 1) := by decide +kernel
theorem dX2_holeStart_45 : decode cX2_holeStart 45 = .ok (.iload_n 1, 1) := by decide +kernel
theorem dX2_holeStart_46 : decode cX2_holeStart 46 = .ok (.if_icmp .ne 10, 3) := by decide +kernel
theorem dX2_holeStart_49 : decode cX2_holeStart 49 = .ok (.aload_n 0, 1) := by decide +kernel
theorem dX2_holeStart_50 : decode cX2_holeStart 50 = .ok (.getfield 30, 3) := by decide +kernel
theorem dX2_holeStart_53 : decode cX2_holeStart 53 = .ok (.goto 4, 3) := by decide +kernel
theorem dX2_holeStart_56 : decode cX2_holeStart 56 = .ok (.iconst (-1), 1) := by decide +kernel
theorem dX2_holeStart_57 : decode cX2_holeStart 57 = .ok (.ireturn, 1) := by decide +kernel
/-! X2_init -/
theorem dX2_init_0 : decode cX2_init 0 = .ok (.aload_n 0, 1) := by decide +kernel
theorem dX2_init_1 : decode cX2_init 1 = .ok (.invokespecial 3, 3) := by decide +kernel
theorem dX2_init_4 : decode cX2_init 4 = .ok (.aload_n 0, 1) := by decide +kernel
theorem dX2_init_5 : decode cX2_init 5 = .ok (.iconst (-1), 1) := by decide +kernel
theorem dX2_init_6 : decode cX2_init 6 = .ok (.putfield 11, 3) := by decide +kernel
theorem dX2_init_9 : decode cX2_init 9 = .ok (.aload_n 0, 1) := by decide +kernel
theorem dX2_init_10 : decode cX2_init 10 = .ok (.iconst 0, 1) := by decide +kernel
theorem dX2_init_11 : decode cX2_init 11 = .ok (.putfield 15, 3) := by decide +kernel
theorem dX2_init_14 : decode cX2_init 14 = .ok (.aload_n 0, 1) := by decide +kernel
theorem dX2_init_15 : decode cX2_init 15 = .ok (.iconst (-1), 1) := by decide +kernel
theorem dX2_init_16 : decode cX2_init 16 = .ok (.putfield 18, 3) := by decide +kernel
theorem dX2_init_19 : decode cX2_init 19 = .ok (.aload_n 0, 1) := by decide +kernel
theorem dX2_init_20 : decode cX2_init 20 = .ok (.iconst 0, 1) := by decide +kernel
theorem dX2_init_21 : decode cX2_init 21 = .ok (.putfield 21, 3) := by decide +kernel
theorem dX2_init_24 : decode cX2_init 24 = .ok (.aload_n 0, 1) := by decide +kernel
theorem dX2_init_25 : decode cX2_init 25 = .ok (.iconst 0, 1) := by decide +kernel
theorem dX2_init_26 : decode cX2_init 26 = .ok (.putfield 24, 3) := by decide +kernel
theorem dX2_init_29 : decode cX2_init 29 = .ok (.aload_n 0, 1) := by decide +kernel
theorem dX2_init_30 : decode cX2_init 30 = .ok (.iconst 0, 1) := by decide +kernel
theorem dX2_init_31 : decode cX2_init 31 = .ok (.putfield 27, 3) := by decide +kernel
theorem dX2_init_34 : decode cX2_init 34 = .ok (.aload_n 0, 1) := by decide +kernel
theorem dX2_init_35 : decode cX2_init 35 = .ok (.iconst 0, 1) := by decide +kernel
theorem dX2_init_36 : decode cX2_init 36 = .ok (.putfield 30, 3) := by decide +kernel
theorem dX2_init_39 : decode cX2_init 39 = .ok (.aload_n 0, 1) := by decide +kernel
theorem dX2_init_40 : decode cX2_init 40 = .ok (.iconst 0, 1) := by decide +kernel
theorem dX2_init_41 : decode cX2_init 41 = .ok (.newarray .int, 2) := by decide +kernel
theorem dX2_init_43 : decode cX2_init 43 = .ok (.putfield 33, 3) := by decide +kernel
theorem dX2_init_46 : decode cX2_init 46 = .ok (.return_, 1) := by decide +kernel
/-! X2_isAtOdds -/
theorem dX2_isAtOdds_0 : decode cX2_isAtOdds 0 = .ok (.iload_n 2, 1) := by decide +kernel
theorem dX2_isAtOdds_1 : decode cX2_isAtOdds 1 = .ok (.ifCond .eq 33, 3) := by decide +kernel
theorem dX2_isAtOdds_4 : decode cX2_isAtOdds 4 = .ok (.aload_n 0, 1) := by decide +kernel
theorem dX2_isAtOdds_5 : decode cX2_isAtOdds 5 = .ok (.getfield 18, 3) := by decide +kernel
theorem dX2_isAtOdds_8 : decode cX2_isAtOdds 8 = .ok (.iconst (-1), 1) := by decide +kernel
theorem dX2_isAtOdds_9 : decode cX2_isAtOdds 9 = .ok (.if_icmp .eq 11, 3) := by decide +kernel
theorem dX2_isAtOdds_12 : decode cX2_isAtOdds 12 = .ok (.aload_n 0, 1) := by decide +kernel
theorem dX2_isAtOdds_13 : decode cX2_isAtOdds 13 = .ok (.getfield 18, 3) := by decide +kernel
theorem dX2_isAtOdds_16 : decode cX2_isAtOdds 16 = .ok (.iload_n 1, 1) := by decide +kernel
theorem dX2_isAtOdds_17 : decode cX2_isAtOdds 17 = .ok (.if_icmp .ne 11, 3) := by decide +kernel
theorem dX2_isAtOdds_20 : decode cX2_isAtOdds 20 = .ok (.aload_n 0, 1) := by decide +kernel
theorem dX2_isAtOdds_21 : decode cX2_isAtOdds 21 = .ok (.getfield 30, 3) := by decide +kernel
theorem dX2_isAtOdds_24 : decode cX2_isAtOdds 24 = .ok (.iload_n 1, 1) := by decide +kernel
theorem dX2_isAtOdds_25 : decode cX2_isAtOdds 25 = .ok (.if_icmp .le 7, 3) := by decide +kernel
theorem dX2_isAtOdds_28 : decode cX2_isAtOdds 28 = .ok (.iconst 1, 1) := by decide +kernel
theorem dX2_isAtOdds_29 : decode cX2_isAtOdds 29 = .ok (.goto 4, 3) := by decide +kernel
theorem dX2_isAtOdds_32 : decode cX2_isAtOdds 32 = .ok (.iconst 0, 1) := by decide +kernel
theorem dX2_isAtOdds_33 : decode cX2_isAtOdds 33 = .ok (.ireturn, 1) := by decide +kernel
theorem dX2_isAtOdds_34 : decode cX2_isAtOdds 34 = .ok (.aload_n 0, 1) := by decide +kernel
theorem dX2_isAtOdds_35 : decode cX2_isAtOdds 35 = .ok (.getfield 18, 3) := by decide +kernel
theorem dX2_isAtOdds_38 : decode cX2_isAtOdds 38 = .ok (.iconst (-1), 1) := by decide +kernel
theorem dX2_isAtOdds_39 : decode cX2_isAtOdds 39 = .ok (.if_icmp .eq 15, 3) := by decide +kernel
theorem dX2_isAtOdds_42 : decode cX2_isAtOdds 42 = .ok (.aload_n 0, 1) := by decide +kernel
theorem dX2_isAtOdds_43 : decode cX2_isAtOdds 43 = .ok (.getfield 18, 3) := by decide +kernel
theorem dX2_isAtOdds_46 : decode cX2_isAtOdds 46 = .ok (.iload_n 1, 1) := by decide +kernel
theorem dX2_isAtOdds_47 : decode cX2_isAtOdds 47 = .ok (.if_icmp .ge 7, 3) := by decide +kernel
theorem dX2_isAtOdds_50 : decode cX2_isAtOdds 50 = .ok (.iconst 1, 1) := by decide +kernel
theorem dX2_isAtOdds_51 : decode cX2_isAtOdds 51 = .ok (.goto 4, 3) := by decide +kernel
theorem dX2_isAtOdds_54 : decode cX2_isAtOdds 54 = .ok (.iconst 0, 1) := by decide +kernel
theorem dX2_isAtOdds_55 : decode cX2_isAtOdds 55 = .ok (.ireturn, 1) := by decide +kernel
/-! X2_isHoleStart -/
theorem dX2_isHoleStart_0 : decode cX2_isHoleStart 0 = .ok (.aload_n 0, 1) := by decide +kernel
theorem dX2_isHoleStart_1 : decode cX2_isHoleStart 1 = .ok (.iload_n 1, 1) := by decide +kernel
theorem dX2_isHoleStart_2 : decode cX2_isHoleStart 2 = .ok (.invokevirtual 70, 3) := by decide +kernel
theorem dX2_isHoleStart_5 : decode cX2_isHoleStart 5 = .ok (.ifCond .ne 21, 3) := by decide +kernel
theorem dX2_isHoleStart_8 : decode cX2_isHoleStart 8 = .ok (.iload_n 1, 1) := by decide +kernel
theorem dX2_isHoleStart_9 : decode cX2_isHoleStart 9 = .ok (.ifCond .eq 13, 3) := by decide +kernel
theorem dX2_isHoleStart_12 : decode cX2_isHoleStart 12 = .ok (.aload_n 0, 1) := by decide +kernel
theorem dX2_isHoleStart_13 : decode cX2_isHoleStart 13 = .ok (.iload_n 1, 1) := by decide +kernel
theorem dX2_isHoleStart_14 : decode cX2_isHoleStart 14 = .ok (.iconst 1, 1) := by decide +kernel
theorem dX2_isHoleStart_15 : decode cX2_isHoleStart 15 = .ok (.isub, 1) := by decide +kernel
theorem dX2_isHoleStart_16 : decode cX2_isHoleStart 16 = .ok (.invokevirtual 70, 3) := by decide +kernel
theorem dX2_isHoleStart_19 : decode cX2_isHoleStart 19 = .ok (.ifCond .eq 7, 3) := by decide +kernel
theorem dX2_isHoleStart_22 : decode cX2_isHoleStart 22 = .ok (.iconst 1, 1) := by decide +kernel
theorem dX2_isHoleStart_23 : decode cX2_isHoleStart 23 = .ok (.goto 4, 3) := by decide +kernel
theorem dX2_isHoleStart_26 : decode cX2_isHoleStart 26 = .ok (.iconst 0, 1) := by decide +kernel
theorem dX2_isHoleStart_27 : decode cX2_isHoleStart 27 = .ok (.ireturn, 1) := by decide +kernel
/-! X2_isKnown -/
theorem dX2_isKnown_0 : decode cX2_isKnown 0 = .ok (.aload_n 0, 1) := by decide +kernel
theorem dX2_isKnown_1 : decode cX2_isKnown 1 = .ok (.iload_n 1, 1) := by decide +kernel
theorem dX2_isKnown_2 : decode cX2_isKnown 2 = .ok (.invokevirtual 37, 3) := by decide +kernel
theorem dX2_isKnown_5 : decode cX2_isKnown 5 = .ok (.iconst (-1), 1) := by decide +kernel
theorem dX2_isKnown_6 : decode cX2_isKnown 6 = .ok (.if_icmp .eq 7, 3) := by decide +kernel
theorem dX2_isKnown_9 : decode cX2_isKnown 9 = .ok (.iconst 1, 1) := by decide +kernel
theorem dX2_isKnown_10 : decode cX2_isKnown 10 = .ok (.goto 4, 3) := by decide +kernel
theorem dX2_isKnown_13 : decode cX2_isKnown 13 = .ok (.iconst 0, 1) := by decide +kernel
theorem dX2_isKnown_14 : decode cX2_isKnown 14 = .ok (.ireturn, 1) := by decide +kernel
/-! X2_isOtherTaken -/
theorem dX2_isOtherTaken_0 : decode cX2_isOtherTaken 0 = .ok (.iconst 0, 1) := by decide +kernel
theorem dX2_isOtherTaken_1 : decode cX2_isOtherTaken 1 = .ok (.istore 6, 2) := by decide +kernel
theorem dX2_isOtherTaken_3 : decode cX2_isOtherTaken 3 = .ok (.aload_n 0, 1) := by decide +kernel
theorem dX2_isOtherTaken_4 : decode cX2_isOtherTaken 4 = .ok (.iload_n 3, 1) := by decide +kernel
theorem dX2_isOtherTaken_5 : decode cX2_isOtherTaken 5 = .ok (.invokevirtual 41, 3) := by decide +kernel
theorem dX2_isOtherTaken_8 : decode cX2_isOtherTaken 8 = .ok (.iload_n 2, 1) := by decide +kernel
theorem dX2_isOtherTaken_9 : decode cX2_isOtherTaken 9 = .ok (.iconst 0, 1) := by decide +kernel
theorem dX2_isOtherTaken_10 : decode cX2_isOtherTaken 10 = .ok (.invokestatic 45, 3) := by decide +kernel
theorem dX2_isOtherTaken_13 : decode cX2_isOtherTaken 13 = .ok (.istore 7, 2) := by decide +kernel
theorem dX2_isOtherTaken_15 : decode cX2_isOtherTaken 15 = .ok (.iload 7, 2) := by decide +kernel
theorem dX2_isOtherTaken_17 : decode cX2_isOtherTaken 17 = .ok (.iload_n 3, 1) := by decide +kernel
theorem dX2_isOtherTaken_18 : decode cX2_isOtherTaken 18 = .ok (.if_icmp .ge 110, 3) := by decide +kernel
theorem dX2_isOtherTaken_21 : decode cX2_isOtherTaken 21 = .ok (.iload 7, 2) := by decide +kernel
theorem dX2_isOtherTaken_23 : decode cX2_isOtherTaken 23 = .ok (.aload_n 0, 1) := by decide +kernel
theorem dX2_isOtherTaken_24 : decode cX2_isOtherTaken 24 = .ok (.getfield 33, 3) := by decide +kernel
theorem dX2_isOtherTaken_27 : decode cX2_isOtherTaken 27 = .ok (.arraylength, 1) := by decide +kernel
theorem dX2_isOtherTaken_28 : decode cX2_isOtherTaken 28 = .ok (.if_icmp .ge 100, 3) := by decide +kernel
theorem dX2_isOtherTaken_31 : decode cX2_isOtherTaken 31 = .ok (.iload 4, 2) := by decide +kernel
theorem dX2_isOtherTaken_33 : decode cX2_isOtherTaken 33 = .ok (.iconst (-1), 1) := by decide +kernel
theorem dX2_isOtherTaken_34 : decode cX2_isOtherTaken 34 = .ok (.if_icmp .ne 12, 3) := by decide +kernel
theorem dX2_isOtherTaken_37 : decode cX2_isOtherTaken 37 = .ok (.aload_n 1, 1) := by decide +kernel
theorem dX2_isOtherTaken_38 : decode cX2_isOtherTaken 38 = .ok (.iload 7, 2) := by decide +kernel
theorem dX2_isOtherTaken_40 : decode cX2_isOtherTaken 40 = .ok (.invokevirtual 51, 3) := by decide +kernel
theorem dX2_isOtherTaken_43 : decode cX2_isOtherTaken 43 = .ok (.goto 5, 3) := by decide +kernel
theorem dX2_isOtherTaken_46 : decode cX2_isOtherTaken 46 = .ok (.iload 4, 2) := by decide +kernel
theorem dX2_isOtherTaken_48 : decode cX2_isOtherTaken 48 = .ok (.istore 8, 2) := by decide +kernel
theorem dX2_isOtherTaken_50 : decode cX2_isOtherTaken 50 = .ok (.aload_n 0, 1) := by decide +kernel
theorem dX2_isOtherTaken_51 : decode cX2_isOtherTaken 51 = .ok (.getfield 33, 3) := by decide +kernel
theorem dX2_isOtherTaken_54 : decode cX2_isOtherTaken 54 = .ok (.iload 7, 2) := by decide +kernel
theorem dX2_isOtherTaken_56 : decode cX2_isOtherTaken 56 = .ok (.iaload, 1) := by decide +kernel
theorem dX2_isOtherTaken_57 : decode cX2_isOtherTaken 57 = .ok (.iconst (-1), 1) := by decide +kernel
theorem dX2_isOtherTaken_58 : decode cX2_isOtherTaken 58 = .ok (.if_icmp .ne 25, 3) := by decide +kernel
theorem dX2_isOtherTaken_61 : decode cX2_isOtherTaken 61 = .ok (.aload_n 0, 1) := by decide +kernel
theorem dX2_isOtherTaken_62 : decode cX2_isOtherTaken 62 = .ok (.getfield 33, 3) := by decide +kernel
theorem dX2_isOtherTaken_65 : decode cX2_isOtherTaken 65 = .ok (.iload 7, 2) := by decide +kernel
theorem dX2_isOtherTaken_67 : decode cX2_isOtherTaken 67 = .ok (.iload 8, 2) := by decide +kernel
theorem dX2_isOtherTaken_69 : decode cX2_isOtherTaken 69 = .ok (.iastore, 1) := by decide +kernel
theorem dX2_isOtherTaken_70 : decode cX2_isOtherTaken 70 = .ok (.aload_n 0, 1) := by decide +kernel
theorem dX2_isOtherTaken_71 : decode cX2_isOtherTaken 71 = .ok (.dup, 1) := by decide +kernel
theorem dX2_isOtherTaken_72 : decode cX2_isOtherTaken 72 = .ok (.getfield 21, 3) := by decide +kernel
theorem dX2_isOtherTaken_75 : decode cX2_isOtherTaken 75 = .ok (.iconst 1, 1) := by decide +kernel
theorem dX2_isOtherTaken_76 : decode cX2_isOtherTaken 76 = .ok (.iadd, 1) := by decide +kernel
theorem dX2_isOtherTaken_77 : decode cX2_isOtherTaken 77 = .ok (.putfield 21, 3) := by decide +kernel
theorem dX2_isOtherTaken_80 : decode cX2_isOtherTaken 80 = .ok (.goto 42, 3) := by decide +kernel
theorem dX2_isOtherTaken_83 : decode cX2_isOtherTaken 83 = .ok (.aload_n 0, 1) := by decide +kernel
theorem dX2_isOtherTaken_84 : decode cX2_isOtherTaken 84 = .ok (.dup, 1) := by decide +kernel
theorem dX2_isOtherTaken_85 : decode cX2_isOtherTaken 85 = .ok (.getfield 24, 3) := by decide +kernel
theorem dX2_isOtherTaken_88 : decode cX2_isOtherTaken 88 = .ok (.iconst 1, 1) := by decide +kernel
theorem dX2_isOtherTaken_89 : decode cX2_isOtherTaken 89 = .ok (.iadd, 1) := by decide +kernel
theorem dX2_isOtherTaken_90 : decode cX2_isOtherTaken 90 = .ok (.putfield 24, 3) := by decide +kernel
theorem dX2_isOtherTaken_93 : decode cX2_isOtherTaken 93 = .ok (.aload_n 0, 1) := by decide +kernel
theorem dX2_isOtherTaken_94 : decode cX2_isOtherTaken 94 = .ok (.getfield 33, 3) := by decide +kernel
theorem dX2_isOtherTaken_97 : decode cX2_isOtherTaken 97 = .ok (.iload 7, 2) := by decide +kernel
theorem dX2_isOtherTaken_99 : decode cX2_isOtherTaken 99 = .ok (.iaload, 1) := by decide +kernel
theorem dX2_isOtherTaken_100 : decode cX2_isOtherTaken 100 = .ok (.iload 8, 2) := by decide +kernel
theorem dX2_isOtherTaken_102 : decode cX2_isOtherTaken 102 = .ok (.if_icmp .eq 6, 3) := by decide +kernel
theorem dX2_isOtherTaken_105 : decode cX2_isOtherTaken 105 = .ok (.iconst 1, 1) := by decide +kernel
theorem dX2_isOtherTaken_106 : decode cX2_isOtherTaken 106 = .ok (.istore 6, 2) := by decide +kernel
theorem dX2_isOtherTaken_108 : decode cX2_isOtherTaken 108 = .ok (.iload 5, 2) := by decide +kernel
theorem dX2_isOtherTaken_110 : decode cX2_isOtherTaken 110 = .ok (.ifCond .eq 12, 3) := by decide +kernel
theorem dX2_isOtherTaken_113 : decode cX2_isOtherTaken 113 = .ok (.aload_n 0, 1) := by decide +kernel
theorem dX2_isOtherTaken_114 : decode cX2_isOtherTaken 114 = .ok (.getfield 33, 3) := by decide +kernel
theorem dX2_isOtherTaken_117 : decode cX2_isOtherTaken 117 = .ok (.iload 7, 2) := by decide +kernel
theorem dX2_isOtherTaken_119 : decode cX2_isOtherTaken 119 = .ok (.iload 8, 2) := by decide +kernel
theorem dX2_isOtherTaken_121 : decode cX2_isOtherTaken 121 = .ok (.iastore, 1) := by decide +kernel
theorem dX2_isOtherTaken_122 : decode cX2_isOtherTaken 122 = .ok (.iinc 7 1, 3) := by decide +kernel
theorem dX2_isOtherTaken_125 : decode cX2_isOtherTaken 125 = .ok (.goto (-110), 3) := by decide +kernel
theorem dX2_isOtherTaken_128 : decode cX2_isOtherTaken 128 = .ok (.iload 6, 2) := by decide +kernel
theorem dX2_isOtherTaken_130 : decode cX2_isOtherTaken 130 = .ok (.ireturn, 1) := by decide +kernel
/-! X2_isOwn -/
theorem dX2_isOwn_0 : decode cX2_isOwn 0 = .ok (.aload_n 0, 1) := by decide +kernel
theorem dX2_isOwn_1 : decode cX2_isOwn 1 = .ok (.getfield 18, 3) := by decide +kernel
theorem dX2_isOwn_4 : decode cX2_isOwn 4 = .ok (.aload_n 1, 1) := by decide +kernel
theorem dX2_isOwn_5 : decode cX2_isOwn 5 = .ok (.getfield 59, 3) := by decide +kernel
theorem dX2_isOwn_8 : decode cX2_isOwn 8 = .ok (.if_icmp .eq 5, 3) := by decide +kernel
theorem dX2_isOwn_11 : decode cX2_isOwn 11 = .ok (.iconst 0, 1) := by decide +kernel
theorem dX2_isOwn_12 : decode cX2_isOwn 12 = .ok (.ireturn, 1) := by decide +kernel
theorem dX2_isOwn_13 : decode cX2_isOwn 13 = .ok (.iconst 0, 1) := by decide +kernel
theorem dX2_isOwn_14 : decode cX2_isOwn 14 = .ok (.istore_n 2, 1) := by decide +kernel
theorem dX2_isOwn_15 : decode cX2_isOwn 15 = .ok (.iload_n 2, 1) := by decide +kernel
theorem dX2_isOwn_16 : decode cX2_isOwn 16 = .ok (.aload_n 0, 1) := by decide +kernel
theorem dX2_isOwn_17 : decode cX2_isOwn 17 = .ok (.getfield 18, 3) := by decide +kernel
theorem dX2_isOwn_20 : decode cX2_isOwn 20 = .ok (.if_icmp .ge 24, 3) := by decide +kernel
theorem dX2_isOwn_23 : decode cX2_isOwn 23 = .ok (.aload_n 0, 1) := by decide +kernel
theorem dX2_isOwn_24 : decode cX2_isOwn 24 = .ok (.iload_n 2, 1) := by decide +kernel
theorem dX2_isOwn_25 : decode cX2_isOwn 25 = .ok (.invokevirtual 37, 3) := by decide +kernel
theorem dX2_isOwn_28 : decode cX2_isOwn 28 = .ok (.aload_n 1, 1) := by decide +kernel
theorem dX2_isOwn_29 : decode cX2_isOwn 29 = .ok (.iload_n 2, 1) := by decide +kernel
theorem dX2_isOwn_30 : decode cX2_isOwn 30 = .ok (.invokevirtual 51, 3) := by decide +kernel
theorem dX2_isOwn_33 : decode cX2_isOwn 33 = .ok (.if_icmp .eq 5, 3) := by decide +kernel
theorem dX2_isOwn_36 : decode cX2_isOwn 36 = .ok (.iconst 0, 1) := by decide +kernel
theorem dX2_isOwn_37 : decode cX2_isOwn 37 = .ok (.ireturn, 1) := by decide +kernel
theorem dX2_isOwn_38 : decode cX2_isOwn 38 = .ok (.iinc 2 1, 3) := by decide +kernel
theorem dX2_isOwn_41 : decode cX2_isOwn 41 = .ok (.goto (-26), 3) := by decide +kernel
theorem dX2_isOwn_44 : decode cX2_isOwn 44 = .ok (.iconst 1, 1) := by decide +kernel
theorem dX2_isOwn_45 : decode cX2_isOwn 45 = .ok (.ireturn, 1) := by decide +kernel
/-! X2_isWhole -/
theorem dX2_isWhole_0 : decode cX2_isWhole 0 = .ok (.aload_n 0, 1) := by decide +kernel
theorem dX2_isWhole_1 : decode cX2_isWhole 1 = .ok (.getfield 18, 3) := by decide +kernel
theorem dX2_isWhole_4 : decode cX2_isWhole 4 = .ok (.iconst (-1), 1) := by decide +kernel
theorem dX2_isWhole_5 : decode cX2_isWhole 5 = .ok (.if_icmp .eq 18, 3) := by decide +kernel
theorem dX2_isWhole_8 : decode cX2_isWhole 8 = .ok (.aload_n 0, 1) := by decide +kernel
theorem dX2_isWhole_9 : decode cX2_isWhole 9 = .ok (.getfield 21, 3) := by decide +kernel
theorem dX2_isWhole_12 : decode cX2_isWhole 12 = .ok (.aload_n 0, 1) := by decide +kernel
theorem dX2_isWhole_13 : decode cX2_isWhole 13 = .ok (.getfield 18, 3) := by decide +kernel
theorem dX2_isWhole_16 : decode cX2_isWhole 16 = .ok (.if_icmp .ne 7, 3) := by decide +kernel
theorem dX2_isWhole_19 : decode cX2_isWhole 19 = .ok (.iconst 1, 1) := by decide +kernel
theorem dX2_isWhole_20 : decode cX2_isWhole 20 = .ok (.goto 4, 3) := by decide +kernel
theorem dX2_isWhole_23 : decode cX2_isWhole 23 = .ok (.iconst 0, 1) := by decide +kernel
theorem dX2_isWhole_24 : decode cX2_isWhole 24 = .ok (.ireturn, 1) := by decide +kernel
/-! X2_limit -/
theorem dX2_limit_0 : decode cX2_limit 0 = .ok (.aload_n 0, 1) := by decide +kernel
theorem dX2_limit_1 : decode cX2_limit 1 = .ok (.getfield 18, 3) := by decide +kernel
theorem dX2_limit_4 : decode cX2_limit 4 = .ok (.iconst (-1), 1) := by decide +kernel
theorem dX2_limit_5 : decode cX2_limit 5 = .ok (.if_icmp .ne 10, 3) := by decide +kernel
theorem dX2_limit_8 : decode cX2_limit 8 = .ok (.aload_n 0, 1) := by decide +kernel
theorem dX2_limit_9 : decode cX2_limit 9 = .ok (.getfield 30, 3) := by decide +kernel
theorem dX2_limit_12 : decode cX2_limit 12 = .ok (.goto 7, 3) := by decide +kernel
theorem dX2_limit_15 : decode cX2_limit 15 = .ok (.aload_n 0, 1) := by decide +kernel
theorem dX2_limit_16 : decode cX2_limit 16 = .ok (.getfield 18, 3) := by decide +kernel
theorem dX2_limit_19 : decode cX2_limit 19 = .ok (.ireturn, 1) := by decide +kernel
/-! X2_missingFrom -/
theorem dX2_missingFrom_0 : decode cX2_missingFrom 0 = .ok (.aload_n 0, 1) := by decide +kernel
theorem dX2_missingFrom_1 : decode cX2_missingFrom 1 = .ok (.getfield 18, 3) := by decide +kernel
theorem dX2_missingFrom_4 : decode cX2_missingFrom 4 = .ok (.iconst (-1), 1) := by decide +kernel
theorem dX2_missingFrom_5 : decode cX2_missingFrom 5 = .ok (.if_icmp .ne 5, 3) := by decide +kernel
theorem dX2_missingFrom_8 : decode cX2_missingFrom 8 = .ok (.iconst (-1), 1) := by decide +kernel
theorem dX2_missingFrom_9 : decode cX2_missingFrom 9 = .ok (.ireturn, 1) := by decide +kernel
theorem dX2_missingFrom_10 : decode cX2_missingFrom 10 = .ok (.iconst 0, 1) := by decide +kernel
theorem dX2_missingFrom_11 : decode cX2_missingFrom 11 = .ok (.istore_n 3, 1) := by decide +kernel
theorem dX2_missingFrom_12 : decode cX2_missingFrom 12 = .ok (.iconst 0, 1) := by decide +kernel
theorem dX2_missingFrom_13 : decode cX2_missingFrom 13 = .ok (.istore 4, 2) := by decide +kernel
theorem dX2_missingFrom_15 : decode cX2_missingFrom 15 = .ok (.iload 4, 2) := by decide +kernel
theorem dX2_missingFrom_17 : decode cX2_missingFrom 17 = .ok (.aload_n 0, 1) := by decide +kernel
theorem dX2_missingFrom_18 : decode cX2_missingFrom 18 = .ok (.getfield 18, 3) := by decide +kernel
theorem dX2_missingFrom_21 : decode cX2_missingFrom 21 = .ok (.if_icmp .ge 33, 3) := by decide +kernel
theorem dX2_missingFrom_24 : decode cX2_missingFrom 24 = .ok (.aload_n 0, 1) := by decide +kernel
theorem dX2_missingFrom_25 : decode cX2_missingFrom 25 = .ok (.iload 4, 2) := by decide +kernel
theorem dX2_missingFrom_27 : decode cX2_missingFrom 27 = .ok (.invokevirtual 70, 3) := by decide +kernel
theorem dX2_missingFrom_30 : decode cX2_missingFrom 30 = .ok (.ifCond .ne 18, 3) := by decide +kernel
theorem dX2_missingFrom_33 : decode cX2_missingFrom 33 = .ok (.iload 4, 2) := by decide +kernel
theorem dX2_missingFrom_35 : decode cX2_missingFrom 35 = .ok (.iload_n 1, 1) := by decide +kernel
theorem dX2_missingFrom_36 : decode cX2_missingFrom 36 = .ok (.if_icmp .lt 9, 3) := by decide +kernel
theorem dX2_missingFrom_39 : decode cX2_missingFrom 39 = .ok (.iload 4, 2) := by decide +kernel
theorem dX2_missingFrom_41 : decode cX2_missingFrom 41 = .ok (.iload_n 2, 1) := by decide +kernel
theorem dX2_missingFrom_42 : decode cX2_missingFrom 42 = .ok (.if_icmp .lt 6, 3) := by decide +kernel
theorem dX2_missingFrom_45 : decode cX2_missingFrom 45 = .ok (.iinc 3 1, 3) := by decide +kernel
theorem dX2_missingFrom_48 : decode cX2_missingFrom 48 = .ok (.iinc 4 1, 3) := by decide +kernel
theorem dX2_missingFrom_51 : decode cX2_missingFrom 51 = .ok (.goto (-36), 3) := by decide +kernel
theorem dX2_missingFrom_54 : decode cX2_missingFrom 54 = .ok (.iload_n 3, 1) := by decide +kernel
theorem dX2_missingFrom_55 : decode cX2_missingFrom 55 = .ok (.ireturn, 1) := by decide +kernel
/-! X2_reach -/
theorem dX2_reach_0 : decode cX2_reach 0 = .ok (.aload_n 0, 1) := by decide +kernel
theorem dX2_reach_1 : decode cX2_reach 1 = .ok (.getfield 30, 3) := by decide +kernel
theorem dX2_reach_4 : decode cX2_reach 4 = .ok (.istore_n 2, 1) := by decide +kernel
theorem dX2_reach_5 : decode cX2_reach 5 = .ok (.iload_n 2, 1) := by decide +kernel
theorem dX2_reach_6 : decode cX2_reach 6 = .ok (.iload_n 1, 1) := by decide +kernel
theorem dX2_reach_7 : decode cX2_reach 7 = .ok (.if_icmp .ge 25, 3) := by decide +kernel
theorem dX2_reach_10 : decode cX2_reach 10 = .ok (.iload_n 2, 1) := by decide +kernel
theorem dX2_reach_11 : decode cX2_reach 11 = .ok (.aload_n 0, 1) := by decide +kernel
theorem dX2_reach_12 : decode cX2_reach 12 = .ok (.getfield 33, 3) := by decide +kernel
theorem dX2_reach_15 : decode cX2_reach 15 = .ok (.arraylength, 1) := by decide +kernel
theorem dX2_reach_16 : decode cX2_reach 16 = .ok (.if_icmp .ge 16, 3) := by decide +kernel
theorem dX2_reach_19 : decode cX2_reach 19 = .ok (.aload_n 0, 1) := by decide +kernel
theorem dX2_reach_20 : decode cX2_reach 20 = .ok (.getfield 33, 3) := by decide +kernel
theorem dX2_reach_23 : decode cX2_reach 23 = .ok (.iload_n 2, 1) := by decide +kernel
theorem dX2_reach_24 : decode cX2_reach 24 = .ok (.iconst (-1), 1) := by decide +kernel
theorem dX2_reach_25 : decode cX2_reach 25 = .ok (.iastore, 1) := by decide +kernel
theorem dX2_reach_26 : decode cX2_reach 26 = .ok (.iinc 2 1, 3) := by decide +kernel
theorem dX2_reach_29 : decode cX2_reach 29 = .ok (.goto (-24), 3) := by decide +kernel
theorem dX2_reach_32 : decode cX2_reach 32 = .ok (.aload_n 0, 1) := by decide +kernel
theorem dX2_reach_33 : decode cX2_reach 33 = .ok (.aload_n 0, 1) := by decide +kernel
theorem dX2_reach_34 : decode cX2_reach 34 = .ok (.getfield 30, 3) := by decide +kernel
theorem dX2_reach_37 : decode cX2_reach 37 = .ok (.iload_n 1, 1) := by decide +kernel
theorem dX2_reach_38 : decode cX2_reach 38 = .ok (.aload_n 0, 1) := by decide +kernel
theorem dX2_reach_39 : decode cX2_reach 39 = .ok (.getfield 33, 3) := by decide +kernel
theorem dX2_reach_42 : decode cX2_reach 42 = .ok (.arraylength, 1) := by decide +kernel
theorem dX2_reach_43 : decode cX2_reach 43 = .ok (.invokestatic 56, 3) := by decide +kernel
theorem dX2_reach_46 : decode cX2_reach 46 = .ok (.invokestatic 45, 3) := by decide +kernel
theorem dX2_reach_49 : decode cX2_reach 49 = .ok (.putfield 30, 3) := by decide +kernel
theorem dX2_reach_52 : decode cX2_reach 52 = .ok (.return_, 1) := by decide +kernel
/-! X2_valueAt -/
theorem dX2_valueAt_0 : decode cX2_valueAt 0 = .ok (.iload_n 1, 1) := by decide +kernel
theorem dX2_valueAt_1 : decode cX2_valueAt 1 = .ok (.ifCond .lt 29, 3) := by decide +kernel
theorem dX2_valueAt_4 : decode cX2_valueAt 4 = .ok (.iload_n 1, 1) := by decide +kernel
theorem dX2_valueAt_5 : decode cX2_valueAt 5 = .ok (.aload_n 0, 1) := by decide +kernel
theorem dX2_valueAt_6 : decode cX2_valueAt 6 = .ok (.getfield 30, 3) := by decide +kernel
theorem dX2_valueAt_9 : decode cX2_valueAt 9 = .ok (.if_icmp .ge 21, 3) := by decide +kernel
theorem dX2_valueAt_12 : decode cX2_valueAt 12 = .ok (.iload_n 1, 1) := by decide +kernel
theorem dX2_valueAt_13 : decode cX2_valueAt 13 = .ok (.aload_n 0, 1) := by decide +kernel
theorem dX2_valueAt_14 : decode cX2_valueAt 14 = .ok (.getfield 33, 3) := by decide +kernel
theorem dX2_valueAt_17 : decode cX2_valueAt 17 = .ok (.arraylength, 1) := by decide +kernel
theorem dX2_valueAt_18 : decode cX2_valueAt 18 = .ok (.if_icmp .ge 12, 3) := by decide +kernel
theorem dX2_valueAt_21 : decode cX2_valueAt 21 = .ok (.aload_n 0, 1) := by decide +kernel
theorem dX2_valueAt_22 : decode cX2_valueAt 22 = .ok (.getfield 33, 3) := by decide +kernel
theorem dX2_valueAt_25 : decode cX2_valueAt 25 = .ok (.iload_n 1, 1) := by decide +kernel
theorem dX2_valueAt_26 : decode cX2_valueAt 26 = .ok (.iaload, 1) := by decide +kernel
theorem dX2_valueAt_27 : decode cX2_valueAt 27 = .ok (.goto 4, 3) := by decide +kernel
theorem dX2_valueAt_30 : decode cX2_valueAt 30 = .ok (.iconst (-1), 1) := by decide +kernel
theorem dX2_valueAt_31 : decode cX2_valueAt 31 = .ok (.ireturn, 1) := by decide +kernel
/-! X3_begin -/
theorem dX3_begin_0 : decode cX3_begin 0 = .ok (.aload_n 0, 1) := by decide +kernel
theorem dX3_begin_1 : decode cX3_begin 1 = .ok (.iload_n 1, 1) := by decide +kernel
theorem dX3_begin_2 : decode cX3_begin 2 = .ok (.putfield 7, 3) := by decide +kernel
theorem dX3_begin_5 : decode cX3_begin 5 = .ok (.aload_n 0, 1) := by decide +kernel
theorem dX3_begin_6 : decode cX3_begin 6 = .ok (.iload_n 2, 1) := by decide +kernel
theorem dX3_begin_7 : decode cX3_begin 7 = .ok (.putfield 13, 3) := by decide +kernel
theorem dX3_begin_10 : decode cX3_begin 10 = .ok (.aload_n 0, 1) := by decide +kernel
theorem dX3_begin_11 : decode cX3_begin 11 = .ok (.iload_n 3, 1) := by decide +kernel
theorem dX3_begin_12 : decode cX3_begin 12 = .ok (.putfield 16, 3) := by decide +kernel
theorem dX3_begin_15 : decode cX3_begin 15 = .ok (.aload_n 0, 1) := by decide +kernel
theorem dX3_begin_16 : decode cX3_begin 16 = .ok (.iconst 0, 1) := by decide +kernel
theorem dX3_begin_17 : decode cX3_begin 17 = .ok (.putfield 19, 3) := by decide +kernel
theorem dX3_begin_20 : decode cX3_begin 20 = .ok (.aload_n 0, 1) := by decide +kernel
theorem dX3_begin_21 : decode cX3_begin 21 = .ok (.iconst 0, 1) := by decide +kernel
theorem dX3_begin_22 : decode cX3_begin 22 = .ok (.putfield 22, 3) := by decide +kernel
theorem dX3_begin_25 : decode cX3_begin 25 = .ok (.aload_n 0, 1) := by decide +kernel
theorem dX3_begin_26 : decode cX3_begin 26 = .ok (.iconst 0, 1) := by decide +kernel
theorem dX3_begin_27 : decode cX3_begin 27 = .ok (.putfield 25, 3) := by decide +kernel
theorem dX3_begin_30 : decode cX3_begin 30 = .ok (.aload_n 0, 1) := by decide +kernel
theorem dX3_begin_31 : decode cX3_begin 31 = .ok (.iconst 0, 1) := by decide +kernel
theorem dX3_begin_32 : decode cX3_begin 32 = .ok (.putfield 28, 3) := by decide +kernel
theorem dX3_begin_35 : decode cX3_begin 35 = .ok (.aload_n 0, 1) := by decide +kernel
theorem dX3_begin_36 : decode cX3_begin 36 = .ok (.iconst 0, 1) := by decide +kernel
theorem dX3_begin_37 : decode cX3_begin 37 = .ok (.putfield 31, 3) := by decide +kernel
theorem dX3_begin_40 : decode cX3_begin 40 = .ok (.return_, 1) := by decide +kernel
/-! X3_copyFrom -/
theorem dX3_copyFrom_0 : decode cX3_copyFrom 0 = .ok (.aload_n 0, 1) := by decide +kernel
theorem dX3_copyFrom_1 : decode cX3_copyFrom 1 = .ok (.aload_n 1, 1) := by decide +kernel
theorem dX3_copyFrom_2 : decode cX3_copyFrom 2 = .ok (.getfield 7, 3) := by decide +kernel
theorem dX3_copyFrom_5 : decode cX3_copyFrom 5 = .ok (.putfield 7, 3) := by decide +kernel
theorem dX3_copyFrom_8 : decode cX3_copyFrom 8 = .ok (.aload_n 0, 1) := by decide +kernel
theorem dX3_copyFrom_9 : decode cX3_copyFrom 9 = .ok (.aload_n 1, 1) := by decide +kernel
theorem dX3_copyFrom_10 : decode cX3_copyFrom 10 = .ok (.getfield 13, 3) := by decide +kernel
theorem dX3_copyFrom_13 : decode cX3_copyFrom 13 = .ok (.putfield 13, 3) := by decide +kernel
theorem dX3_copyFrom_16 : decode cX3_copyFrom 16 = .ok (.aload_n 0, 1) := by decide +kernel
theorem dX3_copyFrom_17 : decode cX3_copyFrom 17 = .ok (.aload_n 1, 1) := by decide +kernel
theorem dX3_copyFrom_18 : decode cX3_copyFrom 18 = .ok (.getfield 16, 3) := by decide +kernel
theorem dX3_copyFrom_21 : decode cX3_copyFrom 21 = .ok (.putfield 16, 3) := by decide +kernel
theorem dX3_copyFrom_24 : decode cX3_copyFrom 24 = .ok (.aload_n 0, 1) := by decide +kernel
theorem dX3_copyFrom_25 : decode cX3_copyFrom 25 = .ok (.aload_n 1, 1) := by decide +kernel
theorem dX3_copyFrom_26 : decode cX3_copyFrom 26 = .ok (.getfield 19, 3) := by decide +kernel
theorem dX3_copyFrom_29 : decode cX3_copyFrom 29 = .ok (.putfield 19, 3) := by decide +kernel
theorem dX3_copyFrom_32 : decode cX3_copyFrom 32 = .ok (.aload_n 0, 1) := by decide +kernel
theorem dX3_copyFrom_33 : decode cX3_copyFrom 33 = .ok (.aload_n 1, 1) := by decide +kernel
theorem dX3_copyFrom_34 : decode cX3_copyFrom 34 = .ok (.getfield 22, 3) := by decide +kernel
theorem dX3_copyFrom_37 : decode cX3_copyFrom 37 = .ok (.putfield 22, 3) := by decide +kernel
theorem dX3_copyFrom_40 : decode cX3_copyFrom 40 = .ok (.aload_n 0, 1) := by decide +kernel
theorem dX3_copyFrom_41 : decode cX3_copyFrom 41 = .ok (.aload_n 1, 1) := by decide +kernel
theorem dX3_copyFrom_42 : decode cX3_copyFrom 42 = .ok (.getfield 25, 3) := by decide +kernel
theorem dX3_copyFrom_45 : decode cX3_copyFrom 45 = .ok (.putfield 25, 3) := by decide +kernel
theorem dX3_copyFrom_48 : decode cX3_copyFrom 48 = .ok (.aload_n 0, 1) := by decide +kernel
theorem dX3_copyFrom_49 : decode cX3_copyFrom 49 = .ok (.aload_n 1, 1) := by decide +kernel
theorem dX3_copyFrom_50 : decode cX3_copyFrom 50 = .ok (.getfield 28, 3) := by decide +kernel
theorem dX3_copyFrom_53 : decode cX3_copyFrom 53 = .ok (.putfield 28, 3) := by decide +kernel
theorem dX3_copyFrom_56 : decode cX3_copyFrom 56 = .ok (.aload_n 0, 1) := by decide +kernel
theorem dX3_copyFrom_57 : decode cX3_copyFrom 57 = .ok (.aload_n 1, 1) := by decide +kernel
theorem dX3_copyFrom_58 : decode cX3_copyFrom 58 = .ok (.getfield 31, 3) := by decide +kernel
theorem dX3_copyFrom_61 : decode cX3_copyFrom 61 = .ok (.putfield 31, 3) := by decide +kernel
theorem dX3_copyFrom_64 : decode cX3_copyFrom 64 = .ok (.return_, 1) := by decide +kernel
/-! X3_init -/
theorem dX3_init_0 : decode cX3_init 0 = .ok (.aload_n 0, 1) := by decide +kernel
theorem dX3_init_1 : decode cX3_init 1 = .ok (.invokespecial 1, 3) := by decide +kernel
theorem dX3_init_4 : decode cX3_init 4 = .ok (.aload_n 0, 1) := by decide +kernel
theorem dX3_init_5 : decode cX3_init 5 = .ok (.iconst 0, 1) := by decide +kernel
theorem dX3_init_6 : decode cX3_init 6 = .ok (.putfield 7, 3) := by decide +kernel
theorem dX3_init_9 : decode cX3_init 9 = .ok (.aload_n 0, 1) := by decide +kernel
theorem dX3_init_10 : decode cX3_init 10 = .ok (.iconst 0, 1) := by decide +kernel
theorem dX3_init_11 : decode cX3_init 11 = .ok (.putfield 13, 3) := by decide +kernel
theorem dX3_init_14 : decode cX3_init 14 = .ok (.aload_n 0, 1) := by decide +kernel
theorem dX3_init_15 : decode cX3_init 15 = .ok (.iconst 0, 1) := by decide +kernel
theorem dX3_init_16 : decode cX3_init 16 = .ok (.putfield 16, 3) := by decide +kernel
theorem dX3_init_19 : decode cX3_init 19 = .ok (.aload_n 0, 1) := by decide +kernel
theorem dX3_init_20 : decode cX3_init 20 = .ok (.iconst 0, 1) := by decide +kernel
theorem dX3_init_21 : decode cX3_init 21 = .ok (.putfield 19, 3) := by decide +kernel
theorem dX3_init_24 : decode cX3_init 24 = .ok (.aload_n 0, 1) := by decide +kernel
theorem dX3_init_25 : decode cX3_init 25 = .ok (.iconst 0, 1) := by decide +kernel
theorem dX3_init_26 : decode cX3_init 26 = .ok (.putfield 22, 3) := by decide +kernel
theorem dX3_init_29 : decode cX3_init 29 = .ok (.aload_n 0, 1) := by decide +kernel
theorem dX3_init_30 : decode cX3_init 30 = .ok (.iconst 0, 1) := by decide +kernel
theorem dX3_init_31 : decode cX3_init 31 = .ok (.putfield 25, 3) := by decide +kernel
theorem dX3_init_34 : decode cX3_init 34 = .ok (.aload_n 0, 1) := by decide +kernel
theorem dX3_init_35 : decode cX3_init 35 = .ok (.iconst 0, 1) := by decide +kernel
theorem dX3_init_36 : decode cX3_init 36 = .ok (.putfield 28, 3) := by decide +kernel
theorem dX3_init_39 : decode cX3_init 39 = .ok (.aload_n 0, 1) := by decide +kernel
theorem dX3_init_40 : decode cX3_init 40 = .ok (.iconst 0, 1) := by decide +kernel
theorem dX3_init_41 : decode cX3_init 41 = .ok (.putfield 31, 3) := by decide +kernel
theorem dX3_init_44 : decode cX3_init 44 = .ok (.return_, 1) := by decide +kernel
/-! X4_aboutOf -/
theorem dX4_aboutOf_0 : decode cX4_aboutOf 0 = .ok (.iload_n 1, 1) := by decide +kernel
theorem dX4_aboutOf_1 : decode cX4_aboutOf 1 = .ok (.ifCond .lt 21, 3) := by decide +kernel
theorem dX4_aboutOf_4 : decode cX4_aboutOf 4 = .ok (.iload_n 1, 1) := by decide +kernel
theorem dX4_aboutOf_5 : decode cX4_aboutOf 5 = .ok (.aload_n 0, 1) := by decide +kernel
theorem dX4_aboutOf_6 : decode cX4_aboutOf 6 = .ok (.getfield 18, 3) := by decide +kernel
theorem dX4_aboutOf_9 : decode cX4_aboutOf 9 = .ok (.arraylength, 1) := by decide +kernel
theorem dX4_aboutOf_10 : decode cX4_aboutOf 10 = .ok (.if_icmp .ge 12, 3) := by decide +kernel
theorem dX4_aboutOf_13 : decode cX4_aboutOf 13 = .ok (.aload_n 0, 1) := by decide +kernel
theorem dX4_aboutOf_14 : decode cX4_aboutOf 14 = .ok (.getfield 18, 3) := by decide +kernel
theorem dX4_aboutOf_17 : decode cX4_aboutOf 17 = .ok (.iload_n 1, 1) := by decide +kernel
theorem dX4_aboutOf_18 : decode cX4_aboutOf 18 = .ok (.iaload, 1) := by decide +kernel
theorem dX4_aboutOf_19 : decode cX4_aboutOf 19 = .ok (.goto 4, 3) := by decide +kernel
theorem dX4_aboutOf_22 : decode cX4_aboutOf 22 = .ok (.iconst 0, 1) := by decide +kernel
theorem dX4_aboutOf_23 : decode cX4_aboutOf 23 = .ok (.ireturn, 1) := by decide +kernel
/-! X4_answers -/
theorem dX4_answers_0 : decode cX4_answers 0 = .ok (.iconst 0, 1) := by decide +kernel
theorem dX4_answers_1 : decode cX4_answers 1 = .ok (.istore_n 1, 1) := by decide +kernel
theorem dX4_answers_2 : decode cX4_answers 2 = .ok (.iconst 0, 1) := by decide +kernel
theorem dX4_answers_3 : decode cX4_answers 3 = .ok (.istore_n 2, 1) := by decide +kernel
theorem dX4_answers_4 : decode cX4_answers 4 = .ok (.iload_n 2, 1) := by decide +kernel
theorem dX4_answers_5 : decode cX4_answers 5 = .ok (.aload_n 0, 1) := by decide +kernel
theorem dX4_answers_6 : decode cX4_answers 6 = .ok (.getfield 21, 3) := by decide +kernel
theorem dX4_answers_9 : decode cX4_answers 9 = .ok (.if_icmp .ge 21, 3) := by decide +kernel
theorem dX4_answers_12 : decode cX4_answers 12 = .ok (.aload_n 0, 1) := by decide +kernel
theorem dX4_answers_13 : decode cX4_answers 13 = .ok (.iload_n 2, 1) := by decide +kernel
theorem dX4_answers_14 : decode cX4_answers 14 = .ok (.invokevirtual 53, 3) := by decide +kernel
theorem dX4_answers_17 : decode cX4_answers 17 = .ok (.iconst (-1), 1) := by decide +kernel
theorem dX4_answers_18 : decode cX4_answers 18 = .ok (.if_icmp .ne 6, 3) := by decide +kernel
theorem dX4_answers_21 : decode cX4_answers 21 = .ok (.iinc 1 1, 3) := by decide +kernel
theorem dX4_answers_24 : decode cX4_answers 24 = .ok (.iinc 2 1, 3) := by decide +kernel
theorem dX4_answers_27 : decode cX4_answers 27 = .ok (.goto (-23), 3) := by decide +kernel
theorem dX4_answers_30 : decode cX4_answers 30 = .ok (.iload_n 1, 1) := by decide +kernel
theorem dX4_answers_31 : decode cX4_answers 31 = .ok (.ireturn, 1) := by decide +kernel
/-! X4_clear -/
theorem dX4_clear_0 : decode cX4_clear 0 = .ok (.aload_n 0, 1) := by decide +kernel
theorem dX4_clear_1 : decode cX4_clear 1 = .ok (.iconst 0, 1) := by decide +kernel
theorem dX4_clear_2 : decode cX4_clear 2 = .ok (.putfield 21, 3) := by decide +kernel
theorem dX4_clear_5 : decode cX4_clear 5 = .ok (.aload_n 0, 1) := by decide +kernel
theorem dX4_clear_6 : decode cX4_clear 6 = .ok (.ldc 25, 2) := by decide +kernel
theorem dX4_clear_8 : decode cX4_clear 8 = .ok (.putfield 26, 3) := by decide +kernel
theorem dX4_clear_11 : decode cX4_clear 11 = .ok (.return_, 1) := by decide +kernel
/-! X4_copyFrom -/
theorem dX4_copyFrom_0 : decode cX4_copyFrom 0 = .ok (.aload_n 0, 1) := by decide +kernel
theorem dX4_copyFrom_1 : decode cX4_copyFrom 1 = .ok (.getfield 9, 3) := by decide +kernel
theorem dX4_copyFrom_4 : decode cX4_copyFrom 4 = .ok (.arraylength, 1) := by decide +kernel
theorem dX4_copyFrom_5 : decode cX4_copyFrom 5 = .ok (.aload_n 1, 1) := by decide +kernel
theorem dX4_copyFrom_6 : decode cX4_copyFrom 6 = .ok (.getfield 21, 3) := by decide +kernel
theorem dX4_copyFrom_9 : decode cX4_copyFrom 9 = .ok (.if_icmp .ge 12, 3) := by decide +kernel
theorem dX4_copyFrom_12 : decode cX4_copyFrom 12 = .ok (.aload_n 0, 1) := by decide +kernel
theorem dX4_copyFrom_13 : decode cX4_copyFrom 13 = .ok (.aload_n 1, 1) := by decide +kernel
theorem dX4_copyFrom_14 : decode cX4_copyFrom 14 = .ok (.getfield 9, 3) := by decide +kernel
theorem dX4_copyFrom_17 : decode cX4_copyFrom 17 = .ok (.arraylength, 1) := by decide +kernel
theorem dX4_copyFrom_18 : decode cX4_copyFrom 18 = .ok (.invokevirtual 29, 3) := by decide +kernel
theorem dX4_copyFrom_21 : decode cX4_copyFrom 21 = .ok (.aload_n 0, 1) := by decide +kernel
theorem dX4_copyFrom_22 : decode cX4_copyFrom 22 = .ok (.iconst 0, 1) := by decide +kernel
theorem dX4_copyFrom_23 : decode cX4_copyFrom 23 = .ok (.aload_n 1, 1) := by decide +kernel
theorem dX4_copyFrom_24 : decode cX4_copyFrom 24 = .ok (.getfield 21, 3) := by decide +kernel
theorem dX4_copyFrom_27 : decode cX4_copyFrom 27 = .ok (.aload_n 0, 1) := by decide +kernel
theorem dX4_copyFrom_28 : decode cX4_copyFrom 28 = .ok (.getfield 9, 3) := by decide +kernel
theorem dX4_copyFrom_31 : decode cX4_copyFrom 31 = .ok (.arraylength, 1) := by decide +kernel
theorem dX4_copyFrom_32 : decode cX4_copyFrom 32 = .ok (.invokestatic 37, 3) := by decide +kernel
theorem dX4_copyFrom_35 : decode cX4_copyFrom 35 = .ok (.invokestatic 60, 3) := by decide +kernel
theorem dX4_copyFrom_38 : decode cX4_copyFrom 38 = .ok (.putfield 21, 3) := by decide +kernel
theorem dX4_copyFrom_41 : decode cX4_copyFrom 41 = .ok (.aload_n 0, 1) := by decide +kernel
theorem dX4_copyFrom_42 : decode cX4_copyFrom 42 = .ok (.aload_n 1, 1) := by decide +kernel
theorem dX4_copyFrom_43 : decode cX4_copyFrom 43 = .ok (.getfield 26, 3) := by decide +kernel
theorem dX4_copyFrom_46 : decode cX4_copyFrom 46 = .ok (.putfield 26, 3) := by decide +kernel
theorem dX4_copyFrom_49 : decode cX4_copyFrom 49 = .ok (.aload_n 1, 1) := by decide +kernel
theorem dX4_copyFrom_50 : decode cX4_copyFrom 50 = .ok (.getfield 9, 3) := by decide +kernel
theorem dX4_copyFrom_53 : decode cX4_copyFrom 53 = .ok (.iconst 0, 1) := by decide +kernel
theorem dX4_copyFrom_54 : decode cX4_copyFrom 54 = .ok (.aload_n 0, 1) := by decide +kernel
theorem dX4_copyFrom_55 : decode cX4_copyFrom 55 = .ok (.getfield 9, 3) := by decide +kernel
theorem dX4_copyFrom_58 : decode cX4_copyFrom 58 = .ok (.iconst 0, 1) := by decide +kernel
theorem dX4_copyFrom_59 : decode cX4_copyFrom 59 = .ok (.aload_n 0, 1) := by decide +kernel
theorem dX4_copyFrom_60 : decode cX4_copyFrom 60 = .ok (.getfield 21, 3) := by decide +kernel
theorem dX4_copyFrom_63 : decode cX4_copyFrom 63 = .ok (.invokestatic 63, 3) := by decide +kernel
theorem dX4_copyFrom_66 : decode cX4_copyFrom 66 = .ok (.aload_n 1, 1) := by decide +kernel
theorem dX4_copyFrom_67 : decode cX4_copyFrom 67 = .ok (.getfield 15, 3) := by decide +kernel
theorem dX4_copyFrom_70 : decode cX4_copyFrom 70 = .ok (.iconst 0, 1) := by decide +kernel
theorem dX4_copyFrom_71 : decode cX4_copyFrom 71 = .ok (.aload_n 0, 1) := by decide +kernel
theorem dX4_copyFrom_72 : decode cX4_copyFrom 72 = .ok (.getfield 15, 3) := by decide +kernel
theorem dX4_copyFrom_75 : decode cX4_copyFrom 75 = .ok (.iconst 0, 1) := by decide +kernel
theorem dX4_copyFrom_76 : decode cX4_copyFrom 76 = .ok (.aload_n 0, 1) := by decide +kernel
theorem dX4_copyFrom_77 : decode cX4_copyFrom 77 = .ok (.getfield 21, 3) := by decide +kernel
theorem dX4_copyFrom_80 : decode cX4_copyFrom 80 = .ok (.invokestatic 63, 3) := by decide +kernel
theorem dX4_copyFrom_83 : decode cX4_copyFrom 83 = .ok (.aload_n 1, 1) := by decide +kernel
theorem dX4_copyFrom_84 : decode cX4_copyFrom 84 = .ok (.getfield 18, 3) := by decide +kernel
theorem dX4_copyFrom_87 : decode cX4_copyFrom 87 = .ok (.iconst 0, 1) := by decide +kernel
theorem dX4_copyFrom_88 : decode cX4_copyFrom 88 = .ok (.aload_n 0, 1) := by decide +kernel
theorem dX4_copyFrom_89 : decode cX4_copyFrom 89 = .ok (.getfield 18, 3) := by decide +kernel
theorem dX4_copyFrom_92 : decode cX4_copyFrom 92 = .ok (.iconst 0, 1) := by decide +kernel
theorem dX4_copyFrom_93 : decode cX4_copyFrom 93 = .ok (.aload_n 0, 1) := by decide +kernel
theorem dX4_copyFrom_94 : decode cX4_copyFrom 94 = .ok (.getfield 21, 3) := by decide +kernel
theorem dX4_copyFrom_97 : decode cX4_copyFrom 97 = .ok (.invokestatic 63, 3) := by decide +kernel
theorem dX4_copyFrom_100 : decode cX4_copyFrom 100 = .ok (.return_, 1) := by decide +kernel
/-! X4_cut -/
theorem dX4_cut_0 : decode cX4_cut 0 = .ok (.aload_n 0, 1) := by decide +kernel
theorem dX4_cut_1 : decode cX4_cut 1 = .ok (.iload_n 1, 1) := by decide +kernel
theorem dX4_cut_2 : decode cX4_cut 2 = .ok (.putfield 21, 3) := by decide +kernel
theorem dX4_cut_5 : decode cX4_cut 5 = .ok (.aload_n 0, 1) := by decide +kernel
theorem dX4_cut_6 : decode cX4_cut 6 = .ok (.ldc 25, 2) := by decide +kernel
theorem dX4_cut_8 : decode cX4_cut 8 = .ok (.putfield 26, 3) := by decide +kernel
theorem dX4_cut_11 : decode cX4_cut 11 = .ok (.iconst 0, 1) := by decide +kernel
theorem dX4_cut_12 : decode cX4_cut 12 = .ok (.istore_n 2, 1) := by decide +kernel
theorem dX4_cut_13 : decode cX4_cut 13 = .ok (.iload_n 2, 1) := by decide +kernel
theorem dX4_cut_14 : decode cX4_cut 14 = .ok (.aload_n 0, 1) := by decide +kernel
theorem dX4_cut_15 : decode cX4_cut 15 = .ok (.getfield 21, 3) := by decide +kernel
theorem dX4_cut_18 : decode cX4_cut 18 = .ok (.if_icmp .ge 28, 3) := by decide +kernel
theorem dX4_cut_21 : decode cX4_cut 21 = .ok (.aload_n 0, 1) := by decide +kernel
theorem dX4_cut_22 : decode cX4_cut 22 = .ok (.aload_n 0, 1) := by decide +kernel
theorem dX4_cut_23 : decode cX4_cut 23 = .ok (.getfield 26, 3) := by decide +kernel
theorem dX4_cut_26 : decode cX4_cut 26 = .ok (.aload_n 0, 1) := by decide +kernel
theorem dX4_cut_27 : decode cX4_cut 27 = .ok (.getfield 9, 3) := by decide +kernel
theorem dX4_cut_30 : decode cX4_cut 30 = .ok (.iload_n 2, 1) := by decide +kernel
theorem dX4_cut_31 : decode cX4_cut 31 = .ok (.invokestatic 49, 3) := by decide +kernel
theorem dX4_cut_34 : decode cX4_cut 34 = .ok (.invokestatic 37, 3) := by decide +kernel
theorem dX4_cut_37 : decode cX4_cut 37 = .ok (.putfield 26, 3) := by decide +kernel
theorem dX4_cut_40 : decode cX4_cut 40 = .ok (.iinc 2 1, 3) := by decide +kernel
theorem dX4_cut_43 : decode cX4_cut 43 = .ok (.goto (-30), 3) := by decide +kernel
theorem dX4_cut_46 : decode cX4_cut 46 = .ok (.return_, 1) := by decide +kernel
/-! X4_init -/
theorem dX4_init_0 : decode cX4_init 0 = .ok (.aload_n 0, 1) := by decide +kernel
theorem dX4_init_1 : decode cX4_init 1 = .ok (.invokespecial 3, 3) := by decide +kernel
theorem dX4_init_4 : decode cX4_init 4 = .ok (.aload_n 0, 1) := by decide +kernel
theorem dX4_init_5 : decode cX4_init 5 = .ok (.bipush 16, 2) := by decide +kernel
theorem dX4_init_7 : decode cX4_init 7 = .ok (.newarray .int, 2) := by decide +kernel
theorem dX4_init_9 : decode cX4_init 9 = .ok (.putfield 9, 3) := by decide +kernel
theorem dX4_init_12 : decode cX4_init 12 = .ok (.aload_n 0, 1) := by decide +kernel
theorem dX4_init_13 : decode cX4_init 13 = .ok (.bipush 16, 2) := by decide +kernel
theorem dX4_init_15 : decode cX4_init 15 = .ok (.newarray .int, 2) := by decide +kernel
theorem dX4_init_17 : decode cX4_init 17 = .ok (.putfield 15, 3) := by decide +kernel
theorem dX4_init_20 : decode cX4_init 20 = .ok (.aload_n 0, 1) := by decide +kernel
theorem dX4_init_21 : decode cX4_init 21 = .ok (.bipush 16, 2) := by decide +kernel
theorem dX4_init_23 : decode cX4_init 23 = .ok (.newarray .int, 2) := by decide +kernel
theorem dX4_init_25 : decode cX4_init 25 = .ok (.putfield 18, 3) := by decide +kernel
theorem dX4_init_28 : decode cX4_init 28 = .ok (.aload_n 0, 1) := by decide +kernel
theorem dX4_init_29 : decode cX4_init 29 = .ok (.iconst 0, 1) := by decide +kernel
theorem dX4_init_30 : decode cX4_init 30 = .ok (.putfield 21, 3) := by decide +kernel
theorem dX4_init_33 : decode cX4_init 33 = .ok (.aload_n 0, 1) := by decide +kernel
theorem dX4_init_34 : decode cX4_init 34 = .ok (.ldc 25, 2) := by decide +kernel
theorem dX4_init_36 : decode cX4_init 36 = .ok (.putfield 26, 3) := by decide +kernel
theorem dX4_init_39 : decode cX4_init 39 = .ok (.return_, 1) := by decide +kernel
/-! X4_isDue -/
theorem dX4_isDue_0 : decode cX4_isDue 0 = .ok (.aload_n 0, 1) := by decide +kernel
theorem dX4_isDue_1 : decode cX4_isDue 1 = .ok (.getfield 9, 3) := by decide +kernel
theorem dX4_isDue_4 : decode cX4_isDue 4 = .ok (.iload_n 1, 1) := by decide +kernel
theorem dX4_isDue_5 : decode cX4_isDue 5 = .ok (.invokestatic 49, 3) := by decide +kernel
theorem dX4_isDue_8 : decode cX4_isDue 8 = .ok (.iload_n 2, 1) := by decide +kernel
theorem dX4_isDue_9 : decode cX4_isDue 9 = .ok (.if_icmp .gt 7, 3) := by decide +kernel
theorem dX4_isDue_12 : decode cX4_isDue 12 = .ok (.iconst 1, 1) := by decide +kernel
theorem dX4_isDue_13 : decode cX4_isDue 13 = .ok (.goto 4, 3) := by decide +kernel
theorem dX4_isDue_16 : decode cX4_isDue 16 = .ok (.iconst 0, 1) := by decide +kernel
theorem dX4_isDue_17 : decode cX4_isDue 17 = .ok (.ireturn, 1) := by decide +kernel
/-! X4_move -/
theorem dX4_move_0 : decode cX4_move 0 = .ok (.aload_n 0, 1) := by decide +kernel
theorem dX4_move_1 : decode cX4_move 1 = .ok (.getfield 9, 3) := by decide +kernel
theorem dX4_move_4 : decode cX4_move 4 = .ok (.iload_n 2, 1) := by decide +kernel
theorem dX4_move_5 : decode cX4_move 5 = .ok (.aload_n 0, 1) := by decide +kernel
theorem dX4_move_6 : decode cX4_move 6 = .ok (.getfield 9, 3) := by decide +kernel
theorem dX4_move_9 : decode cX4_move 9 = .ok (.iload_n 1, 1) := by decide +kernel
theorem dX4_move_10 : decode cX4_move 10 = .ok (.invokestatic 49, 3) := by decide +kernel
theorem dX4_move_13 : decode cX4_move 13 = .ok (.invokestatic 33, 3) := by decide +kernel
theorem dX4_move_16 : decode cX4_move 16 = .ok (.aload_n 0, 1) := by decide +kernel
theorem dX4_move_17 : decode cX4_move 17 = .ok (.getfield 15, 3) := by decide +kernel
theorem dX4_move_20 : decode cX4_move 20 = .ok (.iload_n 2, 1) := by decide +kernel
theorem dX4_move_21 : decode cX4_move 21 = .ok (.aload_n 0, 1) := by decide +kernel
theorem dX4_move_22 : decode cX4_move 22 = .ok (.iload_n 1, 1) := by decide +kernel
theorem dX4_move_23 : decode cX4_move 23 = .ok (.invokevirtual 53, 3) := by decide +kernel
theorem dX4_move_26 : decode cX4_move 26 = .ok (.invokestatic 33, 3) := by decide +kernel
theorem dX4_move_29 : decode cX4_move 29 = .ok (.aload_n 0, 1) := by decide +kernel
theorem dX4_move_30 : decode cX4_move 30 = .ok (.getfield 18, 3) := by decide +kernel
theorem dX4_move_33 : decode cX4_move 33 = .ok (.iload_n 2, 1) := by decide +kernel
theorem dX4_move_34 : decode cX4_move 34 = .ok (.aload_n 0, 1) := by decide +kernel
theorem dX4_move_35 : decode cX4_move 35 = .ok (.iload_n 1, 1) := by decide +kernel
theorem dX4_move_36 : decode cX4_move 36 = .ok (.invokevirtual 57, 3) := by decide +kernel
theorem dX4_move_39 : decode cX4_move 39 = .ok (.invokestatic 33, 3) := by decide +kernel
theorem dX4_move_42 : decode cX4_move 42 = .ok (.return_, 1) := by decide +kernel
/-! X4_put -/
theorem dX4_put_0 : decode cX4_put 0 = .ok (.aload_n 0, 1) := by decide +kernel
theorem dX4_put_1 : decode cX4_put 1 = .ok (.getfield 21, 3) := by decide +kernel
theorem dX4_put_4 : decode cX4_put 4 = .ok (.ifCond .lt 13, 3) := by decide +kernel
theorem dX4_put_7 : decode cX4_put 7 = .ok (.aload_n 0, 1) := by decide +kernel
theorem dX4_put_8 : decode cX4_put 8 = .ok (.getfield 21, 3) := by decide +kernel
theorem dX4_put_11 : decode cX4_put 11 = .ok (.sipush 2100, 3) := by decide +kernel
theorem dX4_put_14 : decode cX4_put 14 = .ok (.if_icmp .lt 4, 3) := by decide +kernel
theorem dX4_put_17 : decode cX4_put 17 = .ok (.return_, 1) := by decide +kernel
theorem dX4_put_18 : decode cX4_put 18 = .ok (.aload_n 0, 1) := by decide +kernel
theorem dX4_put_19 : decode cX4_put 19 = .ok (.getfield 21, 3) := by decide +kernel
theorem dX4_put_22 : decode cX4_put 22 = .ok (.aload_n 0, 1) := by decide +kernel
theorem dX4_put_23 : decode cX4_put 23 = .ok (.getfield 9, 3) := by decide +kernel
theorem dX4_put_26 : decode cX4_put 26 = .ok (.arraylength, 1) := by decide +kernel
theorem dX4_put_27 : decode cX4_put 27 = .ok (.if_icmp .lt 14, 3) := by decide +kernel
theorem dX4_put_30 : decode cX4_put 30 = .ok (.aload_n 0, 1) := by decide +kernel
theorem dX4_put_31 : decode cX4_put 31 = .ok (.aload_n 0, 1) := by decide +kernel
theorem dX4_put_32 : decode cX4_put 32 = .ok (.getfield 9, 3) := by decide +kernel
theorem dX4_put_35 : decode cX4_put 35 = .ok (.arraylength, 1) := by decide +kernel
theorem dX4_put_36 : decode cX4_put 36 = .ok (.iconst 2, 1) := by decide +kernel
theorem dX4_put_37 : decode cX4_put 37 = .ok (.imul, 1) := by decide +kernel
theorem dX4_put_38 : decode cX4_put 38 = .ok (.invokevirtual 29, 3) := by decide +kernel
theorem dX4_put_41 : decode cX4_put 41 = .ok (.aload_n 0, 1) := by decide +kernel
theorem dX4_put_42 : decode cX4_put 42 = .ok (.getfield 9, 3) := by decide +kernel
theorem dX4_put_45 : decode cX4_put 45 = .ok (.aload_n 0, 1) := by decide +kernel
theorem dX4_put_46 : decode cX4_put 46 = .ok (.getfield 21, 3) := by decide +kernel
theorem dX4_put_49 : decode cX4_put 49 = .ok (.iload_n 1, 1) := by decide +kernel
theorem dX4_put_50 : decode cX4_put 50 = .ok (.invokestatic 33, 3) := by decide +kernel
theorem dX4_put_53 : decode cX4_put 53 = .ok (.aload_n 0, 1) := by decide +kernel
theorem dX4_put_54 : decode cX4_put 54 = .ok (.getfield 15, 3) := by decide +kernel
theorem dX4_put_57 : decode cX4_put 57 = .ok (.aload_n 0, 1) := by decide +kernel
theorem dX4_put_58 : decode cX4_put 58 = .ok (.getfield 21, 3) := by decide +kernel
theorem dX4_put_61 : decode cX4_put 61 = .ok (.iload_n 2, 1) := by decide +kernel
theorem dX4_put_62 : decode cX4_put 62 = .ok (.invokestatic 33, 3) := by decide +kernel
theorem dX4_put_65 : decode cX4_put 65 = .ok (.aload_n 0, 1) := by decide +kernel
theorem dX4_put_66 : decode cX4_put 66 = .ok (.getfield 18, 3) := by decide +kernel
theorem dX4_put_69 : decode cX4_put 69 = .ok (.aload_n 0, 1) := by decide +kernel
theorem dX4_put_70 : decode cX4_put 70 = .ok (.getfield 21, 3) := by decide +kernel
theorem dX4_put_73 : decode cX4_put 73 = .ok (.iload_n 3, 1) := by decide +kernel
theorem dX4_put_74 : decode cX4_put 74 = .ok (.invokestatic 33, 3) := by decide +kernel
theorem dX4_put_77 : decode cX4_put 77 = .ok (.aload_n 0, 1) := by decide +kernel
theorem dX4_put_78 : decode cX4_put 78 = .ok (.dup, 1) := by decide +kernel
theorem dX4_put_79 : decode cX4_put 79 = .ok (.getfield 21, 3) := by decide +kernel
theorem dX4_put_82 : decode cX4_put 82 = .ok (.iconst 1, 1) := by decide +kernel
theorem dX4_put_83 : decode cX4_put 83 = .ok (.iadd, 1) := by decide +kernel
theorem dX4_put_84 : decode cX4_put 84 = .ok (.putfield 21, 3) := by decide +kernel
theorem dX4_put_87 : decode cX4_put 87 = .ok (.aload_n 0, 1) := by decide +kernel
theorem dX4_put_88 : decode cX4_put 88 = .ok (.aload_n 0, 1) := by decide +kernel
theorem dX4_put_89 : decode cX4_put 89 = .ok (.getfield 26, 3) := by decide +kernel
theorem dX4_put_92 : decode cX4_put 92 = .ok (.iload_n 1, 1) := by decide +kernel
theorem dX4_put_93 : decode cX4_put 93 = .ok (.invokestatic 37, 3) := by decide +kernel
theorem dX4_put_96 : decode cX4_put 96 = .ok (.putfield 26, 3) := by decide +kernel
theorem dX4_put_99 : decode cX4_put 99 = .ok (.return_, 1) := by decide +kernel
/-! X4_toldBy -/
theorem dX4_toldBy_0 : decode cX4_toldBy 0 = .ok (.aload_n 0, 1) := by decide +kernel
theorem dX4_toldBy_1 : decode cX4_toldBy 1 = .ok (.getfield 15, 3) := by decide +kernel
theorem dX4_toldBy_4 : decode cX4_toldBy 4 = .ok (.iload_n 1, 1) := by decide +kernel
theorem dX4_toldBy_5 : decode cX4_toldBy 5 = .ok (.invokestatic 49, 3) := by decide +kernel
theorem dX4_toldBy_8 : decode cX4_toldBy 8 = .ok (.ireturn, 1) := by decide +kernel
/-! X4_widen -/
theorem dX4_widen_0 : decode cX4_widen 0 = .ok (.aload_n 0, 1) := by decide +kernel
theorem dX4_widen_1 : decode cX4_widen 1 = .ok (.aload_n 0, 1) := by decide +kernel
theorem dX4_widen_2 : decode cX4_widen 2 = .ok (.getfield 9, 3) := by decide +kernel
theorem dX4_widen_5 : decode cX4_widen 5 = .ok (.iload_n 1, 1) := by decide +kernel
theorem dX4_widen_6 : decode cX4_widen 6 = .ok (.invokestatic 43, 3) := by decide +kernel
theorem dX4_widen_9 : decode cX4_widen 9 = .ok (.putfield 9, 3) := by decide +kernel
theorem dX4_widen_12 : decode cX4_widen 12 = .ok (.aload_n 0, 1) := by decide +kernel
theorem dX4_widen_13 : decode cX4_widen 13 = .ok (.aload_n 0, 1) := by decide +kernel
theorem dX4_widen_14 : decode cX4_widen 14 = .ok (.getfield 15, 3) := by decide +kernel
theorem dX4_widen_17 : decode cX4_widen 17 = .ok (.iload_n 1, 1) := by decide +kernel
theorem dX4_widen_18 : decode cX4_widen 18 = .ok (.invokestatic 43, 3) := by decide +kernel
theorem dX4_widen_21 : decode cX4_widen 21 = .ok (.putfield 15, 3) := by decide +kernel
theorem dX4_widen_24 : decode cX4_widen 24 = .ok (.aload_n 0, 1) := by decide +kernel
theorem dX4_widen_25 : decode cX4_widen 25 = .ok (.aload_n 0, 1) := by decide +kernel
theorem dX4_widen_26 : decode cX4_widen 26 = .ok (.getfield 18, 3) := by decide +kernel
theorem dX4_widen_29 : decode cX4_widen 29 = .ok (.iload_n 1, 1) := by decide +kernel
theorem dX4_widen_30 : decode cX4_widen 30 = .ok (.invokestatic 43, 3) := by decide +kernel
theorem dX4_widen_33 : decode cX4_widen 33 = .ok (.putfield 18, 3) := by decide +kernel
theorem dX4_widen_36 : decode cX4_widen 36 = .ok (.return_, 1) := by decide +kernel
/-! X5_clear -/
theorem dX5_clear_0 : decode cX5_clear 0 = .ok (.aload_n 0, 1) := by decide +kernel
theorem dX5_clear_1 : decode cX5_clear 1 = .ok (.getfield 30, 3) := by decide +kernel
theorem dX5_clear_4 : decode cX5_clear 4 = .ok (.iconst (-1), 1) := by decide +kernel
theorem dX5_clear_5 : decode cX5_clear 5 = .ok (.invokestatic 52, 3) := by decide +kernel
theorem dX5_clear_8 : decode cX5_clear 8 = .ok (.aload_n 0, 1) := by decide +kernel
theorem dX5_clear_9 : decode cX5_clear 9 = .ok (.getfield 33, 3) := by decide +kernel
theorem dX5_clear_12 : decode cX5_clear 12 = .ok (.iconst (-1), 1) := by decide +kernel
theorem dX5_clear_13 : decode cX5_clear 13 = .ok (.invokestatic 52, 3) := by decide +kernel
theorem dX5_clear_16 : decode cX5_clear 16 = .ok (.aload_n 0, 1) := by decide +kernel
theorem dX5_clear_17 : decode cX5_clear 17 = .ok (.getfield 36, 3) := by decide +kernel
theorem dX5_clear_20 : decode cX5_clear 20 = .ok (.iconst 0, 1) := by decide +kernel
theorem dX5_clear_21 : decode cX5_clear 21 = .ok (.invokestatic 52, 3) := by decide +kernel
theorem dX5_clear_24 : decode cX5_clear 24 = .ok (.aload_n 0, 1) := by decide +kernel
theorem dX5_clear_25 : decode cX5_clear 25 = .ok (.iconst 0, 1) := by decide +kernel
theorem dX5_clear_26 : decode cX5_clear 26 = .ok (.putfield 42, 3) := by decide +kernel
theorem dX5_clear_29 : decode cX5_clear 29 = .ok (.aload_n 0, 1) := by decide +kernel
theorem dX5_clear_30 : decode cX5_clear 30 = .ok (.iconst (-1), 1) := by decide +kernel
theorem dX5_clear_31 : decode cX5_clear 31 = .ok (.putfield 46, 3) := by decide +kernel
theorem dX5_clear_34 : decode cX5_clear 34 = .ok (.aload_n 0, 1) := by decide +kernel
theorem dX5_clear_35 : decode cX5_clear 35 = .ok (.iconst 0, 1) := by decide +kernel
theorem dX5_clear_36 : decode cX5_clear 36 = .ok (.putfield 49, 3) := by decide +kernel
theorem dX5_clear_39 : decode cX5_clear 39 = .ok (.return_, 1) := by decide +kernel
/-! X5_copyFrom -/
theorem dX5_copyFrom_0 : decode cX5_copyFrom 0 = .ok (.aload_n 0, 1) := by decide +kernel
theorem dX5_copyFrom_1 : decode cX5_copyFrom 1 = .ok (.iconst 0, 1) := by decide +kernel
theorem dX5_copyFrom_2 : decode cX5_copyFrom 2 = .ok (.aload_n 1, 1) := by decide +kernel
theorem dX5_copyFrom_3 : decode cX5_copyFrom 3 = .ok (.getfield 42, 3) := by decide +kernel
theorem dX5_copyFrom_6 : decode cX5_copyFrom 6 = .ok (.sipush 300, 3) := by decide +kernel
theorem dX5_copyFrom_9 : decode cX5_copyFrom 9 = .ok (.invokestatic 76, 3) := by decide +kernel
theorem dX5_copyFrom_12 : decode cX5_copyFrom 12 = .ok (.invokestatic 82, 3) := by decide +kernel
theorem dX5_copyFrom_15 : decode cX5_copyFrom 15 = .ok (.putfield 42, 3) := by decide +kernel
theorem dX5_copyFrom_18 : decode cX5_copyFrom 18 = .ok (.aload_n 0, 1) := by decide +kernel
theorem dX5_copyFrom_19 : decode cX5_copyFrom 19 = .ok (.aload_n 1, 1) := by decide +kernel
theorem dX5_copyFrom_20 : decode cX5_copyFrom 20 = .ok (.getfield 46, 3) := by decide +kernel
theorem dX5_copyFrom_23 : decode cX5_copyFrom 23 = .ok (.putfield 46, 3) := by decide +kernel
theorem dX5_copyFrom_26 : decode cX5_copyFrom 26 = .ok (.aload_n 0, 1) := by decide +kernel
theorem dX5_copyFrom_27 : decode cX5_copyFrom 27 = .ok (.aload_n 1, 1) := by decide +kernel
theorem dX5_copyFrom_28 : decode cX5_copyFrom 28 = .ok (.getfield 49, 3) := by decide +kernel
theorem dX5_copyFrom_31 : decode cX5_copyFrom 31 = .ok (.putfield 49, 3) := by decide +kernel
theorem dX5_copyFrom_34 : decode cX5_copyFrom 34 = .ok (.aload_n 1, 1) := by decide +kernel
theorem dX5_copyFrom_35 : decode cX5_copyFrom 35 = .ok (.getfield 9, 3) := by decide +kernel
theorem dX5_copyFrom_38 : decode cX5_copyFrom 38 = .ok (.iconst 0, 1) := by decide +kernel
theorem dX5_copyFrom_39 : decode cX5_copyFrom 39 = .ok (.aload_n 0, 1) := by decide +kernel
theorem dX5_copyFrom_40 : decode cX5_copyFrom 40 = .ok (.getfield 9, 3) := by decide +kernel
theorem dX5_copyFrom_43 : decode cX5_copyFrom 43 = .ok (.iconst 0, 1) := by decide +kernel
theorem dX5_copyFrom_44 : decode cX5_copyFrom 44 = .ok (.aload_n 0, 1) := by decide +kernel
theorem dX5_copyFrom_45 : decode cX5_copyFrom 45 = .ok (.getfield 42, 3) := by decide +kernel
theorem dX5_copyFrom_48 : decode cX5_copyFrom 48 = .ok (.invokestatic 62, 3) := by decide +kernel
theorem dX5_copyFrom_51 : decode cX5_copyFrom 51 = .ok (.aload_n 1, 1) := by decide +kernel
theorem dX5_copyFrom_52 : decode cX5_copyFrom 52 = .ok (.getfield 15, 3) := by decide +kernel
theorem dX5_copyFrom_55 : decode cX5_copyFrom 55 = .ok (.iconst 0, 1) := by decide +kernel
theorem dX5_copyFrom_56 : decode cX5_copyFrom 56 = .ok (.aload_n 0, 1) := by decide +kernel
theorem dX5_copyFrom_57 : decode cX5_copyFrom 57 = .ok (.getfield 15, 3) := by decide +kernel
theorem dX5_copyFrom_60 : decode cX5_copyFrom 60 = .ok (.iconst 0, 1) := by decide +kernel
theorem dX5_copyFrom_61 : decode cX5_copyFrom 61 = .ok (.aload_n 0, 1) := by decide +kernel
theorem dX5_copyFrom_62 : decode cX5_copyFrom 62 = .ok (.getfield 42, 3) := by decide +kernel
theorem dX5_copyFrom_65 : decode cX5_copyFrom 65 = .ok (.invokestatic 62, 3) := by decide +kernel
theorem dX5_copyFrom_68 : decode cX5_copyFrom 68 = .ok (.aload_n 1, 1) := by decide +kernel
theorem dX5_copyFrom_69 : decode cX5_copyFrom 69 = .ok (.getfield 18, 3) := by decide +kernel
theorem dX5_copyFrom_72 : decode cX5_copyFrom 72 = .ok (.iconst 0, 1) := by decide +kernel
theorem dX5_copyFrom_73 : decode cX5_copyFrom 73 = .ok (.aload_n 0, 1) := by decide +kernel
theorem dX5_copyFrom_74 : decode cX5_copyFrom 74 = .ok (.getfield 18, 3) := by decide +kernel
theorem dX5_copyFrom_77 : decode cX5_copyFrom 77 = .ok (.iconst 0, 1) := by decide +kernel
theorem dX5_copyFrom_78 : decode cX5_copyFrom 78 = .ok (.aload_n 0, 1) := by decide +kernel
theorem dX5_copyFrom_79 : decode cX5_copyFrom 79 = .ok (.getfield 42, 3) := by decide +kernel
theorem dX5_copyFrom_82 : decode cX5_copyFrom 82 = .ok (.invokestatic 62, 3) := by decide +kernel
theorem dX5_copyFrom_85 : decode cX5_copyFrom 85 = .ok (.aload_n 1, 1) := by decide +kernel
theorem dX5_copyFrom_86 : decode cX5_copyFrom 86 = .ok (.getfield 21, 3) := by decide +kernel
theorem dX5_copyFrom_89 : decode cX5_copyFrom 89 = .ok (.iconst 0, 1) := by decide +kernel
theorem dX5_copyFrom_90 : decode cX5_copyFrom 90 = .ok (.aload_n 0, 1) := by decide +kernel
theorem dX5_copyFrom_91 : decode cX5_copyFrom 91 = .ok (.getfield 21, 3) := by decide +kernel
theorem dX5_copyFrom_94 : decode cX5_copyFrom 94 = .ok (.iconst 0, 1) := by decide +kernel
theorem dX5_copyFrom_95 : decode cX5_copyFrom 95 = .ok (.aload_n 0, 1) := by decide +kernel
theorem dX5_copyFrom_96 : decode cX5_copyFrom 96 = .ok (.getfield 42, 3) := by decide +kernel
theorem dX5_copyFrom_99 : decode cX5_copyFrom 99 = .ok (.invokestatic 62, 3) := by decide +kernel
theorem dX5_copyFrom_102 : decode cX5_copyFrom 102 = .ok (.aload_n 1, 1) := by decide +kernel
theorem dX5_copyFrom_103 : decode cX5_copyFrom 103 = .ok (.getfield 24, 3) := by decide +kernel
theorem dX5_copyFrom_106 : decode cX5_copyFrom 106 = .ok (.iconst 0, 1) := by decide +kernel
theorem dX5_copyFrom_107 : decode cX5_copyFrom 107 = .ok (.aload_n 0, 1) := by decide +kernel
theorem dX5_copyFrom_108 : decode cX5_copyFrom 108 = .ok (.getfield 24, 3) := by decide +kernel
theorem dX5_copyFrom_111 : decode cX5_copyFrom 111 = .ok (.iconst 0, 1) := by decide +kernel
theorem dX5_copyFrom_112 : decode cX5_copyFrom 112 = .ok (.aload_n 0, 1) := by decide +kernel
theorem dX5_copyFrom_113 : decode cX5_copyFrom 113 = .ok (.getfield 42, 3) := by decide +kernel
theorem dX5_copyFrom_116 : decode cX5_copyFrom 116 = .ok (.invokestatic 62, 3) := by decide +kernel
theorem dX5_copyFrom_119 : decode cX5_copyFrom 119 = .ok (.aload_n 1, 1) := by decide +kernel
theorem dX5_copyFrom_120 : decode cX5_copyFrom 120 = .ok (.getfield 27, 3) := by decide +kernel
theorem dX5_copyFrom_123 : decode cX5_copyFrom 123 = .ok (.iconst 0, 1) := by decide +kernel
theorem dX5_copyFrom_124 : decode cX5_copyFrom 124 = .ok (.aload_n 0, 1) := by decide +kernel
theorem dX5_copyFrom_125 : decode cX5_copyFrom 125 = .ok (.getfield 27, 3) := by decide +kernel
theorem dX5_copyFrom_128 : decode cX5_copyFrom 128 = .ok (.iconst 0, 1) := by decide +kernel
theorem dX5_copyFrom_129 : decode cX5_copyFrom 129 = .ok (.aload_n 0, 1) := by decide +kernel
theorem dX5_copyFrom_130 : decode cX5_copyFrom 130 = .ok (.getfield 42, 3) := by decide +kernel
theorem dX5_copyFrom_133 : decode cX5_copyFrom 133 = .ok (.invokestatic 62, 3) := by decide +kernel
theorem dX5_copyFrom_136 : decode cX5_copyFrom 136 = .ok (.aload_n 1, 1) := by decide +kernel
theorem dX5_copyFrom_137 : decode cX5_copyFrom 137 = .ok (.getfield 30, 3) := by decide +kernel
theorem dX5_copyFrom_140 : decode cX5_copyFrom 140 = .ok (.iconst 0, 1) := by decide +kernel
theorem dX5_copyFrom_141 : decode cX5_copyFrom 141 = .ok (.aload_n 0, 1) := by decide +kernel
theorem dX5_copyFrom_142 : decode cX5_copyFrom 142 = .ok (.getfield 30, 3) := by decide +kernel
theorem dX5_copyFrom_145 : decode cX5_copyFrom 145 = .ok (.iconst 0, 1) := by decide +kernel
theorem dX5_copyFrom_146 : decode cX5_copyFrom 146 = .ok (.bipush 6, 2) := by decide +kernel
theorem dX5_copyFrom_148 : decode cX5_copyFrom 148 = .ok (.invokestatic 62, 3) := by decide +kernel
theorem dX5_copyFrom_151 : decode cX5_copyFrom 151 = .ok (.aload_n 1, 1) := by decide +kernel
theorem dX5_copyFrom_152 : decode cX5_copyFrom 152 = .ok (.getfield 33, 3) := by decide +kernel
theorem dX5_copyFrom_155 : decode cX5_copyFrom 155 = .ok (.iconst 0, 1) := by decide +kernel
theorem dX5_copyFrom_156 : decode cX5_copyFrom 156 = .ok (.aload_n 0, 1) := by decide +kernel
theorem dX5_copyFrom_157 : decode cX5_copyFrom 157 = .ok (.getfield 33, 3) := by decide +kernel
theorem dX5_copyFrom_160 : decode cX5_copyFrom 160 = .ok (.iconst 0, 1) := by decide +kernel
theorem dX5_copyFrom_161 : decode cX5_copyFrom 161 = .ok (.bipush 6, 2) := by decide +kernel
theorem dX5_copyFrom_163 : decode cX5_copyFrom 163 = .ok (.invokestatic 62, 3) := by decide +kernel
theorem dX5_copyFrom_166 : decode cX5_copyFrom 166 = .ok (.aload_n 1, 1) := by decide +kernel
theorem dX5_copyFrom_167 : decode cX5_copyFrom 167 = .ok (.getfield 36, 3) := by decide +kernel
theorem dX5_copyFrom_170 : decode cX5_copyFrom 170 = .ok (.iconst 0, 1) := by decide +kernel
theorem dX5_copyFrom_171 : decode cX5_copyFrom 171 = .ok (.aload_n 0, 1) := by decide +kernel
theorem dX5_copyFrom_172 : decode cX5_copyFrom 172 = .ok (.getfield 36, 3) := by decide +kernel
theorem dX5_copyFrom_175 : decode cX5_copyFrom 175 = .ok (.iconst 0, 1) := by decide +kernel
theorem dX5_copyFrom_176 : decode cX5_copyFrom 176 = .ok (.bipush 6, 2) := by decide +kernel
theorem dX5_copyFrom_178 : decode cX5_copyFrom 178 = .ok (.invokestatic 62, 3) := by decide +kernel
theorem dX5_copyFrom_181 : decode cX5_copyFrom 181 = .ok (.return_, 1) := by decide +kernel
/-! X5_countOf -/
theorem dX5_countOf_0 : decode cX5_countOf 0 = .ok (.iconst 0, 1) := by decide +kernel
theorem dX5_countOf_1 : decode cX5_countOf 1 = .ok (.istore_n 2, 1) := by decide +kernel
theorem dX5_countOf_2 : decode cX5_countOf 2 = .ok (.iconst 0, 1) := by decide +kernel
theorem dX5_countOf_3 : decode cX5_countOf 3 = .ok (.istore_n 3, 1) := by decide +kernel
theorem dX5_countOf_4 : decode cX5_countOf 4 = .ok (.iload_n 3, 1) := by decide +kernel
theorem dX5_countOf_5 : decode cX5_countOf 5 = .ok (.bipush 6, 2) := by decide +kernel
theorem dX5_countOf_7 : decode cX5_countOf 7 = .ok (.if_icmp .ge 70, 3) := by decide +kernel
theorem dX5_countOf_10 : decode cX5_countOf 10 = .ok (.aload_n 0, 1) := by decide +kernel
theorem dX5_countOf_11 : decode cX5_countOf 11 = .ok (.getfield 30, 3) := by decide +kernel
theorem dX5_countOf_14 : decode cX5_countOf 14 = .ok (.iload_n 3, 1) := by decide +kernel
theorem dX5_countOf_15 : decode cX5_countOf 15 = .ok (.iaload, 1) := by decide +kernel
theorem dX5_countOf_16 : decode cX5_countOf 16 = .ok (.istore 4, 2) := by decide +kernel
theorem dX5_countOf_18 : decode cX5_countOf 18 = .ok (.iconst 0, 1) := by decide +kernel
theorem dX5_countOf_19 : decode cX5_countOf 19 = .ok (.istore 5, 2) := by decide +kernel
theorem dX5_countOf_21 : decode cX5_countOf 21 = .ok (.iload 5, 2) := by decide +kernel
theorem dX5_countOf_23 : decode cX5_countOf 23 = .ok (.aload_n 0, 1) := by decide +kernel
theorem dX5_countOf_24 : decode cX5_countOf 24 = .ok (.getfield 36, 3) := by decide +kernel
theorem dX5_countOf_27 : decode cX5_countOf 27 = .ok (.iload_n 3, 1) := by decide +kernel
theorem dX5_countOf_28 : decode cX5_countOf 28 = .ok (.iaload, 1) := by decide +kernel
theorem dX5_countOf_29 : decode cX5_countOf 29 = .ok (.if_icmp .ge 42, 3) := by decide +kernel
theorem dX5_countOf_32 : decode cX5_countOf 32 = .ok (.iload 4, 2) := by decide +kernel
theorem dX5_countOf_34 : decode cX5_countOf 34 = .ok (.iconst (-1), 1) := by decide +kernel
theorem dX5_countOf_35 : decode cX5_countOf 35 = .ok (.if_icmp .eq 36, 3) := by decide +kernel
theorem dX5_countOf_38 : decode cX5_countOf 38 = .ok (.aload_n 0, 1) := by decide +kernel
theorem dX5_countOf_39 : decode cX5_countOf 39 = .ok (.getfield 18, 3) := by decide +kernel
theorem dX5_countOf_42 : decode cX5_countOf 42 = .ok (.iload 4, 2) := by decide +kernel
theorem dX5_countOf_44 : decode cX5_countOf 44 = .ok (.invokestatic 58, 3) := by decide +kernel
theorem dX5_countOf_47 : decode cX5_countOf 47 = .ok (.iload_n 1, 1) := by decide +kernel
theorem dX5_countOf_48 : decode cX5_countOf 48 = .ok (.if_icmp .ne 6, 3) := by decide +kernel
theorem dX5_countOf_51 : decode cX5_countOf 51 = .ok (.iinc 2 1, 3) := by decide +kernel
theorem dX5_countOf_54 : decode cX5_countOf 54 = .ok (.aload_n 0, 1) := by decide +kernel
theorem dX5_countOf_55 : decode cX5_countOf 55 = .ok (.getfield 27, 3) := by decide +kernel
theorem dX5_countOf_58 : decode cX5_countOf 58 = .ok (.iload 4, 2) := by decide +kernel
theorem dX5_countOf_60 : decode cX5_countOf 60 = .ok (.invokestatic 58, 3) := by decide +kernel
theorem dX5_countOf_63 : decode cX5_countOf 63 = .ok (.istore 4, 2) := by decide +kernel
theorem dX5_countOf_65 : decode cX5_countOf 65 = .ok (.iinc 5 1, 3) := by decide +kernel
theorem dX5_countOf_68 : decode cX5_countOf 68 = .ok (.goto (-47), 3) := by decide +kernel
theorem dX5_countOf_71 : decode cX5_countOf 71 = .ok (.iinc 3 1, 3) := by decide +kernel
theorem dX5_countOf_74 : decode cX5_countOf 74 = .ok (.goto (-70), 3) := by decide +kernel
theorem dX5_countOf_77 : decode cX5_countOf 77 = .ok (.iload_n 2, 1) := by decide +kernel
theorem dX5_countOf_78 : decode cX5_countOf 78 = .ok (.ireturn, 1) := by decide +kernel
/-! X5_dequeue -/
theorem dX5_dequeue_0 : decode cX5_dequeue 0 = .ok (.aload_n 0, 1) := by decide +kernel
theorem dX5_dequeue_1 : decode cX5_dequeue 1 = .ok (.getfield 30, 3) := by decide +kernel
theorem dX5_dequeue_4 : decode cX5_dequeue 4 = .ok (.iload_n 1, 1) := by decide +kernel
theorem dX5_dequeue_5 : decode cX5_dequeue 5 = .ok (.invokestatic 58, 3) := by decide +kernel
theorem dX5_dequeue_8 : decode cX5_dequeue 8 = .ok (.istore_n 2, 1) := by decide +kernel
theorem dX5_dequeue_9 : decode cX5_dequeue 9 = .ok (.iload_n 2, 1) := by decide +kernel
theorem dX5_dequeue_10 : decode cX5_dequeue 10 = .ok (.ifCond .lt 20, 3) := by decide +kernel
theorem dX5_dequeue_13 : decode cX5_dequeue 13 = .ok (.iload_n 2, 1) := by decide +kernel
theorem dX5_dequeue_14 : decode cX5_dequeue 14 = .ok (.sipush 300, 3) := by decide +kernel
theorem dX5_dequeue_17 : decode cX5_dequeue 17 = .ok (.if_icmp .ge 13, 3) := by decide +kernel
theorem dX5_dequeue_20 : decode cX5_dequeue 20 = .ok (.iload_n 1, 1) := by decide +kernel
theorem dX5_dequeue_21 : decode cX5_dequeue 21 = .ok (.ifCond .lt 9, 3) := by decide +kernel
theorem dX5_dequeue_24 : decode cX5_dequeue 24 = .ok (.iload_n 1, 1) := by decide +kernel
theorem dX5_dequeue_25 : decode cX5_dequeue 25 = .ok (.bipush 6, 2) := by decide +kernel
theorem dX5_dequeue_27 : decode cX5_dequeue 27 = .ok (.if_icmp .lt 4, 3) := by decide +kernel
theorem dX5_dequeue_30 : decode cX5_dequeue 30 = .ok (.return_, 1) := by decide +kernel
theorem dX5_dequeue_31 : decode cX5_dequeue 31 = .ok (.aload_n 0, 1) := by decide +kernel
theorem dX5_dequeue_32 : decode cX5_dequeue 32 = .ok (.getfield 30, 3) := by decide +kernel
theorem dX5_dequeue_35 : decode cX5_dequeue 35 = .ok (.iload_n 1, 1) := by decide +kernel
theorem dX5_dequeue_36 : decode cX5_dequeue 36 = .ok (.aload_n 0, 1) := by decide +kernel
theorem dX5_dequeue_37 : decode cX5_dequeue 37 = .ok (.getfield 27, 3) := by decide +kernel
theorem dX5_dequeue_40 : decode cX5_dequeue 40 = .ok (.iload_n 2, 1) := by decide +kernel
theorem dX5_dequeue_41 : decode cX5_dequeue 41 = .ok (.iaload, 1) := by decide +kernel
theorem dX5_dequeue_42 : decode cX5_dequeue 42 = .ok (.iastore, 1) := by decide +kernel
theorem dX5_dequeue_43 : decode cX5_dequeue 43 = .ok (.aload_n 0, 1) := by decide +kernel
theorem dX5_dequeue_44 : decode cX5_dequeue 44 = .ok (.getfield 30, 3) := by decide +kernel
theorem dX5_dequeue_47 : decode cX5_dequeue 47 = .ok (.iload_n 1, 1) := by decide +kernel
theorem dX5_dequeue_48 : decode cX5_dequeue 48 = .ok (.iaload, 1) := by decide +kernel
theorem dX5_dequeue_49 : decode cX5_dequeue 49 = .ok (.iconst (-1), 1) := by decide +kernel
theorem dX5_dequeue_50 : decode cX5_dequeue 50 = .ok (.if_icmp .ne 10, 3) := by decide +kernel
theorem dX5_dequeue_53 : decode cX5_dequeue 53 = .ok (.aload_n 0, 1) := by decide +kernel
theorem dX5_dequeue_54 : decode cX5_dequeue 54 = .ok (.getfield 33, 3) := by decide +kernel
theorem dX5_dequeue_57 : decode cX5_dequeue 57 = .ok (.iload_n 1, 1) := by decide +kernel
theorem dX5_dequeue_58 : decode cX5_dequeue 58 = .ok (.iconst (-1), 1) := by decide +kernel
theorem dX5_dequeue_59 : decode cX5_dequeue 59 = .ok (.iastore, 1) := by decide +kernel
theorem dX5_dequeue_60 : decode cX5_dequeue 60 = .ok (.aload_n 0, 1) := by decide +kernel
theorem dX5_dequeue_61 : decode cX5_dequeue 61 = .ok (.getfield 27, 3) := by decide +kernel
theorem dX5_dequeue_64 : decode cX5_dequeue 64 = .ok (.iload_n 2, 1) := by decide +kernel
theorem dX5_dequeue_65 : decode cX5_dequeue 65 = .ok (.aload_n 0, 1) := by decide +kernel
theorem dX5_dequeue_66 : decode cX5_dequeue 66 = .ok (.getfield 46, 3) := by decide +kernel
theorem dX5_dequeue_69 : decode cX5_dequeue 69 = .ok (.iastore, 1) := by decide +kernel
theorem dX5_dequeue_70 : decode cX5_dequeue 70 = .ok (.aload_n 0, 1) := by decide +kernel
theorem dX5_dequeue_71 : decode cX5_dequeue 71 = .ok (.iload_n 2, 1) := by decide +kernel
theorem dX5_dequeue_72 : decode cX5_dequeue 72 = .ok (.putfield 46, 3) := by decide +kernel
theorem dX5_dequeue_75 : decode cX5_dequeue 75 = .ok (.aload_n 0, 1) := by decide +kernel
theorem dX5_dequeue_76 : decode cX5_dequeue 76 = .ok (.getfield 36, 3) := by decide +kernel
theorem dX5_dequeue_79 : decode cX5_dequeue 79 = .ok (.iload_n 1, 1) := by decide +kernel
theorem dX5_dequeue_80 : decode cX5_dequeue 80 = .ok (.dup2, 1) := by decide +kernel
theorem dX5_dequeue_81 : decode cX5_dequeue 81 = .ok (.iaload, 1) := by decide +kernel
theorem dX5_dequeue_82 : decode cX5_dequeue 82 = .ok (.iconst 1, 1) := by decide +kernel
theorem dX5_dequeue_83 : decode cX5_dequeue 83 = .ok (.isub, 1) := by decide +kernel
theorem dX5_dequeue_84 : decode cX5_dequeue 84 = .ok (.iastore, 1) := by decide +kernel
theorem dX5_dequeue_85 : decode cX5_dequeue 85 = .ok (.aload_n 0, 1) := by decide +kernel
theorem dX5_dequeue_86 : decode cX5_dequeue 86 = .ok (.dup, 1) := by decide +kernel
theorem dX5_dequeue_87 : decode cX5_dequeue 87 = .ok (.getfield 49, 3) := by decide +kernel
theorem dX5_dequeue_90 : decode cX5_dequeue 90 = .ok (.iconst 1, 1) := by decide +kernel
theorem dX5_dequeue_91 : decode cX5_dequeue 91 = .ok (.isub, 1) := by decide +kernel
theorem dX5_dequeue_92 : decode cX5_dequeue 92 = .ok (.putfield 49, 3) := by decide +kernel
theorem dX5_dequeue_95 : decode cX5_dequeue 95 = .ok (.return_, 1) := by decide +kernel
/-! X5_dueSlot -/
theorem dX5_dueSlot_0 : decode cX5_dueSlot 0 = .ok (.aload_n 0, 1) := by decide +kernel
theorem dX5_dueSlot_1 : decode cX5_dueSlot 1 = .ok (.getfield 30, 3) := by decide +kernel
theorem dX5_dueSlot_4 : decode cX5_dueSlot 4 = .ok (.iload_n 1, 1) := by decide +kernel
theorem dX5_dueSlot_5 : decode cX5_dueSlot 5 = .ok (.invokestatic 58, 3) := by decide +kernel
theorem dX5_dueSlot_8 : decode cX5_dueSlot 8 = .ok (.istore_n 3, 1) := by decide +kernel
theorem dX5_dueSlot_9 : decode cX5_dueSlot 9 = .ok (.iload_n 3, 1) := by decide +kernel
theorem dX5_dueSlot_10 : decode cX5_dueSlot 10 = .ok (.iconst (-1), 1) := by decide +kernel
theorem dX5_dueSlot_11 : decode cX5_dueSlot 11 = .ok (.if_icmp .eq 19, 3) := by decide +kernel
theorem dX5_dueSlot_14 : decode cX5_dueSlot 14 = .ok (.aload_n 0, 1) := by decide +kernel
theorem dX5_dueSlot_15 : decode cX5_dueSlot 15 = .ok (.getfield 9, 3) := by decide +kernel
theorem dX5_dueSlot_18 : decode cX5_dueSlot 18 = .ok (.iload_n 3, 1) := by decide +kernel
theorem dX5_dueSlot_19 : decode cX5_dueSlot 19 = .ok (.invokestatic 58, 3) := by decide +kernel
theorem dX5_dueSlot_22 : decode cX5_dueSlot 22 = .ok (.iload_n 2, 1) := by decide +kernel
theorem dX5_dueSlot_23 : decode cX5_dueSlot 23 = .ok (.if_icmp .gt 7, 3) := by decide +kernel
theorem dX5_dueSlot_26 : decode cX5_dueSlot 26 = .ok (.iload_n 3, 1) := by decide +kernel
theorem dX5_dueSlot_27 : decode cX5_dueSlot 27 = .ok (.goto 4, 3) := by decide +kernel
theorem dX5_dueSlot_30 : decode cX5_dueSlot 30 = .ok (.iconst (-1), 1) := by decide +kernel
theorem dX5_dueSlot_31 : decode cX5_dueSlot 31 = .ok (.ireturn, 1) := by decide +kernel
/-! X5_enqueue -/
theorem dX5_enqueue_0 : decode cX5_enqueue 0 = .ok (.aload_n 0, 1) := by decide +kernel
theorem dX5_enqueue_1 : decode cX5_enqueue 1 = .ok (.getfield 46, 3) := by decide +kernel
theorem dX5_enqueue_4 : decode cX5_enqueue 4 = .ok (.iconst (-1), 1) := by decide +kernel
theorem dX5_enqueue_5 : decode cX5_enqueue 5 = .ok (.if_icmp .ne 10, 3) := by decide +kernel
theorem dX5_enqueue_8 : decode cX5_enqueue 8 = .ok (.aload_n 0, 1) := by decide +kernel
theorem dX5_enqueue_9 : decode cX5_enqueue 9 = .ok (.getfield 42, 3) := by decide +kernel
theorem dX5_enqueue_12 : decode cX5_enqueue 12 = .ok (.goto 7, 3) := by decide +kernel
theorem dX5_enqueue_15 : decode cX5_enqueue 15 = .ok (.aload_n 0, 1) := by decide +kernel
theorem dX5_enqueue_16 : decode cX5_enqueue 16 = .ok (.getfield 46, 3) := by decide +kernel
theorem dX5_enqueue_19 : decode cX5_enqueue 19 = .ok (.istore 6, 2) := by decide +kernel
theorem dX5_enqueue_21 : decode cX5_enqueue 21 = .ok (.iload 6, 2) := by decide +kernel
theorem dX5_enqueue_23 : decode cX5_enqueue 23 = .ok (.ifCond .lt 21, 3) := by decide +kernel
theorem dX5_enqueue_26 : decode cX5_enqueue 26 = .ok (.iload 6, 2) := by decide +kernel
theorem dX5_enqueue_28 : decode cX5_enqueue 28 = .ok (.sipush 300, 3) := by decide +kernel
theorem dX5_enqueue_31 : decode cX5_enqueue 31 = .ok (.if_icmp .ge 13, 3) := by decide +kernel
theorem dX5_enqueue_34 : decode cX5_enqueue 34 = .ok (.iload_n 1, 1) := by decide +kernel
theorem dX5_enqueue_35 : decode cX5_enqueue 35 = .ok (.ifCond .lt 9, 3) := by decide +kernel
theorem dX5_enqueue_38 : decode cX5_enqueue 38 = .ok (.iload_n 1, 1) := by decide +kernel
theorem dX5_enqueue_39 : decode cX5_enqueue 39 = .ok (.bipush 6, 2) := by decide +kernel
theorem dX5_enqueue_41 : decode cX5_enqueue 41 = .ok (.if_icmp .lt 4, 3) := by decide +kernel
theorem dX5_enqueue_44 : decode cX5_enqueue 44 = .ok (.return_, 1) := by decide +kernel
theorem dX5_enqueue_45 : decode cX5_enqueue 45 = .ok (.aload_n 0, 1) := by decide +kernel
theorem dX5_enqueue_46 : decode cX5_enqueue 46 = .ok (.getfield 46, 3) := by decide +kernel
theorem dX5_enqueue_49 : decode cX5_enqueue 49 = .ok (.iconst (-1), 1) := by decide +kernel
theorem dX5_enqueue_50 : decode cX5_enqueue 50 = .ok (.if_icmp .ne 16, 3) := by decide +kernel
theorem dX5_enqueue_53 : decode cX5_enqueue 53 = .ok (.aload_n 0, 1) := by decide +kernel
theorem dX5_enqueue_54 : decode cX5_enqueue 54 = .ok (.dup, 1) := by decide +kernel
theorem dX5_enqueue_55 : decode cX5_enqueue 55 = .ok (.getfield 42, 3) := by decide +kernel
theorem dX5_enqueue_58 : decode cX5_enqueue 58 = .ok (.iconst 1, 1) := by decide +kernel
theorem dX5_enqueue_59 : decode cX5_enqueue 59 = .ok (.iadd, 1) := by decide +kernel
theorem dX5_enqueue_60 : decode cX5_enqueue 60 = .ok (.putfield 42, 3) := by decide +kernel
theorem dX5_enqueue_63 : decode cX5_enqueue 63 = .ok (.goto 14, 3) := by decide +kernel
theorem dX5_enqueue_66 : decode cX5_enqueue 66 = .ok (.aload_n 0, 1) := by decide +kernel
theorem dX5_enqueue_67 : decode cX5_enqueue 67 = .ok (.aload_n 0, 1) := by decide +kernel
theorem dX5_enqueue_68 : decode cX5_enqueue 68 = .ok (.getfield 27, 3) := by decide +kernel
theorem dX5_enqueue_71 : decode cX5_enqueue 71 = .ok (.iload 6, 2) := by decide +kernel
theorem dX5_enqueue_73 : decode cX5_enqueue 73 = .ok (.iaload, 1) := by decide +kernel
theorem dX5_enqueue_74 : decode cX5_enqueue 74 = .ok (.putfield 46, 3) := by decide +kernel
theorem dX5_enqueue_77 : decode cX5_enqueue 77 = .ok (.aload_n 0, 1) := by decide +kernel
theorem dX5_enqueue_78 : decode cX5_enqueue 78 = .ok (.getfield 9, 3) := by decide +kernel
theorem dX5_enqueue_81 : decode cX5_enqueue 81 = .ok (.iload 6, 2) := by decide +kernel
theorem dX5_enqueue_83 : decode cX5_enqueue 83 = .ok (.iload_n 2, 1) := by decide +kernel
theorem dX5_enqueue_84 : decode cX5_enqueue 84 = .ok (.iastore, 1) := by decide +kernel
theorem dX5_enqueue_85 : decode cX5_enqueue 85 = .ok (.aload_n 0, 1) := by decide +kernel
theorem dX5_enqueue_86 : decode cX5_enqueue 86 = .ok (.getfield 15, 3) := by decide +kernel
theorem dX5_enqueue_89 : decode cX5_enqueue 89 = .ok (.iload 6, 2) := by decide +kernel
theorem dX5_enqueue_91 : decode cX5_enqueue 91 = .ok (.iload_n 1, 1) := by decide +kernel
theorem dX5_enqueue_92 : decode cX5_enqueue 92 = .ok (.iastore, 1) := by decide +kernel
theorem dX5_enqueue_93 : decode cX5_enqueue 93 = .ok (.aload_n 0, 1) := by decide +kernel
theorem dX5_enqueue_94 : decode cX5_enqueue 94 = .ok (.getfield 18, 3) := by decide +kernel
theorem dX5_enqueue_97 : decode cX5_enqueue 97 = .ok (.iload 6, 2) := by decide +kernel
theorem dX5_enqueue_99 : decode cX5_enqueue 99 = .ok (.iload_n 3, 1) := by decide +kernel
theorem dX5_enqueue_100 : decode cX5_enqueue 100 = .ok (.iastore, 1) := by decide +kernel
theorem dX5_enqueue_101 : decode cX5_enqueue 101 = .ok (.aload_n 0, 1) := by decide +kernel
theorem dX5_enqueue_102 : decode cX5_enqueue 102 = .ok (.getfield 21, 3) := by decide +kernel
theorem dX5_enqueue_105 : decode cX5_enqueue 105 = .ok (.iload 6, 2) := by decide +kernel
theorem dX5_enqueue_107 : decode cX5_enqueue 107 = .ok (.iload 4, 2) := by decide +kernel
theorem dX5_enqueue_109 : decode cX5_enqueue 109 = .ok (.iastore, 1) := by decide +kernel
theorem dX5_enqueue_110 : decode cX5_enqueue 110 = .ok (.aload_n 0, 1) := by decide +kernel
theorem dX5_enqueue_111 : decode cX5_enqueue 111 = .ok (.getfield 24, 3) := by decide +kernel
theorem dX5_enqueue_114 : decode cX5_enqueue 114 = .ok (.iload 6, 2) := by decide +kernel
theorem dX5_enqueue_116 : decode cX5_enqueue 116 = .ok (.iload 5, 2) := by decide +kernel
theorem dX5_enqueue_118 : decode cX5_enqueue 118 = .ok (.iastore, 1) := by decide +kernel
theorem dX5_enqueue_119 : decode cX5_enqueue 119 = .ok (.aload_n 0, 1) := by decide +kernel
theorem dX5_enqueue_120 : decode cX5_enqueue 120 = .ok (.getfield 27, 3) := by decide +kernel
theorem dX5_enqueue_123 : decode cX5_enqueue 123 = .ok (.iload 6, 2) := by decide +kernel
theorem dX5_enqueue_125 : decode cX5_enqueue 125 = .ok (.iconst (-1), 1) := by decide +kernel
theorem dX5_enqueue_126 : decode cX5_enqueue 126 = .ok (.iastore, 1) := by decide +kernel
theorem dX5_enqueue_127 : decode cX5_enqueue 127 = .ok (.aload_n 0, 1) := by decide +kernel
theorem dX5_enqueue_128 : decode cX5_enqueue 128 = .ok (.getfield 33, 3) := by decide +kernel
theorem dX5_enqueue_131 : decode cX5_enqueue 131 = .ok (.iload_n 1, 1) := by decide +kernel
theorem dX5_enqueue_132 : decode cX5_enqueue 132 = .ok (.iaload, 1) := by decide +kernel
theorem dX5_enqueue_133 : decode cX5_enqueue 133 = .ok (.istore 7, 2) := by decide +kernel
theorem dX5_enqueue_135 : decode cX5_enqueue 135 = .ok (.iload 7, 2) := by decide +kernel
theorem dX5_enqueue_137 : decode cX5_enqueue 137 = .ok (.ifCond .lt 23, 3) := by decide +kernel
theorem dX5_enqueue_140 : decode cX5_enqueue 140 = .ok (.iload 7, 2) := by decide +kernel
theorem dX5_enqueue_142 : decode cX5_enqueue 142 = .ok (.sipush 300, 3) := by decide +kernel
theorem dX5_enqueue_145 : decode cX5_enqueue 145 = .ok (.if_icmp .ge 15, 3) := by decide +kernel
theorem dX5_enqueue_148 : decode cX5_enqueue 148 = .ok (.aload_n 0, 1) := by decide +kernel
theorem dX5_enqueue_149 : decode cX5_enqueue 149 = .ok (.getfield 27, 3) := by decide +kernel
theorem dX5_enqueue_152 : decode cX5_enqueue 152 = .ok (.iload 7, 2) := by decide +kernel
theorem dX5_enqueue_154 : decode cX5_enqueue 154 = .ok (.iload 6, 2) := by decide +kernel
theorem dX5_enqueue_156 : decode cX5_enqueue 156 = .ok (.iastore, 1) := by decide +kernel
theorem dX5_enqueue_157 : decode cX5_enqueue 157 = .ok (.goto 11, 3) := by decide +kernel
theorem dX5_enqueue_160 : decode cX5_enqueue 160 = .ok (.aload_n 0, 1) := by decide +kernel
theorem dX5_enqueue_161 : decode cX5_enqueue 161 = .ok (.getfield 30, 3) := by decide +kernel
theorem dX5_enqueue_164 : decode cX5_enqueue 164 = .ok (.iload_n 1, 1) := by decide +kernel
theorem dX5_enqueue_165 : decode cX5_enqueue 165 = .ok (.iload 6, 2) := by decide +kernel
theorem dX5_enqueue_167 : decode cX5_enqueue 167 = .ok (.iastore, 1) := by decide +kernel
theorem dX5_enqueue_168 : decode cX5_enqueue 168 = .ok (.aload_n 0, 1) := by decide +kernel
theorem dX5_enqueue_169 : decode cX5_enqueue 169 = .ok (.getfield 33, 3) := by decide +kernel
theorem dX5_enqueue_172 : decode cX5_enqueue 172 = .ok (.iload_n 1, 1) := by decide +kernel
theorem dX5_enqueue_173 : decode cX5_enqueue 173 = .ok (.iload 6, 2) := by decide +kernel
theorem dX5_enqueue_175 : decode cX5_enqueue 175 = .ok (.iastore, 1) := by decide +kernel
theorem dX5_enqueue_176 : decode cX5_enqueue 176 = .ok (.aload_n 0, 1) := by decide +kernel
theorem dX5_enqueue_177 : decode cX5_enqueue 177 = .ok (.getfield 36, 3) := by decide +kernel
theorem dX5_enqueue_180 : decode cX5_enqueue 180 = .ok (.iload_n 1, 1) := by decide +kernel
theorem dX5_enqueue_181 : decode cX5_enqueue 181 = .ok (.dup2, 1) := by decide +kernel
theorem dX5_enqueue_182 : decode cX5_enqueue 182 = .ok (.iaload, 1) := by decide +kernel
theorem dX5_enqueue_183 : decode cX5_enqueue 183 = .ok (.iconst 1, 1) := by decide +kernel
theorem dX5_enqueue_184 : decode cX5_enqueue 184 = .ok (.iadd, 1) := by decide +kernel
theorem dX5_enqueue_185 : decode cX5_enqueue 185 = .ok (.iastore, 1) := by decide +kernel
theorem dX5_enqueue_186 : decode cX5_enqueue 186 = .ok (.aload_n 0, 1) := by decide +kernel
theorem dX5_enqueue_187 : decode cX5_enqueue 187 = .ok (.dup, 1) := by decide +kernel
theorem dX5_enqueue_188 : decode cX5_enqueue 188 = .ok (.getfield 49, 3) := by decide +kernel
theorem dX5_enqueue_191 : decode cX5_enqueue 191 = .ok (.iconst 1, 1) := by decide +kernel
theorem dX5_enqueue_192 : decode cX5_enqueue 192 = .ok (.iadd, 1) := by decide +kernel
theorem dX5_enqueue_193 : decode cX5_enqueue 193 = .ok (.putfield 49, 3) := by decide +kernel
theorem dX5_enqueue_196 : decode cX5_enqueue 196 = .ok (.return_, 1) := by decide +kernel
/-! X5_init -/
theorem dX5_init_0 : decode cX5_init 0 = .ok (.aload_n 0, 1) := by decide +kernel
theorem dX5_init_1 : decode cX5_init 1 = .ok (.invokespecial 3, 3) := by decide +kernel
theorem dX5_init_4 : decode cX5_init 4 = .ok (.aload_n 0, 1) := by decide +kernel
theorem dX5_init_5 : decode cX5_init 5 = .ok (.sipush 300, 3) := by decide +kernel
theorem dX5_init_8 : decode cX5_init 8 = .ok (.newarray .int, 2) := by decide +kernel
theorem dX5_init_10 : decode cX5_init 10 = .ok (.putfield 9, 3) := by decide +kernel
theorem dX5_init_13 : decode cX5_init 13 = .ok (.aload_n 0, 1) := by decide +kernel
theorem dX5_init_14 : decode cX5_init 14 = .ok (.sipush 300, 3) := by decide +kernel
theorem dX5_init_17 : decode cX5_init 17 = .ok (.newarray .int, 2) := by decide +kernel
theorem dX5_init_19 : decode cX5_init 19 = .ok (.putfield 15, 3) := by decide +kernel
theorem dX5_init_22 : decode cX5_init 22 = .ok (.aload_n 0, 1) := by decide +kernel
theorem dX5_init_23 : decode cX5_init 23 = .ok (.sipush 300, 3) := by decide +kernel
theorem dX5_init_26 : decode cX5_init 26 = .ok (.newarray .int, 2) := by decide +kernel
theorem dX5_init_28 : decode cX5_init 28 = .ok (.putfield 18, 3) := by decide +kernel
theorem dX5_init_31 : decode cX5_init 31 = .ok (.aload_n 0, 1) := by decide +kernel
theorem dX5_init_32 : decode cX5_init 32 = .ok (.sipush 300, 3) := by decide +kernel
theorem dX5_init_35 : decode cX5_init 35 = .ok (.newarray .int, 2) := by decide +kernel
theorem dX5_init_37 : decode cX5_init 37 = .ok (.putfield 21, 3) := by decide +kernel
theorem dX5_init_40 : decode cX5_init 40 = .ok (.aload_n 0, 1) := by decide +kernel
theorem dX5_init_41 : decode cX5_init 41 = .ok (.sipush 300, 3) := by decide +kernel
theorem dX5_init_44 : decode cX5_init 44 = .ok (.newarray .int, 2) := by decide +kernel
theorem dX5_init_46 : decode cX5_init 46 = .ok (.putfield 24, 3) := by decide +kernel
theorem dX5_init_49 : decode cX5_init 49 = .ok (.aload_n 0, 1) := by decide +kernel
theorem dX5_init_50 : decode cX5_init 50 = .ok (.sipush 300, 3) := by decide +kernel
theorem dX5_init_53 : decode cX5_init 53 = .ok (.newarray .int, 2) := by decide +kernel
theorem dX5_init_55 : decode cX5_init 55 = .ok (.putfield 27, 3) := by decide +kernel
theorem dX5_init_58 : decode cX5_init 58 = .ok (.aload_n 0, 1) := by decide +kernel
theorem dX5_init_59 : decode cX5_init 59 = .ok (.bipush 6, 2) := by decide +kernel
theorem dX5_init_61 : decode cX5_init 61 = .ok (.newarray .int, 2) := by decide +kernel
theorem dX5_init_63 : decode cX5_init 63 = .ok (.putfield 30, 3) := by decide +kernel
theorem dX5_init_66 : decode cX5_init 66 = .ok (.aload_n 0, 1) := by decide +kernel
theorem dX5_init_67 : decode cX5_init 67 = .ok (.bipush 6, 2) := by decide +kernel
theorem dX5_init_69 : decode cX5_init 69 = .ok (.newarray .int, 2) := by decide +kernel
theorem dX5_init_71 : decode cX5_init 71 = .ok (.putfield 33, 3) := by decide +kernel
theorem dX5_init_74 : decode cX5_init 74 = .ok (.aload_n 0, 1) := by decide +kernel
theorem dX5_init_75 : decode cX5_init 75 = .ok (.bipush 6, 2) := by decide +kernel
theorem dX5_init_77 : decode cX5_init 77 = .ok (.newarray .int, 2) := by decide +kernel
theorem dX5_init_79 : decode cX5_init 79 = .ok (.putfield 36, 3) := by decide +kernel
theorem dX5_init_82 : decode cX5_init 82 = .ok (.aload_n 0, 1) := by decide +kernel
theorem dX5_init_83 : decode cX5_init 83 = .ok (.bipush 6, 2) := by decide +kernel
theorem dX5_init_85 : decode cX5_init 85 = .ok (.newarray .int, 2) := by decide +kernel
theorem dX5_init_87 : decode cX5_init 87 = .ok (.putfield 39, 3) := by decide +kernel
theorem dX5_init_90 : decode cX5_init 90 = .ok (.aload_n 0, 1) := by decide +kernel
theorem dX5_init_91 : decode cX5_init 91 = .ok (.iconst 0, 1) := by decide +kernel
theorem dX5_init_92 : decode cX5_init 92 = .ok (.putfield 42, 3) := by decide +kernel
theorem dX5_init_95 : decode cX5_init 95 = .ok (.aload_n 0, 1) := by decide +kernel
theorem dX5_init_96 : decode cX5_init 96 = .ok (.iconst (-1), 1) := by decide +kernel
theorem dX5_init_97 : decode cX5_init 97 = .ok (.putfield 46, 3) := by decide +kernel
theorem dX5_init_100 : decode cX5_init 100 = .ok (.aload_n 0, 1) := by decide +kernel
theorem dX5_init_101 : decode cX5_init 101 = .ok (.iconst 0, 1) := by decide +kernel
theorem dX5_init_102 : decode cX5_init 102 = .ok (.putfield 49, 3) := by decide +kernel
theorem dX5_init_105 : decode cX5_init 105 = .ok (.aload_n 0, 1) := by decide +kernel
theorem dX5_init_106 : decode cX5_init 106 = .ok (.getfield 30, 3) := by decide +kernel
theorem dX5_init_109 : decode cX5_init 109 = .ok (.iconst (-1), 1) := by decide +kernel
theorem dX5_init_110 : decode cX5_init 110 = .ok (.invokestatic 52, 3) := by decide +kernel
theorem dX5_init_113 : decode cX5_init 113 = .ok (.aload_n 0, 1) := by decide +kernel
theorem dX5_init_114 : decode cX5_init 114 = .ok (.getfield 33, 3) := by decide +kernel
theorem dX5_init_117 : decode cX5_init 117 = .ok (.iconst (-1), 1) := by decide +kernel
theorem dX5_init_118 : decode cX5_init 118 = .ok (.invokestatic 52, 3) := by decide +kernel
theorem dX5_init_121 : decode cX5_init 121 = .ok (.return_, 1) := by decide +kernel
/-! X5_isFull -/
theorem dX5_isFull_0 : decode cX5_isFull 0 = .ok (.aload_n 0, 1) := by decide +kernel
theorem dX5_isFull_1 : decode cX5_isFull 1 = .ok (.getfield 49, 3) := by decide +kernel
theorem dX5_isFull_4 : decode cX5_isFull 4 = .ok (.sipush 300, 3) := by decide +kernel
theorem dX5_isFull_7 : decode cX5_isFull 7 = .ok (.if_icmp .lt 7, 3) := by decide +kernel
theorem dX5_isFull_10 : decode cX5_isFull 10 = .ok (.iconst 1, 1) := by decide +kernel
theorem dX5_isFull_11 : decode cX5_isFull 11 = .ok (.goto 4, 3) := by decide +kernel
theorem dX5_isFull_14 : decode cX5_isFull 14 = .ok (.iconst 0, 1) := by decide +kernel
theorem dX5_isFull_15 : decode cX5_isFull 15 = .ok (.ireturn, 1) := by decide +kernel
/-! X5_slotInOrder -/
theorem dX5_slotInOrder_0 : decode cX5_slotInOrder 0 = .ok (.iload_n 1, 1) := by decide +kernel
theorem dX5_slotInOrder_1 : decode cX5_slotInOrder 1 = .ok (.ifCond .lt 11, 3) := by decide +kernel
theorem dX5_slotInOrder_4 : decode cX5_slotInOrder 4 = .ok (.iload_n 1, 1) := by decide +kernel
theorem dX5_slotInOrder_5 : decode cX5_slotInOrder 5 = .ok (.aload_n 0, 1) := by decide +kernel
theorem dX5_slotInOrder_6 : decode cX5_slotInOrder 6 = .ok (.getfield 49, 3) := by decide +kernel
theorem dX5_slotInOrder_9 : decode cX5_slotInOrder 9 = .ok (.if_icmp .lt 5, 3) := by decide +kernel
theorem dX5_slotInOrder_12 : decode cX5_slotInOrder 12 = .ok (.iconst (-1), 1) := by decide +kernel
theorem dX5_slotInOrder_13 : decode cX5_slotInOrder 13 = .ok (.ireturn, 1) := by decide +kernel
theorem dX5_slotInOrder_14 : decode cX5_slotInOrder 14 = .ok (.aload_n 0, 1) := by decide +kernel
theorem dX5_slotInOrder_15 : decode cX5_slotInOrder 15 = .ok (.getfield 30, 3) := by decide +kernel
theorem dX5_slotInOrder_18 : decode cX5_slotInOrder 18 = .ok (.iconst 0, 1) := by decide +kernel
theorem dX5_slotInOrder_19 : decode cX5_slotInOrder 19 = .ok (.aload_n 0, 1) := by decide +kernel
theorem dX5_slotInOrder_20 : decode cX5_slotInOrder 20 = .ok (.getfield 39, 3) := by decide +kernel
theorem dX5_slotInOrder_23 : decode cX5_slotInOrder 23 = .ok (.iconst 0, 1) := by decide +kernel
theorem dX5_slotInOrder_24 : decode cX5_slotInOrder 24 = .ok (.bipush 6, 2) := by decide +kernel
theorem dX5_slotInOrder_26 : decode cX5_slotInOrder 26 = .ok (.invokestatic 62, 3) := by decide +kernel
theorem dX5_slotInOrder_29 : decode cX5_slotInOrder 29 = .ok (.iconst (-1), 1) := by decide +kernel
theorem dX5_slotInOrder_30 : decode cX5_slotInOrder 30 = .ok (.istore_n 2, 1) := by decide +kernel
theorem dX5_slotInOrder_31 : decode cX5_slotInOrder 31 = .ok (.iconst 0, 1) := by decide +kernel
theorem dX5_slotInOrder_32 : decode cX5_slotInOrder 32 = .ok (.istore_n 3, 1) := by decide +kernel
theorem dX5_slotInOrder_33 : decode cX5_slotInOrder 33 = .ok (.iload_n 3, 1) := by decide +kernel
theorem dX5_slotInOrder_34 : decode cX5_slotInOrder 34 = .ok (.iload_n 1, 1) := by decide +kernel
theorem dX5_slotInOrder_35 : decode cX5_slotInOrder 35 = .ok (.if_icmp .gt 49, 3) := by decide +kernel
theorem dX5_slotInOrder_38 : decode cX5_slotInOrder 38 = .ok (.iload_n 3, 1) := by decide +kernel
theorem dX5_slotInOrder_39 : decode cX5_slotInOrder 39 = .ok (.sipush 300, 3) := by decide +kernel
theorem dX5_slotInOrder_42 : decode cX5_slotInOrder 42 = .ok (.if_icmp .ge 42, 3) := by decide +kernel
theorem dX5_slotInOrder_45 : decode cX5_slotInOrder 45 = .ok (.aload_n 0, 1) := by decide +kernel
theorem dX5_slotInOrder_46 : decode cX5_slotInOrder 46 = .ok (.invokevirtual 68, 3) := by decide +kernel
theorem dX5_slotInOrder_49 : decode cX5_slotInOrder 49 = .ok (.istore 4, 2) := by decide +kernel
theorem dX5_slotInOrder_51 : decode cX5_slotInOrder 51 = .ok (.aload_n 0, 1) := by decide +kernel
theorem dX5_slotInOrder_52 : decode cX5_slotInOrder 52 = .ok (.getfield 39, 3) := by decide +kernel
theorem dX5_slotInOrder_55 : decode cX5_slotInOrder 55 = .ok (.iload 4, 2) := by decide +kernel
theorem dX5_slotInOrder_57 : decode cX5_slotInOrder 57 = .ok (.invokestatic 58, 3) := by decide +kernel
theorem dX5_slotInOrder_60 : decode cX5_slotInOrder 60 = .ok (.istore_n 2, 1) := by decide +kernel
theorem dX5_slotInOrder_61 : decode cX5_slotInOrder 61 = .ok (.aload_n 0, 1) := by decide +kernel
theorem dX5_slotInOrder_62 : decode cX5_slotInOrder 62 = .ok (.getfield 39, 3) := by decide +kernel
theorem dX5_slotInOrder_65 : decode cX5_slotInOrder 65 = .ok (.iload 4, 2) := by decide +kernel
theorem dX5_slotInOrder_67 : decode cX5_slotInOrder 67 = .ok (.aload_n 0, 1) := by decide +kernel
theorem dX5_slotInOrder_68 : decode cX5_slotInOrder 68 = .ok (.getfield 27, 3) := by decide +kernel
theorem dX5_slotInOrder_71 : decode cX5_slotInOrder 71 = .ok (.iload_n 2, 1) := by decide +kernel
theorem dX5_slotInOrder_72 : decode cX5_slotInOrder 72 = .ok (.invokestatic 58, 3) := by decide +kernel
theorem dX5_slotInOrder_75 : decode cX5_slotInOrder 75 = .ok (.invokestatic 72, 3) := by decide +kernel
theorem dX5_slotInOrder_78 : decode cX5_slotInOrder 78 = .ok (.iinc 3 1, 3) := by decide +kernel
theorem dX5_slotInOrder_81 : decode cX5_slotInOrder 81 = .ok (.goto (-48), 3) := by decide +kernel
theorem dX5_slotInOrder_84 : decode cX5_slotInOrder 84 = .ok (.iload_n 2, 1) := by decide +kernel
theorem dX5_slotInOrder_85 : decode cX5_slotInOrder 85 = .ok (.ireturn, 1) := by decide +kernel
/-! X5_soonestCursor -/
theorem dX5_soonestCursor_0 : decode cX5_soonestCursor 0 = .ok (.iconst (-1), 1) := by decide +kernel
theorem dX5_soonestCursor_1 : decode cX5_soonestCursor 1 = .ok (.istore_n 1, 1) := by decide +kernel
theorem dX5_soonestCursor_2 : decode cX5_soonestCursor 2 = .ok (.iconst 0, 1) := by decide +kernel
theorem dX5_soonestCursor_3 : decode cX5_soonestCursor 3 = .ok (.istore_n 2, 1) := by decide +kernel
theorem dX5_soonestCursor_4 : decode cX5_soonestCursor 4 = .ok (.iload_n 2, 1) := by decide +kernel
theorem dX5_soonestCursor_5 : decode cX5_soonestCursor 5 = .ok (.bipush 6, 2) := by decide +kernel
theorem dX5_soonestCursor_7 : decode cX5_soonestCursor 7 = .ok (.if_icmp .ge 57, 3) := by decide +kernel
theorem dX5_soonestCursor_10 : decode cX5_soonestCursor 10 = .ok (.aload_n 0, 1) := by decide +kernel
theorem dX5_soonestCursor_11 : decode cX5_soonestCursor 11 = .ok (.getfield 39, 3) := by decide +kernel
theorem dX5_soonestCursor_14 : decode cX5_soonestCursor 14 = .ok (.iload_n 2, 1) := by decide +kernel
theorem dX5_soonestCursor_15 : decode cX5_soonestCursor 15 = .ok (.iaload, 1) := by decide +kernel
theorem dX5_soonestCursor_16 : decode cX5_soonestCursor 16 = .ok (.iconst (-1), 1) := by decide +kernel
theorem dX5_soonestCursor_17 : decode cX5_soonestCursor 17 = .ok (.if_icmp .eq 41, 3) := by decide +kernel
theorem dX5_soonestCursor_20 : decode cX5_soonestCursor 20 = .ok (.iload_n 1, 1) := by decide +kernel
theorem dX5_soonestCursor_21 : decode cX5_soonestCursor 21 = .ok (.iconst (-1), 1) := by decide +kernel
theorem dX5_soonestCursor_22 : decode cX5_soonestCursor 22 = .ok (.if_icmp .eq 34, 3) := by decide +kernel
theorem dX5_soonestCursor_25 : decode cX5_soonestCursor 25 = .ok (.aload_n 0, 1) := by decide +kernel
theorem dX5_soonestCursor_26 : decode cX5_soonestCursor 26 = .ok (.getfield 9, 3) := by decide +kernel
theorem dX5_soonestCursor_29 : decode cX5_soonestCursor 29 = .ok (.aload_n 0, 1) := by decide +kernel
theorem dX5_soonestCursor_30 : decode cX5_soonestCursor 30 = .ok (.getfield 39, 3) := by decide +kernel
theorem dX5_soonestCursor_33 : decode cX5_soonestCursor 33 = .ok (.iload_n 2, 1) := by decide +kernel
theorem dX5_soonestCursor_34 : decode cX5_soonestCursor 34 = .ok (.iaload, 1) := by decide +kernel
theorem dX5_soonestCursor_35 : decode cX5_soonestCursor 35 = .ok (.invokestatic 58, 3) := by decide +kernel
theorem dX5_soonestCursor_38 : decode cX5_soonestCursor 38 = .ok (.aload_n 0, 1) := by decide +kernel
theorem dX5_soonestCursor_39 : decode cX5_soonestCursor 39 = .ok (.getfield 9, 3) := by decide +kernel
theorem dX5_soonestCursor_42 : decode cX5_soonestCursor 42 = .ok (.aload_n 0, 1) := by decide +kernel
theorem dX5_soonestCursor_43 : decode cX5_soonestCursor 43 = .ok (.getfield 39, 3) := by decide +kernel
theorem dX5_soonestCursor_46 : decode cX5_soonestCursor 46 = .ok (.iload_n 1, 1) := by decide +kernel
theorem dX5_soonestCursor_47 : decode cX5_soonestCursor 47 = .ok (.invokestatic 58, 3) := by decide +kernel
theorem dX5_soonestCursor_50 : decode cX5_soonestCursor 50 = .ok (.invokestatic 58, 3) := by decide +kernel
theorem dX5_soonestCursor_53 : decode cX5_soonestCursor 53 = .ok (.if_icmp .ge 5, 3) := by decide +kernel
theorem dX5_soonestCursor_56 : decode cX5_soonestCursor 56 = .ok (.iload_n 2, 1) := by decide +kernel
theorem dX5_soonestCursor_57 : decode cX5_soonestCursor 57 = .ok (.istore_n 1, 1) := by decide +kernel
theorem dX5_soonestCursor_58 : decode cX5_soonestCursor 58 = .ok (.iinc 2 1, 3) := by decide +kernel
theorem dX5_soonestCursor_61 : decode cX5_soonestCursor 61 = .ok (.goto (-57), 3) := by decide +kernel
theorem dX5_soonestCursor_64 : decode cX5_soonestCursor 64 = .ok (.iload_n 1, 1) := by decide +kernel
theorem dX5_soonestCursor_65 : decode cX5_soonestCursor 65 = .ok (.ireturn, 1) := by decide +kernel
/-! X5_waitingOn -/
theorem dX5_waitingOn_0 : decode cX5_waitingOn 0 = .ok (.aload_n 0, 1) := by decide +kernel
theorem dX5_waitingOn_1 : decode cX5_waitingOn 1 = .ok (.getfield 36, 3) := by decide +kernel
theorem dX5_waitingOn_4 : decode cX5_waitingOn 4 = .ok (.iload_n 1, 1) := by decide +kernel
theorem dX5_waitingOn_5 : decode cX5_waitingOn 5 = .ok (.invokestatic 58, 3) := by decide +kernel
theorem dX5_waitingOn_8 : decode cX5_waitingOn 8 = .ok (.ireturn, 1) := by decide +kernel
/-! X6_hasOption -/
theorem dX6_hasOption_0 : decode cX6_hasOption 0 = .ok (.iload_n 1, 1) := by decide +kernel
theorem dX6_hasOption_1 : decode cX6_hasOption 1 = .ok (.ifCond .lt 22, 3) := by decide +kernel
theorem dX6_hasOption_4 : decode cX6_hasOption 4 = .ok (.iload_n 1, 1) := by decide +kernel
theorem dX6_hasOption_5 : decode cX6_hasOption 5 = .ok (.bipush 48, 2) := by decide +kernel
theorem dX6_hasOption_7 : decode cX6_hasOption 7 = .ok (.if_icmp .ge 16, 3) := by decide +kernel
theorem dX6_hasOption_10 : decode cX6_hasOption 10 = .ok (.aload_n 0, 1) := by decide +kernel
theorem dX6_hasOption_11 : decode cX6_hasOption 11 = .ok (.getfield 42, 3) := by decide +kernel
theorem dX6_hasOption_14 : decode cX6_hasOption 14 = .ok (.iload_n 1, 1) := by decide +kernel
theorem dX6_hasOption_15 : decode cX6_hasOption 15 = .ok (.baload, 1) := by decide +kernel
theorem dX6_hasOption_16 : decode cX6_hasOption 16 = .ok (.ifCond .eq 7, 3) := by decide +kernel
theorem dX6_hasOption_19 : decode cX6_hasOption 19 = .ok (.iconst 1, 1) := by decide +kernel
theorem dX6_hasOption_20 : decode cX6_hasOption 20 = .ok (.goto 4, 3) := by decide +kernel
theorem dX6_hasOption_23 : decode cX6_hasOption 23 = .ok (.iconst 0, 1) := by decide +kernel
theorem dX6_hasOption_24 : decode cX6_hasOption 24 = .ok (.ireturn, 1) := by decide +kernel
/-! X6_hasRoomForFive -/
theorem dX6_hasRoomForFive_0 : decode cX6_hasRoomForFive 0 = .ok (.aload_n 0, 1) := by decide +kernel
theorem dX6_hasRoomForFive_1 : decode cX6_hasRoomForFive 1 = .ok (.getfield 15, 3) := by decide +kernel
theorem dX6_hasRoomForFive_4 : decode cX6_hasRoomForFive 4 = .ok (.bipush 20, 2) := by decide +kernel
theorem dX6_hasRoomForFive_6 : decode cX6_hasRoomForFive 6 = .ok (.iadd, 1) := by decide +kernel
theorem dX6_hasRoomForFive_7 : decode cX6_hasRoomForFive 7 = .ok (.sipush 500, 3) := by decide +kernel
theorem dX6_hasRoomForFive_10 : decode cX6_hasRoomForFive 10 = .ok (.if_icmp .gt 7, 3) := by decide +kernel
theorem dX6_hasRoomForFive_13 : decode cX6_hasRoomForFive 13 = .ok (.iconst 1, 1) := by decide +kernel
theorem dX6_hasRoomForFive_14 : decode cX6_hasRoomForFive 14 = .ok (.goto 4, 3) := by decide +kernel
theorem dX6_hasRoomForFive_17 : decode cX6_hasRoomForFive 17 = .ok (.iconst 0, 1) := by decide +kernel
theorem dX6_hasRoomForFive_18 : decode cX6_hasRoomForFive 18 = .ok (.ireturn, 1) := by decide +kernel
/-! X6_init -/
theorem dX6_init_0 : decode cX6_init 0 = .ok (.aload_n 0, 1) := by decide +kernel
theorem dX6_init_1 : decode cX6_init 1 = .ok (.invokespecial 3, 3) := by decide +kernel
theorem dX6_init_4 : decode cX6_init 4 = .ok (.aload_n 0, 1) := by decide +kernel
theorem dX6_init_5 : decode cX6_init 5 = .ok (.sipush 500, 3) := by decide +kernel
theorem dX6_init_8 : decode cX6_init 8 = .ok (.newarray .byte, 2) := by decide +kernel
theorem dX6_init_10 : decode cX6_init 10 = .ok (.putfield 11, 3) := by decide +kernel
theorem dX6_init_13 : decode cX6_init 13 = .ok (.aload_n 0, 1) := by decide +kernel
theorem dX6_init_14 : decode cX6_init 14 = .ok (.iconst 0, 1) := by decide +kernel
theorem dX6_init_15 : decode cX6_init 15 = .ok (.putfield 15, 3) := by decide +kernel
theorem dX6_init_18 : decode cX6_init 18 = .ok (.aload_n 0, 1) := by decide +kernel
theorem dX6_init_19 : decode cX6_init 19 = .ok (.iconst 0, 1) := by decide +kernel
theorem dX6_init_20 : decode cX6_init 20 = .ok (.putfield 19, 3) := by decide +kernel
theorem dX6_init_23 : decode cX6_init 23 = .ok (.aload_n 0, 1) := by decide +kernel
theorem dX6_init_24 : decode cX6_init 24 = .ok (.iconst 0, 1) := by decide +kernel
theorem dX6_init_25 : decode cX6_init 25 = .ok (.putfield 22, 3) := by decide +kernel
theorem dX6_init_28 : decode cX6_init 28 = .ok (.aload_n 0, 1) := by decide +kernel
theorem dX6_init_29 : decode cX6_init 29 = .ok (.iconst 0, 1) := by decide +kernel
theorem dX6_init_30 : decode cX6_init 30 = .ok (.putfield 26, 3) := by decide +kernel
theorem dX6_init_33 : decode cX6_init 33 = .ok (.aload_n 0, 1) := by decide +kernel
theorem dX6_init_34 : decode cX6_init 34 = .ok (.iconst (-1), 1) := by decide +kernel
theorem dX6_init_35 : decode cX6_init 35 = .ok (.putfield 29, 3) := by decide +kernel
theorem dX6_init_38 : decode cX6_init 38 = .ok (.aload_n 0, 1) := by decide +kernel
theorem dX6_init_39 : decode cX6_init 39 = .ok (.iconst 0, 1) := by decide +kernel
theorem dX6_init_40 : decode cX6_init 40 = .ok (.putfield 32, 3) := by decide +kernel
theorem dX6_init_43 : decode cX6_init 43 = .ok (.aload_n 0, 1) := by decide +kernel
theorem dX6_init_44 : decode cX6_init 44 = .ok (.bipush 48, 2) := by decide +kernel
theorem dX6_init_46 : decode cX6_init 46 = .ok (.newarray .int, 2) := by decide +kernel
theorem dX6_init_48 : decode cX6_init 48 = .ok (.putfield 35, 3) := by decide +kernel
theorem dX6_init_51 : decode cX6_init 51 = .ok (.aload_n 0, 1) := by decide +kernel
theorem dX6_init_52 : decode cX6_init 52 = .ok (.sipush 192, 3) := by decide +kernel
theorem dX6_init_55 : decode cX6_init 55 = .ok (.newarray .int, 2) := by decide +kernel
theorem dX6_init_57 : decode cX6_init 57 = .ok (.putfield 39, 3) := by decide +kernel
theorem dX6_init_60 : decode cX6_init 60 = .ok (.aload_n 0, 1) := by decide +kernel
theorem dX6_init_61 : decode cX6_init 61 = .ok (.bipush 48, 2) := by decide +kernel
theorem dX6_init_63 : decode cX6_init 63 = .ok (.newarray .boolean, 2) := by decide +kernel
theorem dX6_init_65 : decode cX6_init 65 = .ok (.putfield 42, 3) := by decide +kernel
theorem dX6_init_68 : decode cX6_init 68 = .ok (.aload_n 0, 1) := by decide +kernel
theorem dX6_init_69 : decode cX6_init 69 = .ok (.bipush 10, 2) := by decide +kernel
theorem dX6_init_71 : decode cX6_init 71 = .ok (.newarray .int, 2) := by decide +kernel
theorem dX6_init_73 : decode cX6_init 73 = .ok (.putfield 46, 3) := by decide +kernel
theorem dX6_init_76 : decode cX6_init 76 = .ok (.return_, 1) := by decide +kernel
/-! X6_isAnotherDue -/
theorem dX6_isAnotherDue_0 : decode cX6_isAnotherDue 0 = .ok (.aload_n 0, 1) := by decide +kernel
theorem dX6_isAnotherDue_1 : decode cX6_isAnotherDue 1 = .ok (.getfield 19, 3) := by decide +kernel
theorem dX6_isAnotherDue_4 : decode cX6_isAnotherDue 4 = .ok (.aload_n 0, 1) := by decide +kernel
theorem dX6_isAnotherDue_5 : decode cX6_isAnotherDue 5 = .ok (.getfield 15, 3) := by decide +kernel
theorem dX6_isAnotherDue_8 : decode cX6_isAnotherDue 8 = .ok (.if_icmp .lt 12, 3) := by decide +kernel
theorem dX6_isAnotherDue_11 : decode cX6_isAnotherDue 11 = .ok (.aload_n 0, 1) := by decide +kernel
theorem dX6_isAnotherDue_12 : decode cX6_isAnotherDue 12 = .ok (.getfield 22, 3) := by decide +kernel
theorem dX6_isAnotherDue_15 : decode cX6_isAnotherDue 15 = .ok (.ifCond .ne 5, 3) := by decide +kernel
theorem dX6_isAnotherDue_18 : decode cX6_isAnotherDue 18 = .ok (.iconst 0, 1) := by decide +kernel
theorem dX6_isAnotherDue_19 : decode cX6_isAnotherDue 19 = .ok (.ireturn, 1) := by decide +kernel
theorem dX6_isAnotherDue_20 : decode cX6_isAnotherDue 20 = .ok (.aload_n 0, 1) := by decide +kernel
theorem dX6_isAnotherDue_21 : decode cX6_isAnotherDue 21 = .ok (.invokevirtual 69, 3) := by decide +kernel
theorem dX6_isAnotherDue_24 : decode cX6_isAnotherDue 24 = .ok (.bipush 59, 2) := by decide +kernel
theorem dX6_isAnotherDue_26 : decode cX6_isAnotherDue 26 = .ok (.if_icmp .eq 13, 3) := by decide +kernel
theorem dX6_isAnotherDue_29 : decode cX6_isAnotherDue 29 = .ok (.aload_n 0, 1) := by decide +kernel
theorem dX6_isAnotherDue_30 : decode cX6_isAnotherDue 30 = .ok (.iconst 1, 1) := by decide +kernel
theorem dX6_isAnotherDue_31 : decode cX6_isAnotherDue 31 = .ok (.aload_n 0, 1) := by decide +kernel
theorem dX6_isAnotherDue_32 : decode cX6_isAnotherDue 32 = .ok (.getfield 19, 3) := by decide +kernel
theorem dX6_isAnotherDue_35 : decode cX6_isAnotherDue 35 = .ok (.invokevirtual 73, 3) := by decide +kernel
theorem dX6_isAnotherDue_38 : decode cX6_isAnotherDue 38 = .ok (.ireturn, 1) := by decide +kernel
theorem dX6_isAnotherDue_39 : decode cX6_isAnotherDue 39 = .ok (.aload_n 0, 1) := by decide +kernel
theorem dX6_isAnotherDue_40 : decode cX6_isAnotherDue 40 = .ok (.dup, 1) := by decide +kernel
theorem dX6_isAnotherDue_41 : decode cX6_isAnotherDue 41 = .ok (.getfield 19, 3) := by decide +kernel
theorem dX6_isAnotherDue_44 : decode cX6_isAnotherDue 44 = .ok (.iconst 1, 1) := by decide +kernel
theorem dX6_isAnotherDue_45 : decode cX6_isAnotherDue 45 = .ok (.iadd, 1) := by decide +kernel
theorem dX6_isAnotherDue_46 : decode cX6_isAnotherDue 46 = .ok (.putfield 19, 3) := by decide +kernel
theorem dX6_isAnotherDue_49 : decode cX6_isAnotherDue 49 = .ok (.aload_n 0, 1) := by decide +kernel
theorem dX6_isAnotherDue_50 : decode cX6_isAnotherDue 50 = .ok (.invokevirtual 59, 3) := by decide +kernel
theorem dX6_isAnotherDue_53 : decode cX6_isAnotherDue 53 = .ok (.aload_n 0, 1) := by decide +kernel
theorem dX6_isAnotherDue_54 : decode cX6_isAnotherDue 54 = .ok (.getfield 22, 3) := by decide +kernel
theorem dX6_isAnotherDue_57 : decode cX6_isAnotherDue 57 = .ok (.ifCond .eq 14, 3) := by decide +kernel
theorem dX6_isAnotherDue_60 : decode cX6_isAnotherDue 60 = .ok (.aload_n 0, 1) := by decide +kernel
theorem dX6_isAnotherDue_61 : decode cX6_isAnotherDue 61 = .ok (.getfield 19, 3) := by decide +kernel
theorem dX6_isAnotherDue_64 : decode cX6_isAnotherDue 64 = .ok (.aload_n 0, 1) := by decide +kernel
theorem dX6_isAnotherDue_65 : decode cX6_isAnotherDue 65 = .ok (.getfield 15, 3) := by decide +kernel
theorem dX6_isAnotherDue_68 : decode cX6_isAnotherDue 68 = .ok (.if_icmp .ge 7, 3) := by decide +kernel
theorem dX6_isAnotherDue_71 : decode cX6_isAnotherDue 71 = .ok (.iconst 1, 1) := by decide +kernel
theorem dX6_isAnotherDue_72 : decode cX6_isAnotherDue 72 = .ok (.goto 4, 3) := by decide +kernel
theorem dX6_isAnotherDue_75 : decode cX6_isAnotherDue 75 = .ok (.iconst 0, 1) := by decide +kernel
theorem dX6_isAnotherDue_76 : decode cX6_isAnotherDue 76 = .ok (.ireturn, 1) := by decide +kernel
/-! X6_isDigit -/
theorem dX6_isDigit_0 : decode cX6_isDigit 0 = .ok (.aload_n 0, 1) := by decide +kernel
theorem dX6_isDigit_1 : decode cX6_isDigit 1 = .ok (.invokevirtual 69, 3) := by decide +kernel
theorem dX6_isDigit_4 : decode cX6_isDigit 4 = .ok (.bipush 48, 2) := by decide +kernel
theorem dX6_isDigit_6 : decode cX6_isDigit 6 = .ok (.if_icmp .lt 16, 3) := by decide +kernel
theorem dX6_isDigit_9 : decode cX6_isDigit 9 = .ok (.aload_n 0, 1) := by decide +kernel
theorem dX6_isDigit_10 : decode cX6_isDigit 10 = .ok (.invokevirtual 69, 3) := by decide +kernel
theorem dX6_isDigit_13 : decode cX6_isDigit 13 = .ok (.bipush 57, 2) := by decide +kernel
theorem dX6_isDigit_15 : decode cX6_isDigit 15 = .ok (.if_icmp .gt 7, 3) := by decide +kernel
theorem dX6_isDigit_18 : decode cX6_isDigit 18 = .ok (.iconst 1, 1) := by decide +kernel
theorem dX6_isDigit_19 : decode cX6_isDigit 19 = .ok (.goto 4, 3) := by decide +kernel
theorem dX6_isDigit_22 : decode cX6_isDigit 22 = .ok (.iconst 0, 1) := by decide +kernel
theorem dX6_isDigit_23 : decode cX6_isDigit 23 = .ok (.ireturn, 1) := by decide +kernel
/-! X6_isFailed -/
theorem dX6_isFailed_0 : decode cX6_isFailed 0 = .ok (.aload_n 0, 1) := by decide +kernel
theorem dX6_isFailed_1 : decode cX6_isFailed 1 = .ok (.iload_n 1, 1) := by decide +kernel
theorem dX6_isFailed_2 : decode cX6_isFailed 2 = .ok (.putfield 26, 3) := by decide +kernel
theorem dX6_isFailed_5 : decode cX6_isFailed 5 = .ok (.aload_n 0, 1) := by decide +kernel
theorem dX6_isFailed_6 : decode cX6_isFailed 6 = .ok (.iload_n 2, 1) := by decide +kernel
theorem dX6_isFailed_7 : decode cX6_isFailed 7 = .ok (.putfield 29, 3) := by decide +kernel
theorem dX6_isFailed_10 : decode cX6_isFailed 10 = .ok (.iconst 0, 1) := by decide +kernel
theorem dX6_isFailed_11 : decode cX6_isFailed 11 = .ok (.ireturn, 1) := by decide +kernel
/-! X6_isLetter -/
theorem dX6_isLetter_0 : decode cX6_isLetter 0 = .ok (.aload_n 0, 1) := by decide +kernel
theorem dX6_isLetter_1 : decode cX6_isLetter 1 = .ok (.invokevirtual 69, 3) := by decide +kernel
theorem dX6_isLetter_4 : decode cX6_isLetter 4 = .ok (.bipush 97, 2) := by decide +kernel
theorem dX6_isLetter_6 : decode cX6_isLetter 6 = .ok (.if_icmp .lt 16, 3) := by decide +kernel
theorem dX6_isLetter_9 : decode cX6_isLetter 9 = .ok (.aload_n 0, 1) := by decide +kernel
theorem dX6_isLetter_10 : decode cX6_isLetter 10 = .ok (.invokevirtual 69, 3) := by decide +kernel
theorem dX6_isLetter_13 : decode cX6_isLetter 13 = .ok (.bipush 122, 2) := by decide +kernel
theorem dX6_isLetter_15 : decode cX6_isLetter 15 = .ok (.if_icmp .gt 7, 3) := by decide +kernel
theorem dX6_isLetter_18 : decode cX6_isLetter 18 = .ok (.iconst 1, 1) := by decide +kernel
theorem dX6_isLetter_19 : decode cX6_isLetter 19 = .ok (.goto 4, 3) := by decide +kernel
theorem dX6_isLetter_22 : decode cX6_isLetter 22 = .ok (.iconst 0, 1) := by decide +kernel
theorem dX6_isLetter_23 : decode cX6_isLetter 23 = .ok (.ireturn, 1) := by decide +kernel
/-! X6_isNumberRead -/
theorem dX6_isNumberRead_0 : decode cX6_isNumberRead 0 = .ok (.aload_n 0, 1) := by decide +kernel
theorem dX6_isNumberRead_1 : decode cX6_isNumberRead 1 = .ok (.getfield 19, 3) := by decide +kernel
theorem dX6_isNumberRead_4 : decode cX6_isNumberRead 4 = .ok (.istore_n 3, 1) := by decide +kernel
theorem dX6_isNumberRead_5 : decode cX6_isNumberRead 5 = .ok (.iconst 0, 1) := by decide +kernel
theorem dX6_isNumberRead_6 : decode cX6_isNumberRead 6 = .ok (.istore 4, 2) := by decide +kernel
theorem dX6_isNumberRead_8 : decode cX6_isNumberRead 8 = .ok (.iconst 0, 1) := by decide +kernel
theorem dX6_isNumberRead_9 : decode cX6_isNumberRead 9 = .ok (.istore 5, 2) := by decide +kernel
theorem dX6_isNumberRead_11 : decode cX6_isNumberRead 11 = .ok (.aload_n 0, 1) := by decide +kernel
theorem dX6_isNumberRead_12 : decode cX6_isNumberRead 12 = .ok (.getfield 19, 3) := by decide +kernel
theorem dX6_isNumberRead_15 : decode cX6_isNumberRead 15 = .ok (.aload_n 0, 1) := by decide +kernel
theorem dX6_isNumberRead_16 : decode cX6_isNumberRead 16 = .ok (.getfield 15, 3) := by decide +kernel
theorem dX6_isNumberRead_19 : decode cX6_isNumberRead 19 = .ok (.if_icmp .ge 47, 3) := by decide +kernel
theorem dX6_isNumberRead_22 : decode cX6_isNumberRead 22 = .ok (.aload_n 0, 1) := by decide +kernel
theorem dX6_isNumberRead_23 : decode cX6_isNumberRead 23 = .ok (.invokevirtual 139, 3) := by decide +kernel
theorem dX6_isNumberRead_26 : decode cX6_isNumberRead 26 = .ok (.ifCond .eq 40, 3) := by decide +kernel
theorem dX6_isNumberRead_29 : decode cX6_isNumberRead 29 = .ok (.iload 5, 2) := by decide +kernel
theorem dX6_isNumberRead_31 : decode cX6_isNumberRead 31 = .ok (.iconst 4, 1) := by decide +kernel
theorem dX6_isNumberRead_32 : decode cX6_isNumberRead 32 = .ok (.if_icmp .ge 18, 3) := by decide +kernel
theorem dX6_isNumberRead_35 : decode cX6_isNumberRead 35 = .ok (.iload 4, 2) := by decide +kernel
theorem dX6_isNumberRead_37 : decode cX6_isNumberRead 37 = .ok (.bipush 10, 2) := by decide +kernel
theorem dX6_isNumberRead_39 : decode cX6_isNumberRead 39 = .ok (.imul, 1) := by decide +kernel
theorem dX6_isNumberRead_40 : decode cX6_isNumberRead 40 = .ok (.aload_n 0, 1) := by decide +kernel
theorem dX6_isNumberRead_41 : decode cX6_isNumberRead 41 = .ok (.invokevirtual 69, 3) := by decide +kernel
theorem dX6_isNumberRead_44 : decode cX6_isNumberRead 44 = .ok (.iadd, 1) := by decide +kernel
theorem dX6_isNumberRead_45 : decode cX6_isNumberRead 45 = .ok (.bipush 48, 2) := by decide +kernel
theorem dX6_isNumberRead_47 : decode cX6_isNumberRead 47 = .ok (.isub, 1) := by decide +kernel
theorem dX6_isNumberRead_48 : decode cX6_isNumberRead 48 = .ok (.istore 4, 2) := by decide +kernel
theorem dX6_isNumberRead_50 : decode cX6_isNumberRead 50 = .ok (.iinc 5 1, 3) := by decide +kernel
theorem dX6_isNumberRead_53 : decode cX6_isNumberRead 53 = .ok (.aload_n 0, 1) := by decide +kernel
theorem dX6_isNumberRead_54 : decode cX6_isNumberRead 54 = .ok (.dup, 1) := by decide +kernel
theorem dX6_isNumberRead_55 : decode cX6_isNumberRead 55 = .ok (.getfield 19, 3) := by decide +kernel
theorem dX6_isNumberRead_58 : decode cX6_isNumberRead 58 = .ok (.iconst 1, 1) := by decide +kernel
theorem dX6_isNumberRead_59 : decode cX6_isNumberRead 59 = .ok (.iadd, 1) := by decide +kernel
theorem dX6_isNumberRead_60 : decode cX6_isNumberRead 60 = .ok (.putfield 19, 3) := by decide +kernel
theorem dX6_isNumberRead_63 : decode cX6_isNumberRead 63 = .ok (.goto (-52), 3) := by decide +kernel
theorem dX6_isNumberRead_66 : decode cX6_isNumberRead 66 = .ok (.iload 5, 2) := by decide +kernel
theorem dX6_isNumberRead_68 : decode cX6_isNumberRead 68 = .ok (.ifCond .eq 9, 3) := by decide +kernel
theorem dX6_isNumberRead_71 : decode cX6_isNumberRead 71 = .ok (.iload 5, 2) := by decide +kernel
theorem dX6_isNumberRead_73 : decode cX6_isNumberRead 73 = .ok (.iconst 4, 1) := by decide +kernel
theorem dX6_isNumberRead_74 : decode cX6_isNumberRead 74 = .ok (.if_icmp .le 10, 3) := by decide +kernel
theorem dX6_isNumberRead_77 : decode cX6_isNumberRead 77 = .ok (.aload_n 0, 1) := by decide +kernel
theorem dX6_isNumberRead_78 : decode cX6_isNumberRead 78 = .ok (.iconst 1, 1) := by decide +kernel
theorem dX6_isNumberRead_79 : decode cX6_isNumberRead 79 = .ok (.iload_n 3, 1) := by decide +kernel
theorem dX6_isNumberRead_80 : decode cX6_isNumberRead 80 = .ok (.invokevirtual 73, 3) := by decide +kernel
theorem dX6_isNumberRead_83 : decode cX6_isNumberRead 83 = .ok (.ireturn, 1) := by decide +kernel
theorem dX6_isNumberRead_84 : decode cX6_isNumberRead 84 = .ok (.iload_n 1, 1) := by decide +kernel
theorem dX6_isNumberRead_85 : decode cX6_isNumberRead 85 = .ok (.iconst 4, 1) := by decide +kernel
theorem dX6_isNumberRead_86 : decode cX6_isNumberRead 86 = .ok (.imul, 1) := by decide +kernel
theorem dX6_isNumberRead_87 : decode cX6_isNumberRead 87 = .ok (.iload_n 2, 1) := by decide +kernel
theorem dX6_isNumberRead_88 : decode cX6_isNumberRead 88 = .ok (.iadd, 1) := by decide +kernel
theorem dX6_isNumberRead_89 : decode cX6_isNumberRead 89 = .ok (.istore 6, 2) := by decide +kernel
theorem dX6_isNumberRead_91 : decode cX6_isNumberRead 91 = .ok (.iload_n 1, 1) := by decide +kernel
theorem dX6_isNumberRead_92 : decode cX6_isNumberRead 92 = .ok (.bipush 6, 2) := by decide +kernel
theorem dX6_isNumberRead_94 : decode cX6_isNumberRead 94 = .ok (.if_icmp .ne 20, 3) := by decide +kernel
theorem dX6_isNumberRead_97 : decode cX6_isNumberRead 97 = .ok (.iload_n 2, 1) := by decide +kernel
theorem dX6_isNumberRead_98 : decode cX6_isNumberRead 98 = .ok (.iconst 1, 1) := by decide +kernel
theorem dX6_isNumberRead_99 : decode cX6_isNumberRead 99 = .ok (.if_icmp .ne 15, 3) := by decide +kernel
theorem dX6_isNumberRead_102 : decode cX6_isNumberRead 102 = .ok (.iload 4, 2) := by decide +kernel
theorem dX6_isNumberRead_104 : decode cX6_isNumberRead 104 = .ok (.bipush 8, 2) := by decide +kernel
theorem dX6_isNumberRead_106 : decode cX6_isNumberRead 106 = .ok (.irem, 1) := by decide +kernel
theorem dX6_isNumberRead_107 : decode cX6_isNumberRead 107 = .ok (.ifCond .eq 7, 3) := by decide +kernel
theorem dX6_isNumberRead_110 : decode cX6_isNumberRead 110 = .ok (.iconst 1, 1) := by decide +kernel
theorem dX6_isNumberRead_111 : decode cX6_isNumberRead 111 = .ok (.goto 4, 3) := by decide +kernel
theorem dX6_isNumberRead_114 : decode cX6_isNumberRead 114 = .ok (.iconst 0, 1) := by decide +kernel
theorem dX6_isNumberRead_115 : decode cX6_isNumberRead 115 = .ok (.istore 7, 2) := by decide +kernel
theorem dX6_isNumberRead_117 : decode cX6_isNumberRead 117 = .ok (.iload 4, 2) := by decide +kernel
theorem dX6_isNumberRead_119 : decode cX6_isNumberRead 119 = .ok (.getstatic 142, 3) := by decide +kernel
theorem dX6_isNumberRead_122 : decode cX6_isNumberRead 122 = .ok (.iload 6, 2) := by decide +kernel
theorem dX6_isNumberRead_124 : decode cX6_isNumberRead 124 = .ok (.invokestatic 49, 3) := by decide +kernel
theorem dX6_isNumberRead_127 : decode cX6_isNumberRead 127 = .ok (.if_icmp .lt 21, 3) := by decide +kernel
theorem dX6_isNumberRead_130 : decode cX6_isNumberRead 130 = .ok (.iload 4, 2) := by decide +kernel
theorem dX6_isNumberRead_132 : decode cX6_isNumberRead 132 = .ok (.getstatic 145, 3) := by decide +kernel
theorem dX6_isNumberRead_135 : decode cX6_isNumberRead 135 = .ok (.iload 6, 2) := by decide +kernel
theorem dX6_isNumberRead_137 : decode cX6_isNumberRead 137 = .ok (.invokestatic 49, 3) := by decide +kernel
theorem dX6_isNumberRead_140 : decode cX6_isNumberRead 140 = .ok (.if_icmp .gt 8, 3) := by decide +kernel
theorem dX6_isNumberRead_143 : decode cX6_isNumberRead 143 = .ok (.iload 7, 2) := by decide +kernel
theorem dX6_isNumberRead_145 : decode cX6_isNumberRead 145 = .ok (.ifCond .eq 10, 3) := by decide +kernel
theorem dX6_isNumberRead_148 : decode cX6_isNumberRead 148 = .ok (.aload_n 0, 1) := by decide +kernel
theorem dX6_isNumberRead_149 : decode cX6_isNumberRead 149 = .ok (.iconst 2, 1) := by decide +kernel
theorem dX6_isNumberRead_150 : decode cX6_isNumberRead 150 = .ok (.iload_n 3, 1) := by decide +kernel
theorem dX6_isNumberRead_151 : decode cX6_isNumberRead 151 = .ok (.invokevirtual 73, 3) := by decide +kernel
theorem dX6_isNumberRead_154 : decode cX6_isNumberRead 154 = .ok (.ireturn, 1) := by decide +kernel
theorem dX6_isNumberRead_155 : decode cX6_isNumberRead 155 = .ok (.aload_n 0, 1) := by decide +kernel
theorem dX6_isNumberRead_156 : decode cX6_isNumberRead 156 = .ok (.getfield 39, 3) := by decide +kernel
theorem dX6_isNumberRead_159 : decode cX6_isNumberRead 159 = .ok (.aload_n 0, 1) := by decide +kernel
theorem dX6_isNumberRead_160 : decode cX6_isNumberRead 160 = .ok (.getfield 32, 3) := by decide +kernel
theorem dX6_isNumberRead_163 : decode cX6_isNumberRead 163 = .ok (.iconst 4, 1) := by decide +kernel
theorem dX6_isNumberRead_164 : decode cX6_isNumberRead 164 = .ok (.imul, 1) := by decide +kernel
theorem dX6_isNumberRead_165 : decode cX6_isNumberRead 165 = .ok (.iload_n 2, 1) := by decide +kernel
theorem dX6_isNumberRead_166 : decode cX6_isNumberRead 166 = .ok (.iadd, 1) := by decide +kernel
theorem dX6_isNumberRead_167 : decode cX6_isNumberRead 167 = .ok (.iload 4, 2) := by decide +kernel
theorem dX6_isNumberRead_169 : decode cX6_isNumberRead 169 = .ok (.invokestatic 84, 3) := by decide +kernel
theorem dX6_isNumberRead_172 : decode cX6_isNumberRead 172 = .ok (.aload_n 0, 1) := by decide +kernel
theorem dX6_isNumberRead_173 : decode cX6_isNumberRead 173 = .ok (.invokevirtual 59, 3) := by decide +kernel
theorem dX6_isNumberRead_176 : decode cX6_isNumberRead 176 = .ok (.iconst 1, 1) := by decide +kernel
theorem dX6_isNumberRead_177 : decode cX6_isNumberRead 177 = .ok (.ireturn, 1) := by decide +kernel
/-! X6_isOptionRead -/
theorem dX6_isOptionRead_0 : decode cX6_isOptionRead 0 = .ok (.iload_n 1, 1) := by decide +kernel
theorem dX6_isOptionRead_1 : decode cX6_isOptionRead 1 = .ok (.iconst 3, 1) := by decide +kernel
theorem dX6_isOptionRead_2 : decode cX6_isOptionRead 2 = .ok (.if_icmp .eq 11, 3) := by decide +kernel
theorem dX6_isOptionRead_5 : decode cX6_isOptionRead 5 = .ok (.iload_n 1, 1) := by decide +kernel
theorem dX6_isOptionRead_6 : decode cX6_isOptionRead 6 = .ok (.bipush 6, 2) := by decide +kernel
theorem dX6_isOptionRead_8 : decode cX6_isOptionRead 8 = .ok (.if_icmp .eq 5, 3) := by decide +kernel
theorem dX6_isOptionRead_11 : decode cX6_isOptionRead 11 = .ok (.iconst 0, 1) := by decide +kernel
theorem dX6_isOptionRead_12 : decode cX6_isOptionRead 12 = .ok (.ireturn, 1) := by decide +kernel
theorem dX6_isOptionRead_13 : decode cX6_isOptionRead 13 = .ok (.aload_n 0, 1) := by decide +kernel
theorem dX6_isOptionRead_14 : decode cX6_isOptionRead 14 = .ok (.getfield 19, 3) := by decide +kernel
theorem dX6_isOptionRead_17 : decode cX6_isOptionRead 17 = .ok (.istore_n 2, 1) := by decide +kernel
theorem dX6_isOptionRead_18 : decode cX6_isOptionRead 18 = .ok (.aload_n 0, 1) := by decide +kernel
theorem dX6_isOptionRead_19 : decode cX6_isOptionRead 19 = .ok (.invokevirtual 97, 3) := by decide +kernel
theorem dX6_isOptionRead_22 : decode cX6_isOptionRead 22 = .ok (.aload_n 0, 1) := by decide +kernel
theorem dX6_isOptionRead_23 : decode cX6_isOptionRead 23 = .ok (.iload_n 2, 1) := by decide +kernel
theorem dX6_isOptionRead_24 : decode cX6_isOptionRead 24 = .ok (.iload_n 1, 1) := by decide +kernel
theorem dX6_isOptionRead_25 : decode cX6_isOptionRead 25 = .ok (.iconst 3, 1) := by decide +kernel
theorem dX6_isOptionRead_26 : decode cX6_isOptionRead 26 = .ok (.if_icmp .ne 8, 3) := by decide +kernel
theorem dX6_isOptionRead_29 : decode cX6_isOptionRead 29 = .ok (.ldc 148, 2) := by decide +kernel
theorem dX6_isOptionRead_31 : decode cX6_isOptionRead 31 = .ok (.goto 5, 3) := by decide +kernel
theorem dX6_isOptionRead_34 : decode cX6_isOptionRead 34 = .ok (.ldc 150, 2) := by decide +kernel
theorem dX6_isOptionRead_36 : decode cX6_isOptionRead 36 = .ok (.invokevirtual 104, 3) := by decide +kernel
theorem dX6_isOptionRead_39 : decode cX6_isOptionRead 39 = .ok (.ifCond .eq 9, 3) := by decide +kernel
theorem dX6_isOptionRead_42 : decode cX6_isOptionRead 42 = .ok (.aload_n 0, 1) := by decide +kernel
theorem dX6_isOptionRead_43 : decode cX6_isOptionRead 43 = .ok (.invokevirtual 59, 3) := by decide +kernel
theorem dX6_isOptionRead_46 : decode cX6_isOptionRead 46 = .ok (.iconst 1, 1) := by decide +kernel
theorem dX6_isOptionRead_47 : decode cX6_isOptionRead 47 = .ok (.ireturn, 1) := by decide +kernel
theorem dX6_isOptionRead_48 : decode cX6_isOptionRead 48 = .ok (.aload_n 0, 1) := by decide +kernel
theorem dX6_isOptionRead_49 : decode cX6_isOptionRead 49 = .ok (.iload_n 2, 1) := by decide +kernel
theorem dX6_isOptionRead_50 : decode cX6_isOptionRead 50 = .ok (.putfield 19, 3) := by decide +kernel
theorem dX6_isOptionRead_53 : decode cX6_isOptionRead 53 = .ok (.iconst 0, 1) := by decide +kernel
theorem dX6_isOptionRead_54 : decode cX6_isOptionRead 54 = .ok (.ireturn, 1) := by decide +kernel
/-! X6_isStatementRead -/
theorem dX6_isStatementRead_0 : decode cX6_isStatementRead 0 = .ok (.aload_n 0, 1) := by decide +kernel
theorem dX6_isStatementRead_1 : decode cX6_isStatementRead 1 = .ok (.getfield 19, 3) := by decide +kernel
theorem dX6_isStatementRead_4 : decode cX6_isStatementRead 4 = .ok (.istore_n 1, 1) := by decide +kernel
theorem dX6_isStatementRead_5 : decode cX6_isStatementRead 5 = .ok (.aload_n 0, 1) := by decide +kernel
theorem dX6_isStatementRead_6 : decode cX6_isStatementRead 6 = .ok (.invokevirtual 77, 3) := by decide +kernel
theorem dX6_isStatementRead_9 : decode cX6_isStatementRead 9 = .ok (.istore_n 2, 1) := by decide +kernel
theorem dX6_isStatementRead_10 : decode cX6_isStatementRead 10 = .ok (.iload_n 2, 1) := by decide +kernel
theorem dX6_isStatementRead_11 : decode cX6_isStatementRead 11 = .ok (.iconst (-1), 1) := by decide +kernel
theorem dX6_isStatementRead_12 : decode cX6_isStatementRead 12 = .ok (.if_icmp .eq 21, 3) := by decide +kernel
theorem dX6_isStatementRead_15 : decode cX6_isStatementRead 15 = .ok (.aload_n 0, 1) := by decide +kernel
theorem dX6_isStatementRead_16 : decode cX6_isStatementRead 16 = .ok (.getfield 22, 3) := by decide +kernel
theorem dX6_isStatementRead_19 : decode cX6_isStatementRead 19 = .ok (.ifCond .ne 21, 3) := by decide +kernel
theorem dX6_isStatementRead_22 : decode cX6_isStatementRead 22 = .ok (.aload_n 0, 1) := by decide +kernel
theorem dX6_isStatementRead_23 : decode cX6_isStatementRead 23 = .ok (.getfield 32, 3) := by decide +kernel
theorem dX6_isStatementRead_26 : decode cX6_isStatementRead 26 = .ok (.ifCond .ne 14, 3) := by decide +kernel
theorem dX6_isStatementRead_29 : decode cX6_isStatementRead 29 = .ok (.iload_n 2, 1) := by decide +kernel
theorem dX6_isStatementRead_30 : decode cX6_isStatementRead 30 = .ok (.ifCond .eq 10, 3) := by decide +kernel
theorem dX6_isStatementRead_33 : decode cX6_isStatementRead 33 = .ok (.aload_n 0, 1) := by decide +kernel
theorem dX6_isStatementRead_34 : decode cX6_isStatementRead 34 = .ok (.iconst 1, 1) := by decide +kernel
theorem dX6_isStatementRead_35 : decode cX6_isStatementRead 35 = .ok (.iload_n 1, 1) := by decide +kernel
theorem dX6_isStatementRead_36 : decode cX6_isStatementRead 36 = .ok (.invokevirtual 73, 3) := by decide +kernel
theorem dX6_isStatementRead_39 : decode cX6_isStatementRead 39 = .ok (.ireturn, 1) := by decide +kernel
theorem dX6_isStatementRead_40 : decode cX6_isStatementRead 40 = .ok (.aload_n 0, 1) := by decide +kernel
theorem dX6_isStatementRead_41 : decode cX6_isStatementRead 41 = .ok (.getfield 46, 3) := by decide +kernel
theorem dX6_isStatementRead_44 : decode cX6_isStatementRead 44 = .ok (.iload_n 2, 1) := by decide +kernel
theorem dX6_isStatementRead_45 : decode cX6_isStatementRead 45 = .ok (.invokestatic 49, 3) := by decide +kernel
theorem dX6_isStatementRead_48 : decode cX6_isStatementRead 48 = .ok (.ifCond .le 20, 3) := by decide +kernel
theorem dX6_isStatementRead_51 : decode cX6_isStatementRead 51 = .ok (.iload_n 2, 1) := by decide +kernel
theorem dX6_isStatementRead_52 : decode cX6_isStatementRead 52 = .ok (.iconst 1, 1) := by decide +kernel
theorem dX6_isStatementRead_53 : decode cX6_isStatementRead 53 = .ok (.if_icmp .eq 8, 3) := by decide +kernel
theorem dX6_isStatementRead_56 : decode cX6_isStatementRead 56 = .ok (.iload_n 2, 1) := by decide +kernel
theorem dX6_isStatementRead_57 : decode cX6_isStatementRead 57 = .ok (.iconst 2, 1) := by decide +kernel
theorem dX6_isStatementRead_58 : decode cX6_isStatementRead 58 = .ok (.if_icmp .ne 10, 3) := by decide +kernel
theorem dX6_isStatementRead_61 : decode cX6_isStatementRead 61 = .ok (.aload_n 0, 1) := by decide +kernel
theorem dX6_isStatementRead_62 : decode cX6_isStatementRead 62 = .ok (.iconst 3, 1) := by decide +kernel
theorem dX6_isStatementRead_63 : decode cX6_isStatementRead 63 = .ok (.iload_n 1, 1) := by decide +kernel
theorem dX6_isStatementRead_64 : decode cX6_isStatementRead 64 = .ok (.invokevirtual 73, 3) := by decide +kernel
theorem dX6_isStatementRead_67 : decode cX6_isStatementRead 67 = .ok (.ireturn, 1) := by decide +kernel
theorem dX6_isStatementRead_68 : decode cX6_isStatementRead 68 = .ok (.aload_n 0, 1) := by decide +kernel
theorem dX6_isStatementRead_69 : decode cX6_isStatementRead 69 = .ok (.iload_n 2, 1) := by decide +kernel
theorem dX6_isStatementRead_70 : decode cX6_isStatementRead 70 = .ok (.invokevirtual 80, 3) := by decide +kernel
theorem dX6_isStatementRead_73 : decode cX6_isStatementRead 73 = .ok (.ifCond .ne 19, 3) := by decide +kernel
theorem dX6_isStatementRead_76 : decode cX6_isStatementRead 76 = .ok (.aload_n 0, 1) := by decide +kernel
theorem dX6_isStatementRead_77 : decode cX6_isStatementRead 77 = .ok (.getfield 32, 3) := by decide +kernel
theorem dX6_isStatementRead_80 : decode cX6_isStatementRead 80 = .ok (.ifCond .lt 12, 3) := by decide +kernel
theorem dX6_isStatementRead_83 : decode cX6_isStatementRead 83 = .ok (.aload_n 0, 1) := by decide +kernel
theorem dX6_isStatementRead_84 : decode cX6_isStatementRead 84 = .ok (.getfield 32, 3) := by decide +kernel
theorem dX6_isStatementRead_87 : decode cX6_isStatementRead 87 = .ok (.bipush 48, 2) := by decide +kernel
theorem dX6_isStatementRead_89 : decode cX6_isStatementRead 89 = .ok (.if_icmp .lt 10, 3) := by decide +kernel
theorem dX6_isStatementRead_92 : decode cX6_isStatementRead 92 = .ok (.aload_n 0, 1) := by decide +kernel
theorem dX6_isStatementRead_93 : decode cX6_isStatementRead 93 = .ok (.iconst 4, 1) := by decide +kernel
theorem dX6_isStatementRead_94 : decode cX6_isStatementRead 94 = .ok (.iload_n 1, 1) := by decide +kernel
theorem dX6_isStatementRead_95 : decode cX6_isStatementRead 95 = .ok (.invokevirtual 73, 3) := by decide +kernel
theorem dX6_isStatementRead_98 : decode cX6_isStatementRead 98 = .ok (.ireturn, 1) := by decide +kernel
theorem dX6_isStatementRead_99 : decode cX6_isStatementRead 99 = .ok (.aload_n 0, 1) := by decide +kernel
theorem dX6_isStatementRead_100 : decode cX6_isStatementRead 100 = .ok (.getfield 46, 3) := by decide +kernel
theorem dX6_isStatementRead_103 : decode cX6_isStatementRead 103 = .ok (.iload_n 2, 1) := by decide +kernel
theorem dX6_isStatementRead_104 : decode cX6_isStatementRead 104 = .ok (.aload_n 0, 1) := by decide +kernel
theorem dX6_isStatementRead_105 : decode cX6_isStatementRead 105 = .ok (.getfield 46, 3) := by decide +kernel
theorem dX6_isStatementRead_108 : decode cX6_isStatementRead 108 = .ok (.iload_n 2, 1) := by decide +kernel
theorem dX6_isStatementRead_109 : decode cX6_isStatementRead 109 = .ok (.invokestatic 49, 3) := by decide +kernel
theorem dX6_isStatementRead_112 : decode cX6_isStatementRead 112 = .ok (.iconst 1, 1) := by decide +kernel
theorem dX6_isStatementRead_113 : decode cX6_isStatementRead 113 = .ok (.iadd, 1) := by decide +kernel
theorem dX6_isStatementRead_114 : decode cX6_isStatementRead 114 = .ok (.invokestatic 84, 3) := by decide +kernel
theorem dX6_isStatementRead_117 : decode cX6_isStatementRead 117 = .ok (.iconst 0, 1) := by decide +kernel
theorem dX6_isStatementRead_118 : decode cX6_isStatementRead 118 = .ok (.istore_n 3, 1) := by decide +kernel
theorem dX6_isStatementRead_119 : decode cX6_isStatementRead 119 = .ok (.iload_n 3, 1) := by decide +kernel
theorem dX6_isStatementRead_120 : decode cX6_isStatementRead 120 = .ok (.getstatic 88, 3) := by decide +kernel
theorem dX6_isStatementRead_123 : decode cX6_isStatementRead 123 = .ok (.iload_n 2, 1) := by decide +kernel
theorem dX6_isStatementRead_124 : decode cX6_isStatementRead 124 = .ok (.invokestatic 49, 3) := by decide +kernel
theorem dX6_isStatementRead_127 : decode cX6_isStatementRead 127 = .ok (.if_icmp .ge 20, 3) := by decide +kernel
theorem dX6_isStatementRead_130 : decode cX6_isStatementRead 130 = .ok (.aload_n 0, 1) := by decide +kernel
theorem dX6_isStatementRead_131 : decode cX6_isStatementRead 131 = .ok (.iload_n 2, 1) := by decide +kernel
theorem dX6_isStatementRead_132 : decode cX6_isStatementRead 132 = .ok (.iload_n 3, 1) := by decide +kernel
theorem dX6_isStatementRead_133 : decode cX6_isStatementRead 133 = .ok (.invokevirtual 91, 3) := by decide +kernel
theorem dX6_isStatementRead_136 : decode cX6_isStatementRead 136 = .ok (.ifCond .ne 5, 3) := by decide +kernel
theorem dX6_isStatementRead_139 : decode cX6_isStatementRead 139 = .ok (.iconst 0, 1) := by decide +kernel
theorem dX6_isStatementRead_140 : decode cX6_isStatementRead 140 = .ok (.ireturn, 1) := by decide +kernel
theorem dX6_isStatementRead_141 : decode cX6_isStatementRead 141 = .ok (.iinc 3 1, 3) := by decide +kernel
theorem dX6_isStatementRead_144 : decode cX6_isStatementRead 144 = .ok (.goto (-25), 3) := by decide +kernel
theorem dX6_isStatementRead_147 : decode cX6_isStatementRead 147 = .ok (.aload_n 0, 1) := by decide +kernel
theorem dX6_isStatementRead_148 : decode cX6_isStatementRead 148 = .ok (.getfield 35, 3) := by decide +kernel
theorem dX6_isStatementRead_151 : decode cX6_isStatementRead 151 = .ok (.aload_n 0, 1) := by decide +kernel
theorem dX6_isStatementRead_152 : decode cX6_isStatementRead 152 = .ok (.getfield 32, 3) := by decide +kernel
theorem dX6_isStatementRead_155 : decode cX6_isStatementRead 155 = .ok (.iload_n 2, 1) := by decide +kernel
theorem dX6_isStatementRead_156 : decode cX6_isStatementRead 156 = .ok (.iastore, 1) := by decide +kernel
theorem dX6_isStatementRead_157 : decode cX6_isStatementRead 157 = .ok (.aload_n 0, 1) := by decide +kernel
theorem dX6_isStatementRead_158 : decode cX6_isStatementRead 158 = .ok (.getfield 42, 3) := by decide +kernel
theorem dX6_isStatementRead_161 : decode cX6_isStatementRead 161 = .ok (.aload_n 0, 1) := by decide +kernel
theorem dX6_isStatementRead_162 : decode cX6_isStatementRead 162 = .ok (.getfield 32, 3) := by decide +kernel
theorem dX6_isStatementRead_165 : decode cX6_isStatementRead 165 = .ok (.aload_n 0, 1) := by decide +kernel
theorem dX6_isStatementRead_166 : decode cX6_isStatementRead 166 = .ok (.iload_n 2, 1) := by decide +kernel
theorem dX6_isStatementRead_167 : decode cX6_isStatementRead 167 = .ok (.invokevirtual 94, 3) := by decide +kernel
theorem dX6_isStatementRead_170 : decode cX6_isStatementRead 170 = .ok (.bastore, 1) := by decide +kernel
theorem dX6_isStatementRead_171 : decode cX6_isStatementRead 171 = .ok (.aload_n 0, 1) := by decide +kernel
theorem dX6_isStatementRead_172 : decode cX6_isStatementRead 172 = .ok (.dup, 1) := by decide +kernel
theorem dX6_isStatementRead_173 : decode cX6_isStatementRead 173 = .ok (.getfield 32, 3) := by decide +kernel
theorem dX6_isStatementRead_176 : decode cX6_isStatementRead 176 = .ok (.iconst 1, 1) := by decide +kernel
theorem dX6_isStatementRead_177 : decode cX6_isStatementRead 177 = .ok (.iadd, 1) := by decide +kernel
theorem dX6_isStatementRead_178 : decode cX6_isStatementRead 178 = .ok (.putfield 32, 3) := by decide +kernel
theorem dX6_isStatementRead_181 : decode cX6_isStatementRead 181 = .ok (.iconst 1, 1) := by decide +kernel
theorem dX6_isStatementRead_182 : decode cX6_isStatementRead 182 = .ok (.ireturn, 1) := by decide +kernel
/-! X6_isTooMany -/
theorem dX6_isTooMany_0 : decode cX6_isTooMany 0 = .ok (.aload_n 0, 1) := by decide +kernel
theorem dX6_isTooMany_1 : decode cX6_isTooMany 1 = .ok (.getfield 22, 3) := by decide +kernel
theorem dX6_isTooMany_4 : decode cX6_isTooMany 4 = .ok (.ifCond .eq 18, 3) := by decide +kernel
theorem dX6_isTooMany_7 : decode cX6_isTooMany 7 = .ok (.aload_n 0, 1) := by decide +kernel
theorem dX6_isTooMany_8 : decode cX6_isTooMany 8 = .ok (.getfield 32, 3) := by decide +kernel
theorem dX6_isTooMany_11 : decode cX6_isTooMany 11 = .ok (.bipush 30, 2) := by decide +kernel
theorem dX6_isTooMany_13 : decode cX6_isTooMany 13 = .ok (.if_icmp .lt 7, 3) := by decide +kernel
theorem dX6_isTooMany_16 : decode cX6_isTooMany 16 = .ok (.iconst 1, 1) := by decide +kernel
theorem dX6_isTooMany_17 : decode cX6_isTooMany 17 = .ok (.goto 4, 3) := by decide +kernel
theorem dX6_isTooMany_20 : decode cX6_isTooMany 20 = .ok (.iconst 0, 1) := by decide +kernel
theorem dX6_isTooMany_21 : decode cX6_isTooMany 21 = .ok (.ireturn, 1) := by decide +kernel
theorem dX6_isTooMany_22 : decode cX6_isTooMany 22 = .ok (.iload_n 1, 1) := by decide +kernel
theorem dX6_isTooMany_23 : decode cX6_isTooMany 23 = .ok (.ifCond .ne 16, 3) := by decide +kernel
theorem dX6_isTooMany_26 : decode cX6_isTooMany 26 = .ok (.aload_n 0, 1) := by decide +kernel
theorem dX6_isTooMany_27 : decode cX6_isTooMany 27 = .ok (.getfield 46, 3) := by decide +kernel
theorem dX6_isTooMany_30 : decode cX6_isTooMany 30 = .ok (.iconst 0, 1) := by decide +kernel
theorem dX6_isTooMany_31 : decode cX6_isTooMany 31 = .ok (.invokestatic 49, 3) := by decide +kernel
theorem dX6_isTooMany_34 : decode cX6_isTooMany 34 = .ok (.bipush 6, 2) := by decide +kernel
theorem dX6_isTooMany_36 : decode cX6_isTooMany 36 = .ok (.if_icmp .ge 21, 3) := by decide +kernel
theorem dX6_isTooMany_39 : decode cX6_isTooMany 39 = .ok (.iload_n 1, 1) := by decide +kernel
theorem dX6_isTooMany_40 : decode cX6_isTooMany 40 = .ok (.iconst 3, 1) := by decide +kernel
theorem dX6_isTooMany_41 : decode cX6_isTooMany 41 = .ok (.if_icmp .ne 20, 3) := by decide +kernel
theorem dX6_isTooMany_44 : decode cX6_isTooMany 44 = .ok (.aload_n 0, 1) := by decide +kernel
theorem dX6_isTooMany_45 : decode cX6_isTooMany 45 = .ok (.getfield 46, 3) := by decide +kernel
theorem dX6_isTooMany_48 : decode cX6_isTooMany 48 = .ok (.iconst 3, 1) := by decide +kernel
theorem dX6_isTooMany_49 : decode cX6_isTooMany 49 = .ok (.invokestatic 49, 3) := by decide +kernel
theorem dX6_isTooMany_52 : decode cX6_isTooMany 52 = .ok (.bipush 40, 2) := by decide +kernel
theorem dX6_isTooMany_54 : decode cX6_isTooMany 54 = .ok (.if_icmp .lt 7, 3) := by decide +kernel
theorem dX6_isTooMany_57 : decode cX6_isTooMany 57 = .ok (.iconst 1, 1) := by decide +kernel
theorem dX6_isTooMany_58 : decode cX6_isTooMany 58 = .ok (.goto 4, 3) := by decide +kernel
theorem dX6_isTooMany_61 : decode cX6_isTooMany 61 = .ok (.iconst 0, 1) := by decide +kernel
theorem dX6_isTooMany_62 : decode cX6_isTooMany 62 = .ok (.ireturn, 1) := by decide +kernel
/-! X6_isWellRead -/
theorem dX6_isWellRead_0 : decode cX6_isWellRead 0 = .ok (.aload_n 0, 1) := by decide +kernel
theorem dX6_isWellRead_1 : decode cX6_isWellRead 1 = .ok (.iload_n 1, 1) := by decide +kernel
theorem dX6_isWellRead_2 : decode cX6_isWellRead 2 = .ok (.putfield 22, 3) := by decide +kernel
theorem dX6_isWellRead_5 : decode cX6_isWellRead 5 = .ok (.aload_n 0, 1) := by decide +kernel
theorem dX6_isWellRead_6 : decode cX6_isWellRead 6 = .ok (.iconst 0, 1) := by decide +kernel
theorem dX6_isWellRead_7 : decode cX6_isWellRead 7 = .ok (.putfield 19, 3) := by decide +kernel
theorem dX6_isWellRead_10 : decode cX6_isWellRead 10 = .ok (.aload_n 0, 1) := by decide +kernel
theorem dX6_isWellRead_11 : decode cX6_isWellRead 11 = .ok (.iconst 0, 1) := by decide +kernel
theorem dX6_isWellRead_12 : decode cX6_isWellRead 12 = .ok (.putfield 26, 3) := by decide +kernel
theorem dX6_isWellRead_15 : decode cX6_isWellRead 15 = .ok (.aload_n 0, 1) := by decide +kernel
theorem dX6_isWellRead_16 : decode cX6_isWellRead 16 = .ok (.iconst (-1), 1) := by decide +kernel
theorem dX6_isWellRead_17 : decode cX6_isWellRead 17 = .ok (.putfield 29, 3) := by decide +kernel
theorem dX6_isWellRead_20 : decode cX6_isWellRead 20 = .ok (.aload_n 0, 1) := by decide +kernel
theorem dX6_isWellRead_21 : decode cX6_isWellRead 21 = .ok (.iconst 0, 1) := by decide +kernel
theorem dX6_isWellRead_22 : decode cX6_isWellRead 22 = .ok (.putfield 32, 3) := by decide +kernel
theorem dX6_isWellRead_25 : decode cX6_isWellRead 25 = .ok (.aload_n 0, 1) := by decide +kernel
theorem dX6_isWellRead_26 : decode cX6_isWellRead 26 = .ok (.getfield 46, 3) := by decide +kernel
theorem dX6_isWellRead_29 : decode cX6_isWellRead 29 = .ok (.iconst 0, 1) := by decide +kernel
theorem dX6_isWellRead_30 : decode cX6_isWellRead 30 = .ok (.invokestatic 53, 3) := by decide +kernel
theorem dX6_isWellRead_33 : decode cX6_isWellRead 33 = .ok (.aload_n 0, 1) := by decide +kernel
theorem dX6_isWellRead_34 : decode cX6_isWellRead 34 = .ok (.invokevirtual 59, 3) := by decide +kernel
theorem dX6_isWellRead_37 : decode cX6_isWellRead 37 = .ok (.aload_n 0, 1) := by decide +kernel
theorem dX6_isWellRead_38 : decode cX6_isWellRead 38 = .ok (.getfield 22, 3) := by decide +kernel
theorem dX6_isWellRead_41 : decode cX6_isWellRead 41 = .ok (.ifCond .eq 14, 3) := by decide +kernel
theorem dX6_isWellRead_44 : decode cX6_isWellRead 44 = .ok (.aload_n 0, 1) := by decide +kernel
theorem dX6_isWellRead_45 : decode cX6_isWellRead 45 = .ok (.getfield 19, 3) := by decide +kernel
theorem dX6_isWellRead_48 : decode cX6_isWellRead 48 = .ok (.aload_n 0, 1) := by decide +kernel
theorem dX6_isWellRead_49 : decode cX6_isWellRead 49 = .ok (.getfield 15, 3) := by decide +kernel
theorem dX6_isWellRead_52 : decode cX6_isWellRead 52 = .ok (.if_icmp .ge 7, 3) := by decide +kernel
theorem dX6_isWellRead_55 : decode cX6_isWellRead 55 = .ok (.iconst 1, 1) := by decide +kernel
theorem dX6_isWellRead_56 : decode cX6_isWellRead 56 = .ok (.goto 4, 3) := by decide +kernel
theorem dX6_isWellRead_59 : decode cX6_isWellRead 59 = .ok (.iconst 0, 1) := by decide +kernel
theorem dX6_isWellRead_60 : decode cX6_isWellRead 60 = .ok (.istore_n 2, 1) := by decide +kernel
theorem dX6_isWellRead_61 : decode cX6_isWellRead 61 = .ok (.iconst 0, 1) := by decide +kernel
theorem dX6_isWellRead_62 : decode cX6_isWellRead 62 = .ok (.istore_n 3, 1) := by decide +kernel
theorem dX6_isWellRead_63 : decode cX6_isWellRead 63 = .ok (.iload_n 3, 1) := by decide +kernel
theorem dX6_isWellRead_64 : decode cX6_isWellRead 64 = .ok (.sipush 500, 3) := by decide +kernel
theorem dX6_isWellRead_67 : decode cX6_isWellRead 67 = .ok (.if_icmp .ge 33, 3) := by decide +kernel
theorem dX6_isWellRead_70 : decode cX6_isWellRead 70 = .ok (.iload_n 2, 1) := by decide +kernel
theorem dX6_isWellRead_71 : decode cX6_isWellRead 71 = .ok (.ifCond .eq 29, 3) := by decide +kernel
theorem dX6_isWellRead_74 : decode cX6_isWellRead 74 = .ok (.aload_n 0, 1) := by decide +kernel
theorem dX6_isWellRead_75 : decode cX6_isWellRead 75 = .ok (.invokevirtual 62, 3) := by decide +kernel
theorem dX6_isWellRead_78 : decode cX6_isWellRead 78 = .ok (.ifCond .eq 14, 3) := by decide +kernel
theorem dX6_isWellRead_81 : decode cX6_isWellRead 81 = .ok (.aload_n 0, 1) := by decide +kernel
theorem dX6_isWellRead_82 : decode cX6_isWellRead 82 = .ok (.invokevirtual 66, 3) := by decide +kernel
theorem dX6_isWellRead_85 : decode cX6_isWellRead 85 = .ok (.ifCond .eq 7, 3) := by decide +kernel
theorem dX6_isWellRead_88 : decode cX6_isWellRead 88 = .ok (.iconst 1, 1) := by decide +kernel
theorem dX6_isWellRead_89 : decode cX6_isWellRead 89 = .ok (.goto 4, 3) := by decide +kernel
theorem dX6_isWellRead_92 : decode cX6_isWellRead 92 = .ok (.iconst 0, 1) := by decide +kernel
theorem dX6_isWellRead_93 : decode cX6_isWellRead 93 = .ok (.istore_n 2, 1) := by decide +kernel
theorem dX6_isWellRead_94 : decode cX6_isWellRead 94 = .ok (.iinc 3 1, 3) := by decide +kernel
theorem dX6_isWellRead_97 : decode cX6_isWellRead 97 = .ok (.goto (-34), 3) := by decide +kernel
theorem dX6_isWellRead_100 : decode cX6_isWellRead 100 = .ok (.aload_n 0, 1) := by decide +kernel
theorem dX6_isWellRead_101 : decode cX6_isWellRead 101 = .ok (.iconst 0, 1) := by decide +kernel
theorem dX6_isWellRead_102 : decode cX6_isWellRead 102 = .ok (.putfield 15, 3) := by decide +kernel
theorem dX6_isWellRead_105 : decode cX6_isWellRead 105 = .ok (.aload_n 0, 1) := by decide +kernel
theorem dX6_isWellRead_106 : decode cX6_isWellRead 106 = .ok (.getfield 26, 3) := by decide +kernel
theorem dX6_isWellRead_109 : decode cX6_isWellRead 109 = .ok (.ifCond .ne 7, 3) := by decide +kernel
theorem dX6_isWellRead_112 : decode cX6_isWellRead 112 = .ok (.iconst 1, 1) := by decide +kernel
theorem dX6_isWellRead_113 : decode cX6_isWellRead 113 = .ok (.goto 4, 3) := by decide +kernel
theorem dX6_isWellRead_116 : decode cX6_isWellRead 116 = .ok (.iconst 0, 1) := by decide +kernel
theorem dX6_isWellRead_117 : decode cX6_isWellRead 117 = .ok (.ireturn, 1) := by decide +kernel
/-! X6_isWord -/
theorem dX6_isWord_0 : decode cX6_isWord 0 = .ok (.aload_n 0, 1) := by decide +kernel
theorem dX6_isWord_1 : decode cX6_isWord 1 = .ok (.getfield 19, 3) := by decide +kernel
theorem dX6_isWord_4 : decode cX6_isWord 4 = .ok (.iload_n 1, 1) := by decide +kernel
theorem dX6_isWord_5 : decode cX6_isWord 5 = .ok (.isub, 1) := by decide +kernel
theorem dX6_isWord_6 : decode cX6_isWord 6 = .ok (.aload_n 2, 1) := by decide +kernel
theorem dX6_isWord_7 : decode cX6_isWord 7 = .ok (.invokevirtual 111, 3) := by decide +kernel
theorem dX6_isWord_10 : decode cX6_isWord 10 = .ok (.if_icmp .eq 5, 3) := by decide +kernel
theorem dX6_isWord_13 : decode cX6_isWord 13 = .ok (.iconst 0, 1) := by decide +kernel
theorem dX6_isWord_14 : decode cX6_isWord 14 = .ok (.ireturn, 1) := by decide +kernel
theorem dX6_isWord_15 : decode cX6_isWord 15 = .ok (.iconst 0, 1) := by decide +kernel
theorem dX6_isWord_16 : decode cX6_isWord 16 = .ok (.istore_n 3, 1) := by decide +kernel
theorem dX6_isWord_17 : decode cX6_isWord 17 = .ok (.iload_n 3, 1) := by decide +kernel
theorem dX6_isWord_18 : decode cX6_isWord 18 = .ok (.aload_n 2, 1) := by decide +kernel
theorem dX6_isWord_19 : decode cX6_isWord 19 = .ok (.invokevirtual 111, 3) := by decide +kernel
theorem dX6_isWord_22 : decode cX6_isWord 22 = .ok (.if_icmp .ge 44, 3) := by decide +kernel
theorem dX6_isWord_25 : decode cX6_isWord 25 = .ok (.iload_n 1, 1) := by decide +kernel
theorem dX6_isWord_26 : decode cX6_isWord 26 = .ok (.iload_n 3, 1) := by decide +kernel
theorem dX6_isWord_27 : decode cX6_isWord 27 = .ok (.iadd, 1) := by decide +kernel
theorem dX6_isWord_28 : decode cX6_isWord 28 = .ok (.istore 4, 2) := by decide +kernel
theorem dX6_isWord_30 : decode cX6_isWord 30 = .ok (.iload 4, 2) := by decide +kernel
theorem dX6_isWord_32 : decode cX6_isWord 32 = .ok (.ifCond .lt 26, 3) := by decide +kernel
theorem dX6_isWord_35 : decode cX6_isWord 35 = .ok (.iload 4, 2) := by decide +kernel
theorem dX6_isWord_37 : decode cX6_isWord 37 = .ok (.sipush 500, 3) := by decide +kernel
theorem dX6_isWord_40 : decode cX6_isWord 40 = .ok (.if_icmp .ge 18, 3) := by decide +kernel
theorem dX6_isWord_43 : decode cX6_isWord 43 = .ok (.aload_n 0, 1) := by decide +kernel
theorem dX6_isWord_44 : decode cX6_isWord 44 = .ok (.getfield 11, 3) := by decide +kernel
theorem dX6_isWord_47 : decode cX6_isWord 47 = .ok (.iload 4, 2) := by decide +kernel
theorem dX6_isWord_49 : decode cX6_isWord 49 = .ok (.baload, 1) := by decide +kernel
theorem dX6_isWord_50 : decode cX6_isWord 50 = .ok (.aload_n 2, 1) := by decide +kernel
theorem dX6_isWord_51 : decode cX6_isWord 51 = .ok (.iload_n 3, 1) := by decide +kernel
theorem dX6_isWord_52 : decode cX6_isWord 52 = .ok (.invokevirtual 115, 3) := by decide +kernel
theorem dX6_isWord_55 : decode cX6_isWord 55 = .ok (.if_icmp .eq 5, 3) := by decide +kernel
theorem dX6_isWord_58 : decode cX6_isWord 58 = .ok (.iconst 0, 1) := by decide +kernel
theorem dX6_isWord_59 : decode cX6_isWord 59 = .ok (.ireturn, 1) := by decide +kernel
theorem dX6_isWord_60 : decode cX6_isWord 60 = .ok (.iinc 3 1, 3) := by decide +kernel
theorem dX6_isWord_63 : decode cX6_isWord 63 = .ok (.goto (-46), 3) := by decide +kernel
theorem dX6_isWord_66 : decode cX6_isWord 66 = .ok (.iconst 1, 1) := by decide +kernel
theorem dX6_isWord_67 : decode cX6_isWord 67 = .ok (.ireturn, 1) := by decide +kernel
/-! X6_kindOf -/
theorem dX6_kindOf_0 : decode cX6_kindOf 0 = .ok (.iload_n 1, 1) := by decide +kernel
theorem dX6_kindOf_1 : decode cX6_kindOf 1 = .ok (.aload_n 0, 1) := by decide +kernel
theorem dX6_kindOf_2 : decode cX6_kindOf 2 = .ok (.getfield 32, 3) := by decide +kernel
theorem dX6_kindOf_5 : decode cX6_kindOf 5 = .ok (.if_icmp .ge 14, 3) := by decide +kernel
theorem dX6_kindOf_8 : decode cX6_kindOf 8 = .ok (.aload_n 0, 1) := by decide +kernel
theorem dX6_kindOf_9 : decode cX6_kindOf 9 = .ok (.getfield 35, 3) := by decide +kernel
theorem dX6_kindOf_12 : decode cX6_kindOf 12 = .ok (.iload_n 1, 1) := by decide +kernel
theorem dX6_kindOf_13 : decode cX6_kindOf 13 = .ok (.invokestatic 49, 3) := by decide +kernel
theorem dX6_kindOf_16 : decode cX6_kindOf 16 = .ok (.goto 4, 3) := by decide +kernel
theorem dX6_kindOf_19 : decode cX6_kindOf 19 = .ok (.iconst (-1), 1) := by decide +kernel
theorem dX6_kindOf_20 : decode cX6_kindOf 20 = .ok (.ireturn, 1) := by decide +kernel
/-! X6_numberOf -/
theorem dX6_numberOf_0 : decode cX6_numberOf 0 = .ok (.aload_n 0, 1) := by decide +kernel
theorem dX6_numberOf_1 : decode cX6_numberOf 1 = .ok (.getfield 39, 3) := by decide +kernel
theorem dX6_numberOf_4 : decode cX6_numberOf 4 = .ok (.iload_n 1, 1) := by decide +kernel
theorem dX6_numberOf_5 : decode cX6_numberOf 5 = .ok (.iconst 4, 1) := by decide +kernel
theorem dX6_numberOf_6 : decode cX6_numberOf 6 = .ok (.imul, 1) := by decide +kernel
theorem dX6_numberOf_7 : decode cX6_numberOf 7 = .ok (.iload_n 2, 1) := by decide +kernel
theorem dX6_numberOf_8 : decode cX6_numberOf 8 = .ok (.iadd, 1) := by decide +kernel
theorem dX6_numberOf_9 : decode cX6_numberOf 9 = .ok (.invokestatic 49, 3) := by decide +kernel
theorem dX6_numberOf_12 : decode cX6_numberOf 12 = .ok (.ireturn, 1) := by decide +kernel
/-! X6_readKind -/
theorem dX6_readKind_0 : decode cX6_readKind 0 = .ok (.aload_n 0, 1) := by decide +kernel
theorem dX6_readKind_1 : decode cX6_readKind 1 = .ok (.getfield 19, 3) := by decide +kernel
theorem dX6_readKind_4 : decode cX6_readKind 4 = .ok (.istore_n 1, 1) := by decide +kernel
theorem dX6_readKind_5 : decode cX6_readKind 5 = .ok (.aload_n 0, 1) := by decide +kernel
theorem dX6_readKind_6 : decode cX6_readKind 6 = .ok (.invokevirtual 97, 3) := by decide +kernel
theorem dX6_readKind_9 : decode cX6_readKind 9 = .ok (.iconst 0, 1) := by decide +kernel
theorem dX6_readKind_10 : decode cX6_readKind 10 = .ok (.istore_n 2, 1) := by decide +kernel
theorem dX6_readKind_11 : decode cX6_readKind 11 = .ok (.iload_n 2, 1) := by decide +kernel
theorem dX6_readKind_12 : decode cX6_readKind 12 = .ok (.bipush 10, 2) := by decide +kernel
theorem dX6_readKind_14 : decode cX6_readKind 14 = .ok (.if_icmp .ge 62, 3) := by decide +kernel
theorem dX6_readKind_17 : decode cX6_readKind 17 = .ok (.aload_n 0, 1) := by decide +kernel
theorem dX6_readKind_18 : decode cX6_readKind 18 = .ok (.getfield 22, 3) := by decide +kernel
theorem dX6_readKind_21 : decode cX6_readKind 21 = .ok (.ifCond .eq 16, 3) := by decide +kernel
theorem dX6_readKind_24 : decode cX6_readKind 24 = .ok (.iload_n 2, 1) := by decide +kernel
theorem dX6_readKind_25 : decode cX6_readKind 25 = .ok (.iconst 3, 1) := by decide +kernel
theorem dX6_readKind_26 : decode cX6_readKind 26 = .ok (.if_icmp .lt 7, 3) := by decide +kernel
theorem dX6_readKind_29 : decode cX6_readKind 29 = .ok (.iconst 1, 1) := by decide +kernel
theorem dX6_readKind_30 : decode cX6_readKind 30 = .ok (.goto 17, 3) := by decide +kernel
theorem dX6_readKind_33 : decode cX6_readKind 33 = .ok (.iconst 0, 1) := by decide +kernel
theorem dX6_readKind_34 : decode cX6_readKind 34 = .ok (.goto 13, 3) := by decide +kernel
theorem dX6_readKind_37 : decode cX6_readKind 37 = .ok (.iload_n 2, 1) := by decide +kernel
theorem dX6_readKind_38 : decode cX6_readKind 38 = .ok (.iconst 3, 1) := by decide +kernel
theorem dX6_readKind_39 : decode cX6_readKind 39 = .ok (.if_icmp .gt 7, 3) := by decide +kernel
theorem dX6_readKind_42 : decode cX6_readKind 42 = .ok (.iconst 1, 1) := by decide +kernel
theorem dX6_readKind_43 : decode cX6_readKind 43 = .ok (.goto 4, 3) := by decide +kernel
theorem dX6_readKind_46 : decode cX6_readKind 46 = .ok (.iconst 0, 1) := by decide +kernel
theorem dX6_readKind_47 : decode cX6_readKind 47 = .ok (.istore_n 3, 1) := by decide +kernel
theorem dX6_readKind_48 : decode cX6_readKind 48 = .ok (.iload_n 3, 1) := by decide +kernel
theorem dX6_readKind_49 : decode cX6_readKind 49 = .ok (.ifCond .eq 21, 3) := by decide +kernel
theorem dX6_readKind_52 : decode cX6_readKind 52 = .ok (.aload_n 0, 1) := by decide +kernel
theorem dX6_readKind_53 : decode cX6_readKind 53 = .ok (.iload_n 1, 1) := by decide +kernel
theorem dX6_readKind_54 : decode cX6_readKind 54 = .ok (.iload_n 2, 1) := by decide +kernel
theorem dX6_readKind_55 : decode cX6_readKind 55 = .ok (.invokestatic 100, 3) := by decide +kernel
theorem dX6_readKind_58 : decode cX6_readKind 58 = .ok (.invokevirtual 104, 3) := by decide +kernel
theorem dX6_readKind_61 : decode cX6_readKind 61 = .ok (.ifCond .eq 9, 3) := by decide +kernel
theorem dX6_readKind_64 : decode cX6_readKind 64 = .ok (.aload_n 0, 1) := by decide +kernel
theorem dX6_readKind_65 : decode cX6_readKind 65 = .ok (.invokevirtual 59, 3) := by decide +kernel
theorem dX6_readKind_68 : decode cX6_readKind 68 = .ok (.iload_n 2, 1) := by decide +kernel
theorem dX6_readKind_69 : decode cX6_readKind 69 = .ok (.ireturn, 1) := by decide +kernel
theorem dX6_readKind_70 : decode cX6_readKind 70 = .ok (.iinc 2 1, 3) := by decide +kernel
theorem dX6_readKind_73 : decode cX6_readKind 73 = .ok (.goto (-62), 3) := by decide +kernel
theorem dX6_readKind_76 : decode cX6_readKind 76 = .ok (.iconst (-1), 1) := by decide +kernel
theorem dX6_readKind_77 : decode cX6_readKind 77 = .ok (.ireturn, 1) := by decide +kernel
/-! X6_sign -/
theorem dX6_sign_0 : decode cX6_sign 0 = .ok (.aload_n 0, 1) := by decide +kernel
theorem dX6_sign_1 : decode cX6_sign 1 = .ok (.getfield 19, 3) := by decide +kernel
theorem dX6_sign_4 : decode cX6_sign 4 = .ok (.ifCond .lt 40, 3) := by decide +kernel
theorem dX6_sign_7 : decode cX6_sign 7 = .ok (.aload_n 0, 1) := by decide +kernel
theorem dX6_sign_8 : decode cX6_sign 8 = .ok (.getfield 19, 3) := by decide +kernel
theorem dX6_sign_11 : decode cX6_sign 11 = .ok (.aload_n 0, 1) := by decide +kernel
theorem dX6_sign_12 : decode cX6_sign 12 = .ok (.getfield 15, 3) := by decide +kernel
theorem dX6_sign_15 : decode cX6_sign 15 = .ok (.if_icmp .ge 29, 3) := by decide +kernel
theorem dX6_sign_18 : decode cX6_sign 18 = .ok (.aload_n 0, 1) := by decide +kernel
theorem dX6_sign_19 : decode cX6_sign 19 = .ok (.getfield 19, 3) := by decide +kernel
theorem dX6_sign_22 : decode cX6_sign 22 = .ok (.sipush 500, 3) := by decide +kernel
theorem dX6_sign_25 : decode cX6_sign 25 = .ok (.if_icmp .ge 19, 3) := by decide +kernel
theorem dX6_sign_28 : decode cX6_sign 28 = .ok (.aload_n 0, 1) := by decide +kernel
theorem dX6_sign_29 : decode cX6_sign 29 = .ok (.getfield 11, 3) := by decide +kernel
theorem dX6_sign_32 : decode cX6_sign 32 = .ok (.aload_n 0, 1) := by decide +kernel
theorem dX6_sign_33 : decode cX6_sign 33 = .ok (.getfield 19, 3) := by decide +kernel
theorem dX6_sign_36 : decode cX6_sign 36 = .ok (.baload, 1) := by decide +kernel
theorem dX6_sign_37 : decode cX6_sign 37 = .ok (.sipush 255, 3) := by decide +kernel
theorem dX6_sign_40 : decode cX6_sign 40 = .ok (.iand, 1) := by decide +kernel
theorem dX6_sign_41 : decode cX6_sign 41 = .ok (.goto 4, 3) := by decide +kernel
theorem dX6_sign_44 : decode cX6_sign 44 = .ok (.iconst 0, 1) := by decide +kernel
theorem dX6_sign_45 : decode cX6_sign 45 = .ok (.ireturn, 1) := by decide +kernel
/-! X6_skipSpaces -/
theorem dX6_skipSpaces_0 : decode cX6_skipSpaces 0 = .ok (.aload_n 0, 1) := by decide +kernel
theorem dX6_skipSpaces_1 : decode cX6_skipSpaces 1 = .ok (.getfield 19, 3) := by decide +kernel
theorem dX6_skipSpaces_4 : decode cX6_skipSpaces 4 = .ok (.aload_n 0, 1) := by decide +kernel
theorem dX6_skipSpaces_5 : decode cX6_skipSpaces 5 = .ok (.getfield 15, 3) := by decide +kernel
theorem dX6_skipSpaces_8 : decode cX6_skipSpaces 8 = .ok (.if_icmp .ge 25, 3) := by decide +kernel
theorem dX6_skipSpaces_11 : decode cX6_skipSpaces 11 = .ok (.aload_n 0, 1) := by decide +kernel
theorem dX6_skipSpaces_12 : decode cX6_skipSpaces 12 = .ok (.invokevirtual 69, 3) := by decide +kernel
theorem dX6_skipSpaces_15 : decode cX6_skipSpaces 15 = .ok (.bipush 32, 2) := by decide +kernel
theorem dX6_skipSpaces_17 : decode cX6_skipSpaces 17 = .ok (.if_icmp .ne 16, 3) := by decide +kernel
theorem dX6_skipSpaces_20 : decode cX6_skipSpaces 20 = .ok (.aload_n 0, 1) := by decide +kernel
theorem dX6_skipSpaces_21 : decode cX6_skipSpaces 21 = .ok (.dup, 1) := by decide +kernel
theorem dX6_skipSpaces_22 : decode cX6_skipSpaces 22 = .ok (.getfield 19, 3) := by decide +kernel
theorem dX6_skipSpaces_25 : decode cX6_skipSpaces 25 = .ok (.iconst 1, 1) := by decide +kernel
theorem dX6_skipSpaces_26 : decode cX6_skipSpaces 26 = .ok (.iadd, 1) := by decide +kernel
theorem dX6_skipSpaces_27 : decode cX6_skipSpaces 27 = .ok (.putfield 19, 3) := by decide +kernel
theorem dX6_skipSpaces_30 : decode cX6_skipSpaces 30 = .ok (.goto (-30), 3) := by decide +kernel
theorem dX6_skipSpaces_33 : decode cX6_skipSpaces 33 = .ok (.return_, 1) := by decide +kernel
/-! X6_skipWord -/
theorem dX6_skipWord_0 : decode cX6_skipWord 0 = .ok (.aload_n 0, 1) := by decide +kernel
theorem dX6_skipWord_1 : decode cX6_skipWord 1 = .ok (.getfield 19, 3) := by decide +kernel
theorem dX6_skipWord_4 : decode cX6_skipWord 4 = .ok (.aload_n 0, 1) := by decide +kernel
theorem dX6_skipWord_5 : decode cX6_skipWord 5 = .ok (.getfield 15, 3) := by decide +kernel
theorem dX6_skipWord_8 : decode cX6_skipWord 8 = .ok (.if_icmp .ge 23, 3) := by decide +kernel
theorem dX6_skipWord_11 : decode cX6_skipWord 11 = .ok (.aload_n 0, 1) := by decide +kernel
theorem dX6_skipWord_12 : decode cX6_skipWord 12 = .ok (.invokevirtual 108, 3) := by decide +kernel
theorem dX6_skipWord_15 : decode cX6_skipWord 15 = .ok (.ifCond .eq 16, 3) := by decide +kernel
theorem dX6_skipWord_18 : decode cX6_skipWord 18 = .ok (.aload_n 0, 1) := by decide +kernel
theorem dX6_skipWord_19 : decode cX6_skipWord 19 = .ok (.dup, 1) := by decide +kernel
theorem dX6_skipWord_20 : decode cX6_skipWord 20 = .ok (.getfield 19, 3) := by decide +kernel
theorem dX6_skipWord_23 : decode cX6_skipWord 23 = .ok (.iconst 1, 1) := by decide +kernel
theorem dX6_skipWord_24 : decode cX6_skipWord 24 = .ok (.iadd, 1) := by decide +kernel
theorem dX6_skipWord_25 : decode cX6_skipWord 25 = .ok (.putfield 19, 3) := by decide +kernel
theorem dX6_skipWord_28 : decode cX6_skipWord 28 = .ok (.goto (-28), 3) := by decide +kernel
theorem dX6_skipWord_31 : decode cX6_skipWord 31 = .ok (.return_, 1) := by decide +kernel
/-! X6_takeNumber -/
theorem dX6_takeNumber_0 : decode cX6_takeNumber 0 = .ok (.bipush 24, 2) := by decide +kernel
theorem dX6_takeNumber_2 : decode cX6_takeNumber 2 = .ok (.istore_n 2, 1) := by decide +kernel
theorem dX6_takeNumber_3 : decode cX6_takeNumber 3 = .ok (.iload_n 2, 1) := by decide +kernel
theorem dX6_takeNumber_4 : decode cX6_takeNumber 4 = .ok (.ifCond .lt 49, 3) := by decide +kernel
theorem dX6_takeNumber_7 : decode cX6_takeNumber 7 = .ok (.aload_n 0, 1) := by decide +kernel
theorem dX6_takeNumber_8 : decode cX6_takeNumber 8 = .ok (.getfield 15, 3) := by decide +kernel
theorem dX6_takeNumber_11 : decode cX6_takeNumber 11 = .ok (.ifCond .lt 36, 3) := by decide +kernel
theorem dX6_takeNumber_14 : decode cX6_takeNumber 14 = .ok (.aload_n 0, 1) := by decide +kernel
theorem dX6_takeNumber_15 : decode cX6_takeNumber 15 = .ok (.getfield 15, 3) := by decide +kernel
theorem dX6_takeNumber_18 : decode cX6_takeNumber 18 = .ok (.sipush 500, 3) := by decide +kernel
theorem dX6_takeNumber_21 : decode cX6_takeNumber 21 = .ok (.if_icmp .ge 26, 3) := by decide +kernel
theorem dX6_takeNumber_24 : decode cX6_takeNumber 24 = .ok (.aload_n 0, 1) := by decide +kernel
theorem dX6_takeNumber_25 : decode cX6_takeNumber 25 = .ok (.getfield 11, 3) := by decide +kernel
theorem dX6_takeNumber_28 : decode cX6_takeNumber 28 = .ok (.aload_n 0, 1) := by decide +kernel
theorem dX6_takeNumber_29 : decode cX6_takeNumber 29 = .ok (.getfield 15, 3) := by decide +kernel
theorem dX6_takeNumber_32 : decode cX6_takeNumber 32 = .ok (.iload_n 1, 1) := by decide +kernel
theorem dX6_takeNumber_33 : decode cX6_takeNumber 33 = .ok (.iload_n 2, 1) := by decide +kernel
theorem dX6_takeNumber_34 : decode cX6_takeNumber 34 = .ok (.ishr, 1) := by decide +kernel
theorem dX6_takeNumber_35 : decode cX6_takeNumber 35 = .ok (.i2b, 1) := by decide +kernel
theorem dX6_takeNumber_36 : decode cX6_takeNumber 36 = .ok (.bastore, 1) := by decide +kernel
theorem dX6_takeNumber_37 : decode cX6_takeNumber 37 = .ok (.aload_n 0, 1) := by decide +kernel
theorem dX6_takeNumber_38 : decode cX6_takeNumber 38 = .ok (.dup, 1) := by decide +kernel
theorem dX6_takeNumber_39 : decode cX6_takeNumber 39 = .ok (.getfield 15, 3) := by decide +kernel
theorem dX6_takeNumber_42 : decode cX6_takeNumber 42 = .ok (.iconst 1, 1) := by decide +kernel
theorem dX6_takeNumber_43 : decode cX6_takeNumber 43 = .ok (.iadd, 1) := by decide +kernel
theorem dX6_takeNumber_44 : decode cX6_takeNumber 44 = .ok (.putfield 15, 3) := by decide +kernel
theorem dX6_takeNumber_47 : decode cX6_takeNumber 47 = .ok (.iinc 2 (-8), 3) := by decide +kernel
theorem dX6_takeNumber_50 : decode cX6_takeNumber 50 = .ok (.goto (-47), 3) := by decide +kernel
theorem dX6_takeNumber_53 : decode cX6_takeNumber 53 = .ok (.return_, 1) := by decide +kernel
/-! X6_wordOf -/
theorem dX6_wordOf_0 : decode cX6_wordOf 0 = .ok (.iload_n 0, 1) := by decide +kernel
theorem dX6_wordOf_1 : decode cX6_wordOf 1 = .ok (.tableswitch 78 0 8 #[51, 54, 57, 60, 63, 66, 69, 72, 75], 51) := by decide +kernel
theorem dX6_wordOf_52 : decode cX6_wordOf 52 = .ok (.ldc 119, 2) := by decide +kernel
theorem dX6_wordOf_54 : decode cX6_wordOf 54 = .ok (.areturn, 1) := by decide +kernel
theorem dX6_wordOf_55 : decode cX6_wordOf 55 = .ok (.ldc 121, 2) := by decide +kernel
theorem dX6_wordOf_57 : decode cX6_wordOf 57 = .ok (.areturn, 1) := by decide +kernel
theorem dX6_wordOf_58 : decode cX6_wordOf 58 = .ok (.ldc 123, 2) := by decide +kernel
theorem dX6_wordOf_60 : decode cX6_wordOf 60 = .ok (.areturn, 1) := by decide +kernel
theorem dX6_wordOf_61 : decode cX6_wordOf 61 = .ok (.ldc 125, 2) := by decide +kernel
theorem dX6_wordOf_63 : decode cX6_wordOf 63 = .ok (.areturn, 1) := by decide +kernel
theorem dX6_wordOf_64 : decode cX6_wordOf 64 = .ok (.ldc 127, 2) := by decide +kernel
theorem dX6_wordOf_66 : decode cX6_wordOf 66 = .ok (.areturn, 1) := by decide +kernel
theorem dX6_wordOf_67 : decode cX6_wordOf 67 = .ok (.ldc 129, 2) := by decide +kernel
theorem dX6_wordOf_69 : decode cX6_wordOf 69 = .ok (.areturn, 1) := by decide +kernel
theorem dX6_wordOf_70 : decode cX6_wordOf 70 = .ok (.ldc 131, 2) := by decide +kernel
theorem dX6_wordOf_72 : decode cX6_wordOf 72 = .ok (.areturn, 1) := by decide +kernel
theorem dX6_wordOf_73 : decode cX6_wordOf 73 = .ok (.ldc 133, 2) := by decide +kernel
theorem dX6_wordOf_75 : decode cX6_wordOf 75 = .ok (.areturn, 1) := by decide +kernel
theorem dX6_wordOf_76 : decode cX6_wordOf 76 = .ok (.ldc 135, 2) := by decide +kernel
theorem dX6_wordOf_78 : decode cX6_wordOf 78 = .ok (.areturn, 1) := by decide +kernel
theorem dX6_wordOf_79 : decode cX6_wordOf 79 = .ok (.ldc 137, 2) := by decide +kernel
theorem dX6_wordOf_81 : decode cX6_wordOf 81 = .ok (.areturn, 1) := by decide +kernel
/-! X7_addLink -/
theorem dX7_addLink_0 : decode cX7_addLink 0 = .ok (.aload_n 0, 1) := by decide +kernel
theorem dX7_addLink_1 : decode cX7_addLink 1 = .ok (.getfield 30, 3) := by decide +kernel
theorem dX7_addLink_4 : decode cX7_addLink 4 = .ok (.ifCond .lt 37, 3) := by decide +kernel
theorem dX7_addLink_7 : decode cX7_addLink 7 = .ok (.aload_n 0, 1) := by decide +kernel
theorem dX7_addLink_8 : decode cX7_addLink 8 = .ok (.getfield 30, 3) := by decide +kernel
theorem dX7_addLink_11 : decode cX7_addLink 11 = .ok (.bipush 6, 2) := by decide +kernel
theorem dX7_addLink_13 : decode cX7_addLink 13 = .ok (.if_icmp .ge 28, 3) := by decide +kernel
theorem dX7_addLink_16 : decode cX7_addLink 16 = .ok (.aload_n 0, 1) := by decide +kernel
theorem dX7_addLink_17 : decode cX7_addLink 17 = .ok (.getfield 38, 3) := by decide +kernel
theorem dX7_addLink_20 : decode cX7_addLink 20 = .ok (.aload_n 0, 1) := by decide +kernel
theorem dX7_addLink_21 : decode cX7_addLink 21 = .ok (.getfield 30, 3) := by decide +kernel
theorem dX7_addLink_24 : decode cX7_addLink 24 = .ok (.aaload, 1) := by decide +kernel
theorem dX7_addLink_25 : decode cX7_addLink 25 = .ok (.iload_n 1, 1) := by decide +kernel
theorem dX7_addLink_26 : decode cX7_addLink 26 = .ok (.iload_n 2, 1) := by decide +kernel
theorem dX7_addLink_27 : decode cX7_addLink 27 = .ok (.iload_n 3, 1) := by decide +kernel
theorem dX7_addLink_28 : decode cX7_addLink 28 = .ok (.invokevirtual 105, 3) := by decide +kernel
theorem dX7_addLink_31 : decode cX7_addLink 31 = .ok (.aload_n 0, 1) := by decide +kernel
theorem dX7_addLink_32 : decode cX7_addLink 32 = .ok (.dup, 1) := by decide +kernel
theorem dX7_addLink_33 : decode cX7_addLink 33 = .ok (.getfield 30, 3) := by decide +kernel
theorem dX7_addLink_36 : decode cX7_addLink 36 = .ok (.iconst 1, 1) := by decide +kernel
theorem dX7_addLink_37 : decode cX7_addLink 37 = .ok (.iadd, 1) := by decide +kernel
theorem dX7_addLink_38 : decode cX7_addLink 38 = .ok (.putfield 30, 3) := by decide +kernel
theorem dX7_addLink_41 : decode cX7_addLink 41 = .ok (.return_, 1) := by decide +kernel
/-! X7_answerComes -/
theorem dX7_answerComes_0 : decode cX7_answerComes 0 = .ok (.aload_n 0, 1) := by decide +kernel
theorem dX7_answerComes_1 : decode cX7_answerComes 1 = .ok (.getfield 71, 3) := by decide +kernel
theorem dX7_answerComes_4 : decode cX7_answerComes 4 = .ok (.dup, 1) := by decide +kernel
theorem dX7_answerComes_5 : decode cX7_answerComes 5 = .ok (.getfield 219, 3) := by decide +kernel
theorem dX7_answerComes_8 : decode cX7_answerComes 8 = .ok (.iconst 1, 1) := by decide +kernel
theorem dX7_answerComes_9 : decode cX7_answerComes 9 = .ok (.iadd, 1) := by decide +kernel
theorem dX7_answerComes_10 : decode cX7_answerComes 10 = .ok (.putfield 219, 3) := by decide +kernel
theorem dX7_answerComes_13 : decode cX7_answerComes 13 = .ok (.aload_n 0, 1) := by decide +kernel
theorem dX7_answerComes_14 : decode cX7_answerComes 14 = .ok (.aload_n 0, 1) := by decide +kernel
theorem dX7_answerComes_15 : decode cX7_answerComes 15 = .ok (.getfield 24, 3) := by decide +kernel
theorem dX7_answerComes_18 : decode cX7_answerComes 18 = .ok (.iload_n 1, 1) := by decide +kernel
theorem dX7_answerComes_19 : decode cX7_answerComes 19 = .ok (.invokestatic 222, 3) := by decide +kernel
theorem dX7_answerComes_22 : decode cX7_answerComes 22 = .ok (.putfield 24, 3) := by decide +kernel
theorem dX7_answerComes_25 : decode cX7_answerComes 25 = .ok (.return_, 1) := by decide +kernel
/-! X7_carry -/
theorem dX7_carry_0 : decode cX7_carry 0 = .ok (.aload_n 0, 1) := by decide +kernel
theorem dX7_carry_1 : decode cX7_carry 1 = .ok (.iload_n 1, 1) := by decide +kernel
theorem dX7_carry_2 : decode cX7_carry 2 = .ok (.invokevirtual 112, 3) := by decide +kernel
theorem dX7_carry_5 : decode cX7_carry 5 = .ok (.astore 5, 2) := by decide +kernel
theorem dX7_carry_7 : decode cX7_carry 7 = .ok (.aload 5, 2) := by decide +kernel
theorem dX7_carry_9 : decode cX7_carry 9 = .ok (.ifnonnull 4, 3) := by decide +kernel
theorem dX7_carry_12 : decode cX7_carry 12 = .ok (.return_, 1) := by decide +kernel
theorem dX7_carry_13 : decode cX7_carry 13 = .ok (.aload 5, 2) := by decide +kernel
theorem dX7_carry_15 : decode cX7_carry 15 = .ok (.dup, 1) := by decide +kernel
theorem dX7_carry_16 : decode cX7_carry 16 = .ok (.getfield 153, 3) := by decide +kernel
theorem dX7_carry_19 : decode cX7_carry 19 = .ok (.iconst 1, 1) := by decide +kernel
theorem dX7_carry_20 : decode cX7_carry 20 = .ok (.iadd, 1) := by decide +kernel
theorem dX7_carry_21 : decode cX7_carry 21 = .ok (.putfield 153, 3) := by decide +kernel
theorem dX7_carry_24 : decode cX7_carry 24 = .ok (.aload 5, 2) := by decide +kernel
theorem dX7_carry_26 : decode cX7_carry 26 = .ok (.dup, 1) := by decide +kernel
theorem dX7_carry_27 : decode cX7_carry 27 = .ok (.getfield 156, 3) := by decide +kernel
theorem dX7_carry_30 : decode cX7_carry 30 = .ok (.iload 4, 2) := by decide +kernel
theorem dX7_carry_32 : decode cX7_carry 32 = .ok (.iadd, 1) := by decide +kernel
theorem dX7_carry_33 : decode cX7_carry 33 = .ok (.putfield 156, 3) := by decide +kernel
theorem dX7_carry_36 : decode cX7_carry 36 = .ok (.aload_n 0, 1) := by decide +kernel
theorem dX7_carry_37 : decode cX7_carry 37 = .ok (.getfield 71, 3) := by decide +kernel
theorem dX7_carry_40 : decode cX7_carry 40 = .ok (.dup, 1) := by decide +kernel
theorem dX7_carry_41 : decode cX7_carry 41 = .ok (.getfield 159, 3) := by decide +kernel
theorem dX7_carry_44 : decode cX7_carry 44 = .ok (.iconst 1, 1) := by decide +kernel
theorem dX7_carry_45 : decode cX7_carry 45 = .ok (.iadd, 1) := by decide +kernel
theorem dX7_carry_46 : decode cX7_carry 46 = .ok (.putfield 159, 3) := by decide +kernel
theorem dX7_carry_49 : decode cX7_carry 49 = .ok (.aload 5, 2) := by decide +kernel
theorem dX7_carry_51 : decode cX7_carry 51 = .ok (.getfield 160, 3) := by decide +kernel
theorem dX7_carry_54 : decode cX7_carry 54 = .ok (.ifCond .le 44, 3) := by decide +kernel
theorem dX7_carry_57 : decode cX7_carry 57 = .ok (.aload 5, 2) := by decide +kernel
theorem dX7_carry_59 : decode cX7_carry 59 = .ok (.getfield 153, 3) := by decide +kernel
theorem dX7_carry_62 : decode cX7_carry 62 = .ok (.aload 5, 2) := by decide +kernel
theorem dX7_carry_64 : decode cX7_carry 64 = .ok (.getfield 160, 3) := by decide +kernel
theorem dX7_carry_67 : decode cX7_carry 67 = .ok (.irem, 1) := by decide +kernel
theorem dX7_carry_68 : decode cX7_carry 68 = .ok (.ifCond .ne 30, 3) := by decide +kernel
theorem dX7_carry_71 : decode cX7_carry 71 = .ok (.aload 5, 2) := by decide +kernel
theorem dX7_carry_73 : decode cX7_carry 73 = .ok (.dup, 1) := by decide +kernel
theorem dX7_carry_74 : decode cX7_carry 74 = .ok (.getfield 163, 3) := by decide +kernel
theorem dX7_carry_77 : decode cX7_carry 77 = .ok (.iconst 1, 1) := by decide +kernel
theorem dX7_carry_78 : decode cX7_carry 78 = .ok (.iadd, 1) := by decide +kernel
theorem dX7_carry_79 : decode cX7_carry 79 = .ok (.putfield 163, 3) := by decide +kernel
theorem dX7_carry_82 : decode cX7_carry 82 = .ok (.aload_n 0, 1) := by decide +kernel
theorem dX7_carry_83 : decode cX7_carry 83 = .ok (.getfield 71, 3) := by decide +kernel
theorem dX7_carry_86 : decode cX7_carry 86 = .ok (.dup, 1) := by decide +kernel
theorem dX7_carry_87 : decode cX7_carry 87 = .ok (.getfield 166, 3) := by decide +kernel
theorem dX7_carry_90 : decode cX7_carry 90 = .ok (.iconst 1, 1) := by decide +kernel
theorem dX7_carry_91 : decode cX7_carry 91 = .ok (.iadd, 1) := by decide +kernel
theorem dX7_carry_92 : decode cX7_carry 92 = .ok (.putfield 166, 3) := by decide +kernel
theorem dX7_carry_95 : decode cX7_carry 95 = .ok (.goto 51, 3) := by decide +kernel
theorem dX7_carry_98 : decode cX7_carry 98 = .ok (.aload_n 0, 1) := by decide +kernel
theorem dX7_carry_99 : decode cX7_carry 99 = .ok (.getfield 57, 3) := by decide +kernel
theorem dX7_carry_102 : decode cX7_carry 102 = .ok (.invokevirtual 167, 3) := by decide +kernel
theorem dX7_carry_105 : decode cX7_carry 105 = .ok (.ifCond .eq 19, 3) := by decide +kernel
theorem dX7_carry_108 : decode cX7_carry 108 = .ok (.aload_n 0, 1) := by decide +kernel
theorem dX7_carry_109 : decode cX7_carry 109 = .ok (.getfield 71, 3) := by decide +kernel
theorem dX7_carry_112 : decode cX7_carry 112 = .ok (.dup, 1) := by decide +kernel
theorem dX7_carry_113 : decode cX7_carry 113 = .ok (.getfield 171, 3) := by decide +kernel
theorem dX7_carry_116 : decode cX7_carry 116 = .ok (.iconst 1, 1) := by decide +kernel
theorem dX7_carry_117 : decode cX7_carry 117 = .ok (.iadd, 1) := by decide +kernel
theorem dX7_carry_118 : decode cX7_carry 118 = .ok (.putfield 171, 3) := by decide +kernel
theorem dX7_carry_121 : decode cX7_carry 121 = .ok (.goto 25, 3) := by decide +kernel
theorem dX7_carry_124 : decode cX7_carry 124 = .ok (.aload_n 0, 1) := by decide +kernel
theorem dX7_carry_125 : decode cX7_carry 125 = .ok (.getfield 57, 3) := by decide +kernel
theorem dX7_carry_128 : decode cX7_carry 128 = .ok (.iload_n 1, 1) := by decide +kernel
theorem dX7_carry_129 : decode cX7_carry 129 = .ok (.aload_n 0, 1) := by decide +kernel
theorem dX7_carry_130 : decode cX7_carry 130 = .ok (.getfield 9, 3) := by decide +kernel
theorem dX7_carry_133 : decode cX7_carry 133 = .ok (.aload 5, 2) := by decide +kernel
theorem dX7_carry_135 : decode cX7_carry 135 = .ok (.getfield 109, 3) := by decide +kernel
theorem dX7_carry_138 : decode cX7_carry 138 = .ok (.iadd, 1) := by decide +kernel
theorem dX7_carry_139 : decode cX7_carry 139 = .ok (.iload_n 2, 1) := by decide +kernel
theorem dX7_carry_140 : decode cX7_carry 140 = .ok (.iload_n 3, 1) := by decide +kernel
theorem dX7_carry_141 : decode cX7_carry 141 = .ok (.iload 4, 2) := by decide +kernel
theorem dX7_carry_143 : decode cX7_carry 143 = .ok (.invokevirtual 174, 3) := by decide +kernel
theorem dX7_carry_146 : decode cX7_carry 146 = .ok (.return_, 1) := by decide +kernel
/-! X7_clear -/
theorem dX7_clear_0 : decode cX7_clear 0 = .ok (.aload_n 0, 1) := by decide +kernel
theorem dX7_clear_1 : decode cX7_clear 1 = .ok (.iconst 0, 1) := by decide +kernel
theorem dX7_clear_2 : decode cX7_clear 2 = .ok (.putfield 9, 3) := by decide +kernel
theorem dX7_clear_5 : decode cX7_clear 5 = .ok (.aload_n 0, 1) := by decide +kernel
theorem dX7_clear_6 : decode cX7_clear 6 = .ok (.bipush 60, 2) := by decide +kernel
theorem dX7_clear_8 : decode cX7_clear 8 = .ok (.putfield 15, 3) := by decide +kernel
theorem dX7_clear_11 : decode cX7_clear 11 = .ok (.aload_n 0, 1) := by decide +kernel
theorem dX7_clear_12 : decode cX7_clear 12 = .ok (.iconst 0, 1) := by decide +kernel
theorem dX7_clear_13 : decode cX7_clear 13 = .ok (.putfield 18, 3) := by decide +kernel
theorem dX7_clear_16 : decode cX7_clear 16 = .ok (.aload_n 0, 1) := by decide +kernel
theorem dX7_clear_17 : decode cX7_clear 17 = .ok (.iconst 0, 1) := by decide +kernel
theorem dX7_clear_18 : decode cX7_clear 18 = .ok (.putfield 30, 3) := by decide +kernel
theorem dX7_clear_21 : decode cX7_clear 21 = .ok (.aload_n 0, 1) := by decide +kernel
theorem dX7_clear_22 : decode cX7_clear 22 = .ok (.iconst 0, 1) := by decide +kernel
theorem dX7_clear_23 : decode cX7_clear 23 = .ok (.putfield 33, 3) := by decide +kernel
theorem dX7_clear_26 : decode cX7_clear 26 = .ok (.iconst 0, 1) := by decide +kernel
theorem dX7_clear_27 : decode cX7_clear 27 = .ok (.istore_n 1, 1) := by decide +kernel
theorem dX7_clear_28 : decode cX7_clear 28 = .ok (.iload_n 1, 1) := by decide +kernel
theorem dX7_clear_29 : decode cX7_clear 29 = .ok (.iconst 4, 1) := by decide +kernel
theorem dX7_clear_30 : decode cX7_clear 30 = .ok (.if_icmp .ge 19, 3) := by decide +kernel
theorem dX7_clear_33 : decode cX7_clear 33 = .ok (.aload_n 0, 1) := by decide +kernel
theorem dX7_clear_34 : decode cX7_clear 34 = .ok (.getfield 50, 3) := by decide +kernel
theorem dX7_clear_37 : decode cX7_clear 37 = .ok (.iload_n 1, 1) := by decide +kernel
theorem dX7_clear_38 : decode cX7_clear 38 = .ok (.aaload, 1) := by decide +kernel
theorem dX7_clear_39 : decode cX7_clear 39 = .ok (.iconst (-1), 1) := by decide +kernel
theorem dX7_clear_40 : decode cX7_clear 40 = .ok (.putfield 78, 3) := by decide +kernel
theorem dX7_clear_43 : decode cX7_clear 43 = .ok (.iinc 1 1, 3) := by decide +kernel
theorem dX7_clear_46 : decode cX7_clear 46 = .ok (.goto (-18), 3) := by decide +kernel
theorem dX7_clear_49 : decode cX7_clear 49 = .ok (.aload_n 0, 1) := by decide +kernel
theorem dX7_clear_50 : decode cX7_clear 50 = .ok (.getfield 57, 3) := by decide +kernel
theorem dX7_clear_53 : decode cX7_clear 53 = .ok (.invokevirtual 81, 3) := by decide +kernel
theorem dX7_clear_56 : decode cX7_clear 56 = .ok (.aload_n 0, 1) := by decide +kernel
theorem dX7_clear_57 : decode cX7_clear 57 = .ok (.getfield 64, 3) := by decide +kernel
theorem dX7_clear_60 : decode cX7_clear 60 = .ok (.invokevirtual 84, 3) := by decide +kernel
theorem dX7_clear_63 : decode cX7_clear 63 = .ok (.aload_n 0, 1) := by decide +kernel
theorem dX7_clear_64 : decode cX7_clear 64 = .ok (.getfield 71, 3) := by decide +kernel
theorem dX7_clear_67 : decode cX7_clear 67 = .ok (.invokevirtual 85, 3) := by decide +kernel
theorem dX7_clear_70 : decode cX7_clear 70 = .ok (.return_, 1) := by decide +kernel
/-! X7_copyFrom -/
theorem dX7_copyFrom_0 : decode cX7_copyFrom 0 = .ok (.aload_n 0, 1) := by decide +kernel
theorem dX7_copyFrom_1 : decode cX7_copyFrom 1 = .ok (.aload_n 1, 1) := by decide +kernel
theorem dX7_copyFrom_2 : decode cX7_copyFrom 2 = .ok (.getfield 9, 3) := by decide +kernel
theorem dX7_copyFrom_5 : decode cX7_copyFrom 5 = .ok (.putfield 9, 3) := by decide +kernel
theorem dX7_copyFrom_8 : decode cX7_copyFrom 8 = .ok (.aload_n 0, 1) := by decide +kernel
theorem dX7_copyFrom_9 : decode cX7_copyFrom 9 = .ok (.aload_n 1, 1) := by decide +kernel
theorem dX7_copyFrom_10 : decode cX7_copyFrom 10 = .ok (.getfield 15, 3) := by decide +kernel
theorem dX7_copyFrom_13 : decode cX7_copyFrom 13 = .ok (.putfield 15, 3) := by decide +kernel
theorem dX7_copyFrom_16 : decode cX7_copyFrom 16 = .ok (.aload_n 0, 1) := by decide +kernel
theorem dX7_copyFrom_17 : decode cX7_copyFrom 17 = .ok (.aload_n 1, 1) := by decide +kernel
theorem dX7_copyFrom_18 : decode cX7_copyFrom 18 = .ok (.getfield 18, 3) := by decide +kernel
theorem dX7_copyFrom_21 : decode cX7_copyFrom 21 = .ok (.putfield 18, 3) := by decide +kernel
theorem dX7_copyFrom_24 : decode cX7_copyFrom 24 = .ok (.aload_n 0, 1) := by decide +kernel
theorem dX7_copyFrom_25 : decode cX7_copyFrom 25 = .ok (.aload_n 1, 1) := by decide +kernel
theorem dX7_copyFrom_26 : decode cX7_copyFrom 26 = .ok (.getfield 21, 3) := by decide +kernel
theorem dX7_copyFrom_29 : decode cX7_copyFrom 29 = .ok (.putfield 21, 3) := by decide +kernel
theorem dX7_copyFrom_32 : decode cX7_copyFrom 32 = .ok (.aload_n 0, 1) := by decide +kernel
theorem dX7_copyFrom_33 : decode cX7_copyFrom 33 = .ok (.aload_n 1, 1) := by decide +kernel
theorem dX7_copyFrom_34 : decode cX7_copyFrom 34 = .ok (.getfield 24, 3) := by decide +kernel
theorem dX7_copyFrom_37 : decode cX7_copyFrom 37 = .ok (.putfield 24, 3) := by decide +kernel
theorem dX7_copyFrom_40 : decode cX7_copyFrom 40 = .ok (.aload_n 0, 1) := by decide +kernel
theorem dX7_copyFrom_41 : decode cX7_copyFrom 41 = .ok (.aload_n 1, 1) := by decide +kernel
theorem dX7_copyFrom_42 : decode cX7_copyFrom 42 = .ok (.getfield 27, 3) := by decide +kernel
theorem dX7_copyFrom_45 : decode cX7_copyFrom 45 = .ok (.putfield 27, 3) := by decide +kernel
theorem dX7_copyFrom_48 : decode cX7_copyFrom 48 = .ok (.aload_n 0, 1) := by decide +kernel
theorem dX7_copyFrom_49 : decode cX7_copyFrom 49 = .ok (.aload_n 1, 1) := by decide +kernel
theorem dX7_copyFrom_50 : decode cX7_copyFrom 50 = .ok (.getfield 30, 3) := by decide +kernel
theorem dX7_copyFrom_53 : decode cX7_copyFrom 53 = .ok (.putfield 30, 3) := by decide +kernel
theorem dX7_copyFrom_56 : decode cX7_copyFrom 56 = .ok (.aload_n 0, 1) := by decide +kernel
theorem dX7_copyFrom_57 : decode cX7_copyFrom 57 = .ok (.aload_n 1, 1) := by decide +kernel
theorem dX7_copyFrom_58 : decode cX7_copyFrom 58 = .ok (.getfield 33, 3) := by decide +kernel
theorem dX7_copyFrom_61 : decode cX7_copyFrom 61 = .ok (.putfield 33, 3) := by decide +kernel
theorem dX7_copyFrom_64 : decode cX7_copyFrom 64 = .ok (.iconst 0, 1) := by decide +kernel
theorem dX7_copyFrom_65 : decode cX7_copyFrom 65 = .ok (.istore_n 2, 1) := by decide +kernel
theorem dX7_copyFrom_66 : decode cX7_copyFrom 66 = .ok (.iload_n 2, 1) := by decide +kernel
theorem dX7_copyFrom_67 : decode cX7_copyFrom 67 = .ok (.aload_n 0, 1) := by decide +kernel
theorem dX7_copyFrom_68 : decode cX7_copyFrom 68 = .ok (.getfield 30, 3) := by decide +kernel
theorem dX7_copyFrom_71 : decode cX7_copyFrom 71 = .ok (.if_icmp .ge 30, 3) := by decide +kernel
theorem dX7_copyFrom_74 : decode cX7_copyFrom 74 = .ok (.iload_n 2, 1) := by decide +kernel
theorem dX7_copyFrom_75 : decode cX7_copyFrom 75 = .ok (.bipush 6, 2) := by decide +kernel
theorem dX7_copyFrom_77 : decode cX7_copyFrom 77 = .ok (.if_icmp .ge 24, 3) := by decide +kernel
theorem dX7_copyFrom_80 : decode cX7_copyFrom 80 = .ok (.aload_n 0, 1) := by decide +kernel
theorem dX7_copyFrom_81 : decode cX7_copyFrom 81 = .ok (.getfield 38, 3) := by decide +kernel
theorem dX7_copyFrom_84 : decode cX7_copyFrom 84 = .ok (.iload_n 2, 1) := by decide +kernel
theorem dX7_copyFrom_85 : decode cX7_copyFrom 85 = .ok (.aaload, 1) := by decide +kernel
theorem dX7_copyFrom_86 : decode cX7_copyFrom 86 = .ok (.aload_n 1, 1) := by decide +kernel
theorem dX7_copyFrom_87 : decode cX7_copyFrom 87 = .ok (.getfield 38, 3) := by decide +kernel
theorem dX7_copyFrom_90 : decode cX7_copyFrom 90 = .ok (.iload_n 2, 1) := by decide +kernel
theorem dX7_copyFrom_91 : decode cX7_copyFrom 91 = .ok (.aaload, 1) := by decide +kernel
theorem dX7_copyFrom_92 : decode cX7_copyFrom 92 = .ok (.invokevirtual 86, 3) := by decide +kernel
theorem dX7_copyFrom_95 : decode cX7_copyFrom 95 = .ok (.iinc 2 1, 3) := by decide +kernel
theorem dX7_copyFrom_98 : decode cX7_copyFrom 98 = .ok (.goto (-32), 3) := by decide +kernel
theorem dX7_copyFrom_101 : decode cX7_copyFrom 101 = .ok (.iconst 0, 1) := by decide +kernel
theorem dX7_copyFrom_102 : decode cX7_copyFrom 102 = .ok (.istore_n 2, 1) := by decide +kernel
theorem dX7_copyFrom_103 : decode cX7_copyFrom 103 = .ok (.iload_n 2, 1) := by decide +kernel
theorem dX7_copyFrom_104 : decode cX7_copyFrom 104 = .ok (.aload_n 0, 1) := by decide +kernel
theorem dX7_copyFrom_105 : decode cX7_copyFrom 105 = .ok (.getfield 33, 3) := by decide +kernel
theorem dX7_copyFrom_108 : decode cX7_copyFrom 108 = .ok (.if_icmp .ge 30, 3) := by decide +kernel
theorem dX7_copyFrom_111 : decode cX7_copyFrom 111 = .ok (.iload_n 2, 1) := by decide +kernel
theorem dX7_copyFrom_112 : decode cX7_copyFrom 112 = .ok (.bipush 40, 2) := by decide +kernel
theorem dX7_copyFrom_114 : decode cX7_copyFrom 114 = .ok (.if_icmp .ge 24, 3) := by decide +kernel
theorem dX7_copyFrom_117 : decode cX7_copyFrom 117 = .ok (.aload_n 0, 1) := by decide +kernel
theorem dX7_copyFrom_118 : decode cX7_copyFrom 118 = .ok (.getfield 44, 3) := by decide +kernel
theorem dX7_copyFrom_121 : decode cX7_copyFrom 121 = .ok (.iload_n 2, 1) := by decide +kernel
theorem dX7_copyFrom_122 : decode cX7_copyFrom 122 = .ok (.aaload, 1) := by decide +kernel
theorem dX7_copyFrom_123 : decode cX7_copyFrom 123 = .ok (.aload_n 1, 1) := by decide +kernel
theorem dX7_copyFrom_124 : decode cX7_copyFrom 124 = .ok (.getfield 44, 3) := by decide +kernel
theorem dX7_copyFrom_127 : decode cX7_copyFrom 127 = .ok (.iload_n 2, 1) := by decide +kernel
theorem dX7_copyFrom_128 : decode cX7_copyFrom 128 = .ok (.aaload, 1) := by decide +kernel
theorem dX7_copyFrom_129 : decode cX7_copyFrom 129 = .ok (.invokevirtual 90, 3) := by decide +kernel
theorem dX7_copyFrom_132 : decode cX7_copyFrom 132 = .ok (.iinc 2 1, 3) := by decide +kernel
theorem dX7_copyFrom_135 : decode cX7_copyFrom 135 = .ok (.goto (-32), 3) := by decide +kernel
theorem dX7_copyFrom_138 : decode cX7_copyFrom 138 = .ok (.iconst 0, 1) := by decide +kernel
theorem dX7_copyFrom_139 : decode cX7_copyFrom 139 = .ok (.istore_n 2, 1) := by decide +kernel
theorem dX7_copyFrom_140 : decode cX7_copyFrom 140 = .ok (.iload_n 2, 1) := by decide +kernel
theorem dX7_copyFrom_141 : decode cX7_copyFrom 141 = .ok (.iconst 4, 1) := by decide +kernel
theorem dX7_copyFrom_142 : decode cX7_copyFrom 142 = .ok (.if_icmp .ge 24, 3) := by decide +kernel
theorem dX7_copyFrom_145 : decode cX7_copyFrom 145 = .ok (.aload_n 0, 1) := by decide +kernel
theorem dX7_copyFrom_146 : decode cX7_copyFrom 146 = .ok (.getfield 50, 3) := by decide +kernel
theorem dX7_copyFrom_149 : decode cX7_copyFrom 149 = .ok (.iload_n 2, 1) := by decide +kernel
theorem dX7_copyFrom_150 : decode cX7_copyFrom 150 = .ok (.aaload, 1) := by decide +kernel
theorem dX7_copyFrom_151 : decode cX7_copyFrom 151 = .ok (.aload_n 1, 1) := by decide +kernel
theorem dX7_copyFrom_152 : decode cX7_copyFrom 152 = .ok (.getfield 50, 3) := by decide +kernel
theorem dX7_copyFrom_155 : decode cX7_copyFrom 155 = .ok (.iload_n 2, 1) := by decide +kernel
theorem dX7_copyFrom_156 : decode cX7_copyFrom 156 = .ok (.aaload, 1) := by decide +kernel
theorem dX7_copyFrom_157 : decode cX7_copyFrom 157 = .ok (.invokevirtual 93, 3) := by decide +kernel
theorem dX7_copyFrom_160 : decode cX7_copyFrom 160 = .ok (.iinc 2 1, 3) := by decide +kernel
theorem dX7_copyFrom_163 : decode cX7_copyFrom 163 = .ok (.goto (-23), 3) := by decide +kernel
theorem dX7_copyFrom_166 : decode cX7_copyFrom 166 = .ok (.aload_n 0, 1) := by decide +kernel
theorem dX7_copyFrom_167 : decode cX7_copyFrom 167 = .ok (.getfield 57, 3) := by decide +kernel
theorem dX7_copyFrom_170 : decode cX7_copyFrom 170 = .ok (.aload_n 1, 1) := by decide +kernel
theorem dX7_copyFrom_171 : decode cX7_copyFrom 171 = .ok (.getfield 57, 3) := by decide +kernel
theorem dX7_copyFrom_174 : decode cX7_copyFrom 174 = .ok (.invokevirtual 96, 3) := by decide +kernel
theorem dX7_copyFrom_177 : decode cX7_copyFrom 177 = .ok (.aload_n 0, 1) := by decide +kernel
theorem dX7_copyFrom_178 : decode cX7_copyFrom 178 = .ok (.getfield 64, 3) := by decide +kernel
theorem dX7_copyFrom_181 : decode cX7_copyFrom 181 = .ok (.aload_n 1, 1) := by decide +kernel
theorem dX7_copyFrom_182 : decode cX7_copyFrom 182 = .ok (.getfield 64, 3) := by decide +kernel
theorem dX7_copyFrom_185 : decode cX7_copyFrom 185 = .ok (.invokevirtual 99, 3) := by decide +kernel
theorem dX7_copyFrom_188 : decode cX7_copyFrom 188 = .ok (.aload_n 0, 1) := by decide +kernel
theorem dX7_copyFrom_189 : decode cX7_copyFrom 189 = .ok (.getfield 71, 3) := by decide +kernel
theorem dX7_copyFrom_192 : decode cX7_copyFrom 192 = .ok (.aload_n 1, 1) := by decide +kernel
theorem dX7_copyFrom_193 : decode cX7_copyFrom 193 = .ok (.getfield 71, 3) := by decide +kernel
theorem dX7_copyFrom_196 : decode cX7_copyFrom 196 = .ok (.invokevirtual 102, 3) := by decide +kernel
theorem dX7_copyFrom_199 : decode cX7_copyFrom 199 = .ok (.return_, 1) := by decide +kernel
/-! X7_datagramAt -/
theorem dX7_datagramAt_0 : decode cX7_datagramAt 0 = .ok (.iload_n 1, 1) := by decide +kernel
theorem dX7_datagramAt_1 : decode cX7_datagramAt 1 = .ok (.ifCond .lt 26, 3) := by decide +kernel
theorem dX7_datagramAt_4 : decode cX7_datagramAt 4 = .ok (.iload_n 1, 1) := by decide +kernel
theorem dX7_datagramAt_5 : decode cX7_datagramAt 5 = .ok (.aload_n 0, 1) := by decide +kernel
theorem dX7_datagramAt_6 : decode cX7_datagramAt 6 = .ok (.getfield 33, 3) := by decide +kernel
theorem dX7_datagramAt_9 : decode cX7_datagramAt 9 = .ok (.if_icmp .ge 18, 3) := by decide +kernel
theorem dX7_datagramAt_12 : decode cX7_datagramAt 12 = .ok (.iload_n 1, 1) := by decide +kernel
theorem dX7_datagramAt_13 : decode cX7_datagramAt 13 = .ok (.bipush 40, 2) := by decide +kernel
theorem dX7_datagramAt_15 : decode cX7_datagramAt 15 = .ok (.if_icmp .ge 12, 3) := by decide +kernel
theorem dX7_datagramAt_18 : decode cX7_datagramAt 18 = .ok (.aload_n 0, 1) := by decide +kernel
theorem dX7_datagramAt_19 : decode cX7_datagramAt 19 = .ok (.getfield 44, 3) := by decide +kernel
theorem dX7_datagramAt_22 : decode cX7_datagramAt 22 = .ok (.iload_n 1, 1) := by decide +kernel
theorem dX7_datagramAt_23 : decode cX7_datagramAt 23 = .ok (.aaload, 1) := by decide +kernel
theorem dX7_datagramAt_24 : decode cX7_datagramAt 24 = .ok (.goto 4, 3) := by decide +kernel
theorem dX7_datagramAt_27 : decode cX7_datagramAt 27 = .ok (.aconst_null, 1) := by decide +kernel
theorem dX7_datagramAt_28 : decode cX7_datagramAt 28 = .ok (.areturn, 1) := by decide +kernel
/-! X7_delaysAhead -/
theorem dX7_delaysAhead_0 : decode cX7_delaysAhead 0 = .ok (.iconst 0, 1) := by decide +kernel
theorem dX7_delaysAhead_1 : decode cX7_delaysAhead 1 = .ok (.istore_n 2, 1) := by decide +kernel
theorem dX7_delaysAhead_2 : decode cX7_delaysAhead 2 = .ok (.iconst 0, 1) := by decide +kernel
theorem dX7_delaysAhead_3 : decode cX7_delaysAhead 3 = .ok (.istore_n 3, 1) := by decide +kernel
theorem dX7_delaysAhead_4 : decode cX7_delaysAhead 4 = .ok (.iload_n 3, 1) := by decide +kernel
theorem dX7_delaysAhead_5 : decode cX7_delaysAhead 5 = .ok (.iload_n 1, 1) := by decide +kernel
theorem dX7_delaysAhead_6 : decode cX7_delaysAhead 6 = .ok (.if_icmp .ge 35, 3) := by decide +kernel
theorem dX7_delaysAhead_9 : decode cX7_delaysAhead 9 = .ok (.iload_n 3, 1) := by decide +kernel
theorem dX7_delaysAhead_10 : decode cX7_delaysAhead 10 = .ok (.aload_n 0, 1) := by decide +kernel
theorem dX7_delaysAhead_11 : decode cX7_delaysAhead 11 = .ok (.getfield 30, 3) := by decide +kernel
theorem dX7_delaysAhead_14 : decode cX7_delaysAhead 14 = .ok (.if_icmp .ge 27, 3) := by decide +kernel
theorem dX7_delaysAhead_17 : decode cX7_delaysAhead 17 = .ok (.iload_n 3, 1) := by decide +kernel
theorem dX7_delaysAhead_18 : decode cX7_delaysAhead 18 = .ok (.bipush 6, 2) := by decide +kernel
theorem dX7_delaysAhead_20 : decode cX7_delaysAhead 20 = .ok (.if_icmp .ge 21, 3) := by decide +kernel
theorem dX7_delaysAhead_23 : decode cX7_delaysAhead 23 = .ok (.iload_n 2, 1) := by decide +kernel
theorem dX7_delaysAhead_24 : decode cX7_delaysAhead 24 = .ok (.aload_n 0, 1) := by decide +kernel
theorem dX7_delaysAhead_25 : decode cX7_delaysAhead 25 = .ok (.getfield 38, 3) := by decide +kernel
theorem dX7_delaysAhead_28 : decode cX7_delaysAhead 28 = .ok (.iload_n 3, 1) := by decide +kernel
theorem dX7_delaysAhead_29 : decode cX7_delaysAhead 29 = .ok (.aaload, 1) := by decide +kernel
theorem dX7_delaysAhead_30 : decode cX7_delaysAhead 30 = .ok (.getfield 109, 3) := by decide +kernel
theorem dX7_delaysAhead_33 : decode cX7_delaysAhead 33 = .ok (.iadd, 1) := by decide +kernel
theorem dX7_delaysAhead_34 : decode cX7_delaysAhead 34 = .ok (.istore_n 2, 1) := by decide +kernel
theorem dX7_delaysAhead_35 : decode cX7_delaysAhead 35 = .ok (.iinc 3 1, 3) := by decide +kernel
theorem dX7_delaysAhead_38 : decode cX7_delaysAhead 38 = .ok (.goto (-34), 3) := by decide +kernel
theorem dX7_delaysAhead_41 : decode cX7_delaysAhead 41 = .ok (.iload_n 2, 1) := by decide +kernel
theorem dX7_delaysAhead_42 : decode cX7_delaysAhead 42 = .ok (.ireturn, 1) := by decide +kernel
/-! X7_fateCount -/
theorem dX7_fateCount_0 : decode cX7_fateCount 0 = .ok (.iconst 0, 1) := by decide +kernel
theorem dX7_fateCount_1 : decode cX7_fateCount 1 = .ok (.istore_n 2, 1) := by decide +kernel
theorem dX7_fateCount_2 : decode cX7_fateCount 2 = .ok (.iconst 0, 1) := by decide +kernel
theorem dX7_fateCount_3 : decode cX7_fateCount 3 = .ok (.istore_n 3, 1) := by decide +kernel
theorem dX7_fateCount_4 : decode cX7_fateCount 4 = .ok (.iload_n 3, 1) := by decide +kernel
theorem dX7_fateCount_5 : decode cX7_fateCount 5 = .ok (.aload_n 0, 1) := by decide +kernel
theorem dX7_fateCount_6 : decode cX7_fateCount 6 = .ok (.getfield 33, 3) := by decide +kernel
theorem dX7_fateCount_9 : decode cX7_fateCount 9 = .ok (.if_icmp .ge 31, 3) := by decide +kernel
theorem dX7_fateCount_12 : decode cX7_fateCount 12 = .ok (.iload_n 3, 1) := by decide +kernel
theorem dX7_fateCount_13 : decode cX7_fateCount 13 = .ok (.bipush 40, 2) := by decide +kernel
theorem dX7_fateCount_15 : decode cX7_fateCount 15 = .ok (.if_icmp .ge 25, 3) := by decide +kernel
theorem dX7_fateCount_18 : decode cX7_fateCount 18 = .ok (.aload_n 0, 1) := by decide +kernel
theorem dX7_fateCount_19 : decode cX7_fateCount 19 = .ok (.getfield 44, 3) := by decide +kernel
theorem dX7_fateCount_22 : decode cX7_fateCount 22 = .ok (.iload_n 3, 1) := by decide +kernel
theorem dX7_fateCount_23 : decode cX7_fateCount 23 = .ok (.aaload, 1) := by decide +kernel
theorem dX7_fateCount_24 : decode cX7_fateCount 24 = .ok (.getfield 216, 3) := by decide +kernel
theorem dX7_fateCount_27 : decode cX7_fateCount 27 = .ok (.iload_n 1, 1) := by decide +kernel
theorem dX7_fateCount_28 : decode cX7_fateCount 28 = .ok (.if_icmp .ne 6, 3) := by decide +kernel
theorem dX7_fateCount_31 : decode cX7_fateCount 31 = .ok (.iinc 2 1, 3) := by decide +kernel
theorem dX7_fateCount_34 : decode cX7_fateCount 34 = .ok (.iinc 3 1, 3) := by decide +kernel
theorem dX7_fateCount_37 : decode cX7_fateCount 37 = .ok (.goto (-33), 3) := by decide +kernel
theorem dX7_fateCount_40 : decode cX7_fateCount 40 = .ok (.iload_n 2, 1) := by decide +kernel
theorem dX7_fateCount_41 : decode cX7_fateCount 41 = .ok (.ireturn, 1) := by decide +kernel
/-! X7_firstHeap -/
theorem dX7_firstHeap_0 : decode cX7_firstHeap 0 = .ok (.aload_n 0, 1) := by decide +kernel
theorem dX7_firstHeap_1 : decode cX7_firstHeap 1 = .ok (.getfield 50, 3) := by decide +kernel
theorem dX7_firstHeap_4 : decode cX7_firstHeap 4 = .ok (.iconst 0, 1) := by decide +kernel
theorem dX7_firstHeap_5 : decode cX7_firstHeap 5 = .ok (.aaload, 1) := by decide +kernel
theorem dX7_firstHeap_6 : decode cX7_firstHeap 6 = .ok (.astore_n 1, 1) := by decide +kernel
theorem dX7_firstHeap_7 : decode cX7_firstHeap 7 = .ok (.iconst 0, 1) := by decide +kernel
theorem dX7_firstHeap_8 : decode cX7_firstHeap 8 = .ok (.istore_n 2, 1) := by decide +kernel
theorem dX7_firstHeap_9 : decode cX7_firstHeap 9 = .ok (.iload_n 2, 1) := by decide +kernel
theorem dX7_firstHeap_10 : decode cX7_firstHeap 10 = .ok (.iconst 4, 1) := by decide +kernel
theorem dX7_firstHeap_11 : decode cX7_firstHeap 11 = .ok (.if_icmp .ge 61, 3) := by decide +kernel
theorem dX7_firstHeap_14 : decode cX7_firstHeap 14 = .ok (.aload_n 0, 1) := by decide +kernel
theorem dX7_firstHeap_15 : decode cX7_firstHeap 15 = .ok (.getfield 50, 3) := by decide +kernel
theorem dX7_firstHeap_18 : decode cX7_firstHeap 18 = .ok (.iload_n 2, 1) := by decide +kernel
theorem dX7_firstHeap_19 : decode cX7_firstHeap 19 = .ok (.aaload, 1) := by decide +kernel
theorem dX7_firstHeap_20 : decode cX7_firstHeap 20 = .ok (.astore_n 3, 1) := by decide +kernel
theorem dX7_firstHeap_21 : decode cX7_firstHeap 21 = .ok (.aload_n 3, 1) := by decide +kernel
theorem dX7_firstHeap_22 : decode cX7_firstHeap 22 = .ok (.getfield 78, 3) := by decide +kernel
theorem dX7_firstHeap_25 : decode cX7_firstHeap 25 = .ok (.iconst (-1), 1) := by decide +kernel
theorem dX7_firstHeap_26 : decode cX7_firstHeap 26 = .ok (.if_icmp .ne 5, 3) := by decide +kernel
theorem dX7_firstHeap_29 : decode cX7_firstHeap 29 = .ok (.aload_n 3, 1) := by decide +kernel
theorem dX7_firstHeap_30 : decode cX7_firstHeap 30 = .ok (.areturn, 1) := by decide +kernel
theorem dX7_firstHeap_31 : decode cX7_firstHeap 31 = .ok (.aload_n 3, 1) := by decide +kernel
theorem dX7_firstHeap_32 : decode cX7_firstHeap 32 = .ok (.getfield 280, 3) := by decide +kernel
theorem dX7_firstHeap_35 : decode cX7_firstHeap 35 = .ok (.aload_n 1, 1) := by decide +kernel
theorem dX7_firstHeap_36 : decode cX7_firstHeap 36 = .ok (.getfield 280, 3) := by decide +kernel
theorem dX7_firstHeap_39 : decode cX7_firstHeap 39 = .ok (.if_icmp .lt 25, 3) := by decide +kernel
theorem dX7_firstHeap_42 : decode cX7_firstHeap 42 = .ok (.aload_n 3, 1) := by decide +kernel
theorem dX7_firstHeap_43 : decode cX7_firstHeap 43 = .ok (.getfield 280, 3) := by decide +kernel
theorem dX7_firstHeap_46 : decode cX7_firstHeap 46 = .ok (.aload_n 1, 1) := by decide +kernel
theorem dX7_firstHeap_47 : decode cX7_firstHeap 47 = .ok (.getfield 280, 3) := by decide +kernel
theorem dX7_firstHeap_50 : decode cX7_firstHeap 50 = .ok (.if_icmp .ne 16, 3) := by decide +kernel
theorem dX7_firstHeap_53 : decode cX7_firstHeap 53 = .ok (.aload_n 3, 1) := by decide +kernel
theorem dX7_firstHeap_54 : decode cX7_firstHeap 54 = .ok (.getfield 78, 3) := by decide +kernel
theorem dX7_firstHeap_57 : decode cX7_firstHeap 57 = .ok (.aload_n 1, 1) := by decide +kernel
theorem dX7_firstHeap_58 : decode cX7_firstHeap 58 = .ok (.getfield 78, 3) := by decide +kernel
theorem dX7_firstHeap_61 : decode cX7_firstHeap 61 = .ok (.if_icmp .ge 5, 3) := by decide +kernel
theorem dX7_firstHeap_64 : decode cX7_firstHeap 64 = .ok (.aload_n 3, 1) := by decide +kernel
theorem dX7_firstHeap_65 : decode cX7_firstHeap 65 = .ok (.astore_n 1, 1) := by decide +kernel
theorem dX7_firstHeap_66 : decode cX7_firstHeap 66 = .ok (.iinc 2 1, 3) := by decide +kernel
theorem dX7_firstHeap_69 : decode cX7_firstHeap 69 = .ok (.goto (-60), 3) := by decide +kernel
theorem dX7_firstHeap_72 : decode cX7_firstHeap 72 = .ok (.aload_n 1, 1) := by decide +kernel
theorem dX7_firstHeap_73 : decode cX7_firstHeap 73 = .ok (.areturn, 1) := by decide +kernel
/-! X7_giveUp -/
theorem dX7_giveUp_0 : decode cX7_giveUp 0 = .ok (.aload_n 0, 1) := by decide +kernel
theorem dX7_giveUp_1 : decode cX7_giveUp 1 = .ok (.aload_n 1, 1) := by decide +kernel
theorem dX7_giveUp_2 : decode cX7_giveUp 2 = .ok (.getfield 78, 3) := by decide +kernel
theorem dX7_giveUp_5 : decode cX7_giveUp 5 = .ok (.invokevirtual 188, 3) := by decide +kernel
theorem dX7_giveUp_8 : decode cX7_giveUp 8 = .ok (.astore_n 3, 1) := by decide +kernel
theorem dX7_giveUp_9 : decode cX7_giveUp 9 = .ok (.aload_n 3, 1) := by decide +kernel
theorem dX7_giveUp_10 : decode cX7_giveUp 10 = .ok (.ifnull 13, 3) := by decide +kernel
theorem dX7_giveUp_13 : decode cX7_giveUp 13 = .ok (.aload_n 3, 1) := by decide +kernel
theorem dX7_giveUp_14 : decode cX7_giveUp 14 = .ok (.iconst 3, 1) := by decide +kernel
theorem dX7_giveUp_15 : decode cX7_giveUp 15 = .ok (.aload_n 0, 1) := by decide +kernel
theorem dX7_giveUp_16 : decode cX7_giveUp 16 = .ok (.getfield 9, 3) := by decide +kernel
theorem dX7_giveUp_19 : decode cX7_giveUp 19 = .ok (.iload_n 2, 1) := by decide +kernel
theorem dX7_giveUp_20 : decode cX7_giveUp 20 = .ok (.invokevirtual 283, 3) := by decide +kernel
theorem dX7_giveUp_23 : decode cX7_giveUp 23 = .ok (.aload_n 1, 1) := by decide +kernel
theorem dX7_giveUp_24 : decode cX7_giveUp 24 = .ok (.iconst (-1), 1) := by decide +kernel
theorem dX7_giveUp_25 : decode cX7_giveUp 25 = .ok (.putfield 78, 3) := by decide +kernel
theorem dX7_giveUp_28 : decode cX7_giveUp 28 = .ok (.return_, 1) := by decide +kernel
/-! X7_handOver -/
theorem dX7_handOver_0 : decode cX7_handOver 0 = .ok (.aload_n 2, 1) := by decide +kernel
theorem dX7_handOver_1 : decode cX7_handOver 1 = .ok (.aload_n 1, 1) := by decide +kernel
theorem dX7_handOver_2 : decode cX7_handOver 2 = .ok (.aload_n 2, 1) := by decide +kernel
theorem dX7_handOver_3 : decode cX7_handOver 3 = .ok (.invokevirtual 286, 3) := by decide +kernel
theorem dX7_handOver_6 : decode cX7_handOver 6 = .ok (.ifCond .eq 7, 3) := by decide +kernel
theorem dX7_handOver_9 : decode cX7_handOver 9 = .ok (.iconst 1, 1) := by decide +kernel
theorem dX7_handOver_10 : decode cX7_handOver 10 = .ok (.goto 4, 3) := by decide +kernel
theorem dX7_handOver_13 : decode cX7_handOver 13 = .ok (.iconst 2, 1) := by decide +kernel
theorem dX7_handOver_14 : decode cX7_handOver 14 = .ok (.aload_n 0, 1) := by decide +kernel
theorem dX7_handOver_15 : decode cX7_handOver 15 = .ok (.getfield 9, 3) := by decide +kernel
theorem dX7_handOver_18 : decode cX7_handOver 18 = .ok (.iconst 0, 1) := by decide +kernel
theorem dX7_handOver_19 : decode cX7_handOver 19 = .ok (.invokevirtual 283, 3) := by decide +kernel
theorem dX7_handOver_22 : decode cX7_handOver 22 = .ok (.aload_n 0, 1) := by decide +kernel
theorem dX7_handOver_23 : decode cX7_handOver 23 = .ok (.getfield 71, 3) := by decide +kernel
theorem dX7_handOver_26 : decode cX7_handOver 26 = .ok (.dup, 1) := by decide +kernel
theorem dX7_handOver_27 : decode cX7_handOver 27 = .ok (.getfield 290, 3) := by decide +kernel
theorem dX7_handOver_30 : decode cX7_handOver 30 = .ok (.aload_n 1, 1) := by decide +kernel
theorem dX7_handOver_31 : decode cX7_handOver 31 = .ok (.getfield 253, 3) := by decide +kernel
theorem dX7_handOver_34 : decode cX7_handOver 34 = .ok (.iadd, 1) := by decide +kernel
theorem dX7_handOver_35 : decode cX7_handOver 35 = .ok (.putfield 290, 3) := by decide +kernel
theorem dX7_handOver_38 : decode cX7_handOver 38 = .ok (.aload_n 1, 1) := by decide +kernel
theorem dX7_handOver_39 : decode cX7_handOver 39 = .ok (.iconst (-1), 1) := by decide +kernel
theorem dX7_handOver_40 : decode cX7_handOver 40 = .ok (.putfield 78, 3) := by decide +kernel
theorem dX7_handOver_43 : decode cX7_handOver 43 = .ok (.return_, 1) := by decide +kernel
/-! X7_handedCount -/
theorem dX7_handedCount_0 : decode cX7_handedCount 0 = .ok (.aload_n 0, 1) := by decide +kernel
theorem dX7_handedCount_1 : decode cX7_handedCount 1 = .ok (.iconst 1, 1) := by decide +kernel
theorem dX7_handedCount_2 : decode cX7_handedCount 2 = .ok (.invokevirtual 340, 3) := by decide +kernel
theorem dX7_handedCount_5 : decode cX7_handedCount 5 = .ok (.aload_n 0, 1) := by decide +kernel
theorem dX7_handedCount_6 : decode cX7_handedCount 6 = .ok (.iconst 2, 1) := by decide +kernel
theorem dX7_handedCount_7 : decode cX7_handedCount 7 = .ok (.invokevirtual 340, 3) := by decide +kernel
theorem dX7_handedCount_10 : decode cX7_handedCount 10 = .ok (.iadd, 1) := by decide +kernel
theorem dX7_handedCount_11 : decode cX7_handedCount 11 = .ok (.ireturn, 1) := by decide +kernel
/-! X7_hasMore -/
theorem dX7_hasMore_0 : decode cX7_hasMore 0 = .ok (.aload_n 0, 1) := by decide +kernel
theorem dX7_hasMore_1 : decode cX7_hasMore 1 = .ok (.aload_n 0, 1) := by decide +kernel
theorem dX7_hasMore_2 : decode cX7_hasMore 2 = .ok (.getfield 57, 3) := by decide +kernel
theorem dX7_hasMore_5 : decode cX7_hasMore 5 = .ok (.getfield 181, 3) := by decide +kernel
theorem dX7_hasMore_8 : decode cX7_hasMore 8 = .ok (.iload_n 1, 1) := by decide +kernel
theorem dX7_hasMore_9 : decode cX7_hasMore 9 = .ok (.invokestatic 184, 3) := by decide +kernel
theorem dX7_hasMore_12 : decode cX7_hasMore 12 = .ok (.invokevirtual 188, 3) := by decide +kernel
theorem dX7_hasMore_15 : decode cX7_hasMore 15 = .ok (.astore_n 2, 1) := by decide +kernel
theorem dX7_hasMore_16 : decode cX7_hasMore 16 = .ok (.aload_n 2, 1) := by decide +kernel
theorem dX7_hasMore_17 : decode cX7_hasMore 17 = .ok (.ifnull 40, 3) := by decide +kernel
theorem dX7_hasMore_20 : decode cX7_hasMore 20 = .ok (.aload_n 0, 1) := by decide +kernel
theorem dX7_hasMore_21 : decode cX7_hasMore 21 = .ok (.getfield 57, 3) := by decide +kernel
theorem dX7_hasMore_24 : decode cX7_hasMore 24 = .ok (.getfield 192, 3) := by decide +kernel
theorem dX7_hasMore_27 : decode cX7_hasMore 27 = .ok (.iload_n 1, 1) := by decide +kernel
theorem dX7_hasMore_28 : decode cX7_hasMore 28 = .ok (.invokestatic 184, 3) := by decide +kernel
theorem dX7_hasMore_31 : decode cX7_hasMore 31 = .ok (.aload_n 0, 1) := by decide +kernel
theorem dX7_hasMore_32 : decode cX7_hasMore 32 = .ok (.getfield 57, 3) := by decide +kernel
theorem dX7_hasMore_35 : decode cX7_hasMore 35 = .ok (.getfield 195, 3) := by decide +kernel
theorem dX7_hasMore_38 : decode cX7_hasMore 38 = .ok (.iload_n 1, 1) := by decide +kernel
theorem dX7_hasMore_39 : decode cX7_hasMore 39 = .ok (.invokestatic 184, 3) := by decide +kernel
theorem dX7_hasMore_42 : decode cX7_hasMore 42 = .ok (.iadd, 1) := by decide +kernel
theorem dX7_hasMore_43 : decode cX7_hasMore 43 = .ok (.bipush 20, 2) := by decide +kernel
theorem dX7_hasMore_45 : decode cX7_hasMore 45 = .ok (.isub, 1) := by decide +kernel
theorem dX7_hasMore_46 : decode cX7_hasMore 46 = .ok (.aload_n 2, 1) := by decide +kernel
theorem dX7_hasMore_47 : decode cX7_hasMore 47 = .ok (.getfield 197, 3) := by decide +kernel
theorem dX7_hasMore_50 : decode cX7_hasMore 50 = .ok (.if_icmp .ge 7, 3) := by decide +kernel
theorem dX7_hasMore_53 : decode cX7_hasMore 53 = .ok (.iconst 1, 1) := by decide +kernel
theorem dX7_hasMore_54 : decode cX7_hasMore 54 = .ok (.goto 4, 3) := by decide +kernel
theorem dX7_hasMore_57 : decode cX7_hasMore 57 = .ok (.iconst 0, 1) := by decide +kernel
theorem dX7_hasMore_58 : decode cX7_hasMore 58 = .ok (.ireturn, 1) := by decide +kernel
/-! X7_heapCount -/
theorem dX7_heapCount_0 : decode cX7_heapCount 0 = .ok (.iconst 0, 1) := by decide +kernel
theorem dX7_heapCount_1 : decode cX7_heapCount 1 = .ok (.istore_n 1, 1) := by decide +kernel
theorem dX7_heapCount_2 : decode cX7_heapCount 2 = .ok (.iconst 0, 1) := by decide +kernel
theorem dX7_heapCount_3 : decode cX7_heapCount 3 = .ok (.istore_n 2, 1) := by decide +kernel
theorem dX7_heapCount_4 : decode cX7_heapCount 4 = .ok (.iload_n 2, 1) := by decide +kernel
theorem dX7_heapCount_5 : decode cX7_heapCount 5 = .ok (.iconst 4, 1) := by decide +kernel
theorem dX7_heapCount_6 : decode cX7_heapCount 6 = .ok (.if_icmp .ge 25, 3) := by decide +kernel
theorem dX7_heapCount_9 : decode cX7_heapCount 9 = .ok (.aload_n 0, 1) := by decide +kernel
theorem dX7_heapCount_10 : decode cX7_heapCount 10 = .ok (.getfield 50, 3) := by decide +kernel
theorem dX7_heapCount_13 : decode cX7_heapCount 13 = .ok (.iload_n 2, 1) := by decide +kernel
theorem dX7_heapCount_14 : decode cX7_heapCount 14 = .ok (.aaload, 1) := by decide +kernel
theorem dX7_heapCount_15 : decode cX7_heapCount 15 = .ok (.getfield 78, 3) := by decide +kernel
theorem dX7_heapCount_18 : decode cX7_heapCount 18 = .ok (.iconst (-1), 1) := by decide +kernel
theorem dX7_heapCount_19 : decode cX7_heapCount 19 = .ok (.if_icmp .eq 6, 3) := by decide +kernel
theorem dX7_heapCount_22 : decode cX7_heapCount 22 = .ok (.iinc 1 1, 3) := by decide +kernel
theorem dX7_heapCount_25 : decode cX7_heapCount 25 = .ok (.iinc 2 1, 3) := by decide +kernel
theorem dX7_heapCount_28 : decode cX7_heapCount 28 = .ok (.goto (-24), 3) := by decide +kernel
theorem dX7_heapCount_31 : decode cX7_heapCount 31 = .ok (.iload_n 1, 1) := by decide +kernel
theorem dX7_heapCount_32 : decode cX7_heapCount 32 = .ok (.ireturn, 1) := by decide +kernel
/-! X7_heapFor -/
theorem dX7_heapFor_0 : decode cX7_heapFor 0 = .ok (.aload_n 0, 1) := by decide +kernel
theorem dX7_heapFor_1 : decode cX7_heapFor 1 = .ok (.iload_n 1, 1) := by decide +kernel
theorem dX7_heapFor_2 : decode cX7_heapFor 2 = .ok (.invokevirtual 271, 3) := by decide +kernel
theorem dX7_heapFor_5 : decode cX7_heapFor 5 = .ok (.astore_n 2, 1) := by decide +kernel
theorem dX7_heapFor_6 : decode cX7_heapFor 6 = .ok (.aload_n 2, 1) := by decide +kernel
theorem dX7_heapFor_7 : decode cX7_heapFor 7 = .ok (.ifnull 5, 3) := by decide +kernel
theorem dX7_heapFor_10 : decode cX7_heapFor 10 = .ok (.aload_n 2, 1) := by decide +kernel
theorem dX7_heapFor_11 : decode cX7_heapFor 11 = .ok (.areturn, 1) := by decide +kernel
theorem dX7_heapFor_12 : decode cX7_heapFor 12 = .ok (.aload_n 0, 1) := by decide +kernel
theorem dX7_heapFor_13 : decode cX7_heapFor 13 = .ok (.invokevirtual 274, 3) := by decide +kernel
theorem dX7_heapFor_16 : decode cX7_heapFor 16 = .ok (.astore_n 3, 1) := by decide +kernel
theorem dX7_heapFor_17 : decode cX7_heapFor 17 = .ok (.aload_n 3, 1) := by decide +kernel
theorem dX7_heapFor_18 : decode cX7_heapFor 18 = .ok (.getfield 78, 3) := by decide +kernel
theorem dX7_heapFor_21 : decode cX7_heapFor 21 = .ok (.iconst (-1), 1) := by decide +kernel
theorem dX7_heapFor_22 : decode cX7_heapFor 22 = .ok (.if_icmp .eq 9, 3) := by decide +kernel
theorem dX7_heapFor_25 : decode cX7_heapFor 25 = .ok (.aload_n 0, 1) := by decide +kernel
theorem dX7_heapFor_26 : decode cX7_heapFor 26 = .ok (.aload_n 3, 1) := by decide +kernel
theorem dX7_heapFor_27 : decode cX7_heapFor 27 = .ok (.iconst 2, 1) := by decide +kernel
theorem dX7_heapFor_28 : decode cX7_heapFor 28 = .ok (.invokevirtual 249, 3) := by decide +kernel
theorem dX7_heapFor_31 : decode cX7_heapFor 31 = .ok (.aload_n 3, 1) := by decide +kernel
theorem dX7_heapFor_32 : decode cX7_heapFor 32 = .ok (.iload_n 1, 1) := by decide +kernel
theorem dX7_heapFor_33 : decode cX7_heapFor 33 = .ok (.aload_n 0, 1) := by decide +kernel
theorem dX7_heapFor_34 : decode cX7_heapFor 34 = .ok (.getfield 9, 3) := by decide +kernel
theorem dX7_heapFor_37 : decode cX7_heapFor 37 = .ok (.invokevirtual 278, 3) := by decide +kernel
theorem dX7_heapFor_40 : decode cX7_heapFor 40 = .ok (.aload_n 3, 1) := by decide +kernel
theorem dX7_heapFor_41 : decode cX7_heapFor 41 = .ok (.areturn, 1) := by decide +kernel
/-! X7_heapOf -/
theorem dX7_heapOf_0 : decode cX7_heapOf 0 = .ok (.iconst 0, 1) := by decide +kernel
theorem dX7_heapOf_1 : decode cX7_heapOf 1 = .ok (.istore_n 2, 1) := by decide +kernel
theorem dX7_heapOf_2 : decode cX7_heapOf 2 = .ok (.iload_n 2, 1) := by decide +kernel
theorem dX7_heapOf_3 : decode cX7_heapOf 3 = .ok (.iconst 4, 1) := by decide +kernel
theorem dX7_heapOf_4 : decode cX7_heapOf 4 = .ok (.if_icmp .ge 33, 3) := by decide +kernel
theorem dX7_heapOf_7 : decode cX7_heapOf 7 = .ok (.iload_n 1, 1) := by decide +kernel
theorem dX7_heapOf_8 : decode cX7_heapOf 8 = .ok (.ifCond .lt 23, 3) := by decide +kernel
theorem dX7_heapOf_11 : decode cX7_heapOf 11 = .ok (.aload_n 0, 1) := by decide +kernel
theorem dX7_heapOf_12 : decode cX7_heapOf 12 = .ok (.getfield 50, 3) := by decide +kernel
theorem dX7_heapOf_15 : decode cX7_heapOf 15 = .ok (.iload_n 2, 1) := by decide +kernel
theorem dX7_heapOf_16 : decode cX7_heapOf 16 = .ok (.aaload, 1) := by decide +kernel
theorem dX7_heapOf_17 : decode cX7_heapOf 17 = .ok (.getfield 78, 3) := by decide +kernel
theorem dX7_heapOf_20 : decode cX7_heapOf 20 = .ok (.iload_n 1, 1) := by decide +kernel
theorem dX7_heapOf_21 : decode cX7_heapOf 21 = .ok (.if_icmp .ne 10, 3) := by decide +kernel
theorem dX7_heapOf_24 : decode cX7_heapOf 24 = .ok (.aload_n 0, 1) := by decide +kernel
theorem dX7_heapOf_25 : decode cX7_heapOf 25 = .ok (.getfield 50, 3) := by decide +kernel
theorem dX7_heapOf_28 : decode cX7_heapOf 28 = .ok (.iload_n 2, 1) := by decide +kernel
theorem dX7_heapOf_29 : decode cX7_heapOf 29 = .ok (.aaload, 1) := by decide +kernel
theorem dX7_heapOf_30 : decode cX7_heapOf 30 = .ok (.areturn, 1) := by decide +kernel
theorem dX7_heapOf_31 : decode cX7_heapOf 31 = .ok (.iinc 2 1, 3) := by decide +kernel
theorem dX7_heapOf_34 : decode cX7_heapOf 34 = .ok (.goto (-32), 3) := by decide +kernel
theorem dX7_heapOf_37 : decode cX7_heapOf 37 = .ok (.aconst_null, 1) := by decide +kernel
theorem dX7_heapOf_38 : decode cX7_heapOf 38 = .ok (.areturn, 1) := by decide +kernel
/-! X7_hearDue -/
theorem dX7_hearDue_0 : decode cX7_hearDue 0 = .ok (.iconst 0, 1) := by decide +kernel
theorem dX7_hearDue_1 : decode cX7_hearDue 1 = .ok (.istore_n 1, 1) := by decide +kernel
theorem dX7_hearDue_2 : decode cX7_hearDue 2 = .ok (.iconst 0, 1) := by decide +kernel
theorem dX7_hearDue_3 : decode cX7_hearDue 3 = .ok (.istore_n 2, 1) := by decide +kernel
theorem dX7_hearDue_4 : decode cX7_hearDue 4 = .ok (.iload_n 2, 1) := by decide +kernel
theorem dX7_hearDue_5 : decode cX7_hearDue 5 = .ok (.aload_n 0, 1) := by decide +kernel
theorem dX7_hearDue_6 : decode cX7_hearDue 6 = .ok (.getfield 64, 3) := by decide +kernel
theorem dX7_hearDue_9 : decode cX7_hearDue 9 = .ok (.getfield 315, 3) := by decide +kernel
theorem dX7_hearDue_12 : decode cX7_hearDue 12 = .ok (.if_icmp .ge 95, 3) := by decide +kernel
theorem dX7_hearDue_15 : decode cX7_hearDue 15 = .ok (.iload_n 2, 1) := by decide +kernel
theorem dX7_hearDue_16 : decode cX7_hearDue 16 = .ok (.sipush 2100, 3) := by decide +kernel
theorem dX7_hearDue_19 : decode cX7_hearDue 19 = .ok (.if_icmp .ge 88, 3) := by decide +kernel
theorem dX7_hearDue_22 : decode cX7_hearDue 22 = .ok (.aload_n 0, 1) := by decide +kernel
theorem dX7_hearDue_23 : decode cX7_hearDue 23 = .ok (.getfield 64, 3) := by decide +kernel
theorem dX7_hearDue_26 : decode cX7_hearDue 26 = .ok (.iload_n 2, 1) := by decide +kernel
theorem dX7_hearDue_27 : decode cX7_hearDue 27 = .ok (.invokevirtual 318, 3) := by decide +kernel
theorem dX7_hearDue_30 : decode cX7_hearDue 30 = .ok (.istore_n 3, 1) := by decide +kernel
theorem dX7_hearDue_31 : decode cX7_hearDue 31 = .ok (.aload_n 0, 1) := by decide +kernel
theorem dX7_hearDue_32 : decode cX7_hearDue 32 = .ok (.getfield 64, 3) := by decide +kernel
theorem dX7_hearDue_35 : decode cX7_hearDue 35 = .ok (.iload_n 2, 1) := by decide +kernel
theorem dX7_hearDue_36 : decode cX7_hearDue 36 = .ok (.invokevirtual 321, 3) := by decide +kernel
theorem dX7_hearDue_39 : decode cX7_hearDue 39 = .ok (.istore 4, 2) := by decide +kernel
theorem dX7_hearDue_41 : decode cX7_hearDue 41 = .ok (.aload_n 0, 1) := by decide +kernel
theorem dX7_hearDue_42 : decode cX7_hearDue 42 = .ok (.getfield 64, 3) := by decide +kernel
theorem dX7_hearDue_45 : decode cX7_hearDue 45 = .ok (.iload_n 2, 1) := by decide +kernel
theorem dX7_hearDue_46 : decode cX7_hearDue 46 = .ok (.aload_n 0, 1) := by decide +kernel
theorem dX7_hearDue_47 : decode cX7_hearDue 47 = .ok (.getfield 9, 3) := by decide +kernel
theorem dX7_hearDue_50 : decode cX7_hearDue 50 = .ok (.invokevirtual 324, 3) := by decide +kernel
theorem dX7_hearDue_53 : decode cX7_hearDue 53 = .ok (.ifCond .ne 18, 3) := by decide +kernel
theorem dX7_hearDue_56 : decode cX7_hearDue 56 = .ok (.aload_n 0, 1) := by decide +kernel
theorem dX7_hearDue_57 : decode cX7_hearDue 57 = .ok (.getfield 64, 3) := by decide +kernel
theorem dX7_hearDue_60 : decode cX7_hearDue 60 = .ok (.iload_n 2, 1) := by decide +kernel
theorem dX7_hearDue_61 : decode cX7_hearDue 61 = .ok (.iload_n 1, 1) := by decide +kernel
theorem dX7_hearDue_62 : decode cX7_hearDue 62 = .ok (.invokevirtual 327, 3) := by decide +kernel
theorem dX7_hearDue_65 : decode cX7_hearDue 65 = .ok (.iinc 1 1, 3) := by decide +kernel
theorem dX7_hearDue_68 : decode cX7_hearDue 68 = .ok (.goto 33, 3) := by decide +kernel
theorem dX7_hearDue_71 : decode cX7_hearDue 71 = .ok (.iload 4, 2) := by decide +kernel
theorem dX7_hearDue_73 : decode cX7_hearDue 73 = .ok (.iconst (-1), 1) := by decide +kernel
theorem dX7_hearDue_74 : decode cX7_hearDue 74 = .ok (.if_icmp .ne 11, 3) := by decide +kernel
theorem dX7_hearDue_77 : decode cX7_hearDue 77 = .ok (.aload_n 0, 1) := by decide +kernel
theorem dX7_hearDue_78 : decode cX7_hearDue 78 = .ok (.iload_n 3, 1) := by decide +kernel
theorem dX7_hearDue_79 : decode cX7_hearDue 79 = .ok (.invokevirtual 330, 3) := by decide +kernel
theorem dX7_hearDue_82 : decode cX7_hearDue 82 = .ok (.goto 19, 3) := by decide +kernel
theorem dX7_hearDue_85 : decode cX7_hearDue 85 = .ok (.aload_n 0, 1) := by decide +kernel
theorem dX7_hearDue_86 : decode cX7_hearDue 86 = .ok (.iload 4, 2) := by decide +kernel
theorem dX7_hearDue_88 : decode cX7_hearDue 88 = .ok (.iload_n 3, 1) := by decide +kernel
theorem dX7_hearDue_89 : decode cX7_hearDue 89 = .ok (.invokevirtual 131, 3) := by decide +kernel
theorem dX7_hearDue_92 : decode cX7_hearDue 92 = .ok (.ifCond .eq 9, 3) := by decide +kernel
theorem dX7_hearDue_95 : decode cX7_hearDue 95 = .ok (.aload_n 0, 1) := by decide +kernel
theorem dX7_hearDue_96 : decode cX7_hearDue 96 = .ok (.iload_n 3, 1) := by decide +kernel
theorem dX7_hearDue_97 : decode cX7_hearDue 97 = .ok (.iconst 0, 1) := by decide +kernel
theorem dX7_hearDue_98 : decode cX7_hearDue 98 = .ok (.invokevirtual 203, 3) := by decide +kernel
theorem dX7_hearDue_101 : decode cX7_hearDue 101 = .ok (.iinc 2 1, 3) := by decide +kernel
theorem dX7_hearDue_104 : decode cX7_hearDue 104 = .ok (.goto (-100), 3) := by decide +kernel
theorem dX7_hearDue_107 : decode cX7_hearDue 107 = .ok (.aload_n 0, 1) := by decide +kernel
theorem dX7_hearDue_108 : decode cX7_hearDue 108 = .ok (.getfield 64, 3) := by decide +kernel
theorem dX7_hearDue_111 : decode cX7_hearDue 111 = .ok (.iload_n 1, 1) := by decide +kernel
theorem dX7_hearDue_112 : decode cX7_hearDue 112 = .ok (.invokevirtual 333, 3) := by decide +kernel
theorem dX7_hearDue_115 : decode cX7_hearDue 115 = .ok (.return_, 1) := by decide +kernel
/-! X7_init -/
theorem dX7_init_0 : decode cX7_init 0 = .ok (.aload_n 0, 1) := by decide +kernel
theorem dX7_init_1 : decode cX7_init 1 = .ok (.invokespecial 3, 3) := by decide +kernel
theorem dX7_init_4 : decode cX7_init 4 = .ok (.aload_n 0, 1) := by decide +kernel
theorem dX7_init_5 : decode cX7_init 5 = .ok (.iconst 0, 1) := by decide +kernel
theorem dX7_init_6 : decode cX7_init 6 = .ok (.putfield 9, 3) := by decide +kernel
theorem dX7_init_9 : decode cX7_init 9 = .ok (.aload_n 0, 1) := by decide +kernel
theorem dX7_init_10 : decode cX7_init 10 = .ok (.bipush 60, 2) := by decide +kernel
theorem dX7_init_12 : decode cX7_init 12 = .ok (.putfield 15, 3) := by decide +kernel
theorem dX7_init_15 : decode cX7_init 15 = .ok (.aload_n 0, 1) := by decide +kernel
theorem dX7_init_16 : decode cX7_init 16 = .ok (.iconst 0, 1) := by decide +kernel
theorem dX7_init_17 : decode cX7_init 17 = .ok (.putfield 18, 3) := by decide +kernel
theorem dX7_init_20 : decode cX7_init 20 = .ok (.aload_n 0, 1) := by decide +kernel
theorem dX7_init_21 : decode cX7_init 21 = .ok (.bipush 28, 2) := by decide +kernel
theorem dX7_init_23 : decode cX7_init 23 = .ok (.putfield 21, 3) := by decide +kernel
theorem dX7_init_26 : decode cX7_init 26 = .ok (.aload_n 0, 1) := by decide +kernel
theorem dX7_init_27 : decode cX7_init 27 = .ok (.bipush 27, 2) := by decide +kernel
theorem dX7_init_29 : decode cX7_init 29 = .ok (.putfield 24, 3) := by decide +kernel
theorem dX7_init_32 : decode cX7_init 32 = .ok (.aload_n 0, 1) := by decide +kernel
theorem dX7_init_33 : decode cX7_init 33 = .ok (.iconst (-1), 1) := by decide +kernel
theorem dX7_init_34 : decode cX7_init 34 = .ok (.putfield 27, 3) := by decide +kernel
theorem dX7_init_37 : decode cX7_init 37 = .ok (.aload_n 0, 1) := by decide +kernel
theorem dX7_init_38 : decode cX7_init 38 = .ok (.iconst 0, 1) := by decide +kernel
theorem dX7_init_39 : decode cX7_init 39 = .ok (.putfield 30, 3) := by decide +kernel
theorem dX7_init_42 : decode cX7_init 42 = .ok (.aload_n 0, 1) := by decide +kernel
theorem dX7_init_43 : decode cX7_init 43 = .ok (.iconst 0, 1) := by decide +kernel
theorem dX7_init_44 : decode cX7_init 44 = .ok (.putfield 33, 3) := by decide +kernel
theorem dX7_init_47 : decode cX7_init 47 = .ok (.aload_n 0, 1) := by decide +kernel
theorem dX7_init_48 : decode cX7_init 48 = .ok (.bipush 6, 2) := by decide +kernel
theorem dX7_init_50 : decode cX7_init 50 = .ok (.anewarray 36, 3) := by decide +kernel
theorem dX7_init_53 : decode cX7_init 53 = .ok (.putfield 38, 3) := by decide +kernel
theorem dX7_init_56 : decode cX7_init 56 = .ok (.aload_n 0, 1) := by decide +kernel
theorem dX7_init_57 : decode cX7_init 57 = .ok (.bipush 40, 2) := by decide +kernel
theorem dX7_init_59 : decode cX7_init 59 = .ok (.anewarray 42, 3) := by decide +kernel
theorem dX7_init_62 : decode cX7_init 62 = .ok (.putfield 44, 3) := by decide +kernel
theorem dX7_init_65 : decode cX7_init 65 = .ok (.aload_n 0, 1) := by decide +kernel
theorem dX7_init_66 : decode cX7_init 66 = .ok (.iconst 4, 1) := by decide +kernel
theorem dX7_init_67 : decode cX7_init 67 = .ok (.anewarray 48, 3) := by decide +kernel
theorem dX7_init_70 : decode cX7_init 70 = .ok (.putfield 50, 3) := by decide +kernel
theorem dX7_init_73 : decode cX7_init 73 = .ok (.aload_n 0, 1) := by decide +kernel
theorem dX7_init_74 : decode cX7_init 74 = .ok (.new 54, 3) := by decide +kernel
theorem dX7_init_77 : decode cX7_init 77 = .ok (.dup, 1) := by decide +kernel
theorem dX7_init_78 : decode cX7_init 78 = .ok (.invokespecial 56, 3) := by decide +kernel
theorem dX7_init_81 : decode cX7_init 81 = .ok (.putfield 57, 3) := by decide +kernel
theorem dX7_init_84 : decode cX7_init 84 = .ok (.aload_n 0, 1) := by decide +kernel
theorem dX7_init_85 : decode cX7_init 85 = .ok (.new 61, 3) := by decide +kernel
theorem dX7_init_88 : decode cX7_init 88 = .ok (.dup, 1) := by decide +kernel
theorem dX7_init_89 : decode cX7_init 89 = .ok (.invokespecial 63, 3) := by decide +kernel
theorem dX7_init_92 : decode cX7_init 92 = .ok (.putfield 64, 3) := by decide +kernel
theorem dX7_init_95 : decode cX7_init 95 = .ok (.aload_n 0, 1) := by decide +kernel
theorem dX7_init_96 : decode cX7_init 96 = .ok (.new 68, 3) := by decide +kernel
theorem dX7_init_99 : decode cX7_init 99 = .ok (.dup, 1) := by decide +kernel
theorem dX7_init_100 : decode cX7_init 100 = .ok (.invokespecial 70, 3) := by decide +kernel
theorem dX7_init_103 : decode cX7_init 103 = .ok (.putfield 71, 3) := by decide +kernel
theorem dX7_init_106 : decode cX7_init 106 = .ok (.iconst 0, 1) := by decide +kernel
theorem dX7_init_107 : decode cX7_init 107 = .ok (.istore_n 1, 1) := by decide +kernel
theorem dX7_init_108 : decode cX7_init 108 = .ok (.iload_n 1, 1) := by decide +kernel
theorem dX7_init_109 : decode cX7_init 109 = .ok (.bipush 6, 2) := by decide +kernel
theorem dX7_init_111 : decode cX7_init 111 = .ok (.if_icmp .ge 22, 3) := by decide +kernel
theorem dX7_init_114 : decode cX7_init 114 = .ok (.aload_n 0, 1) := by decide +kernel
theorem dX7_init_115 : decode cX7_init 115 = .ok (.getfield 38, 3) := by decide +kernel
theorem dX7_init_118 : decode cX7_init 118 = .ok (.iload_n 1, 1) := by decide +kernel
theorem dX7_init_119 : decode cX7_init 119 = .ok (.new 36, 3) := by decide +kernel
theorem dX7_init_122 : decode cX7_init 122 = .ok (.dup, 1) := by decide +kernel
theorem dX7_init_123 : decode cX7_init 123 = .ok (.invokespecial 75, 3) := by decide +kernel
theorem dX7_init_126 : decode cX7_init 126 = .ok (.aastore, 1) := by decide +kernel
theorem dX7_init_127 : decode cX7_init 127 = .ok (.iinc 1 1, 3) := by decide +kernel
theorem dX7_init_130 : decode cX7_init 130 = .ok (.goto (-22), 3) := by decide +kernel
theorem dX7_init_133 : decode cX7_init 133 = .ok (.iconst 0, 1) := by decide +kernel
theorem dX7_init_134 : decode cX7_init 134 = .ok (.istore_n 1, 1) := by decide +kernel
theorem dX7_init_135 : decode cX7_init 135 = .ok (.iload_n 1, 1) := by decide +kernel
theorem dX7_init_136 : decode cX7_init 136 = .ok (.bipush 40, 2) := by decide +kernel
theorem dX7_init_138 : decode cX7_init 138 = .ok (.if_icmp .ge 22, 3) := by decide +kernel
theorem dX7_init_141 : decode cX7_init 141 = .ok (.aload_n 0, 1) := by decide +kernel
theorem dX7_init_142 : decode cX7_init 142 = .ok (.getfield 44, 3) := by decide +kernel
theorem dX7_init_145 : decode cX7_init 145 = .ok (.iload_n 1, 1) := by decide +kernel
theorem dX7_init_146 : decode cX7_init 146 = .ok (.new 42, 3) := by decide +kernel
theorem dX7_init_149 : decode cX7_init 149 = .ok (.dup, 1) := by decide +kernel
theorem dX7_init_150 : decode cX7_init 150 = .ok (.invokespecial 76, 3) := by decide +kernel
theorem dX7_init_153 : decode cX7_init 153 = .ok (.aastore, 1) := by decide +kernel
theorem dX7_init_154 : decode cX7_init 154 = .ok (.iinc 1 1, 3) := by decide +kernel
theorem dX7_init_157 : decode cX7_init 157 = .ok (.goto (-22), 3) := by decide +kernel
theorem dX7_init_160 : decode cX7_init 160 = .ok (.iconst 0, 1) := by decide +kernel
theorem dX7_init_161 : decode cX7_init 161 = .ok (.istore_n 1, 1) := by decide +kernel
theorem dX7_init_162 : decode cX7_init 162 = .ok (.iload_n 1, 1) := by decide +kernel
theorem dX7_init_163 : decode cX7_init 163 = .ok (.iconst 4, 1) := by decide +kernel
theorem dX7_init_164 : decode cX7_init 164 = .ok (.if_icmp .ge 22, 3) := by decide +kernel
theorem dX7_init_167 : decode cX7_init 167 = .ok (.aload_n 0, 1) := by decide +kernel
theorem dX7_init_168 : decode cX7_init 168 = .ok (.getfield 50, 3) := by decide +kernel
theorem dX7_init_171 : decode cX7_init 171 = .ok (.iload_n 1, 1) := by decide +kernel
theorem dX7_init_172 : decode cX7_init 172 = .ok (.new 48, 3) := by decide +kernel
theorem dX7_init_175 : decode cX7_init 175 = .ok (.dup, 1) := by decide +kernel
theorem dX7_init_176 : decode cX7_init 176 = .ok (.invokespecial 77, 3) := by decide +kernel
theorem dX7_init_179 : decode cX7_init 179 = .ok (.aastore, 1) := by decide +kernel
theorem dX7_init_180 : decode cX7_init 180 = .ok (.iinc 1 1, 3) := by decide +kernel
theorem dX7_init_183 : decode cX7_init 183 = .ok (.goto (-21), 3) := by decide +kernel
theorem dX7_init_186 : decode cX7_init 186 = .ok (.return_, 1) := by decide +kernel
/-! X7_isFirm -/
theorem dX7_isFirm_0 : decode cX7_isFirm 0 = .ok (.iload_n 1, 1) := by decide +kernel
theorem dX7_isFirm_1 : decode cX7_isFirm 1 = .ok (.ifCond .lt 21, 3) := by decide +kernel
theorem dX7_isFirm_4 : decode cX7_isFirm 4 = .ok (.iload_n 1, 1) := by decide +kernel
theorem dX7_isFirm_5 : decode cX7_isFirm 5 = .ok (.bipush 40, 2) := by decide +kernel
theorem dX7_isFirm_7 : decode cX7_isFirm 7 = .ok (.if_icmp .ge 15, 3) := by decide +kernel
theorem dX7_isFirm_10 : decode cX7_isFirm 10 = .ok (.aload_n 0, 1) := by decide +kernel
theorem dX7_isFirm_11 : decode cX7_isFirm 11 = .ok (.getfield 44, 3) := by decide +kernel
theorem dX7_isFirm_14 : decode cX7_isFirm 14 = .ok (.iload_n 1, 1) := by decide +kernel
theorem dX7_isFirm_15 : decode cX7_isFirm 15 = .ok (.aaload, 1) := by decide +kernel
theorem dX7_isFirm_16 : decode cX7_isFirm 16 = .ok (.getfield 178, 3) := by decide +kernel
theorem dX7_isFirm_19 : decode cX7_isFirm 19 = .ok (.ifCond .eq 7, 3) := by decide +kernel
theorem dX7_isFirm_22 : decode cX7_isFirm 22 = .ok (.iconst 1, 1) := by decide +kernel
theorem dX7_isFirm_23 : decode cX7_isFirm 23 = .ok (.goto 4, 3) := by decide +kernel
theorem dX7_isFirm_26 : decode cX7_isFirm 26 = .ok (.iconst 0, 1) := by decide +kernel
theorem dX7_isFirm_27 : decode cX7_isFirm 27 = .ok (.ireturn, 1) := by decide +kernel
/-! X7_isForged -/
theorem dX7_isForged_0 : decode cX7_isForged 0 = .ok (.aload_n 0, 1) := by decide +kernel
theorem dX7_isForged_1 : decode cX7_isForged 1 = .ok (.iload_n 1, 1) := by decide +kernel
theorem dX7_isForged_2 : decode cX7_isForged 2 = .ok (.invokevirtual 188, 3) := by decide +kernel
theorem dX7_isForged_5 : decode cX7_isForged 5 = .ok (.ifnonnull 5, 3) := by decide +kernel
theorem dX7_isForged_8 : decode cX7_isForged 8 = .ok (.iconst 0, 1) := by decide +kernel
theorem dX7_isForged_9 : decode cX7_isForged 9 = .ok (.ireturn, 1) := by decide +kernel
theorem dX7_isForged_10 : decode cX7_isForged 10 = .ok (.aload_n 0, 1) := by decide +kernel
theorem dX7_isForged_11 : decode cX7_isForged 11 = .ok (.getfield 71, 3) := by decide +kernel
theorem dX7_isForged_14 : decode cX7_isForged 14 = .ok (.dup, 1) := by decide +kernel
theorem dX7_isForged_15 : decode cX7_isForged 15 = .ok (.getfield 227, 3) := by decide +kernel
theorem dX7_isForged_18 : decode cX7_isForged 18 = .ok (.iconst 1, 1) := by decide +kernel
theorem dX7_isForged_19 : decode cX7_isForged 19 = .ok (.iadd, 1) := by decide +kernel
theorem dX7_isForged_20 : decode cX7_isForged 20 = .ok (.putfield 227, 3) := by decide +kernel
theorem dX7_isForged_23 : decode cX7_isForged 23 = .ok (.aload_n 0, 1) := by decide +kernel
theorem dX7_isForged_24 : decode cX7_isForged 24 = .ok (.iload_n 1, 1) := by decide +kernel
theorem dX7_isForged_25 : decode cX7_isForged 25 = .ok (.iload_n 2, 1) := by decide +kernel
theorem dX7_isForged_26 : decode cX7_isForged 26 = .ok (.iload_n 3, 1) := by decide +kernel
theorem dX7_isForged_27 : decode cX7_isForged 27 = .ok (.iload 4, 2) := by decide +kernel
theorem dX7_isForged_29 : decode cX7_isForged 29 = .ok (.iload 5, 2) := by decide +kernel
theorem dX7_isForged_31 : decode cX7_isForged 31 = .ok (.invokevirtual 230, 3) := by decide +kernel
theorem dX7_isForged_34 : decode cX7_isForged 34 = .ok (.iconst 1, 1) := by decide +kernel
theorem dX7_isForged_35 : decode cX7_isForged 35 = .ok (.ireturn, 1) := by decide +kernel
/-! X7_isQuiet -/
theorem dX7_isQuiet_0 : decode cX7_isQuiet 0 = .ok (.aload_n 0, 1) := by decide +kernel
theorem dX7_isQuiet_1 : decode cX7_isQuiet 1 = .ok (.getfield 57, 3) := by decide +kernel
theorem dX7_isQuiet_4 : decode cX7_isQuiet 4 = .ok (.getfield 335, 3) := by decide +kernel
theorem dX7_isQuiet_7 : decode cX7_isQuiet 7 = .ok (.ifCond .ne 24, 3) := by decide +kernel
theorem dX7_isQuiet_10 : decode cX7_isQuiet 10 = .ok (.aload_n 0, 1) := by decide +kernel
theorem dX7_isQuiet_11 : decode cX7_isQuiet 11 = .ok (.getfield 64, 3) := by decide +kernel
theorem dX7_isQuiet_14 : decode cX7_isQuiet 14 = .ok (.getfield 315, 3) := by decide +kernel
theorem dX7_isQuiet_17 : decode cX7_isQuiet 17 = .ok (.ifCond .ne 14, 3) := by decide +kernel
theorem dX7_isQuiet_20 : decode cX7_isQuiet 20 = .ok (.aload_n 0, 1) := by decide +kernel
theorem dX7_isQuiet_21 : decode cX7_isQuiet 21 = .ok (.invokevirtual 336, 3) := by decide +kernel
theorem dX7_isQuiet_24 : decode cX7_isQuiet 24 = .ok (.ifCond .ne 7, 3) := by decide +kernel
theorem dX7_isQuiet_27 : decode cX7_isQuiet 27 = .ok (.iconst 1, 1) := by decide +kernel
theorem dX7_isQuiet_28 : decode cX7_isQuiet 28 = .ok (.goto 4, 3) := by decide +kernel
theorem dX7_isQuiet_31 : decode cX7_isQuiet 31 = .ok (.iconst 0, 1) := by decide +kernel
theorem dX7_isQuiet_32 : decode cX7_isQuiet 32 = .ok (.ireturn, 1) := by decide +kernel
/-! X7_linkAt -/
theorem dX7_linkAt_0 : decode cX7_linkAt 0 = .ok (.iload_n 1, 1) := by decide +kernel
theorem dX7_linkAt_1 : decode cX7_linkAt 1 = .ok (.ifCond .lt 26, 3) := by decide +kernel
theorem dX7_linkAt_4 : decode cX7_linkAt 4 = .ok (.iload_n 1, 1) := by decide +kernel
theorem dX7_linkAt_5 : decode cX7_linkAt 5 = .ok (.aload_n 0, 1) := by decide +kernel
theorem dX7_linkAt_6 : decode cX7_linkAt 6 = .ok (.getfield 30, 3) := by decide +kernel
theorem dX7_linkAt_9 : decode cX7_linkAt 9 = .ok (.if_icmp .ge 18, 3) := by decide +kernel
theorem dX7_linkAt_12 : decode cX7_linkAt 12 = .ok (.iload_n 1, 1) := by decide +kernel
theorem dX7_linkAt_13 : decode cX7_linkAt 13 = .ok (.bipush 6, 2) := by decide +kernel
theorem dX7_linkAt_15 : decode cX7_linkAt 15 = .ok (.if_icmp .ge 12, 3) := by decide +kernel
theorem dX7_linkAt_18 : decode cX7_linkAt 18 = .ok (.aload_n 0, 1) := by decide +kernel
theorem dX7_linkAt_19 : decode cX7_linkAt 19 = .ok (.getfield 38, 3) := by decide +kernel
theorem dX7_linkAt_22 : decode cX7_linkAt 22 = .ok (.iload_n 1, 1) := by decide +kernel
theorem dX7_linkAt_23 : decode cX7_linkAt 23 = .ok (.aaload, 1) := by decide +kernel
theorem dX7_linkAt_24 : decode cX7_linkAt 24 = .ok (.goto 4, 3) := by decide +kernel
theorem dX7_linkAt_27 : decode cX7_linkAt 27 = .ok (.aconst_null, 1) := by decide +kernel
theorem dX7_linkAt_28 : decode cX7_linkAt 28 = .ok (.areturn, 1) := by decide +kernel
/-! X7_moveDue -/
theorem dX7_moveDue_0 : decode cX7_moveDue 0 = .ok (.iconst 0, 1) := by decide +kernel
theorem dX7_moveDue_1 : decode cX7_moveDue 1 = .ok (.istore_n 2, 1) := by decide +kernel
theorem dX7_moveDue_2 : decode cX7_moveDue 2 = .ok (.iload_n 2, 1) := by decide +kernel
theorem dX7_moveDue_3 : decode cX7_moveDue 3 = .ok (.sipush 300, 3) := by decide +kernel
theorem dX7_moveDue_6 : decode cX7_moveDue 6 = .ok (.if_icmp .ge 178, 3) := by decide +kernel
theorem dX7_moveDue_9 : decode cX7_moveDue 9 = .ok (.aload_n 0, 1) := by decide +kernel
theorem dX7_moveDue_10 : decode cX7_moveDue 10 = .ok (.getfield 57, 3) := by decide +kernel
theorem dX7_moveDue_13 : decode cX7_moveDue 13 = .ok (.iload_n 1, 1) := by decide +kernel
theorem dX7_moveDue_14 : decode cX7_moveDue 14 = .ok (.aload_n 0, 1) := by decide +kernel
theorem dX7_moveDue_15 : decode cX7_moveDue 15 = .ok (.getfield 9, 3) := by decide +kernel
theorem dX7_moveDue_18 : decode cX7_moveDue 18 = .ok (.invokevirtual 303, 3) := by decide +kernel
theorem dX7_moveDue_21 : decode cX7_moveDue 21 = .ok (.istore_n 3, 1) := by decide +kernel
theorem dX7_moveDue_22 : decode cX7_moveDue 22 = .ok (.iload_n 3, 1) := by decide +kernel
theorem dX7_moveDue_23 : decode cX7_moveDue 23 = .ok (.iconst (-1), 1) := by decide +kernel
theorem dX7_moveDue_24 : decode cX7_moveDue 24 = .ok (.if_icmp .ne 4, 3) := by decide +kernel
theorem dX7_moveDue_27 : decode cX7_moveDue 27 = .ok (.return_, 1) := by decide +kernel
theorem dX7_moveDue_28 : decode cX7_moveDue 28 = .ok (.aload_n 0, 1) := by decide +kernel
theorem dX7_moveDue_29 : decode cX7_moveDue 29 = .ok (.getfield 57, 3) := by decide +kernel
theorem dX7_moveDue_32 : decode cX7_moveDue 32 = .ok (.getfield 181, 3) := by decide +kernel
theorem dX7_moveDue_35 : decode cX7_moveDue 35 = .ok (.iload_n 3, 1) := by decide +kernel
theorem dX7_moveDue_36 : decode cX7_moveDue 36 = .ok (.invokestatic 184, 3) := by decide +kernel
theorem dX7_moveDue_39 : decode cX7_moveDue 39 = .ok (.istore 4, 2) := by decide +kernel
theorem dX7_moveDue_41 : decode cX7_moveDue 41 = .ok (.aload_n 0, 1) := by decide +kernel
theorem dX7_moveDue_42 : decode cX7_moveDue 42 = .ok (.getfield 57, 3) := by decide +kernel
theorem dX7_moveDue_45 : decode cX7_moveDue 45 = .ok (.getfield 192, 3) := by decide +kernel
theorem dX7_moveDue_48 : decode cX7_moveDue 48 = .ok (.iload_n 3, 1) := by decide +kernel
theorem dX7_moveDue_49 : decode cX7_moveDue 49 = .ok (.invokestatic 184, 3) := by decide +kernel
theorem dX7_moveDue_52 : decode cX7_moveDue 52 = .ok (.istore 5, 2) := by decide +kernel
theorem dX7_moveDue_54 : decode cX7_moveDue 54 = .ok (.aload_n 0, 1) := by decide +kernel
theorem dX7_moveDue_55 : decode cX7_moveDue 55 = .ok (.getfield 57, 3) := by decide +kernel
theorem dX7_moveDue_58 : decode cX7_moveDue 58 = .ok (.getfield 195, 3) := by decide +kernel
theorem dX7_moveDue_61 : decode cX7_moveDue 61 = .ok (.iload_n 3, 1) := by decide +kernel
theorem dX7_moveDue_62 : decode cX7_moveDue 62 = .ok (.invokestatic 184, 3) := by decide +kernel
theorem dX7_moveDue_65 : decode cX7_moveDue 65 = .ok (.istore 6, 2) := by decide +kernel
theorem dX7_moveDue_67 : decode cX7_moveDue 67 = .ok (.aload_n 0, 1) := by decide +kernel
theorem dX7_moveDue_68 : decode cX7_moveDue 68 = .ok (.iload_n 3, 1) := by decide +kernel
theorem dX7_moveDue_69 : decode cX7_moveDue 69 = .ok (.invokevirtual 306, 3) := by decide +kernel
theorem dX7_moveDue_72 : decode cX7_moveDue 72 = .ok (.ifCond .ne 7, 3) := by decide +kernel
theorem dX7_moveDue_75 : decode cX7_moveDue 75 = .ok (.iconst 1, 1) := by decide +kernel
theorem dX7_moveDue_76 : decode cX7_moveDue 76 = .ok (.goto 4, 3) := by decide +kernel
theorem dX7_moveDue_79 : decode cX7_moveDue 79 = .ok (.iconst 0, 1) := by decide +kernel
theorem dX7_moveDue_80 : decode cX7_moveDue 80 = .ok (.istore 7, 2) := by decide +kernel
theorem dX7_moveDue_82 : decode cX7_moveDue 82 = .ok (.aload_n 0, 1) := by decide +kernel
theorem dX7_moveDue_83 : decode cX7_moveDue 83 = .ok (.getfield 57, 3) := by decide +kernel
theorem dX7_moveDue_86 : decode cX7_moveDue 86 = .ok (.iload_n 1, 1) := by decide +kernel
theorem dX7_moveDue_87 : decode cX7_moveDue 87 = .ok (.invokevirtual 309, 3) := by decide +kernel
theorem dX7_moveDue_90 : decode cX7_moveDue 90 = .ok (.aload_n 0, 1) := by decide +kernel
theorem dX7_moveDue_91 : decode cX7_moveDue 91 = .ok (.getfield 71, 3) := by decide +kernel
theorem dX7_moveDue_94 : decode cX7_moveDue 94 = .ok (.dup, 1) := by decide +kernel
theorem dX7_moveDue_95 : decode cX7_moveDue 95 = .ok (.getfield 312, 3) := by decide +kernel
theorem dX7_moveDue_98 : decode cX7_moveDue 98 = .ok (.iconst 1, 1) := by decide +kernel
theorem dX7_moveDue_99 : decode cX7_moveDue 99 = .ok (.iadd, 1) := by decide +kernel
theorem dX7_moveDue_100 : decode cX7_moveDue 100 = .ok (.putfield 312, 3) := by decide +kernel
theorem dX7_moveDue_103 : decode cX7_moveDue 103 = .ok (.iload_n 1, 1) := by decide +kernel
theorem dX7_moveDue_104 : decode cX7_moveDue 104 = .ok (.iconst 1, 1) := by decide +kernel
theorem dX7_moveDue_105 : decode cX7_moveDue 105 = .ok (.iadd, 1) := by decide +kernel
theorem dX7_moveDue_106 : decode cX7_moveDue 106 = .ok (.aload_n 0, 1) := by decide +kernel
theorem dX7_moveDue_107 : decode cX7_moveDue 107 = .ok (.getfield 30, 3) := by decide +kernel
theorem dX7_moveDue_110 : decode cX7_moveDue 110 = .ok (.if_icmp .ge 20, 3) := by decide +kernel
theorem dX7_moveDue_113 : decode cX7_moveDue 113 = .ok (.aload_n 0, 1) := by decide +kernel
theorem dX7_moveDue_114 : decode cX7_moveDue 114 = .ok (.iload_n 1, 1) := by decide +kernel
theorem dX7_moveDue_115 : decode cX7_moveDue 115 = .ok (.iconst 1, 1) := by decide +kernel
theorem dX7_moveDue_116 : decode cX7_moveDue 116 = .ok (.iadd, 1) := by decide +kernel
theorem dX7_moveDue_117 : decode cX7_moveDue 117 = .ok (.iload 4, 2) := by decide +kernel
theorem dX7_moveDue_119 : decode cX7_moveDue 119 = .ok (.iload 5, 2) := by decide +kernel
theorem dX7_moveDue_121 : decode cX7_moveDue 121 = .ok (.iload 6, 2) := by decide +kernel
theorem dX7_moveDue_123 : decode cX7_moveDue 123 = .ok (.invokevirtual 207, 3) := by decide +kernel
theorem dX7_moveDue_126 : decode cX7_moveDue 126 = .ok (.pop, 1) := by decide +kernel
theorem dX7_moveDue_127 : decode cX7_moveDue 127 = .ok (.goto 51, 3) := by decide +kernel
theorem dX7_moveDue_130 : decode cX7_moveDue 130 = .ok (.iload 4, 2) := by decide +kernel
theorem dX7_moveDue_132 : decode cX7_moveDue 132 = .ok (.iconst (-1), 1) := by decide +kernel
theorem dX7_moveDue_133 : decode cX7_moveDue 133 = .ok (.if_icmp .ne 29, 3) := by decide +kernel
theorem dX7_moveDue_136 : decode cX7_moveDue 136 = .ok (.aload_n 0, 1) := by decide +kernel
theorem dX7_moveDue_137 : decode cX7_moveDue 137 = .ok (.getfield 64, 3) := by decide +kernel
theorem dX7_moveDue_140 : decode cX7_moveDue 140 = .ok (.aload_n 0, 1) := by decide +kernel
theorem dX7_moveDue_141 : decode cX7_moveDue 141 = .ok (.getfield 9, 3) := by decide +kernel
theorem dX7_moveDue_144 : decode cX7_moveDue 144 = .ok (.aload_n 0, 1) := by decide +kernel
theorem dX7_moveDue_145 : decode cX7_moveDue 145 = .ok (.aload_n 0, 1) := by decide +kernel
theorem dX7_moveDue_146 : decode cX7_moveDue 146 = .ok (.getfield 30, 3) := by decide +kernel
theorem dX7_moveDue_149 : decode cX7_moveDue 149 = .ok (.invokevirtual 127, 3) := by decide +kernel
theorem dX7_moveDue_152 : decode cX7_moveDue 152 = .ok (.iadd, 1) := by decide +kernel
theorem dX7_moveDue_153 : decode cX7_moveDue 153 = .ok (.iconst (-1), 1) := by decide +kernel
theorem dX7_moveDue_154 : decode cX7_moveDue 154 = .ok (.iload 6, 2) := by decide +kernel
theorem dX7_moveDue_156 : decode cX7_moveDue 156 = .ok (.invokevirtual 135, 3) := by decide +kernel
theorem dX7_moveDue_159 : decode cX7_moveDue 159 = .ok (.goto 19, 3) := by decide +kernel
theorem dX7_moveDue_162 : decode cX7_moveDue 162 = .ok (.aload_n 0, 1) := by decide +kernel
theorem dX7_moveDue_163 : decode cX7_moveDue 163 = .ok (.iload 4, 2) := by decide +kernel
theorem dX7_moveDue_165 : decode cX7_moveDue 165 = .ok (.iload 5, 2) := by decide +kernel
theorem dX7_moveDue_167 : decode cX7_moveDue 167 = .ok (.iload 6, 2) := by decide +kernel
theorem dX7_moveDue_169 : decode cX7_moveDue 169 = .ok (.bipush 20, 2) := by decide +kernel
theorem dX7_moveDue_171 : decode cX7_moveDue 171 = .ok (.isub, 1) := by decide +kernel
theorem dX7_moveDue_172 : decode cX7_moveDue 172 = .ok (.iconst (-1), 1) := by decide +kernel
theorem dX7_moveDue_173 : decode cX7_moveDue 173 = .ok (.iload 7, 2) := by decide +kernel
theorem dX7_moveDue_175 : decode cX7_moveDue 175 = .ok (.invokevirtual 230, 3) := by decide +kernel
theorem dX7_moveDue_178 : decode cX7_moveDue 178 = .ok (.iinc 2 1, 3) := by decide +kernel
theorem dX7_moveDue_181 : decode cX7_moveDue 181 = .ok (.goto (-179), 3) := by decide +kernel
theorem dX7_moveDue_184 : decode cX7_moveDue 184 = .ok (.return_, 1) := by decide +kernel
/-! X7_noteComes -/
theorem dX7_noteComes_0 : decode cX7_noteComes 0 = .ok (.aload_n 0, 1) := by decide +kernel
theorem dX7_noteComes_1 : decode cX7_noteComes 1 = .ok (.getfield 71, 3) := by decide +kernel
theorem dX7_noteComes_4 : decode cX7_noteComes 4 = .ok (.dup, 1) := by decide +kernel
theorem dX7_noteComes_5 : decode cX7_noteComes 5 = .ok (.getfield 213, 3) := by decide +kernel
theorem dX7_noteComes_8 : decode cX7_noteComes 8 = .ok (.iconst 1, 1) := by decide +kernel
theorem dX7_noteComes_9 : decode cX7_noteComes 9 = .ok (.iadd, 1) := by decide +kernel
theorem dX7_noteComes_10 : decode cX7_noteComes 10 = .ok (.putfield 213, 3) := by decide +kernel
theorem dX7_noteComes_13 : decode cX7_noteComes 13 = .ok (.iload_n 1, 1) := by decide +kernel
theorem dX7_noteComes_14 : decode cX7_noteComes 14 = .ok (.aload_n 0, 1) := by decide +kernel
theorem dX7_noteComes_15 : decode cX7_noteComes 15 = .ok (.getfield 21, 3) := by decide +kernel
theorem dX7_noteComes_18 : decode cX7_noteComes 18 = .ok (.if_icmp .ge 7, 3) := by decide +kernel
theorem dX7_noteComes_21 : decode cX7_noteComes 21 = .ok (.iconst 1, 1) := by decide +kernel
theorem dX7_noteComes_22 : decode cX7_noteComes 22 = .ok (.goto 4, 3) := by decide +kernel
theorem dX7_noteComes_25 : decode cX7_noteComes 25 = .ok (.iconst 0, 1) := by decide +kernel
theorem dX7_noteComes_26 : decode cX7_noteComes 26 = .ok (.istore_n 3, 1) := by decide +kernel
theorem dX7_noteComes_27 : decode cX7_noteComes 27 = .ok (.iload_n 3, 1) := by decide +kernel
theorem dX7_noteComes_28 : decode cX7_noteComes 28 = .ok (.ifCond .eq 8, 3) := by decide +kernel
theorem dX7_noteComes_31 : decode cX7_noteComes 31 = .ok (.aload_n 0, 1) := by decide +kernel
theorem dX7_noteComes_32 : decode cX7_noteComes 32 = .ok (.iload_n 1, 1) := by decide +kernel
theorem dX7_noteComes_33 : decode cX7_noteComes 33 = .ok (.putfield 21, 3) := by decide +kernel
theorem dX7_noteComes_36 : decode cX7_noteComes 36 = .ok (.iload_n 2, 1) := by decide +kernel
theorem dX7_noteComes_37 : decode cX7_noteComes 37 = .ok (.ifCond .ge 28, 3) := by decide +kernel
theorem dX7_noteComes_40 : decode cX7_noteComes 40 = .ok (.aload_n 0, 1) := by decide +kernel
theorem dX7_noteComes_41 : decode cX7_noteComes 41 = .ok (.getfield 27, 3) := by decide +kernel
theorem dX7_noteComes_44 : decode cX7_noteComes 44 = .ok (.iconst (-1), 1) := by decide +kernel
theorem dX7_noteComes_45 : decode cX7_noteComes 45 = .ok (.if_icmp .eq 12, 3) := by decide +kernel
theorem dX7_noteComes_48 : decode cX7_noteComes 48 = .ok (.aload_n 0, 1) := by decide +kernel
theorem dX7_noteComes_49 : decode cX7_noteComes 49 = .ok (.getfield 27, 3) := by decide +kernel
theorem dX7_noteComes_52 : decode cX7_noteComes 52 = .ok (.iload_n 2, 1) := by decide +kernel
theorem dX7_noteComes_53 : decode cX7_noteComes 53 = .ok (.ineg, 1) := by decide +kernel
theorem dX7_noteComes_54 : decode cX7_noteComes 54 = .ok (.if_icmp .le 9, 3) := by decide +kernel
theorem dX7_noteComes_57 : decode cX7_noteComes 57 = .ok (.aload_n 0, 1) := by decide +kernel
theorem dX7_noteComes_58 : decode cX7_noteComes 58 = .ok (.iload_n 2, 1) := by decide +kernel
theorem dX7_noteComes_59 : decode cX7_noteComes 59 = .ok (.ineg, 1) := by decide +kernel
theorem dX7_noteComes_60 : decode cX7_noteComes 60 = .ok (.putfield 27, 3) := by decide +kernel
theorem dX7_noteComes_63 : decode cX7_noteComes 63 = .ok (.iconst 0, 1) := by decide +kernel
theorem dX7_noteComes_64 : decode cX7_noteComes 64 = .ok (.ireturn, 1) := by decide +kernel
theorem dX7_noteComes_65 : decode cX7_noteComes 65 = .ok (.iload_n 3, 1) := by decide +kernel
theorem dX7_noteComes_66 : decode cX7_noteComes 66 = .ok (.ifCond .eq 9, 3) := by decide +kernel
theorem dX7_noteComes_69 : decode cX7_noteComes 69 = .ok (.iload_n 2, 1) := by decide +kernel
theorem dX7_noteComes_70 : decode cX7_noteComes 70 = .ok (.bipush 40, 2) := by decide +kernel
theorem dX7_noteComes_72 : decode cX7_noteComes 72 = .ok (.if_icmp .lt 5, 3) := by decide +kernel
theorem dX7_noteComes_75 : decode cX7_noteComes 75 = .ok (.iconst 0, 1) := by decide +kernel
theorem dX7_noteComes_76 : decode cX7_noteComes 76 = .ok (.ireturn, 1) := by decide +kernel
theorem dX7_noteComes_77 : decode cX7_noteComes 77 = .ok (.aload_n 0, 1) := by decide +kernel
theorem dX7_noteComes_78 : decode cX7_noteComes 78 = .ok (.getfield 44, 3) := by decide +kernel
theorem dX7_noteComes_81 : decode cX7_noteComes 81 = .ok (.iload_n 2, 1) := by decide +kernel
theorem dX7_noteComes_82 : decode cX7_noteComes 82 = .ok (.aaload, 1) := by decide +kernel
theorem dX7_noteComes_83 : decode cX7_noteComes 83 = .ok (.astore 4, 2) := by decide +kernel
theorem dX7_noteComes_85 : decode cX7_noteComes 85 = .ok (.aload 4, 2) := by decide +kernel
theorem dX7_noteComes_87 : decode cX7_noteComes 87 = .ok (.getfield 210, 3) := by decide +kernel
theorem dX7_noteComes_90 : decode cX7_noteComes 90 = .ok (.iconst 3, 1) := by decide +kernel
theorem dX7_noteComes_91 : decode cX7_noteComes 91 = .ok (.if_icmp .ge 15, 3) := by decide +kernel
theorem dX7_noteComes_94 : decode cX7_noteComes 94 = .ok (.aload 4, 2) := by decide +kernel
theorem dX7_noteComes_96 : decode cX7_noteComes 96 = .ok (.getfield 216, 3) := by decide +kernel
theorem dX7_noteComes_99 : decode cX7_noteComes 99 = .ok (.ifCond .ne 7, 3) := by decide +kernel
theorem dX7_noteComes_102 : decode cX7_noteComes 102 = .ok (.iconst 1, 1) := by decide +kernel
theorem dX7_noteComes_103 : decode cX7_noteComes 103 = .ok (.goto 4, 3) := by decide +kernel
theorem dX7_noteComes_106 : decode cX7_noteComes 106 = .ok (.iconst 0, 1) := by decide +kernel
theorem dX7_noteComes_107 : decode cX7_noteComes 107 = .ok (.ireturn, 1) := by decide +kernel
/-! X7_put -/
theorem dX7_put_0 : decode cX7_put 0 = .ok (.aload_n 0, 1) := by decide +kernel
theorem dX7_put_1 : decode cX7_put 1 = .ok (.iload_n 1, 1) := by decide +kernel
theorem dX7_put_2 : decode cX7_put 2 = .ok (.invokevirtual 112, 3) := by decide +kernel
theorem dX7_put_5 : decode cX7_put 5 = .ok (.astore 5, 2) := by decide +kernel
theorem dX7_put_7 : decode cX7_put 7 = .ok (.aload 5, 2) := by decide +kernel
theorem dX7_put_9 : decode cX7_put 9 = .ok (.ifnonnull 5, 3) := by decide +kernel
theorem dX7_put_12 : decode cX7_put 12 = .ok (.iconst 0, 1) := by decide +kernel
theorem dX7_put_13 : decode cX7_put 13 = .ok (.ireturn, 1) := by decide +kernel
theorem dX7_put_14 : decode cX7_put 14 = .ok (.iload 4, 2) := by decide +kernel
theorem dX7_put_16 : decode cX7_put 16 = .ok (.aload 5, 2) := by decide +kernel
theorem dX7_put_18 : decode cX7_put 18 = .ok (.getfield 116, 3) := by decide +kernel
theorem dX7_put_21 : decode cX7_put 21 = .ok (.if_icmp .le 96, 3) := by decide +kernel
theorem dX7_put_24 : decode cX7_put 24 = .ok (.aload_n 0, 1) := by decide +kernel
theorem dX7_put_25 : decode cX7_put 25 = .ok (.iload_n 2, 1) := by decide +kernel
theorem dX7_put_26 : decode cX7_put 26 = .ok (.invokevirtual 119, 3) := by decide +kernel
theorem dX7_put_29 : decode cX7_put 29 = .ok (.ifCond .eq 88, 3) := by decide +kernel
theorem dX7_put_32 : decode cX7_put 32 = .ok (.aload 5, 2) := by decide +kernel
theorem dX7_put_34 : decode cX7_put 34 = .ok (.dup, 1) := by decide +kernel
theorem dX7_put_35 : decode cX7_put 35 = .ok (.getfield 123, 3) := by decide +kernel
theorem dX7_put_38 : decode cX7_put 38 = .ok (.iconst 1, 1) := by decide +kernel
theorem dX7_put_39 : decode cX7_put 39 = .ok (.iadd, 1) := by decide +kernel
theorem dX7_put_40 : decode cX7_put 40 = .ok (.putfield 123, 3) := by decide +kernel
theorem dX7_put_43 : decode cX7_put 43 = .ok (.aload_n 0, 1) := by decide +kernel
theorem dX7_put_44 : decode cX7_put 44 = .ok (.getfield 71, 3) := by decide +kernel
theorem dX7_put_47 : decode cX7_put 47 = .ok (.dup, 1) := by decide +kernel
theorem dX7_put_48 : decode cX7_put 48 = .ok (.getfield 126, 3) := by decide +kernel
theorem dX7_put_51 : decode cX7_put 51 = .ok (.iconst 1, 1) := by decide +kernel
theorem dX7_put_52 : decode cX7_put 52 = .ok (.iadd, 1) := by decide +kernel
theorem dX7_put_53 : decode cX7_put 53 = .ok (.putfield 126, 3) := by decide +kernel
theorem dX7_put_56 : decode cX7_put 56 = .ok (.aload_n 0, 1) := by decide +kernel
theorem dX7_put_57 : decode cX7_put 57 = .ok (.iload_n 1, 1) := by decide +kernel
theorem dX7_put_58 : decode cX7_put 58 = .ok (.invokevirtual 127, 3) := by decide +kernel
theorem dX7_put_61 : decode cX7_put 61 = .ok (.istore 6, 2) := by decide +kernel
theorem dX7_put_63 : decode cX7_put 63 = .ok (.iload_n 2, 1) := by decide +kernel
theorem dX7_put_64 : decode cX7_put 64 = .ok (.iconst (-1), 1) := by decide +kernel
theorem dX7_put_65 : decode cX7_put 65 = .ok (.if_icmp .ne 9, 3) := by decide +kernel
theorem dX7_put_68 : decode cX7_put 68 = .ok (.iload 4, 2) := by decide +kernel
theorem dX7_put_70 : decode cX7_put 70 = .ok (.ineg, 1) := by decide +kernel
theorem dX7_put_71 : decode cX7_put 71 = .ok (.goto 4, 3) := by decide +kernel
theorem dX7_put_74 : decode cX7_put 74 = .ok (.iload_n 2, 1) := by decide +kernel
theorem dX7_put_75 : decode cX7_put 75 = .ok (.istore 7, 2) := by decide +kernel
theorem dX7_put_77 : decode cX7_put 77 = .ok (.iload 6, 2) := by decide +kernel
theorem dX7_put_79 : decode cX7_put 79 = .ok (.ifCond .ne 15, 3) := by decide +kernel
theorem dX7_put_82 : decode cX7_put 82 = .ok (.aload_n 0, 1) := by decide +kernel
theorem dX7_put_83 : decode cX7_put 83 = .ok (.aload 5, 2) := by decide +kernel
theorem dX7_put_85 : decode cX7_put 85 = .ok (.getfield 116, 3) := by decide +kernel
theorem dX7_put_88 : decode cX7_put 88 = .ok (.iload 7, 2) := by decide +kernel
theorem dX7_put_90 : decode cX7_put 90 = .ok (.invokevirtual 131, 3) := by decide +kernel
theorem dX7_put_93 : decode cX7_put 93 = .ok (.ireturn, 1) := by decide +kernel
theorem dX7_put_94 : decode cX7_put 94 = .ok (.aload_n 0, 1) := by decide +kernel
theorem dX7_put_95 : decode cX7_put 95 = .ok (.getfield 64, 3) := by decide +kernel
theorem dX7_put_98 : decode cX7_put 98 = .ok (.aload_n 0, 1) := by decide +kernel
theorem dX7_put_99 : decode cX7_put 99 = .ok (.getfield 9, 3) := by decide +kernel
theorem dX7_put_102 : decode cX7_put 102 = .ok (.iload 6, 2) := by decide +kernel
theorem dX7_put_104 : decode cX7_put 104 = .ok (.iadd, 1) := by decide +kernel
theorem dX7_put_105 : decode cX7_put 105 = .ok (.aload 5, 2) := by decide +kernel
theorem dX7_put_107 : decode cX7_put 107 = .ok (.getfield 116, 3) := by decide +kernel
theorem dX7_put_110 : decode cX7_put 110 = .ok (.iload 7, 2) := by decide +kernel
theorem dX7_put_112 : decode cX7_put 112 = .ok (.invokevirtual 135, 3) := by decide +kernel
theorem dX7_put_115 : decode cX7_put 115 = .ok (.iconst 0, 1) := by decide +kernel
theorem dX7_put_116 : decode cX7_put 116 = .ok (.ireturn, 1) := by decide +kernel
theorem dX7_put_117 : decode cX7_put 117 = .ok (.iload 4, 2) := by decide +kernel
theorem dX7_put_119 : decode cX7_put 119 = .ok (.bipush 20, 2) := by decide +kernel
theorem dX7_put_121 : decode cX7_put 121 = .ok (.isub, 1) := by decide +kernel
theorem dX7_put_122 : decode cX7_put 122 = .ok (.aload 5, 2) := by decide +kernel
theorem dX7_put_124 : decode cX7_put 124 = .ok (.getfield 116, 3) := by decide +kernel
theorem dX7_put_127 : decode cX7_put 127 = .ok (.invokestatic 138, 3) := by decide +kernel
theorem dX7_put_130 : decode cX7_put 130 = .ok (.istore 6, 2) := by decide +kernel
theorem dX7_put_132 : decode cX7_put 132 = .ok (.aload 5, 2) := by decide +kernel
theorem dX7_put_134 : decode cX7_put 134 = .ok (.getfield 116, 3) := by decide +kernel
theorem dX7_put_137 : decode cX7_put 137 = .ok (.invokestatic 142, 3) := by decide +kernel
theorem dX7_put_140 : decode cX7_put 140 = .ok (.istore 7, 2) := by decide +kernel
theorem dX7_put_142 : decode cX7_put 142 = .ok (.iload 6, 2) := by decide +kernel
theorem dX7_put_144 : decode cX7_put 144 = .ok (.ifCond .le 27, 3) := by decide +kernel
theorem dX7_put_147 : decode cX7_put 147 = .ok (.aload 5, 2) := by decide +kernel
theorem dX7_put_149 : decode cX7_put 149 = .ok (.dup, 1) := by decide +kernel
theorem dX7_put_150 : decode cX7_put 150 = .ok (.getfield 145, 3) := by decide +kernel
theorem dX7_put_153 : decode cX7_put 153 = .ok (.iconst 1, 1) := by decide +kernel
theorem dX7_put_154 : decode cX7_put 154 = .ok (.iadd, 1) := by decide +kernel
theorem dX7_put_155 : decode cX7_put 155 = .ok (.putfield 145, 3) := by decide +kernel
theorem dX7_put_158 : decode cX7_put 158 = .ok (.aload_n 0, 1) := by decide +kernel
theorem dX7_put_159 : decode cX7_put 159 = .ok (.getfield 71, 3) := by decide +kernel
theorem dX7_put_162 : decode cX7_put 162 = .ok (.dup, 1) := by decide +kernel
theorem dX7_put_163 : decode cX7_put 163 = .ok (.getfield 148, 3) := by decide +kernel
theorem dX7_put_166 : decode cX7_put 166 = .ok (.iconst 1, 1) := by decide +kernel
theorem dX7_put_167 : decode cX7_put 167 = .ok (.iadd, 1) := by decide +kernel
theorem dX7_put_168 : decode cX7_put 168 = .ok (.putfield 148, 3) := by decide +kernel
theorem dX7_put_171 : decode cX7_put 171 = .ok (.iconst 0, 1) := by decide +kernel
theorem dX7_put_172 : decode cX7_put 172 = .ok (.istore 8, 2) := by decide +kernel
theorem dX7_put_174 : decode cX7_put 174 = .ok (.iload 8, 2) := by decide +kernel
theorem dX7_put_176 : decode cX7_put 176 = .ok (.iload 6, 2) := by decide +kernel
theorem dX7_put_178 : decode cX7_put 178 = .ok (.if_icmp .ge 27, 3) := by decide +kernel
theorem dX7_put_181 : decode cX7_put 181 = .ok (.aload_n 0, 1) := by decide +kernel
theorem dX7_put_182 : decode cX7_put 182 = .ok (.iload_n 1, 1) := by decide +kernel
theorem dX7_put_183 : decode cX7_put 183 = .ok (.iload_n 2, 1) := by decide +kernel
theorem dX7_put_184 : decode cX7_put 184 = .ok (.iload_n 3, 1) := by decide +kernel
theorem dX7_put_185 : decode cX7_put 185 = .ok (.iload 8, 2) := by decide +kernel
theorem dX7_put_187 : decode cX7_put 187 = .ok (.iload 7, 2) := by decide +kernel
theorem dX7_put_189 : decode cX7_put 189 = .ok (.imul, 1) := by decide +kernel
theorem dX7_put_190 : decode cX7_put 190 = .ok (.iadd, 1) := by decide +kernel
theorem dX7_put_191 : decode cX7_put 191 = .ok (.iload 7, 2) := by decide +kernel
theorem dX7_put_193 : decode cX7_put 193 = .ok (.bipush 20, 2) := by decide +kernel
theorem dX7_put_195 : decode cX7_put 195 = .ok (.iadd, 1) := by decide +kernel
theorem dX7_put_196 : decode cX7_put 196 = .ok (.invokevirtual 149, 3) := by decide +kernel
theorem dX7_put_199 : decode cX7_put 199 = .ok (.iinc 8 1, 3) := by decide +kernel
theorem dX7_put_202 : decode cX7_put 202 = .ok (.goto (-28), 3) := by decide +kernel
theorem dX7_put_205 : decode cX7_put 205 = .ok (.aload_n 0, 1) := by decide +kernel
theorem dX7_put_206 : decode cX7_put 206 = .ok (.iload_n 1, 1) := by decide +kernel
theorem dX7_put_207 : decode cX7_put 207 = .ok (.iload_n 2, 1) := by decide +kernel
theorem dX7_put_208 : decode cX7_put 208 = .ok (.iload 6, 2) := by decide +kernel
theorem dX7_put_210 : decode cX7_put 210 = .ok (.ifCond .le 13, 3) := by decide +kernel
theorem dX7_put_213 : decode cX7_put 213 = .ok (.iload_n 3, 1) := by decide +kernel
theorem dX7_put_214 : decode cX7_put 214 = .ok (.iload 6, 2) := by decide +kernel
theorem dX7_put_216 : decode cX7_put 216 = .ok (.iload 7, 2) := by decide +kernel
theorem dX7_put_218 : decode cX7_put 218 = .ok (.imul, 1) := by decide +kernel
theorem dX7_put_219 : decode cX7_put 219 = .ok (.iadd, 1) := by decide +kernel
theorem dX7_put_220 : decode cX7_put 220 = .ok (.goto 4, 3) := by decide +kernel
theorem dX7_put_223 : decode cX7_put 223 = .ok (.iload_n 3, 1) := by decide +kernel
theorem dX7_put_224 : decode cX7_put 224 = .ok (.iload 4, 2) := by decide +kernel
theorem dX7_put_226 : decode cX7_put 226 = .ok (.iload 6, 2) := by decide +kernel
theorem dX7_put_228 : decode cX7_put 228 = .ok (.iload 7, 2) := by decide +kernel
theorem dX7_put_230 : decode cX7_put 230 = .ok (.imul, 1) := by decide +kernel
theorem dX7_put_231 : decode cX7_put 231 = .ok (.isub, 1) := by decide +kernel
theorem dX7_put_232 : decode cX7_put 232 = .ok (.invokevirtual 149, 3) := by decide +kernel
theorem dX7_put_235 : decode cX7_put 235 = .ok (.iconst 0, 1) := by decide +kernel
theorem dX7_put_236 : decode cX7_put 236 = .ok (.ireturn, 1) := by decide +kernel
/-! X7_receive -/
theorem dX7_receive_0 : decode cX7_receive 0 = .ok (.aload_n 0, 1) := by decide +kernel
theorem dX7_receive_1 : decode cX7_receive 1 = .ok (.getfield 71, 3) := by decide +kernel
theorem dX7_receive_4 : decode cX7_receive 4 = .ok (.dup, 1) := by decide +kernel
theorem dX7_receive_5 : decode cX7_receive 5 = .ok (.getfield 234, 3) := by decide +kernel
theorem dX7_receive_8 : decode cX7_receive 8 = .ok (.iconst 1, 1) := by decide +kernel
theorem dX7_receive_9 : decode cX7_receive 9 = .ok (.iadd, 1) := by decide +kernel
theorem dX7_receive_10 : decode cX7_receive 10 = .ok (.putfield 234, 3) := by decide +kernel
theorem dX7_receive_13 : decode cX7_receive 13 = .ok (.aload_n 0, 1) := by decide +kernel
theorem dX7_receive_14 : decode cX7_receive 14 = .ok (.iload_n 1, 1) := by decide +kernel
theorem dX7_receive_15 : decode cX7_receive 15 = .ok (.invokevirtual 188, 3) := by decide +kernel
theorem dX7_receive_18 : decode cX7_receive 18 = .ok (.astore 6, 2) := by decide +kernel
theorem dX7_receive_20 : decode cX7_receive 20 = .ok (.aload 6, 2) := by decide +kernel
theorem dX7_receive_22 : decode cX7_receive 22 = .ok (.ifnull 11, 3) := by decide +kernel
theorem dX7_receive_25 : decode cX7_receive 25 = .ok (.aload 6, 2) := by decide +kernel
theorem dX7_receive_27 : decode cX7_receive 27 = .ok (.getfield 216, 3) := by decide +kernel
theorem dX7_receive_30 : decode cX7_receive 30 = .ok (.ifCond .eq 17, 3) := by decide +kernel
theorem dX7_receive_33 : decode cX7_receive 33 = .ok (.aload_n 0, 1) := by decide +kernel
theorem dX7_receive_34 : decode cX7_receive 34 = .ok (.getfield 71, 3) := by decide +kernel
theorem dX7_receive_37 : decode cX7_receive 37 = .ok (.dup, 1) := by decide +kernel
theorem dX7_receive_38 : decode cX7_receive 38 = .ok (.getfield 237, 3) := by decide +kernel
theorem dX7_receive_41 : decode cX7_receive 41 = .ok (.iconst 1, 1) := by decide +kernel
theorem dX7_receive_42 : decode cX7_receive 42 = .ok (.iadd, 1) := by decide +kernel
theorem dX7_receive_43 : decode cX7_receive 43 = .ok (.putfield 237, 3) := by decide +kernel
theorem dX7_receive_46 : decode cX7_receive 46 = .ok (.return_, 1) := by decide +kernel
theorem dX7_receive_47 : decode cX7_receive 47 = .ok (.aload_n 0, 1) := by decide +kernel
theorem dX7_receive_48 : decode cX7_receive 48 = .ok (.iload_n 1, 1) := by decide +kernel
theorem dX7_receive_49 : decode cX7_receive 49 = .ok (.invokevirtual 240, 3) := by decide +kernel
theorem dX7_receive_52 : decode cX7_receive 52 = .ok (.astore 7, 2) := by decide +kernel
theorem dX7_receive_54 : decode cX7_receive 54 = .ok (.aload 7, 2) := by decide +kernel
theorem dX7_receive_56 : decode cX7_receive 56 = .ok (.dup, 1) := by decide +kernel
theorem dX7_receive_57 : decode cX7_receive 57 = .ok (.getfield 244, 3) := by decide +kernel
theorem dX7_receive_60 : decode cX7_receive 60 = .ok (.iconst 1, 1) := by decide +kernel
theorem dX7_receive_61 : decode cX7_receive 61 = .ok (.iadd, 1) := by decide +kernel
theorem dX7_receive_62 : decode cX7_receive 62 = .ok (.putfield 244, 3) := by decide +kernel
theorem dX7_receive_65 : decode cX7_receive 65 = .ok (.iload_n 2, 1) := by decide +kernel
theorem dX7_receive_66 : decode cX7_receive 66 = .ok (.iload_n 3, 1) := by decide +kernel
theorem dX7_receive_67 : decode cX7_receive 67 = .ok (.iadd, 1) := by decide +kernel
theorem dX7_receive_68 : decode cX7_receive 68 = .ok (.istore 8, 2) := by decide +kernel
theorem dX7_receive_70 : decode cX7_receive 70 = .ok (.aload 7, 2) := by decide +kernel
theorem dX7_receive_72 : decode cX7_receive 72 = .ok (.iload 8, 2) := by decide +kernel
theorem dX7_receive_74 : decode cX7_receive 74 = .ok (.iload 5, 2) := by decide +kernel
theorem dX7_receive_76 : decode cX7_receive 76 = .ok (.invokevirtual 245, 3) := by decide +kernel
theorem dX7_receive_79 : decode cX7_receive 79 = .ok (.ifCond .eq 11, 3) := by decide +kernel
theorem dX7_receive_82 : decode cX7_receive 82 = .ok (.aload_n 0, 1) := by decide +kernel
theorem dX7_receive_83 : decode cX7_receive 83 = .ok (.aload 7, 2) := by decide +kernel
theorem dX7_receive_85 : decode cX7_receive 85 = .ok (.iconst 3, 1) := by decide +kernel
theorem dX7_receive_86 : decode cX7_receive 86 = .ok (.invokevirtual 249, 3) := by decide +kernel
theorem dX7_receive_89 : decode cX7_receive 89 = .ok (.return_, 1) := by decide +kernel
theorem dX7_receive_90 : decode cX7_receive 90 = .ok (.iload 5, 2) := by decide +kernel
theorem dX7_receive_92 : decode cX7_receive 92 = .ok (.ifCond .eq 10, 3) := by decide +kernel
theorem dX7_receive_95 : decode cX7_receive 95 = .ok (.aload 7, 2) := by decide +kernel
theorem dX7_receive_97 : decode cX7_receive 97 = .ok (.iload 8, 2) := by decide +kernel
theorem dX7_receive_99 : decode cX7_receive 99 = .ok (.putfield 253, 3) := by decide +kernel
theorem dX7_receive_102 : decode cX7_receive 102 = .ok (.aload 7, 2) := by decide +kernel
theorem dX7_receive_104 : decode cX7_receive 104 = .ok (.getfield 256, 3) := by decide +kernel
theorem dX7_receive_107 : decode cX7_receive 107 = .ok (.istore 9, 2) := by decide +kernel
theorem dX7_receive_109 : decode cX7_receive 109 = .ok (.aload 7, 2) := by decide +kernel
theorem dX7_receive_111 : decode cX7_receive 111 = .ok (.aload 6, 2) := by decide +kernel
theorem dX7_receive_113 : decode cX7_receive 113 = .ok (.iload_n 2, 1) := by decide +kernel
theorem dX7_receive_114 : decode cX7_receive 114 = .ok (.iload 8, 2) := by decide +kernel
theorem dX7_receive_116 : decode cX7_receive 116 = .ok (.iload 4, 2) := by decide +kernel
theorem dX7_receive_118 : decode cX7_receive 118 = .ok (.aload_n 0, 1) := by decide +kernel
theorem dX7_receive_119 : decode cX7_receive 119 = .ok (.getfield 18, 3) := by decide +kernel
theorem dX7_receive_122 : decode cX7_receive 122 = .ok (.iconst 1, 1) := by decide +kernel
theorem dX7_receive_123 : decode cX7_receive 123 = .ok (.if_icmp .ne 7, 3) := by decide +kernel
theorem dX7_receive_126 : decode cX7_receive 126 = .ok (.iconst 1, 1) := by decide +kernel
theorem dX7_receive_127 : decode cX7_receive 127 = .ok (.goto 4, 3) := by decide +kernel
theorem dX7_receive_130 : decode cX7_receive 130 = .ok (.iconst 0, 1) := by decide +kernel
theorem dX7_receive_131 : decode cX7_receive 131 = .ok (.invokevirtual 259, 3) := by decide +kernel
theorem dX7_receive_134 : decode cX7_receive 134 = .ok (.istore 10, 2) := by decide +kernel
theorem dX7_receive_136 : decode cX7_receive 136 = .ok (.aload_n 0, 1) := by decide +kernel
theorem dX7_receive_137 : decode cX7_receive 137 = .ok (.getfield 71, 3) := by decide +kernel
theorem dX7_receive_140 : decode cX7_receive 140 = .ok (.dup, 1) := by decide +kernel
theorem dX7_receive_141 : decode cX7_receive 141 = .ok (.getfield 263, 3) := by decide +kernel
theorem dX7_receive_144 : decode cX7_receive 144 = .ok (.aload 7, 2) := by decide +kernel
theorem dX7_receive_146 : decode cX7_receive 146 = .ok (.getfield 256, 3) := by decide +kernel
theorem dX7_receive_149 : decode cX7_receive 149 = .ok (.iload 9, 2) := by decide +kernel
theorem dX7_receive_151 : decode cX7_receive 151 = .ok (.isub, 1) := by decide +kernel
theorem dX7_receive_152 : decode cX7_receive 152 = .ok (.iadd, 1) := by decide +kernel
theorem dX7_receive_153 : decode cX7_receive 153 = .ok (.putfield 263, 3) := by decide +kernel
theorem dX7_receive_156 : decode cX7_receive 156 = .ok (.iload 10, 2) := by decide +kernel
theorem dX7_receive_158 : decode cX7_receive 158 = .ok (.ifCond .eq 21, 3) := by decide +kernel
theorem dX7_receive_161 : decode cX7_receive 161 = .ok (.aload_n 0, 1) := by decide +kernel
theorem dX7_receive_162 : decode cX7_receive 162 = .ok (.getfield 18, 3) := by decide +kernel
theorem dX7_receive_165 : decode cX7_receive 165 = .ok (.iconst 2, 1) := by decide +kernel
theorem dX7_receive_166 : decode cX7_receive 166 = .ok (.if_icmp .ne 13, 3) := by decide +kernel
theorem dX7_receive_169 : decode cX7_receive 169 = .ok (.aload_n 0, 1) := by decide +kernel
theorem dX7_receive_170 : decode cX7_receive 170 = .ok (.aload 7, 2) := by decide +kernel
theorem dX7_receive_172 : decode cX7_receive 172 = .ok (.iconst 4, 1) := by decide +kernel
theorem dX7_receive_173 : decode cX7_receive 173 = .ok (.invokevirtual 249, 3) := by decide +kernel
theorem dX7_receive_176 : decode cX7_receive 176 = .ok (.goto 19, 3) := by decide +kernel
theorem dX7_receive_179 : decode cX7_receive 179 = .ok (.aload 7, 2) := by decide +kernel
theorem dX7_receive_181 : decode cX7_receive 181 = .ok (.invokevirtual 264, 3) := by decide +kernel
theorem dX7_receive_184 : decode cX7_receive 184 = .ok (.ifCond .eq 11, 3) := by decide +kernel
theorem dX7_receive_187 : decode cX7_receive 187 = .ok (.aload_n 0, 1) := by decide +kernel
theorem dX7_receive_188 : decode cX7_receive 188 = .ok (.aload 7, 2) := by decide +kernel
theorem dX7_receive_190 : decode cX7_receive 190 = .ok (.aload 6, 2) := by decide +kernel
theorem dX7_receive_192 : decode cX7_receive 192 = .ok (.invokevirtual 267, 3) := by decide +kernel
theorem dX7_receive_195 : decode cX7_receive 195 = .ok (.return_, 1) := by decide +kernel
/-! X7_sendNew -/
theorem dX7_sendNew_0 : decode cX7_sendNew 0 = .ok (.aload_n 0, 1) := by decide +kernel
theorem dX7_sendNew_1 : decode cX7_sendNew 1 = .ok (.getfield 33, 3) := by decide +kernel
theorem dX7_sendNew_4 : decode cX7_sendNew 4 = .ok (.istore 4, 2) := by decide +kernel
theorem dX7_sendNew_6 : decode cX7_sendNew 6 = .ok (.iload 4, 2) := by decide +kernel
theorem dX7_sendNew_8 : decode cX7_sendNew 8 = .ok (.ifCond .lt 10, 3) := by decide +kernel
theorem dX7_sendNew_11 : decode cX7_sendNew 11 = .ok (.iload 4, 2) := by decide +kernel
theorem dX7_sendNew_13 : decode cX7_sendNew 13 = .ok (.bipush 40, 2) := by decide +kernel
theorem dX7_sendNew_15 : decode cX7_sendNew 15 = .ok (.if_icmp .lt 5, 3) := by decide +kernel
theorem dX7_sendNew_18 : decode cX7_sendNew 18 = .ok (.iconst (-1), 1) := by decide +kernel
theorem dX7_sendNew_19 : decode cX7_sendNew 19 = .ok (.ireturn, 1) := by decide +kernel
theorem dX7_sendNew_20 : decode cX7_sendNew 20 = .ok (.aload_n 0, 1) := by decide +kernel
theorem dX7_sendNew_21 : decode cX7_sendNew 21 = .ok (.getfield 44, 3) := by decide +kernel
theorem dX7_sendNew_24 : decode cX7_sendNew 24 = .ok (.iload 4, 2) := by decide +kernel
theorem dX7_sendNew_26 : decode cX7_sendNew 26 = .ok (.aaload, 1) := by decide +kernel
theorem dX7_sendNew_27 : decode cX7_sendNew 27 = .ok (.iload_n 1, 1) := by decide +kernel
theorem dX7_sendNew_28 : decode cX7_sendNew 28 = .ok (.iload_n 2, 1) := by decide +kernel
theorem dX7_sendNew_29 : decode cX7_sendNew 29 = .ok (.iload_n 3, 1) := by decide +kernel
theorem dX7_sendNew_30 : decode cX7_sendNew 30 = .ok (.aload_n 0, 1) := by decide +kernel
theorem dX7_sendNew_31 : decode cX7_sendNew 31 = .ok (.getfield 9, 3) := by decide +kernel
theorem dX7_sendNew_34 : decode cX7_sendNew 34 = .ok (.invokevirtual 200, 3) := by decide +kernel
theorem dX7_sendNew_37 : decode cX7_sendNew 37 = .ok (.aload_n 0, 1) := by decide +kernel
theorem dX7_sendNew_38 : decode cX7_sendNew 38 = .ok (.dup, 1) := by decide +kernel
theorem dX7_sendNew_39 : decode cX7_sendNew 39 = .ok (.getfield 33, 3) := by decide +kernel
theorem dX7_sendNew_42 : decode cX7_sendNew 42 = .ok (.iconst 1, 1) := by decide +kernel
theorem dX7_sendNew_43 : decode cX7_sendNew 43 = .ok (.iadd, 1) := by decide +kernel
theorem dX7_sendNew_44 : decode cX7_sendNew 44 = .ok (.putfield 33, 3) := by decide +kernel
theorem dX7_sendNew_47 : decode cX7_sendNew 47 = .ok (.aload_n 0, 1) := by decide +kernel
theorem dX7_sendNew_48 : decode cX7_sendNew 48 = .ok (.iload 4, 2) := by decide +kernel
theorem dX7_sendNew_50 : decode cX7_sendNew 50 = .ok (.iconst 0, 1) := by decide +kernel
theorem dX7_sendNew_51 : decode cX7_sendNew 51 = .ok (.invokevirtual 203, 3) := by decide +kernel
theorem dX7_sendNew_54 : decode cX7_sendNew 54 = .ok (.iload 4, 2) := by decide +kernel
theorem dX7_sendNew_56 : decode cX7_sendNew 56 = .ok (.ireturn, 1) := by decide +kernel
/-! X7_sendProbe -/
theorem dX7_sendProbe_0 : decode cX7_sendProbe 0 = .ok (.aload_n 0, 1) := by decide +kernel
theorem dX7_sendProbe_1 : decode cX7_sendProbe 1 = .ok (.iconst 0, 1) := by decide +kernel
theorem dX7_sendProbe_2 : decode cX7_sendProbe 2 = .ok (.iconst (-1), 1) := by decide +kernel
theorem dX7_sendProbe_3 : decode cX7_sendProbe 3 = .ok (.iconst (-1), 1) := by decide +kernel
theorem dX7_sendProbe_4 : decode cX7_sendProbe 4 = .ok (.iload_n 1, 1) := by decide +kernel
theorem dX7_sendProbe_5 : decode cX7_sendProbe 5 = .ok (.invokevirtual 207, 3) := by decide +kernel
theorem dX7_sendProbe_8 : decode cX7_sendProbe 8 = .ok (.pop, 1) := by decide +kernel
theorem dX7_sendProbe_9 : decode cX7_sendProbe 9 = .ok (.return_, 1) := by decide +kernel
/-! X7_tick -/
theorem dX7_tick_0 : decode cX7_tick 0 = .ok (.aload_n 0, 1) := by decide +kernel
theorem dX7_tick_1 : decode cX7_tick 1 = .ok (.dup, 1) := by decide +kernel
theorem dX7_tick_2 : decode cX7_tick 2 = .ok (.getfield 9, 3) := by decide +kernel
theorem dX7_tick_5 : decode cX7_tick 5 = .ok (.iconst 1, 1) := by decide +kernel
theorem dX7_tick_6 : decode cX7_tick 6 = .ok (.iadd, 1) := by decide +kernel
theorem dX7_tick_7 : decode cX7_tick 7 = .ok (.putfield 9, 3) := by decide +kernel
theorem dX7_tick_10 : decode cX7_tick 10 = .ok (.iconst 0, 1) := by decide +kernel
theorem dX7_tick_11 : decode cX7_tick 11 = .ok (.istore_n 1, 1) := by decide +kernel
theorem dX7_tick_12 : decode cX7_tick 12 = .ok (.iload_n 1, 1) := by decide +kernel
theorem dX7_tick_13 : decode cX7_tick 13 = .ok (.aload_n 0, 1) := by decide +kernel
theorem dX7_tick_14 : decode cX7_tick 14 = .ok (.getfield 30, 3) := by decide +kernel
theorem dX7_tick_17 : decode cX7_tick 17 = .ok (.if_icmp .ge 14, 3) := by decide +kernel
theorem dX7_tick_20 : decode cX7_tick 20 = .ok (.aload_n 0, 1) := by decide +kernel
theorem dX7_tick_21 : decode cX7_tick 21 = .ok (.iload_n 1, 1) := by decide +kernel
theorem dX7_tick_22 : decode cX7_tick 22 = .ok (.invokevirtual 293, 3) := by decide +kernel
theorem dX7_tick_25 : decode cX7_tick 25 = .ok (.iinc 1 1, 3) := by decide +kernel
theorem dX7_tick_28 : decode cX7_tick 28 = .ok (.goto (-16), 3) := by decide +kernel
theorem dX7_tick_31 : decode cX7_tick 31 = .ok (.aload_n 0, 1) := by decide +kernel
theorem dX7_tick_32 : decode cX7_tick 32 = .ok (.getfield 64, 3) := by decide +kernel
theorem dX7_tick_35 : decode cX7_tick 35 = .ok (.getfield 297, 3) := by decide +kernel
theorem dX7_tick_38 : decode cX7_tick 38 = .ok (.aload_n 0, 1) := by decide +kernel
theorem dX7_tick_39 : decode cX7_tick 39 = .ok (.getfield 9, 3) := by decide +kernel
theorem dX7_tick_42 : decode cX7_tick 42 = .ok (.if_icmp .gt 7, 3) := by decide +kernel
theorem dX7_tick_45 : decode cX7_tick 45 = .ok (.aload_n 0, 1) := by decide +kernel
theorem dX7_tick_46 : decode cX7_tick 46 = .ok (.invokevirtual 300, 3) := by decide +kernel
theorem dX7_tick_49 : decode cX7_tick 49 = .ok (.iconst 0, 1) := by decide +kernel
theorem dX7_tick_50 : decode cX7_tick 50 = .ok (.istore_n 1, 1) := by decide +kernel
theorem dX7_tick_51 : decode cX7_tick 51 = .ok (.iload_n 1, 1) := by decide +kernel
theorem dX7_tick_52 : decode cX7_tick 52 = .ok (.iconst 4, 1) := by decide +kernel
theorem dX7_tick_53 : decode cX7_tick 53 = .ok (.if_icmp .ge 54, 3) := by decide +kernel
theorem dX7_tick_56 : decode cX7_tick 56 = .ok (.aload_n 0, 1) := by decide +kernel
theorem dX7_tick_57 : decode cX7_tick 57 = .ok (.getfield 50, 3) := by decide +kernel
theorem dX7_tick_60 : decode cX7_tick 60 = .ok (.iload_n 1, 1) := by decide +kernel
theorem dX7_tick_61 : decode cX7_tick 61 = .ok (.aaload, 1) := by decide +kernel
theorem dX7_tick_62 : decode cX7_tick 62 = .ok (.getfield 78, 3) := by decide +kernel
theorem dX7_tick_65 : decode cX7_tick 65 = .ok (.iconst (-1), 1) := by decide +kernel
theorem dX7_tick_66 : decode cX7_tick 66 = .ok (.if_icmp .eq 35, 3) := by decide +kernel
theorem dX7_tick_69 : decode cX7_tick 69 = .ok (.aload_n 0, 1) := by decide +kernel
theorem dX7_tick_70 : decode cX7_tick 70 = .ok (.getfield 9, 3) := by decide +kernel
theorem dX7_tick_73 : decode cX7_tick 73 = .ok (.aload_n 0, 1) := by decide +kernel
theorem dX7_tick_74 : decode cX7_tick 74 = .ok (.getfield 50, 3) := by decide +kernel
theorem dX7_tick_77 : decode cX7_tick 77 = .ok (.iload_n 1, 1) := by decide +kernel
theorem dX7_tick_78 : decode cX7_tick 78 = .ok (.aaload, 1) := by decide +kernel
theorem dX7_tick_79 : decode cX7_tick 79 = .ok (.getfield 280, 3) := by decide +kernel
theorem dX7_tick_82 : decode cX7_tick 82 = .ok (.isub, 1) := by decide +kernel
theorem dX7_tick_83 : decode cX7_tick 83 = .ok (.aload_n 0, 1) := by decide +kernel
theorem dX7_tick_84 : decode cX7_tick 84 = .ok (.getfield 15, 3) := by decide +kernel
theorem dX7_tick_87 : decode cX7_tick 87 = .ok (.if_icmp .lt 14, 3) := by decide +kernel
theorem dX7_tick_90 : decode cX7_tick 90 = .ok (.aload_n 0, 1) := by decide +kernel
theorem dX7_tick_91 : decode cX7_tick 91 = .ok (.aload_n 0, 1) := by decide +kernel
theorem dX7_tick_92 : decode cX7_tick 92 = .ok (.getfield 50, 3) := by decide +kernel
theorem dX7_tick_95 : decode cX7_tick 95 = .ok (.iload_n 1, 1) := by decide +kernel
theorem dX7_tick_96 : decode cX7_tick 96 = .ok (.aaload, 1) := by decide +kernel
theorem dX7_tick_97 : decode cX7_tick 97 = .ok (.iconst 1, 1) := by decide +kernel
theorem dX7_tick_98 : decode cX7_tick 98 = .ok (.invokevirtual 249, 3) := by decide +kernel
theorem dX7_tick_101 : decode cX7_tick 101 = .ok (.iinc 1 1, 3) := by decide +kernel
theorem dX7_tick_104 : decode cX7_tick 104 = .ok (.goto (-53), 3) := by decide +kernel
theorem dX7_tick_107 : decode cX7_tick 107 = .ok (.return_, 1) := by decide +kernel
/-! X7_transmit -/
theorem dX7_transmit_0 : decode cX7_transmit 0 = .ok (.aload_n 0, 1) := by decide +kernel
theorem dX7_transmit_1 : decode cX7_transmit 1 = .ok (.iload_n 1, 1) := by decide +kernel
theorem dX7_transmit_2 : decode cX7_transmit 2 = .ok (.invokevirtual 188, 3) := by decide +kernel
theorem dX7_transmit_5 : decode cX7_transmit 5 = .ok (.astore_n 3, 1) := by decide +kernel
theorem dX7_transmit_6 : decode cX7_transmit 6 = .ok (.aload_n 3, 1) := by decide +kernel
theorem dX7_transmit_7 : decode cX7_transmit 7 = .ok (.ifnull 8, 3) := by decide +kernel
theorem dX7_transmit_10 : decode cX7_transmit 10 = .ok (.iload_n 2, 1) := by decide +kernel
theorem dX7_transmit_11 : decode cX7_transmit 11 = .ok (.iconst 4, 1) := by decide +kernel
theorem dX7_transmit_12 : decode cX7_transmit 12 = .ok (.if_icmp .le 4, 3) := by decide +kernel
theorem dX7_transmit_15 : decode cX7_transmit 15 = .ok (.return_, 1) := by decide +kernel
theorem dX7_transmit_16 : decode cX7_transmit 16 = .ok (.aload_n 3, 1) := by decide +kernel
theorem dX7_transmit_17 : decode cX7_transmit 17 = .ok (.dup, 1) := by decide +kernel
theorem dX7_transmit_18 : decode cX7_transmit 18 = .ok (.getfield 210, 3) := by decide +kernel
theorem dX7_transmit_21 : decode cX7_transmit 21 = .ok (.iconst 1, 1) := by decide +kernel
theorem dX7_transmit_22 : decode cX7_transmit 22 = .ok (.iadd, 1) := by decide +kernel
theorem dX7_transmit_23 : decode cX7_transmit 23 = .ok (.putfield 210, 3) := by decide +kernel
theorem dX7_transmit_26 : decode cX7_transmit 26 = .ok (.aload_n 0, 1) := by decide +kernel
theorem dX7_transmit_27 : decode cX7_transmit 27 = .ok (.getfield 21, 3) := by decide +kernel
theorem dX7_transmit_30 : decode cX7_transmit 30 = .ok (.invokestatic 142, 3) := by decide +kernel
theorem dX7_transmit_33 : decode cX7_transmit 33 = .ok (.istore 4, 2) := by decide +kernel
theorem dX7_transmit_35 : decode cX7_transmit 35 = .ok (.aload_n 3, 1) := by decide +kernel
theorem dX7_transmit_36 : decode cX7_transmit 36 = .ok (.getfield 178, 3) := by decide +kernel
theorem dX7_transmit_39 : decode cX7_transmit 39 = .ok (.ifCond .eq 17, 3) := by decide +kernel
theorem dX7_transmit_42 : decode cX7_transmit 42 = .ok (.aload_n 3, 1) := by decide +kernel
theorem dX7_transmit_43 : decode cX7_transmit 43 = .ok (.getfield 197, 3) := by decide +kernel
theorem dX7_transmit_46 : decode cX7_transmit 46 = .ok (.aload_n 0, 1) := by decide +kernel
theorem dX7_transmit_47 : decode cX7_transmit 47 = .ok (.getfield 21, 3) := by decide +kernel
theorem dX7_transmit_50 : decode cX7_transmit 50 = .ok (.invokestatic 138, 3) := by decide +kernel
theorem dX7_transmit_53 : decode cX7_transmit 53 = .ok (.goto 4, 3) := by decide +kernel
theorem dX7_transmit_56 : decode cX7_transmit 56 = .ok (.iconst 0, 1) := by decide +kernel
theorem dX7_transmit_57 : decode cX7_transmit 57 = .ok (.istore 5, 2) := by decide +kernel
theorem dX7_transmit_59 : decode cX7_transmit 59 = .ok (.iconst 0, 1) := by decide +kernel
theorem dX7_transmit_60 : decode cX7_transmit 60 = .ok (.istore 6, 2) := by decide +kernel
theorem dX7_transmit_62 : decode cX7_transmit 62 = .ok (.iload 6, 2) := by decide +kernel
theorem dX7_transmit_64 : decode cX7_transmit 64 = .ok (.iload 5, 2) := by decide +kernel
theorem dX7_transmit_66 : decode cX7_transmit 66 = .ok (.if_icmp .gt 60, 3) := by decide +kernel
theorem dX7_transmit_69 : decode cX7_transmit 69 = .ok (.iload 6, 2) := by decide +kernel
theorem dX7_transmit_71 : decode cX7_transmit 71 = .ok (.iload 5, 2) := by decide +kernel
theorem dX7_transmit_73 : decode cX7_transmit 73 = .ok (.if_icmp .ge 8, 3) := by decide +kernel
theorem dX7_transmit_76 : decode cX7_transmit 76 = .ok (.iload 4, 2) := by decide +kernel
theorem dX7_transmit_78 : decode cX7_transmit 78 = .ok (.goto 13, 3) := by decide +kernel
theorem dX7_transmit_81 : decode cX7_transmit 81 = .ok (.aload_n 3, 1) := by decide +kernel
theorem dX7_transmit_82 : decode cX7_transmit 82 = .ok (.getfield 197, 3) := by decide +kernel
theorem dX7_transmit_85 : decode cX7_transmit 85 = .ok (.iload 5, 2) := by decide +kernel
theorem dX7_transmit_87 : decode cX7_transmit 87 = .ok (.iload 4, 2) := by decide +kernel
theorem dX7_transmit_89 : decode cX7_transmit 89 = .ok (.imul, 1) := by decide +kernel
theorem dX7_transmit_90 : decode cX7_transmit 90 = .ok (.isub, 1) := by decide +kernel
theorem dX7_transmit_91 : decode cX7_transmit 91 = .ok (.istore 7, 2) := by decide +kernel
theorem dX7_transmit_93 : decode cX7_transmit 93 = .ok (.aload_n 0, 1) := by decide +kernel
theorem dX7_transmit_94 : decode cX7_transmit 94 = .ok (.iconst 0, 1) := by decide +kernel
theorem dX7_transmit_95 : decode cX7_transmit 95 = .ok (.iload_n 1, 1) := by decide +kernel
theorem dX7_transmit_96 : decode cX7_transmit 96 = .ok (.iload 6, 2) := by decide +kernel
theorem dX7_transmit_98 : decode cX7_transmit 98 = .ok (.iload 4, 2) := by decide +kernel
theorem dX7_transmit_100 : decode cX7_transmit 100 = .ok (.imul, 1) := by decide +kernel
theorem dX7_transmit_101 : decode cX7_transmit 101 = .ok (.iload 7, 2) := by decide +kernel
theorem dX7_transmit_103 : decode cX7_transmit 103 = .ok (.bipush 20, 2) := by decide +kernel
theorem dX7_transmit_105 : decode cX7_transmit 105 = .ok (.iadd, 1) := by decide +kernel
theorem dX7_transmit_106 : decode cX7_transmit 106 = .ok (.invokevirtual 207, 3) := by decide +kernel
theorem dX7_transmit_109 : decode cX7_transmit 109 = .ok (.ifCond .eq 11, 3) := by decide +kernel
theorem dX7_transmit_112 : decode cX7_transmit 112 = .ok (.aload_n 0, 1) := by decide +kernel
theorem dX7_transmit_113 : decode cX7_transmit 113 = .ok (.iload_n 1, 1) := by decide +kernel
theorem dX7_transmit_114 : decode cX7_transmit 114 = .ok (.iload_n 2, 1) := by decide +kernel
theorem dX7_transmit_115 : decode cX7_transmit 115 = .ok (.iconst 1, 1) := by decide +kernel
theorem dX7_transmit_116 : decode cX7_transmit 116 = .ok (.iadd, 1) := by decide +kernel
theorem dX7_transmit_117 : decode cX7_transmit 117 = .ok (.invokevirtual 203, 3) := by decide +kernel
theorem dX7_transmit_120 : decode cX7_transmit 120 = .ok (.iinc 6 1, 3) := by decide +kernel
theorem dX7_transmit_123 : decode cX7_transmit 123 = .ok (.goto (-61), 3) := by decide +kernel
theorem dX7_transmit_126 : decode cX7_transmit 126 = .ok (.return_, 1) := by decide +kernel
/-! X7_triesTogether -/
theorem dX7_triesTogether_0 : decode cX7_triesTogether 0 = .ok (.iconst 0, 1) := by decide +kernel
theorem dX7_triesTogether_1 : decode cX7_triesTogether 1 = .ok (.istore_n 1, 1) := by decide +kernel
theorem dX7_triesTogether_2 : decode cX7_triesTogether 2 = .ok (.iconst 0, 1) := by decide +kernel
theorem dX7_triesTogether_3 : decode cX7_triesTogether 3 = .ok (.istore_n 2, 1) := by decide +kernel
theorem dX7_triesTogether_4 : decode cX7_triesTogether 4 = .ok (.iload_n 2, 1) := by decide +kernel
theorem dX7_triesTogether_5 : decode cX7_triesTogether 5 = .ok (.aload_n 0, 1) := by decide +kernel
theorem dX7_triesTogether_6 : decode cX7_triesTogether 6 = .ok (.getfield 33, 3) := by decide +kernel
theorem dX7_triesTogether_9 : decode cX7_triesTogether 9 = .ok (.if_icmp .ge 27, 3) := by decide +kernel
theorem dX7_triesTogether_12 : decode cX7_triesTogether 12 = .ok (.iload_n 2, 1) := by decide +kernel
theorem dX7_triesTogether_13 : decode cX7_triesTogether 13 = .ok (.bipush 40, 2) := by decide +kernel
theorem dX7_triesTogether_15 : decode cX7_triesTogether 15 = .ok (.if_icmp .ge 21, 3) := by decide +kernel
theorem dX7_triesTogether_18 : decode cX7_triesTogether 18 = .ok (.iload_n 1, 1) := by decide +kernel
theorem dX7_triesTogether_19 : decode cX7_triesTogether 19 = .ok (.aload_n 0, 1) := by decide +kernel
theorem dX7_triesTogether_20 : decode cX7_triesTogether 20 = .ok (.getfield 44, 3) := by decide +kernel
theorem dX7_triesTogether_23 : decode cX7_triesTogether 23 = .ok (.iload_n 2, 1) := by decide +kernel
theorem dX7_triesTogether_24 : decode cX7_triesTogether 24 = .ok (.aaload, 1) := by decide +kernel
theorem dX7_triesTogether_25 : decode cX7_triesTogether 25 = .ok (.getfield 210, 3) := by decide +kernel
theorem dX7_triesTogether_28 : decode cX7_triesTogether 28 = .ok (.iadd, 1) := by decide +kernel
theorem dX7_triesTogether_29 : decode cX7_triesTogether 29 = .ok (.istore_n 1, 1) := by decide +kernel
theorem dX7_triesTogether_30 : decode cX7_triesTogether 30 = .ok (.iinc 2 1, 3) := by decide +kernel
theorem dX7_triesTogether_33 : decode cX7_triesTogether 33 = .ok (.goto (-29), 3) := by decide +kernel
theorem dX7_triesTogether_36 : decode cX7_triesTogether 36 = .ok (.iload_n 1, 1) := by decide +kernel
theorem dX7_triesTogether_37 : decode cX7_triesTogether 37 = .ok (.ireturn, 1) := by decide +kernel
/-! X7_unlearn -/
theorem dX7_unlearn_0 : decode cX7_unlearn 0 = .ok (.aload_n 0, 1) := by decide +kernel
theorem dX7_unlearn_1 : decode cX7_unlearn 1 = .ok (.iconst 0, 1) := by decide +kernel
theorem dX7_unlearn_2 : decode cX7_unlearn 2 = .ok (.invokevirtual 112, 3) := by decide +kernel
theorem dX7_unlearn_5 : decode cX7_unlearn 5 = .ok (.astore_n 1, 1) := by decide +kernel
theorem dX7_unlearn_6 : decode cX7_unlearn 6 = .ok (.aload_n 0, 1) := by decide +kernel
theorem dX7_unlearn_7 : decode cX7_unlearn 7 = .ok (.aload_n 1, 1) := by decide +kernel
theorem dX7_unlearn_8 : decode cX7_unlearn 8 = .ok (.ifnonnull 8, 3) := by decide +kernel
theorem dX7_unlearn_11 : decode cX7_unlearn 11 = .ok (.bipush 28, 2) := by decide +kernel
theorem dX7_unlearn_13 : decode cX7_unlearn 13 = .ok (.goto 7, 3) := by decide +kernel
theorem dX7_unlearn_16 : decode cX7_unlearn 16 = .ok (.aload_n 1, 1) := by decide +kernel
theorem dX7_unlearn_17 : decode cX7_unlearn 17 = .ok (.getfield 116, 3) := by decide +kernel
theorem dX7_unlearn_20 : decode cX7_unlearn 20 = .ok (.putfield 21, 3) := by decide +kernel
theorem dX7_unlearn_23 : decode cX7_unlearn 23 = .ok (.aload_n 0, 1) := by decide +kernel
theorem dX7_unlearn_24 : decode cX7_unlearn 24 = .ok (.bipush 27, 2) := by decide +kernel
theorem dX7_unlearn_26 : decode cX7_unlearn 26 = .ok (.putfield 24, 3) := by decide +kernel
theorem dX7_unlearn_29 : decode cX7_unlearn 29 = .ok (.aload_n 0, 1) := by decide +kernel
theorem dX7_unlearn_30 : decode cX7_unlearn 30 = .ok (.iconst (-1), 1) := by decide +kernel
theorem dX7_unlearn_31 : decode cX7_unlearn 31 = .ok (.putfield 27, 3) := by decide +kernel
theorem dX7_unlearn_34 : decode cX7_unlearn 34 = .ok (.return_, 1) := by decide +kernel
/-! X8_byteAt -/
theorem dX8_byteAt_0 : decode cX8_byteAt 0 = .ok (.iload_n 1, 1) := by decide +kernel
theorem dX8_byteAt_1 : decode cX8_byteAt 1 = .ok (.ifCond .lt 31, 3) := by decide +kernel
theorem dX8_byteAt_4 : decode cX8_byteAt 4 = .ok (.iload_n 1, 1) := by decide +kernel
theorem dX8_byteAt_5 : decode cX8_byteAt 5 = .ok (.aload_n 0, 1) := by decide +kernel
theorem dX8_byteAt_6 : decode cX8_byteAt 6 = .ok (.getfield 15, 3) := by decide +kernel
theorem dX8_byteAt_9 : decode cX8_byteAt 9 = .ok (.if_icmp .ge 23, 3) := by decide +kernel
theorem dX8_byteAt_12 : decode cX8_byteAt 12 = .ok (.iload_n 1, 1) := by decide +kernel
theorem dX8_byteAt_13 : decode cX8_byteAt 13 = .ok (.sipush 2048, 3) := by decide +kernel
theorem dX8_byteAt_16 : decode cX8_byteAt 16 = .ok (.if_icmp .ge 16, 3) := by decide +kernel
theorem dX8_byteAt_19 : decode cX8_byteAt 19 = .ok (.aload_n 0, 1) := by decide +kernel
theorem dX8_byteAt_20 : decode cX8_byteAt 20 = .ok (.getfield 11, 3) := by decide +kernel
theorem dX8_byteAt_23 : decode cX8_byteAt 23 = .ok (.iload_n 1, 1) := by decide +kernel
theorem dX8_byteAt_24 : decode cX8_byteAt 24 = .ok (.baload, 1) := by decide +kernel
theorem dX8_byteAt_25 : decode cX8_byteAt 25 = .ok (.sipush 255, 3) := by decide +kernel
theorem dX8_byteAt_28 : decode cX8_byteAt 28 = .ok (.iand, 1) := by decide +kernel
theorem dX8_byteAt_29 : decode cX8_byteAt 29 = .ok (.goto 4, 3) := by decide +kernel
theorem dX8_byteAt_32 : decode cX8_byteAt 32 = .ok (.iconst (-1), 1) := by decide +kernel
theorem dX8_byteAt_33 : decode cX8_byteAt 33 = .ok (.ireturn, 1) := by decide +kernel
/-! X8_init -/
theorem dX8_init_0 : decode cX8_init 0 = .ok (.aload_n 0, 1) := by decide +kernel
theorem dX8_init_1 : decode cX8_init 1 = .ok (.invokespecial 3, 3) := by decide +kernel
theorem dX8_init_4 : decode cX8_init 4 = .ok (.aload_n 0, 1) := by decide +kernel
theorem dX8_init_5 : decode cX8_init 5 = .ok (.sipush 2048, 3) := by decide +kernel
theorem dX8_init_8 : decode cX8_init 8 = .ok (.newarray .byte, 2) := by decide +kernel
theorem dX8_init_10 : decode cX8_init 10 = .ok (.putfield 11, 3) := by decide +kernel
theorem dX8_init_13 : decode cX8_init 13 = .ok (.aload_n 0, 1) := by decide +kernel
theorem dX8_init_14 : decode cX8_init 14 = .ok (.iconst 0, 1) := by decide +kernel
theorem dX8_init_15 : decode cX8_init 15 = .ok (.putfield 15, 3) := by decide +kernel
theorem dX8_init_18 : decode cX8_init 18 = .ok (.return_, 1) := by decide +kernel
/-! X8_putNumber -/
theorem dX8_putNumber_0 : decode cX8_putNumber 0 = .ok (.iconst 1, 1) := by decide +kernel
theorem dX8_putNumber_1 : decode cX8_putNumber 1 = .ok (.istore_n 2, 1) := by decide +kernel
theorem dX8_putNumber_2 : decode cX8_putNumber 2 = .ok (.iload_n 2, 1) := by decide +kernel
theorem dX8_putNumber_3 : decode cX8_putNumber 3 = .ok (.iload_n 1, 1) := by decide +kernel
theorem dX8_putNumber_4 : decode cX8_putNumber 4 = .ok (.bipush 10, 2) := by decide +kernel
theorem dX8_putNumber_6 : decode cX8_putNumber 6 = .ok (.idiv, 1) := by decide +kernel
theorem dX8_putNumber_7 : decode cX8_putNumber 7 = .ok (.if_icmp .gt 17, 3) := by decide +kernel
theorem dX8_putNumber_10 : decode cX8_putNumber 10 = .ok (.iload_n 2, 1) := by decide +kernel
theorem dX8_putNumber_11 : decode cX8_putNumber 11 = .ok (.ldc 19, 2) := by decide +kernel
theorem dX8_putNumber_13 : decode cX8_putNumber 13 = .ok (.if_icmp .ge 11, 3) := by decide +kernel
theorem dX8_putNumber_16 : decode cX8_putNumber 16 = .ok (.iload_n 2, 1) := by decide +kernel
theorem dX8_putNumber_17 : decode cX8_putNumber 17 = .ok (.bipush 10, 2) := by decide +kernel
theorem dX8_putNumber_19 : decode cX8_putNumber 19 = .ok (.imul, 1) := by decide +kernel
theorem dX8_putNumber_20 : decode cX8_putNumber 20 = .ok (.istore_n 2, 1) := by decide +kernel
theorem dX8_putNumber_21 : decode cX8_putNumber 21 = .ok (.goto (-19), 3) := by decide +kernel
theorem dX8_putNumber_24 : decode cX8_putNumber 24 = .ok (.iload_n 2, 1) := by decide +kernel
theorem dX8_putNumber_25 : decode cX8_putNumber 25 = .ok (.ifCond .le 24, 3) := by decide +kernel
theorem dX8_putNumber_28 : decode cX8_putNumber 28 = .ok (.aload_n 0, 1) := by decide +kernel
theorem dX8_putNumber_29 : decode cX8_putNumber 29 = .ok (.bipush 48, 2) := by decide +kernel
theorem dX8_putNumber_31 : decode cX8_putNumber 31 = .ok (.iload_n 1, 1) := by decide +kernel
theorem dX8_putNumber_32 : decode cX8_putNumber 32 = .ok (.iload_n 2, 1) := by decide +kernel
theorem dX8_putNumber_33 : decode cX8_putNumber 33 = .ok (.idiv, 1) := by decide +kernel
theorem dX8_putNumber_34 : decode cX8_putNumber 34 = .ok (.bipush 10, 2) := by decide +kernel
theorem dX8_putNumber_36 : decode cX8_putNumber 36 = .ok (.irem, 1) := by decide +kernel
theorem dX8_putNumber_37 : decode cX8_putNumber 37 = .ok (.iadd, 1) := by decide +kernel
theorem dX8_putNumber_38 : decode cX8_putNumber 38 = .ok (.invokevirtual 20, 3) := by decide +kernel
theorem dX8_putNumber_41 : decode cX8_putNumber 41 = .ok (.iload_n 2, 1) := by decide +kernel
theorem dX8_putNumber_42 : decode cX8_putNumber 42 = .ok (.bipush 10, 2) := by decide +kernel
theorem dX8_putNumber_44 : decode cX8_putNumber 44 = .ok (.idiv, 1) := by decide +kernel
theorem dX8_putNumber_45 : decode cX8_putNumber 45 = .ok (.istore_n 2, 1) := by decide +kernel
theorem dX8_putNumber_46 : decode cX8_putNumber 46 = .ok (.goto (-22), 3) := by decide +kernel
theorem dX8_putNumber_49 : decode cX8_putNumber 49 = .ok (.return_, 1) := by decide +kernel
/-! X8_putSign -/
theorem dX8_putSign_0 : decode cX8_putSign 0 = .ok (.aload_n 0, 1) := by decide +kernel
theorem dX8_putSign_1 : decode cX8_putSign 1 = .ok (.getfield 15, 3) := by decide +kernel
theorem dX8_putSign_4 : decode cX8_putSign 4 = .ok (.ifCond .lt 34, 3) := by decide +kernel
theorem dX8_putSign_7 : decode cX8_putSign 7 = .ok (.aload_n 0, 1) := by decide +kernel
theorem dX8_putSign_8 : decode cX8_putSign 8 = .ok (.getfield 15, 3) := by decide +kernel
theorem dX8_putSign_11 : decode cX8_putSign 11 = .ok (.sipush 2048, 3) := by decide +kernel
theorem dX8_putSign_14 : decode cX8_putSign 14 = .ok (.if_icmp .ge 24, 3) := by decide +kernel
theorem dX8_putSign_17 : decode cX8_putSign 17 = .ok (.aload_n 0, 1) := by decide +kernel
theorem dX8_putSign_18 : decode cX8_putSign 18 = .ok (.getfield 11, 3) := by decide +kernel
theorem dX8_putSign_21 : decode cX8_putSign 21 = .ok (.aload_n 0, 1) := by decide +kernel
theorem dX8_putSign_22 : decode cX8_putSign 22 = .ok (.getfield 15, 3) := by decide +kernel
theorem dX8_putSign_25 : decode cX8_putSign 25 = .ok (.iload_n 1, 1) := by decide +kernel
theorem dX8_putSign_26 : decode cX8_putSign 26 = .ok (.i2b, 1) := by decide +kernel
theorem dX8_putSign_27 : decode cX8_putSign 27 = .ok (.bastore, 1) := by decide +kernel
theorem dX8_putSign_28 : decode cX8_putSign 28 = .ok (.aload_n 0, 1) := by decide +kernel
theorem dX8_putSign_29 : decode cX8_putSign 29 = .ok (.dup, 1) := by decide +kernel
theorem dX8_putSign_30 : decode cX8_putSign 30 = .ok (.getfield 15, 3) := by decide +kernel
theorem dX8_putSign_33 : decode cX8_putSign 33 = .ok (.iconst 1, 1) := by decide +kernel
theorem dX8_putSign_34 : decode cX8_putSign 34 = .ok (.iadd, 1) := by decide +kernel
theorem dX8_putSign_35 : decode cX8_putSign 35 = .ok (.putfield 15, 3) := by decide +kernel
theorem dX8_putSign_38 : decode cX8_putSign 38 = .ok (.return_, 1) := by decide +kernel
/-! X9_account -/
theorem dX9_account_0 : decode cX9_account 0 = .ok (.iload_n 1, 1) := by decide +kernel
theorem dX9_account_1 : decode cX9_account 1 = .ok (.iconst 0, 1) := by decide +kernel
theorem dX9_account_2 : decode cX9_account 2 = .ok (.bipush 11, 2) := by decide +kernel
theorem dX9_account_4 : decode cX9_account 4 = .ok (.invokestatic 76, 3) := by decide +kernel
theorem dX9_account_7 : decode cX9_account 7 = .ok (.aload_n 0, 1) := by decide +kernel
theorem dX9_account_8 : decode cX9_account 8 = .ok (.getfield 30, 3) := by decide +kernel
theorem dX9_account_11 : decode cX9_account 11 = .ok (.getfield 341, 3) := by decide +kernel
theorem dX9_account_14 : decode cX9_account 14 = .ok (.iload_n 1, 1) := by decide +kernel
theorem dX9_account_15 : decode cX9_account 15 = .ok (.invokevirtual 345, 3) := by decide +kernel
theorem dX9_account_18 : decode cX9_account 18 = .ok (.ireturn, 1) := by decide +kernel
/-! X9_addLinkBurden -/
theorem dX9_addLinkBurden_0 : decode cX9_addLinkBurden 0 = .ok (.aload_n 0, 1) := by decide +kernel
theorem dX9_addLinkBurden_1 : decode cX9_addLinkBurden 1 = .ok (.getfield 30, 3) := by decide +kernel
theorem dX9_addLinkBurden_4 : decode cX9_addLinkBurden 4 = .ok (.iload_n 1, 1) := by decide +kernel
theorem dX9_addLinkBurden_5 : decode cX9_addLinkBurden 5 = .ok (.invokevirtual 164, 3) := by decide +kernel
theorem dX9_addLinkBurden_8 : decode cX9_addLinkBurden 8 = .ok (.astore 4, 2) := by decide +kernel
theorem dX9_addLinkBurden_10 : decode cX9_addLinkBurden 10 = .ok (.aload 4, 2) := by decide +kernel
theorem dX9_addLinkBurden_12 : decode cX9_addLinkBurden 12 = .ok (.ifnonnull 4, 3) := by decide +kernel
theorem dX9_addLinkBurden_15 : decode cX9_addLinkBurden 15 = .ok (.return_, 1) := by decide +kernel
theorem dX9_addLinkBurden_16 : decode cX9_addLinkBurden 16 = .ok (.aload 4, 2) := by decide +kernel
theorem dX9_addLinkBurden_18 : decode cX9_addLinkBurden 18 = .ok (.getfield 168, 3) := by decide +kernel
theorem dX9_addLinkBurden_21 : decode cX9_addLinkBurden 21 = .ok (.invokestatic 380, 3) := by decide +kernel
theorem dX9_addLinkBurden_24 : decode cX9_addLinkBurden 24 = .ok (.istore 5, 2) := by decide +kernel
theorem dX9_addLinkBurden_26 : decode cX9_addLinkBurden 26 = .ok (.iload_n 2, 1) := by decide +kernel
theorem dX9_addLinkBurden_27 : decode cX9_addLinkBurden 27 = .ok (.istore 6, 2) := by decide +kernel
theorem dX9_addLinkBurden_29 : decode cX9_addLinkBurden 29 = .ok (.iload 6, 2) := by decide +kernel
theorem dX9_addLinkBurden_31 : decode cX9_addLinkBurden 31 = .ok (.iconst 1, 1) := by decide +kernel
theorem dX9_addLinkBurden_32 : decode cX9_addLinkBurden 32 = .ok (.if_icmp .lt 75, 3) := by decide +kernel
theorem dX9_addLinkBurden_35 : decode cX9_addLinkBurden 35 = .ok (.iload 6, 2) := by decide +kernel
theorem dX9_addLinkBurden_37 : decode cX9_addLinkBurden 37 = .ok (.aload 4, 2) := by decide +kernel
theorem dX9_addLinkBurden_39 : decode cX9_addLinkBurden 39 = .ok (.getfield 168, 3) := by decide +kernel
theorem dX9_addLinkBurden_42 : decode cX9_addLinkBurden 42 = .ok (.invokestatic 383, 3) := by decide +kernel
theorem dX9_addLinkBurden_45 : decode cX9_addLinkBurden 45 = .ok (.istore 7, 2) := by decide +kernel
theorem dX9_addLinkBurden_47 : decode cX9_addLinkBurden 47 = .ok (.iload 7, 2) := by decide +kernel
theorem dX9_addLinkBurden_49 : decode cX9_addLinkBurden 49 = .ok (.aload_n 0, 1) := by decide +kernel
theorem dX9_addLinkBurden_50 : decode cX9_addLinkBurden 50 = .ok (.getfield 23, 3) := by decide +kernel
theorem dX9_addLinkBurden_53 : decode cX9_addLinkBurden 53 = .ok (.iload 5, 2) := by decide +kernel
theorem dX9_addLinkBurden_55 : decode cX9_addLinkBurden 55 = .ok (.invokestatic 285, 3) := by decide +kernel
theorem dX9_addLinkBurden_58 : decode cX9_addLinkBurden 58 = .ok (.imul, 1) := by decide +kernel
theorem dX9_addLinkBurden_59 : decode cX9_addLinkBurden 59 = .ok (.aload_n 0, 1) := by decide +kernel
theorem dX9_addLinkBurden_60 : decode cX9_addLinkBurden 60 = .ok (.getfield 23, 3) := by decide +kernel
theorem dX9_addLinkBurden_63 : decode cX9_addLinkBurden 63 = .ok (.iload 6, 2) := by decide +kernel
theorem dX9_addLinkBurden_65 : decode cX9_addLinkBurden 65 = .ok (.iload 7, 2) := by decide +kernel
theorem dX9_addLinkBurden_67 : decode cX9_addLinkBurden 67 = .ok (.iload 5, 2) := by decide +kernel
theorem dX9_addLinkBurden_69 : decode cX9_addLinkBurden 69 = .ok (.imul, 1) := by decide +kernel
theorem dX9_addLinkBurden_70 : decode cX9_addLinkBurden 70 = .ok (.isub, 1) := by decide +kernel
theorem dX9_addLinkBurden_71 : decode cX9_addLinkBurden 71 = .ok (.invokestatic 285, 3) := by decide +kernel
theorem dX9_addLinkBurden_74 : decode cX9_addLinkBurden 74 = .ok (.iadd, 1) := by decide +kernel
theorem dX9_addLinkBurden_75 : decode cX9_addLinkBurden 75 = .ok (.istore 8, 2) := by decide +kernel
theorem dX9_addLinkBurden_77 : decode cX9_addLinkBurden 77 = .ok (.aload_n 0, 1) := by decide +kernel
theorem dX9_addLinkBurden_78 : decode cX9_addLinkBurden 78 = .ok (.getfield 23, 3) := by decide +kernel
theorem dX9_addLinkBurden_81 : decode cX9_addLinkBurden 81 = .ok (.iload 6, 2) := by decide +kernel
theorem dX9_addLinkBurden_83 : decode cX9_addLinkBurden 83 = .ok (.iload 8, 2) := by decide +kernel
theorem dX9_addLinkBurden_85 : decode cX9_addLinkBurden 85 = .ok (.iload_n 3, 1) := by decide +kernel
theorem dX9_addLinkBurden_86 : decode cX9_addLinkBurden 86 = .ok (.iload 6, 2) := by decide +kernel
theorem dX9_addLinkBurden_88 : decode cX9_addLinkBurden 88 = .ok (.iload 7, 2) := by decide +kernel
theorem dX9_addLinkBurden_90 : decode cX9_addLinkBurden 90 = .ok (.iconst 1, 1) := by decide +kernel
theorem dX9_addLinkBurden_91 : decode cX9_addLinkBurden 91 = .ok (.iadd, 1) := by decide +kernel
theorem dX9_addLinkBurden_92 : decode cX9_addLinkBurden 92 = .ok (.bipush 20, 2) := by decide +kernel
theorem dX9_addLinkBurden_94 : decode cX9_addLinkBurden 94 = .ok (.imul, 1) := by decide +kernel
theorem dX9_addLinkBurden_95 : decode cX9_addLinkBurden 95 = .ok (.iadd, 1) := by decide +kernel
theorem dX9_addLinkBurden_96 : decode cX9_addLinkBurden 96 = .ok (.imul, 1) := by decide +kernel
theorem dX9_addLinkBurden_97 : decode cX9_addLinkBurden 97 = .ok (.iadd, 1) := by decide +kernel
theorem dX9_addLinkBurden_98 : decode cX9_addLinkBurden 98 = .ok (.invokestatic 386, 3) := by decide +kernel
theorem dX9_addLinkBurden_101 : decode cX9_addLinkBurden 101 = .ok (.iinc 6 (-1), 3) := by decide +kernel
theorem dX9_addLinkBurden_104 : decode cX9_addLinkBurden 104 = .ok (.goto (-75), 3) := by decide +kernel
theorem dX9_addLinkBurden_107 : decode cX9_addLinkBurden 107 = .ok (.return_, 1) := by decide +kernel
/-! X9_again -/
theorem dX9_again_0 : decode cX9_again 0 = .ok (.aload_n 0, 1) := by decide +kernel
theorem dX9_again_1 : decode cX9_again 1 = .ok (.iload_n 1, 1) := by decide +kernel
theorem dX9_again_2 : decode cX9_again 2 = .ok (.invokevirtual 245, 3) := by decide +kernel
theorem dX9_again_5 : decode cX9_again 5 = .ok (.astore_n 2, 1) := by decide +kernel
theorem dX9_again_6 : decode cX9_again 6 = .ok (.aload_n 2, 1) := by decide +kernel
theorem dX9_again_7 : decode cX9_again 7 = .ok (.getfield 155, 3) := by decide +kernel
theorem dX9_again_10 : decode cX9_again 10 = .ok (.ifCond .eq 6, 3) := by decide +kernel
theorem dX9_again_13 : decode cX9_again 13 = .ok (.bipush (-2), 2) := by decide +kernel
theorem dX9_again_15 : decode cX9_again 15 = .ok (.ireturn, 1) := by decide +kernel
theorem dX9_again_16 : decode cX9_again 16 = .ok (.aload_n 0, 1) := by decide +kernel
theorem dX9_again_17 : decode cX9_again 17 = .ok (.invokevirtual 122, 3) := by decide +kernel
theorem dX9_again_20 : decode cX9_again 20 = .ok (.aload_n 0, 1) := by decide +kernel
theorem dX9_again_21 : decode cX9_again 21 = .ok (.getfield 30, 3) := by decide +kernel
theorem dX9_again_24 : decode cX9_again 24 = .ok (.iload_n 1, 1) := by decide +kernel
theorem dX9_again_25 : decode cX9_again 25 = .ok (.iconst 0, 1) := by decide +kernel
theorem dX9_again_26 : decode cX9_again 26 = .ok (.invokevirtual 160, 3) := by decide +kernel
theorem dX9_again_29 : decode cX9_again 29 = .ok (.aload_n 2, 1) := by decide +kernel
theorem dX9_again_30 : decode cX9_again 30 = .ok (.getfield 256, 3) := by decide +kernel
theorem dX9_again_33 : decode cX9_again 33 = .ok (.ireturn, 1) := by decide +kernel
/-! X9_append -/
theorem dX9_append_0 : decode cX9_append 0 = .ok (.aload_n 0, 1) := by decide +kernel
theorem dX9_append_1 : decode cX9_append 1 = .ok (.getfield 10, 3) := by decide +kernel
theorem dX9_append_4 : decode cX9_append 4 = .ok (.invokevirtual 58, 3) := by decide +kernel
theorem dX9_append_7 : decode cX9_append 7 = .ok (.ifCond .ne 13, 3) := by decide +kernel
theorem dX9_append_10 : decode cX9_append 10 = .ok (.new 62, 3) := by decide +kernel
theorem dX9_append_13 : decode cX9_append 13 = .ok (.dup, 1) := by decide +kernel
theorem dX9_append_14 : decode cX9_append 14 = .ok (.ldc 64, 2) := by decide +kernel
theorem dX9_append_16 : decode cX9_append 16 = .ok (.invokespecial 66, 3) := by decide +kernel
theorem dX9_append_19 : decode cX9_append 19 = .ok (.athrow, 1) := by decide +kernel
theorem dX9_append_20 : decode cX9_append 20 = .ok (.aload_n 0, 1) := by decide +kernel
theorem dX9_append_21 : decode cX9_append 21 = .ok (.getfield 10, 3) := by decide +kernel
theorem dX9_append_24 : decode cX9_append 24 = .ok (.iload_n 1, 1) := by decide +kernel
theorem dX9_append_25 : decode cX9_append 25 = .ok (.invokevirtual 69, 3) := by decide +kernel
theorem dX9_append_28 : decode cX9_append 28 = .ok (.aload_n 0, 1) := by decide +kernel
theorem dX9_append_29 : decode cX9_append 29 = .ok (.getfield 10, 3) := by decide +kernel
theorem dX9_append_32 : decode cX9_append 32 = .ok (.iload_n 2, 1) := by decide +kernel
theorem dX9_append_33 : decode cX9_append 33 = .ok (.invokevirtual 69, 3) := by decide +kernel
theorem dX9_append_36 : decode cX9_append 36 = .ok (.aload_n 0, 1) := by decide +kernel
theorem dX9_append_37 : decode cX9_append 37 = .ok (.getfield 10, 3) := by decide +kernel
theorem dX9_append_40 : decode cX9_append 40 = .ok (.iload_n 3, 1) := by decide +kernel
theorem dX9_append_41 : decode cX9_append 41 = .ok (.invokevirtual 69, 3) := by decide +kernel
theorem dX9_append_44 : decode cX9_append 44 = .ok (.aload_n 0, 1) := by decide +kernel
theorem dX9_append_45 : decode cX9_append 45 = .ok (.getfield 10, 3) := by decide +kernel
theorem dX9_append_48 : decode cX9_append 48 = .ok (.iload 4, 2) := by decide +kernel
theorem dX9_append_50 : decode cX9_append 50 = .ok (.invokevirtual 69, 3) := by decide +kernel
theorem dX9_append_53 : decode cX9_append 53 = .ok (.aload_n 0, 1) := by decide +kernel
theorem dX9_append_54 : decode cX9_append 54 = .ok (.getfield 10, 3) := by decide +kernel
theorem dX9_append_57 : decode cX9_append 57 = .ok (.iload 5, 2) := by decide +kernel
theorem dX9_append_59 : decode cX9_append 59 = .ok (.invokevirtual 69, 3) := by decide +kernel
theorem dX9_append_62 : decode cX9_append 62 = .ok (.aload_n 0, 1) := by decide +kernel
theorem dX9_append_63 : decode cX9_append 63 = .ok (.getfield 10, 3) := by decide +kernel
theorem dX9_append_66 : decode cX9_append 66 = .ok (.getfield 73, 3) := by decide +kernel
theorem dX9_append_69 : decode cX9_append 69 = .ok (.ireturn, 1) := by decide +kernel
/-! X9_bestLong -/
theorem dX9_bestLong_0 : decode cX9_bestLong 0 = .ok (.iload_n 1, 1) := by decide +kernel
theorem dX9_bestLong_1 : decode cX9_bestLong 1 = .ok (.iconst 1, 1) := by decide +kernel
theorem dX9_bestLong_2 : decode cX9_bestLong 2 = .ok (.sipush 3000, 3) := by decide +kernel
theorem dX9_bestLong_5 : decode cX9_bestLong 5 = .ok (.invokestatic 76, 3) := by decide +kernel
theorem dX9_bestLong_8 : decode cX9_bestLong 8 = .ok (.iload_n 1, 1) := by decide +kernel
theorem dX9_bestLong_9 : decode cX9_bestLong 9 = .ok (.sipush 1000, 3) := by decide +kernel
theorem dX9_bestLong_12 : decode cX9_bestLong 12 = .ok (.invokestatic 372, 3) := by decide +kernel
theorem dX9_bestLong_15 : decode cX9_bestLong 15 = .ok (.istore_n 2, 1) := by decide +kernel
theorem dX9_bestLong_16 : decode cX9_bestLong 16 = .ok (.aload_n 0, 1) := by decide +kernel
theorem dX9_bestLong_17 : decode cX9_bestLong 17 = .ok (.iload_n 2, 1) := by decide +kernel
theorem dX9_bestLong_18 : decode cX9_bestLong 18 = .ok (.invokevirtual 369, 3) := by decide +kernel
theorem dX9_bestLong_21 : decode cX9_bestLong 21 = .ok (.iconst 1, 1) := by decide +kernel
theorem dX9_bestLong_22 : decode cX9_bestLong 22 = .ok (.istore_n 3, 1) := by decide +kernel
theorem dX9_bestLong_23 : decode cX9_bestLong 23 = .ok (.iconst 1, 1) := by decide +kernel
theorem dX9_bestLong_24 : decode cX9_bestLong 24 = .ok (.istore 4, 2) := by decide +kernel
theorem dX9_bestLong_26 : decode cX9_bestLong 26 = .ok (.iload 4, 2) := by decide +kernel
theorem dX9_bestLong_28 : decode cX9_bestLong 28 = .ok (.iload_n 2, 1) := by decide +kernel
theorem dX9_bestLong_29 : decode cX9_bestLong 29 = .ok (.if_icmp .gt 28, 3) := by decide +kernel
theorem dX9_bestLong_32 : decode cX9_bestLong 32 = .ok (.aload_n 0, 1) := by decide +kernel
theorem dX9_bestLong_33 : decode cX9_bestLong 33 = .ok (.iload_n 1, 1) := by decide +kernel
theorem dX9_bestLong_34 : decode cX9_bestLong 34 = .ok (.iload 4, 2) := by decide +kernel
theorem dX9_bestLong_36 : decode cX9_bestLong 36 = .ok (.invokevirtual 377, 3) := by decide +kernel
theorem dX9_bestLong_39 : decode cX9_bestLong 39 = .ok (.aload_n 0, 1) := by decide +kernel
theorem dX9_bestLong_40 : decode cX9_bestLong 40 = .ok (.iload_n 1, 1) := by decide +kernel
theorem dX9_bestLong_41 : decode cX9_bestLong 41 = .ok (.iload_n 3, 1) := by decide +kernel
theorem dX9_bestLong_42 : decode cX9_bestLong 42 = .ok (.invokevirtual 377, 3) := by decide +kernel
theorem dX9_bestLong_45 : decode cX9_bestLong 45 = .ok (.if_icmp .gt 6, 3) := by decide +kernel
theorem dX9_bestLong_48 : decode cX9_bestLong 48 = .ok (.iload 4, 2) := by decide +kernel
theorem dX9_bestLong_50 : decode cX9_bestLong 50 = .ok (.istore_n 3, 1) := by decide +kernel
theorem dX9_bestLong_51 : decode cX9_bestLong 51 = .ok (.iinc 4 1, 3) := by decide +kernel
theorem dX9_bestLong_54 : decode cX9_bestLong 54 = .ok (.goto (-28), 3) := by decide +kernel
theorem dX9_bestLong_57 : decode cX9_bestLong 57 = .ok (.iload_n 3, 1) := by decide +kernel
theorem dX9_bestLong_58 : decode cX9_bestLong 58 = .ok (.ireturn, 1) := by decide +kernel
/-! X9_burden -/
theorem dX9_burden_0 : decode cX9_burden 0 = .ok (.iload_n 1, 1) := by decide +kernel
theorem dX9_burden_1 : decode cX9_burden 1 = .ok (.iconst 1, 1) := by decide +kernel
theorem dX9_burden_2 : decode cX9_burden 2 = .ok (.sipush 1000, 3) := by decide +kernel
theorem dX9_burden_5 : decode cX9_burden 5 = .ok (.invokestatic 76, 3) := by decide +kernel
theorem dX9_burden_8 : decode cX9_burden 8 = .ok (.aload_n 0, 1) := by decide +kernel
theorem dX9_burden_9 : decode cX9_burden 9 = .ok (.iload_n 1, 1) := by decide +kernel
theorem dX9_burden_10 : decode cX9_burden 10 = .ok (.invokevirtual 369, 3) := by decide +kernel
theorem dX9_burden_13 : decode cX9_burden 13 = .ok (.aload_n 0, 1) := by decide +kernel
theorem dX9_burden_14 : decode cX9_burden 14 = .ok (.getfield 23, 3) := by decide +kernel
theorem dX9_burden_17 : decode cX9_burden 17 = .ok (.iload_n 1, 1) := by decide +kernel
theorem dX9_burden_18 : decode cX9_burden 18 = .ok (.invokestatic 285, 3) := by decide +kernel
theorem dX9_burden_21 : decode cX9_burden 21 = .ok (.ireturn, 1) := by decide +kernel
/-! X9_copyInto -/
theorem dX9_copyInto_0 : decode cX9_copyInto 0 = .ok (.aload_n 1, 1) := by decide +kernel
theorem dX9_copyInto_1 : decode cX9_copyInto 1 = .ok (.ifnonnull 13, 3) := by decide +kernel
theorem dX9_copyInto_4 : decode cX9_copyInto 4 = .ok (.new 27, 3) := by decide +kernel
theorem dX9_copyInto_7 : decode cX9_copyInto 7 = .ok (.dup, 1) := by decide +kernel
theorem dX9_copyInto_8 : decode cX9_copyInto 8 = .ok (.invokespecial 29, 3) := by decide +kernel
theorem dX9_copyInto_11 : decode cX9_copyInto 11 = .ok (.goto 4, 3) := by decide +kernel
theorem dX9_copyInto_14 : decode cX9_copyInto 14 = .ok (.aload_n 1, 1) := by decide +kernel
theorem dX9_copyInto_15 : decode cX9_copyInto 15 = .ok (.astore_n 2, 1) := by decide +kernel
theorem dX9_copyInto_16 : decode cX9_copyInto 16 = .ok (.aload_n 2, 1) := by decide +kernel
theorem dX9_copyInto_17 : decode cX9_copyInto 17 = .ok (.aload_n 0, 1) := by decide +kernel
theorem dX9_copyInto_18 : decode cX9_copyInto 18 = .ok (.getfield 30, 3) := by decide +kernel
theorem dX9_copyInto_21 : decode cX9_copyInto 21 = .ok (.invokevirtual 437, 3) := by decide +kernel
theorem dX9_copyInto_24 : decode cX9_copyInto 24 = .ok (.aload_n 2, 1) := by decide +kernel
theorem dX9_copyInto_25 : decode cX9_copyInto 25 = .ok (.areturn, 1) := by decide +kernel
/-! X9_cutsOf -/
theorem dX9_cutsOf_0 : decode cX9_cutsOf 0 = .ok (.iload_n 0, 1) := by decide +kernel
theorem dX9_cutsOf_1 : decode cX9_cutsOf 1 = .ok (.iload_n 1, 1) := by decide +kernel
theorem dX9_cutsOf_2 : decode cX9_cutsOf 2 = .ok (.bipush 20, 2) := by decide +kernel
theorem dX9_cutsOf_4 : decode cX9_cutsOf 4 = .ok (.isub, 1) := by decide +kernel
theorem dX9_cutsOf_5 : decode cX9_cutsOf 5 = .ok (.isub, 1) := by decide +kernel
theorem dX9_cutsOf_6 : decode cX9_cutsOf 6 = .ok (.istore_n 2, 1) := by decide +kernel
theorem dX9_cutsOf_7 : decode cX9_cutsOf 7 = .ok (.iload_n 2, 1) := by decide +kernel
theorem dX9_cutsOf_8 : decode cX9_cutsOf 8 = .ok (.ifCond .gt 5, 3) := by decide +kernel
theorem dX9_cutsOf_11 : decode cX9_cutsOf 11 = .ok (.iconst 0, 1) := by decide +kernel
theorem dX9_cutsOf_12 : decode cX9_cutsOf 12 = .ok (.ireturn, 1) := by decide +kernel
theorem dX9_cutsOf_13 : decode cX9_cutsOf 13 = .ok (.iload_n 1, 1) := by decide +kernel
theorem dX9_cutsOf_14 : decode cX9_cutsOf 14 = .ok (.invokestatic 380, 3) := by decide +kernel
theorem dX9_cutsOf_17 : decode cX9_cutsOf 17 = .ok (.iconst 1, 1) := by decide +kernel
theorem dX9_cutsOf_18 : decode cX9_cutsOf 18 = .ok (.invokestatic 452, 3) := by decide +kernel
theorem dX9_cutsOf_21 : decode cX9_cutsOf 21 = .ok (.istore_n 3, 1) := by decide +kernel
theorem dX9_cutsOf_22 : decode cX9_cutsOf 22 = .ok (.iload_n 2, 1) := by decide +kernel
theorem dX9_cutsOf_23 : decode cX9_cutsOf 23 = .ok (.iload_n 3, 1) := by decide +kernel
theorem dX9_cutsOf_24 : decode cX9_cutsOf 24 = .ok (.iadd, 1) := by decide +kernel
theorem dX9_cutsOf_25 : decode cX9_cutsOf 25 = .ok (.iconst 1, 1) := by decide +kernel
theorem dX9_cutsOf_26 : decode cX9_cutsOf 26 = .ok (.isub, 1) := by decide +kernel
theorem dX9_cutsOf_27 : decode cX9_cutsOf 27 = .ok (.iload_n 3, 1) := by decide +kernel
theorem dX9_cutsOf_28 : decode cX9_cutsOf 28 = .ok (.idiv, 1) := by decide +kernel
theorem dX9_cutsOf_29 : decode cX9_cutsOf 29 = .ok (.ireturn, 1) := by decide +kernel
/-! X9_datagram -/
theorem dX9_datagram_0 : decode cX9_datagram 0 = .ok (.aload_n 0, 1) := by decide +kernel
theorem dX9_datagram_1 : decode cX9_datagram 1 = .ok (.iload_n 1, 1) := by decide +kernel
theorem dX9_datagram_2 : decode cX9_datagram 2 = .ok (.invokevirtual 245, 3) := by decide +kernel
theorem dX9_datagram_5 : decode cX9_datagram 5 = .ok (.astore_n 3, 1) := by decide +kernel
theorem dX9_datagram_6 : decode cX9_datagram 6 = .ok (.iload_n 2, 1) := by decide +kernel
theorem dX9_datagram_7 : decode cX9_datagram 7 = .ok (.iconst 0, 1) := by decide +kernel
theorem dX9_datagram_8 : decode cX9_datagram 8 = .ok (.bipush 8, 2) := by decide +kernel
theorem dX9_datagram_10 : decode cX9_datagram 10 = .ok (.invokestatic 76, 3) := by decide +kernel
theorem dX9_datagram_13 : decode cX9_datagram 13 = .ok (.iload_n 2, 1) := by decide +kernel
theorem dX9_datagram_14 : decode cX9_datagram 14 = .ok (.tableswitch 94 0 7 #[46, 51, 56, 69, 74, 79, 84, 89], 46) := by decide +kernel
theorem dX9_datagram_60 : decode cX9_datagram 60 = .ok (.aload_n 3, 1) := by decide +kernel
theorem dX9_datagram_61 : decode cX9_datagram 61 = .ok (.getfield 248, 3) := by decide +kernel
theorem dX9_datagram_64 : decode cX9_datagram 64 = .ok (.ireturn, 1) := by decide +kernel
theorem dX9_datagram_65 : decode cX9_datagram 65 = .ok (.aload_n 3, 1) := by decide +kernel
theorem dX9_datagram_66 : decode cX9_datagram 66 = .ok (.getfield 249, 3) := by decide +kernel
theorem dX9_datagram_69 : decode cX9_datagram 69 = .ok (.ireturn, 1) := by decide +kernel
theorem dX9_datagram_70 : decode cX9_datagram 70 = .ok (.aload_n 3, 1) := by decide +kernel
theorem dX9_datagram_71 : decode cX9_datagram 71 = .ok (.getfield 252, 3) := by decide +kernel
theorem dX9_datagram_74 : decode cX9_datagram 74 = .ok (.ifCond .eq 7, 3) := by decide +kernel
theorem dX9_datagram_77 : decode cX9_datagram 77 = .ok (.iconst 1, 1) := by decide +kernel
theorem dX9_datagram_78 : decode cX9_datagram 78 = .ok (.goto 4, 3) := by decide +kernel
theorem dX9_datagram_81 : decode cX9_datagram 81 = .ok (.iconst 0, 1) := by decide +kernel
theorem dX9_datagram_82 : decode cX9_datagram 82 = .ok (.ireturn, 1) := by decide +kernel
theorem dX9_datagram_83 : decode cX9_datagram 83 = .ok (.aload_n 3, 1) := by decide +kernel
theorem dX9_datagram_84 : decode cX9_datagram 84 = .ok (.getfield 256, 3) := by decide +kernel
theorem dX9_datagram_87 : decode cX9_datagram 87 = .ok (.ireturn, 1) := by decide +kernel
theorem dX9_datagram_88 : decode cX9_datagram 88 = .ok (.aload_n 3, 1) := by decide +kernel
theorem dX9_datagram_89 : decode cX9_datagram 89 = .ok (.getfield 259, 3) := by decide +kernel
theorem dX9_datagram_92 : decode cX9_datagram 92 = .ok (.ireturn, 1) := by decide +kernel
theorem dX9_datagram_93 : decode cX9_datagram 93 = .ok (.aload_n 3, 1) := by decide +kernel
theorem dX9_datagram_94 : decode cX9_datagram 94 = .ok (.getfield 155, 3) := by decide +kernel
theorem dX9_datagram_97 : decode cX9_datagram 97 = .ok (.ireturn, 1) := by decide +kernel
theorem dX9_datagram_98 : decode cX9_datagram 98 = .ok (.aload_n 3, 1) := by decide +kernel
theorem dX9_datagram_99 : decode cX9_datagram 99 = .ok (.getfield 262, 3) := by decide +kernel
theorem dX9_datagram_102 : decode cX9_datagram 102 = .ok (.ireturn, 1) := by decide +kernel
theorem dX9_datagram_103 : decode cX9_datagram 103 = .ok (.aload_n 3, 1) := by decide +kernel
theorem dX9_datagram_104 : decode cX9_datagram 104 = .ok (.getfield 265, 3) := by decide +kernel
theorem dX9_datagram_107 : decode cX9_datagram 107 = .ok (.ireturn, 1) := by decide +kernel
theorem dX9_datagram_108 : decode cX9_datagram 108 = .ok (.aload_n 0, 1) := by decide +kernel
theorem dX9_datagram_109 : decode cX9_datagram 109 = .ok (.getfield 30, 3) := by decide +kernel
theorem dX9_datagram_112 : decode cX9_datagram 112 = .ok (.getfield 194, 3) := by decide +kernel
theorem dX9_datagram_115 : decode cX9_datagram 115 = .ok (.iload_n 1, 1) := by decide +kernel
theorem dX9_datagram_116 : decode cX9_datagram 116 = .ok (.invokevirtual 268, 3) := by decide +kernel
theorem dX9_datagram_119 : decode cX9_datagram 119 = .ok (.ireturn, 1) := by decide +kernel
/-! X9_endIn -/
theorem dX9_endIn_0 : decode cX9_endIn 0 = .ok (.aload_n 0, 1) := by decide +kernel
theorem dX9_endIn_1 : decode cX9_endIn 1 = .ok (.iload_n 1, 1) := by decide +kernel
theorem dX9_endIn_2 : decode cX9_endIn 2 = .ok (.invokevirtual 245, 3) := by decide +kernel
theorem dX9_endIn_5 : decode cX9_endIn 5 = .ok (.pop, 1) := by decide +kernel
theorem dX9_endIn_6 : decode cX9_endIn 6 = .ok (.aload_n 0, 1) := by decide +kernel
theorem dX9_endIn_7 : decode cX9_endIn 7 = .ok (.iconst 1, 1) := by decide +kernel
theorem dX9_endIn_8 : decode cX9_endIn 8 = .ok (.iload_n 1, 1) := by decide +kernel
theorem dX9_endIn_9 : decode cX9_endIn 9 = .ok (.invokevirtual 393, 3) := by decide +kernel
theorem dX9_endIn_12 : decode cX9_endIn 12 = .ok (.ireturn, 1) := by decide +kernel
/-! X9_errorCode -/
theorem dX9_errorCode_0 : decode cX9_errorCode 0 = .ok (.aload_n 0, 1) := by decide +kernel
theorem dX9_errorCode_1 : decode cX9_errorCode 1 = .ok (.getfield 10, 3) := by decide +kernel
theorem dX9_errorCode_4 : decode cX9_errorCode 4 = .ok (.getfield 176, 3) := by decide +kernel
theorem dX9_errorCode_7 : decode cX9_errorCode 7 = .ok (.ireturn, 1) := by decide +kernel
/-! X9_errorPosition -/
theorem dX9_errorPosition_0 : decode cX9_errorPosition 0 = .ok (.aload_n 0, 1) := by decide +kernel
theorem dX9_errorPosition_1 : decode cX9_errorPosition 1 = .ok (.getfield 10, 3) := by decide +kernel
theorem dX9_errorPosition_4 : decode cX9_errorPosition 4 = .ok (.getfield 179, 3) := by decide +kernel
theorem dX9_errorPosition_7 : decode cX9_errorPosition 7 = .ok (.ireturn, 1) := by decide +kernel
/-! X9_fills -/
theorem dX9_fills_0 : decode cX9_fills 0 = .ok (.aload_n 0, 1) := by decide +kernel
theorem dX9_fills_1 : decode cX9_fills 1 = .ok (.iload_n 1, 1) := by decide +kernel
theorem dX9_fills_2 : decode cX9_fills 2 = .ok (.invokevirtual 245, 3) := by decide +kernel
theorem dX9_fills_5 : decode cX9_fills 5 = .ok (.pop, 1) := by decide +kernel
theorem dX9_fills_6 : decode cX9_fills 6 = .ok (.iload_n 2, 1) := by decide +kernel
theorem dX9_fills_7 : decode cX9_fills 7 = .ok (.iconst 0, 1) := by decide +kernel
theorem dX9_fills_8 : decode cX9_fills 8 = .ok (.sipush 1000, 3) := by decide +kernel
theorem dX9_fills_11 : decode cX9_fills 11 = .ok (.invokestatic 76, 3) := by decide +kernel
theorem dX9_fills_14 : decode cX9_fills 14 = .ok (.iload_n 3, 1) := by decide +kernel
theorem dX9_fills_15 : decode cX9_fills 15 = .ok (.iconst 1, 1) := by decide +kernel
theorem dX9_fills_16 : decode cX9_fills 16 = .ok (.sipush 1000, 3) := by decide +kernel
theorem dX9_fills_19 : decode cX9_fills 19 = .ok (.invokestatic 76, 3) := by decide +kernel
theorem dX9_fills_22 : decode cX9_fills 22 = .ok (.aload_n 0, 1) := by decide +kernel
theorem dX9_fills_23 : decode cX9_fills 23 = .ok (.getfield 30, 3) := by decide +kernel
theorem dX9_fills_26 : decode cX9_fills 26 = .ok (.iload_n 1, 1) := by decide +kernel
theorem dX9_fills_27 : decode cX9_fills 27 = .ok (.invokevirtual 305, 3) := by decide +kernel
theorem dX9_fills_30 : decode cX9_fills 30 = .ok (.astore 4, 2) := by decide +kernel
theorem dX9_fills_32 : decode cX9_fills 32 = .ok (.aload 4, 2) := by decide +kernel
theorem dX9_fills_34 : decode cX9_fills 34 = .ok (.ifnull 29, 3) := by decide +kernel
theorem dX9_fills_37 : decode cX9_fills 37 = .ok (.aload 4, 2) := by decide +kernel
theorem dX9_fills_39 : decode cX9_fills 39 = .ok (.iconst 0, 1) := by decide +kernel
theorem dX9_fills_40 : decode cX9_fills 40 = .ok (.iconst 0, 1) := by decide +kernel
theorem dX9_fills_41 : decode cX9_fills 41 = .ok (.invokevirtual 390, 3) := by decide +kernel
theorem dX9_fills_44 : decode cX9_fills 44 = .ok (.ifCond .le 19, 3) := by decide +kernel
theorem dX9_fills_47 : decode cX9_fills 47 = .ok (.aload 4, 2) := by decide +kernel
theorem dX9_fills_49 : decode cX9_fills 49 = .ok (.iload_n 2, 1) := by decide +kernel
theorem dX9_fills_50 : decode cX9_fills 50 = .ok (.iload_n 2, 1) := by decide +kernel
theorem dX9_fills_51 : decode cX9_fills 51 = .ok (.iload_n 3, 1) := by decide +kernel
theorem dX9_fills_52 : decode cX9_fills 52 = .ok (.iadd, 1) := by decide +kernel
theorem dX9_fills_53 : decode cX9_fills 53 = .ok (.invokevirtual 390, 3) := by decide +kernel
theorem dX9_fills_56 : decode cX9_fills 56 = .ok (.ifCond .ne 7, 3) := by decide +kernel
theorem dX9_fills_59 : decode cX9_fills 59 = .ok (.iconst 1, 1) := by decide +kernel
theorem dX9_fills_60 : decode cX9_fills 60 = .ok (.goto 4, 3) := by decide +kernel
theorem dX9_fills_63 : decode cX9_fills 63 = .ok (.iconst 0, 1) := by decide +kernel
theorem dX9_fills_64 : decode cX9_fills 64 = .ok (.ireturn, 1) := by decide +kernel
/-! X9_foretell -/
theorem dX9_foretell_0 : decode cX9_foretell 0 = .ok (.aload_n 0, 1) := by decide +kernel
theorem dX9_foretell_1 : decode cX9_foretell 1 = .ok (.aload_n 0, 1) := by decide +kernel
theorem dX9_foretell_2 : decode cX9_foretell 2 = .ok (.aload_n 0, 1) := by decide +kernel
theorem dX9_foretell_3 : decode cX9_foretell 3 = .ok (.getfield 45, 3) := by decide +kernel
theorem dX9_foretell_6 : decode cX9_foretell 6 = .ok (.invokevirtual 396, 3) := by decide +kernel
theorem dX9_foretell_9 : decode cX9_foretell 9 = .ok (.putfield 45, 3) := by decide +kernel
theorem dX9_foretell_12 : decode cX9_foretell 12 = .ok (.iconst 0, 1) := by decide +kernel
theorem dX9_foretell_13 : decode cX9_foretell 13 = .ok (.istore_n 3, 1) := by decide +kernel
theorem dX9_foretell_14 : decode cX9_foretell 14 = .ok (.iload_n 3, 1) := by decide +kernel
theorem dX9_foretell_15 : decode cX9_foretell 15 = .ok (.sipush 600, 3) := by decide +kernel
theorem dX9_foretell_18 : decode cX9_foretell 18 = .ok (.if_icmp .gt 42, 3) := by decide +kernel
theorem dX9_foretell_21 : decode cX9_foretell 21 = .ok (.aload_n 0, 1) := by decide +kernel
theorem dX9_foretell_22 : decode cX9_foretell 22 = .ok (.getfield 45, 3) := by decide +kernel
theorem dX9_foretell_25 : decode cX9_foretell 25 = .ok (.iload_n 1, 1) := by decide +kernel
theorem dX9_foretell_26 : decode cX9_foretell 26 = .ok (.iload_n 2, 1) := by decide +kernel
theorem dX9_foretell_27 : decode cX9_foretell 27 = .ok (.invokestatic 407, 3) := by decide +kernel
theorem dX9_foretell_30 : decode cX9_foretell 30 = .ok (.ifCond .eq 5, 3) := by decide +kernel
theorem dX9_foretell_33 : decode cX9_foretell 33 = .ok (.iload_n 3, 1) := by decide +kernel
theorem dX9_foretell_34 : decode cX9_foretell 34 = .ok (.ireturn, 1) := by decide +kernel
theorem dX9_foretell_35 : decode cX9_foretell 35 = .ok (.aload_n 0, 1) := by decide +kernel
theorem dX9_foretell_36 : decode cX9_foretell 36 = .ok (.getfield 45, 3) := by decide +kernel
theorem dX9_foretell_39 : decode cX9_foretell 39 = .ok (.invokevirtual 404, 3) := by decide +kernel
theorem dX9_foretell_42 : decode cX9_foretell 42 = .ok (.ifCond .eq 5, 3) := by decide +kernel
theorem dX9_foretell_45 : decode cX9_foretell 45 = .ok (.iconst (-1), 1) := by decide +kernel
theorem dX9_foretell_46 : decode cX9_foretell 46 = .ok (.ireturn, 1) := by decide +kernel
theorem dX9_foretell_47 : decode cX9_foretell 47 = .ok (.aload_n 0, 1) := by decide +kernel
theorem dX9_foretell_48 : decode cX9_foretell 48 = .ok (.getfield 45, 3) := by decide +kernel
theorem dX9_foretell_51 : decode cX9_foretell 51 = .ok (.invokevirtual 148, 3) := by decide +kernel
theorem dX9_foretell_54 : decode cX9_foretell 54 = .ok (.iinc 3 1, 3) := by decide +kernel
theorem dX9_foretell_57 : decode cX9_foretell 57 = .ok (.goto (-43), 3) := by decide +kernel
theorem dX9_foretell_60 : decode cX9_foretell 60 = .ok (.iconst (-1), 1) := by decide +kernel
theorem dX9_foretell_61 : decode cX9_foretell 61 = .ok (.ireturn, 1) := by decide +kernel
/-! X9_forge -/
theorem dX9_forge_0 : decode cX9_forge 0 = .ok (.aload_n 0, 1) := by decide +kernel
theorem dX9_forge_1 : decode cX9_forge 1 = .ok (.iload_n 1, 1) := by decide +kernel
theorem dX9_forge_2 : decode cX9_forge 2 = .ok (.invokevirtual 245, 3) := by decide +kernel
theorem dX9_forge_5 : decode cX9_forge 5 = .ok (.pop, 1) := by decide +kernel
theorem dX9_forge_6 : decode cX9_forge 6 = .ok (.iload_n 2, 1) := by decide +kernel
theorem dX9_forge_7 : decode cX9_forge 7 = .ok (.iconst 0, 1) := by decide +kernel
theorem dX9_forge_8 : decode cX9_forge 8 = .ok (.sipush 992, 3) := by decide +kernel
theorem dX9_forge_11 : decode cX9_forge 11 = .ok (.invokestatic 76, 3) := by decide +kernel
theorem dX9_forge_14 : decode cX9_forge 14 = .ok (.iload_n 2, 1) := by decide +kernel
theorem dX9_forge_15 : decode cX9_forge 15 = .ok (.bipush 8, 2) := by decide +kernel
theorem dX9_forge_17 : decode cX9_forge 17 = .ok (.irem, 1) := by decide +kernel
theorem dX9_forge_18 : decode cX9_forge 18 = .ok (.ifCond .eq 14, 3) := by decide +kernel
theorem dX9_forge_21 : decode cX9_forge 21 = .ok (.new 83, 3) := by decide +kernel
theorem dX9_forge_24 : decode cX9_forge 24 = .ok (.dup, 1) := by decide +kernel
theorem dX9_forge_25 : decode cX9_forge 25 = .ok (.ldc_w 417, 3) := by decide +kernel
theorem dX9_forge_28 : decode cX9_forge 28 = .ok (.invokespecial 87, 3) := by decide +kernel
theorem dX9_forge_31 : decode cX9_forge 31 = .ok (.athrow, 1) := by decide +kernel
theorem dX9_forge_32 : decode cX9_forge 32 = .ok (.iload_n 3, 1) := by decide +kernel
theorem dX9_forge_33 : decode cX9_forge 33 = .ok (.iconst 1, 1) := by decide +kernel
theorem dX9_forge_34 : decode cX9_forge 34 = .ok (.sipush 200, 3) := by decide +kernel
theorem dX9_forge_37 : decode cX9_forge 37 = .ok (.invokestatic 76, 3) := by decide +kernel
theorem dX9_forge_40 : decode cX9_forge 40 = .ok (.iload 4, 2) := by decide +kernel
theorem dX9_forge_42 : decode cX9_forge 42 = .ok (.iconst 0, 1) := by decide +kernel
theorem dX9_forge_43 : decode cX9_forge 43 = .ok (.sipush 255, 3) := by decide +kernel
theorem dX9_forge_46 : decode cX9_forge 46 = .ok (.invokestatic 76, 3) := by decide +kernel
theorem dX9_forge_49 : decode cX9_forge 49 = .ok (.aload_n 0, 1) := by decide +kernel
theorem dX9_forge_50 : decode cX9_forge 50 = .ok (.invokevirtual 122, 3) := by decide +kernel
theorem dX9_forge_53 : decode cX9_forge 53 = .ok (.aload_n 0, 1) := by decide +kernel
theorem dX9_forge_54 : decode cX9_forge 54 = .ok (.getfield 30, 3) := by decide +kernel
theorem dX9_forge_57 : decode cX9_forge 57 = .ok (.iload_n 1, 1) := by decide +kernel
theorem dX9_forge_58 : decode cX9_forge 58 = .ok (.iload_n 2, 1) := by decide +kernel
theorem dX9_forge_59 : decode cX9_forge 59 = .ok (.iload_n 3, 1) := by decide +kernel
theorem dX9_forge_60 : decode cX9_forge 60 = .ok (.iload 4, 2) := by decide +kernel
theorem dX9_forge_62 : decode cX9_forge 62 = .ok (.iload 5, 2) := by decide +kernel
theorem dX9_forge_64 : decode cX9_forge 64 = .ok (.ifCond .ne 7, 3) := by decide +kernel
theorem dX9_forge_67 : decode cX9_forge 67 = .ok (.iconst 1, 1) := by decide +kernel
theorem dX9_forge_68 : decode cX9_forge 68 = .ok (.goto 4, 3) := by decide +kernel
theorem dX9_forge_71 : decode cX9_forge 71 = .ok (.iconst 0, 1) := by decide +kernel
theorem dX9_forge_72 : decode cX9_forge 72 = .ok (.invokevirtual 134, 3) := by decide +kernel
theorem dX9_forge_75 : decode cX9_forge 75 = .ok (.pop, 1) := by decide +kernel
theorem dX9_forge_76 : decode cX9_forge 76 = .ok (.aload_n 0, 1) := by decide +kernel
theorem dX9_forge_77 : decode cX9_forge 77 = .ok (.getfield 30, 3) := by decide +kernel
theorem dX9_forge_80 : decode cX9_forge 80 = .ok (.iload_n 1, 1) := by decide +kernel
theorem dX9_forge_81 : decode cX9_forge 81 = .ok (.invokevirtual 305, 3) := by decide +kernel
theorem dX9_forge_84 : decode cX9_forge 84 = .ok (.astore 6, 2) := by decide +kernel
theorem dX9_forge_86 : decode cX9_forge 86 = .ok (.aload 6, 2) := by decide +kernel
theorem dX9_forge_88 : decode cX9_forge 88 = .ok (.ifnonnull 7, 3) := by decide +kernel
theorem dX9_forge_91 : decode cX9_forge 91 = .ok (.iconst 0, 1) := by decide +kernel
theorem dX9_forge_92 : decode cX9_forge 92 = .ok (.goto 8, 3) := by decide +kernel
theorem dX9_forge_95 : decode cX9_forge 95 = .ok (.aload 6, 2) := by decide +kernel
theorem dX9_forge_97 : decode cX9_forge 97 = .ok (.getfield 317, 3) := by decide +kernel
theorem dX9_forge_100 : decode cX9_forge 100 = .ok (.ireturn, 1) := by decide +kernel
/-! X9_forget -/
theorem dX9_forget_0 : decode cX9_forget 0 = .ok (.aload_n 0, 1) := by decide +kernel
theorem dX9_forget_1 : decode cX9_forget 1 = .ok (.invokevirtual 122, 3) := by decide +kernel
theorem dX9_forget_4 : decode cX9_forget 4 = .ok (.aload_n 0, 1) := by decide +kernel
theorem dX9_forget_5 : decode cX9_forget 5 = .ok (.getfield 30, 3) := by decide +kernel
theorem dX9_forget_8 : decode cX9_forget 8 = .ok (.invokevirtual 55, 3) := by decide +kernel
theorem dX9_forget_11 : decode cX9_forget 11 = .ok (.aload_n 0, 1) := by decide +kernel
theorem dX9_forget_12 : decode cX9_forget 12 = .ok (.getfield 30, 3) := by decide +kernel
theorem dX9_forget_15 : decode cX9_forget 15 = .ok (.getfield 185, 3) := by decide +kernel
theorem dX9_forget_18 : decode cX9_forget 18 = .ok (.ireturn, 1) := by decide +kernel
/-! X9_fullOf -/
theorem dX9_fullOf_0 : decode cX9_fullOf 0 = .ok (.iload_n 0, 1) := by decide +kernel
theorem dX9_fullOf_1 : decode cX9_fullOf 1 = .ok (.bipush 20, 2) := by decide +kernel
theorem dX9_fullOf_3 : decode cX9_fullOf 3 = .ok (.isub, 1) := by decide +kernel
theorem dX9_fullOf_4 : decode cX9_fullOf 4 = .ok (.bipush 8, 2) := by decide +kernel
theorem dX9_fullOf_6 : decode cX9_fullOf 6 = .ok (.idiv, 1) := by decide +kernel
theorem dX9_fullOf_7 : decode cX9_fullOf 7 = .ok (.bipush 8, 2) := by decide +kernel
theorem dX9_fullOf_9 : decode cX9_fullOf 9 = .ok (.imul, 1) := by decide +kernel
theorem dX9_fullOf_10 : decode cX9_fullOf 10 = .ok (.bipush 8, 2) := by decide +kernel
theorem dX9_fullOf_12 : decode cX9_fullOf 12 = .ok (.invokestatic 452, 3) := by decide +kernel
theorem dX9_fullOf_15 : decode cX9_fullOf 15 = .ok (.ireturn, 1) := by decide +kernel
/-! X9_gap -/
theorem dX9_gap_0 : decode cX9_gap 0 = .ok (.aload_n 0, 1) := by decide +kernel
theorem dX9_gap_1 : decode cX9_gap 1 = .ok (.getfield 30, 3) := by decide +kernel
theorem dX9_gap_4 : decode cX9_gap 4 = .ok (.getfield 341, 3) := by decide +kernel
theorem dX9_gap_7 : decode cX9_gap 7 = .ok (.astore_n 1, 1) := by decide +kernel
theorem dX9_gap_8 : decode cX9_gap 8 = .ok (.aload_n 1, 1) := by decide +kernel
theorem dX9_gap_9 : decode cX9_gap 9 = .ok (.getfield 349, 3) := by decide +kernel
theorem dX9_gap_12 : decode cX9_gap 12 = .ok (.aload_n 1, 1) := by decide +kernel
theorem dX9_gap_13 : decode cX9_gap 13 = .ok (.getfield 350, 3) := by decide +kernel
theorem dX9_gap_16 : decode cX9_gap 16 = .ok (.aload_n 1, 1) := by decide +kernel
theorem dX9_gap_17 : decode cX9_gap 17 = .ok (.getfield 351, 3) := by decide +kernel
theorem dX9_gap_20 : decode cX9_gap 20 = .ok (.iadd, 1) := by decide +kernel
theorem dX9_gap_21 : decode cX9_gap 21 = .ok (.aload_n 0, 1) := by decide +kernel
theorem dX9_gap_22 : decode cX9_gap 22 = .ok (.getfield 30, 3) := by decide +kernel
theorem dX9_gap_25 : decode cX9_gap 25 = .ok (.getfield 194, 3) := by decide +kernel
theorem dX9_gap_28 : decode cX9_gap 28 = .ok (.getfield 198, 3) := by decide +kernel
theorem dX9_gap_31 : decode cX9_gap 31 = .ok (.iadd, 1) := by decide +kernel
theorem dX9_gap_32 : decode cX9_gap 32 = .ok (.aload_n 1, 1) := by decide +kernel
theorem dX9_gap_33 : decode cX9_gap 33 = .ok (.getfield 354, 3) := by decide +kernel
theorem dX9_gap_36 : decode cX9_gap 36 = .ok (.iadd, 1) := by decide +kernel
theorem dX9_gap_37 : decode cX9_gap 37 = .ok (.isub, 1) := by decide +kernel
theorem dX9_gap_38 : decode cX9_gap 38 = .ok (.ireturn, 1) := by decide +kernel
/-! X9_handedBy -/
theorem dX9_handedBy_0 : decode cX9_handedBy 0 = .ok (.iload_n 1, 1) := by decide +kernel
theorem dX9_handedBy_1 : decode cX9_handedBy 1 = .ok (.iconst 1, 1) := by decide +kernel
theorem dX9_handedBy_2 : decode cX9_handedBy 2 = .ok (.sipush 200, 3) := by decide +kernel
theorem dX9_handedBy_5 : decode cX9_handedBy 5 = .ok (.invokestatic 76, 3) := by decide +kernel
theorem dX9_handedBy_8 : decode cX9_handedBy 8 = .ok (.iload_n 2, 1) := by decide +kernel
theorem dX9_handedBy_9 : decode cX9_handedBy 9 = .ok (.iconst 0, 1) := by decide +kernel
theorem dX9_handedBy_10 : decode cX9_handedBy 10 = .ok (.iconst 2, 1) := by decide +kernel
theorem dX9_handedBy_11 : decode cX9_handedBy 11 = .ok (.invokestatic 76, 3) := by decide +kernel
theorem dX9_handedBy_14 : decode cX9_handedBy 14 = .ok (.aload_n 0, 1) := by decide +kernel
theorem dX9_handedBy_15 : decode cX9_handedBy 15 = .ok (.aload_n 0, 1) := by decide +kernel
theorem dX9_handedBy_16 : decode cX9_handedBy 16 = .ok (.aload_n 0, 1) := by decide +kernel
theorem dX9_handedBy_17 : decode cX9_handedBy 17 = .ok (.getfield 45, 3) := by decide +kernel
theorem dX9_handedBy_20 : decode cX9_handedBy 20 = .ok (.invokevirtual 396, 3) := by decide +kernel
theorem dX9_handedBy_23 : decode cX9_handedBy 23 = .ok (.putfield 45, 3) := by decide +kernel
theorem dX9_handedBy_26 : decode cX9_handedBy 26 = .ok (.aload_n 0, 1) := by decide +kernel
theorem dX9_handedBy_27 : decode cX9_handedBy 27 = .ok (.getfield 45, 3) := by decide +kernel
theorem dX9_handedBy_30 : decode cX9_handedBy 30 = .ok (.iload_n 1, 1) := by decide +kernel
theorem dX9_handedBy_31 : decode cX9_handedBy 31 = .ok (.putfield 116, 3) := by decide +kernel
theorem dX9_handedBy_34 : decode cX9_handedBy 34 = .ok (.aload_n 0, 1) := by decide +kernel
theorem dX9_handedBy_35 : decode cX9_handedBy 35 = .ok (.getfield 45, 3) := by decide +kernel
theorem dX9_handedBy_38 : decode cX9_handedBy 38 = .ok (.iload_n 2, 1) := by decide +kernel
theorem dX9_handedBy_39 : decode cX9_handedBy 39 = .ok (.putfield 119, 3) := by decide +kernel
theorem dX9_handedBy_42 : decode cX9_handedBy 42 = .ok (.aload_n 0, 1) := by decide +kernel
theorem dX9_handedBy_43 : decode cX9_handedBy 43 = .ok (.getfield 45, 3) := by decide +kernel
theorem dX9_handedBy_46 : decode cX9_handedBy 46 = .ok (.sipush 600, 3) := by decide +kernel
theorem dX9_handedBy_49 : decode cX9_handedBy 49 = .ok (.invokestatic 400, 3) := by decide +kernel
theorem dX9_handedBy_52 : decode cX9_handedBy 52 = .ok (.aload_n 0, 1) := by decide +kernel
theorem dX9_handedBy_53 : decode cX9_handedBy 53 = .ok (.getfield 45, 3) := by decide +kernel
theorem dX9_handedBy_56 : decode cX9_handedBy 56 = .ok (.invokevirtual 218, 3) := by decide +kernel
theorem dX9_handedBy_59 : decode cX9_handedBy 59 = .ok (.ireturn, 1) := by decide +kernel
/-! X9_handedIn -/
theorem dX9_handedIn_0 : decode cX9_handedIn 0 = .ok (.aload_n 0, 1) := by decide +kernel
theorem dX9_handedIn_1 : decode cX9_handedIn 1 = .ok (.iload_n 1, 1) := by decide +kernel
theorem dX9_handedIn_2 : decode cX9_handedIn 2 = .ok (.invokevirtual 245, 3) := by decide +kernel
theorem dX9_handedIn_5 : decode cX9_handedIn 5 = .ok (.pop, 1) := by decide +kernel
theorem dX9_handedIn_6 : decode cX9_handedIn 6 = .ok (.aload_n 0, 1) := by decide +kernel
theorem dX9_handedIn_7 : decode cX9_handedIn 7 = .ok (.iconst 0, 1) := by decide +kernel
theorem dX9_handedIn_8 : decode cX9_handedIn 8 = .ok (.iload_n 1, 1) := by decide +kernel
theorem dX9_handedIn_9 : decode cX9_handedIn 9 = .ok (.invokevirtual 393, 3) := by decide +kernel
theorem dX9_handedIn_12 : decode cX9_handedIn 12 = .ok (.ireturn, 1) := by decide +kernel
/-! X9_hasCome -/
theorem dX9_hasCome_0 : decode cX9_hasCome 0 = .ok (.iload_n 1, 1) := by decide +kernel
theorem dX9_hasCome_1 : decode cX9_hasCome 1 = .ok (.iconst 2, 1) := by decide +kernel
theorem dX9_hasCome_2 : decode cX9_hasCome 2 = .ok (.if_icmp .ne 8, 3) := by decide +kernel
theorem dX9_hasCome_5 : decode cX9_hasCome 5 = .ok (.aload_n 0, 1) := by decide +kernel
theorem dX9_hasCome_6 : decode cX9_hasCome 6 = .ok (.invokevirtual 404, 3) := by decide +kernel
theorem dX9_hasCome_9 : decode cX9_hasCome 9 = .ok (.ireturn, 1) := by decide +kernel
theorem dX9_hasCome_10 : decode cX9_hasCome 10 = .ok (.aload_n 0, 1) := by decide +kernel
theorem dX9_hasCome_11 : decode cX9_hasCome 11 = .ok (.iload_n 2, 1) := by decide +kernel
theorem dX9_hasCome_12 : decode cX9_hasCome 12 = .ok (.invokevirtual 151, 3) := by decide +kernel
theorem dX9_hasCome_15 : decode cX9_hasCome 15 = .ok (.astore_n 3, 1) := by decide +kernel
theorem dX9_hasCome_16 : decode cX9_hasCome 16 = .ok (.aload_n 3, 1) := by decide +kernel
theorem dX9_hasCome_17 : decode cX9_hasCome 17 = .ok (.ifnonnull 5, 3) := by decide +kernel
theorem dX9_hasCome_20 : decode cX9_hasCome 20 = .ok (.iconst 0, 1) := by decide +kernel
theorem dX9_hasCome_21 : decode cX9_hasCome 21 = .ok (.ireturn, 1) := by decide +kernel
theorem dX9_hasCome_22 : decode cX9_hasCome 22 = .ok (.iload_n 1, 1) := by decide +kernel
theorem dX9_hasCome_23 : decode cX9_hasCome 23 = .ok (.ifCond .ne 10, 3) := by decide +kernel
theorem dX9_hasCome_26 : decode cX9_hasCome 26 = .ok (.aload_n 3, 1) := by decide +kernel
theorem dX9_hasCome_27 : decode cX9_hasCome 27 = .ok (.invokevirtual 411, 3) := by decide +kernel
theorem dX9_hasCome_30 : decode cX9_hasCome 30 = .ok (.goto 15, 3) := by decide +kernel
theorem dX9_hasCome_33 : decode cX9_hasCome 33 = .ok (.aload_n 3, 1) := by decide +kernel
theorem dX9_hasCome_34 : decode cX9_hasCome 34 = .ok (.getfield 155, 3) := by decide +kernel
theorem dX9_hasCome_37 : decode cX9_hasCome 37 = .ok (.ifCond .eq 7, 3) := by decide +kernel
theorem dX9_hasCome_40 : decode cX9_hasCome 40 = .ok (.iconst 1, 1) := by decide +kernel
theorem dX9_hasCome_41 : decode cX9_hasCome 41 = .ok (.goto 4, 3) := by decide +kernel
theorem dX9_hasCome_44 : decode cX9_hasCome 44 = .ok (.iconst 0, 1) := by decide +kernel
theorem dX9_hasCome_45 : decode cX9_hasCome 45 = .ok (.ireturn, 1) := by decide +kernel
/-! X9_heap -/
theorem dX9_heap_0 : decode cX9_heap 0 = .ok (.aload_n 0, 1) := by decide +kernel
theorem dX9_heap_1 : decode cX9_heap 1 = .ok (.iload_n 1, 1) := by decide +kernel
theorem dX9_heap_2 : decode cX9_heap 2 = .ok (.invokevirtual 245, 3) := by decide +kernel
theorem dX9_heap_5 : decode cX9_heap 5 = .ok (.pop, 1) := by decide +kernel
theorem dX9_heap_6 : decode cX9_heap 6 = .ok (.iload_n 2, 1) := by decide +kernel
theorem dX9_heap_7 : decode cX9_heap 7 = .ok (.iconst 0, 1) := by decide +kernel
theorem dX9_heap_8 : decode cX9_heap 8 = .ok (.bipush 6, 2) := by decide +kernel
theorem dX9_heap_10 : decode cX9_heap 10 = .ok (.invokestatic 76, 3) := by decide +kernel
theorem dX9_heap_13 : decode cX9_heap 13 = .ok (.aload_n 0, 1) := by decide +kernel
theorem dX9_heap_14 : decode cX9_heap 14 = .ok (.getfield 30, 3) := by decide +kernel
theorem dX9_heap_17 : decode cX9_heap 17 = .ok (.iload_n 1, 1) := by decide +kernel
theorem dX9_heap_18 : decode cX9_heap 18 = .ok (.invokevirtual 305, 3) := by decide +kernel
theorem dX9_heap_21 : decode cX9_heap 21 = .ok (.astore_n 3, 1) := by decide +kernel
theorem dX9_heap_22 : decode cX9_heap 22 = .ok (.aload_n 3, 1) := by decide +kernel
theorem dX9_heap_23 : decode cX9_heap 23 = .ok (.ifnonnull 5, 3) := by decide +kernel
theorem dX9_heap_26 : decode cX9_heap 26 = .ok (.iconst (-1), 1) := by decide +kernel
theorem dX9_heap_27 : decode cX9_heap 27 = .ok (.ireturn, 1) := by decide +kernel
theorem dX9_heap_28 : decode cX9_heap 28 = .ok (.iload_n 2, 1) := by decide +kernel
theorem dX9_heap_29 : decode cX9_heap 29 = .ok (.tableswitch 69 0 5 #[39, 44, 49, 54, 59, 64], 39) := by decide +kernel
theorem dX9_heap_68 : decode cX9_heap 68 = .ok (.aload_n 3, 1) := by decide +kernel
theorem dX9_heap_69 : decode cX9_heap 69 = .ok (.getfield 309, 3) := by decide +kernel
theorem dX9_heap_72 : decode cX9_heap 72 = .ok (.ireturn, 1) := by decide +kernel
theorem dX9_heap_73 : decode cX9_heap 73 = .ok (.aload_n 3, 1) := by decide +kernel
theorem dX9_heap_74 : decode cX9_heap 74 = .ok (.getfield 314, 3) := by decide +kernel
theorem dX9_heap_77 : decode cX9_heap 77 = .ok (.ireturn, 1) := by decide +kernel
theorem dX9_heap_78 : decode cX9_heap 78 = .ok (.aload_n 3, 1) := by decide +kernel
theorem dX9_heap_79 : decode cX9_heap 79 = .ok (.getfield 317, 3) := by decide +kernel
theorem dX9_heap_82 : decode cX9_heap 82 = .ok (.ireturn, 1) := by decide +kernel
theorem dX9_heap_83 : decode cX9_heap 83 = .ok (.aload_n 3, 1) := by decide +kernel
theorem dX9_heap_84 : decode cX9_heap 84 = .ok (.invokevirtual 320, 3) := by decide +kernel
theorem dX9_heap_87 : decode cX9_heap 87 = .ok (.ireturn, 1) := by decide +kernel
theorem dX9_heap_88 : decode cX9_heap 88 = .ok (.aload_n 3, 1) := by decide +kernel
theorem dX9_heap_89 : decode cX9_heap 89 = .ok (.getfield 323, 3) := by decide +kernel
theorem dX9_heap_92 : decode cX9_heap 92 = .ok (.ireturn, 1) := by decide +kernel
theorem dX9_heap_93 : decode cX9_heap 93 = .ok (.aload_n 3, 1) := by decide +kernel
theorem dX9_heap_94 : decode cX9_heap 94 = .ok (.getfield 326, 3) := by decide +kernel
theorem dX9_heap_97 : decode cX9_heap 97 = .ok (.ireturn, 1) := by decide +kernel
theorem dX9_heap_98 : decode cX9_heap 98 = .ok (.aload_n 3, 1) := by decide +kernel
theorem dX9_heap_99 : decode cX9_heap 99 = .ok (.getfield 329, 3) := by decide +kernel
theorem dX9_heap_102 : decode cX9_heap 102 = .ok (.ireturn, 1) := by decide +kernel
/-! X9_heapByte -/
theorem dX9_heapByte_0 : decode cX9_heapByte 0 = .ok (.aload_n 0, 1) := by decide +kernel
theorem dX9_heapByte_1 : decode cX9_heapByte 1 = .ok (.iload_n 1, 1) := by decide +kernel
theorem dX9_heapByte_2 : decode cX9_heapByte 2 = .ok (.invokevirtual 245, 3) := by decide +kernel
theorem dX9_heapByte_5 : decode cX9_heapByte 5 = .ok (.pop, 1) := by decide +kernel
theorem dX9_heapByte_6 : decode cX9_heapByte 6 = .ok (.aload_n 0, 1) := by decide +kernel
theorem dX9_heapByte_7 : decode cX9_heapByte 7 = .ok (.getfield 30, 3) := by decide +kernel
theorem dX9_heapByte_10 : decode cX9_heapByte 10 = .ok (.iload_n 1, 1) := by decide +kernel
theorem dX9_heapByte_11 : decode cX9_heapByte 11 = .ok (.invokevirtual 305, 3) := by decide +kernel
theorem dX9_heapByte_14 : decode cX9_heapByte 14 = .ok (.astore_n 3, 1) := by decide +kernel
theorem dX9_heapByte_15 : decode cX9_heapByte 15 = .ok (.aload_n 3, 1) := by decide +kernel
theorem dX9_heapByte_16 : decode cX9_heapByte 16 = .ok (.ifnonnull 7, 3) := by decide +kernel
theorem dX9_heapByte_19 : decode cX9_heapByte 19 = .ok (.iconst (-1), 1) := by decide +kernel
theorem dX9_heapByte_20 : decode cX9_heapByte 20 = .ok (.goto 8, 3) := by decide +kernel
theorem dX9_heapByte_23 : decode cX9_heapByte 23 = .ok (.aload_n 3, 1) := by decide +kernel
theorem dX9_heapByte_24 : decode cX9_heapByte 24 = .ok (.iload_n 2, 1) := by decide +kernel
theorem dX9_heapByte_25 : decode cX9_heapByte 25 = .ok (.invokevirtual 338, 3) := by decide +kernel
theorem dX9_heapByte_28 : decode cX9_heapByte 28 = .ok (.ireturn, 1) := by decide +kernel
/-! X9_hole -/
theorem dX9_hole_0 : decode cX9_hole 0 = .ok (.aload_n 0, 1) := by decide +kernel
theorem dX9_hole_1 : decode cX9_hole 1 = .ok (.iload_n 1, 1) := by decide +kernel
theorem dX9_hole_2 : decode cX9_hole 2 = .ok (.invokevirtual 245, 3) := by decide +kernel
theorem dX9_hole_5 : decode cX9_hole 5 = .ok (.pop, 1) := by decide +kernel
theorem dX9_hole_6 : decode cX9_hole 6 = .ok (.iload_n 3, 1) := by decide +kernel
theorem dX9_hole_7 : decode cX9_hole 7 = .ok (.iconst 0, 1) := by decide +kernel
theorem dX9_hole_8 : decode cX9_hole 8 = .ok (.iconst 1, 1) := by decide +kernel
theorem dX9_hole_9 : decode cX9_hole 9 = .ok (.invokestatic 76, 3) := by decide +kernel
theorem dX9_hole_12 : decode cX9_hole 12 = .ok (.aload_n 0, 1) := by decide +kernel
theorem dX9_hole_13 : decode cX9_hole 13 = .ok (.getfield 30, 3) := by decide +kernel
theorem dX9_hole_16 : decode cX9_hole 16 = .ok (.iload_n 1, 1) := by decide +kernel
theorem dX9_hole_17 : decode cX9_hole 17 = .ok (.invokevirtual 305, 3) := by decide +kernel
theorem dX9_hole_20 : decode cX9_hole 20 = .ok (.astore 4, 2) := by decide +kernel
theorem dX9_hole_22 : decode cX9_hole 22 = .ok (.aload 4, 2) := by decide +kernel
theorem dX9_hole_24 : decode cX9_hole 24 = .ok (.ifnonnull 5, 3) := by decide +kernel
theorem dX9_hole_27 : decode cX9_hole 27 = .ok (.iconst (-1), 1) := by decide +kernel
theorem dX9_hole_28 : decode cX9_hole 28 = .ok (.ireturn, 1) := by decide +kernel
theorem dX9_hole_29 : decode cX9_hole 29 = .ok (.aload 4, 2) := by decide +kernel
theorem dX9_hole_31 : decode cX9_hole 31 = .ok (.iload_n 2, 1) := by decide +kernel
theorem dX9_hole_32 : decode cX9_hole 32 = .ok (.invokevirtual 332, 3) := by decide +kernel
theorem dX9_hole_35 : decode cX9_hole 35 = .ok (.istore 5, 2) := by decide +kernel
theorem dX9_hole_37 : decode cX9_hole 37 = .ok (.iload_n 3, 1) := by decide +kernel
theorem dX9_hole_38 : decode cX9_hole 38 = .ok (.ifCond .eq 9, 3) := by decide +kernel
theorem dX9_hole_41 : decode cX9_hole 41 = .ok (.iload 5, 2) := by decide +kernel
theorem dX9_hole_43 : decode cX9_hole 43 = .ok (.iconst (-1), 1) := by decide +kernel
theorem dX9_hole_44 : decode cX9_hole 44 = .ok (.if_icmp .ne 8, 3) := by decide +kernel
theorem dX9_hole_47 : decode cX9_hole 47 = .ok (.iload 5, 2) := by decide +kernel
theorem dX9_hole_49 : decode cX9_hole 49 = .ok (.goto 10, 3) := by decide +kernel
theorem dX9_hole_52 : decode cX9_hole 52 = .ok (.aload 4, 2) := by decide +kernel
theorem dX9_hole_54 : decode cX9_hole 54 = .ok (.iload 5, 2) := by decide +kernel
theorem dX9_hole_56 : decode cX9_hole 56 = .ok (.invokevirtual 335, 3) := by decide +kernel
theorem dX9_hole_59 : decode cX9_hole 59 = .ok (.ireturn, 1) := by decide +kernel
/-! X9_init -/
theorem dX9_init_0 : decode cX9_init 0 = .ok (.aload_n 0, 1) := by decide +kernel
theorem dX9_init_1 : decode cX9_init 1 = .ok (.invokespecial 1, 3) := by decide +kernel
theorem dX9_init_4 : decode cX9_init 4 = .ok (.aload_n 0, 1) := by decide +kernel
theorem dX9_init_5 : decode cX9_init 5 = .ok (.new 7, 3) := by decide +kernel
theorem dX9_init_8 : decode cX9_init 8 = .ok (.dup, 1) := by decide +kernel
theorem dX9_init_9 : decode cX9_init 9 = .ok (.invokespecial 9, 3) := by decide +kernel
theorem dX9_init_12 : decode cX9_init 12 = .ok (.putfield 10, 3) := by decide +kernel
theorem dX9_init_15 : decode cX9_init 15 = .ok (.aload_n 0, 1) := by decide +kernel
theorem dX9_init_16 : decode cX9_init 16 = .ok (.new 16, 3) := by decide +kernel
theorem dX9_init_19 : decode cX9_init 19 = .ok (.dup, 1) := by decide +kernel
theorem dX9_init_20 : decode cX9_init 20 = .ok (.invokespecial 18, 3) := by decide +kernel
theorem dX9_init_23 : decode cX9_init 23 = .ok (.putfield 19, 3) := by decide +kernel
theorem dX9_init_26 : decode cX9_init 26 = .ok (.aload_n 0, 1) := by decide +kernel
theorem dX9_init_27 : decode cX9_init 27 = .ok (.sipush 1001, 3) := by decide +kernel
theorem dX9_init_30 : decode cX9_init 30 = .ok (.newarray .int, 2) := by decide +kernel
theorem dX9_init_32 : decode cX9_init 32 = .ok (.putfield 23, 3) := by decide +kernel
theorem dX9_init_35 : decode cX9_init 35 = .ok (.aload_n 0, 1) := by decide +kernel
theorem dX9_init_36 : decode cX9_init 36 = .ok (.new 27, 3) := by decide +kernel
theorem dX9_init_39 : decode cX9_init 39 = .ok (.dup, 1) := by decide +kernel
theorem dX9_init_40 : decode cX9_init 40 = .ok (.invokespecial 29, 3) := by decide +kernel
theorem dX9_init_43 : decode cX9_init 43 = .ok (.putfield 30, 3) := by decide +kernel
theorem dX9_init_46 : decode cX9_init 46 = .ok (.aload_n 0, 1) := by decide +kernel
theorem dX9_init_47 : decode cX9_init 47 = .ok (.bipush 8, 2) := by decide +kernel
theorem dX9_init_49 : decode cX9_init 49 = .ok (.anewarray 27, 3) := by decide +kernel
theorem dX9_init_52 : decode cX9_init 52 = .ok (.putfield 34, 3) := by decide +kernel
theorem dX9_init_55 : decode cX9_init 55 = .ok (.aload_n 0, 1) := by decide +kernel
theorem dX9_init_56 : decode cX9_init 56 = .ok (.iconst 0, 1) := by decide +kernel
theorem dX9_init_57 : decode cX9_init 57 = .ok (.putfield 38, 3) := by decide +kernel
theorem dX9_init_60 : decode cX9_init 60 = .ok (.aload_n 0, 1) := by decide +kernel
theorem dX9_init_61 : decode cX9_init 61 = .ok (.iconst 0, 1) := by decide +kernel
theorem dX9_init_62 : decode cX9_init 62 = .ok (.putfield 42, 3) := by decide +kernel
theorem dX9_init_65 : decode cX9_init 65 = .ok (.aload_n 0, 1) := by decide +kernel
theorem dX9_init_66 : decode cX9_init 66 = .ok (.aconst_null, 1) := by decide +kernel
theorem dX9_init_67 : decode cX9_init 67 = .ok (.putfield 45, 3) := by decide +kernel
theorem dX9_init_70 : decode cX9_init 70 = .ok (.aload_n 0, 1) := by decide +kernel
theorem dX9_init_71 : decode cX9_init 71 = .ok (.aconst_null, 1) := by decide +kernel
theorem dX9_init_72 : decode cX9_init 72 = .ok (.putfield 48, 3) := by decide +kernel
theorem dX9_init_75 : decode cX9_init 75 = .ok (.aload_n 0, 1) := by decide +kernel
theorem dX9_init_76 : decode cX9_init 76 = .ok (.getfield 30, 3) := by decide +kernel
theorem dX9_init_79 : decode cX9_init 79 = .ok (.sipush 576, 3) := by decide +kernel
theorem dX9_init_82 : decode cX9_init 82 = .ok (.iconst 1, 1) := by decide +kernel
theorem dX9_init_83 : decode cX9_init 83 = .ok (.iconst 0, 1) := by decide +kernel
theorem dX9_init_84 : decode cX9_init 84 = .ok (.invokevirtual 51, 3) := by decide +kernel
theorem dX9_init_87 : decode cX9_init 87 = .ok (.aload_n 0, 1) := by decide +kernel
theorem dX9_init_88 : decode cX9_init 88 = .ok (.getfield 30, 3) := by decide +kernel
theorem dX9_init_91 : decode cX9_init 91 = .ok (.invokevirtual 55, 3) := by decide +kernel
theorem dX9_init_94 : decode cX9_init 94 = .ok (.return_, 1) := by decide +kernel
/-! X9_isEveryTold -/
theorem dX9_isEveryTold_0 : decode cX9_isEveryTold 0 = .ok (.aload_n 0, 1) := by decide +kernel
theorem dX9_isEveryTold_1 : decode cX9_isEveryTold 1 = .ok (.getfield 30, 3) := by decide +kernel
theorem dX9_isEveryTold_4 : decode cX9_isEveryTold 4 = .ok (.iload_n 1, 1) := by decide +kernel
theorem dX9_isEveryTold_5 : decode cX9_isEveryTold 5 = .ok (.invokevirtual 164, 3) := by decide +kernel
theorem dX9_isEveryTold_8 : decode cX9_isEveryTold 8 = .ok (.astore_n 3, 1) := by decide +kernel
theorem dX9_isEveryTold_9 : decode cX9_isEveryTold 9 = .ok (.aload_n 3, 1) := by decide +kernel
theorem dX9_isEveryTold_10 : decode cX9_isEveryTold 10 = .ok (.ifnonnull 5, 3) := by decide +kernel
theorem dX9_isEveryTold_13 : decode cX9_isEveryTold 13 = .ok (.iconst 0, 1) := by decide +kernel
theorem dX9_isEveryTold_14 : decode cX9_isEveryTold 14 = .ok (.ireturn, 1) := by decide +kernel
theorem dX9_isEveryTold_15 : decode cX9_isEveryTold 15 = .ok (.aload_n 3, 1) := by decide +kernel
theorem dX9_isEveryTold_16 : decode cX9_isEveryTold 16 = .ok (.iload_n 2, 1) := by decide +kernel
theorem dX9_isEveryTold_17 : decode cX9_isEveryTold 17 = .ok (.putfield 173, 3) := by decide +kernel
theorem dX9_isEveryTold_20 : decode cX9_isEveryTold 20 = .ok (.iconst 1, 1) := by decide +kernel
theorem dX9_isEveryTold_21 : decode cX9_isEveryTold 21 = .ok (.ireturn, 1) := by decide +kernel
/-! X9_isFound -/
theorem dX9_isFound_0 : decode cX9_isFound 0 = .ok (.aload_n 0, 1) := by decide +kernel
theorem dX9_isFound_1 : decode cX9_isFound 1 = .ok (.getfield 30, 3) := by decide +kernel
theorem dX9_isFound_4 : decode cX9_isFound 4 = .ok (.getfield 191, 3) := by decide +kernel
theorem dX9_isFound_7 : decode cX9_isFound 7 = .ok (.aload_n 0, 1) := by decide +kernel
theorem dX9_isFound_8 : decode cX9_isFound 8 = .ok (.getfield 30, 3) := by decide +kernel
theorem dX9_isFound_11 : decode cX9_isFound 11 = .ok (.getfield 188, 3) := by decide +kernel
theorem dX9_isFound_14 : decode cX9_isFound 14 = .ok (.iconst 1, 1) := by decide +kernel
theorem dX9_isFound_15 : decode cX9_isFound 15 = .ok (.iadd, 1) := by decide +kernel
theorem dX9_isFound_16 : decode cX9_isFound 16 = .ok (.if_icmp .eq 16, 3) := by decide +kernel
theorem dX9_isFound_19 : decode cX9_isFound 19 = .ok (.aload_n 0, 1) := by decide +kernel
theorem dX9_isFound_20 : decode cX9_isFound 20 = .ok (.getfield 30, 3) := by decide +kernel
theorem dX9_isFound_23 : decode cX9_isFound 23 = .ok (.getfield 188, 3) := by decide +kernel
theorem dX9_isFound_26 : decode cX9_isFound 26 = .ok (.sipush 1500, 3) := by decide +kernel
theorem dX9_isFound_29 : decode cX9_isFound 29 = .ok (.if_icmp .ne 7, 3) := by decide +kernel
theorem dX9_isFound_32 : decode cX9_isFound 32 = .ok (.iconst 1, 1) := by decide +kernel
theorem dX9_isFound_33 : decode cX9_isFound 33 = .ok (.goto 4, 3) := by decide +kernel
theorem dX9_isFound_36 : decode cX9_isFound 36 = .ok (.iconst 0, 1) := by decide +kernel
theorem dX9_isFound_37 : decode cX9_isFound 37 = .ok (.ireturn, 1) := by decide +kernel
/-! X9_isOrderDone -/
theorem dX9_isOrderDone_0 : decode cX9_isOrderDone 0 = .ok (.aload_n 0, 1) := by decide +kernel
theorem dX9_isOrderDone_1 : decode cX9_isOrderDone 1 = .ok (.getfield 10, 3) := by decide +kernel
theorem dX9_isOrderDone_4 : decode cX9_isOrderDone 4 = .ok (.iload_n 1, 1) := by decide +kernel
theorem dX9_isOrderDone_5 : decode cX9_isOrderDone 5 = .ok (.iconst 0, 1) := by decide +kernel
theorem dX9_isOrderDone_6 : decode cX9_isOrderDone 6 = .ok (.invokevirtual 101, 3) := by decide +kernel
theorem dX9_isOrderDone_9 : decode cX9_isOrderDone 9 = .ok (.istore_n 2, 1) := by decide +kernel
theorem dX9_isOrderDone_10 : decode cX9_isOrderDone 10 = .ok (.aload_n 0, 1) := by decide +kernel
theorem dX9_isOrderDone_11 : decode cX9_isOrderDone 11 = .ok (.getfield 10, 3) := by decide +kernel
theorem dX9_isOrderDone_14 : decode cX9_isOrderDone 14 = .ok (.iload_n 1, 1) := by decide +kernel
theorem dX9_isOrderDone_15 : decode cX9_isOrderDone 15 = .ok (.iconst 1, 1) := by decide +kernel
theorem dX9_isOrderDone_16 : decode cX9_isOrderDone 16 = .ok (.invokevirtual 101, 3) := by decide +kernel
theorem dX9_isOrderDone_19 : decode cX9_isOrderDone 19 = .ok (.istore_n 3, 1) := by decide +kernel
theorem dX9_isOrderDone_20 : decode cX9_isOrderDone 20 = .ok (.aload_n 0, 1) := by decide +kernel
theorem dX9_isOrderDone_21 : decode cX9_isOrderDone 21 = .ok (.getfield 10, 3) := by decide +kernel
theorem dX9_isOrderDone_24 : decode cX9_isOrderDone 24 = .ok (.iload_n 1, 1) := by decide +kernel
theorem dX9_isOrderDone_25 : decode cX9_isOrderDone 25 = .ok (.invokevirtual 97, 3) := by decide +kernel
theorem dX9_isOrderDone_28 : decode cX9_isOrderDone 28 = .ok (.tableswitch 186 3 9 #[44, 71, 77, 87, 131, 138, 145], 44) := by decide +kernel
theorem dX9_isOrderDone_72 : decode cX9_isOrderDone 72 = .ok (.aload_n 0, 1) := by decide +kernel
theorem dX9_isOrderDone_73 : decode cX9_isOrderDone 73 = .ok (.getfield 30, 3) := by decide +kernel
theorem dX9_isOrderDone_76 : decode cX9_isOrderDone 76 = .ok (.iload_n 2, 1) := by decide +kernel
theorem dX9_isOrderDone_77 : decode cX9_isOrderDone 77 = .ok (.iload_n 3, 1) := by decide +kernel
theorem dX9_isOrderDone_78 : decode cX9_isOrderDone 78 = .ok (.aload_n 0, 1) := by decide +kernel
theorem dX9_isOrderDone_79 : decode cX9_isOrderDone 79 = .ok (.getfield 10, 3) := by decide +kernel
theorem dX9_isOrderDone_82 : decode cX9_isOrderDone 82 = .ok (.iload_n 1, 1) := by decide +kernel
theorem dX9_isOrderDone_83 : decode cX9_isOrderDone 83 = .ok (.invokevirtual 105, 3) := by decide +kernel
theorem dX9_isOrderDone_86 : decode cX9_isOrderDone 86 = .ok (.invokevirtual 109, 3) := by decide +kernel
theorem dX9_isOrderDone_89 : decode cX9_isOrderDone 89 = .ok (.iconst (-1), 1) := by decide +kernel
theorem dX9_isOrderDone_90 : decode cX9_isOrderDone 90 = .ok (.if_icmp .eq 7, 3) := by decide +kernel
theorem dX9_isOrderDone_93 : decode cX9_isOrderDone 93 = .ok (.iconst 1, 1) := by decide +kernel
theorem dX9_isOrderDone_94 : decode cX9_isOrderDone 94 = .ok (.goto 4, 3) := by decide +kernel
theorem dX9_isOrderDone_97 : decode cX9_isOrderDone 97 = .ok (.iconst 0, 1) := by decide +kernel
theorem dX9_isOrderDone_98 : decode cX9_isOrderDone 98 = .ok (.ireturn, 1) := by decide +kernel
theorem dX9_isOrderDone_99 : decode cX9_isOrderDone 99 = .ok (.aload_n 0, 1) := by decide +kernel
theorem dX9_isOrderDone_100 : decode cX9_isOrderDone 100 = .ok (.iload_n 2, 1) := by decide +kernel
theorem dX9_isOrderDone_101 : decode cX9_isOrderDone 101 = .ok (.invokevirtual 128, 3) := by decide +kernel
theorem dX9_isOrderDone_104 : decode cX9_isOrderDone 104 = .ok (.ireturn, 1) := by decide +kernel
theorem dX9_isOrderDone_105 : decode cX9_isOrderDone 105 = .ok (.aload_n 0, 1) := by decide +kernel
theorem dX9_isOrderDone_106 : decode cX9_isOrderDone 106 = .ok (.getfield 30, 3) := by decide +kernel
theorem dX9_isOrderDone_109 : decode cX9_isOrderDone 109 = .ok (.iload_n 2, 1) := by decide +kernel
theorem dX9_isOrderDone_110 : decode cX9_isOrderDone 110 = .ok (.invokevirtual 131, 3) := by decide +kernel
theorem dX9_isOrderDone_113 : decode cX9_isOrderDone 113 = .ok (.iconst 1, 1) := by decide +kernel
theorem dX9_isOrderDone_114 : decode cX9_isOrderDone 114 = .ok (.ireturn, 1) := by decide +kernel
theorem dX9_isOrderDone_115 : decode cX9_isOrderDone 115 = .ok (.aload_n 0, 1) := by decide +kernel
theorem dX9_isOrderDone_116 : decode cX9_isOrderDone 116 = .ok (.getfield 30, 3) := by decide +kernel
theorem dX9_isOrderDone_119 : decode cX9_isOrderDone 119 = .ok (.iload_n 2, 1) := by decide +kernel
theorem dX9_isOrderDone_120 : decode cX9_isOrderDone 120 = .ok (.iload_n 3, 1) := by decide +kernel
theorem dX9_isOrderDone_121 : decode cX9_isOrderDone 121 = .ok (.aload_n 0, 1) := by decide +kernel
theorem dX9_isOrderDone_122 : decode cX9_isOrderDone 122 = .ok (.getfield 10, 3) := by decide +kernel
theorem dX9_isOrderDone_125 : decode cX9_isOrderDone 125 = .ok (.iload_n 1, 1) := by decide +kernel
theorem dX9_isOrderDone_126 : decode cX9_isOrderDone 126 = .ok (.iconst 2, 1) := by decide +kernel
theorem dX9_isOrderDone_127 : decode cX9_isOrderDone 127 = .ok (.invokevirtual 101, 3) := by decide +kernel
theorem dX9_isOrderDone_130 : decode cX9_isOrderDone 130 = .ok (.aload_n 0, 1) := by decide +kernel
theorem dX9_isOrderDone_131 : decode cX9_isOrderDone 131 = .ok (.getfield 10, 3) := by decide +kernel
theorem dX9_isOrderDone_134 : decode cX9_isOrderDone 134 = .ok (.iload_n 1, 1) := by decide +kernel
theorem dX9_isOrderDone_135 : decode cX9_isOrderDone 135 = .ok (.iconst 3, 1) := by decide +kernel
theorem dX9_isOrderDone_136 : decode cX9_isOrderDone 136 = .ok (.invokevirtual 101, 3) := by decide +kernel
theorem dX9_isOrderDone_139 : decode cX9_isOrderDone 139 = .ok (.aload_n 0, 1) := by decide +kernel
theorem dX9_isOrderDone_140 : decode cX9_isOrderDone 140 = .ok (.getfield 10, 3) := by decide +kernel
theorem dX9_isOrderDone_143 : decode cX9_isOrderDone 143 = .ok (.iload_n 1, 1) := by decide +kernel
theorem dX9_isOrderDone_144 : decode cX9_isOrderDone 144 = .ok (.invokevirtual 105, 3) := by decide +kernel
theorem dX9_isOrderDone_147 : decode cX9_isOrderDone 147 = .ok (.ifCond .ne 7, 3) := by decide +kernel
theorem dX9_isOrderDone_150 : decode cX9_isOrderDone 150 = .ok (.iconst 1, 1) := by decide +kernel
theorem dX9_isOrderDone_151 : decode cX9_isOrderDone 151 = .ok (.goto 4, 3) := by decide +kernel
theorem dX9_isOrderDone_154 : decode cX9_isOrderDone 154 = .ok (.iconst 0, 1) := by decide +kernel
theorem dX9_isOrderDone_155 : decode cX9_isOrderDone 155 = .ok (.invokevirtual 134, 3) := by decide +kernel
theorem dX9_isOrderDone_158 : decode cX9_isOrderDone 158 = .ok (.ireturn, 1) := by decide +kernel
theorem dX9_isOrderDone_159 : decode cX9_isOrderDone 159 = .ok (.aload_n 0, 1) := by decide +kernel
theorem dX9_isOrderDone_160 : decode cX9_isOrderDone 160 = .ok (.iload_n 2, 1) := by decide +kernel
theorem dX9_isOrderDone_161 : decode cX9_isOrderDone 161 = .ok (.iload_n 3, 1) := by decide +kernel
theorem dX9_isOrderDone_162 : decode cX9_isOrderDone 162 = .ok (.invokevirtual 138, 3) := by decide +kernel
theorem dX9_isOrderDone_165 : decode cX9_isOrderDone 165 = .ok (.ireturn, 1) := by decide +kernel
theorem dX9_isOrderDone_166 : decode cX9_isOrderDone 166 = .ok (.aload_n 0, 1) := by decide +kernel
theorem dX9_isOrderDone_167 : decode cX9_isOrderDone 167 = .ok (.iload_n 2, 1) := by decide +kernel
theorem dX9_isOrderDone_168 : decode cX9_isOrderDone 168 = .ok (.iload_n 3, 1) := by decide +kernel
theorem dX9_isOrderDone_169 : decode cX9_isOrderDone 169 = .ok (.invokevirtual 142, 3) := by decide +kernel
theorem dX9_isOrderDone_172 : decode cX9_isOrderDone 172 = .ok (.ireturn, 1) := by decide +kernel
theorem dX9_isOrderDone_173 : decode cX9_isOrderDone 173 = .ok (.aload_n 0, 1) := by decide +kernel
theorem dX9_isOrderDone_174 : decode cX9_isOrderDone 174 = .ok (.getfield 30, 3) := by decide +kernel
theorem dX9_isOrderDone_177 : decode cX9_isOrderDone 177 = .ok (.getfield 145, 3) := by decide +kernel
theorem dX9_isOrderDone_180 : decode cX9_isOrderDone 180 = .ok (.iload_n 2, 1) := by decide +kernel
theorem dX9_isOrderDone_181 : decode cX9_isOrderDone 181 = .ok (.iadd, 1) := by decide +kernel
theorem dX9_isOrderDone_182 : decode cX9_isOrderDone 182 = .ok (.sipush 9999, 3) := by decide +kernel
theorem dX9_isOrderDone_185 : decode cX9_isOrderDone 185 = .ok (.if_icmp .le 5, 3) := by decide +kernel
theorem dX9_isOrderDone_188 : decode cX9_isOrderDone 188 = .ok (.iconst 0, 1) := by decide +kernel
theorem dX9_isOrderDone_189 : decode cX9_isOrderDone 189 = .ok (.ireturn, 1) := by decide +kernel
theorem dX9_isOrderDone_190 : decode cX9_isOrderDone 190 = .ok (.iconst 0, 1) := by decide +kernel
theorem dX9_isOrderDone_191 : decode cX9_isOrderDone 191 = .ok (.istore 4, 2) := by decide +kernel
theorem dX9_isOrderDone_193 : decode cX9_isOrderDone 193 = .ok (.iload 4, 2) := by decide +kernel
theorem dX9_isOrderDone_195 : decode cX9_isOrderDone 195 = .ok (.iload_n 2, 1) := by decide +kernel
theorem dX9_isOrderDone_196 : decode cX9_isOrderDone 196 = .ok (.if_icmp .ge 16, 3) := by decide +kernel
theorem dX9_isOrderDone_199 : decode cX9_isOrderDone 199 = .ok (.aload_n 0, 1) := by decide +kernel
theorem dX9_isOrderDone_200 : decode cX9_isOrderDone 200 = .ok (.getfield 30, 3) := by decide +kernel
theorem dX9_isOrderDone_203 : decode cX9_isOrderDone 203 = .ok (.invokevirtual 148, 3) := by decide +kernel
theorem dX9_isOrderDone_206 : decode cX9_isOrderDone 206 = .ok (.iinc 4 1, 3) := by decide +kernel
theorem dX9_isOrderDone_209 : decode cX9_isOrderDone 209 = .ok (.goto (-16), 3) := by decide +kernel
theorem dX9_isOrderDone_212 : decode cX9_isOrderDone 212 = .ok (.iconst 1, 1) := by decide +kernel
theorem dX9_isOrderDone_213 : decode cX9_isOrderDone 213 = .ok (.ireturn, 1) := by decide +kernel
theorem dX9_isOrderDone_214 : decode cX9_isOrderDone 214 = .ok (.iconst 0, 1) := by decide +kernel
theorem dX9_isOrderDone_215 : decode cX9_isOrderDone 215 = .ok (.ireturn, 1) := by decide +kernel
/-! X9_isSentAgain -/
theorem dX9_isSentAgain_0 : decode cX9_isSentAgain 0 = .ok (.aload_n 0, 1) := by decide +kernel
theorem dX9_isSentAgain_1 : decode cX9_isSentAgain 1 = .ok (.getfield 30, 3) := by decide +kernel
theorem dX9_isSentAgain_4 : decode cX9_isSentAgain 4 = .ok (.iload_n 1, 1) := by decide +kernel
theorem dX9_isSentAgain_5 : decode cX9_isSentAgain 5 = .ok (.invokevirtual 151, 3) := by decide +kernel
theorem dX9_isSentAgain_8 : decode cX9_isSentAgain 8 = .ok (.astore_n 2, 1) := by decide +kernel
theorem dX9_isSentAgain_9 : decode cX9_isSentAgain 9 = .ok (.aload_n 2, 1) := by decide +kernel
theorem dX9_isSentAgain_10 : decode cX9_isSentAgain 10 = .ok (.ifnull 10, 3) := by decide +kernel
theorem dX9_isSentAgain_13 : decode cX9_isSentAgain 13 = .ok (.aload_n 2, 1) := by decide +kernel
theorem dX9_isSentAgain_14 : decode cX9_isSentAgain 14 = .ok (.getfield 155, 3) := by decide +kernel
theorem dX9_isSentAgain_17 : decode cX9_isSentAgain 17 = .ok (.ifCond .eq 5, 3) := by decide +kernel
theorem dX9_isSentAgain_20 : decode cX9_isSentAgain 20 = .ok (.iconst 0, 1) := by decide +kernel
theorem dX9_isSentAgain_21 : decode cX9_isSentAgain 21 = .ok (.ireturn, 1) := by decide +kernel
theorem dX9_isSentAgain_22 : decode cX9_isSentAgain 22 = .ok (.aload_n 0, 1) := by decide +kernel
theorem dX9_isSentAgain_23 : decode cX9_isSentAgain 23 = .ok (.getfield 30, 3) := by decide +kernel
theorem dX9_isSentAgain_26 : decode cX9_isSentAgain 26 = .ok (.iload_n 1, 1) := by decide +kernel
theorem dX9_isSentAgain_27 : decode cX9_isSentAgain 27 = .ok (.iconst 0, 1) := by decide +kernel
theorem dX9_isSentAgain_28 : decode cX9_isSentAgain 28 = .ok (.invokevirtual 160, 3) := by decide +kernel
theorem dX9_isSentAgain_31 : decode cX9_isSentAgain 31 = .ok (.iconst 1, 1) := by decide +kernel
theorem dX9_isSentAgain_32 : decode cX9_isSentAgain 32 = .ok (.ireturn, 1) := by decide +kernel
/-! X9_isSized -/
theorem dX9_isSized_0 : decode cX9_isSized 0 = .ok (.aload_n 0, 1) := by decide +kernel
theorem dX9_isSized_1 : decode cX9_isSized 1 = .ok (.getfield 30, 3) := by decide +kernel
theorem dX9_isSized_4 : decode cX9_isSized 4 = .ok (.iload_n 1, 1) := by decide +kernel
theorem dX9_isSized_5 : decode cX9_isSized 5 = .ok (.invokevirtual 164, 3) := by decide +kernel
theorem dX9_isSized_8 : decode cX9_isSized 8 = .ok (.astore_n 3, 1) := by decide +kernel
theorem dX9_isSized_9 : decode cX9_isSized 9 = .ok (.aload_n 3, 1) := by decide +kernel
theorem dX9_isSized_10 : decode cX9_isSized 10 = .ok (.ifnonnull 5, 3) := by decide +kernel
theorem dX9_isSized_13 : decode cX9_isSized 13 = .ok (.iconst 0, 1) := by decide +kernel
theorem dX9_isSized_14 : decode cX9_isSized 14 = .ok (.ireturn, 1) := by decide +kernel
theorem dX9_isSized_15 : decode cX9_isSized 15 = .ok (.aload_n 3, 1) := by decide +kernel
theorem dX9_isSized_16 : decode cX9_isSized 16 = .ok (.iload_n 2, 1) := by decide +kernel
theorem dX9_isSized_17 : decode cX9_isSized 17 = .ok (.putfield 168, 3) := by decide +kernel
theorem dX9_isSized_20 : decode cX9_isSized 20 = .ok (.iconst 1, 1) := by decide +kernel
theorem dX9_isSized_21 : decode cX9_isSized 21 = .ok (.ireturn, 1) := by decide +kernel
/-! X9_link -/
theorem dX9_link_0 : decode cX9_link 0 = .ok (.aload_n 0, 1) := by decide +kernel
theorem dX9_link_1 : decode cX9_link 1 = .ok (.iload_n 1, 1) := by decide +kernel
theorem dX9_link_2 : decode cX9_link 2 = .ok (.invokevirtual 221, 3) := by decide +kernel
theorem dX9_link_5 : decode cX9_link 5 = .ok (.astore_n 3, 1) := by decide +kernel
theorem dX9_link_6 : decode cX9_link 6 = .ok (.iload_n 2, 1) := by decide +kernel
theorem dX9_link_7 : decode cX9_link 7 = .ok (.iconst 0, 1) := by decide +kernel
theorem dX9_link_8 : decode cX9_link 8 = .ok (.bipush 8, 2) := by decide +kernel
theorem dX9_link_10 : decode cX9_link 10 = .ok (.invokestatic 76, 3) := by decide +kernel
theorem dX9_link_13 : decode cX9_link 13 = .ok (.iload_n 2, 1) := by decide +kernel
theorem dX9_link_14 : decode cX9_link 14 = .ok (.tableswitch 93 0 7 #[46, 51, 56, 61, 66, 78, 83, 88], 46) := by decide +kernel
theorem dX9_link_60 : decode cX9_link 60 = .ok (.aload_n 3, 1) := by decide +kernel
theorem dX9_link_61 : decode cX9_link 61 = .ok (.getfield 168, 3) := by decide +kernel
theorem dX9_link_64 : decode cX9_link 64 = .ok (.ireturn, 1) := by decide +kernel
theorem dX9_link_65 : decode cX9_link 65 = .ok (.aload_n 3, 1) := by decide +kernel
theorem dX9_link_66 : decode cX9_link 66 = .ok (.getfield 224, 3) := by decide +kernel
theorem dX9_link_69 : decode cX9_link 69 = .ok (.ireturn, 1) := by decide +kernel
theorem dX9_link_70 : decode cX9_link 70 = .ok (.aload_n 3, 1) := by decide +kernel
theorem dX9_link_71 : decode cX9_link 71 = .ok (.getfield 173, 3) := by decide +kernel
theorem dX9_link_74 : decode cX9_link 74 = .ok (.ireturn, 1) := by decide +kernel
theorem dX9_link_75 : decode cX9_link 75 = .ok (.aload_n 3, 1) := by decide +kernel
theorem dX9_link_76 : decode cX9_link 76 = .ok (.getfield 227, 3) := by decide +kernel
theorem dX9_link_79 : decode cX9_link 79 = .ok (.ireturn, 1) := by decide +kernel
theorem dX9_link_80 : decode cX9_link 80 = .ok (.aload_n 0, 1) := by decide +kernel
theorem dX9_link_81 : decode cX9_link 81 = .ok (.getfield 30, 3) := by decide +kernel
theorem dX9_link_84 : decode cX9_link 84 = .ok (.getfield 194, 3) := by decide +kernel
theorem dX9_link_87 : decode cX9_link 87 = .ok (.iload_n 1, 1) := by decide +kernel
theorem dX9_link_88 : decode cX9_link 88 = .ok (.invokevirtual 230, 3) := by decide +kernel
theorem dX9_link_91 : decode cX9_link 91 = .ok (.ireturn, 1) := by decide +kernel
theorem dX9_link_92 : decode cX9_link 92 = .ok (.aload_n 3, 1) := by decide +kernel
theorem dX9_link_93 : decode cX9_link 93 = .ok (.getfield 233, 3) := by decide +kernel
theorem dX9_link_96 : decode cX9_link 96 = .ok (.ireturn, 1) := by decide +kernel
theorem dX9_link_97 : decode cX9_link 97 = .ok (.aload_n 3, 1) := by decide +kernel
theorem dX9_link_98 : decode cX9_link 98 = .ok (.getfield 236, 3) := by decide +kernel
theorem dX9_link_101 : decode cX9_link 101 = .ok (.ireturn, 1) := by decide +kernel
theorem dX9_link_102 : decode cX9_link 102 = .ok (.aload_n 3, 1) := by decide +kernel
theorem dX9_link_103 : decode cX9_link 103 = .ok (.getfield 239, 3) := by decide +kernel
theorem dX9_link_106 : decode cX9_link 106 = .ok (.ireturn, 1) := by decide +kernel
theorem dX9_link_107 : decode cX9_link 107 = .ok (.aload_n 3, 1) := by decide +kernel
theorem dX9_link_108 : decode cX9_link 108 = .ok (.getfield 242, 3) := by decide +kernel
theorem dX9_link_111 : decode cX9_link 111 = .ok (.ireturn, 1) := by decide +kernel
/-! X9_meanTries -/
theorem dX9_meanTries_0 : decode cX9_meanTries 0 = .ok (.aload_n 0, 1) := by decide +kernel
theorem dX9_meanTries_1 : decode cX9_meanTries 1 = .ok (.getfield 30, 3) := by decide +kernel
theorem dX9_meanTries_4 : decode cX9_meanTries 4 = .ok (.getfield 113, 3) := by decide +kernel
theorem dX9_meanTries_7 : decode cX9_meanTries 7 = .ok (.ifCond .ne 7, 3) := by decide +kernel
theorem dX9_meanTries_10 : decode cX9_meanTries 10 = .ok (.dconst 0, 1) := by decide +kernel
theorem dX9_meanTries_11 : decode cX9_meanTries 11 = .ok (.goto 20, 3) := by decide +kernel
theorem dX9_meanTries_14 : decode cX9_meanTries 14 = .ok (.aload_n 0, 1) := by decide +kernel
theorem dX9_meanTries_15 : decode cX9_meanTries 15 = .ok (.getfield 30, 3) := by decide +kernel
theorem dX9_meanTries_18 : decode cX9_meanTries 18 = .ok (.invokevirtual 414, 3) := by decide +kernel
theorem dX9_meanTries_21 : decode cX9_meanTries 21 = .ok (.i2d, 1) := by decide +kernel
theorem dX9_meanTries_22 : decode cX9_meanTries 22 = .ok (.aload_n 0, 1) := by decide +kernel
theorem dX9_meanTries_23 : decode cX9_meanTries 23 = .ok (.getfield 30, 3) := by decide +kernel
theorem dX9_meanTries_26 : decode cX9_meanTries 26 = .ok (.getfield 113, 3) := by decide +kernel
theorem dX9_meanTries_29 : decode cX9_meanTries 29 = .ok (.i2d, 1) := by decide +kernel
theorem dX9_meanTries_30 : decode cX9_meanTries 30 = .ok (.ddiv, 1) := by decide +kernel
theorem dX9_meanTries_31 : decode cX9_meanTries 31 = .ok (.dreturn, 1) := by decide +kernel
/-! X9_missing -/
theorem dX9_missing_0 : decode cX9_missing 0 = .ok (.aload_n 0, 1) := by decide +kernel
theorem dX9_missing_1 : decode cX9_missing 1 = .ok (.iload_n 1, 1) := by decide +kernel
theorem dX9_missing_2 : decode cX9_missing 2 = .ok (.invokevirtual 245, 3) := by decide +kernel
theorem dX9_missing_5 : decode cX9_missing 5 = .ok (.pop, 1) := by decide +kernel
theorem dX9_missing_6 : decode cX9_missing 6 = .ok (.aload_n 0, 1) := by decide +kernel
theorem dX9_missing_7 : decode cX9_missing 7 = .ok (.getfield 30, 3) := by decide +kernel
theorem dX9_missing_10 : decode cX9_missing 10 = .ok (.iload_n 1, 1) := by decide +kernel
theorem dX9_missing_11 : decode cX9_missing 11 = .ok (.invokevirtual 305, 3) := by decide +kernel
theorem dX9_missing_14 : decode cX9_missing 14 = .ok (.astore_n 2, 1) := by decide +kernel
theorem dX9_missing_15 : decode cX9_missing 15 = .ok (.aload_n 2, 1) := by decide +kernel
theorem dX9_missing_16 : decode cX9_missing 16 = .ok (.ifnonnull 7, 3) := by decide +kernel
theorem dX9_missing_19 : decode cX9_missing 19 = .ok (.iconst (-1), 1) := by decide +kernel
theorem dX9_missing_20 : decode cX9_missing 20 = .ok (.goto 9, 3) := by decide +kernel
theorem dX9_missing_23 : decode cX9_missing 23 = .ok (.aload_n 2, 1) := by decide +kernel
theorem dX9_missing_24 : decode cX9_missing 24 = .ok (.iconst 0, 1) := by decide +kernel
theorem dX9_missing_25 : decode cX9_missing 25 = .ok (.iconst 0, 1) := by decide +kernel
theorem dX9_missing_26 : decode cX9_missing 26 = .ok (.invokevirtual 390, 3) := by decide +kernel
theorem dX9_missing_29 : decode cX9_missing 29 = .ok (.ireturn, 1) := by decide +kernel
/-! X9_narrowest -/
theorem dX9_narrowest_0 : decode cX9_narrowest 0 = .ok (.sipush 1500, 3) := by decide +kernel
theorem dX9_narrowest_3 : decode cX9_narrowest 3 = .ok (.istore_n 1, 1) := by decide +kernel
theorem dX9_narrowest_4 : decode cX9_narrowest 4 = .ok (.iconst 0, 1) := by decide +kernel
theorem dX9_narrowest_5 : decode cX9_narrowest 5 = .ok (.istore_n 2, 1) := by decide +kernel
theorem dX9_narrowest_6 : decode cX9_narrowest 6 = .ok (.iload_n 2, 1) := by decide +kernel
theorem dX9_narrowest_7 : decode cX9_narrowest 7 = .ok (.aload_n 0, 1) := by decide +kernel
theorem dX9_narrowest_8 : decode cX9_narrowest 8 = .ok (.getfield 30, 3) := by decide +kernel
theorem dX9_narrowest_11 : decode cX9_narrowest 11 = .ok (.getfield 182, 3) := by decide +kernel
theorem dX9_narrowest_14 : decode cX9_narrowest 14 = .ok (.if_icmp .ge 35, 3) := by decide +kernel
theorem dX9_narrowest_17 : decode cX9_narrowest 17 = .ok (.aload_n 0, 1) := by decide +kernel
theorem dX9_narrowest_18 : decode cX9_narrowest 18 = .ok (.getfield 30, 3) := by decide +kernel
theorem dX9_narrowest_21 : decode cX9_narrowest 21 = .ok (.iload_n 2, 1) := by decide +kernel
theorem dX9_narrowest_22 : decode cX9_narrowest 22 = .ok (.invokevirtual 164, 3) := by decide +kernel
theorem dX9_narrowest_25 : decode cX9_narrowest 25 = .ok (.astore_n 3, 1) := by decide +kernel
theorem dX9_narrowest_26 : decode cX9_narrowest 26 = .ok (.aload_n 3, 1) := by decide +kernel
theorem dX9_narrowest_27 : decode cX9_narrowest 27 = .ok (.ifnull 16, 3) := by decide +kernel
theorem dX9_narrowest_30 : decode cX9_narrowest 30 = .ok (.aload_n 3, 1) := by decide +kernel
theorem dX9_narrowest_31 : decode cX9_narrowest 31 = .ok (.getfield 168, 3) := by decide +kernel
theorem dX9_narrowest_34 : decode cX9_narrowest 34 = .ok (.iload_n 1, 1) := by decide +kernel
theorem dX9_narrowest_35 : decode cX9_narrowest 35 = .ok (.if_icmp .ge 8, 3) := by decide +kernel
theorem dX9_narrowest_38 : decode cX9_narrowest 38 = .ok (.aload_n 3, 1) := by decide +kernel
theorem dX9_narrowest_39 : decode cX9_narrowest 39 = .ok (.getfield 168, 3) := by decide +kernel
theorem dX9_narrowest_42 : decode cX9_narrowest 42 = .ok (.istore_n 1, 1) := by decide +kernel
theorem dX9_narrowest_43 : decode cX9_narrowest 43 = .ok (.iinc 2 1, 3) := by decide +kernel
theorem dX9_narrowest_46 : decode cX9_narrowest 46 = .ok (.goto (-40), 3) := by decide +kernel
theorem dX9_narrowest_49 : decode cX9_narrowest 49 = .ok (.iload_n 1, 1) := by decide +kernel
theorem dX9_narrowest_50 : decode cX9_narrowest 50 = .ok (.ireturn, 1) := by decide +kernel
/-! X9_needDatagram -/
theorem dX9_needDatagram_0 : decode cX9_needDatagram 0 = .ok (.aload_n 0, 1) := by decide +kernel
theorem dX9_needDatagram_1 : decode cX9_needDatagram 1 = .ok (.getfield 30, 3) := by decide +kernel
theorem dX9_needDatagram_4 : decode cX9_needDatagram 4 = .ok (.iload_n 1, 1) := by decide +kernel
theorem dX9_needDatagram_5 : decode cX9_needDatagram 5 = .ok (.invokevirtual 151, 3) := by decide +kernel
theorem dX9_needDatagram_8 : decode cX9_needDatagram 8 = .ok (.astore_n 2, 1) := by decide +kernel
theorem dX9_needDatagram_9 : decode cX9_needDatagram 9 = .ok (.aload_n 2, 1) := by decide +kernel
theorem dX9_needDatagram_10 : decode cX9_needDatagram 10 = .ok (.ifnonnull 14, 3) := by decide +kernel
theorem dX9_needDatagram_13 : decode cX9_needDatagram 13 = .ok (.new 277, 3) := by decide +kernel
theorem dX9_needDatagram_16 : decode cX9_needDatagram 16 = .ok (.dup, 1) := by decide +kernel
theorem dX9_needDatagram_17 : decode cX9_needDatagram 17 = .ok (.ldc_w 448, 3) := by decide +kernel
theorem dX9_needDatagram_20 : decode cX9_needDatagram 20 = .ok (.invokespecial 281, 3) := by decide +kernel
theorem dX9_needDatagram_23 : decode cX9_needDatagram 23 = .ok (.athrow, 1) := by decide +kernel
theorem dX9_needDatagram_24 : decode cX9_needDatagram 24 = .ok (.aload_n 2, 1) := by decide +kernel
theorem dX9_needDatagram_25 : decode cX9_needDatagram 25 = .ok (.areturn, 1) := by decide +kernel
/-! X9_needLink -/
theorem dX9_needLink_0 : decode cX9_needLink 0 = .ok (.aload_n 0, 1) := by decide +kernel
theorem dX9_needLink_1 : decode cX9_needLink 1 = .ok (.getfield 30, 3) := by decide +kernel
theorem dX9_needLink_4 : decode cX9_needLink 4 = .ok (.iload_n 1, 1) := by decide +kernel
theorem dX9_needLink_5 : decode cX9_needLink 5 = .ok (.invokevirtual 164, 3) := by decide +kernel
theorem dX9_needLink_8 : decode cX9_needLink 8 = .ok (.astore_n 2, 1) := by decide +kernel
theorem dX9_needLink_9 : decode cX9_needLink 9 = .ok (.aload_n 2, 1) := by decide +kernel
theorem dX9_needLink_10 : decode cX9_needLink 10 = .ok (.ifnonnull 14, 3) := by decide +kernel
theorem dX9_needLink_13 : decode cX9_needLink 13 = .ok (.new 277, 3) := by decide +kernel
theorem dX9_needLink_16 : decode cX9_needLink 16 = .ok (.dup, 1) := by decide +kernel
theorem dX9_needLink_17 : decode cX9_needLink 17 = .ok (.ldc_w 446, 3) := by decide +kernel
theorem dX9_needLink_20 : decode cX9_needLink 20 = .ok (.invokespecial 281, 3) := by decide +kernel
theorem dX9_needLink_23 : decode cX9_needLink 23 = .ok (.athrow, 1) := by decide +kernel
theorem dX9_needLink_24 : decode cX9_needLink 24 = .ok (.aload_n 2, 1) := by decide +kernel
theorem dX9_needLink_25 : decode cX9_needLink 25 = .ok (.areturn, 1) := by decide +kernel
/-! X9_needRange -/
theorem dX9_needRange_0 : decode cX9_needRange 0 = .ok (.iload_n 0, 1) := by decide +kernel
theorem dX9_needRange_1 : decode cX9_needRange 1 = .ok (.iload_n 1, 1) := by decide +kernel
theorem dX9_needRange_2 : decode cX9_needRange 2 = .ok (.if_icmp .lt 8, 3) := by decide +kernel
theorem dX9_needRange_5 : decode cX9_needRange 5 = .ok (.iload_n 0, 1) := by decide +kernel
theorem dX9_needRange_6 : decode cX9_needRange 6 = .ok (.iload_n 2, 1) := by decide +kernel
theorem dX9_needRange_7 : decode cX9_needRange 7 = .ok (.if_icmp .le 14, 3) := by decide +kernel
theorem dX9_needRange_10 : decode cX9_needRange 10 = .ok (.new 83, 3) := by decide +kernel
theorem dX9_needRange_13 : decode cX9_needRange 13 = .ok (.dup, 1) := by decide +kernel
theorem dX9_needRange_14 : decode cX9_needRange 14 = .ok (.ldc_w 450, 3) := by decide +kernel
theorem dX9_needRange_17 : decode cX9_needRange 17 = .ok (.invokespecial 87, 3) := by decide +kernel
theorem dX9_needRange_20 : decode cX9_needRange 20 = .ok (.athrow, 1) := by decide +kernel
theorem dX9_needRange_21 : decode cX9_needRange 21 = .ok (.return_, 1) := by decide +kernel
/-! X9_nextProbe -/
theorem dX9_nextProbe_0 : decode cX9_nextProbe 0 = .ok (.aload_n 0, 1) := by decide +kernel
theorem dX9_nextProbe_1 : decode cX9_nextProbe 1 = .ok (.getfield 30, 3) := by decide +kernel
theorem dX9_nextProbe_4 : decode cX9_nextProbe 4 = .ok (.getfield 191, 3) := by decide +kernel
theorem dX9_nextProbe_7 : decode cX9_nextProbe 7 = .ok (.iconst (-1), 1) := by decide +kernel
theorem dX9_nextProbe_8 : decode cX9_nextProbe 8 = .ok (.if_icmp .ne 20, 3) := by decide +kernel
theorem dX9_nextProbe_11 : decode cX9_nextProbe 11 = .ok (.aload_n 0, 1) := by decide +kernel
theorem dX9_nextProbe_12 : decode cX9_nextProbe 12 = .ok (.getfield 30, 3) := by decide +kernel
theorem dX9_nextProbe_15 : decode cX9_nextProbe 15 = .ok (.getfield 188, 3) := by decide +kernel
theorem dX9_nextProbe_18 : decode cX9_nextProbe 18 = .ok (.sipush 1500, 3) := by decide +kernel
theorem dX9_nextProbe_21 : decode cX9_nextProbe 21 = .ok (.if_icmp .ge 7, 3) := by decide +kernel
theorem dX9_nextProbe_24 : decode cX9_nextProbe 24 = .ok (.sipush 1500, 3) := by decide +kernel
theorem dX9_nextProbe_27 : decode cX9_nextProbe 27 = .ok (.ireturn, 1) := by decide +kernel
theorem dX9_nextProbe_28 : decode cX9_nextProbe 28 = .ok (.aload_n 0, 1) := by decide +kernel
theorem dX9_nextProbe_29 : decode cX9_nextProbe 29 = .ok (.getfield 30, 3) := by decide +kernel
theorem dX9_nextProbe_32 : decode cX9_nextProbe 32 = .ok (.getfield 191, 3) := by decide +kernel
theorem dX9_nextProbe_35 : decode cX9_nextProbe 35 = .ok (.aload_n 0, 1) := by decide +kernel
theorem dX9_nextProbe_36 : decode cX9_nextProbe 36 = .ok (.getfield 30, 3) := by decide +kernel
theorem dX9_nextProbe_39 : decode cX9_nextProbe 39 = .ok (.getfield 188, 3) := by decide +kernel
theorem dX9_nextProbe_42 : decode cX9_nextProbe 42 = .ok (.iconst 1, 1) := by decide +kernel
theorem dX9_nextProbe_43 : decode cX9_nextProbe 43 = .ok (.iadd, 1) := by decide +kernel
theorem dX9_nextProbe_44 : decode cX9_nextProbe 44 = .ok (.if_icmp .le 23, 3) := by decide +kernel
theorem dX9_nextProbe_47 : decode cX9_nextProbe 47 = .ok (.aload_n 0, 1) := by decide +kernel
theorem dX9_nextProbe_48 : decode cX9_nextProbe 48 = .ok (.getfield 30, 3) := by decide +kernel
theorem dX9_nextProbe_51 : decode cX9_nextProbe 51 = .ok (.getfield 188, 3) := by decide +kernel
theorem dX9_nextProbe_54 : decode cX9_nextProbe 54 = .ok (.aload_n 0, 1) := by decide +kernel
theorem dX9_nextProbe_55 : decode cX9_nextProbe 55 = .ok (.getfield 30, 3) := by decide +kernel
theorem dX9_nextProbe_58 : decode cX9_nextProbe 58 = .ok (.getfield 191, 3) := by decide +kernel
theorem dX9_nextProbe_61 : decode cX9_nextProbe 61 = .ok (.iadd, 1) := by decide +kernel
theorem dX9_nextProbe_62 : decode cX9_nextProbe 62 = .ok (.iconst 2, 1) := by decide +kernel
theorem dX9_nextProbe_63 : decode cX9_nextProbe 63 = .ok (.idiv, 1) := by decide +kernel
theorem dX9_nextProbe_64 : decode cX9_nextProbe 64 = .ok (.goto 4, 3) := by decide +kernel
theorem dX9_nextProbe_67 : decode cX9_nextProbe 67 = .ok (.iconst (-1), 1) := by decide +kernel
theorem dX9_nextProbe_68 : decode cX9_nextProbe 68 = .ok (.ireturn, 1) := by decide +kernel
/-! X9_outputByte -/
theorem dX9_outputByte_0 : decode cX9_outputByte 0 = .ok (.aload_n 0, 1) := by decide +kernel
theorem dX9_outputByte_1 : decode cX9_outputByte 1 = .ok (.getfield 19, 3) := by decide +kernel
theorem dX9_outputByte_4 : decode cX9_outputByte 4 = .ok (.iload_n 1, 1) := by decide +kernel
theorem dX9_outputByte_5 : decode cX9_outputByte 5 = .ok (.invokevirtual 433, 3) := by decide +kernel
theorem dX9_outputByte_8 : decode cX9_outputByte 8 = .ok (.ireturn, 1) := by decide +kernel
/-! X9_ownByte -/
theorem dX9_ownByte_0 : decode cX9_ownByte 0 = .ok (.aload_n 0, 1) := by decide +kernel
theorem dX9_ownByte_1 : decode cX9_ownByte 1 = .ok (.iload_n 1, 1) := by decide +kernel
theorem dX9_ownByte_2 : decode cX9_ownByte 2 = .ok (.invokevirtual 245, 3) := by decide +kernel
theorem dX9_ownByte_5 : decode cX9_ownByte 5 = .ok (.astore_n 3, 1) := by decide +kernel
theorem dX9_ownByte_6 : decode cX9_ownByte 6 = .ok (.iload_n 2, 1) := by decide +kernel
theorem dX9_ownByte_7 : decode cX9_ownByte 7 = .ok (.ifCond .lt 19, 3) := by decide +kernel
theorem dX9_ownByte_10 : decode cX9_ownByte 10 = .ok (.iload_n 2, 1) := by decide +kernel
theorem dX9_ownByte_11 : decode cX9_ownByte 11 = .ok (.aload_n 3, 1) := by decide +kernel
theorem dX9_ownByte_12 : decode cX9_ownByte 12 = .ok (.getfield 248, 3) := by decide +kernel
theorem dX9_ownByte_15 : decode cX9_ownByte 15 = .ok (.if_icmp .ge 11, 3) := by decide +kernel
theorem dX9_ownByte_18 : decode cX9_ownByte 18 = .ok (.aload_n 3, 1) := by decide +kernel
theorem dX9_ownByte_19 : decode cX9_ownByte 19 = .ok (.iload_n 2, 1) := by decide +kernel
theorem dX9_ownByte_20 : decode cX9_ownByte 20 = .ok (.invokevirtual 271, 3) := by decide +kernel
theorem dX9_ownByte_23 : decode cX9_ownByte 23 = .ok (.goto 4, 3) := by decide +kernel
theorem dX9_ownByte_26 : decode cX9_ownByte 26 = .ok (.iconst (-1), 1) := by decide +kernel
theorem dX9_ownByte_27 : decode cX9_ownByte 27 = .ok (.ireturn, 1) := by decide +kernel
/-! X9_packet -/
theorem dX9_packet_0 : decode cX9_packet 0 = .ok (.aload_n 0, 1) := by decide +kernel
theorem dX9_packet_1 : decode cX9_packet 1 = .ok (.getfield 30, 3) := by decide +kernel
theorem dX9_packet_4 : decode cX9_packet 4 = .ok (.getfield 194, 3) := by decide +kernel
theorem dX9_packet_7 : decode cX9_packet 7 = .ok (.iload_n 1, 1) := by decide +kernel
theorem dX9_packet_8 : decode cX9_packet 8 = .ok (.invokevirtual 274, 3) := by decide +kernel
theorem dX9_packet_11 : decode cX9_packet 11 = .ok (.istore_n 3, 1) := by decide +kernel
theorem dX9_packet_12 : decode cX9_packet 12 = .ok (.iload_n 3, 1) := by decide +kernel
theorem dX9_packet_13 : decode cX9_packet 13 = .ok (.iconst (-1), 1) := by decide +kernel
theorem dX9_packet_14 : decode cX9_packet 14 = .ok (.if_icmp .ne 14, 3) := by decide +kernel
theorem dX9_packet_17 : decode cX9_packet 17 = .ok (.new 277, 3) := by decide +kernel
theorem dX9_packet_20 : decode cX9_packet 20 = .ok (.dup, 1) := by decide +kernel
theorem dX9_packet_21 : decode cX9_packet 21 = .ok (.ldc_w 279, 3) := by decide +kernel
theorem dX9_packet_24 : decode cX9_packet 24 = .ok (.invokespecial 281, 3) := by decide +kernel
theorem dX9_packet_27 : decode cX9_packet 27 = .ok (.athrow, 1) := by decide +kernel
theorem dX9_packet_28 : decode cX9_packet 28 = .ok (.iload_n 2, 1) := by decide +kernel
theorem dX9_packet_29 : decode cX9_packet 29 = .ok (.iconst 0, 1) := by decide +kernel
theorem dX9_packet_30 : decode cX9_packet 30 = .ok (.bipush 6, 2) := by decide +kernel
theorem dX9_packet_32 : decode cX9_packet 32 = .ok (.invokestatic 76, 3) := by decide +kernel
theorem dX9_packet_35 : decode cX9_packet 35 = .ok (.iload_n 2, 1) := by decide +kernel
theorem dX9_packet_36 : decode cX9_packet 36 = .ok (.tableswitch 132 0 5 #[40, 55, 70, 85, 100, 115], 40) := by decide +kernel
theorem dX9_packet_76 : decode cX9_packet 76 = .ok (.aload_n 0, 1) := by decide +kernel
theorem dX9_packet_77 : decode cX9_packet 77 = .ok (.getfield 30, 3) := by decide +kernel
theorem dX9_packet_80 : decode cX9_packet 80 = .ok (.getfield 194, 3) := by decide +kernel
theorem dX9_packet_83 : decode cX9_packet 83 = .ok (.getfield 282, 3) := by decide +kernel
theorem dX9_packet_86 : decode cX9_packet 86 = .ok (.iload_n 3, 1) := by decide +kernel
theorem dX9_packet_87 : decode cX9_packet 87 = .ok (.invokestatic 285, 3) := by decide +kernel
theorem dX9_packet_90 : decode cX9_packet 90 = .ok (.ireturn, 1) := by decide +kernel
theorem dX9_packet_91 : decode cX9_packet 91 = .ok (.aload_n 0, 1) := by decide +kernel
theorem dX9_packet_92 : decode cX9_packet 92 = .ok (.getfield 30, 3) := by decide +kernel
theorem dX9_packet_95 : decode cX9_packet 95 = .ok (.getfield 194, 3) := by decide +kernel
theorem dX9_packet_98 : decode cX9_packet 98 = .ok (.getfield 289, 3) := by decide +kernel
theorem dX9_packet_101 : decode cX9_packet 101 = .ok (.iload_n 3, 1) := by decide +kernel
theorem dX9_packet_102 : decode cX9_packet 102 = .ok (.invokestatic 285, 3) := by decide +kernel
theorem dX9_packet_105 : decode cX9_packet 105 = .ok (.ireturn, 1) := by decide +kernel
theorem dX9_packet_106 : decode cX9_packet 106 = .ok (.aload_n 0, 1) := by decide +kernel
theorem dX9_packet_107 : decode cX9_packet 107 = .ok (.getfield 30, 3) := by decide +kernel
theorem dX9_packet_110 : decode cX9_packet 110 = .ok (.getfield 194, 3) := by decide +kernel
theorem dX9_packet_113 : decode cX9_packet 113 = .ok (.getfield 292, 3) := by decide +kernel
theorem dX9_packet_116 : decode cX9_packet 116 = .ok (.iload_n 3, 1) := by decide +kernel
theorem dX9_packet_117 : decode cX9_packet 117 = .ok (.invokestatic 285, 3) := by decide +kernel
theorem dX9_packet_120 : decode cX9_packet 120 = .ok (.ireturn, 1) := by decide +kernel
theorem dX9_packet_121 : decode cX9_packet 121 = .ok (.aload_n 0, 1) := by decide +kernel
theorem dX9_packet_122 : decode cX9_packet 122 = .ok (.getfield 30, 3) := by decide +kernel
theorem dX9_packet_125 : decode cX9_packet 125 = .ok (.getfield 194, 3) := by decide +kernel
theorem dX9_packet_128 : decode cX9_packet 128 = .ok (.getfield 295, 3) := by decide +kernel
theorem dX9_packet_131 : decode cX9_packet 131 = .ok (.iload_n 3, 1) := by decide +kernel
theorem dX9_packet_132 : decode cX9_packet 132 = .ok (.invokestatic 285, 3) := by decide +kernel
theorem dX9_packet_135 : decode cX9_packet 135 = .ok (.ireturn, 1) := by decide +kernel
theorem dX9_packet_136 : decode cX9_packet 136 = .ok (.aload_n 0, 1) := by decide +kernel
theorem dX9_packet_137 : decode cX9_packet 137 = .ok (.getfield 30, 3) := by decide +kernel
theorem dX9_packet_140 : decode cX9_packet 140 = .ok (.getfield 194, 3) := by decide +kernel
theorem dX9_packet_143 : decode cX9_packet 143 = .ok (.getfield 298, 3) := by decide +kernel
theorem dX9_packet_146 : decode cX9_packet 146 = .ok (.iload_n 3, 1) := by decide +kernel
theorem dX9_packet_147 : decode cX9_packet 147 = .ok (.invokestatic 285, 3) := by decide +kernel
theorem dX9_packet_150 : decode cX9_packet 150 = .ok (.ireturn, 1) := by decide +kernel
theorem dX9_packet_151 : decode cX9_packet 151 = .ok (.aload_n 0, 1) := by decide +kernel
theorem dX9_packet_152 : decode cX9_packet 152 = .ok (.getfield 30, 3) := by decide +kernel
theorem dX9_packet_155 : decode cX9_packet 155 = .ok (.iload_n 3, 1) := by decide +kernel
theorem dX9_packet_156 : decode cX9_packet 156 = .ok (.invokevirtual 300, 3) := by decide +kernel
theorem dX9_packet_159 : decode cX9_packet 159 = .ok (.ifCond .eq 7, 3) := by decide +kernel
theorem dX9_packet_162 : decode cX9_packet 162 = .ok (.iconst 1, 1) := by decide +kernel
theorem dX9_packet_163 : decode cX9_packet 163 = .ok (.goto 4, 3) := by decide +kernel
theorem dX9_packet_166 : decode cX9_packet 166 = .ok (.iconst 0, 1) := by decide +kernel
theorem dX9_packet_167 : decode cX9_packet 167 = .ok (.ireturn, 1) := by decide +kernel
theorem dX9_packet_168 : decode cX9_packet 168 = .ok (.aload_n 0, 1) := by decide +kernel
theorem dX9_packet_169 : decode cX9_packet 169 = .ok (.getfield 30, 3) := by decide +kernel
theorem dX9_packet_172 : decode cX9_packet 172 = .ok (.aload_n 0, 1) := by decide +kernel
theorem dX9_packet_173 : decode cX9_packet 173 = .ok (.getfield 30, 3) := by decide +kernel
theorem dX9_packet_176 : decode cX9_packet 176 = .ok (.getfield 194, 3) := by decide +kernel
theorem dX9_packet_179 : decode cX9_packet 179 = .ok (.getfield 292, 3) := by decide +kernel
theorem dX9_packet_182 : decode cX9_packet 182 = .ok (.iload_n 3, 1) := by decide +kernel
theorem dX9_packet_183 : decode cX9_packet 183 = .ok (.invokestatic 285, 3) := by decide +kernel
theorem dX9_packet_186 : decode cX9_packet 186 = .ok (.invokevirtual 303, 3) := by decide +kernel
theorem dX9_packet_189 : decode cX9_packet 189 = .ok (.ifCond .eq 7, 3) := by decide +kernel
theorem dX9_packet_192 : decode cX9_packet 192 = .ok (.iconst 1, 1) := by decide +kernel
theorem dX9_packet_193 : decode cX9_packet 193 = .ok (.goto 4, 3) := by decide +kernel
theorem dX9_packet_196 : decode cX9_packet 196 = .ok (.iconst 0, 1) := by decide +kernel
theorem dX9_packet_197 : decode cX9_packet 197 = .ok (.ireturn, 1) := by decide +kernel
/-! X9_pass -/
theorem dX9_pass_0 : decode cX9_pass 0 = .ok (.iload_n 1, 1) := by decide +kernel
theorem dX9_pass_1 : decode cX9_pass 1 = .ok (.iconst 1, 1) := by decide +kernel
theorem dX9_pass_2 : decode cX9_pass 2 = .ok (.sipush 500, 3) := by decide +kernel
theorem dX9_pass_5 : decode cX9_pass 5 = .ok (.invokestatic 76, 3) := by decide +kernel
theorem dX9_pass_8 : decode cX9_pass 8 = .ok (.aload_n 0, 1) := by decide +kernel
theorem dX9_pass_9 : decode cX9_pass 9 = .ok (.getfield 30, 3) := by decide +kernel
theorem dX9_pass_12 : decode cX9_pass 12 = .ok (.getfield 145, 3) := by decide +kernel
theorem dX9_pass_15 : decode cX9_pass 15 = .ok (.iload_n 1, 1) := by decide +kernel
theorem dX9_pass_16 : decode cX9_pass 16 = .ok (.iadd, 1) := by decide +kernel
theorem dX9_pass_17 : decode cX9_pass 17 = .ok (.sipush 9999, 3) := by decide +kernel
theorem dX9_pass_20 : decode cX9_pass 20 = .ok (.if_icmp .le 6, 3) := by decide +kernel
theorem dX9_pass_23 : decode cX9_pass 23 = .ok (.bipush (-3), 2) := by decide +kernel
theorem dX9_pass_25 : decode cX9_pass 25 = .ok (.ireturn, 1) := by decide +kernel
theorem dX9_pass_26 : decode cX9_pass 26 = .ok (.aload_n 0, 1) := by decide +kernel
theorem dX9_pass_27 : decode cX9_pass 27 = .ok (.invokevirtual 122, 3) := by decide +kernel
theorem dX9_pass_30 : decode cX9_pass 30 = .ok (.aload_n 0, 1) := by decide +kernel
theorem dX9_pass_31 : decode cX9_pass 31 = .ok (.getfield 30, 3) := by decide +kernel
theorem dX9_pass_34 : decode cX9_pass 34 = .ok (.invokevirtual 218, 3) := by decide +kernel
theorem dX9_pass_37 : decode cX9_pass 37 = .ok (.istore_n 2, 1) := by decide +kernel
theorem dX9_pass_38 : decode cX9_pass 38 = .ok (.iconst 0, 1) := by decide +kernel
theorem dX9_pass_39 : decode cX9_pass 39 = .ok (.istore_n 3, 1) := by decide +kernel
theorem dX9_pass_40 : decode cX9_pass 40 = .ok (.iload_n 3, 1) := by decide +kernel
theorem dX9_pass_41 : decode cX9_pass 41 = .ok (.iload_n 1, 1) := by decide +kernel
theorem dX9_pass_42 : decode cX9_pass 42 = .ok (.if_icmp .ge 16, 3) := by decide +kernel
theorem dX9_pass_45 : decode cX9_pass 45 = .ok (.aload_n 0, 1) := by decide +kernel
theorem dX9_pass_46 : decode cX9_pass 46 = .ok (.getfield 30, 3) := by decide +kernel
theorem dX9_pass_49 : decode cX9_pass 49 = .ok (.invokevirtual 148, 3) := by decide +kernel
theorem dX9_pass_52 : decode cX9_pass 52 = .ok (.iinc 3 1, 3) := by decide +kernel
theorem dX9_pass_55 : decode cX9_pass 55 = .ok (.goto (-15), 3) := by decide +kernel
theorem dX9_pass_58 : decode cX9_pass 58 = .ok (.aload_n 0, 1) := by decide +kernel
theorem dX9_pass_59 : decode cX9_pass 59 = .ok (.getfield 30, 3) := by decide +kernel
theorem dX9_pass_62 : decode cX9_pass 62 = .ok (.invokevirtual 218, 3) := by decide +kernel
theorem dX9_pass_65 : decode cX9_pass 65 = .ok (.iload_n 2, 1) := by decide +kernel
theorem dX9_pass_66 : decode cX9_pass 66 = .ok (.isub, 1) := by decide +kernel
theorem dX9_pass_67 : decode cX9_pass 67 = .ok (.ireturn, 1) := by decide +kernel
/-! X9_pathIn -/
theorem dX9_pathIn_0 : decode cX9_pathIn 0 = .ok (.iload_n 1, 1) := by decide +kernel
theorem dX9_pathIn_1 : decode cX9_pathIn 1 = .ok (.iconst 0, 1) := by decide +kernel
theorem dX9_pathIn_2 : decode cX9_pathIn 2 = .ok (.sipush 600, 3) := by decide +kernel
theorem dX9_pathIn_5 : decode cX9_pathIn 5 = .ok (.invokestatic 76, 3) := by decide +kernel
theorem dX9_pathIn_8 : decode cX9_pathIn 8 = .ok (.aload_n 0, 1) := by decide +kernel
theorem dX9_pathIn_9 : decode cX9_pathIn 9 = .ok (.aload_n 0, 1) := by decide +kernel
theorem dX9_pathIn_10 : decode cX9_pathIn 10 = .ok (.aload_n 0, 1) := by decide +kernel
theorem dX9_pathIn_11 : decode cX9_pathIn 11 = .ok (.getfield 45, 3) := by decide +kernel
theorem dX9_pathIn_14 : decode cX9_pathIn 14 = .ok (.invokevirtual 396, 3) := by decide +kernel
theorem dX9_pathIn_17 : decode cX9_pathIn 17 = .ok (.putfield 45, 3) := by decide +kernel
theorem dX9_pathIn_20 : decode cX9_pathIn 20 = .ok (.aload_n 0, 1) := by decide +kernel
theorem dX9_pathIn_21 : decode cX9_pathIn 21 = .ok (.getfield 45, 3) := by decide +kernel
theorem dX9_pathIn_24 : decode cX9_pathIn 24 = .ok (.iload_n 1, 1) := by decide +kernel
theorem dX9_pathIn_25 : decode cX9_pathIn 25 = .ok (.invokestatic 400, 3) := by decide +kernel
theorem dX9_pathIn_28 : decode cX9_pathIn 28 = .ok (.aload_n 0, 1) := by decide +kernel
theorem dX9_pathIn_29 : decode cX9_pathIn 29 = .ok (.getfield 45, 3) := by decide +kernel
theorem dX9_pathIn_32 : decode cX9_pathIn 32 = .ok (.getfield 185, 3) := by decide +kernel
theorem dX9_pathIn_35 : decode cX9_pathIn 35 = .ok (.ireturn, 1) := by decide +kernel
/-! X9_pieces -/
theorem dX9_pieces_0 : decode cX9_pieces 0 = .ok (.aload_n 0, 1) := by decide +kernel
theorem dX9_pieces_1 : decode cX9_pieces 1 = .ok (.iload_n 2, 1) := by decide +kernel
theorem dX9_pieces_2 : decode cX9_pieces 2 = .ok (.invokevirtual 221, 3) := by decide +kernel
theorem dX9_pieces_5 : decode cX9_pieces 5 = .ok (.pop, 1) := by decide +kernel
theorem dX9_pieces_6 : decode cX9_pieces 6 = .ok (.iload_n 1, 1) := by decide +kernel
theorem dX9_pieces_7 : decode cX9_pieces 7 = .ok (.iconst 1, 1) := by decide +kernel
theorem dX9_pieces_8 : decode cX9_pieces 8 = .ok (.sipush 1000, 3) := by decide +kernel
theorem dX9_pieces_11 : decode cX9_pieces 11 = .ok (.invokestatic 76, 3) := by decide +kernel
theorem dX9_pieces_14 : decode cX9_pieces 14 = .ok (.aload_n 0, 1) := by decide +kernel
theorem dX9_pieces_15 : decode cX9_pieces 15 = .ok (.getfield 23, 3) := by decide +kernel
theorem dX9_pieces_18 : decode cX9_pieces 18 = .ok (.iconst 1, 1) := by decide +kernel
theorem dX9_pieces_19 : decode cX9_pieces 19 = .ok (.invokestatic 360, 3) := by decide +kernel
theorem dX9_pieces_22 : decode cX9_pieces 22 = .ok (.iload_n 2, 1) := by decide +kernel
theorem dX9_pieces_23 : decode cX9_pieces 23 = .ok (.istore_n 3, 1) := by decide +kernel
theorem dX9_pieces_24 : decode cX9_pieces 24 = .ok (.iload_n 3, 1) := by decide +kernel
theorem dX9_pieces_25 : decode cX9_pieces 25 = .ok (.ifCond .lt 16, 3) := by decide +kernel
theorem dX9_pieces_28 : decode cX9_pieces 28 = .ok (.aload_n 0, 1) := by decide +kernel
theorem dX9_pieces_29 : decode cX9_pieces 29 = .ok (.iload_n 3, 1) := by decide +kernel
theorem dX9_pieces_30 : decode cX9_pieces 30 = .ok (.iload_n 1, 1) := by decide +kernel
theorem dX9_pieces_31 : decode cX9_pieces 31 = .ok (.iconst 0, 1) := by decide +kernel
theorem dX9_pieces_32 : decode cX9_pieces 32 = .ok (.invokevirtual 366, 3) := by decide +kernel
theorem dX9_pieces_35 : decode cX9_pieces 35 = .ok (.iinc 3 (-1), 3) := by decide +kernel
theorem dX9_pieces_38 : decode cX9_pieces 38 = .ok (.goto (-14), 3) := by decide +kernel
theorem dX9_pieces_41 : decode cX9_pieces 41 = .ok (.aload_n 0, 1) := by decide +kernel
theorem dX9_pieces_42 : decode cX9_pieces 42 = .ok (.getfield 23, 3) := by decide +kernel
theorem dX9_pieces_45 : decode cX9_pieces 45 = .ok (.iload_n 1, 1) := by decide +kernel
theorem dX9_pieces_46 : decode cX9_pieces 46 = .ok (.invokestatic 285, 3) := by decide +kernel
theorem dX9_pieces_49 : decode cX9_pieces 49 = .ok (.ireturn, 1) := by decide +kernel
/-! X9_placeOf -/
theorem dX9_placeOf_0 : decode cX9_placeOf 0 = .ok (.aload_n 0, 1) := by decide +kernel
theorem dX9_placeOf_1 : decode cX9_placeOf 1 = .ok (.getfield 38, 3) := by decide +kernel
theorem dX9_placeOf_4 : decode cX9_placeOf 4 = .ok (.iload_n 1, 1) := by decide +kernel
theorem dX9_placeOf_5 : decode cX9_placeOf 5 = .ok (.iadd, 1) := by decide +kernel
theorem dX9_placeOf_6 : decode cX9_placeOf 6 = .ok (.bipush 8, 2) := by decide +kernel
theorem dX9_placeOf_8 : decode cX9_placeOf 8 = .ok (.invokestatic 443, 3) := by decide +kernel
theorem dX9_placeOf_11 : decode cX9_placeOf 11 = .ok (.ireturn, 1) := by decide +kernel
/-! X9_probe -/
theorem dX9_probe_0 : decode cX9_probe 0 = .ok (.iload_n 1, 1) := by decide +kernel
theorem dX9_probe_1 : decode cX9_probe 1 = .ok (.bipush 28, 2) := by decide +kernel
theorem dX9_probe_3 : decode cX9_probe 3 = .ok (.sipush 1500, 3) := by decide +kernel
theorem dX9_probe_6 : decode cX9_probe 6 = .ok (.invokestatic 76, 3) := by decide +kernel
theorem dX9_probe_9 : decode cX9_probe 9 = .ok (.aload_n 0, 1) := by decide +kernel
theorem dX9_probe_10 : decode cX9_probe 10 = .ok (.invokevirtual 122, 3) := by decide +kernel
theorem dX9_probe_13 : decode cX9_probe 13 = .ok (.aload_n 0, 1) := by decide +kernel
theorem dX9_probe_14 : decode cX9_probe 14 = .ok (.getfield 30, 3) := by decide +kernel
theorem dX9_probe_17 : decode cX9_probe 17 = .ok (.iload_n 1, 1) := by decide +kernel
theorem dX9_probe_18 : decode cX9_probe 18 = .ok (.invokevirtual 131, 3) := by decide +kernel
theorem dX9_probe_21 : decode cX9_probe 21 = .ok (.aload_n 0, 1) := by decide +kernel
theorem dX9_probe_22 : decode cX9_probe 22 = .ok (.getfield 30, 3) := by decide +kernel
theorem dX9_probe_25 : decode cX9_probe 25 = .ok (.getfield 194, 3) := by decide +kernel
theorem dX9_probe_28 : decode cX9_probe 28 = .ok (.getfield 198, 3) := by decide +kernel
theorem dX9_probe_31 : decode cX9_probe 31 = .ok (.ireturn, 1) := by decide +kernel
/-! X9_quietIn -/
theorem dX9_quietIn_0 : decode cX9_quietIn 0 = .ok (.aload_n 0, 1) := by decide +kernel
theorem dX9_quietIn_1 : decode cX9_quietIn 1 = .ok (.iconst 2, 1) := by decide +kernel
theorem dX9_quietIn_2 : decode cX9_quietIn 2 = .ok (.iconst (-1), 1) := by decide +kernel
theorem dX9_quietIn_3 : decode cX9_quietIn 3 = .ok (.invokevirtual 393, 3) := by decide +kernel
theorem dX9_quietIn_6 : decode cX9_quietIn 6 = .ok (.ireturn, 1) := by decide +kernel
/-! X9_readText -/
theorem dX9_readText_0 : decode cX9_readText 0 = .ok (.aload_n 0, 1) := by decide +kernel
theorem dX9_readText_1 : decode cX9_readText 1 = .ok (.getfield 10, 3) := by decide +kernel
theorem dX9_readText_4 : decode cX9_readText 4 = .ok (.iconst 0, 1) := by decide +kernel
theorem dX9_readText_5 : decode cX9_readText 5 = .ok (.invokevirtual 79, 3) := by decide +kernel
theorem dX9_readText_8 : decode cX9_readText 8 = .ok (.ifCond .ne 13, 3) := by decide +kernel
theorem dX9_readText_11 : decode cX9_readText 11 = .ok (.new 83, 3) := by decide +kernel
theorem dX9_readText_14 : decode cX9_readText 14 = .ok (.dup, 1) := by decide +kernel
theorem dX9_readText_15 : decode cX9_readText 15 = .ok (.ldc 85, 2) := by decide +kernel
theorem dX9_readText_17 : decode cX9_readText 17 = .ok (.invokespecial 87, 3) := by decide +kernel
theorem dX9_readText_20 : decode cX9_readText 20 = .ok (.athrow, 1) := by decide +kernel
theorem dX9_readText_21 : decode cX9_readText 21 = .ok (.aload_n 0, 1) := by decide +kernel
theorem dX9_readText_22 : decode cX9_readText 22 = .ok (.getfield 30, 3) := by decide +kernel
theorem dX9_readText_25 : decode cX9_readText 25 = .ok (.invokevirtual 88, 3) := by decide +kernel
theorem dX9_readText_28 : decode cX9_readText 28 = .ok (.iconst 0, 1) := by decide +kernel
theorem dX9_readText_29 : decode cX9_readText 29 = .ok (.istore_n 1, 1) := by decide +kernel
theorem dX9_readText_30 : decode cX9_readText 30 = .ok (.iload_n 1, 1) := by decide +kernel
theorem dX9_readText_31 : decode cX9_readText 31 = .ok (.aload_n 0, 1) := by decide +kernel
theorem dX9_readText_32 : decode cX9_readText 32 = .ok (.getfield 10, 3) := by decide +kernel
theorem dX9_readText_35 : decode cX9_readText 35 = .ok (.getfield 91, 3) := by decide +kernel
theorem dX9_readText_38 : decode cX9_readText 38 = .ok (.if_icmp .ge 14, 3) := by decide +kernel
theorem dX9_readText_41 : decode cX9_readText 41 = .ok (.aload_n 0, 1) := by decide +kernel
theorem dX9_readText_42 : decode cX9_readText 42 = .ok (.iload_n 1, 1) := by decide +kernel
theorem dX9_readText_43 : decode cX9_readText 43 = .ok (.invokevirtual 94, 3) := by decide +kernel
theorem dX9_readText_46 : decode cX9_readText 46 = .ok (.iinc 1 1, 3) := by decide +kernel
theorem dX9_readText_49 : decode cX9_readText 49 = .ok (.goto (-19), 3) := by decide +kernel
theorem dX9_readText_52 : decode cX9_readText 52 = .ok (.aload_n 0, 1) := by decide +kernel
theorem dX9_readText_53 : decode cX9_readText 53 = .ok (.getfield 30, 3) := by decide +kernel
theorem dX9_readText_56 : decode cX9_readText 56 = .ok (.invokevirtual 55, 3) := by decide +kernel
theorem dX9_readText_59 : decode cX9_readText 59 = .ok (.iconst 0, 1) := by decide +kernel
theorem dX9_readText_60 : decode cX9_readText 60 = .ok (.istore_n 1, 1) := by decide +kernel
theorem dX9_readText_61 : decode cX9_readText 61 = .ok (.iload_n 1, 1) := by decide +kernel
theorem dX9_readText_62 : decode cX9_readText 62 = .ok (.aload_n 0, 1) := by decide +kernel
theorem dX9_readText_63 : decode cX9_readText 63 = .ok (.getfield 10, 3) := by decide +kernel
theorem dX9_readText_66 : decode cX9_readText 66 = .ok (.getfield 91, 3) := by decide +kernel
theorem dX9_readText_69 : decode cX9_readText 69 = .ok (.if_icmp .ge 55, 3) := by decide +kernel
theorem dX9_readText_72 : decode cX9_readText 72 = .ok (.aload_n 0, 1) := by decide +kernel
theorem dX9_readText_73 : decode cX9_readText 73 = .ok (.getfield 10, 3) := by decide +kernel
theorem dX9_readText_76 : decode cX9_readText 76 = .ok (.iload_n 1, 1) := by decide +kernel
theorem dX9_readText_77 : decode cX9_readText 77 = .ok (.invokevirtual 97, 3) := by decide +kernel
theorem dX9_readText_80 : decode cX9_readText 80 = .ok (.iconst 3, 1) := by decide +kernel
theorem dX9_readText_81 : decode cX9_readText 81 = .ok (.if_icmp .ne 37, 3) := by decide +kernel
theorem dX9_readText_84 : decode cX9_readText 84 = .ok (.aload_n 0, 1) := by decide +kernel
theorem dX9_readText_85 : decode cX9_readText 85 = .ok (.getfield 30, 3) := by decide +kernel
theorem dX9_readText_88 : decode cX9_readText 88 = .ok (.aload_n 0, 1) := by decide +kernel
theorem dX9_readText_89 : decode cX9_readText 89 = .ok (.getfield 10, 3) := by decide +kernel
theorem dX9_readText_92 : decode cX9_readText 92 = .ok (.iload_n 1, 1) := by decide +kernel
theorem dX9_readText_93 : decode cX9_readText 93 = .ok (.iconst 0, 1) := by decide +kernel
theorem dX9_readText_94 : decode cX9_readText 94 = .ok (.invokevirtual 101, 3) := by decide +kernel
theorem dX9_readText_97 : decode cX9_readText 97 = .ok (.aload_n 0, 1) := by decide +kernel
theorem dX9_readText_98 : decode cX9_readText 98 = .ok (.getfield 10, 3) := by decide +kernel
theorem dX9_readText_101 : decode cX9_readText 101 = .ok (.iload_n 1, 1) := by decide +kernel
theorem dX9_readText_102 : decode cX9_readText 102 = .ok (.iconst 1, 1) := by decide +kernel
theorem dX9_readText_103 : decode cX9_readText 103 = .ok (.invokevirtual 101, 3) := by decide +kernel
theorem dX9_readText_106 : decode cX9_readText 106 = .ok (.aload_n 0, 1) := by decide +kernel
theorem dX9_readText_107 : decode cX9_readText 107 = .ok (.getfield 10, 3) := by decide +kernel
theorem dX9_readText_110 : decode cX9_readText 110 = .ok (.iload_n 1, 1) := by decide +kernel
theorem dX9_readText_111 : decode cX9_readText 111 = .ok (.invokevirtual 105, 3) := by decide +kernel
theorem dX9_readText_114 : decode cX9_readText 114 = .ok (.invokevirtual 109, 3) := by decide +kernel
theorem dX9_readText_117 : decode cX9_readText 117 = .ok (.pop, 1) := by decide +kernel
theorem dX9_readText_118 : decode cX9_readText 118 = .ok (.iinc 1 1, 3) := by decide +kernel
theorem dX9_readText_121 : decode cX9_readText 121 = .ok (.goto (-60), 3) := by decide +kernel
theorem dX9_readText_124 : decode cX9_readText 124 = .ok (.aload_n 0, 1) := by decide +kernel
theorem dX9_readText_125 : decode cX9_readText 125 = .ok (.iconst 0, 1) := by decide +kernel
theorem dX9_readText_126 : decode cX9_readText 126 = .ok (.putfield 42, 3) := by decide +kernel
theorem dX9_readText_129 : decode cX9_readText 129 = .ok (.aload_n 0, 1) := by decide +kernel
theorem dX9_readText_130 : decode cX9_readText 130 = .ok (.getfield 30, 3) := by decide +kernel
theorem dX9_readText_133 : decode cX9_readText 133 = .ok (.getfield 113, 3) := by decide +kernel
theorem dX9_readText_136 : decode cX9_readText 136 = .ok (.ireturn, 1) := by decide +kernel
/-! X9_remember -/
theorem dX9_remember_0 : decode cX9_remember 0 = .ok (.aload_n 0, 1) := by decide +kernel
theorem dX9_remember_1 : decode cX9_remember 1 = .ok (.getfield 42, 3) := by decide +kernel
theorem dX9_remember_4 : decode cX9_remember 4 = .ok (.bipush 8, 2) := by decide +kernel
theorem dX9_remember_6 : decode cX9_remember 6 = .ok (.if_icmp .ne 22, 3) := by decide +kernel
theorem dX9_remember_9 : decode cX9_remember 9 = .ok (.aload_n 0, 1) := by decide +kernel
theorem dX9_remember_10 : decode cX9_remember 10 = .ok (.aload_n 0, 1) := by decide +kernel
theorem dX9_remember_11 : decode cX9_remember 11 = .ok (.iconst 1, 1) := by decide +kernel
theorem dX9_remember_12 : decode cX9_remember 12 = .ok (.invokevirtual 434, 3) := by decide +kernel
theorem dX9_remember_15 : decode cX9_remember 15 = .ok (.putfield 38, 3) := by decide +kernel
theorem dX9_remember_18 : decode cX9_remember 18 = .ok (.aload_n 0, 1) := by decide +kernel
theorem dX9_remember_19 : decode cX9_remember 19 = .ok (.dup, 1) := by decide +kernel
theorem dX9_remember_20 : decode cX9_remember 20 = .ok (.getfield 42, 3) := by decide +kernel
theorem dX9_remember_23 : decode cX9_remember 23 = .ok (.iconst 1, 1) := by decide +kernel
theorem dX9_remember_24 : decode cX9_remember 24 = .ok (.isub, 1) := by decide +kernel
theorem dX9_remember_25 : decode cX9_remember 25 = .ok (.putfield 42, 3) := by decide +kernel
theorem dX9_remember_28 : decode cX9_remember 28 = .ok (.aload_n 0, 1) := by decide +kernel
theorem dX9_remember_29 : decode cX9_remember 29 = .ok (.aload_n 0, 1) := by decide +kernel
theorem dX9_remember_30 : decode cX9_remember 30 = .ok (.getfield 42, 3) := by decide +kernel
theorem dX9_remember_33 : decode cX9_remember 33 = .ok (.invokevirtual 434, 3) := by decide +kernel
theorem dX9_remember_36 : decode cX9_remember 36 = .ok (.istore_n 1, 1) := by decide +kernel
theorem dX9_remember_37 : decode cX9_remember 37 = .ok (.aload_n 0, 1) := by decide +kernel
theorem dX9_remember_38 : decode cX9_remember 38 = .ok (.getfield 34, 3) := by decide +kernel
theorem dX9_remember_41 : decode cX9_remember 41 = .ok (.iload_n 1, 1) := by decide +kernel
theorem dX9_remember_42 : decode cX9_remember 42 = .ok (.aload_n 0, 1) := by decide +kernel
theorem dX9_remember_43 : decode cX9_remember 43 = .ok (.aload_n 0, 1) := by decide +kernel
theorem dX9_remember_44 : decode cX9_remember 44 = .ok (.getfield 34, 3) := by decide +kernel
theorem dX9_remember_47 : decode cX9_remember 47 = .ok (.iload_n 1, 1) := by decide +kernel
theorem dX9_remember_48 : decode cX9_remember 48 = .ok (.aaload, 1) := by decide +kernel
theorem dX9_remember_49 : decode cX9_remember 49 = .ok (.invokevirtual 396, 3) := by decide +kernel
theorem dX9_remember_52 : decode cX9_remember 52 = .ok (.aastore, 1) := by decide +kernel
theorem dX9_remember_53 : decode cX9_remember 53 = .ok (.aload_n 0, 1) := by decide +kernel
theorem dX9_remember_54 : decode cX9_remember 54 = .ok (.dup, 1) := by decide +kernel
theorem dX9_remember_55 : decode cX9_remember 55 = .ok (.getfield 42, 3) := by decide +kernel
theorem dX9_remember_58 : decode cX9_remember 58 = .ok (.iconst 1, 1) := by decide +kernel
theorem dX9_remember_59 : decode cX9_remember 59 = .ok (.iadd, 1) := by decide +kernel
theorem dX9_remember_60 : decode cX9_remember 60 = .ok (.putfield 42, 3) := by decide +kernel
theorem dX9_remember_63 : decode cX9_remember 63 = .ok (.return_, 1) := by decide +kernel
/-! X9_restore -/
theorem dX9_restore_0 : decode cX9_restore 0 = .ok (.aload_n 0, 1) := by decide +kernel
theorem dX9_restore_1 : decode cX9_restore 1 = .ok (.getfield 48, 3) := by decide +kernel
theorem dX9_restore_4 : decode cX9_restore 4 = .ok (.ifnonnull 14, 3) := by decide +kernel
theorem dX9_restore_7 : decode cX9_restore 7 = .ok (.new 62, 3) := by decide +kernel
theorem dX9_restore_10 : decode cX9_restore 10 = .ok (.dup, 1) := by decide +kernel
theorem dX9_restore_11 : decode cX9_restore 11 = .ok (.ldc_w 441, 3) := by decide +kernel
theorem dX9_restore_14 : decode cX9_restore 14 = .ok (.invokespecial 66, 3) := by decide +kernel
theorem dX9_restore_17 : decode cX9_restore 17 = .ok (.athrow, 1) := by decide +kernel
theorem dX9_restore_18 : decode cX9_restore 18 = .ok (.aload_n 0, 1) := by decide +kernel
theorem dX9_restore_19 : decode cX9_restore 19 = .ok (.getfield 30, 3) := by decide +kernel
theorem dX9_restore_22 : decode cX9_restore 22 = .ok (.aload_n 0, 1) := by decide +kernel
theorem dX9_restore_23 : decode cX9_restore 23 = .ok (.getfield 48, 3) := by decide +kernel
theorem dX9_restore_26 : decode cX9_restore 26 = .ok (.invokevirtual 437, 3) := by decide +kernel
theorem dX9_restore_29 : decode cX9_restore 29 = .ok (.aload_n 0, 1) := by decide +kernel
theorem dX9_restore_30 : decode cX9_restore 30 = .ok (.iconst 0, 1) := by decide +kernel
theorem dX9_restore_31 : decode cX9_restore 31 = .ok (.putfield 42, 3) := by decide +kernel
theorem dX9_restore_34 : decode cX9_restore 34 = .ok (.aload_n 0, 1) := by decide +kernel
theorem dX9_restore_35 : decode cX9_restore 35 = .ok (.getfield 30, 3) := by decide +kernel
theorem dX9_restore_38 : decode cX9_restore 38 = .ok (.getfield 145, 3) := by decide +kernel
theorem dX9_restore_41 : decode cX9_restore 41 = .ok (.ireturn, 1) := by decide +kernel
/-! X9_runOrders -/
theorem dX9_runOrders_0 : decode cX9_runOrders 0 = .ok (.aload_n 0, 1) := by decide +kernel
theorem dX9_runOrders_1 : decode cX9_runOrders 1 = .ok (.getfield 10, 3) := by decide +kernel
theorem dX9_runOrders_4 : decode cX9_runOrders 4 = .ok (.iconst 1, 1) := by decide +kernel
theorem dX9_runOrders_5 : decode cX9_runOrders 5 = .ok (.invokevirtual 79, 3) := by decide +kernel
theorem dX9_runOrders_8 : decode cX9_runOrders 8 = .ok (.ifCond .ne 13, 3) := by decide +kernel
theorem dX9_runOrders_11 : decode cX9_runOrders 11 = .ok (.new 83, 3) := by decide +kernel
theorem dX9_runOrders_14 : decode cX9_runOrders 14 = .ok (.dup, 1) := by decide +kernel
theorem dX9_runOrders_15 : decode cX9_runOrders 15 = .ok (.ldc 85, 2) := by decide +kernel
theorem dX9_runOrders_17 : decode cX9_runOrders 17 = .ok (.invokespecial 87, 3) := by decide +kernel
theorem dX9_runOrders_20 : decode cX9_runOrders 20 = .ok (.athrow, 1) := by decide +kernel
theorem dX9_runOrders_21 : decode cX9_runOrders 21 = .ok (.aload_n 0, 1) := by decide +kernel
theorem dX9_runOrders_22 : decode cX9_runOrders 22 = .ok (.invokevirtual 122, 3) := by decide +kernel
theorem dX9_runOrders_25 : decode cX9_runOrders 25 = .ok (.iconst 0, 1) := by decide +kernel
theorem dX9_runOrders_26 : decode cX9_runOrders 26 = .ok (.istore_n 1, 1) := by decide +kernel
theorem dX9_runOrders_27 : decode cX9_runOrders 27 = .ok (.iload_n 1, 1) := by decide +kernel
theorem dX9_runOrders_28 : decode cX9_runOrders 28 = .ok (.aload_n 0, 1) := by decide +kernel
theorem dX9_runOrders_29 : decode cX9_runOrders 29 = .ok (.getfield 10, 3) := by decide +kernel
theorem dX9_runOrders_32 : decode cX9_runOrders 32 = .ok (.getfield 91, 3) := by decide +kernel
theorem dX9_runOrders_35 : decode cX9_runOrders 35 = .ok (.if_icmp .ge 17, 3) := by decide +kernel
theorem dX9_runOrders_38 : decode cX9_runOrders 38 = .ok (.aload_n 0, 1) := by decide +kernel
theorem dX9_runOrders_39 : decode cX9_runOrders 39 = .ok (.iload_n 1, 1) := by decide +kernel
theorem dX9_runOrders_40 : decode cX9_runOrders 40 = .ok (.invokevirtual 125, 3) := by decide +kernel
theorem dX9_runOrders_43 : decode cX9_runOrders 43 = .ok (.ifCond .eq 9, 3) := by decide +kernel
theorem dX9_runOrders_46 : decode cX9_runOrders 46 = .ok (.iinc 1 1, 3) := by decide +kernel
theorem dX9_runOrders_49 : decode cX9_runOrders 49 = .ok (.goto (-22), 3) := by decide +kernel
theorem dX9_runOrders_52 : decode cX9_runOrders 52 = .ok (.iload_n 1, 1) := by decide +kernel
theorem dX9_runOrders_53 : decode cX9_runOrders 53 = .ok (.ireturn, 1) := by decide +kernel
/-! X9_runTrial -/
theorem dX9_runTrial_0 : decode cX9_runTrial 0 = .ok (.iconst 0, 1) := by decide +kernel
theorem dX9_runTrial_1 : decode cX9_runTrial 1 = .ok (.istore_n 2, 1) := by decide +kernel
theorem dX9_runTrial_2 : decode cX9_runTrial 2 = .ok (.iload_n 2, 1) := by decide +kernel
theorem dX9_runTrial_3 : decode cX9_runTrial 3 = .ok (.iload_n 1, 1) := by decide +kernel
theorem dX9_runTrial_4 : decode cX9_runTrial 4 = .ok (.if_icmp .ge 20, 3) := by decide +kernel
theorem dX9_runTrial_7 : decode cX9_runTrial 7 = .ok (.aload_n 0, 1) := by decide +kernel
theorem dX9_runTrial_8 : decode cX9_runTrial 8 = .ok (.invokevirtual 404, 3) := by decide +kernel
theorem dX9_runTrial_11 : decode cX9_runTrial 11 = .ok (.ifCond .ne 13, 3) := by decide +kernel
theorem dX9_runTrial_14 : decode cX9_runTrial 14 = .ok (.aload_n 0, 1) := by decide +kernel
theorem dX9_runTrial_15 : decode cX9_runTrial 15 = .ok (.invokevirtual 148, 3) := by decide +kernel
theorem dX9_runTrial_18 : decode cX9_runTrial 18 = .ok (.iinc 2 1, 3) := by decide +kernel
theorem dX9_runTrial_21 : decode cX9_runTrial 21 = .ok (.goto (-19), 3) := by decide +kernel
theorem dX9_runTrial_24 : decode cX9_runTrial 24 = .ok (.return_, 1) := by decide +kernel
/-! X9_save -/
theorem dX9_save_0 : decode cX9_save 0 = .ok (.aload_n 0, 1) := by decide +kernel
theorem dX9_save_1 : decode cX9_save 1 = .ok (.aload_n 0, 1) := by decide +kernel
theorem dX9_save_2 : decode cX9_save 2 = .ok (.aload_n 0, 1) := by decide +kernel
theorem dX9_save_3 : decode cX9_save 3 = .ok (.getfield 48, 3) := by decide +kernel
theorem dX9_save_6 : decode cX9_save 6 = .ok (.invokevirtual 396, 3) := by decide +kernel
theorem dX9_save_9 : decode cX9_save 9 = .ok (.putfield 48, 3) := by decide +kernel
theorem dX9_save_12 : decode cX9_save 12 = .ok (.aload_n 0, 1) := by decide +kernel
theorem dX9_save_13 : decode cX9_save 13 = .ok (.getfield 30, 3) := by decide +kernel
theorem dX9_save_16 : decode cX9_save 16 = .ok (.getfield 145, 3) := by decide +kernel
theorem dX9_save_19 : decode cX9_save 19 = .ok (.ireturn, 1) := by decide +kernel
/-! X9_send -/
theorem dX9_send_0 : decode cX9_send 0 = .ok (.iload_n 1, 1) := by decide +kernel
theorem dX9_send_1 : decode cX9_send 1 = .ok (.iconst 1, 1) := by decide +kernel
theorem dX9_send_2 : decode cX9_send 2 = .ok (.sipush 1000, 3) := by decide +kernel
theorem dX9_send_5 : decode cX9_send 5 = .ok (.invokestatic 76, 3) := by decide +kernel
theorem dX9_send_8 : decode cX9_send 8 = .ok (.iload_n 2, 1) := by decide +kernel
theorem dX9_send_9 : decode cX9_send 9 = .ok (.iconst 0, 1) := by decide +kernel
theorem dX9_send_10 : decode cX9_send 10 = .ok (.sipush 255, 3) := by decide +kernel
theorem dX9_send_13 : decode cX9_send 13 = .ok (.invokestatic 76, 3) := by decide +kernel
theorem dX9_send_16 : decode cX9_send 16 = .ok (.aload_n 0, 1) := by decide +kernel
theorem dX9_send_17 : decode cX9_send 17 = .ok (.getfield 30, 3) := by decide +kernel
theorem dX9_send_20 : decode cX9_send 20 = .ok (.getfield 113, 3) := by decide +kernel
theorem dX9_send_23 : decode cX9_send 23 = .ok (.bipush 40, 2) := by decide +kernel
theorem dX9_send_25 : decode cX9_send 25 = .ok (.if_icmp .lt 5, 3) := by decide +kernel
theorem dX9_send_28 : decode cX9_send 28 = .ok (.iconst (-1), 1) := by decide +kernel
theorem dX9_send_29 : decode cX9_send 29 = .ok (.ireturn, 1) := by decide +kernel
theorem dX9_send_30 : decode cX9_send 30 = .ok (.aload_n 0, 1) := by decide +kernel
theorem dX9_send_31 : decode cX9_send 31 = .ok (.invokevirtual 122, 3) := by decide +kernel
theorem dX9_send_34 : decode cX9_send 34 = .ok (.aload_n 0, 1) := by decide +kernel
theorem dX9_send_35 : decode cX9_send 35 = .ok (.getfield 30, 3) := by decide +kernel
theorem dX9_send_38 : decode cX9_send 38 = .ok (.iload_n 1, 1) := by decide +kernel
theorem dX9_send_39 : decode cX9_send 39 = .ok (.iload_n 2, 1) := by decide +kernel
theorem dX9_send_40 : decode cX9_send 40 = .ok (.iload_n 3, 1) := by decide +kernel
theorem dX9_send_41 : decode cX9_send 41 = .ok (.invokevirtual 109, 3) := by decide +kernel
theorem dX9_send_44 : decode cX9_send 44 = .ok (.ireturn, 1) := by decide +kernel
/-! X9_setEvery -/
theorem dX9_setEvery_0 : decode cX9_setEvery 0 = .ok (.aload_n 0, 1) := by decide +kernel
theorem dX9_setEvery_1 : decode cX9_setEvery 1 = .ok (.iload_n 1, 1) := by decide +kernel
theorem dX9_setEvery_2 : decode cX9_setEvery 2 = .ok (.invokevirtual 221, 3) := by decide +kernel
theorem dX9_setEvery_5 : decode cX9_setEvery 5 = .ok (.astore_n 3, 1) := by decide +kernel
theorem dX9_setEvery_6 : decode cX9_setEvery 6 = .ok (.iload_n 2, 1) := by decide +kernel
theorem dX9_setEvery_7 : decode cX9_setEvery 7 = .ok (.iconst 0, 1) := by decide +kernel
theorem dX9_setEvery_8 : decode cX9_setEvery 8 = .ok (.bipush 99, 2) := by decide +kernel
theorem dX9_setEvery_10 : decode cX9_setEvery 10 = .ok (.invokestatic 76, 3) := by decide +kernel
theorem dX9_setEvery_13 : decode cX9_setEvery 13 = .ok (.aload_n 0, 1) := by decide +kernel
theorem dX9_setEvery_14 : decode cX9_setEvery 14 = .ok (.invokevirtual 122, 3) := by decide +kernel
theorem dX9_setEvery_17 : decode cX9_setEvery 17 = .ok (.aload_n 3, 1) := by decide +kernel
theorem dX9_setEvery_18 : decode cX9_setEvery 18 = .ok (.getfield 173, 3) := by decide +kernel
theorem dX9_setEvery_21 : decode cX9_setEvery 21 = .ok (.istore 4, 2) := by decide +kernel
theorem dX9_setEvery_23 : decode cX9_setEvery 23 = .ok (.aload_n 3, 1) := by decide +kernel
theorem dX9_setEvery_24 : decode cX9_setEvery 24 = .ok (.iload_n 2, 1) := by decide +kernel
theorem dX9_setEvery_25 : decode cX9_setEvery 25 = .ok (.putfield 173, 3) := by decide +kernel
theorem dX9_setEvery_28 : decode cX9_setEvery 28 = .ok (.iload 4, 2) := by decide +kernel
theorem dX9_setEvery_30 : decode cX9_setEvery 30 = .ok (.ireturn, 1) := by decide +kernel
/-! X9_setIn -/
theorem dX9_setIn_0 : decode cX9_setIn 0 = .ok (.iload_n 1, 1) := by decide +kernel
theorem dX9_setIn_1 : decode cX9_setIn 1 = .ok (.ifCond .lt 13, 3) := by decide +kernel
theorem dX9_setIn_4 : decode cX9_setIn 4 = .ok (.iload_n 1, 1) := by decide +kernel
theorem dX9_setIn_5 : decode cX9_setIn 5 = .ok (.aload_n 0, 1) := by decide +kernel
theorem dX9_setIn_6 : decode cX9_setIn 6 = .ok (.arraylength, 1) := by decide +kernel
theorem dX9_setIn_7 : decode cX9_setIn 7 = .ok (.if_icmp .ge 7, 3) := by decide +kernel
theorem dX9_setIn_10 : decode cX9_setIn 10 = .ok (.aload_n 0, 1) := by decide +kernel
theorem dX9_setIn_11 : decode cX9_setIn 11 = .ok (.iload_n 1, 1) := by decide +kernel
theorem dX9_setIn_12 : decode cX9_setIn 12 = .ok (.iload_n 2, 1) := by decide +kernel
theorem dX9_setIn_13 : decode cX9_setIn 13 = .ok (.iastore, 1) := by decide +kernel
theorem dX9_setIn_14 : decode cX9_setIn 14 = .ok (.return_, 1) := by decide +kernel
/-! X9_setLife -/
theorem dX9_setLife_0 : decode cX9_setLife 0 = .ok (.iload_n 1, 1) := by decide +kernel
theorem dX9_setLife_1 : decode cX9_setLife 1 = .ok (.iconst 1, 1) := by decide +kernel
theorem dX9_setLife_2 : decode cX9_setLife 2 = .ok (.sipush 200, 3) := by decide +kernel
theorem dX9_setLife_5 : decode cX9_setLife 5 = .ok (.invokestatic 76, 3) := by decide +kernel
theorem dX9_setLife_8 : decode cX9_setLife 8 = .ok (.aload_n 0, 1) := by decide +kernel
theorem dX9_setLife_9 : decode cX9_setLife 9 = .ok (.invokevirtual 122, 3) := by decide +kernel
theorem dX9_setLife_12 : decode cX9_setLife 12 = .ok (.aload_n 0, 1) := by decide +kernel
theorem dX9_setLife_13 : decode cX9_setLife 13 = .ok (.getfield 30, 3) := by decide +kernel
theorem dX9_setLife_16 : decode cX9_setLife 16 = .ok (.getfield 116, 3) := by decide +kernel
theorem dX9_setLife_19 : decode cX9_setLife 19 = .ok (.istore_n 2, 1) := by decide +kernel
theorem dX9_setLife_20 : decode cX9_setLife 20 = .ok (.aload_n 0, 1) := by decide +kernel
theorem dX9_setLife_21 : decode cX9_setLife 21 = .ok (.getfield 30, 3) := by decide +kernel
theorem dX9_setLife_24 : decode cX9_setLife 24 = .ok (.iload_n 1, 1) := by decide +kernel
theorem dX9_setLife_25 : decode cX9_setLife 25 = .ok (.putfield 116, 3) := by decide +kernel
theorem dX9_setLife_28 : decode cX9_setLife 28 = .ok (.iload_n 2, 1) := by decide +kernel
theorem dX9_setLife_29 : decode cX9_setLife 29 = .ok (.ireturn, 1) := by decide +kernel
/-! X9_setPolicy -/
theorem dX9_setPolicy_0 : decode cX9_setPolicy 0 = .ok (.iload_n 1, 1) := by decide +kernel
theorem dX9_setPolicy_1 : decode cX9_setPolicy 1 = .ok (.iconst 0, 1) := by decide +kernel
theorem dX9_setPolicy_2 : decode cX9_setPolicy 2 = .ok (.iconst 2, 1) := by decide +kernel
theorem dX9_setPolicy_3 : decode cX9_setPolicy 3 = .ok (.invokestatic 76, 3) := by decide +kernel
theorem dX9_setPolicy_6 : decode cX9_setPolicy 6 = .ok (.aload_n 0, 1) := by decide +kernel
theorem dX9_setPolicy_7 : decode cX9_setPolicy 7 = .ok (.invokevirtual 122, 3) := by decide +kernel
theorem dX9_setPolicy_10 : decode cX9_setPolicy 10 = .ok (.aload_n 0, 1) := by decide +kernel
theorem dX9_setPolicy_11 : decode cX9_setPolicy 11 = .ok (.getfield 30, 3) := by decide +kernel
theorem dX9_setPolicy_14 : decode cX9_setPolicy 14 = .ok (.getfield 119, 3) := by decide +kernel
theorem dX9_setPolicy_17 : decode cX9_setPolicy 17 = .ok (.istore_n 2, 1) := by decide +kernel
theorem dX9_setPolicy_18 : decode cX9_setPolicy 18 = .ok (.aload_n 0, 1) := by decide +kernel
theorem dX9_setPolicy_19 : decode cX9_setPolicy 19 = .ok (.getfield 30, 3) := by decide +kernel
theorem dX9_setPolicy_22 : decode cX9_setPolicy 22 = .ok (.iload_n 1, 1) := by decide +kernel
theorem dX9_setPolicy_23 : decode cX9_setPolicy 23 = .ok (.putfield 119, 3) := by decide +kernel
theorem dX9_setPolicy_26 : decode cX9_setPolicy 26 = .ok (.iload_n 2, 1) := by decide +kernel
theorem dX9_setPolicy_27 : decode cX9_setPolicy 27 = .ok (.ireturn, 1) := by decide +kernel
/-! X9_setSize -/
theorem dX9_setSize_0 : decode cX9_setSize 0 = .ok (.aload_n 0, 1) := by decide +kernel
theorem dX9_setSize_1 : decode cX9_setSize 1 = .ok (.iload_n 1, 1) := by decide +kernel
theorem dX9_setSize_2 : decode cX9_setSize 2 = .ok (.invokevirtual 221, 3) := by decide +kernel
theorem dX9_setSize_5 : decode cX9_setSize 5 = .ok (.astore_n 3, 1) := by decide +kernel
theorem dX9_setSize_6 : decode cX9_setSize 6 = .ok (.iload_n 2, 1) := by decide +kernel
theorem dX9_setSize_7 : decode cX9_setSize 7 = .ok (.bipush 28, 2) := by decide +kernel
theorem dX9_setSize_9 : decode cX9_setSize 9 = .ok (.sipush 1500, 3) := by decide +kernel
theorem dX9_setSize_12 : decode cX9_setSize 12 = .ok (.invokestatic 76, 3) := by decide +kernel
theorem dX9_setSize_15 : decode cX9_setSize 15 = .ok (.aload_n 0, 1) := by decide +kernel
theorem dX9_setSize_16 : decode cX9_setSize 16 = .ok (.invokevirtual 122, 3) := by decide +kernel
theorem dX9_setSize_19 : decode cX9_setSize 19 = .ok (.aload_n 3, 1) := by decide +kernel
theorem dX9_setSize_20 : decode cX9_setSize 20 = .ok (.getfield 168, 3) := by decide +kernel
theorem dX9_setSize_23 : decode cX9_setSize 23 = .ok (.istore 4, 2) := by decide +kernel
theorem dX9_setSize_25 : decode cX9_setSize 25 = .ok (.aload_n 3, 1) := by decide +kernel
theorem dX9_setSize_26 : decode cX9_setSize 26 = .ok (.iload_n 2, 1) := by decide +kernel
theorem dX9_setSize_27 : decode cX9_setSize 27 = .ok (.putfield 168, 3) := by decide +kernel
theorem dX9_setSize_30 : decode cX9_setSize 30 = .ok (.iload 4, 2) := by decide +kernel
theorem dX9_setSize_32 : decode cX9_setSize 32 = .ok (.ireturn, 1) := by decide +kernel
/-! X9_size -/
theorem dX9_size_0 : decode cX9_size 0 = .ok (.iload_n 1, 1) := by decide +kernel
theorem dX9_size_1 : decode cX9_size 1 = .ok (.iconst 0, 1) := by decide +kernel
theorem dX9_size_2 : decode cX9_size 2 = .ok (.bipush 15, 2) := by decide +kernel
theorem dX9_size_4 : decode cX9_size 4 = .ok (.invokestatic 76, 3) := by decide +kernel
theorem dX9_size_7 : decode cX9_size 7 = .ok (.iload_n 1, 1) := by decide +kernel
theorem dX9_size_8 : decode cX9_size 8 = .ok (.tableswitch 218 0 14 #[76, 84, 92, 100, 108, 116, 124, 132, 140, 151, 173, 184, 192, 201, 209], 76) := by decide +kernel
theorem dX9_size_84 : decode cX9_size 84 = .ok (.aload_n 0, 1) := by decide +kernel
theorem dX9_size_85 : decode cX9_size 85 = .ok (.getfield 30, 3) := by decide +kernel
theorem dX9_size_88 : decode cX9_size 88 = .ok (.getfield 182, 3) := by decide +kernel
theorem dX9_size_91 : decode cX9_size 91 = .ok (.ireturn, 1) := by decide +kernel
theorem dX9_size_92 : decode cX9_size 92 = .ok (.aload_n 0, 1) := by decide +kernel
theorem dX9_size_93 : decode cX9_size 93 = .ok (.getfield 30, 3) := by decide +kernel
theorem dX9_size_96 : decode cX9_size 96 = .ok (.getfield 113, 3) := by decide +kernel
theorem dX9_size_99 : decode cX9_size 99 = .ok (.ireturn, 1) := by decide +kernel
theorem dX9_size_100 : decode cX9_size 100 = .ok (.aload_n 0, 1) := by decide +kernel
theorem dX9_size_101 : decode cX9_size 101 = .ok (.getfield 30, 3) := by decide +kernel
theorem dX9_size_104 : decode cX9_size 104 = .ok (.getfield 145, 3) := by decide +kernel
theorem dX9_size_107 : decode cX9_size 107 = .ok (.ireturn, 1) := by decide +kernel
theorem dX9_size_108 : decode cX9_size 108 = .ok (.aload_n 0, 1) := by decide +kernel
theorem dX9_size_109 : decode cX9_size 109 = .ok (.getfield 30, 3) := by decide +kernel
theorem dX9_size_112 : decode cX9_size 112 = .ok (.getfield 116, 3) := by decide +kernel
theorem dX9_size_115 : decode cX9_size 115 = .ok (.ireturn, 1) := by decide +kernel
theorem dX9_size_116 : decode cX9_size 116 = .ok (.aload_n 0, 1) := by decide +kernel
theorem dX9_size_117 : decode cX9_size 117 = .ok (.getfield 30, 3) := by decide +kernel
theorem dX9_size_120 : decode cX9_size 120 = .ok (.getfield 119, 3) := by decide +kernel
theorem dX9_size_123 : decode cX9_size 123 = .ok (.ireturn, 1) := by decide +kernel
theorem dX9_size_124 : decode cX9_size 124 = .ok (.aload_n 0, 1) := by decide +kernel
theorem dX9_size_125 : decode cX9_size 125 = .ok (.getfield 30, 3) := by decide +kernel
theorem dX9_size_128 : decode cX9_size 128 = .ok (.getfield 185, 3) := by decide +kernel
theorem dX9_size_131 : decode cX9_size 131 = .ok (.ireturn, 1) := by decide +kernel
theorem dX9_size_132 : decode cX9_size 132 = .ok (.aload_n 0, 1) := by decide +kernel
theorem dX9_size_133 : decode cX9_size 133 = .ok (.getfield 30, 3) := by decide +kernel
theorem dX9_size_136 : decode cX9_size 136 = .ok (.getfield 188, 3) := by decide +kernel
theorem dX9_size_139 : decode cX9_size 139 = .ok (.ireturn, 1) := by decide +kernel
theorem dX9_size_140 : decode cX9_size 140 = .ok (.aload_n 0, 1) := by decide +kernel
theorem dX9_size_141 : decode cX9_size 141 = .ok (.getfield 30, 3) := by decide +kernel
theorem dX9_size_144 : decode cX9_size 144 = .ok (.getfield 191, 3) := by decide +kernel
theorem dX9_size_147 : decode cX9_size 147 = .ok (.ireturn, 1) := by decide +kernel
theorem dX9_size_148 : decode cX9_size 148 = .ok (.aload_n 0, 1) := by decide +kernel
theorem dX9_size_149 : decode cX9_size 149 = .ok (.getfield 30, 3) := by decide +kernel
theorem dX9_size_152 : decode cX9_size 152 = .ok (.getfield 194, 3) := by decide +kernel
theorem dX9_size_155 : decode cX9_size 155 = .ok (.getfield 198, 3) := by decide +kernel
theorem dX9_size_158 : decode cX9_size 158 = .ok (.ireturn, 1) := by decide +kernel
theorem dX9_size_159 : decode cX9_size 159 = .ok (.aload_n 0, 1) := by decide +kernel
theorem dX9_size_160 : decode cX9_size 160 = .ok (.getfield 30, 3) := by decide +kernel
theorem dX9_size_163 : decode cX9_size 163 = .ok (.getfield 201, 3) := by decide +kernel
theorem dX9_size_166 : decode cX9_size 166 = .ok (.getfield 205, 3) := by decide +kernel
theorem dX9_size_169 : decode cX9_size 169 = .ok (.aload_n 0, 1) := by decide +kernel
theorem dX9_size_170 : decode cX9_size 170 = .ok (.getfield 30, 3) := by decide +kernel
theorem dX9_size_173 : decode cX9_size 173 = .ok (.getfield 201, 3) := by decide +kernel
theorem dX9_size_176 : decode cX9_size 176 = .ok (.invokevirtual 208, 3) := by decide +kernel
theorem dX9_size_179 : decode cX9_size 179 = .ok (.isub, 1) := by decide +kernel
theorem dX9_size_180 : decode cX9_size 180 = .ok (.ireturn, 1) := by decide +kernel
theorem dX9_size_181 : decode cX9_size 181 = .ok (.aload_n 0, 1) := by decide +kernel
theorem dX9_size_182 : decode cX9_size 182 = .ok (.getfield 30, 3) := by decide +kernel
theorem dX9_size_185 : decode cX9_size 185 = .ok (.getfield 201, 3) := by decide +kernel
theorem dX9_size_188 : decode cX9_size 188 = .ok (.invokevirtual 208, 3) := by decide +kernel
theorem dX9_size_191 : decode cX9_size 191 = .ok (.ireturn, 1) := by decide +kernel
theorem dX9_size_192 : decode cX9_size 192 = .ok (.aload_n 0, 1) := by decide +kernel
theorem dX9_size_193 : decode cX9_size 193 = .ok (.getfield 30, 3) := by decide +kernel
theorem dX9_size_196 : decode cX9_size 196 = .ok (.invokevirtual 212, 3) := by decide +kernel
theorem dX9_size_199 : decode cX9_size 199 = .ok (.ireturn, 1) := by decide +kernel
theorem dX9_size_200 : decode cX9_size 200 = .ok (.aload_n 0, 1) := by decide +kernel
theorem dX9_size_201 : decode cX9_size 201 = .ok (.getfield 30, 3) := by decide +kernel
theorem dX9_size_204 : decode cX9_size 204 = .ok (.iconst 0, 1) := by decide +kernel
theorem dX9_size_205 : decode cX9_size 205 = .ok (.invokevirtual 215, 3) := by decide +kernel
theorem dX9_size_208 : decode cX9_size 208 = .ok (.ireturn, 1) := by decide +kernel
theorem dX9_size_209 : decode cX9_size 209 = .ok (.aload_n 0, 1) := by decide +kernel
theorem dX9_size_210 : decode cX9_size 210 = .ok (.getfield 30, 3) := by decide +kernel
theorem dX9_size_213 : decode cX9_size 213 = .ok (.invokevirtual 218, 3) := by decide +kernel
theorem dX9_size_216 : decode cX9_size 216 = .ok (.ireturn, 1) := by decide +kernel
theorem dX9_size_217 : decode cX9_size 217 = .ok (.aload_n 0, 1) := by decide +kernel
theorem dX9_size_218 : decode cX9_size 218 = .ok (.getfield 30, 3) := by decide +kernel
theorem dX9_size_221 : decode cX9_size 221 = .ok (.iconst 3, 1) := by decide +kernel
theorem dX9_size_222 : decode cX9_size 222 = .ok (.invokevirtual 215, 3) := by decide +kernel
theorem dX9_size_225 : decode cX9_size 225 = .ok (.ireturn, 1) := by decide +kernel
theorem dX9_size_226 : decode cX9_size 226 = .ok (.aload_n 0, 1) := by decide +kernel
theorem dX9_size_227 : decode cX9_size 227 = .ok (.getfield 42, 3) := by decide +kernel
theorem dX9_size_230 : decode cX9_size 230 = .ok (.ireturn, 1) := by decide +kernel
/-! X9_tellStatement -/
theorem dX9_tellStatement_0 : decode cX9_tellStatement 0 = .ok (.aload_n 0, 1) := by decide +kernel
theorem dX9_tellStatement_1 : decode cX9_tellStatement 1 = .ok (.getfield 10, 3) := by decide +kernel
theorem dX9_tellStatement_4 : decode cX9_tellStatement 4 = .ok (.iload_n 1, 1) := by decide +kernel
theorem dX9_tellStatement_5 : decode cX9_tellStatement 5 = .ok (.invokevirtual 97, 3) := by decide +kernel
theorem dX9_tellStatement_8 : decode cX9_tellStatement 8 = .ok (.tableswitch 103 0 2 #[28, 65, 84], 28) := by decide +kernel
theorem dX9_tellStatement_36 : decode cX9_tellStatement 36 = .ok (.aload_n 0, 1) := by decide +kernel
theorem dX9_tellStatement_37 : decode cX9_tellStatement 37 = .ok (.getfield 30, 3) := by decide +kernel
theorem dX9_tellStatement_40 : decode cX9_tellStatement 40 = .ok (.aload_n 0, 1) := by decide +kernel
theorem dX9_tellStatement_41 : decode cX9_tellStatement 41 = .ok (.getfield 10, 3) := by decide +kernel
theorem dX9_tellStatement_44 : decode cX9_tellStatement 44 = .ok (.iload_n 1, 1) := by decide +kernel
theorem dX9_tellStatement_45 : decode cX9_tellStatement 45 = .ok (.iconst 0, 1) := by decide +kernel
theorem dX9_tellStatement_46 : decode cX9_tellStatement 46 = .ok (.invokevirtual 101, 3) := by decide +kernel
theorem dX9_tellStatement_49 : decode cX9_tellStatement 49 = .ok (.aload_n 0, 1) := by decide +kernel
theorem dX9_tellStatement_50 : decode cX9_tellStatement 50 = .ok (.getfield 10, 3) := by decide +kernel
theorem dX9_tellStatement_53 : decode cX9_tellStatement 53 = .ok (.iload_n 1, 1) := by decide +kernel
theorem dX9_tellStatement_54 : decode cX9_tellStatement 54 = .ok (.iconst 1, 1) := by decide +kernel
theorem dX9_tellStatement_55 : decode cX9_tellStatement 55 = .ok (.invokevirtual 101, 3) := by decide +kernel
theorem dX9_tellStatement_58 : decode cX9_tellStatement 58 = .ok (.aload_n 0, 1) := by decide +kernel
theorem dX9_tellStatement_59 : decode cX9_tellStatement 59 = .ok (.getfield 10, 3) := by decide +kernel
theorem dX9_tellStatement_62 : decode cX9_tellStatement 62 = .ok (.iload_n 1, 1) := by decide +kernel
theorem dX9_tellStatement_63 : decode cX9_tellStatement 63 = .ok (.iconst 2, 1) := by decide +kernel
theorem dX9_tellStatement_64 : decode cX9_tellStatement 64 = .ok (.invokevirtual 101, 3) := by decide +kernel
theorem dX9_tellStatement_67 : decode cX9_tellStatement 67 = .ok (.invokevirtual 51, 3) := by decide +kernel
theorem dX9_tellStatement_70 : decode cX9_tellStatement 70 = .ok (.goto 41, 3) := by decide +kernel
theorem dX9_tellStatement_73 : decode cX9_tellStatement 73 = .ok (.aload_n 0, 1) := by decide +kernel
theorem dX9_tellStatement_74 : decode cX9_tellStatement 74 = .ok (.getfield 30, 3) := by decide +kernel
theorem dX9_tellStatement_77 : decode cX9_tellStatement 77 = .ok (.aload_n 0, 1) := by decide +kernel
theorem dX9_tellStatement_78 : decode cX9_tellStatement 78 = .ok (.getfield 10, 3) := by decide +kernel
theorem dX9_tellStatement_81 : decode cX9_tellStatement 81 = .ok (.iload_n 1, 1) := by decide +kernel
theorem dX9_tellStatement_82 : decode cX9_tellStatement 82 = .ok (.iconst 0, 1) := by decide +kernel
theorem dX9_tellStatement_83 : decode cX9_tellStatement 83 = .ok (.invokevirtual 101, 3) := by decide +kernel
theorem dX9_tellStatement_86 : decode cX9_tellStatement 86 = .ok (.putfield 116, 3) := by decide +kernel
theorem dX9_tellStatement_89 : decode cX9_tellStatement 89 = .ok (.goto 22, 3) := by decide +kernel
theorem dX9_tellStatement_92 : decode cX9_tellStatement 92 = .ok (.aload_n 0, 1) := by decide +kernel
theorem dX9_tellStatement_93 : decode cX9_tellStatement 93 = .ok (.getfield 30, 3) := by decide +kernel
theorem dX9_tellStatement_96 : decode cX9_tellStatement 96 = .ok (.aload_n 0, 1) := by decide +kernel
theorem dX9_tellStatement_97 : decode cX9_tellStatement 97 = .ok (.getfield 10, 3) := by decide +kernel
theorem dX9_tellStatement_100 : decode cX9_tellStatement 100 = .ok (.iload_n 1, 1) := by decide +kernel
theorem dX9_tellStatement_101 : decode cX9_tellStatement 101 = .ok (.iconst 0, 1) := by decide +kernel
theorem dX9_tellStatement_102 : decode cX9_tellStatement 102 = .ok (.invokevirtual 101, 3) := by decide +kernel
theorem dX9_tellStatement_105 : decode cX9_tellStatement 105 = .ok (.putfield 119, 3) := by decide +kernel
theorem dX9_tellStatement_108 : decode cX9_tellStatement 108 = .ok (.goto 3, 3) := by decide +kernel
theorem dX9_tellStatement_111 : decode cX9_tellStatement 111 = .ok (.return_, 1) := by decide +kernel
/-! X9_trueShare -/
theorem dX9_trueShare_0 : decode cX9_trueShare 0 = .ok (.aload_n 0, 1) := by decide +kernel
theorem dX9_trueShare_1 : decode cX9_trueShare 1 = .ok (.getfield 30, 3) := by decide +kernel
theorem dX9_trueShare_4 : decode cX9_trueShare 4 = .ok (.invokevirtual 218, 3) := by decide +kernel
theorem dX9_trueShare_7 : decode cX9_trueShare 7 = .ok (.istore_n 1, 1) := by decide +kernel
theorem dX9_trueShare_8 : decode cX9_trueShare 8 = .ok (.iload_n 1, 1) := by decide +kernel
theorem dX9_trueShare_9 : decode cX9_trueShare 9 = .ok (.ifCond .ne 7, 3) := by decide +kernel
theorem dX9_trueShare_12 : decode cX9_trueShare 12 = .ok (.fconst 0, 1) := by decide +kernel
theorem dX9_trueShare_13 : decode cX9_trueShare 13 = .ok (.goto 15, 3) := by decide +kernel
theorem dX9_trueShare_16 : decode cX9_trueShare 16 = .ok (.aload_n 0, 1) := by decide +kernel
theorem dX9_trueShare_17 : decode cX9_trueShare 17 = .ok (.getfield 30, 3) := by decide +kernel
theorem dX9_trueShare_20 : decode cX9_trueShare 20 = .ok (.iconst 1, 1) := by decide +kernel
theorem dX9_trueShare_21 : decode cX9_trueShare 21 = .ok (.invokevirtual 215, 3) := by decide +kernel
theorem dX9_trueShare_24 : decode cX9_trueShare 24 = .ok (.i2f, 1) := by decide +kernel
theorem dX9_trueShare_25 : decode cX9_trueShare 25 = .ok (.iload_n 1, 1) := by decide +kernel
theorem dX9_trueShare_26 : decode cX9_trueShare 26 = .ok (.i2f, 1) := by decide +kernel
theorem dX9_trueShare_27 : decode cX9_trueShare 27 = .ok (.fdiv, 1) := by decide +kernel
theorem dX9_trueShare_28 : decode cX9_trueShare 28 = .ok (.freturn, 1) := by decide +kernel
/-! X9_truncate -/
theorem dX9_truncate_0 : decode cX9_truncate 0 = .ok (.iload_n 1, 1) := by decide +kernel
theorem dX9_truncate_1 : decode cX9_truncate 1 = .ok (.iconst 0, 1) := by decide +kernel
theorem dX9_truncate_2 : decode cX9_truncate 2 = .ok (.aload_n 0, 1) := by decide +kernel
theorem dX9_truncate_3 : decode cX9_truncate 3 = .ok (.getfield 10, 3) := by decide +kernel
theorem dX9_truncate_6 : decode cX9_truncate 6 = .ok (.getfield 73, 3) := by decide +kernel
theorem dX9_truncate_9 : decode cX9_truncate 9 = .ok (.invokestatic 76, 3) := by decide +kernel
theorem dX9_truncate_12 : decode cX9_truncate 12 = .ok (.aload_n 0, 1) := by decide +kernel
theorem dX9_truncate_13 : decode cX9_truncate 13 = .ok (.getfield 10, 3) := by decide +kernel
theorem dX9_truncate_16 : decode cX9_truncate 16 = .ok (.iload_n 1, 1) := by decide +kernel
theorem dX9_truncate_17 : decode cX9_truncate 17 = .ok (.putfield 73, 3) := by decide +kernel
theorem dX9_truncate_20 : decode cX9_truncate 20 = .ok (.iload_n 1, 1) := by decide +kernel
theorem dX9_truncate_21 : decode cX9_truncate 21 = .ok (.ireturn, 1) := by decide +kernel
/-! X9_undo -/
theorem dX9_undo_0 : decode cX9_undo 0 = .ok (.aload_n 0, 1) := by decide +kernel
theorem dX9_undo_1 : decode cX9_undo 1 = .ok (.getfield 42, 3) := by decide +kernel
theorem dX9_undo_4 : decode cX9_undo 4 = .ok (.ifCond .ne 5, 3) := by decide +kernel
theorem dX9_undo_7 : decode cX9_undo 7 = .ok (.iconst (-1), 1) := by decide +kernel
theorem dX9_undo_8 : decode cX9_undo 8 = .ok (.ireturn, 1) := by decide +kernel
theorem dX9_undo_9 : decode cX9_undo 9 = .ok (.aload_n 0, 1) := by decide +kernel
theorem dX9_undo_10 : decode cX9_undo 10 = .ok (.getfield 34, 3) := by decide +kernel
theorem dX9_undo_13 : decode cX9_undo 13 = .ok (.aload_n 0, 1) := by decide +kernel
theorem dX9_undo_14 : decode cX9_undo 14 = .ok (.aload_n 0, 1) := by decide +kernel
theorem dX9_undo_15 : decode cX9_undo 15 = .ok (.getfield 42, 3) := by decide +kernel
theorem dX9_undo_18 : decode cX9_undo 18 = .ok (.iconst 1, 1) := by decide +kernel
theorem dX9_undo_19 : decode cX9_undo 19 = .ok (.isub, 1) := by decide +kernel
theorem dX9_undo_20 : decode cX9_undo 20 = .ok (.invokevirtual 434, 3) := by decide +kernel
theorem dX9_undo_23 : decode cX9_undo 23 = .ok (.aaload, 1) := by decide +kernel
theorem dX9_undo_24 : decode cX9_undo 24 = .ok (.astore_n 1, 1) := by decide +kernel
theorem dX9_undo_25 : decode cX9_undo 25 = .ok (.aload_n 1, 1) := by decide +kernel
theorem dX9_undo_26 : decode cX9_undo 26 = .ok (.ifnonnull 5, 3) := by decide +kernel
theorem dX9_undo_29 : decode cX9_undo 29 = .ok (.iconst (-1), 1) := by decide +kernel
theorem dX9_undo_30 : decode cX9_undo 30 = .ok (.ireturn, 1) := by decide +kernel
theorem dX9_undo_31 : decode cX9_undo 31 = .ok (.aload_n 0, 1) := by decide +kernel
theorem dX9_undo_32 : decode cX9_undo 32 = .ok (.getfield 30, 3) := by decide +kernel
theorem dX9_undo_35 : decode cX9_undo 35 = .ok (.aload_n 1, 1) := by decide +kernel
theorem dX9_undo_36 : decode cX9_undo 36 = .ok (.invokevirtual 437, 3) := by decide +kernel
theorem dX9_undo_39 : decode cX9_undo 39 = .ok (.aload_n 0, 1) := by decide +kernel
theorem dX9_undo_40 : decode cX9_undo 40 = .ok (.dup, 1) := by decide +kernel
theorem dX9_undo_41 : decode cX9_undo 41 = .ok (.getfield 42, 3) := by decide +kernel
theorem dX9_undo_44 : decode cX9_undo 44 = .ok (.iconst 1, 1) := by decide +kernel
theorem dX9_undo_45 : decode cX9_undo 45 = .ok (.isub, 1) := by decide +kernel
theorem dX9_undo_46 : decode cX9_undo 46 = .ok (.putfield 42, 3) := by decide +kernel
theorem dX9_undo_49 : decode cX9_undo 49 = .ok (.aload_n 0, 1) := by decide +kernel
theorem dX9_undo_50 : decode cX9_undo 50 = .ok (.getfield 42, 3) := by decide +kernel
theorem dX9_undo_53 : decode cX9_undo 53 = .ok (.ireturn, 1) := by decide +kernel
/-! X9_valueIn -/
theorem dX9_valueIn_0 : decode cX9_valueIn 0 = .ok (.iload_n 1, 1) := by decide +kernel
theorem dX9_valueIn_1 : decode cX9_valueIn 1 = .ok (.ifCond .lt 15, 3) := by decide +kernel
theorem dX9_valueIn_4 : decode cX9_valueIn 4 = .ok (.iload_n 1, 1) := by decide +kernel
theorem dX9_valueIn_5 : decode cX9_valueIn 5 = .ok (.aload_n 0, 1) := by decide +kernel
theorem dX9_valueIn_6 : decode cX9_valueIn 6 = .ok (.arraylength, 1) := by decide +kernel
theorem dX9_valueIn_7 : decode cX9_valueIn 7 = .ok (.if_icmp .ge 9, 3) := by decide +kernel
theorem dX9_valueIn_10 : decode cX9_valueIn 10 = .ok (.aload_n 0, 1) := by decide +kernel
theorem dX9_valueIn_11 : decode cX9_valueIn 11 = .ok (.iload_n 1, 1) := by decide +kernel
theorem dX9_valueIn_12 : decode cX9_valueIn 12 = .ok (.iaload, 1) := by decide +kernel
theorem dX9_valueIn_13 : decode cX9_valueIn 13 = .ok (.goto 4, 3) := by decide +kernel
theorem dX9_valueIn_16 : decode cX9_valueIn 16 = .ok (.iconst (-1), 1) := by decide +kernel
theorem dX9_valueIn_17 : decode cX9_valueIn 17 = .ok (.ireturn, 1) := by decide +kernel
/-! X9_weighUpTo -/
theorem dX9_weighUpTo_0 : decode cX9_weighUpTo 0 = .ok (.aload_n 0, 1) := by decide +kernel
theorem dX9_weighUpTo_1 : decode cX9_weighUpTo 1 = .ok (.getfield 23, 3) := by decide +kernel
theorem dX9_weighUpTo_4 : decode cX9_weighUpTo 4 = .ok (.iconst 0, 1) := by decide +kernel
theorem dX9_weighUpTo_5 : decode cX9_weighUpTo 5 = .ok (.invokestatic 360, 3) := by decide +kernel
theorem dX9_weighUpTo_8 : decode cX9_weighUpTo 8 = .ok (.aload_n 0, 1) := by decide +kernel
theorem dX9_weighUpTo_9 : decode cX9_weighUpTo 9 = .ok (.getfield 30, 3) := by decide +kernel
theorem dX9_weighUpTo_12 : decode cX9_weighUpTo 12 = .ok (.getfield 182, 3) := by decide +kernel
theorem dX9_weighUpTo_15 : decode cX9_weighUpTo 15 = .ok (.iconst 1, 1) := by decide +kernel
theorem dX9_weighUpTo_16 : decode cX9_weighUpTo 16 = .ok (.isub, 1) := by decide +kernel
theorem dX9_weighUpTo_17 : decode cX9_weighUpTo 17 = .ok (.istore_n 2, 1) := by decide +kernel
theorem dX9_weighUpTo_18 : decode cX9_weighUpTo 18 = .ok (.iload_n 2, 1) := by decide +kernel
theorem dX9_weighUpTo_19 : decode cX9_weighUpTo 19 = .ok (.ifCond .lt 16, 3) := by decide +kernel
theorem dX9_weighUpTo_22 : decode cX9_weighUpTo 22 = .ok (.aload_n 0, 1) := by decide +kernel
theorem dX9_weighUpTo_23 : decode cX9_weighUpTo 23 = .ok (.iload_n 2, 1) := by decide +kernel
theorem dX9_weighUpTo_24 : decode cX9_weighUpTo 24 = .ok (.iload_n 1, 1) := by decide +kernel
theorem dX9_weighUpTo_25 : decode cX9_weighUpTo 25 = .ok (.iconst 1, 1) := by decide +kernel
theorem dX9_weighUpTo_26 : decode cX9_weighUpTo 26 = .ok (.invokevirtual 366, 3) := by decide +kernel
theorem dX9_weighUpTo_29 : decode cX9_weighUpTo 29 = .ok (.iinc 2 (-1), 3) := by decide +kernel
theorem dX9_weighUpTo_32 : decode cX9_weighUpTo 32 = .ok (.goto (-14), 3) := by decide +kernel
theorem dX9_weighUpTo_35 : decode cX9_weighUpTo 35 = .ok (.return_, 1) := by decide +kernel
/-! X9_wholeBurden -/
theorem dX9_wholeBurden_0 : decode cX9_wholeBurden 0 = .ok (.iload_n 2, 1) := by decide +kernel
theorem dX9_wholeBurden_1 : decode cX9_wholeBurden 1 = .ok (.iconst 1, 1) := by decide +kernel
theorem dX9_wholeBurden_2 : decode cX9_wholeBurden 2 = .ok (.if_icmp .ge 5, 3) := by decide +kernel
theorem dX9_wholeBurden_5 : decode cX9_wholeBurden 5 = .ok (.iconst (-1), 1) := by decide +kernel
theorem dX9_wholeBurden_6 : decode cX9_wholeBurden 6 = .ok (.ireturn, 1) := by decide +kernel
theorem dX9_wholeBurden_7 : decode cX9_wholeBurden 7 = .ok (.iload_n 1, 1) := by decide +kernel
theorem dX9_wholeBurden_8 : decode cX9_wholeBurden 8 = .ok (.iload_n 2, 1) := by decide +kernel
theorem dX9_wholeBurden_9 : decode cX9_wholeBurden 9 = .ok (.irem, 1) := by decide +kernel
theorem dX9_wholeBurden_10 : decode cX9_wholeBurden 10 = .ok (.istore_n 3, 1) := by decide +kernel
theorem dX9_wholeBurden_11 : decode cX9_wholeBurden 11 = .ok (.iload_n 1, 1) := by decide +kernel
theorem dX9_wholeBurden_12 : decode cX9_wholeBurden 12 = .ok (.iload_n 2, 1) := by decide +kernel
theorem dX9_wholeBurden_13 : decode cX9_wholeBurden 13 = .ok (.idiv, 1) := by decide +kernel
theorem dX9_wholeBurden_14 : decode cX9_wholeBurden 14 = .ok (.aload_n 0, 1) := by decide +kernel
theorem dX9_wholeBurden_15 : decode cX9_wholeBurden 15 = .ok (.getfield 23, 3) := by decide +kernel
theorem dX9_wholeBurden_18 : decode cX9_wholeBurden 18 = .ok (.iload_n 2, 1) := by decide +kernel
theorem dX9_wholeBurden_19 : decode cX9_wholeBurden 19 = .ok (.invokestatic 285, 3) := by decide +kernel
theorem dX9_wholeBurden_22 : decode cX9_wholeBurden 22 = .ok (.imul, 1) := by decide +kernel
theorem dX9_wholeBurden_23 : decode cX9_wholeBurden 23 = .ok (.iload_n 3, 1) := by decide +kernel
theorem dX9_wholeBurden_24 : decode cX9_wholeBurden 24 = .ok (.ifCond .ne 7, 3) := by decide +kernel
theorem dX9_wholeBurden_27 : decode cX9_wholeBurden 27 = .ok (.iconst 0, 1) := by decide +kernel
theorem dX9_wholeBurden_28 : decode cX9_wholeBurden 28 = .ok (.goto 11, 3) := by decide +kernel
theorem dX9_wholeBurden_31 : decode cX9_wholeBurden 31 = .ok (.aload_n 0, 1) := by decide +kernel
theorem dX9_wholeBurden_32 : decode cX9_wholeBurden 32 = .ok (.getfield 23, 3) := by decide +kernel
theorem dX9_wholeBurden_35 : decode cX9_wholeBurden 35 = .ok (.iload_n 3, 1) := by decide +kernel
theorem dX9_wholeBurden_36 : decode cX9_wholeBurden 36 = .ok (.invokestatic 285, 3) := by decide +kernel
theorem dX9_wholeBurden_39 : decode cX9_wholeBurden 39 = .ok (.iadd, 1) := by decide +kernel
theorem dX9_wholeBurden_40 : decode cX9_wholeBurden 40 = .ok (.ireturn, 1) := by decide +kernel
/-! X9_wholeDelay -/
theorem dX9_wholeDelay_0 : decode cX9_wholeDelay 0 = .ok (.aload_n 0, 1) := by decide +kernel
theorem dX9_wholeDelay_1 : decode cX9_wholeDelay 1 = .ok (.getfield 30, 3) := by decide +kernel
theorem dX9_wholeDelay_4 : decode cX9_wholeDelay 4 = .ok (.aload_n 0, 1) := by decide +kernel
theorem dX9_wholeDelay_5 : decode cX9_wholeDelay 5 = .ok (.getfield 30, 3) := by decide +kernel
theorem dX9_wholeDelay_8 : decode cX9_wholeDelay 8 = .ok (.getfield 182, 3) := by decide +kernel
theorem dX9_wholeDelay_11 : decode cX9_wholeDelay 11 = .ok (.invokevirtual 357, 3) := by decide +kernel
theorem dX9_wholeDelay_14 : decode cX9_wholeDelay 14 = .ok (.ireturn, 1) := by decide +kernel
/-! X9_writeHeap -/
theorem dX9_writeHeap_0 : decode cX9_writeHeap 0 = .ok (.aload_n 0, 1) := by decide +kernel
theorem dX9_writeHeap_1 : decode cX9_writeHeap 1 = .ok (.iload_n 1, 1) := by decide +kernel
theorem dX9_writeHeap_2 : decode cX9_writeHeap 2 = .ok (.invokevirtual 245, 3) := by decide +kernel
theorem dX9_writeHeap_5 : decode cX9_writeHeap 5 = .ok (.pop, 1) := by decide +kernel
theorem dX9_writeHeap_6 : decode cX9_writeHeap 6 = .ok (.aload_n 0, 1) := by decide +kernel
theorem dX9_writeHeap_7 : decode cX9_writeHeap 7 = .ok (.getfield 19, 3) := by decide +kernel
theorem dX9_writeHeap_10 : decode cX9_writeHeap 10 = .ok (.iconst 0, 1) := by decide +kernel
theorem dX9_writeHeap_11 : decode cX9_writeHeap 11 = .ok (.putfield 419, 3) := by decide +kernel
theorem dX9_writeHeap_14 : decode cX9_writeHeap 14 = .ok (.aload_n 0, 1) := by decide +kernel
theorem dX9_writeHeap_15 : decode cX9_writeHeap 15 = .ok (.getfield 30, 3) := by decide +kernel
theorem dX9_writeHeap_18 : decode cX9_writeHeap 18 = .ok (.iload_n 1, 1) := by decide +kernel
theorem dX9_writeHeap_19 : decode cX9_writeHeap 19 = .ok (.invokevirtual 305, 3) := by decide +kernel
theorem dX9_writeHeap_22 : decode cX9_writeHeap 22 = .ok (.astore_n 2, 1) := by decide +kernel
theorem dX9_writeHeap_23 : decode cX9_writeHeap 23 = .ok (.aload_n 2, 1) := by decide +kernel
theorem dX9_writeHeap_24 : decode cX9_writeHeap 24 = .ok (.ifnonnull 20, 3) := by decide +kernel
theorem dX9_writeHeap_27 : decode cX9_writeHeap 27 = .ok (.aload_n 0, 1) := by decide +kernel
theorem dX9_writeHeap_28 : decode cX9_writeHeap 28 = .ok (.getfield 19, 3) := by decide +kernel
theorem dX9_writeHeap_31 : decode cX9_writeHeap 31 = .ok (.bipush 120, 2) := by decide +kernel
theorem dX9_writeHeap_33 : decode cX9_writeHeap 33 = .ok (.invokevirtual 420, 3) := by decide +kernel
theorem dX9_writeHeap_36 : decode cX9_writeHeap 36 = .ok (.aload_n 0, 1) := by decide +kernel
theorem dX9_writeHeap_37 : decode cX9_writeHeap 37 = .ok (.getfield 19, 3) := by decide +kernel
theorem dX9_writeHeap_40 : decode cX9_writeHeap 40 = .ok (.getfield 419, 3) := by decide +kernel
theorem dX9_writeHeap_43 : decode cX9_writeHeap 43 = .ok (.ireturn, 1) := by decide +kernel
theorem dX9_writeHeap_44 : decode cX9_writeHeap 44 = .ok (.aload_n 0, 1) := by decide +kernel
theorem dX9_writeHeap_45 : decode cX9_writeHeap 45 = .ok (.aload_n 2, 1) := by decide +kernel
theorem dX9_writeHeap_46 : decode cX9_writeHeap 46 = .ok (.invokevirtual 423, 3) := by decide +kernel
theorem dX9_writeHeap_49 : decode cX9_writeHeap 49 = .ok (.aload_n 0, 1) := by decide +kernel
theorem dX9_writeHeap_50 : decode cX9_writeHeap 50 = .ok (.getfield 19, 3) := by decide +kernel
theorem dX9_writeHeap_53 : decode cX9_writeHeap 53 = .ok (.bipush 47, 2) := by decide +kernel
theorem dX9_writeHeap_55 : decode cX9_writeHeap 55 = .ok (.invokevirtual 420, 3) := by decide +kernel
theorem dX9_writeHeap_58 : decode cX9_writeHeap 58 = .ok (.aload_n 2, 1) := by decide +kernel
theorem dX9_writeHeap_59 : decode cX9_writeHeap 59 = .ok (.getfield 314, 3) := by decide +kernel
theorem dX9_writeHeap_62 : decode cX9_writeHeap 62 = .ok (.iconst (-1), 1) := by decide +kernel
theorem dX9_writeHeap_63 : decode cX9_writeHeap 63 = .ok (.if_icmp .ne 15, 3) := by decide +kernel
theorem dX9_writeHeap_66 : decode cX9_writeHeap 66 = .ok (.aload_n 0, 1) := by decide +kernel
theorem dX9_writeHeap_67 : decode cX9_writeHeap 67 = .ok (.getfield 19, 3) := by decide +kernel
theorem dX9_writeHeap_70 : decode cX9_writeHeap 70 = .ok (.bipush 63, 2) := by decide +kernel
theorem dX9_writeHeap_72 : decode cX9_writeHeap 72 = .ok (.invokevirtual 420, 3) := by decide +kernel
theorem dX9_writeHeap_75 : decode cX9_writeHeap 75 = .ok (.goto 14, 3) := by decide +kernel
theorem dX9_writeHeap_78 : decode cX9_writeHeap 78 = .ok (.aload_n 0, 1) := by decide +kernel
theorem dX9_writeHeap_79 : decode cX9_writeHeap 79 = .ok (.getfield 19, 3) := by decide +kernel
theorem dX9_writeHeap_82 : decode cX9_writeHeap 82 = .ok (.aload_n 2, 1) := by decide +kernel
theorem dX9_writeHeap_83 : decode cX9_writeHeap 83 = .ok (.getfield 314, 3) := by decide +kernel
theorem dX9_writeHeap_86 : decode cX9_writeHeap 86 = .ok (.invokevirtual 427, 3) := by decide +kernel
theorem dX9_writeHeap_89 : decode cX9_writeHeap 89 = .ok (.aload_n 0, 1) := by decide +kernel
theorem dX9_writeHeap_90 : decode cX9_writeHeap 90 = .ok (.getfield 19, 3) := by decide +kernel
theorem dX9_writeHeap_93 : decode cX9_writeHeap 93 = .ok (.getfield 419, 3) := by decide +kernel
theorem dX9_writeHeap_96 : decode cX9_writeHeap 96 = .ok (.ireturn, 1) := by decide +kernel
/-! X9_writePath -/
theorem dX9_writePath_0 : decode cX9_writePath 0 = .ok (.aload_n 0, 1) := by decide +kernel
theorem dX9_writePath_1 : decode cX9_writePath 1 = .ok (.getfield 19, 3) := by decide +kernel
theorem dX9_writePath_4 : decode cX9_writePath 4 = .ok (.iconst 0, 1) := by decide +kernel
theorem dX9_writePath_5 : decode cX9_writePath 5 = .ok (.putfield 419, 3) := by decide +kernel
theorem dX9_writePath_8 : decode cX9_writePath 8 = .ok (.iconst 0, 1) := by decide +kernel
theorem dX9_writePath_9 : decode cX9_writePath 9 = .ok (.istore_n 1, 1) := by decide +kernel
theorem dX9_writePath_10 : decode cX9_writePath 10 = .ok (.iload_n 1, 1) := by decide +kernel
theorem dX9_writePath_11 : decode cX9_writePath 11 = .ok (.aload_n 0, 1) := by decide +kernel
theorem dX9_writePath_12 : decode cX9_writePath 12 = .ok (.getfield 30, 3) := by decide +kernel
theorem dX9_writePath_15 : decode cX9_writePath 15 = .ok (.getfield 182, 3) := by decide +kernel
theorem dX9_writePath_18 : decode cX9_writePath 18 = .ok (.if_icmp .ge 76, 3) := by decide +kernel
theorem dX9_writePath_21 : decode cX9_writePath 21 = .ok (.aload_n 0, 1) := by decide +kernel
theorem dX9_writePath_22 : decode cX9_writePath 22 = .ok (.getfield 30, 3) := by decide +kernel
theorem dX9_writePath_25 : decode cX9_writePath 25 = .ok (.iload_n 1, 1) := by decide +kernel
theorem dX9_writePath_26 : decode cX9_writePath 26 = .ok (.invokevirtual 164, 3) := by decide +kernel
theorem dX9_writePath_29 : decode cX9_writePath 29 = .ok (.astore_n 2, 1) := by decide +kernel
theorem dX9_writePath_30 : decode cX9_writePath 30 = .ok (.aload_n 2, 1) := by decide +kernel
theorem dX9_writePath_31 : decode cX9_writePath 31 = .ok (.ifnonnull 6, 3) := by decide +kernel
theorem dX9_writePath_34 : decode cX9_writePath 34 = .ok (.goto 54, 3) := by decide +kernel
theorem dX9_writePath_37 : decode cX9_writePath 37 = .ok (.iload_n 1, 1) := by decide +kernel
theorem dX9_writePath_38 : decode cX9_writePath 38 = .ok (.ifCond .le 12, 3) := by decide +kernel
theorem dX9_writePath_41 : decode cX9_writePath 41 = .ok (.aload_n 0, 1) := by decide +kernel
theorem dX9_writePath_42 : decode cX9_writePath 42 = .ok (.getfield 19, 3) := by decide +kernel
theorem dX9_writePath_45 : decode cX9_writePath 45 = .ok (.bipush 62, 2) := by decide +kernel
theorem dX9_writePath_47 : decode cX9_writePath 47 = .ok (.invokevirtual 420, 3) := by decide +kernel
theorem dX9_writePath_50 : decode cX9_writePath 50 = .ok (.aload_n 0, 1) := by decide +kernel
theorem dX9_writePath_51 : decode cX9_writePath 51 = .ok (.getfield 19, 3) := by decide +kernel
theorem dX9_writePath_54 : decode cX9_writePath 54 = .ok (.aload_n 2, 1) := by decide +kernel
theorem dX9_writePath_55 : decode cX9_writePath 55 = .ok (.getfield 168, 3) := by decide +kernel
theorem dX9_writePath_58 : decode cX9_writePath 58 = .ok (.invokevirtual 427, 3) := by decide +kernel
theorem dX9_writePath_61 : decode cX9_writePath 61 = .ok (.aload_n 0, 1) := by decide +kernel
theorem dX9_writePath_62 : decode cX9_writePath 62 = .ok (.getfield 19, 3) := by decide +kernel
theorem dX9_writePath_65 : decode cX9_writePath 65 = .ok (.bipush 42, 2) := by decide +kernel
theorem dX9_writePath_67 : decode cX9_writePath 67 = .ok (.invokevirtual 420, 3) := by decide +kernel
theorem dX9_writePath_70 : decode cX9_writePath 70 = .ok (.aload_n 0, 1) := by decide +kernel
theorem dX9_writePath_71 : decode cX9_writePath 71 = .ok (.getfield 19, 3) := by decide +kernel
theorem dX9_writePath_74 : decode cX9_writePath 74 = .ok (.aload_n 0, 1) := by decide +kernel
theorem dX9_writePath_75 : decode cX9_writePath 75 = .ok (.getfield 30, 3) := by decide +kernel
theorem dX9_writePath_78 : decode cX9_writePath 78 = .ok (.getfield 194, 3) := by decide +kernel
theorem dX9_writePath_81 : decode cX9_writePath 81 = .ok (.iload_n 1, 1) := by decide +kernel
theorem dX9_writePath_82 : decode cX9_writePath 82 = .ok (.invokevirtual 230, 3) := by decide +kernel
theorem dX9_writePath_85 : decode cX9_writePath 85 = .ok (.invokevirtual 427, 3) := by decide +kernel
theorem dX9_writePath_88 : decode cX9_writePath 88 = .ok (.iinc 1 1, 3) := by decide +kernel
theorem dX9_writePath_91 : decode cX9_writePath 91 = .ok (.goto (-81), 3) := by decide +kernel
theorem dX9_writePath_94 : decode cX9_writePath 94 = .ok (.aload_n 0, 1) := by decide +kernel
theorem dX9_writePath_95 : decode cX9_writePath 95 = .ok (.getfield 19, 3) := by decide +kernel
theorem dX9_writePath_98 : decode cX9_writePath 98 = .ok (.getfield 419, 3) := by decide +kernel
theorem dX9_writePath_101 : decode cX9_writePath 101 = .ok (.ireturn, 1) := by decide +kernel
/-! X9_writeRows -/
theorem dX9_writeRows_0 : decode cX9_writeRows 0 = .ok (.iconst 0, 1) := by decide +kernel
theorem dX9_writeRows_1 : decode cX9_writeRows 1 = .ok (.istore_n 2, 1) := by decide +kernel
theorem dX9_writeRows_2 : decode cX9_writeRows 2 = .ok (.iload_n 2, 1) := by decide +kernel
theorem dX9_writeRows_3 : decode cX9_writeRows 3 = .ok (.aload_n 1, 1) := by decide +kernel
theorem dX9_writeRows_4 : decode cX9_writeRows 4 = .ok (.getfield 329, 3) := by decide +kernel
theorem dX9_writeRows_7 : decode cX9_writeRows 7 = .ok (.if_icmp .ge 84, 3) := by decide +kernel
theorem dX9_writeRows_10 : decode cX9_writeRows 10 = .ok (.aload_n 1, 1) := by decide +kernel
theorem dX9_writeRows_11 : decode cX9_writeRows 11 = .ok (.iload_n 2, 1) := by decide +kernel
theorem dX9_writeRows_12 : decode cX9_writeRows 12 = .ok (.invokevirtual 430, 3) := by decide +kernel
theorem dX9_writeRows_15 : decode cX9_writeRows 15 = .ok (.ifCond .ne 6, 3) := by decide +kernel
theorem dX9_writeRows_18 : decode cX9_writeRows 18 = .ok (.goto 67, 3) := by decide +kernel
theorem dX9_writeRows_21 : decode cX9_writeRows 21 = .ok (.aload_n 1, 1) := by decide +kernel
theorem dX9_writeRows_22 : decode cX9_writeRows 22 = .ok (.iload_n 2, 1) := by decide +kernel
theorem dX9_writeRows_23 : decode cX9_writeRows 23 = .ok (.iconst 1, 1) := by decide +kernel
theorem dX9_writeRows_24 : decode cX9_writeRows 24 = .ok (.isub, 1) := by decide +kernel
theorem dX9_writeRows_25 : decode cX9_writeRows 25 = .ok (.invokevirtual 430, 3) := by decide +kernel
theorem dX9_writeRows_28 : decode cX9_writeRows 28 = .ok (.ifCond .ne 39, 3) := by decide +kernel
theorem dX9_writeRows_31 : decode cX9_writeRows 31 = .ok (.aload_n 0, 1) := by decide +kernel
theorem dX9_writeRows_32 : decode cX9_writeRows 32 = .ok (.getfield 19, 3) := by decide +kernel
theorem dX9_writeRows_35 : decode cX9_writeRows 35 = .ok (.getfield 419, 3) := by decide +kernel
theorem dX9_writeRows_38 : decode cX9_writeRows 38 = .ok (.ifCond .le 12, 3) := by decide +kernel
theorem dX9_writeRows_41 : decode cX9_writeRows 41 = .ok (.aload_n 0, 1) := by decide +kernel
theorem dX9_writeRows_42 : decode cX9_writeRows 42 = .ok (.getfield 19, 3) := by decide +kernel
theorem dX9_writeRows_45 : decode cX9_writeRows 45 = .ok (.bipush 44, 2) := by decide +kernel
theorem dX9_writeRows_47 : decode cX9_writeRows 47 = .ok (.invokevirtual 420, 3) := by decide +kernel
theorem dX9_writeRows_50 : decode cX9_writeRows 50 = .ok (.aload_n 0, 1) := by decide +kernel
theorem dX9_writeRows_51 : decode cX9_writeRows 51 = .ok (.getfield 19, 3) := by decide +kernel
theorem dX9_writeRows_54 : decode cX9_writeRows 54 = .ok (.iload_n 2, 1) := by decide +kernel
theorem dX9_writeRows_55 : decode cX9_writeRows 55 = .ok (.invokevirtual 427, 3) := by decide +kernel
theorem dX9_writeRows_58 : decode cX9_writeRows 58 = .ok (.aload_n 0, 1) := by decide +kernel
theorem dX9_writeRows_59 : decode cX9_writeRows 59 = .ok (.getfield 19, 3) := by decide +kernel
theorem dX9_writeRows_62 : decode cX9_writeRows 62 = .ok (.bipush 45, 2) := by decide +kernel
theorem dX9_writeRows_64 : decode cX9_writeRows 64 = .ok (.invokevirtual 420, 3) := by decide +kernel
theorem dX9_writeRows_67 : decode cX9_writeRows 67 = .ok (.aload_n 1, 1) := by decide +kernel
theorem dX9_writeRows_68 : decode cX9_writeRows 68 = .ok (.iload_n 2, 1) := by decide +kernel
theorem dX9_writeRows_69 : decode cX9_writeRows 69 = .ok (.iconst 1, 1) := by decide +kernel
theorem dX9_writeRows_70 : decode cX9_writeRows 70 = .ok (.iadd, 1) := by decide +kernel
theorem dX9_writeRows_71 : decode cX9_writeRows 71 = .ok (.invokevirtual 430, 3) := by decide +kernel
theorem dX9_writeRows_74 : decode cX9_writeRows 74 = .ok (.ifCond .ne 11, 3) := by decide +kernel
theorem dX9_writeRows_77 : decode cX9_writeRows 77 = .ok (.aload_n 0, 1) := by decide +kernel
theorem dX9_writeRows_78 : decode cX9_writeRows 78 = .ok (.getfield 19, 3) := by decide +kernel
theorem dX9_writeRows_81 : decode cX9_writeRows 81 = .ok (.iload_n 2, 1) := by decide +kernel
theorem dX9_writeRows_82 : decode cX9_writeRows 82 = .ok (.invokevirtual 427, 3) := by decide +kernel
theorem dX9_writeRows_85 : decode cX9_writeRows 85 = .ok (.iinc 2 1, 3) := by decide +kernel
theorem dX9_writeRows_88 : decode cX9_writeRows 88 = .ok (.goto (-86), 3) := by decide +kernel
theorem dX9_writeRows_91 : decode cX9_writeRows 91 = .ok (.return_, 1) := by decide +kernel
/-! J7_fill_53178 -/
theorem dJ7_fill_53178_0 : decode cJ7_fill_53178 0 = .ok (.iconst 0, 1) := by decide +kernel
theorem dJ7_fill_53178_1 : decode cJ7_fill_53178 1 = .ok (.istore_n 2, 1) := by decide +kernel
theorem dJ7_fill_53178_2 : decode cJ7_fill_53178 2 = .ok (.aload_n 0, 1) := by decide +kernel
theorem dJ7_fill_53178_3 : decode cJ7_fill_53178 3 = .ok (.arraylength, 1) := by decide +kernel
theorem dJ7_fill_53178_4 : decode cJ7_fill_53178 4 = .ok (.istore_n 3, 1) := by decide +kernel
theorem dJ7_fill_53178_5 : decode cJ7_fill_53178 5 = .ok (.iload_n 2, 1) := by decide +kernel
theorem dJ7_fill_53178_6 : decode cJ7_fill_53178 6 = .ok (.iload_n 3, 1) := by decide +kernel
theorem dJ7_fill_53178_7 : decode cJ7_fill_53178 7 = .ok (.if_icmp .ge 13, 3) := by decide +kernel
theorem dJ7_fill_53178_10 : decode cJ7_fill_53178 10 = .ok (.aload_n 0, 1) := by decide +kernel
theorem dJ7_fill_53178_11 : decode cJ7_fill_53178 11 = .ok (.iload_n 2, 1) := by decide +kernel
theorem dJ7_fill_53178_12 : decode cJ7_fill_53178 12 = .ok (.iload_n 1, 1) := by decide +kernel
theorem dJ7_fill_53178_13 : decode cJ7_fill_53178 13 = .ok (.iastore, 1) := by decide +kernel
theorem dJ7_fill_53178_14 : decode cJ7_fill_53178 14 = .ok (.iinc 2 1, 3) := by decide +kernel
theorem dJ7_fill_53178_17 : decode cJ7_fill_53178 17 = .ok (.goto (-12), 3) := by decide +kernel
theorem dJ7_fill_53178_20 : decode cJ7_fill_53178 20 = .ok (.return_, 1) := by decide +kernel
/-! J9_floorMod_7cf53 -/
theorem dJ9_floorMod_7cf53_0 : decode cJ9_floorMod_7cf53 0 = .ok (.iload_n 0, 1) := by decide +kernel
theorem dJ9_floorMod_7cf53_1 : decode cJ9_floorMod_7cf53 1 = .ok (.iload_n 1, 1) := by decide +kernel
theorem dJ9_floorMod_7cf53_2 : decode cJ9_floorMod_7cf53 2 = .ok (.irem, 1) := by decide +kernel
theorem dJ9_floorMod_7cf53_3 : decode cJ9_floorMod_7cf53 3 = .ok (.istore_n 2, 1) := by decide +kernel
theorem dJ9_floorMod_7cf53_4 : decode cJ9_floorMod_7cf53 4 = .ok (.iload_n 0, 1) := by decide +kernel
theorem dJ9_floorMod_7cf53_5 : decode cJ9_floorMod_7cf53 5 = .ok (.iload_n 1, 1) := by decide +kernel
theorem dJ9_floorMod_7cf53_6 : decode cJ9_floorMod_7cf53 6 = .ok (.ixor, 1) := by decide +kernel
theorem dJ9_floorMod_7cf53_7 : decode cJ9_floorMod_7cf53 7 = .ok (.ifCond .ge 11, 3) := by decide +kernel
theorem dJ9_floorMod_7cf53_10 : decode cJ9_floorMod_7cf53 10 = .ok (.iload_n 2, 1) := by decide +kernel
theorem dJ9_floorMod_7cf53_11 : decode cJ9_floorMod_7cf53 11 = .ok (.ifCond .eq 7, 3) := by decide +kernel
theorem dJ9_floorMod_7cf53_14 : decode cJ9_floorMod_7cf53 14 = .ok (.iload_n 2, 1) := by decide +kernel
theorem dJ9_floorMod_7cf53_15 : decode cJ9_floorMod_7cf53 15 = .ok (.iload_n 1, 1) := by decide +kernel
theorem dJ9_floorMod_7cf53_16 : decode cJ9_floorMod_7cf53 16 = .ok (.iadd, 1) := by decide +kernel
theorem dJ9_floorMod_7cf53_17 : decode cJ9_floorMod_7cf53 17 = .ok (.ireturn, 1) := by decide +kernel
theorem dJ9_floorMod_7cf53_18 : decode cJ9_floorMod_7cf53 18 = .ok (.iload_n 2, 1) := by decide +kernel
theorem dJ9_floorMod_7cf53_19 : decode cJ9_floorMod_7cf53 19 = .ok (.ireturn, 1) := by decide +kernel
/-! J9_max_7cf53 -/
theorem dJ9_max_7cf53_0 : decode cJ9_max_7cf53 0 = .ok (.iload_n 0, 1) := by decide +kernel
theorem dJ9_max_7cf53_1 : decode cJ9_max_7cf53 1 = .ok (.iload_n 1, 1) := by decide +kernel
theorem dJ9_max_7cf53_2 : decode cJ9_max_7cf53 2 = .ok (.if_icmp .lt 7, 3) := by decide +kernel
theorem dJ9_max_7cf53_5 : decode cJ9_max_7cf53 5 = .ok (.iload_n 0, 1) := by decide +kernel
theorem dJ9_max_7cf53_6 : decode cJ9_max_7cf53 6 = .ok (.goto 4, 3) := by decide +kernel
theorem dJ9_max_7cf53_9 : decode cJ9_max_7cf53 9 = .ok (.iload_n 1, 1) := by decide +kernel
theorem dJ9_max_7cf53_10 : decode cJ9_max_7cf53 10 = .ok (.ireturn, 1) := by decide +kernel
/-! J9_min_7cf53 -/
theorem dJ9_min_7cf53_0 : decode cJ9_min_7cf53 0 = .ok (.iload_n 0, 1) := by decide +kernel
theorem dJ9_min_7cf53_1 : decode cJ9_min_7cf53 1 = .ok (.iload_n 1, 1) := by decide +kernel
theorem dJ9_min_7cf53_2 : decode cJ9_min_7cf53 2 = .ok (.if_icmp .gt 7, 3) := by decide +kernel
theorem dJ9_min_7cf53_5 : decode cJ9_min_7cf53 5 = .ok (.iload_n 0, 1) := by decide +kernel
theorem dJ9_min_7cf53_6 : decode cJ9_min_7cf53 6 = .ok (.goto 4, 3) := by decide +kernel
theorem dJ9_min_7cf53_9 : decode cJ9_min_7cf53 9 = .ok (.iload_n 1, 1) := by decide +kernel
theorem dJ9_min_7cf53_10 : decode cJ9_min_7cf53 10 = .ok (.ireturn, 1) := by decide +kernel
