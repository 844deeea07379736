/-! X0_clear -/
theorem dX0_clear_0 : decode cX0_clear 0 = .ok (.aload_n 0, 1) := by decide +kernel
theorem dX0_clear_1 : decode cX0_clear 1 = .ok (.iconst 0, 1) := by decide +kernel
theorem dX0_clear_2 : decode cX0_clear 2 = .ok (.putfield 7, 3) := by decide +kernel
theorem dX0_clear_5 : decode cX0_clear 5 = .ok (.aload_n 0, 1) := by decide +kernel
theorem dX0_clear_6 : decode cX0_clear 6 = .ok (.iconst 0, 1) := by decide +kernel
theorem dX0_clear_7 : decode cX0_clear 7 = .ok (.putfield 13, 3) := by decide +kernel
theorem dX0_clear_10 : decode cX0_clear 10 = .ok (.aload_n 0, 1) := by decide +kernel
theorem dX0_clear_11 : decode cX0_clear 11 = .ok (.iconst 0, 1) := by decide +kernel
theorem dX0_clear_12 : decode cX0_clear 12 = .ok (.putfield 16, 3) := by decide +kernel
theorem dX0_clear_15 : decode cX0_clear 15 = .ok (.aload_n 0, 1) := by decide +kernel
theorem dX0_clear_16 : decode cX0_clear 16 = .ok (.iconst 0, 1) := by decide +kernel
theorem dX0_clear_17 : decode cX0_clear 17 = .ok (.putfield 19, 3) := by decide +kernel
theorem dX0_clear_20 : decode cX0_clear 20 = .ok (.aload_n 0, 1) := by decide +kernel
theorem dX0_clear_21 : decode cX0_clear 21 = .ok (.iconst 0, 1) := by decide +kernel
theorem dX0_clear_22 : decode cX0_clear 22 = .ok (.putfield 22, 3) := by decide +kernel
theorem dX0_clear_25 : decode cX0_clear 25 = .ok (.aload_n 0, 1) := by decide +kernel
theorem dX0_clear_26 : decode cX0_clear 26 = .ok (.iconst 0, 1) := by decide +kernel
theorem dX0_clear_27 : decode cX0_clear 27 = .ok (.putfield 25, 3) := by decide +kernel
theorem dX0_clear_30 : decode cX0_clear 30 = .ok (.aload_n 0, 1) := by decide +kernel
theorem dX0_clear_31 : decode cX0_clear 31 = .ok (.iconst 0, 1) := by decide +kernel
theorem dX0_clear_32 : decode cX0_clear 32 = .ok (.putfield 28, 3) := by decide +kernel
theorem dX0_clear_35 : decode cX0_clear 35 = .ok (.aload_n 0, 1) := by decide +kernel
theorem dX0_clear_36 : decode cX0_clear 36 = .ok (.iconst 0, 1) := by decide +kernel
theorem dX0_clear_37 : decode cX0_clear 37 = .ok (.putfield 31, 3) := by decide +kernel
theorem dX0_clear_40 : decode cX0_clear 40 = .ok (.aload_n 0, 1) := by decide +kernel
theorem dX0_clear_41 : decode cX0_clear 41 = .ok (.iconst 0, 1) := by decide +kernel
theorem dX0_clear_42 : decode cX0_clear 42 = .ok (.putfield 34, 3) := by decide +kernel
theorem dX0_clear_45 : decode cX0_clear 45 = .ok (.aload_n 0, 1) := by decide +kernel
theorem dX0_clear_46 : decode cX0_clear 46 = .ok (.iconst 0, 1) := by decide +kernel
theorem dX0_clear_47 : decode cX0_clear 47 = .ok (.putfield 37, 3) := by decide +kernel
theorem dX0_clear_50 : decode cX0_clear 50 = .ok (.aload_n 0, 1) := by decide +kernel
theorem dX0_clear_51 : decode cX0_clear 51 = .ok (.iconst 0, 1) := by decide +kernel
theorem dX0_clear_52 : decode cX0_clear 52 = .ok (.putfield 40, 3) := by decide +kernel
theorem dX0_clear_55 : decode cX0_clear 55 = .ok (.aload_n 0, 1) := by decide +kernel
theorem dX0_clear_56 : decode cX0_clear 56 = .ok (.iconst 0, 1) := by decide +kernel
theorem dX0_clear_57 : decode cX0_clear 57 = .ok (.putfield 43, 3) := by decide +kernel
theorem dX0_clear_60 : decode cX0_clear 60 = .ok (.aload_n 0, 1) := by decide +kernel
theorem dX0_clear_61 : decode cX0_clear 61 = .ok (.iconst 0, 1) := by decide +kernel
theorem dX0_clear_62 : decode cX0_clear 62 = .ok (.putfield 46, 3) := by decide +kernel
theorem dX0_clear_65 : decode cX0_clear 65 = .ok (.return_, 1) := by decide +kernel
/-! X0_copyFrom -/
theorem dX0_copyFrom_0 : decode cX0_copyFrom 0 = .ok (.aload_n 0, 1) := by decide +kernel
theorem dX0_copyFrom_1 : decode cX0_copyFrom 1 = .ok (.aload_n 1, 1) := by decide +kernel
theorem dX0_copyFrom_2 : decode cX0_copyFrom 2 = .ok (.getfield 7, 3) := by decide +kernel
theorem dX0_copyFrom_5 : decode cX0_copyFrom 5 = .ok (.putfield 7, 3) := by decide +kernel
theorem dX0_copyFrom_8 : decode cX0_copyFrom 8 = .ok (.aload_n 0, 1) := by decide +kernel
theorem dX0_copyFrom_9 : decode cX0_copyFrom 9 = .ok (.aload_n 1, 1) := by decide +kernel
theorem dX0_copyFrom_10 : decode cX0_copyFrom 10 = .ok (.getfield 13, 3) := by decide +kernel
theorem dX0_copyFrom_13 : decode cX0_copyFrom 13 = .ok (.putfield 13, 3) := by decide +kernel
theorem dX0_copyFrom_16 : decode cX0_copyFrom 16 = .ok (.aload_n 0, 1) := by decide +kernel
theorem dX0_copyFrom_17 : decode cX0_copyFrom 17 = .ok (.aload_n 1, 1) := by decide +kernel
theorem dX0_copyFrom_18 : decode cX0_copyFrom 18 = .ok (.getfield 16, 3) := by decide +kernel
theorem dX0_copyFrom_21 : decode cX0_copyFrom 21 = .ok (.putfield 16, 3) := by decide +kernel
theorem dX0_copyFrom_24 : decode cX0_copyFrom 24 = .ok (.aload_n 0, 1) := by decide +kernel
theorem dX0_copyFrom_25 : decode cX0_copyFrom 25 = .ok (.aload_n 1, 1) := by decide +kernel
theorem dX0_copyFrom_26 : decode cX0_copyFrom 26 = .ok (.getfield 19, 3) := by decide +kernel
theorem dX0_copyFrom_29 : decode cX0_copyFrom 29 = .ok (.putfield 19, 3) := by decide +kernel
theorem dX0_copyFrom_32 : decode cX0_copyFrom 32 = .ok (.aload_n 0, 1) := by decide +kernel
theorem dX0_copyFrom_33 : decode cX0_copyFrom 33 = .ok (.aload_n 1, 1) := by decide +kernel
theorem dX0_copyFrom_34 : decode cX0_copyFrom 34 = .ok (.getfield 22, 3) := by decide +kernel
theorem dX0_copyFrom_37 : decode cX0_copyFrom 37 = .ok (.putfield 22, 3) := by decide +kernel
theorem dX0_copyFrom_40 : decode cX0_copyFrom 40 = .ok (.aload_n 0, 1) := by decide +kernel
theorem dX0_copyFrom_41 : decode cX0_copyFrom 41 = .ok (.aload_n 1, 1) := by decide +kernel
theorem dX0_copyFrom_42 : decode cX0_copyFrom 42 = .ok (.getfield 25, 3) := by decide +kernel
theorem dX0_copyFrom_45 : decode cX0_copyFrom 45 = .ok (.putfield 25, 3) := by decide +kernel
theorem dX0_copyFrom_48 : decode cX0_copyFrom 48 = .ok (.aload_n 0, 1) := by decide +kernel
theorem dX0_copyFrom_49 : decode cX0_copyFrom 49 = .ok (.aload_n 1, 1) := by decide +kernel
theorem dX0_copyFrom_50 : decode cX0_copyFrom 50 = .ok (.getfield 28, 3) := by decide +kernel
theorem dX0_copyFrom_53 : decode cX0_copyFrom 53 = .ok (.putfield 28, 3) := by decide +kernel
theorem dX0_copyFrom_56 : decode cX0_copyFrom 56 = .ok (.aload_n 0, 1) := by decide +kernel
theorem dX0_copyFrom_57 : decode cX0_copyFrom 57 = .ok (.aload_n 1, 1) := by decide +kernel
theorem dX0_copyFrom_58 : decode cX0_copyFrom 58 = .ok (.getfield 31, 3) := by decide +kernel
theorem dX0_copyFrom_61 : decode cX0_copyFrom 61 = .ok (.putfield 31, 3) := by decide +kernel
theorem dX0_copyFrom_64 : decode cX0_copyFrom 64 = .ok (.aload_n 0, 1) := by decide +kernel
theorem dX0_copyFrom_65 : decode cX0_copyFrom 65 = .ok (.aload_n 1, 1) := by decide +kernel
theorem dX0_copyFrom_66 : decode cX0_copyFrom 66 = .ok (.getfield 34, 3) := by decide +kernel
theorem dX0_copyFrom_69 : decode cX0_copyFrom 69 = .ok (.putfield 34, 3) := by decide +kernel
theorem dX0_copyFrom_72 : decode cX0_copyFrom 72 = .ok (.aload_n 0, 1) := by decide +kernel
theorem dX0_copyFrom_73 : decode cX0_copyFrom 73 = .ok (.aload_n 1, 1) := by decide +kernel
theorem dX0_copyFrom_74 : decode cX0_copyFrom 74 = .ok (.getfield 37, 3) := by decide +kernel
theorem dX0_copyFrom_77 : decode cX0_copyFrom 77 = .ok (.putfield 37, 3) := by decide +kernel
theorem dX0_copyFrom_80 : decode cX0_copyFrom 80 = .ok (.aload_n 0, 1) := by decide +kernel
theorem dX0_copyFrom_81 : decode cX0_copyFrom 81 = .ok (.aload_n 1, 1) := by decide +kernel
theorem dX0_copyFrom_82 : decode cX0_copyFrom 82 = .ok (.getfield 40, 3) := by decide +kernel
theorem dX0_copyFrom_85 : decode cX0_copyFrom 85 = .ok (.putfield 40, 3) := by decide +kernel
theorem dX0_copyFrom_88 : decode cX0_copyFrom 88 = .ok (.aload_n 0, 1) := by decide +kernel
theorem dX0_copyFrom_89 : decode cX0_copyFrom 89 = .ok (.aload_n 1, 1) := by decide +kernel
theorem dX0_copyFrom_90 : decode cX0_copyFrom 90 = .ok (.getfield 43, 3) := by decide +kernel
theorem dX0_copyFrom_93 : decode cX0_copyFrom 93 = .ok (.putfield 43, 3) := by decide +kernel
theorem dX0_copyFrom_96 : decode cX0_copyFrom 96 = .ok (.aload_n 0, 1) := by decide +kernel
theorem dX0_copyFrom_97 : decode cX0_copyFrom 97 = .ok (.aload_n 1, 1) := by decide +kernel
theorem dX0_copyFrom_98 : decode cX0_copyFrom 98 = .ok (.getfield 46, 3) := by decide +kernel
theorem dX0_copyFrom_101 : decode cX0_copyFrom 101 = .ok (.putfield 46, 3) := by decide +kernel
theorem dX0_copyFrom_104 : decode cX0_copyFrom 104 = .ok (.return_, 1) := by decide +kernel
/-! X0_init -/
theorem dX0_init_0 : decode cX0_init 0 = .ok (.aload_n 0, 1) := by decide +kernel
theorem dX0_init_1 : decode cX0_init 1 = .ok (.invokespecial 1, 3) := by decide +kernel
theorem dX0_init_4 : decode cX0_init 4 = .ok (.aload_n 0, 1) := by decide +kernel
theorem dX0_init_5 : decode cX0_init 5 = .ok (.iconst 0, 1) := by decide +kernel
theorem dX0_init_6 : decode cX0_init 6 = .ok (.putfield 7, 3) := by decide +kernel
theorem dX0_init_9 : decode cX0_init 9 = .ok (.aload_n 0, 1) := by decide +kernel
theorem dX0_init_10 : decode cX0_init 10 = .ok (.iconst 0, 1) := by decide +kernel
theorem dX0_init_11 : decode cX0_init 11 = .ok (.putfield 13, 3) := by decide +kernel
theorem dX0_init_14 : decode cX0_init 14 = .ok (.aload_n 0, 1) := by decide +kernel
theorem dX0_init_15 : decode cX0_init 15 = .ok (.iconst 0, 1) := by decide +kernel
theorem dX0_init_16 : decode cX0_init 16 = .ok (.putfield 16, 3) := by decide +kernel
theorem dX0_init_19 : decode cX0_init 19 = .ok (.aload_n 0, 1) := by decide +kernel
theorem dX0_init_20 : decode cX0_init 20 = .ok (.iconst 0, 1) := by decide +kernel
theorem dX0_init_21 : decode cX0_init 21 = .ok (.putfield 19, 3) := by decide +kernel
theorem dX0_init_24 : decode cX0_init 24 = .ok (.aload_n 0, 1) := by decide +kernel
theorem dX0_init_25 : decode cX0_init 25 = .ok (.iconst 0, 1) := by decide +kernel
theorem dX0_init_26 : decode cX0_init 26 = .ok (.putfield 22, 3) := by decide +kernel
theorem dX0_init_29 : decode cX0_init 29 = .ok (.aload_n 0, 1) := by decide +kernel
theorem dX0_init_30 : decode cX0_init 30 = .ok (.iconst 0, 1) := by decide +kernel
theorem dX0_init_31 : decode cX0_init 31 = .ok (.putfield 25, 3) := by decide +kernel
theorem dX0_init_34 : decode cX0_init 34 = .ok (.aload_n 0, 1) := by decide +kernel
theorem dX0_init_35 : decode cX0_init 35 = .ok (.iconst 0, 1) := by decide +kernel
theorem dX0_init_36 : decode cX0_init 36 = .ok (.putfield 28, 3) := by decide +kernel
theorem dX0_init_39 : decode cX0_init 39 = .ok (.aload_n 0, 1) := by decide +kernel
theorem dX0_init_40 : decode cX0_init 40 = .ok (.iconst 0, 1) := by decide +kernel
theorem dX0_init_41 : decode cX0_init 41 = .ok (.putfield 31, 3) := by decide +kernel
theorem dX0_init_44 : decode cX0_init 44 = .ok (.aload_n 0, 1) := by decide +kernel
theorem dX0_init_45 : decode cX0_init 45 = .ok (.iconst 0, 1) := by decide +kernel
theorem dX0_init_46 : decode cX0_init 46 = .ok (.putfield 34, 3) := by decide +kernel
theorem dX0_init_49 : decode cX0_init 49 = .ok (.aload_n 0, 1) := by decide +kernel
theorem dX0_init_50 : decode cX0_init 50 = .ok (.iconst 0, 1) := by decide +kernel
theorem dX0_init_51 : decode cX0_init 51 = .ok (.putfield 37, 3) := by decide +kernel
theorem dX0_init_54 : decode cX0_init 54 = .ok (.aload_n 0, 1) := by decide +kernel
theorem dX0_init_55 : decode cX0_init 55 = .ok (.iconst 0, 1) := by decide +kernel
theorem dX0_init_56 : decode cX0_init 56 = .ok (.putfield 40, 3) := by decide +kernel
theorem dX0_init_59 : decode cX0_init 59 = .ok (.aload_n 0, 1) := by decide +kernel
theorem dX0_init_60 : decode cX0_init 60 = .ok (.iconst 0, 1) := by decide +kernel
theorem dX0_init_61 : decode cX0_init 61 = .ok (.putfield 43, 3) := by decide +kernel
theorem dX0_init_64 : decode cX0_init 64 = .ok (.aload_n 0, 1) := by decide +kernel
theorem dX0_init_65 : decode cX0_init 65 = .ok (.iconst 0, 1) := by decide +kernel
theorem dX0_init_66 : decode cX0_init 66 = .ok (.putfield 46, 3) := by decide +kernel
theorem dX0_init_69 : decode cX0_init 69 = .ok (.return_, 1) := by decide +kernel
/-! X0_numberOf -/
theorem dX0_numberOf_0 : decode cX0_numberOf 0 = .ok (.iload_n 1, 1) := by decide +kernel
theorem dX0_numberOf_1 : decode cX0_numberOf 1 = .ok (.tableswitch 114 0 10 #[59, 64, 69, 74, 79, 84, 89, 94, 99, 104, 109], 59) := by decide +kernel
theorem dX0_numberOf_60 : decode cX0_numberOf 60 = .ok (.aload_n 0, 1) := by decide +kernel
theorem dX0_numberOf_61 : decode cX0_numberOf 61 = .ok (.getfield 7, 3) := by decide +kernel
theorem dX0_numberOf_64 : decode cX0_numberOf 64 = .ok (.ireturn, 1) := by decide +kernel
theorem dX0_numberOf_65 : decode cX0_numberOf 65 = .ok (.aload_n 0, 1) := by decide +kernel
theorem dX0_numberOf_66 : decode cX0_numberOf 66 = .ok (.getfield 13, 3) := by decide +kernel
theorem dX0_numberOf_69 : decode cX0_numberOf 69 = .ok (.ireturn, 1) := by decide +kernel
theorem dX0_numberOf_70 : decode cX0_numberOf 70 = .ok (.aload_n 0, 1) := by decide +kernel
theorem dX0_numberOf_71 : decode cX0_numberOf 71 = .ok (.getfield 16, 3) := by decide +kernel
theorem dX0_numberOf_74 : decode cX0_numberOf 74 = .ok (.ireturn, 1) := by decide +kernel
theorem dX0_numberOf_75 : decode cX0_numberOf 75 = .ok (.aload_n 0, 1) := by decide +kernel
theorem dX0_numberOf_76 : decode cX0_numberOf 76 = .ok (.getfield 19, 3) := by decide +kernel
theorem dX0_numberOf_79 : decode cX0_numberOf 79 = .ok (.ireturn, 1) := by decide +kernel
theorem dX0_numberOf_80 : decode cX0_numberOf 80 = .ok (.aload_n 0, 1) := by decide +kernel
theorem dX0_numberOf_81 : decode cX0_numberOf 81 = .ok (.getfield 22, 3) := by decide +kernel
theorem dX0_numberOf_84 : decode cX0_numberOf 84 = .ok (.ireturn, 1) := by decide +kernel
theorem dX0_numberOf_85 : decode cX0_numberOf 85 = .ok (.aload_n 0, 1) := by decide +kernel
theorem dX0_numberOf_86 : decode cX0_numberOf 86 = .ok (.getfield 25, 3) := by decide +kernel
theorem dX0_numberOf_89 : decode cX0_numberOf 89 = .ok (.ireturn, 1) := by decide +kernel
theorem dX0_numberOf_90 : decode cX0_numberOf 90 = .ok (.aload_n 0, 1) := by decide +kernel
theorem dX0_numberOf_91 : decode cX0_numberOf 91 = .ok (.getfield 28, 3) := by decide +kernel
theorem dX0_numberOf_94 : decode cX0_numberOf 94 = .ok (.ireturn, 1) := by decide +kernel
theorem dX0_numberOf_95 : decode cX0_numberOf 95 = .ok (.aload_n 0, 1) := by decide +kernel
theorem dX0_numberOf_96 : decode cX0_numberOf 96 = .ok (.getfield 31, 3) := by decide +kernel
theorem dX0_numberOf_99 : decode cX0_numberOf 99 = .ok (.ireturn, 1) := by decide +kernel
theorem dX0_numberOf_100 : decode cX0_numberOf 100 = .ok (.aload_n 0, 1) := by decide +kernel
theorem dX0_numberOf_101 : decode cX0_numberOf 101 = .ok (.getfield 34, 3) := by decide +kernel
theorem dX0_numberOf_104 : decode cX0_numberOf 104 = .ok (.ireturn, 1) := by decide +kernel
theorem dX0_numberOf_105 : decode cX0_numberOf 105 = .ok (.aload_n 0, 1) := by decide +kernel
theorem dX0_numberOf_106 : decode cX0_numberOf 106 = .ok (.getfield 37, 3) := by decide +kernel
theorem dX0_numberOf_109 : decode cX0_numberOf 109 = .ok (.ireturn, 1) := by decide +kernel
theorem dX0_numberOf_110 : decode cX0_numberOf 110 = .ok (.aload_n 0, 1) := by decide +kernel
theorem dX0_numberOf_111 : decode cX0_numberOf 111 = .ok (.getfield 40, 3) := by decide +kernel
theorem dX0_numberOf_114 : decode cX0_numberOf 114 = .ok (.ireturn, 1) := by decide +kernel
theorem dX0_numberOf_115 : decode cX0_numberOf 115 = .ok (.aload_n 0, 1) := by decide +kernel
theorem dX0_numberOf_116 : decode cX0_numberOf 116 = .ok (.getfield 43, 3) := by decide +kernel
theorem dX0_numberOf_119 : decode cX0_numberOf 119 = .ok (.ireturn, 1) := by decide +kernel
/-! X1_begin -/
theorem dX1_begin_0 : decode cX1_begin 0 = .ok (.aload_n 0, 1) := by decide +kernel
theorem dX1_begin_1 : decode cX1_begin 1 = .ok (.iload_n 1, 1) := by decide +kernel
theorem dX1_begin_2 : decode cX1_begin 2 = .ok (.putfield 9, 3) := by decide +kernel
theorem dX1_begin_5 : decode cX1_begin 5 = .ok (.aload_n 0, 1) := by decide +kernel
theorem dX1_begin_6 : decode cX1_begin 6 = .ok (.iload_n 2, 1) := by decide +kernel
theorem dX1_begin_7 : decode cX1_begin 7 = .ok (.putfield 15, 3) := by decide +kernel
theorem dX1_begin_10 : decode cX1_begin 10 = .ok (.aload_n 0, 1) := by decide +kernel
theorem dX1_begin_11 : decode cX1_begin 11 = .ok (.iload_n 3, 1) := by decide +kernel
theorem dX1_begin_12 : decode cX1_begin 12 = .ok (.putfield 18, 3) := by decide +kernel
theorem dX1_begin_15 : decode cX1_begin 15 = .ok (.aload_n 0, 1) := by decide +kernel
theorem dX1_begin_16 : decode cX1_begin 16 = .ok (.iconst 0, 1) := by decide +kernel
theorem dX1_begin_17 : decode cX1_begin 17 = .ok (.putfield 22, 3) := by decide +kernel
theorem dX1_begin_20 : decode cX1_begin 20 = .ok (.aload_n 0, 1) := by decide +kernel
theorem dX1_begin_21 : decode cX1_begin 21 = .ok (.iload 4, 2) := by decide +kernel
theorem dX1_begin_23 : decode cX1_begin 23 = .ok (.putfield 25, 3) := by decide +kernel
theorem dX1_begin_26 : decode cX1_begin 26 = .ok (.aload_n 0, 1) := by decide +kernel
theorem dX1_begin_27 : decode cX1_begin 27 = .ok (.iconst 0, 1) := by decide +kernel
theorem dX1_begin_28 : decode cX1_begin 28 = .ok (.putfield 28, 3) := by decide +kernel
theorem dX1_begin_31 : decode cX1_begin 31 = .ok (.aload_n 0, 1) := by decide +kernel
theorem dX1_begin_32 : decode cX1_begin 32 = .ok (.iconst (-1), 1) := by decide +kernel
theorem dX1_begin_33 : decode cX1_begin 33 = .ok (.putfield 31, 3) := by decide +kernel
theorem dX1_begin_36 : decode cX1_begin 36 = .ok (.aload_n 0, 1) := by decide +kernel
theorem dX1_begin_37 : decode cX1_begin 37 = .ok (.iconst 0, 1) := by decide +kernel
theorem dX1_begin_38 : decode cX1_begin 38 = .ok (.putfield 34, 3) := by decide +kernel
theorem dX1_begin_41 : decode cX1_begin 41 = .ok (.return_, 1) := by decide +kernel
/-! X1_byteAt -/
theorem dX1_byteAt_0 : decode cX1_byteAt 0 = .ok (.aload_n 0, 1) := by decide +kernel
theorem dX1_byteAt_1 : decode cX1_byteAt 1 = .ok (.getfield 15, 3) := by decide +kernel
theorem dX1_byteAt_4 : decode cX1_byteAt 4 = .ok (.bipush 31, 2) := by decide +kernel
theorem dX1_byteAt_6 : decode cX1_byteAt 6 = .ok (.iload_n 1, 1) := by decide +kernel
theorem dX1_byteAt_7 : decode cX1_byteAt 7 = .ok (.imul, 1) := by decide +kernel
theorem dX1_byteAt_8 : decode cX1_byteAt 8 = .ok (.iadd, 1) := by decide +kernel
theorem dX1_byteAt_9 : decode cX1_byteAt 9 = .ok (.sipush 255, 3) := by decide +kernel
theorem dX1_byteAt_12 : decode cX1_byteAt 12 = .ok (.iand, 1) := by decide +kernel
theorem dX1_byteAt_13 : decode cX1_byteAt 13 = .ok (.ireturn, 1) := by decide +kernel
/-! X1_close -/
theorem dX1_close_0 : decode cX1_close 0 = .ok (.aload_n 0, 1) := by decide +kernel
theorem dX1_close_1 : decode cX1_close 1 = .ok (.iload_n 1, 1) := by decide +kernel
theorem dX1_close_2 : decode cX1_close 2 = .ok (.putfield 28, 3) := by decide +kernel
theorem dX1_close_5 : decode cX1_close 5 = .ok (.aload_n 0, 1) := by decide +kernel
theorem dX1_close_6 : decode cX1_close 6 = .ok (.iload_n 2, 1) := by decide +kernel
theorem dX1_close_7 : decode cX1_close 7 = .ok (.putfield 31, 3) := by decide +kernel
theorem dX1_close_10 : decode cX1_close 10 = .ok (.aload_n 0, 1) := by decide +kernel
theorem dX1_close_11 : decode cX1_close 11 = .ok (.iload_n 3, 1) := by decide +kernel
theorem dX1_close_12 : decode cX1_close 12 = .ok (.putfield 34, 3) := by decide +kernel
theorem dX1_close_15 : decode cX1_close 15 = .ok (.return_, 1) := by decide +kernel
/-! X1_copyFrom -/
theorem dX1_copyFrom_0 : decode cX1_copyFrom 0 = .ok (.aload_n 0, 1) := by decide +kernel
theorem dX1_copyFrom_1 : decode cX1_copyFrom 1 = .ok (.aload_n 1, 1) := by decide +kernel
theorem dX1_copyFrom_2 : decode cX1_copyFrom 2 = .ok (.getfield 9, 3) := by decide +kernel
theorem dX1_copyFrom_5 : decode cX1_copyFrom 5 = .ok (.putfield 9, 3) := by decide +kernel
theorem dX1_copyFrom_8 : decode cX1_copyFrom 8 = .ok (.aload_n 0, 1) := by decide +kernel
theorem dX1_copyFrom_9 : decode cX1_copyFrom 9 = .ok (.aload_n 1, 1) := by decide +kernel
theorem dX1_copyFrom_10 : decode cX1_copyFrom 10 = .ok (.getfield 15, 3) := by decide +kernel
theorem dX1_copyFrom_13 : decode cX1_copyFrom 13 = .ok (.putfield 15, 3) := by decide +kernel
theorem dX1_copyFrom_16 : decode cX1_copyFrom 16 = .ok (.aload_n 0, 1) := by decide +kernel
theorem dX1_copyFrom_17 : decode cX1_copyFrom 17 = .ok (.aload_n 1, 1) := by decide +kernel
theorem dX1_copyFrom_18 : decode cX1_copyFrom 18 = .ok (.getfield 18, 3) := by decide +kernel
theorem dX1_copyFrom_21 : decode cX1_copyFrom 21 = .ok (.putfield 18, 3) := by decide +kernel
theorem dX1_copyFrom_24 : decode cX1_copyFrom 24 = .ok (.aload_n 0, 1) := by decide +kernel
theorem dX1_copyFrom_25 : decode cX1_copyFrom 25 = .ok (.aload_n 1, 1) := by decide +kernel
theorem dX1_copyFrom_26 : decode cX1_copyFrom 26 = .ok (.getfield 22, 3) := by decide +kernel
theorem dX1_copyFrom_29 : decode cX1_copyFrom 29 = .ok (.putfield 22, 3) := by decide +kernel
theorem dX1_copyFrom_32 : decode cX1_copyFrom 32 = .ok (.aload_n 0, 1) := by decide +kernel
theorem dX1_copyFrom_33 : decode cX1_copyFrom 33 = .ok (.aload_n 1, 1) := by decide +kernel
theorem dX1_copyFrom_34 : decode cX1_copyFrom 34 = .ok (.getfield 25, 3) := by decide +kernel
theorem dX1_copyFrom_37 : decode cX1_copyFrom 37 = .ok (.putfield 25, 3) := by decide +kernel
theorem dX1_copyFrom_40 : decode cX1_copyFrom 40 = .ok (.aload_n 0, 1) := by decide +kernel
theorem dX1_copyFrom_41 : decode cX1_copyFrom 41 = .ok (.aload_n 1, 1) := by decide +kernel
theorem dX1_copyFrom_42 : decode cX1_copyFrom 42 = .ok (.getfield 28, 3) := by decide +kernel
theorem dX1_copyFrom_45 : decode cX1_copyFrom 45 = .ok (.putfield 28, 3) := by decide +kernel
theorem dX1_copyFrom_48 : decode cX1_copyFrom 48 = .ok (.aload_n 0, 1) := by decide +kernel
theorem dX1_copyFrom_49 : decode cX1_copyFrom 49 = .ok (.aload_n 1, 1) := by decide +kernel
theorem dX1_copyFrom_50 : decode cX1_copyFrom 50 = .ok (.getfield 31, 3) := by decide +kernel
theorem dX1_copyFrom_53 : decode cX1_copyFrom 53 = .ok (.putfield 31, 3) := by decide +kernel
theorem dX1_copyFrom_56 : decode cX1_copyFrom 56 = .ok (.aload_n 0, 1) := by decide +kernel
theorem dX1_copyFrom_57 : decode cX1_copyFrom 57 = .ok (.aload_n 1, 1) := by decide +kernel
theorem dX1_copyFrom_58 : decode cX1_copyFrom 58 = .ok (.getfield 34, 3) := by decide +kernel
theorem dX1_copyFrom_61 : decode cX1_copyFrom 61 = .ok (.putfield 34, 3) := by decide +kernel
theorem dX1_copyFrom_64 : decode cX1_copyFrom 64 = .ok (.return_, 1) := by decide +kernel
/-! X1_init -/
theorem dX1_init_0 : decode cX1_init 0 = .ok (.aload_n 0, 1) := by decide +kernel
theorem dX1_init_1 : decode cX1_init 1 = .ok (.invokespecial 3, 3) := by decide +kernel
theorem dX1_init_4 : decode cX1_init 4 = .ok (.aload_n 0, 1) := by decide +kernel
theorem dX1_init_5 : decode cX1_init 5 = .ok (.iconst 0, 1) := by decide +kernel
theorem dX1_init_6 : decode cX1_init 6 = .ok (.putfield 9, 3) := by decide +kernel
theorem dX1_init_9 : decode cX1_init 9 = .ok (.aload_n 0, 1) := by decide +kernel
theorem dX1_init_10 : decode cX1_init 10 = .ok (.iconst 0, 1) := by decide +kernel
theorem dX1_init_11 : decode cX1_init 11 = .ok (.putfield 15, 3) := by decide +kernel
theorem dX1_init_14 : decode cX1_init 14 = .ok (.aload_n 0, 1) := by decide +kernel
theorem dX1_init_15 : decode cX1_init 15 = .ok (.iconst 0, 1) := by decide +kernel
theorem dX1_init_16 : decode cX1_init 16 = .ok (.putfield 18, 3) := by decide +kernel
theorem dX1_init_19 : decode cX1_init 19 = .ok (.aload_n 0, 1) := by decide +kernel
theorem dX1_init_20 : decode cX1_init 20 = .ok (.iconst 0, 1) := by decide +kernel
theorem dX1_init_21 : decode cX1_init 21 = .ok (.putfield 22, 3) := by decide +kernel
theorem dX1_init_24 : decode cX1_init 24 = .ok (.aload_n 0, 1) := by decide +kernel
theorem dX1_init_25 : decode cX1_init 25 = .ok (.iconst 0, 1) := by decide +kernel
theorem dX1_init_26 : decode cX1_init 26 = .ok (.putfield 25, 3) := by decide +kernel
theorem dX1_init_29 : decode cX1_init 29 = .ok (.aload_n 0, 1) := by decide +kernel
theorem dX1_init_30 : decode cX1_init 30 = .ok (.iconst 0, 1) := by decide +kernel
theorem dX1_init_31 : decode cX1_init 31 = .ok (.putfield 28, 3) := by decide +kernel
theorem dX1_init_34 : decode cX1_init 34 = .ok (.aload_n 0, 1) := by decide +kernel
theorem dX1_init_35 : decode cX1_init 35 = .ok (.iconst (-1), 1) := by decide +kernel
theorem dX1_init_36 : decode cX1_init 36 = .ok (.putfield 31, 3) := by decide +kernel
theorem dX1_init_39 : decode cX1_init 39 = .ok (.aload_n 0, 1) := by decide +kernel
theorem dX1_init_40 : decode cX1_init 40 = .ok (.iconst 0, 1) := by decide +kernel
theorem dX1_init_41 : decode cX1_init 41 = .ok (.putfield 34, 3) := by decide +kernel
theorem dX1_init_44 : decode cX1_init 44 = .ok (.return_, 1) := by decide +kernel
/-! X1_isHanded -/
theorem dX1_isHanded_0 : decode cX1_isHanded 0 = .ok (.aload_n 0, 1) := by decide +kernel
theorem dX1_isHanded_1 : decode cX1_isHanded 1 = .ok (.getfield 28, 3) := by decide +kernel
theorem dX1_isHanded_4 : decode cX1_isHanded 4 = .ok (.iconst 1, 1) := by decide +kernel
theorem dX1_isHanded_5 : decode cX1_isHanded 5 = .ok (.if_icmp .eq 11, 3) := by decide +kernel
theorem dX1_isHanded_8 : decode cX1_isHanded 8 = .ok (.aload_n 0, 1) := by decide +kernel
theorem dX1_isHanded_9 : decode cX1_isHanded 9 = .ok (.getfield 28, 3) := by decide +kernel
theorem dX1_isHanded_12 : decode cX1_isHanded 12 = .ok (.iconst 2, 1) := by decide +kernel
theorem dX1_isHanded_13 : decode cX1_isHanded 13 = .ok (.if_icmp .ne 7, 3) := by decide +kernel
theorem dX1_isHanded_16 : decode cX1_isHanded 16 = .ok (.iconst 1, 1) := by decide +kernel
theorem dX1_isHanded_17 : decode cX1_isHanded 17 = .ok (.goto 4, 3) := by decide +kernel
theorem dX1_isHanded_20 : decode cX1_isHanded 20 = .ok (.iconst 0, 1) := by decide +kernel
theorem dX1_isHanded_21 : decode cX1_isHanded 21 = .ok (.ireturn, 1) := by decide +kernel
/-! X2_begin -/
theorem dX2_begin_0 : decode cX2_begin 0 = .ok (.aload_n 0, 1) := by decide +kernel
theorem dX2_begin_1 : decode cX2_begin 1 = .ok (.getfield 33, 3) := by decide +kernel
theorem dX2_begin_4 : decode cX2_begin 4 = .ok (.arraylength, 1) := by decide +kernel
theorem dX2_begin_5 : decode cX2_begin 5 = .ok (.sipush 1192, 3) := by decide +kernel
theorem dX2_begin_8 : decode cX2_begin 8 = .ok (.if_icmp .ge 12, 3) := by decide +kernel
theorem dX2_begin_11 : decode cX2_begin 11 = .ok (.aload_n 0, 1) := by decide +kernel
theorem dX2_begin_12 : decode cX2_begin 12 = .ok (.sipush 1192, 3) := by decide +kernel
theorem dX2_begin_15 : decode cX2_begin 15 = .ok (.newarray .int, 2) := by decide +kernel
theorem dX2_begin_17 : decode cX2_begin 17 = .ok (.putfield 33, 3) := by decide +kernel
theorem dX2_begin_20 : decode cX2_begin 20 = .ok (.aload_n 0, 1) := by decide +kernel
theorem dX2_begin_21 : decode cX2_begin 21 = .ok (.iload_n 1, 1) := by decide +kernel
theorem dX2_begin_22 : decode cX2_begin 22 = .ok (.putfield 11, 3) := by decide +kernel
theorem dX2_begin_25 : decode cX2_begin 25 = .ok (.aload_n 0, 1) := by decide +kernel
theorem dX2_begin_26 : decode cX2_begin 26 = .ok (.iload_n 2, 1) := by decide +kernel
theorem dX2_begin_27 : decode cX2_begin 27 = .ok (.putfield 15, 3) := by decide +kernel
theorem dX2_begin_30 : decode cX2_begin 30 = .ok (.aload_n 0, 1) := by decide +kernel
theorem dX2_begin_31 : decode cX2_begin 31 = .ok (.iconst (-1), 1) := by decide +kernel
theorem dX2_begin_32 : decode cX2_begin 32 = .ok (.putfield 18, 3) := by decide +kernel
theorem dX2_begin_35 : decode cX2_begin 35 = .ok (.aload_n 0, 1) := by decide +kernel
theorem dX2_begin_36 : decode cX2_begin 36 = .ok (.iconst 0, 1) := by decide +kernel
theorem dX2_begin_37 : decode cX2_begin 37 = .ok (.putfield 21, 3) := by decide +kernel
theorem dX2_begin_40 : decode cX2_begin 40 = .ok (.aload_n 0, 1) := by decide +kernel
theorem dX2_begin_41 : decode cX2_begin 41 = .ok (.iconst 0, 1) := by decide +kernel
theorem dX2_begin_42 : decode cX2_begin 42 = .ok (.putfield 24, 3) := by decide +kernel
theorem dX2_begin_45 : decode cX2_begin 45 = .ok (.aload_n 0, 1) := by decide +kernel
theorem dX2_begin_46 : decode cX2_begin 46 = .ok (.iconst 0, 1) := by decide +kernel
theorem dX2_begin_47 : decode cX2_begin 47 = .ok (.putfield 27, 3) := by decide +kernel
theorem dX2_begin_50 : decode cX2_begin 50 = .ok (.aload_n 0, 1) := by decide +kernel
theorem dX2_begin_51 : decode cX2_begin 51 = .ok (.iconst 0, 1) := by decide +kernel
theorem dX2_begin_52 : decode cX2_begin 52 = .ok (.putfield 30, 3) := by decide +kernel
theorem dX2_begin_55 : decode cX2_begin 55 = .ok (.return_, 1) := by decide +kernel
/-! X2_copyFrom -/
theorem dX2_copyFrom_0 : decode cX2_copyFrom 0 = .ok (.aload_n 0, 1) := by decide +kernel
theorem dX2_copyFrom_1 : decode cX2_copyFrom 1 = .ok (.aload_n 1, 1) := by decide +kernel
theorem dX2_copyFrom_2 : decode cX2_copyFrom 2 = .ok (.getfield 11, 3) := by decide +kernel
theorem dX2_copyFrom_5 : decode cX2_copyFrom 5 = .ok (.putfield 11, 3) := by decide +kernel
theorem dX2_copyFrom_8 : decode cX2_copyFrom 8 = .ok (.aload_n 0, 1) := by decide +kernel
theorem dX2_copyFrom_9 : decode cX2_copyFrom 9 = .ok (.aload_n 1, 1) := by decide +kernel
theorem dX2_copyFrom_10 : decode cX2_copyFrom 10 = .ok (.getfield 15, 3) := by decide +kernel
theorem dX2_copyFrom_13 : decode cX2_copyFrom 13 = .ok (.putfield 15, 3) := by decide +kernel
theorem dX2_copyFrom_16 : decode cX2_copyFrom 16 = .ok (.aload_n 0, 1) := by decide +kernel
theorem dX2_copyFrom_17 : decode cX2_copyFrom 17 = .ok (.aload_n 1, 1) := by decide +kernel
theorem dX2_copyFrom_18 : decode cX2_copyFrom 18 = .ok (.getfield 18, 3) := by decide +kernel
theorem dX2_copyFrom_21 : decode cX2_copyFrom 21 = .ok (.putfield 18, 3) := by decide +kernel
theorem dX2_copyFrom_24 : decode cX2_copyFrom 24 = .ok (.aload_n 0, 1) := by decide +kernel
theorem dX2_copyFrom_25 : decode cX2_copyFrom 25 = .ok (.aload_n 1, 1) := by decide +kernel
theorem dX2_copyFrom_26 : decode cX2_copyFrom 26 = .ok (.getfield 21, 3) := by decide +kernel
theorem dX2_copyFrom_29 : decode cX2_copyFrom 29 = .ok (.putfield 21, 3) := by decide +kernel
theorem dX2_copyFrom_32 : decode cX2_copyFrom 32 = .ok (.aload_n 0, 1) := by decide +kernel
theorem dX2_copyFrom_33 : decode cX2_copyFrom 33 = .ok (.aload_n 1, 1) := by decide +kernel
theorem dX2_copyFrom_34 : decode cX2_copyFrom 34 = .ok (.getfield 24, 3) := by decide +kernel
theorem dX2_copyFrom_37 : decode cX2_copyFrom 37 = .ok (.putfield 24, 3) := by decide +kernel
theorem dX2_copyFrom_40 : decode cX2_copyFrom 40 = .ok (.aload_n 0, 1) := by decide +kernel
theorem dX2_copyFrom_41 : decode cX2_copyFrom 41 = .ok (.aload_n 1, 1) := by decide +kernel
theorem dX2_copyFrom_42 : decode cX2_copyFrom 42 = .ok (.getfield 27, 3) := by decide +kernel
theorem dX2_copyFrom_45 : decode cX2_copyFrom 45 = .ok (.putfield 27, 3) := by decide +kernel
theorem dX2_copyFrom_48 : decode cX2_copyFrom 48 = .ok (.aload_n 0, 1) := by decide +kernel
theorem dX2_copyFrom_49 : decode cX2_copyFrom 49 = .ok (.aload_n 1, 1) := by decide +kernel
theorem dX2_copyFrom_50 : decode cX2_copyFrom 50 = .ok (.getfield 30, 3) := by decide +kernel
theorem dX2_copyFrom_53 : decode cX2_copyFrom 53 = .ok (.putfield 30, 3) := by decide +kernel
theorem dX2_copyFrom_56 : decode cX2_copyFrom 56 = .ok (.aload_n 0, 1) := by decide +kernel
theorem dX2_copyFrom_57 : decode cX2_copyFrom 57 = .ok (.getfield 11, 3) := by decide +kernel
theorem dX2_copyFrom_60 : decode cX2_copyFrom 60 = .ok (.iconst (-1), 1) := by decide +kernel
theorem dX2_copyFrom_61 : decode cX2_copyFrom 61 = .ok (.if_icmp .eq 27, 3) := by decide +kernel
theorem dX2_copyFrom_64 : decode cX2_copyFrom 64 = .ok (.aload_n 0, 1) := by decide +kernel
theorem dX2_copyFrom_65 : decode cX2_copyFrom 65 = .ok (.getfield 33, 3) := by decide +kernel
theorem dX2_copyFrom_68 : decode cX2_copyFrom 68 = .ok (.arraylength, 1) := by decide +kernel
theorem dX2_copyFrom_69 : decode cX2_copyFrom 69 = .ok (.aload_n 1, 1) := by decide +kernel
theorem dX2_copyFrom_70 : decode cX2_copyFrom 70 = .ok (.getfield 33, 3) := by decide +kernel
theorem dX2_copyFrom_73 : decode cX2_copyFrom 73 = .ok (.arraylength, 1) := by decide +kernel
theorem dX2_copyFrom_74 : decode cX2_copyFrom 74 = .ok (.if_icmp .ge 14, 3) := by decide +kernel
theorem dX2_copyFrom_77 : decode cX2_copyFrom 77 = .ok (.aload_n 0, 1) := by decide +kernel
theorem dX2_copyFrom_78 : decode cX2_copyFrom 78 = .ok (.aload_n 1, 1) := by decide +kernel
theorem dX2_copyFrom_79 : decode cX2_copyFrom 79 = .ok (.getfield 33, 3) := by decide +kernel
theorem dX2_copyFrom_82 : decode cX2_copyFrom 82 = .ok (.arraylength, 1) := by decide +kernel
theorem dX2_copyFrom_83 : decode cX2_copyFrom 83 = .ok (.newarray .int, 2) := by decide +kernel
theorem dX2_copyFrom_85 : decode cX2_copyFrom 85 = .ok (.putfield 33, 3) := by decide +kernel
theorem dX2_copyFrom_88 : decode cX2_copyFrom 88 = .ok (.aload_n 0, 1) := by decide +kernel
theorem dX2_copyFrom_89 : decode cX2_copyFrom 89 = .ok (.getfield 30, 3) := by decide +kernel
theorem dX2_copyFrom_92 : decode cX2_copyFrom 92 = .ok (.aload_n 0, 1) := by decide +kernel
theorem dX2_copyFrom_93 : decode cX2_copyFrom 93 = .ok (.getfield 33, 3) := by decide +kernel
theorem dX2_copyFrom_96 : decode cX2_copyFrom 96 = .ok (.arraylength, 1) := by decide +kernel
theorem dX2_copyFrom_97 : decode cX2_copyFrom 97 = .ok (.aload_n 1, 1) := by decide +kernel
theorem dX2_copyFrom_98 : decode cX2_copyFrom 98 = .ok (.getfield 33, 3) := by decide +kernel
theorem dX2_copyFrom_101 : decode cX2_copyFrom 101 = .ok (.arraylength, 1) := by decide +kernel
theorem dX2_copyFrom_102 : decode cX2_copyFrom 102 = .ok (.invokestatic 56, 3) := by decide +kernel
theorem dX2_copyFrom_105 : decode cX2_copyFrom 105 = .ok (.invokestatic 56, 3) := by decide +kernel
theorem dX2_copyFrom_108 : decode cX2_copyFrom 108 = .ok (.istore_n 2, 1) := by decide +kernel
theorem dX2_copyFrom_109 : decode cX2_copyFrom 109 = .ok (.aload_n 0, 1) := by decide +kernel
theorem dX2_copyFrom_110 : decode cX2_copyFrom 110 = .ok (.getfield 11, 3) := by decide +kernel
theorem dX2_copyFrom_113 : decode cX2_copyFrom 113 = .ok (.iconst (-1), 1) := by decide +kernel
theorem dX2_copyFrom_114 : decode cX2_copyFrom 114 = .ok (.if_icmp .eq 21, 3) := by decide +kernel
theorem dX2_copyFrom_117 : decode cX2_copyFrom 117 = .ok (.iload_n 2, 1) := by decide +kernel
theorem dX2_copyFrom_118 : decode cX2_copyFrom 118 = .ok (.ifCond .le 17, 3) := by decide +kernel
theorem dX2_copyFrom_121 : decode cX2_copyFrom 121 = .ok (.aload_n 1, 1) := by decide +kernel
theorem dX2_copyFrom_122 : decode cX2_copyFrom 122 = .ok (.getfield 33, 3) := by decide +kernel
theorem dX2_copyFrom_125 : decode cX2_copyFrom 125 = .ok (.iconst 0, 1) := by decide +kernel
theorem dX2_copyFrom_126 : decode cX2_copyFrom 126 = .ok (.aload_n 0, 1) := by decide +kernel
theorem dX2_copyFrom_127 : decode cX2_copyFrom 127 = .ok (.getfield 33, 3) := by decide +kernel
theorem dX2_copyFrom_130 : decode cX2_copyFrom 130 = .ok (.iconst 0, 1) := by decide +kernel
theorem dX2_copyFrom_131 : decode cX2_copyFrom 131 = .ok (.iload_n 2, 1) := by decide +kernel
theorem dX2_copyFrom_132 : decode cX2_copyFrom 132 = .ok (.invokestatic 73, 3) := by decide +kernel
theorem dX2_copyFrom_135 : decode cX2_copyFrom 135 = .ok (.return_, 1) := by decide +kernel
/-! X2_holeCount -/
theorem dX2_holeCount_0 : decode cX2_holeCount 0 = .ok (.aload_n 0, 1) := by decide +kernel
theorem dX2_holeCount_1 : decode cX2_holeCount 1 = .ok (.getfield 18, 3) := by decide +kernel
theorem dX2_holeCount_4 : decode cX2_holeCount 4 = .ok (.iconst (-1), 1) := by decide +kernel
theorem dX2_holeCount_5 : decode cX2_holeCount 5 = .ok (.if_icmp .ne 7, 3) := by decide +kernel
theorem dX2_holeCount_8 : decode cX2_holeCount 8 = .ok (.iconst 1, 1) := by decide +kernel
theorem dX2_holeCount_9 : decode cX2_holeCount 9 = .ok (.goto 4, 3) := by decide +kernel
theorem dX2_holeCount_12 : decode cX2_holeCount 12 = .ok (.iconst 0, 1) := by decide +kernel
theorem dX2_holeCount_13 : decode cX2_holeCount 13 = .ok (.istore_n 1, 1) := by decide +kernel
theorem dX2_holeCount_14 : decode cX2_holeCount 14 = .ok (.iconst 0, 1) := by decide +kernel
theorem dX2_holeCount_15 : decode cX2_holeCount 15 = .ok (.istore_n 2, 1) := by decide +kernel
theorem dX2_holeCount_16 : decode cX2_holeCount 16 = .ok (.iload_n 2, 1) := by decide +kernel
theorem dX2_holeCount_17 : decode cX2_holeCount 17 = .ok (.aload_n 0, 1) := by decide +kernel
theorem dX2_holeCount_18 : decode cX2_holeCount 18 = .ok (.invokevirtual 62, 3) := by decide +kernel
theorem dX2_holeCount_21 : decode cX2_holeCount 21 = .ok (.if_icmp .ge 20, 3) := by decide +kernel
theorem dX2_holeCount_24 : decode cX2_holeCount 24 = .ok (.aload_n 0, 1) := by decide +kernel
theorem dX2_holeCount_25 : decode cX2_holeCount 25 = .ok (.iload_n 2, 1) := by decide +kernel
theorem dX2_holeCount_26 : decode cX2_holeCount 26 = .ok (.invokevirtual 66, 3) := by decide +kernel
theorem dX2_holeCount_29 : decode cX2_holeCount 29 = .ok (.ifCond .eq 6, 3) := by decide +kernel
theorem dX2_holeCount_32 : decode cX2_holeCount 32 = .ok (.iinc 1 1, 3) := by decide +kernel
theorem dX2_holeCount_35 : decode cX2_holeCount 35 = .ok (.iinc 2 1, 3) := by decide +kernel
theorem dX2_holeCount_38 : decode cX2_holeCount 38 = .ok (.goto (-22), 3) := by decide +kernel
theorem dX2_holeCount_41 : decode cX2_holeCount 41 = .ok (.iload_n 1, 1) := by decide +kernel
theorem dX2_holeCount_42 : decode cX2_holeCount 42 = .ok (.ireturn, 1) := by decide +kernel
/-! X2_holeEnd -/
theorem dX2_holeEnd_0 : decode cX2_holeEnd 0 = .ok (.iload_n 1, 1) := by decide +kernel
theorem dX2_holeEnd_1 : decode cX2_holeEnd 1 = .ok (.aload_n 0, 1) := by decide +kernel
theorem dX2_holeEnd_2 : decode cX2_holeEnd 2 = .ok (.invokevirtual 62, 3) := by decide +kernel
theorem dX2_holeEnd_5 : decode cX2_holeEnd 5 = .ok (.if_icmp .lt 5, 3) := by decide +kernel
theorem dX2_holeEnd_8 : decode cX2_holeEnd 8 = .ok (.iconst (-1), 1) := by decide +kernel
theorem dX2_holeEnd_9 : decode cX2_holeEnd 9 = .ok (.ireturn, 1) := by decide +kernel
theorem dX2_holeEnd_10 : decode cX2_holeEnd 10 = .ok (.iload_n 1, 1) := by decide +kernel
theorem dX2_holeEnd_11 : decode cX2_holeEnd 11 = .ok (.istore_n 2, 1) := by decide +kernel
theorem dX2_holeEnd_12 : decode cX2_holeEnd 12 = .ok (.iload_n 2, 1) := by decide +kernel
theorem dX2_holeEnd_13 : decode cX2_holeEnd 13 = .ok (.aload_n 0, 1) := by decide +kernel
theorem dX2_holeEnd_14 : decode cX2_holeEnd 14 = .ok (.invokevirtual 62, 3) := by decide +kernel
theorem dX2_holeEnd_17 : decode cX2_holeEnd 17 = .ok (.if_icmp .ge 17, 3) := by decide +kernel
theorem dX2_holeEnd_20 : decode cX2_holeEnd 20 = .ok (.aload_n 0, 1) := by decide +kernel
theorem dX2_holeEnd_21 : decode cX2_holeEnd 21 = .ok (.iload_n 2, 1) := by decide +kernel
theorem dX2_holeEnd_22 : decode cX2_holeEnd 22 = .ok (.invokevirtual 70, 3) := by decide +kernel
theorem dX2_holeEnd_25 : decode cX2_holeEnd 25 = .ok (.ifCond .ne 9, 3) := by decide +kernel
theorem dX2_holeEnd_28 : decode cX2_holeEnd 28 = .ok (.iinc 2 1, 3) := by decide +kernel
theorem dX2_holeEnd_31 : decode cX2_holeEnd 31 = .ok (.goto (-19), 3) := by decide +kernel
theorem dX2_holeEnd_34 : decode cX2_holeEnd 34 = .ok (.iload_n 2, 1) := by decide +kernel
theorem dX2_holeEnd_35 : decode cX2_holeEnd 35 = .ok (.ireturn, 1) := by decide +kernel
/-! X2_holeStart -/
theorem dX2_holeStart_0 : decode cX2_holeStart 0 = .ok (.iconst 0, 1) := by decide +kernel
theorem dX2_holeStart_1 : decode cX2_holeStart 1 = .ok (.istore_n 2, 1) := by decide +kernel
theorem dX2_holeStart_2 : decode cX2_holeStart 2 = .ok (.iconst 0, 1) := by decide +kernel
theorem dX2_holeStart_3 : decode cX2_holeStart 3 = .ok (.istore_n 3, 1) := by decide +kernel
theorem dX2_holeStart_4 : decode cX2_holeStart 4 = .ok (.iload_n 3, 1) := by decide +kernel
theorem dX2_holeStart_5 : decode cX2_holeStart 5 = .ok (.aload_n 0, 1) := by decide +kernel
theorem dX2_holeStart_6 : decode cX2_holeStart 6 = .ok (.invokevirtual 62, 3) := by decide +kernel
theorem dX2_holeStart_9 : decode cX2_holeStart 9 = .ok (.if_icmp .ge 27, 3) := by decide +kernel
theorem dX2_holeStart_12 : decode cX2_holeStart 12 = .ok (.aload_n 0, 1) := by decide +kernel
theorem dX2_holeStart_13 : decode cX2_holeStart 13 = .ok (.iload_n 3, 1) := by decide +kernel
theorem dX2_holeStart_14 : decode cX2_holeStart 14 = .ok (.invokevirtual 66, 3) := by decide +kernel
theorem dX2_holeStart_17 : decode cX2_holeStart 17 = .ok (.ifCond .eq 13, 3) := by decide +kernel
theorem dX2_holeStart_20 : decode cX2_holeStart 20 = .ok (.iload_n 2, 1) := by decide +kernel
theorem dX2_holeStart_21 : decode cX2_holeStart 21 = .ok (.iload_n 1, 1) := by decide +kernel
theorem dX2_holeStart_22 : decode cX2_holeStart 22 = .ok (.if_icmp .ne 5, 3) := by decide +kernel
theorem dX2_holeStart_25 : decode cX2_holeStart 25 = .ok (.iload_n 3, 1) := by decide +kernel
theorem dX2_holeStart_26 : decode cX2_holeStart 26 = .ok (.ireturn, 1) := by decide +kernel
theorem dX2_holeStart_27 : decode cX2_holeStart 27 = .ok (.iinc 2 1, 3) := by decide +kernel
theorem dX2_holeStart_30 : decode cX2_holeStart 30 = .ok (.iinc 3 1, 3) := by decide +kernel
theorem dX2_holeStart_33 : decode cX2_holeStart 33 = .ok (.goto (-29), 3) := by decide +kernel
theorem dX2_holeStart_36 : decode cX2_holeStart 36 = .ok (.aload_n 0, 1) := by decide +kernel
theorem dX2_holeStart_37 : decode cX2_holeStart 37 = .ok (.getfield 18, 3) := by decide +kernel
theorem dX2_holeStart_40 : decode cX2_holeStart 40 = .ok (.iconst (-1), 1) := by decide +kernel
theorem dX2_holeStart_41 : decode cX2_holeStart 41 = .ok (.if_icmp .ne 15, 3) := by decide +kernel
theorem dX2_holeStart_44 : decode cX2_holeStart 44 = .ok (.iload_n 2, 1) := by decide +kernel
theorem dX2_holeStart_45 : decode cX2_holeStart 45 = .ok (.iload_n 1, 1) := by decide +kernel
theorem dX2_holeStart_46 : decode cX2_holeStart 46 = .ok (.if_icmp .ne 10, 3) := by decide +kernel
theorem dX2_holeStart_49 : decode cX2_holeStart 49 = .ok (.aload_n 0, 1) := by decide +kernel
theorem dX2_holeStart_50 : decode cX2_holeStart 50 = .ok (.getfield 30, 3) := by decide +kernel
theorem dX2_holeStart_53 : decode cX2_holeStart 53 = .ok (.goto 4, 3) := by decide +kernel
theorem dX2_holeStart_56 : decode cX2_holeStart 56 = .ok (.iconst (-1), 1) := by decide +kernel
theorem dX2_holeStart_57 : decode cX2_holeStart 57 = .ok (.ireturn, 1) := by decide +kernel
/-! X2_init -/
theorem dX2_init_0 : decode cX2_init 0 = .ok (.aload_n 0, 1) := by decide +kernel
theorem dX2_init_1 : decode cX2_init 1 = .ok (.invokespecial 3, 3) := by decide +kernel
theorem dX2_init_4 : decode cX2_init 4 = .ok (.aload_n 0, 1) := by decide +kernel
theorem dX2_init_5 : decode cX2_init 5 = .ok (.iconst (-1), 1) := by decide +kernel
theorem dX2_init_6 : decode cX2_init 6 = .ok (.putfield 11, 3) := by decide +kernel
theorem dX2_init_9 : decode cX2_init 9 = .ok (.aload_n 0, 1) := by decide +kernel
theorem dX2_init_10 : decode cX2_init 10 = .ok (.iconst 0, 1) := by decide +kernel
theorem dX2_init_11 : decode cX2_init 11 = .ok (.putfield 15, 3) := by decide +kernel
theorem dX2_init_14 : decode cX2_init 14 = .ok (.aload_n 0, 1) := by decide +kernel
theorem dX2_init_15 : decode cX2_init 15 = .ok (.iconst (-1), 1) := by decide +kernel
theorem dX2_init_16 : decode cX2_init 16 = .ok (.putfield 18, 3) := by decide +kernel
theorem dX2_init_19 : decode cX2_init 19 = .ok (.aload_n 0, 1) := by decide +kernel
theorem dX2_init_20 : decode cX2_init 20 = .ok (.iconst 0, 1) := by decide +kernel
theorem dX2_init_21 : decode cX2_init 21 = .ok (.putfield 21, 3) := by decide +kernel
theorem dX2_init_24 : decode cX2_init 24 = .ok (.aload_n 0, 1) := by decide +kernel
theorem dX2_init_25 : decode cX2_init 25 = .ok (.iconst 0, 1) := by decide +kernel
theorem dX2_init_26 : decode cX2_init 26 = .ok (.putfield 24, 3) := by decide +kernel
theorem dX2_init_29 : decode cX2_init 29 = .ok (.aload_n 0, 1) := by decide +kernel
theorem dX2_init_30 : decode cX2_init 30 = .ok (.iconst 0, 1) := by decide +kernel
theorem dX2_init_31 : decode cX2_init 31 = .ok (.putfield 27, 3) := by decide +kernel
theorem dX2_init_34 : decode cX2_init 34 = .ok (.aload_n 0, 1) := by decide +kernel
theorem dX2_init_35 : decode cX2_init 35 = .ok (.iconst 0, 1) := by decide +kernel
theorem dX2_init_36 : decode cX2_init 36 = .ok (.putfield 30, 3) := by decide +kernel
theorem dX2_init_39 : decode cX2_init 39 = .ok (.aload_n 0, 1) := by decide +kernel
theorem dX2_init_40 : decode cX2_init 40 = .ok (.iconst 0, 1) := by decide +kernel
theorem dX2_init_41 : decode cX2_init 41 = .ok (.newarray .int, 2) := by decide +kernel
theorem dX2_init_43 : decode cX2_init 43 = .ok (.putfield 33, 3) := by decide +kernel
theorem dX2_init_46 : decode cX2_init 46 = .ok (.return_, 1) := by decide +kernel
/-! X2_isAtOdds -/
theorem dX2_isAtOdds_0 : decode cX2_isAtOdds 0 = .ok (.iload_n 2, 1) := by decide +kernel
theorem dX2_isAtOdds_1 : decode cX2_isAtOdds 1 = .ok (.ifCond .eq 33, 3) := by decide +kernel
theorem dX2_isAtOdds_4 : decode cX2_isAtOdds 4 = .ok (.aload_n 0, 1) := by decide +kernel
theorem dX2_isAtOdds_5 : decode cX2_isAtOdds 5 = .ok (.getfield 18, 3) := by decide +kernel
theorem dX2_isAtOdds_8 : decode cX2_isAtOdds 8 = .ok (.iconst (-1), 1) := by decide +kernel
theorem dX2_isAtOdds_9 : decode cX2_isAtOdds 9 = .ok (.if_icmp .eq 11, 3) := by decide +kernel
theorem dX2_isAtOdds_12 : decode cX2_isAtOdds 12 = .ok (.aload_n 0, 1) := by decide +kernel
theorem dX2_isAtOdds_13 : decode cX2_isAtOdds 13 = .ok (.getfield 18, 3) := by decide +kernel
theorem dX2_isAtOdds_16 : decode cX2_isAtOdds 16 = .ok (.iload_n 1, 1) := by decide +kernel
theorem dX2_isAtOdds_17 : decode cX2_isAtOdds 17 = .ok (.if_icmp .ne 11, 3) := by decide +kernel
theorem dX2_isAtOdds_20 : decode cX2_isAtOdds 20 = .ok (.aload_n 0, 1) := by decide +kernel
theorem dX2_isAtOdds_21 : decode cX2_isAtOdds 21 = .ok (.getfield 30, 3) := by decide +kernel
theorem dX2_isAtOdds_24 : decode cX2_isAtOdds 24 = .ok (.iload_n 1, 1) := by decide +kernel
theorem dX2_isAtOdds_25 : decode cX2_isAtOdds 25 = .ok (.if_icmp .le 7, 3) := by decide +kernel
theorem dX2_isAtOdds_28 : decode cX2_isAtOdds 28 = .ok (.iconst 1, 1) := by decide +kernel
theorem dX2_isAtOdds_29 : decode cX2_isAtOdds 29 = .ok (.goto 4, 3) := by decide +kernel
theorem dX2_isAtOdds_32 : decode cX2_isAtOdds 32 = .ok (.iconst 0, 1) := by decide +kernel
theorem dX2_isAtOdds_33 : decode cX2_isAtOdds 33 = .ok (.ireturn, 1) := by decide +kernel
theorem dX2_isAtOdds_34 : decode cX2_isAtOdds 34 = .ok (.aload_n 0, 1) := by decide +kernel
theorem dX2_isAtOdds_35 : decode cX2_isAtOdds 35 = .ok (.getfield 18, 3) := by decide +kernel
theorem dX2_isAtOdds_38 : decode cX2_isAtOdds 38 = .ok (.iconst (-1), 1) := by decide +kernel
theorem dX2_isAtOdds_39 : decode cX2_isAtOdds 39 = .ok (.if_icmp .eq 15, 3) := by decide +kernel
theorem dX2_isAtOdds_42 : decode cX2_isAtOdds 42 = .ok (.aload_n 0, 1) := by decide +kernel
theorem dX2_isAtOdds_43 : decode cX2_isAtOdds 43 = .ok (.getfield 18, 3) := by decide +kernel
theorem dX2_isAtOdds_46 : decode cX2_isAtOdds 46 = .ok (.iload_n 1, 1) := by decide +kernel
theorem dX2_isAtOdds_47 : decode cX2_isAtOdds 47 = .ok (.if_icmp .ge 7, 3) := by decide +kernel
theorem dX2_isAtOdds_50 : decode cX2_isAtOdds 50 = .ok (.iconst 1, 1) := by decide +kernel
theorem dX2_isAtOdds_51 : decode cX2_isAtOdds 51 = .ok (.goto 4, 3) := by decide +kernel
theorem dX2_isAtOdds_54 : decode cX2_isAtOdds 54 = .ok (.iconst 0, 1) := by decide +kernel
theorem dX2_isAtOdds_55 : decode cX2_isAtOdds 55 = .ok (.ireturn, 1) := by decide +kernel
/-! X2_isHoleStart -/
theorem dX2_isHoleStart_0 : decode cX2_isHoleStart 0 = .ok (.aload_n 0, 1) := by decide +kernel
theorem dX2_isHoleStart_1 : decode cX2_isHoleStart 1 = .ok (.iload_n 1, 1) := by decide +kernel
theorem dX2_isHoleStart_2 : decode cX2_isHoleStart 2 = .ok (.invokevirtual 70, 3) := by decide +kernel
theorem dX2_isHoleStart_5 : decode cX2_isHoleStart 5 = .ok (.ifCond .ne 21, 3) := by decide +kernel
theorem dX2_isHoleStart_8 : decode cX2_isHoleStart 8 = .ok (.iload_n 1, 1) := by decide +kernel
theorem dX2_isHoleStart_9 : decode cX2_isHoleStart 9 = .ok (.ifCond .eq 13, 3) := by decide +kernel
theorem dX2_isHoleStart_12 : decode cX2_isHoleStart 12 = .ok (.aload_n 0, 1) := by decide +kernel
theorem dX2_isHoleStart_13 : decode cX2_isHoleStart 13 = .ok (.iload_n 1, 1) := by decide +kernel
theorem dX2_isHoleStart_14 : decode cX2_isHoleStart 14 = .ok (.iconst 1, 1) := by decide +kernel
theorem dX2_isHoleStart_15 : decode cX2_isHoleStart 15 = .ok (.isub, 1) := by decide +kernel
theorem dX2_isHoleStart_16 : decode cX2_isHoleStart 16 = .ok (.invokevirtual 70, 3) := by decide +kernel
theorem dX2_isHoleStart_19 : decode cX2_isHoleStart 19 = .ok (.ifCond .eq 7, 3) := by decide +kernel
theorem dX2_isHoleStart_22 : decode cX2_isHoleStart 22 = .ok (.iconst 1, 1) := by decide +kernel
theorem dX2_isHoleStart_23 : decode cX2_isHoleStart 23 = .ok (.goto 4, 3) := by decide +kernel
theorem dX2_isHoleStart_26 : decode cX2_isHoleStart 26 = .ok (.iconst 0, 1) := by decide +kernel
theorem dX2_isHoleStart_27 : decode cX2_isHoleStart 27 = .ok (.ireturn, 1) := by decide +kernel
/-! X2_isKnown -/
theorem dX2_isKnown_0 : decode cX2_isKnown 0 = .ok (.aload_n 0, 1) := by decide +kernel
theorem dX2_isKnown_1 : decode cX2_isKnown 1 = .ok (.iload_n 1, 1) := by decide +kernel
theorem dX2_isKnown_2 : decode cX2_isKnown 2 = .ok (.invokevirtual 37, 3) := by decide +kernel
theorem dX2_isKnown_5 : decode cX2_isKnown 5 = .ok (.iconst (-1), 1) := by decide +kernel
theorem dX2_isKnown_6 : decode cX2_isKnown 6 = .ok (.if_icmp .eq 7, 3) := by decide +kernel
theorem dX2_isKnown_9 : decode cX2_isKnown 9 = .ok (.iconst 1, 1) := by decide +kernel
theorem dX2_isKnown_10 : decode cX2_isKnown 10 = .ok (.goto 4, 3) := by decide +kernel
theorem dX2_isKnown_13 : decode cX2_isKnown 13 = .ok (.iconst 0, 1) := by decide +kernel
theorem dX2_isKnown_14 : decode cX2_isKnown 14 = .ok (.ireturn, 1) := by decide +kernel
/-! X2_isOtherTaken -/
theorem dX2_isOtherTaken_0 : decode cX2_isOtherTaken 0 = .ok (.iconst 0, 1) := by decide +kernel
theorem dX2_isOtherTaken_1 : decode cX2_isOtherTaken 1 = .ok (.istore 6, 2) := by decide +kernel
theorem dX2_isOtherTaken_3 : decode cX2_isOtherTaken 3 = .ok (.aload_n 0, 1) := by decide +kernel
theorem dX2_isOtherTaken_4 : decode cX2_isOtherTaken 4 = .ok (.iload_n 3, 1) := by decide +kernel
theorem dX2_isOtherTaken_5 : decode cX2_isOtherTaken 5 = .ok (.invokevirtual 41, 3) := by decide +kernel
theorem dX2_isOtherTaken_8 : decode cX2_isOtherTaken 8 = .ok (.iload_n 2, 1) := by decide +kernel
theorem dX2_isOtherTaken_9 : decode cX2_isOtherTaken 9 = .ok (.iconst 0, 1) := by decide +kernel
theorem dX2_isOtherTaken_10 : decode cX2_isOtherTaken 10 = .ok (.invokestatic 45, 3) := by decide +kernel
theorem dX2_isOtherTaken_13 : decode cX2_isOtherTaken 13 = .ok (.istore 7, 2) := by decide +kernel
theorem dX2_isOtherTaken_15 : decode cX2_isOtherTaken 15 = .ok (.iload 7, 2) := by decide +kernel
theorem dX2_isOtherTaken_17 : decode cX2_isOtherTaken 17 = .ok (.iload_n 3, 1) := by decide +kernel
theorem dX2_isOtherTaken_18 : decode cX2_isOtherTaken 18 = .ok (.if_icmp .ge 110, 3) := by decide +kernel
theorem dX2_isOtherTaken_21 : decode cX2_isOtherTaken 21 = .ok (.iload 7, 2) := by decide +kernel
theorem dX2_isOtherTaken_23 : decode cX2_isOtherTaken 23 = .ok (.aload_n 0, 1) := by decide +kernel
theorem dX2_isOtherTaken_24 : decode cX2_isOtherTaken 24 = .ok (.getfield 33, 3) := by decide +kernel
theorem dX2_isOtherTaken_27 : decode cX2_isOtherTaken 27 = .ok (.arraylength, 1) := by decide +kernel
theorem dX2_isOtherTaken_28 : decode cX2_isOtherTaken 28 = .ok (.if_icmp .ge 100, 3) := by decide +kernel
theorem dX2_isOtherTaken_31 : decode cX2_isOtherTaken 31 = .ok (.iload 4, 2) := by decide +kernel
theorem dX2_isOtherTaken_33 : decode cX2_isOtherTaken 33 = .ok (.iconst (-1), 1) := by decide +kernel
theorem dX2_isOtherTaken_34 : decode cX2_isOtherTaken 34 = .ok (.if_icmp .ne 12, 3) := by decide +kernel
theorem dX2_isOtherTaken_37 : decode cX2_isOtherTaken 37 = .ok (.aload_n 1, 1) := by decide +kernel
theorem dX2_isOtherTaken_38 : decode cX2_isOtherTaken 38 = .ok (.iload 7, 2) := by decide +kernel
theorem dX2_isOtherTaken_40 : decode cX2_isOtherTaken 40 = .ok (.invokevirtual 51, 3) := by decide +kernel
theorem dX2_isOtherTaken_43 : decode cX2_isOtherTaken 43 = .ok (.goto 5, 3) := by decide +kernel
theorem dX2_isOtherTaken_46 : decode cX2_isOtherTaken 46 = .ok (.iload 4, 2) := by decide +kernel
theorem dX2_isOtherTaken_48 : decode cX2_isOtherTaken 48 = .ok (.istore 8, 2) := by decide +kernel
theorem dX2_isOtherTaken_50 : decode cX2_isOtherTaken 50 = .ok (.aload_n 0, 1) := by decide +kernel
theorem dX2_isOtherTaken_51 : decode cX2_isOtherTaken 51 = .ok (.getfield 33, 3) := by decide +kernel
theorem dX2_isOtherTaken_54 : decode cX2_isOtherTaken 54 = .ok (.iload 7, 2) := by decide +kernel
theorem dX2_isOtherTaken_56 : decode cX2_isOtherTaken 56 = .ok (.iaload, 1) := by decide +kernel
theorem dX2_isOtherTaken_57 : decode cX2_isOtherTaken 57 = .ok (.iconst (-1), 1) := by decide +kernel
theorem dX2_isOtherTaken_58 : decode cX2_isOtherTaken 58 = .ok (.if_icmp .ne 25, 3) := by decide +kernel
theorem dX2_isOtherTaken_61 : decode cX2_isOtherTaken 61 = .ok (.aload_n 0, 1) := by decide +kernel
theorem dX2_isOtherTaken_62 : decode cX2_isOtherTaken 62 = .ok (.getfield 33, 3) := by decide +kernel
theorem dX2_isOtherTaken_65 : decode cX2_isOtherTaken 65 = .ok (.iload 7, 2) := by decide +kernel
theorem dX2_isOtherTaken_67 : decode cX2_isOtherTaken 67 = .ok (.iload 8, 2) := by decide +kernel
theorem dX2_isOtherTaken_69 : decode cX2_isOtherTaken 69 = .ok (.iastore, 1) := by decide +kernel
theorem dX2_isOtherTaken_70 : decode cX2_isOtherTaken 70 = .ok (.aload_n 0, 1) := by decide +kernel
theorem dX2_isOtherTaken_71 : decode cX2_isOtherTaken 71 = .ok (.dup, 1) := by decide +kernel
theorem dX2_isOtherTaken_72 : decode cX2_isOtherTaken 72 = .ok (.getfield 21, 3) := by decide +kernel
theorem dX2_isOtherTaken_75 : decode cX2_isOtherTaken 75 = .ok (.iconst 1, 1) := by decide +kernel
theorem dX2_isOtherTaken_76 : decode cX2_isOtherTaken 76 = .ok (.iadd, 1) := by decide +kernel
theorem dX2_isOtherTaken_77 : decode cX2_isOtherTaken 77 = .ok (.putfield 21, 3) := by decide +kernel
theorem dX2_isOtherTaken_80 : decode cX2_isOtherTaken 80 = .ok (.goto 42, 3) := by decide +kernel
theorem dX2_isOtherTaken_83 : decode cX2_isOtherTaken 83 = .ok (.aload_n 0, 1) := by decide +kernel
theorem dX2_isOtherTaken_84 : decode cX2_isOtherTaken 84 = .ok (.dup, 1) := by decide +kernel
theorem dX2_isOtherTaken_85 : decode cX2_isOtherTaken 85 = .ok (.getfield 24, 3) := by decide +kernel
theorem dX2_isOtherTaken_88 : decode cX2_isOtherTaken 88 = .ok (.iconst 1, 1) := by decide +kernel
theorem dX2_isOtherTaken_89 : decode cX2_isOtherTaken 89 = .ok (.iadd, 1) := by decide +kernel
theorem dX2_isOtherTaken_90 : decode cX2_isOtherTaken 90 = .ok (.putfield 24, 3) := by decide +kernel
theorem dX2_isOtherTaken_93 : decode cX2_isOtherTaken 93 = .ok (.aload_n 0, 1) := by decide +kernel
theorem dX2_isOtherTaken_94 : decode cX2_isOtherTaken 94 = .ok (.getfield 33, 3) := by decide +kernel
theorem dX2_isOtherTaken_97 : decode cX2_isOtherTaken 97 = .ok (.iload 7, 2) := by decide +kernel
theorem dX2_isOtherTaken_99 : decode cX2_isOtherTaken 99 = .ok (.iaload, 1) := by decide +kernel
theorem dX2_isOtherTaken_100 : decode cX2_isOtherTaken 100 = .ok (.iload 8, 2) := by decide +kernel
theorem dX2_isOtherTaken_102 : decode cX2_isOtherTaken 102 = .ok (.if_icmp .eq 6, 3) := by decide +kernel
theorem dX2_isOtherTaken_105 : decode cX2_isOtherTaken 105 = .ok (.iconst 1, 1) := by decide +kernel
theorem dX2_isOtherTaken_106 : decode cX2_isOtherTaken 106 = .ok (.istore 6, 2) := by decide +kernel
theorem dX2_isOtherTaken_108 : decode cX2_isOtherTaken 108 = .ok (.iload 5, 2) := by decide +kernel
theorem dX2_isOtherTaken_110 : decode cX2_isOtherTaken 110 = .ok (.ifCond .eq 12, 3) := by decide +kernel
theorem dX2_isOtherTaken_113 : decode cX2_isOtherTaken 113 = .ok (.aload_n 0, 1) := by decide +kernel
theorem dX2_isOtherTaken_114 : decode cX2_isOtherTaken 114 = .ok (.getfield 33, 3) := by decide +kernel
theorem dX2_isOtherTaken_117 : decode cX2_isOtherTaken 117 = .ok (.iload 7, 2) := by decide +kernel
theorem dX2_isOtherTaken_119 : decode cX2_isOtherTaken 119 = .ok (.iload 8, 2) := by decide +kernel
theorem dX2_isOtherTaken_121 : decode cX2_isOtherTaken 121 = .ok (.iastore, 1) := by decide +kernel
theorem dX2_isOtherTaken_122 : decode cX2_isOtherTaken 122 = .ok (.iinc 7 1, 3) := by decide +kernel
theorem dX2_isOtherTaken_125 : decode cX2_isOtherTaken 125 = .ok (.goto (-110), 3) := by decide +kernel
theorem dX2_isOtherTaken_128 : decode cX2_isOtherTaken 128 = .ok (.iload 6, 2) := by decide +kernel
theorem dX2_isOtherTaken_130 : decode cX2_isOtherTaken 130 = .ok (.ireturn, 1) := by decide +kernel
/-! X2_isOwn -/
theorem dX2_isOwn_0 : decode cX2_isOwn 0 = .ok (.aload_n 0, 1) := by decide +kernel
theorem dX2_isOwn_1 : decode cX2_isOwn 1 = .ok (.getfield 18, 3) := by decide +kernel
theorem dX2_isOwn_4 : decode cX2_isOwn 4 = .ok (.aload_n 1, 1) := by decide +kernel
theorem dX2_isOwn_5 : decode cX2_isOwn 5 = .ok (.getfield 59, 3) := by decide +kernel
theorem dX2_isOwn_8 : decode cX2_isOwn 8 = .ok (.if_icmp .eq 5, 3) := by decide +kernel
theorem dX2_isOwn_11 : decode cX2_isOwn 11 = .ok (.iconst 0, 1) := by decide +kernel
theorem dX2_isOwn_12 : decode cX2_isOwn 12 = .ok (.ireturn, 1) := by decide +kernel
theorem dX2_isOwn_13 : decode cX2_isOwn 13 = .ok (.iconst 0, 1) := by decide +kernel
theorem dX2_isOwn_14 : decode cX2_isOwn 14 = .ok (.istore_n 2, 1) := by decide +kernel
theorem dX2_isOwn_15 : decode cX2_isOwn 15 = .ok (.iload_n 2, 1) := by decide +kernel
theorem dX2_isOwn_16 : decode cX2_isOwn 16 = .ok (.aload_n 0, 1) := by decide +kernel
theorem dX2_isOwn_17 : decode cX2_isOwn 17 = .ok (.getfield 18, 3) := by decide +kernel
theorem dX2_isOwn_20 : decode cX2_isOwn 20 = .ok (.if_icmp .ge 24, 3) := by decide +kernel
theorem dX2_isOwn_23 : decode cX2_isOwn 23 = .ok (.aload_n 0, 1) := by decide +kernel
theorem dX2_isOwn_24 : decode cX2_isOwn 24 = .ok (.iload_n 2, 1) := by decide +kernel
theorem dX2_isOwn_25 : decode cX2_isOwn 25 = .ok (.invokevirtual 37, 3) := by decide +kernel
theorem dX2_isOwn_28 : decode cX2_isOwn 28 = .ok (.aload_n 1, 1) := by decide +kernel
theorem dX2_isOwn_29 : decode cX2_isOwn 29 = .ok (.iload_n 2, 1) := by decide +kernel
theorem dX2_isOwn_30 : decode cX2_isOwn 30 = .ok (.invokevirtual 51, 3) := by decide +kernel
theorem dX2_isOwn_33 : decode cX2_isOwn 33 = .ok (.if_icmp .eq 5, 3) := by decide +kernel
theorem dX2_isOwn_36 : decode cX2_isOwn 36 = .ok (.iconst 0, 1) := by decide +kernel
theorem dX2_isOwn_37 : decode cX2_isOwn 37 = .ok (.ireturn, 1) := by decide +kernel
theorem dX2_isOwn_38 : decode cX2_isOwn 38 = .ok (.iinc 2 1, 3) := by decide +kernel
theorem dX2_isOwn_41 : decode cX2_isOwn 41 = .ok (.goto (-26), 3) := by decide +kernel
theorem dX2_isOwn_44 : decode cX2_isOwn 44 = .ok (.iconst 1, 1) := by decide +kernel
theorem dX2_isOwn_45 : decode cX2_isOwn 45 = .ok (.ireturn, 1) := by decide +kernel
/-! X2_isWhole -/
theorem dX2_isWhole_0 : decode cX2_isWhole 0 = .ok (.aload_n 0, 1) := by decide +kernel
theorem dX2_isWhole_1 : decode cX2_isWhole 1 = .ok (.getfield 18, 3) := by decide +kernel
theorem dX2_isWhole_4 : decode cX2_isWhole 4 = .ok (.iconst (-1), 1) := by decide +kernel
theorem dX2_isWhole_5 : decode cX2_isWhole 5 = .ok (.if_icmp .eq 18, 3) := by decide +kernel
theorem dX2_isWhole_8 : decode cX2_isWhole 8 = .ok (.aload_n 0, 1) := by decide +kernel
theorem dX2_isWhole_9 : decode cX2_isWhole 9 = .ok (.getfield 21, 3) := by decide +kernel
theorem dX2_isWhole_12 : decode cX2_isWhole 12 = .ok (.aload_n 0, 1) := by decide +kernel
theorem dX2_isWhole_13 : decode cX2_isWhole 13 = .ok (.getfield 18, 3) := by decide +kernel
theorem dX2_isWhole_16 : decode cX2_isWhole 16 = .ok (.if_icmp .ne 7, 3) := by decide +kernel
theorem dX2_isWhole_19 : decode cX2_isWhole 19 = .ok (.iconst 1, 1) := by decide +kernel
theorem dX2_isWhole_20 : decode cX2_isWhole 20 = .ok (.goto 4, 3) := by decide +kernel
theorem dX2_isWhole_23 : decode cX2_isWhole 23 = .ok (.iconst 0, 1) := by decide +kernel
theorem dX2_isWhole_24 : decode cX2_isWhole 24 = .ok (.ireturn, 1) := by decide +kernel
/-! X2_limit -/
theorem dX2_limit_0 : decode cX2_limit 0 = .ok (.aload_n 0, 1) := by decide +kernel
theorem dX2_limit_1 : decode cX2_limit 1 = .ok (.getfield 18, 3) := by decide +kernel
theorem dX2_limit_4 : decode cX2_limit 4 = .ok (.iconst (-1), 1) := by decide +kernel
theorem dX2_limit_5 : decode cX2_limit 5 = .ok (.if_icmp .ne 10, 3) := by decide +kernel
theorem dX2_limit_8 : decode cX2_limit 8 = .ok (.aload_n 0, 1) := by decide +kernel
theorem dX2_limit_9 : decode cX2_limit 9 = .ok (.getfield 30, 3) := by decide +kernel
theorem dX2_limit_12 : decode cX2_limit 12 = .ok (.goto 7, 3) := by decide +kernel
theorem dX2_limit_15 : decode cX2_limit 15 = .ok (.aload_n 0, 1) := by decide +kernel
theorem dX2_limit_16 : decode cX2_limit 16 = .ok (.getfield 18, 3) := by decide +kernel
theorem dX2_limit_19 : decode cX2_limit 19 = .ok (.ireturn, 1) := by decide +kernel
/-! X2_missingFrom -/
theorem dX2_missingFrom_0 : decode cX2_missingFrom 0 = .ok (.aload_n 0, 1) := by decide +kernel
theorem dX2_missingFrom_1 : decode cX2_missingFrom 1 = .ok (.getfield 18, 3) := by decide +kernel
theorem dX2_missingFrom_4 : decode cX2_missingFrom 4 = .ok (.iconst (-1), 1) := by decide +kernel
theorem dX2_missingFrom_5 : decode cX2_missingFrom 5 = .ok (.if_icmp .ne 5, 3) := by decide +kernel
theorem dX2_missingFrom_8 : decode cX2_missingFrom 8 = .ok (.iconst (-1), 1) := by decide +kernel
theorem dX2_missingFrom_9 : decode cX2_missingFrom 9 = .ok (.ireturn, 1) := by decide +kernel
theorem dX2_missingFrom_10 : decode cX2_missingFrom 10 = .ok (.iconst 0, 1) := by decide +kernel
theorem dX2_missingFrom_11 : decode cX2_missingFrom 11 = .ok (.istore_n 3, 1) := by decide +kernel
theorem dX2_missingFrom_12 : decode cX2_missingFrom 12 = .ok (.iconst 0, 1) := by decide +kernel
theorem dX2_missingFrom_13 : decode cX2_missingFrom 13 = .ok (.istore 4, 2) := by decide +kernel
theorem dX2_missingFrom_15 : decode cX2_missingFrom 15 = .ok (.iload 4, 2) := by decide +kernel
theorem dX2_missingFrom_17 : decode cX2_missingFrom 17 = .ok (.aload_n 0, 1) := by decide +kernel
theorem dX2_missingFrom_18 : decode cX2_missingFrom 18 = .ok (.getfield 18, 3) := by decide +kernel
theorem dX2_missingFrom_21 : decode cX2_missingFrom 21 = .ok (.if_icmp .ge 33, 3) := by decide +kernel
theorem dX2_missingFrom_24 : decode cX2_missingFrom 24 = .ok (.aload_n 0, 1) := by decide +kernel
theorem dX2_missingFrom_25 : decode cX2_missingFrom 25 = .ok (.iload 4, 2) := by decide +kernel
theorem dX2_missingFrom_27 : decode cX2_missingFrom 27 = .ok (.invokevirtual 70, 3) := by decide +kernel
theorem dX2_missingFrom_30 : decode cX2_missingFrom 30 = .ok (.ifCond .ne 18, 3) := by decide +kernel
theorem dX2_missingFrom_33 : decode cX2_missingFrom 33 = .ok (.iload 4, 2) := by decide +kernel
theorem dX2_missingFrom_35 : decode cX2_missingFrom 35 = .ok (.iload_n 1, 1) := by decide +kernel
theorem dX2_missingFrom_36 : decode cX2_missingFrom 36 = .ok (.if_icmp .lt 9, 3) := by decide +kernel
theorem dX2_missingFrom_39 : decode cX2_missingFrom 39 = .ok (.iload 4, 2) := by decide +kernel
theorem dX2_missingFrom_41 : decode cX2_missingFrom 41 = .ok (.iload_n 2, 1) := by decide +kernel
theorem dX2_missingFrom_42 : decode cX2_missingFrom 42 = .ok (.if_icmp .lt 6, 3) := by decide +kernel
theorem dX2_missingFrom_45 : decode cX2_missingFrom 45 = .ok (.iinc 3 1, 3) := by decide +kernel
theorem dX2_missingFrom_48 : decode cX2_missingFrom 48 = .ok (.iinc 4 1, 3) := by decide +kernel
theorem dX2_missingFrom_51 : decode cX2_missingFrom 51 = .ok (.goto (-36), 3) := by decide +kernel
theorem dX2_missingFrom_54 : decode cX2_missingFrom 54 = .ok (.iload_n 3, 1) := by decide +kernel
theorem dX2_missingFrom_55 : decode cX2_missingFrom 55 = .ok (.ireturn, 1) := by decide +kernel
/-! X2_reach -/
theorem dX2_reach_0 : decode cX2_reach 0 = .ok (.aload_n 0, 1) := by decide +kernel
theorem dX2_reach_1 : decode cX2_reach 1 = .ok (.getfield 30, 3) := by decide +kernel
theorem dX2_reach_4 : decode cX2_reach 4 = .ok (.istore_n 2, 1) := by decide +kernel
theorem dX2_reach_5 : decode cX2_reach 5 = .ok (.iload_n 2, 1) := by decide +kernel
theorem dX2_reach_6 : decode cX2_reach 6 = .ok (.iload_n 1, 1) := by decide +kernel
theorem dX2_reach_7 : decode cX2_reach 7 = .ok (.if_icmp .ge 25, 3) := by decide +kernel
theorem dX2_reach_10 : decode cX2_reach 10 = .ok (.iload_n 2, 1) := by decide +kernel
theorem dX2_reach_11 : decode cX2_reach 11 = .ok (.aload_n 0, 1) := by decide +kernel
theorem dX2_reach_12 : decode cX2_reach 12 = .ok (.getfield 33, 3) := by decide +kernel
theorem dX2_reach_15 : decode cX2_reach 15 = .ok (.arraylength, 1) := by decide +kernel
theorem dX2_reach_16 : decode cX2_reach 16 = .ok (.if_icmp .ge 16, 3) := by decide +kernel
theorem dX2_reach_19 : decode cX2_reach 19 = .ok (.aload_n 0, 1) := by decide +kernel
theorem dX2_reach_20 : decode cX2_reach 20 = .ok (.getfield 33, 3) := by decide +kernel
theorem dX2_reach_23 : decode cX2_reach 23 = .ok (.iload_n 2, 1) := by decide +kernel
theorem dX2_reach_24 : decode cX2_reach 24 = .ok (.iconst (-1), 1) := by decide +kernel
theorem dX2_reach_25 : decode cX2_reach 25 = .ok (.iastore, 1) := by decide +kernel
theorem dX2_reach_26 : decode cX2_reach 26 = .ok (.iinc 2 1, 3) := by decide +kernel
theorem dX2_reach_29 : decode cX2_reach 29 = .ok (.goto (-24), 3) := by decide +kernel
theorem dX2_reach_32 : decode cX2_reach 32 = .ok (.aload_n 0, 1) := by decide +kernel
theorem dX2_reach_33 : decode cX2_reach 33 = .ok (.aload_n 0, 1) := by decide +kernel
theorem dX2_reach_34 : decode cX2_reach 34 = .ok (.getfield 30, 3) := by decide +kernel
theorem dX2_reach_37 : decode cX2_reach 37 = .ok (.iload_n 1, 1) := by decide +kernel
theorem dX2_reach_38 : decode cX2_reach 38 = .ok (.aload_n 0, 1) := by decide +kernel
theorem dX2_reach_39 : decode cX2_reach 39 = .ok (.getfield 33, 3) := by decide +kernel
theorem dX2_reach_42 : decode cX2_reach 42 = .ok (.arraylength, 1) := by decide +kernel
theorem dX2_reach_43 : decode cX2_reach 43 = .ok (.invokestatic 56, 3) := by decide +kernel
theorem dX2_reach_46 : decode cX2_reach 46 = .ok (.invokestatic 45, 3) := by decide +kernel
theorem dX2_reach_49 : decode cX2_reach 49 = .ok (.putfield 30, 3) := by decide +kernel
theorem dX2_reach_52 : decode cX2_reach 52 = .ok (.return_, 1) := by decide +kernel
/-! X2_valueAt -/
theorem dX2_valueAt_0 : decode cX2_valueAt 0 = .ok (.iload_n 1, 1) := by decide +kernel
theorem dX2_valueAt_1 : decode cX2_valueAt 1 = .ok (.ifCond .lt 29, 3) := by decide +kernel
theorem dX2_valueAt_4 : decode cX2_valueAt 4 = .ok (.iload_n 1, 1) := by decide +kernel
theorem dX2_valueAt_5 : decode cX2_valueAt 5 = .ok (.aload_n 0, 1) := by decide +kernel
theorem dX2_valueAt_6 : decode cX2_valueAt 6 = .ok (.getfield 30, 3) := by decide +kernel
theorem dX2_valueAt_9 : decode cX2_valueAt 9 = .ok (.if_icmp .ge 21, 3) := by decide +kernel
theorem dX2_valueAt_12 : decode cX2_valueAt 12 = .ok (.iload_n 1, 1) := by decide +kernel
theorem dX2_valueAt_13 : decode cX2_valueAt 13 = .ok (.aload_n 0, 1) := by decide +kernel
theorem dX2_valueAt_14 : decode cX2_valueAt 14 = .ok (.getfield 33, 3) := by decide +kernel
theorem dX2_valueAt_17 : decode cX2_valueAt 17 = .ok (.arraylength, 1) := by decide +kernel
theorem dX2_valueAt_18 : decode cX2_valueAt 18 = .ok (.if_icmp .ge 12, 3) := by decide +kernel
theorem dX2_valueAt_21 : decode cX2_valueAt 21 = .ok (.aload_n 0, 1) := by decide +kernel
theorem dX2_valueAt_22 : decode cX2_valueAt 22 = .ok (.getfield 33, 3) := by decide +kernel
theorem dX2_valueAt_25 : decode cX2_valueAt 25 = .ok (.iload_n 1, 1) := by decide +kernel
theorem dX2_valueAt_26 : decode cX2_valueAt 26 = .ok (.iaload, 1) := by decide +kernel
theorem dX2_valueAt_27 : decode cX2_valueAt 27 = .ok (.goto 4, 3) := by decide +kernel
theorem dX2_valueAt_30 : decode cX2_valueAt 30 = .ok (.iconst (-1), 1) := by decide +kernel
theorem dX2_valueAt_31 : decode cX2_valueAt 31 = .ok (.ireturn, 1) := by decide +kernel
/-! X3_begin -/
theorem dX3_begin_0 : decode cX3_begin 0 = .ok (.aload_n 0, 1) := by decide +kernel
theorem dX3_begin_1 : decode cX3_begin 1 = .ok (.iload_n 1, 1) := by decide +kernel
theorem dX3_begin_2 : decode cX3_begin 2 = .ok (.putfield 7, 3) := by decide +kernel
theorem dX3_begin_5 : decode cX3_begin 5 = .ok (.aload_n 0, 1) := by decide +kernel
theorem dX3_begin_6 : decode cX3_begin 6 = .ok (.iload_n 2, 1) := by decide +kernel
theorem dX3_begin_7 : decode cX3_begin 7 = .ok (.putfield 13, 3) := by decide +kernel
theorem dX3_begin_10 : decode cX3_begin 10 = .ok (.aload_n 0, 1) := by decide +kernel
theorem dX3_begin_11 : decode cX3_begin 11 = .ok (.iload_n 3, 1) := by decide +kernel
theorem dX3_begin_12 : decode cX3_begin 12 = .ok (.putfield 16, 3) := by decide +kernel
theorem dX3_begin_15 : decode cX3_begin 15 = .ok (.aload_n 0, 1) := by decide +kernel
theorem dX3_begin_16 : decode cX3_begin 16 = .ok (.iconst 0, 1) := by decide +kernel
theorem dX3_begin_17 : decode cX3_begin 17 = .ok (.putfield 19, 3) := by decide +kernel
theorem dX3_begin_20 : decode cX3_begin 20 = .ok (.aload_n 0, 1) := by decide +kernel
theorem dX3_begin_21 : decode cX3_begin 21 = .ok (.iconst 0, 1) := by decide +kernel
theorem dX3_begin_22 : decode cX3_begin 22 = .ok (.putfield 22, 3) := by decide +kernel
theorem dX3_begin_25 : decode cX3_begin 25 = .ok (.aload_n 0, 1) := by decide +kernel
theorem dX3_begin_26 : decode cX3_begin 26 = .ok (.iconst 0, 1) := by decide +kernel
theorem dX3_begin_27 : decode cX3_begin 27 = .ok (.putfield 25, 3) := by decide +kernel
theorem dX3_begin_30 : decode cX3_begin 30 = .ok (.aload_n 0, 1) := by decide +kernel
theorem dX3_begin_31 : decode cX3_begin 31 = .ok (.iconst 0, 1) := by decide +kernel
theorem dX3_begin_32 : decode cX3_begin 32 = .ok (.putfield 28, 3) := by decide +kernel
theorem dX3_begin_35 : decode cX3_begin 35 = .ok (.aload_n 0, 1) := by decide +kernel
theorem dX3_begin_36 : decode cX3_begin 36 = .ok (.iconst 0, 1) := by decide +kernel
theorem dX3_begin_37 : decode cX3_begin 37 = .ok (.putfield 31, 3) := by decide +kernel
theorem dX3_begin_40 : decode cX3_begin 40 = .ok (.return_, 1) := by decide +kernel
/-! X3_copyFrom -/
theorem dX3_copyFrom_0 : decode cX3_copyFrom 0 = .ok (.aload_n 0, 1) := by decide +kernel
theorem dX3_copyFrom_1 : decode cX3_copyFrom 1 = .ok (.aload_n 1, 1) := by decide +kernel
theorem dX3_copyFrom_2 : decode cX3_copyFrom 2 = .ok (.getfield 7, 3) := by decide +kernel
theorem dX3_copyFrom_5 : decode cX3_copyFrom 5 = .ok (.putfield 7, 3) := by decide +kernel
theorem dX3_copyFrom_8 : decode cX3_copyFrom 8 = .ok (.aload_n 0, 1) := by decide +kernel
theorem dX3_copyFrom_9 : decode cX3_copyFrom 9 = .ok (.aload_n 1, 1) := by decide +kernel
theorem dX3_copyFrom_10 : decode cX3_copyFrom 10 = .ok (.getfield 13, 3) := by decide +kernel
theorem dX3_copyFrom_13 : decode cX3_copyFrom 13 = .ok (.putfield 13, 3) := by decide +kernel
theorem dX3_copyFrom_16 : decode cX3_copyFrom 16 = .ok (.aload_n 0, 1) := by decide +kernel
theorem dX3_copyFrom_17 : decode cX3_copyFrom 17 = .ok (.aload_n 1, 1) := by decide +kernel
theorem dX3_copyFrom_18 : decode cX3_copyFrom 18 = .ok (.getfield 16, 3) := by decide +kernel
theorem dX3_copyFrom_21 : decode cX3_copyFrom 21 = .ok (.putfield 16, 3) := by decide +kernel
theorem dX3_copyFrom_24 : decode cX3_copyFrom 24 = .ok (.aload_n 0, 1) := by decide +kernel
theorem dX3_copyFrom_25 : decode cX3_copyFrom 25 = .ok (.aload_n 1, 1) := by decide +kernel
theorem dX3_copyFrom_26 : decode cX3_copyFrom 26 = .ok (.getfield 19, 3) := by decide +kernel
theorem dX3_copyFrom_29 : decode cX3_copyFrom 29 = .ok (.putfield 19, 3) := by decide +kernel
theorem dX3_copyFrom_32 : decode cX3_copyFrom 32 = .ok (.aload_n 0, 1) := by decide +kernel
theorem dX3_copyFrom_33 : decode cX3_copyFrom 33 = .ok (.aload_n 1, 1) := by decide +kernel
theorem dX3_copyFrom_34 : decode cX3_copyFrom 34 = .ok (.getfield 22, 3) := by decide +kernel
theorem dX3_copyFrom_37 : decode cX3_copyFrom 37 = .ok (.putfield 22, 3) := by decide +kernel
theorem dX3_copyFrom_40 : decode cX3_copyFrom 40 = .ok (.aload_n 0, 1) := by decide +kernel
theorem dX3_copyFrom_41 : decode cX3_copyFrom 41 = .ok (.aload_n 1, 1) := by decide +kernel
theorem dX3_copyFrom_42 : decode cX3_copyFrom 42 = .ok (.getfield 25, 3) := by decide +kernel
theorem dX3_copyFrom_45 : decode cX3_copyFrom 45 = .ok (.putfield 25, 3) := by decide +kernel
theorem dX3_copyFrom_48 : decode cX3_copyFrom 48 = .ok (.aload_n 0, 1) := by decide +kernel
theorem dX3_copyFrom_49 : decode cX3_copyFrom 49 = .ok (.aload_n 1, 1) := by decide +kernel
theorem dX3_copyFrom_50 : decode cX3_copyFrom 50 = .ok (.getfield 28, 3) := by decide +kernel
theorem dX3_copyFrom_53 : decode cX3_copyFrom 53 = .ok (.putfield 28, 3) := by decide +kernel
theorem dX3_copyFrom_56 : decode cX3_copyFrom 56 = .ok (.aload_n 0, 1) := by decide +kernel
theorem dX3_copyFrom_57 : decode cX3_copyFrom 57 = .ok (.aload_n 1, 1) := by decide +kernel
theorem dX3_copyFrom_58 : decode cX3_copyFrom 58 = .ok (.getfield 31, 3) := by decide +kernel
theorem dX3_copyFrom_61 : decode cX3_copyFrom 61 = .ok (.putfield 31, 3) := by decide +kernel
theorem dX3_copyFrom_64 : decode cX3_copyFrom 64 = .ok (.return_, 1) := by decide +kernel
/-! X3_init -/
theorem dX3_init_0 : decode cX3_init 0 = .ok (.aload_n 0, 1) := by decide +kernel
theorem dX3_init_1 : decode cX3_init 1 = .ok (.invokespecial 1, 3) := by decide +kernel
theorem dX3_init_4 : decode cX3_init 4 = .ok (.aload_n 0, 1) := by decide +kernel
theorem dX3_init_5 : decode cX3_init 5 = .ok (.iconst 0, 1) := by decide +kernel
theorem dX3_init_6 : decode cX3_init 6 = .ok (.putfield 7, 3) := by decide +kernel
theorem dX3_init_9 : decode cX3_init 9 = .ok (.aload_n 0, 1) := by decide +kernel
theorem dX3_init_10 : decode cX3_init 10 = .ok (.iconst 0, 1) := by decide +kernel
theorem dX3_init_11 : decode cX3_init 11 = .ok (.putfield 13, 3) := by decide +kernel
theorem dX3_init_14 : decode cX3_init 14 = .ok (.aload_n 0, 1) := by decide +kernel
theorem dX3_init_15 : decode cX3_init 15 = .ok (.iconst 0, 1) := by decide +kernel
theorem dX3_init_16 : decode cX3_init 16 = .ok (.putfield 16, 3) := by decide +kernel
theorem dX3_init_19 : decode cX3_init 19 = .ok (.aload_n 0, 1) := by decide +kernel
theorem dX3_init_20 : decode cX3_init 20 = .ok (.iconst 0, 1) := by decide +kernel
theorem dX3_init_21 : decode cX3_init 21 = .ok (.putfield 19, 3) := by decide +kernel
theorem dX3_init_24 : decode cX3_init 24 = .ok (.aload_n 0, 1) := by decide +kernel
theorem dX3_init_25 : decode cX3_init 25 = .ok (.iconst 0, 1) := by decide +kernel
theorem dX3_init_26 : decode cX3_init 26 = .ok (.putfield 22, 3) := by decide +kernel
theorem dX3_init_29 : decode cX3_init 29 = .ok (.aload_n 0, 1) := by decide +kernel
theorem dX3_init_30 : decode cX3_init 30 = .ok (.iconst 0, 1) := by decide +kernel
theorem dX3_init_31 : decode cX3_init 31 = .ok (.putfield 25, 3) := by decide +kernel
theorem dX3_init_34 : decode cX3_init 34 = .ok (.aload_n 0, 1) := by decide +kernel
theorem dX3_init_35 : decode cX3_init 35 = .ok (.iconst 0, 1) := by decide +kernel
theorem dX3_init_36 : decode cX3_init 36 = .ok (.putfield 28, 3) := by decide +kernel
theorem dX3_init_39 : decode cX3_init 39 = .ok (.aload_n 0, 1) := by decide +kernel
theorem dX3_init_40 : decode cX3_init 40 = .ok (.iconst 0, 1) := by decide +kernel
theorem dX3_init_41 : decode cX3_init 41 = .ok (.putfield 31, 3) := by decide +kernel
theorem dX3_init_44 : decode cX3_init 44 = .ok (.return_, 1) := by decide +kernel
/-! X4_aboutOf -/
theorem dX4_aboutOf_0 : decode cX4_aboutOf 0 = .ok (.iload_n 1, 1) := by decide +kernel
theorem dX4_aboutOf_1 : decode cX4_aboutOf 1 = .ok (.ifCond .lt 21, 3) := by decide +kernel
theorem dX4_aboutOf_4 : decode cX4_aboutOf 4 = .ok (.iload_n 1, 1) := by decide +kernel
theorem dX4_aboutOf_5 : decode cX4_aboutOf 5 = .ok (.aload_n 0, 1) := by decide +kernel
theorem dX4_aboutOf_6 : decode cX4_aboutOf 6 = .ok (.getfield 18, 3) := by decide +kernel
theorem dX4_aboutOf_9 : decode cX4_aboutOf 9 = .ok (.arraylength, 1) := by decide +kernel
theorem dX4_aboutOf_10 : decode cX4_aboutOf 10 = .ok (.if_icmp .ge 12, 3) := by decide +kernel
theorem dX4_aboutOf_13 : decode cX4_aboutOf 13 = .ok (.aload_n 0, 1) := by decide +kernel
theorem dX4_aboutOf_14 : decode cX4_aboutOf 14 = .ok (.getfield 18, 3) := by decide +kernel
theorem dX4_aboutOf_17 : decode cX4_aboutOf 17 = .ok (.iload_n 1, 1) := by decide +kernel
theorem dX4_aboutOf_18 : decode cX4_aboutOf 18 = .ok (.iaload, 1) := by decide +kernel
theorem dX4_aboutOf_19 : decode cX4_aboutOf 19 = .ok (.goto 4, 3) := by decide +kernel
theorem dX4_aboutOf_22 : decode cX4_aboutOf 22 = .ok (.iconst 0, 1) := by decide +kernel
theorem dX4_aboutOf_23 : decode cX4_aboutOf 23 = .ok (.ireturn, 1) := by decide +kernel
/-! X4_answers -/
theorem dX4_answers_0 : decode cX4_answers 0 = .ok (.iconst 0, 1) := by decide +kernel
theorem dX4_answers_1 : decode cX4_answers 1 = .ok (.istore_n 1, 1) := by decide +kernel
theorem dX4_answers_2 : decode cX4_answers 2 = .ok (.iconst 0, 1) := by decide +kernel
theorem dX4_answers_3 : decode cX4_answers 3 = .ok (.istore_n 2, 1) := by decide +kernel
theorem dX4_answers_4 : decode cX4_answers 4 = .ok (.iload_n 2, 1) := by decide +kernel
theorem dX4_answers_5 : decode cX4_answers 5 = .ok (.aload_n 0, 1) := by decide +kernel
theorem dX4_answers_6 : decode cX4_answers 6 = .ok (.getfield 21, 3) := by decide +kernel
theorem dX4_answers_9 : decode cX4_answers 9 = .ok (.if_icmp .ge 21, 3) := by decide +kernel
theorem dX4_answers_12 : decode cX4_answers 12 = .ok (.aload_n 0, 1) := by decide +kernel
theorem dX4_answers_13 : decode cX4_answers 13 = .ok (.iload_n 2, 1) := by decide +kernel
theorem dX4_answers_14 : decode cX4_answers 14 = .ok (.invokevirtual 53, 3) := by decide +kernel
theorem dX4_answers_17 : decode cX4_answers 17 = .ok (.iconst (-1), 1) := by decide +kernel
theorem dX4_answers_18 : decode cX4_answers 18 = .ok (.if_icmp .ne 6, 3) := by decide +kernel
theorem dX4_answers_21 : decode cX4_answers 21 = .ok (.iinc 1 1, 3) := by decide +kernel
theorem dX4_answers_24 : decode cX4_answers 24 = .ok (.iinc 2 1, 3) := by decide +kernel
theorem dX4_answers_27 : decode cX4_answers 27 = .ok (.goto (-23), 3) := by decide +kernel
theorem dX4_answers_30 : decode cX4_answers 30 = .ok (.iload_n 1, 1) := by decide +kernel
theorem dX4_answers_31 : decode cX4_answers 31 = .ok (.ireturn, 1) := by decide +kernel
/-! X4_clear -/
theorem dX4_clear_0 : decode cX4_clear 0 = .ok (.aload_n 0, 1) := by decide +kernel
theorem dX4_clear_1 : decode cX4_clear 1 = .ok (.iconst 0, 1) := by decide +kernel
theorem dX4_clear_2 : decode cX4_clear 2 = .ok (.putfield 21, 3) := by decide +kernel
theorem dX4_clear_5 : decode cX4_clear 5 = .ok (.aload_n 0, 1) := by decide +kernel
theorem dX4_clear_6 : decode cX4_clear 6 = .ok (.ldc 25, 2) := by decide +kernel
theorem dX4_clear_8 : decode cX4_clear 8 = .ok (.putfield 26, 3) := by decide +kernel
theorem dX4_clear_11 : decode cX4_clear 11 = .ok (.return_, 1) := by decide +kernel
/-! X4_copyFrom -/
theorem dX4_copyFrom_0 : decode cX4_copyFrom 0 = .ok (.aload_n 0, 1) := by decide +kernel
theorem dX4_copyFrom_1 : decode cX4_copyFrom 1 = .ok (.getfield 9, 3) := by decide +kernel
theorem dX4_copyFrom_4 : decode cX4_copyFrom 4 = .ok (.arraylength, 1) := by decide +kernel
theorem dX4_copyFrom_5 : decode cX4_copyFrom 5 = .ok (.aload_n 1, 1) := by decide +kernel
theorem dX4_copyFrom_6 : decode cX4_copyFrom 6 = .ok (.getfield 21, 3) := by decide +kernel
theorem dX4_copyFrom_9 : decode cX4_copyFrom 9 = .ok (.if_icmp .ge 12, 3) := by decide +kernel
theorem dX4_copyFrom_12 : decode cX4_copyFrom 12 = .ok (.aload_n 0, 1) := by decide +kernel
theorem dX4_copyFrom_13 : decode cX4_copyFrom 13 = .ok (.aload_n 1, 1) := by decide +kernel
theorem dX4_copyFrom_14 : decode cX4_copyFrom 14 = .ok (.getfield 9, 3) := by decide +kernel
theorem dX4_copyFrom_17 : decode cX4_copyFrom 17 = .ok (.arraylength, 1) := by decide +kernel
theorem dX4_copyFrom_18 : decode cX4_copyFrom 18 = .ok (.invokevirtual 29, 3) := by decide +kernel
theorem dX4_copyFrom_21 : decode cX4_copyFrom 21 = .ok (.aload_n 0, 1) := by decide +kernel
theorem dX4_copyFrom_22 : decode cX4_copyFrom 22 = .ok (.iconst 0, 1) := by decide +kernel
theorem dX4_copyFrom_23 : decode cX4_copyFrom 23 = .ok (.aload_n 1, 1) := by decide +kernel
theorem dX4_copyFrom_24 : decode cX4_copyFrom 24 = .ok (.getfield 21, 3) := by decide +kernel
theorem dX4_copyFrom_27 : decode cX4_copyFrom 27 = .ok (.aload_n 0, 1) := by decide +kernel
theorem dX4_copyFrom_28 : decode cX4_copyFrom 28 = .ok (.getfield 9, 3) := by decide +kernel
theorem dX4_copyFrom_31 : decode cX4_copyFrom 31 = .ok (.arraylength, 1) := by decide +kernel
theorem dX4_copyFrom_32 : decode cX4_copyFrom 32 = .ok (.invokestatic 37, 3) := by decide +kernel
theorem dX4_copyFrom_35 : decode cX4_copyFrom 35 = .ok (.invokestatic 60, 3) := by decide +kernel
theorem dX4_copyFrom_38 : decode cX4_copyFrom 38 = .ok (.putfield 21, 3) := by decide +kernel
theorem dX4_copyFrom_41 : decode cX4_copyFrom 41 = .ok (.aload_n 0, 1) := by decide +kernel
theorem dX4_copyFrom_42 : decode cX4_copyFrom 42 = .ok (.aload_n 1, 1) := by decide +kernel
theorem dX4_copyFrom_43 : decode cX4_copyFrom 43 = .ok (.getfield 26, 3) := by decide +kernel
theorem dX4_copyFrom_46 : decode cX4_copyFrom 46 = .ok (.putfield 26, 3) := by decide +kernel
theorem dX4_copyFrom_49 : decode cX4_copyFrom 49 = .ok (.aload_n 1, 1) := by decide +kernel
theorem dX4_copyFrom_50 : decode cX4_copyFrom 50 = .ok (.getfield 9, 3) := by decide +kernel
theorem dX4_copyFrom_53 : decode cX4_copyFrom 53 = .ok (.iconst 0, 1) := by decide +kernel
theorem dX4_copyFrom_54 : decode cX4_copyFrom 54 = .ok (.aload_n 0, 1) := by decide +kernel
theorem dX4_copyFrom_55 : decode cX4_copyFrom 55 = .ok (.getfield 9, 3) := by decide +kernel
theorem dX4_copyFrom_58 : decode cX4_copyFrom 58 = .ok (.iconst 0, 1) := by decide +kernel
theorem dX4_copyFrom_59 : decode cX4_copyFrom 59 = .ok (.aload_n 0, 1) := by decide +kernel
theorem dX4_copyFrom_60 : decode cX4_copyFrom 60 = .ok (.getfield 21, 3) := by decide +kernel
theorem dX4_copyFrom_63 : decode cX4_copyFrom 63 = .ok (.invokestatic 63, 3) := by decide +kernel
theorem dX4_copyFrom_66 : decode cX4_copyFrom 66 = .ok (.aload_n 1, 1) := by decide +kernel
theorem dX4_copyFrom_67 : decode cX4_copyFrom 67 = .ok (.getfield 15, 3) := by decide +kernel
theorem dX4_copyFrom_70 : decode cX4_copyFrom 70 = .ok (.iconst 0, 1) := by decide +kernel
theorem dX4_copyFrom_71 : decode cX4_copyFrom 71 = .ok (.aload_n 0, 1) := by decide +kernel
theorem dX4_copyFrom_72 : decode cX4_copyFrom 72 = .ok (.getfield 15, 3) := by decide +kernel
theorem dX4_copyFrom_75 : decode cX4_copyFrom 75 = .ok (.iconst 0, 1) := by decide +kernel
theorem dX4_copyFrom_76 : decode cX4_copyFrom 76 = .ok (.aload_n 0, 1) := by decide +kernel
theorem dX4_copyFrom_77 : decode cX4_copyFrom 77 = .ok (.getfield 21, 3) := by decide +kernel
theorem dX4_copyFrom_80 : decode cX4_copyFrom 80 = .ok (.invokestatic 63, 3) := by decide +kernel
theorem dX4_copyFrom_83 : decode cX4_copyFrom 83 = .ok (.aload_n 1, 1) := by decide +kernel
theorem dX4_copyFrom_84 : decode cX4_copyFrom 84 = .ok (.getfield 18, 3) := by decide +kernel
theorem dX4_copyFrom_87 : decode cX4_copyFrom 87 = .ok (.iconst 0, 1) := by decide +kernel
theorem dX4_copyFrom_88 : decode cX4_copyFrom 88 = .ok (.aload_n 0, 1) := by decide +kernel
theorem dX4_copyFrom_89 : decode cX4_copyFrom 89 = .ok (.getfield 18, 3) := by decide +kernel
theorem dX4_copyFrom_92 : decode cX4_copyFrom 92 = .ok (.iconst 0, 1) := by decide +kernel
theorem dX4_copyFrom_93 : decode cX4_copyFrom 93 = .ok (.aload_n 0, 1) := by decide +kernel
theorem dX4_copyFrom_94 : decode cX4_copyFrom 94 = .ok (.getfield 21, 3) := by decide +kernel
theorem dX4_copyFrom_97 : decode cX4_copyFrom 97 = .ok (.invokestatic 63, 3) := by decide +kernel
theorem dX4_copyFrom_100 : decode cX4_copyFrom 100 = .ok (.return_, 1) := by decide +kernel
/-! X4_cut -/
theorem dX4_cut_0 : decode cX4_cut 0 = .ok (.aload_n 0, 1) := by decide +kernel
theorem dX4_cut_1 : decode cX4_cut 1 = .ok (.iload_n 1, 1) := by decide +kernel
theorem dX4_cut_2 : decode cX4_cut 2 = .ok (.putfield 21, 3) := by decide +kernel
theorem dX4_cut_5 : decode cX4_cut 5 = .ok (.aload_n 0, 1) := by decide +kernel
theorem dX4_cut_6 : decode cX4_cut 6 = .ok (.ldc 25, 2) := by decide +kernel
theorem dX4_cut_8 : decode cX4_cut 8 = .ok (.putfield 26, 3) := by decide +kernel
theorem dX4_cut_11 : decode cX4_cut 11 = .ok (.iconst 0, 1) := by decide +kernel
theorem dX4_cut_12 : decode cX4_cut 12 = .ok (.istore_n 2, 1) := by decide +kernel
theorem dX4_cut_13 : decode cX4_cut 13 = .ok (.iload_n 2, 1) := by decide +kernel
theorem dX4_cut_14 : decode cX4_cut 14 = .ok (.aload_n 0, 1) := by decide +kernel
theorem dX4_cut_15 : decode cX4_cut 15 = .ok (.getfield 21, 3) := by decide +kernel
theorem dX4_cut_18 : decode cX4_cut 18 = .ok (.if_icmp .ge 28, 3) := by decide +kernel
theorem dX4_cut_21 : decode cX4_cut 21 = .ok (.aload_n 0, 1) := by decide +kernel
theorem dX4_cut_22 : decode cX4_cut 22 = .ok (.aload_n 0, 1) := by decide +kernel
theorem dX4_cut_23 : decode cX4_cut 23 = .ok (.getfield 26, 3) := by decide +kernel
theorem dX4_cut_26 : decode cX4_cut 26 = .ok (.aload_n 0, 1) := by decide +kernel
theorem dX4_cut_27 : decode cX4_cut 27 = .ok (.getfield 9, 3) := by decide +kernel
theorem dX4_cut_30 : decode cX4_cut 30 = .ok (.iload_n 2, 1) := by decide +kernel
theorem dX4_cut_31 : decode cX4_cut 31 = .ok (.invokestatic 49, 3) := by decide +kernel
theorem dX4_cut_34 : decode cX4_cut 34 = .ok (.invokestatic 37, 3) := by decide +kernel
theorem dX4_cut_37 : decode cX4_cut 37 = .ok (.putfield 26, 3) := by decide +kernel
theorem dX4_cut_40 : decode cX4_cut 40 = .ok (.iinc 2 1, 3) := by decide +kernel
theorem dX4_cut_43 : decode cX4_cut 43 = .ok (.goto (-30), 3) := by decide +kernel
theorem dX4_cut_46 : decode cX4_cut 46 = .ok (.return_, 1) := by decide +kernel
/-! X4_init -/
theorem dX4_init_0 : decode cX4_init 0 = .ok (.aload_n 0, 1) := by decide +kernel
theorem dX4_init_1 : decode cX4_init 1 = .ok (.invokespecial 3, 3) := by decide +kernel
theorem dX4_init_4 : decode cX4_init 4 = .ok (.aload_n 0, 1) := by decide +kernel
theorem dX4_init_5 : decode cX4_init 5 = .ok (.bipush 16, 2) := by decide +kernel
theorem dX4_init_7 : decode cX4_init 7 = .ok (.newarray .int, 2) := by decide +kernel
theorem dX4_init_9 : decode cX4_init 9 = .ok (.putfield 9, 3) := by decide +kernel
theorem dX4_init_12 : decode cX4_init 12 = .ok (.aload_n 0, 1) := by decide +kernel
theorem dX4_init_13 : decode cX4_init 13 = .ok (.bipush 16, 2) := by decide +kernel
theorem dX4_init_15 : decode cX4_init 15 = .ok (.newarray .int, 2) := by decide +kernel
theorem dX4_init_17 : decode cX4_init 17 = .ok (.putfield 15, 3) := by decide +kernel
theorem dX4_init_20 : decode cX4_init 20 = .ok (.aload_n 0, 1) := by decide +kernel
theorem dX4_init_21 : decode cX4_init 21 = .ok (.bipush 16, 2) := by decide +kernel
theorem dX4_init_23 : decode cX4_init 23 = .ok (.newarray .int, 2) := by decide +kernel
theorem dX4_init_25 : decode cX4_init 25 = .ok (.putfield 18, 3) := by decide +kernel
theorem dX4_init_28 : decode cX4_init 28 = .ok (.aload_n 0, 1) := by decide +kernel
theorem dX4_init_29 : decode cX4_init 29 = .ok (.iconst 0, 1) := by decide +kernel
theorem dX4_init_30 : decode cX4_init 30 = .ok (.putfield 21, 3) := by decide +kernel
theorem dX4_init_33 : decode cX4_init 33 = .ok (.aload_n 0, 1) := by decide +kernel
theorem dX4_init_34 : decode cX4_init 34 = .ok (.ldc 25, 2) := by decide +kernel
theorem dX4_init_36 : decode cX4_init 36 = .ok (.putfield 26, 3) := by decide +kernel
theorem dX4_init_39 : decode cX4_init 39 = .ok (.return_, 1) := by decide +kernel
/-! X4_isDue -/
theorem dX4_isDue_0 : decode cX4_isDue 0 = .ok (.aload_n 0, 1) := by decide +kernel
theorem dX4_isDue_1 : decode cX4_isDue 1 = .ok (.getfield 9, 3) := by decide +kernel
theorem dX4_isDue_4 : decode cX4_isDue 4 = .ok (.iload_n 1, 1) := by decide +kernel
theorem dX4_isDue_5 : decode cX4_isDue 5 = .ok (.invokestatic 49, 3) := by decide +kernel
theorem dX4_isDue_8 : decode cX4_isDue 8 = .ok (.iload_n 2, 1) := by decide +kernel
theorem dX4_isDue_9 : decode cX4_isDue 9 = .ok (.if_icmp .gt 7, 3) := by decide +kernel
theorem dX4_isDue_12 : decode cX4_isDue 12 = .ok (.iconst 1, 1) := by decide +kernel
theorem dX4_isDue_13 : decode cX4_isDue 13 = .ok (.goto 4, 3) := by decide +kernel
theorem dX4_isDue_16 : decode cX4_isDue 16 = .ok (.iconst 0, 1) := by decide +kernel
theorem dX4_isDue_17 : decode cX4_isDue 17 = .ok (.ireturn, 1) := by decide +kernel
/-! X4_move -/
theorem dX4_move_0 : decode cX4_move 0 = .ok (.aload_n 0, 1) := by decide +kernel
theorem dX4_move_1 : decode cX4_move 1 = .ok (.getfield 9, 3) := by decide +kernel
theorem dX4_move_4 : decode cX4_move 4 = .ok (.iload_n 2, 1) := by decide +kernel
theorem dX4_move_5 : decode cX4_move 5 = .ok (.aload_n 0, 1) := by decide +kernel
theorem dX4_move_6 : decode cX4_move 6 = .ok (.getfield 9, 3) := by decide +kernel
theorem dX4_move_9 : decode cX4_move 9 = .ok (.iload_n 1, 1) := by decide +kernel
theorem dX4_move_10 : decode cX4_move 10 = .ok (.invokestatic 49, 3) := by decide +kernel
theorem dX4_move_13 : decode cX4_move 13 = .ok (.invokestatic 33, 3) := by decide +kernel
theorem dX4_move_16 : decode cX4_move 16 = .ok (.aload_n 0, 1) := by decide +kernel
theorem dX4_move_17 : decode cX4_move 17 = .ok (.getfield 15, 3) := by decide +kernel
theorem dX4_move_20 : decode cX4_move 20 = .ok (.iload_n 2, 1) := by decide +kernel
theorem dX4_move_21 : decode cX4_move 21 = .ok (.aload_n 0, 1) := by decide +kernel
theorem dX4_move_22 : decode cX4_move 22 = .ok (.iload_n 1, 1) := by decide +kernel
theorem dX4_move_23 : decode cX4_move 23 = .ok (.invokevirtual 53, 3) := by decide +kernel
theorem dX4_move_26 : decode cX4_move 26 = .ok (.invokestatic 33, 3) := by decide +kernel
theorem dX4_move_29 : decode cX4_move 29 = .ok (.aload_n 0, 1) := by decide +kernel
theorem dX4_move_30 : decode cX4_move 30 = .ok (.getfield 18, 3) := by decide +kernel
theorem dX4_move_33 : decode cX4_move 33 = .ok (.iload_n 2, 1) := by decide +kernel
theorem dX4_move_34 : decode cX4_move 34 = .ok (.aload_n 0, 1) := by decide +kernel
theorem dX4_move_35 : decode cX4_move 35 = .ok (.iload_n 1, 1) := by decide +kernel
theorem dX4_move_36 : decode cX4_move 36 = .ok (.invokevirtual 57, 3) := by decide +kernel
theorem dX4_move_39 : decode cX4_move 39 = .ok (.invokestatic 33, 3) := by decide +kernel
theorem dX4_move_42 : decode cX4_move 42 = .ok (.return_, 1) := by decide +kernel
/-! X4_put -/
theorem dX4_put_0 : decode cX4_put 0 = .ok (.aload_n 0, 1) := by decide +kernel
theorem dX4_put_1 : decode cX4_put 1 = .ok (.getfield 21, 3) := by decide +kernel
theorem dX4_put_4 : decode cX4_put 4 = .ok (.ifCond .lt 13, 3) := by decide +kernel
theorem dX4_put_7 : decode cX4_put 7 = .ok (.aload_n 0, 1) := by decide +kernel
theorem dX4_put_8 : decode cX4_put 8 = .ok (.getfield 21, 3) := by decide +kernel
theorem dX4_put_11 : decode cX4_put 11 = .ok (.sipush 2100, 3) := by decide +kernel
theorem dX4_put_14 : decode cX4_put 14 = .ok (.if_icmp .lt 4, 3) := by decide +kernel
theorem dX4_put_17 : decode cX4_put 17 = .ok (.return_, 1) := by decide +kernel
theorem dX4_put_18 : decode cX4_put 18 = .ok (.aload_n 0, 1) := by decide +kernel
theorem dX4_put_19 : decode cX4_put 19 = .ok (.getfield 21, 3) := by decide +kernel
theorem dX4_put_22 : decode cX4_put 22 = .ok (.aload_n 0, 1) := by decide +kernel
theorem dX4_put_23 : decode cX4_put 23 = .ok (.getfield 9, 3) := by decide +kernel
theorem dX4_put_26 : decode cX4_put 26 = .ok (.arraylength, 1) := by decide +kernel
theorem dX4_put_27 : decode cX4_put 27 = .ok (.if_icmp .lt 14, 3) := by decide +kernel
theorem dX4_put_30 : decode cX4_put 30 = .ok (.aload_n 0, 1) := by decide +kernel
theorem dX4_put_31 : decode cX4_put 31 = .ok (.aload_n 0, 1) := by decide +kernel
theorem dX4_put_32 : decode cX4_put 32 = .ok (.getfield 9, 3) := by decide +kernel
theorem dX4_put_35 : decode cX4_put 35 = .ok (.arraylength, 1) := by decide +kernel
theorem dX4_put_36 : decode cX4_put 36 = .ok (.iconst 2, 1) := by decide +kernel
theorem dX4_put_37 : decode cX4_put 37 = .ok (.imul, 1) := by decide +kernel
theorem dX4_put_38 : decode cX4_put 38 = .ok (.invokevirtual 29, 3) := by decide +kernel
theorem dX4_put_41 : decode cX4_put 41 = .ok (.aload_n 0, 1) := by decide +kernel
theorem dX4_put_42 : decode cX4_put 42 = .ok (.getfield 9, 3) := by decide +kernel
theorem dX4_put_45 : decode cX4_put 45 = .ok (.aload_n 0, 1) := by decide +kernel
theorem dX4_put_46 : decode cX4_put 46 = .ok (.getfield 21, 3) := by decide +kernel
theorem dX4_put_49 : decode cX4_put 49 = .ok (.iload_n 1, 1) := by decide +kernel
theorem dX4_put_50 : decode cX4_put 50 = .ok (.invokestatic 33, 3) := by decide +kernel
theorem dX4_put_53 : decode cX4_put 53 = .ok (.aload_n 0, 1) := by decide +kernel
theorem dX4_put_54 : decode cX4_put 54 = .ok (.getfield 15, 3) := by decide +kernel
theorem dX4_put_57 : decode cX4_put 57 = .ok (.aload_n 0, 1) := by decide +kernel
theorem dX4_put_58 : decode cX4_put 58 = .ok (.getfield 21, 3) := by decide +kernel
theorem dX4_put_61 : decode cX4_put 61 = .ok (.iload_n 2, 1) := by decide +kernel
theorem dX4_put_62 : decode cX4_put 62 = .ok (.invokestatic 33, 3) := by decide +kernel
theorem dX4_put_65 : decode cX4_put 65 = .ok (.aload_n 0, 1) := by decide +kernel
theorem dX4_put_66 : decode cX4_put 66 = .ok (.getfield 18, 3) := by decide +kernel
theorem dX4_put_69 : decode cX4_put 69 = .ok (.aload_n 0, 1) := by decide +kernel
theorem dX4_put_70 : decode cX4_put 70 = .ok (.getfield 21, 3) := by decide +kernel
theorem dX4_put_73 : decode cX4_put 73 = .ok (.iload_n 3, 1) := by decide +kernel
theorem dX4_put_74 : decode cX4_put 74 = .ok (.invokestatic 33, 3) := by decide +kernel
theorem dX4_put_77 : decode cX4_put 77 = .ok (.aload_n 0, 1) := by decide +kernel
theorem dX4_put_78 : decode cX4_put 78 = .ok (.dup, 1) := by decide +kernel
theorem dX4_put_79 : decode cX4_put 79 = .ok (.getfield 21, 3) := by decide +kernel
theorem dX4_put_82 : decode cX4_put 82 = .ok (.iconst 1, 1) := by decide +kernel
theorem dX4_put_83 : decode cX4_put 83 = .ok (.iadd, 1) := by decide +kernel
theorem dX4_put_84 : decode cX4_put 84 = .ok (.putfield 21, 3) := by decide +kernel
theorem dX4_put_87 : decode cX4_put 87 = .ok (.aload_n 0, 1) := by decide +kernel
theorem dX4_put_88 : decode cX4_put 88 = .ok (.aload_n 0, 1) := by decide +kernel
theorem dX4_put_89 : decode cX4_put 89 = .ok (.getfield 26, 3) := by decide +kernel
theorem dX4_put_92 : decode cX4_put 92 = .ok (.iload_n 1, 1) := by decide +kernel
theorem dX4_put_93 : decode cX4_put 93 = .ok (.invokestatic 37, 3) := by decide +kernel
theorem dX4_put_96 : decode cX4_put 96 = .ok (.putfield 26, 3) := by decide +kernel
theorem dX4_put_99 : decode cX4_put 99 = .ok (.return_, 1) := by decide +kernel
/-! X4_toldBy -/
theorem dX4_toldBy_0 : decode cX4_toldBy 0 = .ok (.aload_n 0, 1) := by decide +kernel
theorem dX4_toldBy_1 : decode cX4_toldBy 1 = .ok (.getfield 15, 3) := by decide +kernel
theorem dX4_toldBy_4 : decode cX4_toldBy 4 = .ok (.iload_n 1, 1) := by decide +kernel
theorem dX4_toldBy_5 : decode cX4_toldBy 5 = .ok (.invokestatic 49, 3) := by decide +kernel
theorem dX4_toldBy_8 : decode cX4_toldBy 8 = .ok (.ireturn, 1) := by decide +kernel
/-! X4_widen -/
theorem dX4_widen_0 : decode cX4_widen 0 = .ok (.aload_n 0, 1) := by decide +kernel
theorem dX4_widen_1 : decode cX4_widen 1 = .ok (.aload_n 0, 1) := by decide +kernel
theorem dX4_widen_2 : decode cX4_widen 2 = .ok (.getfield 9, 3) := by decide +kernel
theorem dX4_widen_5 : decode cX4_widen 5 = .ok (.iload_n 1, 1) := by decide +kernel
theorem dX4_widen_6 : decode cX4_widen 6 = .ok (.invokestatic 43, 3) := by decide +kernel
theorem dX4_widen_9 : decode cX4_widen 9 = .ok (.putfield 9, 3) := by decide +kernel
theorem dX4_widen_12 : decode cX4_widen 12 = .ok (.aload_n 0, 1) := by decide +kernel
theorem dX4_widen_13 : decode cX4_widen 13 = .ok (.aload_n 0, 1) := by decide +kernel
theorem dX4_widen_14 : decode cX4_widen 14 = .ok (.getfield 15, 3) := by decide +kernel
theorem dX4_widen_17 : decode cX4_widen 17 = .ok (.iload_n 1, 1) := by decide +kernel
theorem dX4_widen_18 : decode cX4_widen 18 = .ok (.invokestatic 43, 3) := by decide +kernel
theorem dX4_widen_21 : decode cX4_widen 21 = .ok (.putfield 15, 3) := by decide +kernel
theorem dX4_widen_24 : decode cX4_widen 24 = .ok (.aload_n 0, 1) := by decide +kernel
theorem dX4_widen_25 : decode cX4_widen 25 = .ok (.aload_n 0, 1) := by decide +kernel
theorem dX4_widen_26 : decode cX4_widen 26 = .ok (.getfield 18, 3) := by decide +kernel
theorem dX4_widen_29 : decode cX4_widen 29 = .ok (.iload_n 1, 1) := by decide +kernel
theorem dX4_widen_30 : decode cX4_widen 30 = .ok (.invokestatic 43, 3) := by decide +kernel
theorem dX4_widen_33 : decode cX4_widen 33 = .ok (.putfield 18, 3) := by decide +kernel
theorem dX4_widen_36 : decode cX4_widen 36 = .ok (.return_, 1) := by decide +kernel
/-! X5_clear -/
theorem dX5_clear_0 : decode cX5_clear 0 = .ok (.aload_n 0, 1) := by decide +kernel
theorem dX5_clear_1 : decode cX5_clear 1 = .ok (.getfield 30, 3) := by decide +kernel
theorem dX5_clear_4 : decode cX5_clear 4 = .ok (.iconst (-1), 1) := by decide +kernel
theorem dX5_clear_5 : decode cX5_clear 5 = .ok (.invokestatic 52, 3) := by decide +kernel
theorem dX5_clear_8 : decode cX5_clear 8 = .ok (.aload_n 0, 1) := by decide +kernel
theorem dX5_clear_9 : decode cX5_clear 9 = .ok (.getfield 33, 3) := by decide +kernel
theorem dX5_clear_12 : decode cX5_clear 12 = .ok (.iconst (-1), 1) := by decide +kernel
theorem dX5_clear_13 : decode cX5_clear 13 = .ok (.invokestatic 52, 3) := by decide +kernel
theorem dX5_clear_16 : decode cX5_clear 16 = .ok (.aload_n 0, 1) := by decide +kernel
theorem dX5_clear_17 : decode cX5_clear 17 = .ok (.getfield 36, 3) := by decide +kernel
theorem dX5_clear_20 : decode cX5_clear 20 = .ok (.iconst 0, 1) := by decide +kernel
theorem dX5_clear_21 : decode cX5_clear 21 = .ok (.invokestatic 52, 3) := by decide +kernel
theorem dX5_clear_24 : decode cX5_clear 24 = .ok (.aload_n 0, 1) := by decide +kernel
theorem dX5_clear_25 : decode cX5_clear 25 = .ok (.iconst 0, 1) := by decide +kernel
theorem dX5_clear_26 : decode cX5_clear 26 = .ok (.putfield 42, 3) := by decide +kernel
theorem dX5_clear_29 : decode cX5_clear 29 = .ok (.aload_n 0, 1) := by decide +kernel
theorem dX5_clear_30 : decode cX5_clear 30 = .ok (.iconst (-1), 1) := by decide +kernel
theorem dX5_clear_31 : decode cX5_clear 31 = .ok (.putfield 46, 3) := by decide +kernel
theorem dX5_clear_34 : decode cX5_clear 34 = .ok (.aload_n 0, 1) := by decide +kernel
theorem dX5_clear_35 : decode cX5_clear 35 = .ok (.iconst 0, 1) := by decide +kernel
theorem dX5_clear_36 : decode cX5_clear 36 = .ok (.putfield 49, 3) := by decide +kernel
theorem dX5_clear_39 : decode cX5_clear 39 = .ok (.return_, 1) := by decide +kernel
/-! X5_copyFrom -/
theorem dX5_copyFrom_0 : decode cX5_copyFrom 0 = .ok (.aload_n 0, 1) := by decide +kernel
theorem dX5_copyFrom_1 : decode cX5_copyFrom 1 = .ok (.iconst 0, 1) := by decide +kernel
theorem dX5_copyFrom_2 : decode cX5_copyFrom 2 = .ok (.aload_n 1, 1) := by decide +kernel
theorem dX5_copyFrom_3 : decode cX5_copyFrom 3 = .ok (.getfield 42, 3) := by decide +kernel
theorem dX5_copyFrom_6 : decode cX5_copyFrom 6 = .ok (.sipush 300, 3) := by decide +kernel
theorem dX5_copyFrom_9 : decode cX5_copyFrom 9 = .ok (.invokestatic 76, 3) := by decide +kernel
theorem dX5_copyFrom_12 : decode cX5_copyFrom 12 = .ok (.invokestatic 82, 3) := by decide +kernel
theorem dX5_copyFrom_15 : decode cX5_copyFrom 15 = .ok (.putfield 42, 3) := by decide +kernel
theorem dX5_copyFrom_18 : decode cX5_copyFrom 18 = .ok (.aload_n 0, 1) := by decide +kernel
theorem dX5_copyFrom_19 : decode cX5_copyFrom 19 = .ok (.aload_n 1, 1) := by decide +kernel
theorem dX5_copyFrom_20 : decode cX5_copyFrom 20 = .ok (.getfield 46, 3) := by decide +kernel
theorem dX5_copyFrom_23 : decode cX5_copyFrom 23 = .ok (.putfield 46, 3) := by decide +kernel
theorem dX5_copyFrom_26 : decode cX5_copyFrom 26 = .ok (.aload_n 0, 1) := by decide +kernel
theorem dX5_copyFrom_27 : decode cX5_copyFrom 27 = .ok (.aload_n 1, 1) := by decide +kernel
theorem dX5_copyFrom_28 : decode cX5_copyFrom 28 = .ok (.getfield 49, 3) := by decide +kernel
theorem dX5_copyFrom_31 : decode cX5_copyFrom 31 = .ok (.putfield 49, 3) := by decide +kernel
theorem dX5_copyFrom_34 : decode cX5_copyFrom 34 = .ok (.aload_n 1, 1) := by decide +kernel
theorem dX5_copyFrom_35 : decode cX5_copyFrom 35 = .ok (.getfield 9, 3) := by decide +kernel
theorem dX5_copyFrom_38 : decode cX5_copyFrom 38 = .ok (.iconst 0, 1) := by decide +kernel
theorem dX5_copyFrom_39 : decode cX5_copyFrom 39 = .ok (.aload_n 0, 1) := by decide +kernel
theorem dX5_copyFrom_40 : decode cX5_copyFrom 40 = .ok (.getfield 9, 3) := by decide +kernel
theorem dX5_copyFrom_43 : decode cX5_copyFrom 43 = .ok (.iconst 0, 1) := by decide +kernel
theorem dX5_copyFrom_44 : decode cX5_copyFrom 44 = .ok (.aload_n 0, 1) := by decide +kernel
theorem dX5_copyFrom_45 : decode cX5_copyFrom 45 = .ok (.getfield 42, 3) := by decide +kernel
theorem dX5_copyFrom_48 : decode cX5_copyFrom 48 = .ok (.invokestatic 62, 3) := by decide +kernel
theorem dX5_copyFrom_51 : decode cX5_copyFrom 51 = .ok (.aload_n 1, 1) := by decide +kernel
theorem dX5_copyFrom_52 : decode cX5_copyFrom 52 = .ok (.getfield 15, 3) := by decide +kernel
theorem dX5_copyFrom_55 : decode cX5_copyFrom 55 = .ok (.iconst 0, 1) := by decide +kernel
theorem dX5_copyFrom_56 : decode cX5_copyFrom 56 = .ok (.aload_n 0, 1) := by decide +kernel
theorem dX5_copyFrom_57 : decode cX5_copyFrom 57 = .ok (.getfield 15, 3) := by decide +kernel
theorem dX5_copyFrom_60 : decode cX5_copyFrom 60 = .ok (.iconst 0, 1) := by decide +kernel
theorem dX5_copyFrom_61 : decode cX5_copyFrom 61 = .ok (.aload_n 0, 1) := by decide +kernel
theorem dX5_copyFrom_62 : decode cX5_copyFrom 62 = .ok (.getfield 42, 3) := by decide +kernel
theorem dX5_copyFrom_65 : decode cX5_copyFrom 65 = .ok (.invokestatic 62, 3) := by decide +kernel
theorem dX5_copyFrom_68 : decode cX5_copyFrom 68 = .ok (.aload_n 1, 1) := by decide +kernel
theorem dX5_copyFrom_69 : decode cX5_copyFrom 69 = .ok (.getfield 18, 3) := by decide +kernel
theorem dX5_copyFrom_72 : decode cX5_copyFrom 72 = .ok (.iconst 0, 1) := by decide +kernel
theorem dX5_copyFrom_73 : decode cX5_copyFrom 73 = .ok (.aload_n 0, 1) := by decide +kernel
theorem dX5_copyFrom_74 : decode cX5_copyFrom 74 = .ok (.getfield 18, 3) := by decide +kernel
theorem dX5_copyFrom_77 : decode cX5_copyFrom 77 = .ok (.iconst 0, 1) := by decide +kernel
theorem dX5_copyFrom_78 : decode cX5_copyFrom 78 = .ok (.aload_n 0, 1) := by decide +kernel
theorem dX5_copyFrom_79 : decode cX5_copyFrom 79 = .ok (.getfield 42, 3) := by decide +kernel
theorem dX5_copyFrom_82 : decode cX5_copyFrom 82 = .ok (.invokestatic 62, 3) := by decide +kernel
theorem dX5_copyFrom_85 : decode cX5_copyFrom 85 = .ok (.aload_n 1, 1) := by decide +kernel
theorem dX5_copyFrom_86 : decode cX5_copyFrom 86 = .ok (.getfield 21, 3) := by decide +kernel
theorem dX5_copyFrom_89 : decode cX5_copyFrom 89 = .ok (.iconst 0, 1) := by decide +kernel
theorem dX5_copyFrom_90 : decode cX5_copyFrom 90 = .ok (.aload_n 0, 1) := by decide +kernel
theorem dX5_copyFrom_91 : decode cX5_copyFrom 91 = .ok (.getfield 21, 3) := by decide +kernel
theorem dX5_copyFrom_94 : decode cX5_copyFrom 94 = .ok (.iconst 0, 1) := by decide +kernel
theorem dX5_copyFrom_95 : decode cX5_copyFrom 95 = .ok (.aload_n 0, 1) := by decide +kernel
theorem dX5_copyFrom_96 : decode cX5_copyFrom 96 = .ok (.getfield 42, 3) := by decide +kernel
theorem dX5_copyFrom_99 : decode cX5_copyFrom 99 = .ok (.invokestatic 62, 3) := by decide +kernel
theorem dX5_copyFrom_102 : decode cX5_copyFrom 102 = .ok (.aload_n 1, 1) := by decide +kernel
theorem dX5_copyFrom_103 : decode cX5_copyFrom 103 = .ok (.getfield 24, 3) := by decide +kernel
theorem dX5_copyFrom_106 : decode cX5_copyFrom 106 = .ok (.iconst 0, 1) := by decide +kernel
theorem dX5_copyFrom_107 : decode cX5_copyFrom 107 = .ok (.aload_n 0, 1) := by decide +kernel
theorem dX5_copyFrom_108 : decode cX5_copyFrom 108 = .ok (.getfield 24, 3) := by decide +kernel
theorem dX5_copyFrom_111 : decode cX5_copyFrom 111 = .ok (.iconst 0, 1) := by decide +kernel
theorem dX5_copyFrom_112 : decode cX5_copyFrom 112 = .ok (.aload_n 0, 1) := by decide +kernel
theorem dX5_copyFrom_113 : decode cX5_copyFrom 113 = .ok (.getfield 42, 3) := by decide +kernel
theorem dX5_copyFrom_116 : decode cX5_copyFrom 116 = .ok (.invokestatic 62, 3) := by decide +kernel
theorem dX5_copyFrom_119 : decode cX5_copyFrom 119 = .ok (.aload_n 1, 1) := by decide +kernel
theorem dX5_copyFrom_120 : decode cX5_copyFrom 120 = .ok (.getfield 27, 3) := by decide +kernel
theorem dX5_copyFrom_123 : decode cX5_copyFrom 123 = .ok (.iconst 0, 1) := by decide +kernel
theorem dX5_copyFrom_124 : decode cX5_copyFrom 124 = .ok (.aload_n 0, 1) := by decide +kernel
theorem dX5_copyFrom_125 : decode cX5_copyFrom 125 = .ok (.getfield 27, 3) := by decide +kernel
theorem dX5_copyFrom_128 : decode cX5_copyFrom 128 = .ok (.iconst 0, 1) := by decide +kernel
theorem dX5_copyFrom_129 : decode cX5_copyFrom 129 = .ok (.aload_n 0, 1) := by decide +kernel
theorem dX5_copyFrom_130 : decode cX5_copyFrom 130 = .ok (.getfield 42, 3) := by decide +kernel
theorem dX5_copyFrom_133 : decode cX5_copyFrom 133 = .ok (.invokestatic 62, 3) := by decide +kernel
theorem dX5_copyFrom_136 : decode cX5_copyFrom 136 = .ok (.aload_n 1, 1) := by decide +kernel
theorem dX5_copyFrom_137 : decode cX5_copyFrom 137 = .ok (.getfield 30, 3) := by decide +kernel
theorem dX5_copyFrom_140 : decode cX5_copyFrom 140 = .ok (.iconst 0, 1) := by decide +kernel
theorem dX5_copyFrom_141 : decode cX5_copyFrom 141 = .ok (.aload_n 0, 1) := by decide +kernel
theorem dX5_copyFrom_142 : decode cX5_copyFrom 142 = .ok (.getfield 30, 3) := by decide +kernel
theorem dX5_copyFrom_145 : decode cX5_copyFrom 145 = .ok (.iconst 0, 1) := by decide +kernel
theorem dX5_copyFrom_146 : decode cX5_copyFrom 146 = .ok (.bipush 6, 2) := by decide +kernel
theorem dX5_copyFrom_148 : decode cX5_copyFrom 148 = .ok (.invokestatic 62, 3) := by decide +kernel
theorem dX5_copyFrom_151 : decode cX5_copyFrom 151 = .ok (.aload_n 1, 1) := by decide +kernel
theorem dX5_copyFrom_152 : decode cX5_copyFrom 152 = .ok (.getfield 33, 3) := by decide +kernel
theorem dX5_copyFrom_155 : decode cX5_copyFrom 155 = .ok (.iconst 0, 1) := by decide +kernel
theorem dX5_copyFrom_156 : decode cX5_copyFrom 156 = .ok (.aload_n 0, 1) := by decide +kernel
theorem dX5_copyFrom_157 : decode cX5_copyFrom 157 = .ok (.getfield 33, 3) := by decide +kernel
theorem dX5_copyFrom_160 : decode cX5_copyFrom 160 = .ok (.iconst 0, 1) := by decide +kernel
theorem dX5_copyFrom_161 : decode cX5_copyFrom 161 = .ok (.bipush 6, 2) := by decide +kernel
theorem dX5_copyFrom_163 : decode cX5_copyFrom 163 = .ok (.invokestatic 62, 3) := by decide +kernel
theorem dX5_copyFrom_166 : decode cX5_copyFrom 166 = .ok (.aload_n 1, 1) := by decide +kernel
theorem dX5_copyFrom_167 : decode cX5_copyFrom 167 = .ok (.getfield 36, 3) := by decide +kernel
theorem dX5_copyFrom_170 : decode cX5_copyFrom 170 = .ok (.iconst 0, 1) := by decide +kernel
theorem dX5_copyFrom_171 : decode cX5_copyFrom 171 = .ok (.aload_n 0, 1) := by decide +kernel
theorem dX5_copyFrom_172 : decode cX5_copyFrom 172 = .ok (.getfield 36, 3) := by decide +kernel
theorem dX5_copyFrom_175 : decode cX5_copyFrom 175 = .ok (.iconst 0, 1) := by decide +kernel
theorem dX5_copyFrom_176 : decode cX5_copyFrom 176 = .ok (.bipush 6, 2) := by decide +kernel
theorem dX5_copyFrom_178 : decode cX5_copyFrom 178 = .ok (.invokestatic 62, 3) := by decide +kernel
theorem dX5_copyFrom_181 : decode cX5_copyFrom 181 = .ok (.return_, 1) := by decide +kernel
/-! X5_countOf -/
theorem dX5_countOf_0 : decode cX5_countOf 0 = .ok (.iconst 0, 1) := by decide +kernel
theorem dX5_countOf_1 : decode cX5_countOf 1 = .ok (.istore_n 2, 1) := by decide +kernel
theorem dX5_countOf_2 : decode cX5_countOf 2 = .ok (.iconst 0, 1) := by decide +kernel
theorem dX5_countOf_3 : decode cX5_countOf 3 = .ok (.istore_n 3, 1) := by decide +kernel
theorem dX5_countOf_4 : decode cX5_countOf 4 = .ok (.iload_n 3, 1) := by decide +kernel
theorem dX5_countOf_5 : decode cX5_countOf 5 = .ok (.bipush 6, 2) := by decide +kernel
theorem dX5_countOf_7 : decode cX5_countOf 7 = .ok (.if_icmp .ge 70, 3) := by decide +kernel
theorem dX5_countOf_10 : decode cX5_countOf 10 = .ok (.aload_n 0, 1) := by decide +kernel
theorem dX5_countOf_11 : decode cX5_countOf 11 = .ok (.getfield 30, 3) := by decide +kernel
theorem dX5_countOf_14 : decode cX5_countOf 14 = .ok (.iload_n 3, 1) := by decide +kernel
theorem dX5_countOf_15 : decode cX5_countOf 15 = .ok (.iaload, 1) := by decide +kernel
theorem dX5_countOf_16 : decode cX5_countOf 16 = .ok (.istore 4, 2) := by decide +kernel
theorem dX5_countOf_18 : decode cX5_countOf 18 = .ok (.iconst 0, 1) := by decide +kernel
theorem dX5_countOf_19 : decode cX5_countOf 19 = .ok (.istore 5, 2) := by decide +kernel
theorem dX5_countOf_21 : decode cX5_countOf 21 = .ok (.iload 5, 2) := by decide +kernel
theorem dX5_countOf_23 : decode cX5_countOf 23 = .ok (.aload_n 0, 1) := by decide +kernel
theorem dX5_countOf_24 : decode cX5_countOf 24 = .ok (.getfield 36, 3) := by decide +kernel
theorem dX5_countOf_27 : decode cX5_countOf 27 = .ok (.iload_n 3, 1) := by decide +kernel
theorem dX5_countOf_28 : decode cX5_countOf 28 = .ok (.iaload, 1) := by decide +kernel
theorem dX5_countOf_29 : decode cX5_countOf 29 = .ok (.if_icmp .ge 42, 3) := by decide +kernel
theorem dX5_countOf_32 : decode cX5_countOf 32 = .ok (.iload 4, 2) := by decide +kernel
theorem dX5_countOf_34 : decode cX5_countOf 34 = .ok (.iconst (-1), 1) := by decide +kernel
theorem dX5_countOf_35 : decode cX5_countOf 35 = .ok (.if_icmp .eq 36, 3) := by decide +kernel
theorem dX5_countOf_38 : decode cX5_countOf 38 = .ok (.aload_n 0, 1) := by decide +kernel
theorem dX5_countOf_39 : decode cX5_countOf 39 = .ok (.getfield 18, 3) := by decide +kernel
theorem dX5_countOf_42 : decode cX5_countOf 42 = .ok (.iload 4, 2) := by decide +kernel
theorem dX5_countOf_44 : decode cX5_countOf 44 = .ok (.invokestatic 58, 3) := by decide +kernel
theorem dX5_countOf_47 : decode cX5_countOf 47 = .ok (.iload_n 1, 1) := by decide +kernel
theorem dX5_countOf_48 : decode cX5_countOf 48 = .ok (.if_icmp .ne 6, 3) := by decide +kernel
theorem dX5_countOf_51 : decode cX5_countOf 51 = .ok (.iinc 2 1, 3) := by decide +kernel
theorem dX5_countOf_54 : decode cX5_countOf 54 = .ok (.aload_n 0, 1) := by decide +kernel
theorem dX5_countOf_55 : decode cX5_countOf 55 = .ok (.getfield 27, 3) := by decide +kernel
theorem dX5_countOf_58 : decode cX5_countOf 58 = .ok (.iload 4, 2) := by decide +kernel
theorem dX5_countOf_60 : decode cX5_countOf 60 = .ok (.invokestatic 58, 3) := by decide +kernel
theorem dX5_countOf_63 : decode cX5_countOf 63 = .ok (.istore 4, 2) := by decide +kernel
theorem dX5_countOf_65 : decode cX5_countOf 65 = .ok (.iinc 5 1, 3) := by decide +kernel
theorem dX5_countOf_68 : decode cX5_countOf 68 = .ok (.goto (-47), 3) := by decide +kernel
theorem dX5_countOf_71 : decode cX5_countOf 71 = .ok (.iinc 3 1, 3) := by decide +kernel
theorem dX5_countOf_74 : decode cX5_countOf 74 = .ok (.goto (-70), 3) := by decide +kernel
theorem dX5_countOf_77 : decode cX5_countOf 77 = .ok (.iload_n 2, 1) := by decide +kernel
theorem dX5_countOf_78 : decode cX5_countOf 78 = .ok (.ireturn, 1) := by decide +kernel
/-! X5_dequeue -/
theorem dX5_dequeue_0 : decode cX5_dequeue 0 = .ok (.aload_n 0, 1) := by decide +kernel
theorem dX5_dequeue_1 : decode cX5_dequeue 1 = .ok (.getfield 30, 3) := by decide +kernel
theorem dX5_dequeue_4 : decode cX5_dequeue 4 = .ok (.iload_n 1, 1) := by decide +kernel
theorem dX5_dequeue_5 : decode cX5_dequeue 5 = .ok (.invokestatic 58, 3) := by decide +kernel
theorem dX5_dequeue_8 : decode cX5_dequeue 8 = .ok (.istore_n 2, 1) := by decide +kernel
theorem dX5_dequeue_9 : decode cX5_dequeue 9 = .ok (.iload_n 2, 1) := by decide +kernel
theorem dX5_dequeue_10 : decode cX5_dequeue 10 = .ok (.ifCond .lt 20, 3) := by decide +kernel
theorem dX5_dequeue_13 : decode cX5_dequeue 13 = .ok (.iload_n 2, 1) := by decide +kernel
theorem dX5_dequeue_14 : decode cX5_dequeue 14 = .ok (.sipush 300, 3) := by decide +kernel
theorem dX5_dequeue_17 : decode cX5_dequeue 17 = .ok (.if_icmp .ge 13, 3) := by decide +kernel
theorem dX5_dequeue_20 : decode cX5_dequeue 20 = .ok (.iload_n 1, 1) := by decide +kernel
theorem dX5_dequeue_21 : decode cX5_dequeue 21 = .ok (.ifCond .lt 9, 3) := by decide +kernel
theorem dX5_dequeue_24 : decode cX5_dequeue 24 = .ok (.iload_n 1, 1) := by decide +kernel
theorem dX5_dequeue_25 : decode cX5_dequeue 25 = .ok (.bipush 6, 2) := by decide +kernel
theorem dX5_dequeue_27 : decode cX5_dequeue 27 = .ok (.if_icmp .lt 4, 3) := by decide +kernel
theorem dX5_dequeue_30 : decode cX5_dequeue 30 = .ok (.return_, 1) := by decide +kernel
theorem dX5_dequeue_31 : decode cX5_dequeue 31 = .ok (.aload_n 0, 1) := by decide +kernel
theorem dX5_dequeue_32 : decode cX5_dequeue 32 = .ok (.getfield 30, 3) := by decide +kernel
theorem dX5_dequeue_35 : decode cX5_dequeue 35 = .ok (.iload_n 1, 1) := by decide +kernel
theorem dX5_dequeue_36 : decode cX5_dequeue 36 = .ok (.aload_n 0, 1) := by decide +kernel
theorem dX5_dequeue_37 : decode cX5_dequeue 37 = .ok (.getfield 27, 3) := by decide +kernel
theorem dX5_dequeue_40 : decode cX5_dequeue 40 = .ok (.iload_n 2, 1) := by decide +kernel
theorem dX5_dequeue_41 : decode cX5_dequeue 41 = .ok (.iaload, 1) := by decide +kernel
theorem dX5_dequeue_42 : decode cX5_dequeue 42 = .ok (.iastore, 1) := by decide +kernel
theorem dX5_dequeue_43 : decode cX5_dequeue 43 = .ok (.aload_n 0, 1) := by decide +kernel
theorem dX5_dequeue_44 : decode cX5_dequeue 44 = .ok (.getfield 30, 3) := by decide +kernel
theorem dX5_dequeue_47 : decode cX5_dequeue 47 = .ok (.iload_n 1, 1) := by decide +kernel
theorem dX5_dequeue_48 : decode cX5_dequeue 48 = .ok (.iaload, 1) := by decide +kernel
theorem dX5_dequeue_49 : decode cX5_dequeue 49 = .ok (.iconst (-1), 1) := by decide +kernel
theorem dX5_dequeue_50 : decode cX5_dequeue 50 = .ok (.if_icmp .ne 10, 3) := by decide +kernel
theorem dX5_dequeue_53 : decode cX5_dequeue 53 = .ok (.aload_n 0, 1) := by decide +kernel
theorem dX5_dequeue_54 : decode cX5_dequeue 54 = .ok (.getfield 33, 3) := by decide +kernel
theorem dX5_dequeue_57 : decode cX5_dequeue 57 = .ok (.iload_n 1, 1) := by decide +kernel
theorem dX5_dequeue_58 : decode cX5_dequeue 58 = .ok (.iconst (-1), 1) := by decide +kernel
theorem dX5_dequeue_59 : decode cX5_dequeue 59 = .ok (.iastore, 1) := by decide +kernel
theorem dX5_dequeue_60 : decode cX5_dequeue 60 = .ok (.aload_n 0, 1) := by decide +kernel
theorem dX5_dequeue_61 : decode cX5_dequeue 61 = .ok (.getfield 27, 3) := by decide +kernel
theorem dX5_dequeue_64 : decode cX5_dequeue 64 = .ok (.iload_n 2, 1) := by decide +kernel
theorem dX5_dequeue_65 : decode cX5_dequeue 65 = .ok (.aload_n 0, 1) := by decide +kernel
theorem dX5_dequeue_66 : decode cX5_dequeue 66 = .ok (.getfield 46, 3) := by decide +kernel
theorem dX5_dequeue_69 : decode cX5_dequeue 69 = .ok (.iastore, 1) := by decide +kernel
theorem dX5_dequeue_70 : decode cX5_dequeue 70 = .ok (.aload_n 0, 1) := by decide +kernel
theorem dX5_dequeue_71 : decode cX5_dequeue 71 = .ok (.iload_n 2, 1) := by decide +kernel
theorem dX5_dequeue_72 : decode cX5_dequeue 72 = .ok (.putfield 46, 3) := by decide +kernel
theorem dX5_dequeue_75 : decode cX5_dequeue 75 = .ok (.aload_n 0, 1) := by decide +kernel
theorem dX5_dequeue_76 : decode cX5_dequeue 76 = .ok (.getfield 36, 3) := by decide +kernel
theorem dX5_dequeue_79 : decode cX5_dequeue 79 = .ok (.iload_n 1, 1) := by decide +kernel
theorem dX5_dequeue_80 : decode cX5_dequeue 80 = .ok (.dup2, 1) := by decide +kernel
theorem dX5_dequeue_81 : decode cX5_dequeue 81 = .ok (.iaload, 1) := by decide +kernel
theorem dX5_dequeue_82 : decode cX5_dequeue 82 = .ok (.iconst 1, 1) := by decide +kernel
theorem dX5_dequeue_83 : decode cX5_dequeue 83 = .ok (.isub, 1) := by decide +kernel
theorem dX5_dequeue_84 : decode cX5_dequeue 84 = .ok (.iastore, 1) := by decide +kernel
theorem dX5_dequeue_85 : decode cX5_dequeue 85 = .ok (.aload_n 0, 1) := by decide +kernel
theorem dX5_dequeue_86 : decode cX5_dequeue 86 = .ok (.dup, 1) := by decide +kernel
theorem dX5_dequeue_87 : decode cX5_dequeue 87 = .ok (.getfield 49, 3) := by decide +kernel
theorem dX5_dequeue_90 : decode cX5_dequeue 90 = .ok (.iconst 1, 1) := by decide +kernel
theorem dX5_dequeue_91 : decode cX5_dequeue 91 = .ok (.isub, 1) := by decide +kernel
theorem dX5_dequeue_92 : decode cX5_dequeue 92 = .ok (.putfield 49, 3) := by decide +kernel
theorem dX5_dequeue_95 : decode cX5_dequeue 95 = .ok (.return_, 1) := by decide +kernel
/-! X5_dueSlot -/
theorem dX5_dueSlot_0 : decode cX5_dueSlot 0 = .ok (.aload_n 0, 1) := by decide +kernel
theorem dX5_dueSlot_1 : decode cX5_dueSlot 1 = .ok (.getfield 30, 3) := by decide +kernel
theorem dX5_dueSlot_4 : decode cX5_dueSlot 4 = .ok (.iload_n 1, 1) := by decide +kernel
theorem dX5_dueSlot_5 : decode cX5_dueSlot 5 = .ok (.invokestatic 58, 3) := by decide +kernel
theorem dX5_dueSlot_8 : decode cX5_dueSlot 8 = .ok (.istore_n 3, 1) := by decide +kernel
theorem dX5_dueSlot_9 : decode cX5_dueSlot 9 = .ok (.iload_n 3, 1) := by decide +kernel
theorem dX5_dueSlot_10 : decode cX5_dueSlot 10 = .ok (.iconst (-1), 1) := by decide +kernel
theorem dX5_dueSlot_11 : decode cX5_dueSlot 11 = .ok (.if_icmp .eq 19, 3) := by decide +kernel
theorem dX5_dueSlot_14 : decode cX5_dueSlot 14 = .ok (.aload_n 0, 1) := by decide +kernel
theorem dX5_dueSlot_15 : decode cX5_dueSlot 15 = .ok (.getfield 9, 3) := by decide +kernel
theorem dX5_dueSlot_18 : decode cX5_dueSlot 18 = .ok (.iload_n 3, 1) := by decide +kernel
theorem dX5_dueSlot_19 : decode cX5_dueSlot 19 = .ok (.invokestatic 58, 3) := by decide +kernel
theorem dX5_dueSlot_22 : decode cX5_dueSlot 22 = .ok (.iload_n 2, 1) := by decide +kernel
theorem dX5_dueSlot_23 : decode cX5_dueSlot 23 = .ok (.if_icmp .gt 7, 3) := by decide +kernel
theorem dX5_dueSlot_26 : decode cX5_dueSlot 26 = .ok (.iload_n 3, 1) := by decide +kernel
theorem dX5_dueSlot_27 : decode cX5_dueSlot 27 = .ok (.goto 4, 3) := by decide +kernel
theorem dX5_dueSlot_30 : decode cX5_dueSlot 30 = .ok (.iconst (-1), 1) := by decide +kernel
theorem dX5_dueSlot_31 : decode cX5_dueSlot 31 = .ok (.ireturn, 1) := by decide +kernel
/-! X5_enqueue -/
theorem dX5_enqueue_0 : decode cX5_enqueue 0 = .ok (.aload_n 0, 1) := by decide +kernel
theorem dX5_enqueue_1 : decode cX5_enqueue 1 = .ok (.getfield 46, 3) := by decide +kernel
theorem dX5_enqueue_4 : decode cX5_enqueue 4 = .ok (.iconst (-1), 1) := by decide +kernel
theorem dX5_enqueue_5 : decode cX5_enqueue 5 = .ok (.if_icmp .ne 10, 3) := by decide +kernel
theorem dX5_enqueue_8 : decode cX5_enqueue 8 = .ok (.aload_n 0, 1) := by decide +kernel
theorem dX5_enqueue_9 : decode cX5_enqueue 9 = .ok (.getfield 42, 3) := by decide +kernel
theorem dX5_enqueue_12 : decode cX5_enqueue 12 = .ok (.goto 7, 3) := by decide +kernel
theorem dX5_enqueue_15 : decode cX5_enqueue 15 = .ok (.aload_n 0, 1) := by decide +kernel
theorem dX5_enqueue_16 : decode cX5_enqueue 16 = .ok (.getfield 46, 3) := by decide +kernel
theorem dX5_enqueue_19 : decode cX5_enqueue 19 = .ok (.istore 6, 2) := by decide +kernel
theorem dX5_enqueue_21 : decode cX5_enqueue 21 = .ok (.iload 6, 2) := by decide +kernel
theorem dX5_enqueue_23 : decode cX5_enqueue 23 = .ok (.ifCond .lt 21, 3) := by decide +kernel
theorem dX5_enqueue_26 : decode cX5_enqueue 26 = .ok (.iload 6, 2) := by decide +kernel
theorem dX5_enqueue_28 : decode cX5_enqueue 28 = .ok (.sipush 300, 3) := by decide +kernel
theorem dX5_enqueue_31 : decode cX5_enqueue 31 = .ok (.if_icmp .ge 13, 3) := by decide +kernel
theorem dX5_enqueue_34 : decode cX5_enqueue 34 = .ok (.iload_n 1, 1) := by decide +kernel
theorem dX5_enqueue_35 : decode cX5_enqueue 35 = .ok (.ifCond .lt 9, 3) := by decide +kernel
theorem dX5_enqueue_38 : decode cX5_enqueue 38 = .ok (.iload_n 1, 1) := by decide +kernel
theorem dX5_enqueue_39 : decode cX5_enqueue 39 = .ok (.bipush 6, 2) := by decide +kernel
theorem dX5_enqueue_41 : decode cX5_enqueue 41 = .ok (.if_icmp .lt 4, 3) := by decide +kernel
theorem dX5_enqueue_44 : decode cX5_enqueue 44 = .ok (.return_, 1) := by decide +kernel
theorem dX5_enqueue_45 : decode cX5_enqueue 45 = .ok (.aload_n 0, 1) := by decide +kernel
theorem dX5_enqueue_46 : decode cX5_enqueue 46 = .ok (.getfield 46, 3) := by decide +kernel
theorem dX5_enqueue_49 : decode cX5_enqueue 49 = .ok (.iconst (-1), 1) := by decide +kernel
theorem dX5_enqueue_50 : decode cX5_enqueue 50 = .ok (.if_icmp .ne 16, 3) := by decide +kernel
theorem dX5_enqueue_53 : decode cX5_enqueue 53 = .ok (.aload_n 0, 1) := by decide +kernel
theorem dX5_enqueue_54 : decode cX5_enqueue 54 = .ok (.dup, 1) := by decide +kernel
theorem dX5_enqueue_55 : decode cX5_enqueue 55 = .ok (.getfield 42, 3) := by decide +kernel
theorem dX5_enqueue_58 : decode cX5_enqueue 58 = .ok (.iconst 1, 1) := by decide +kernel
theorem dX5_enqueue_59 : decode cX5_enqueue 59 = .ok (.iadd, 1) := by decide +kernel
theorem dX5_enqueue_60 : decode cX5_enqueue 60 = .ok (.putfield 42, 3) := by decide +kernel
theorem dX5_enqueue_63 : decode cX5_enqueue 63 = .ok (.goto 14, 3) := by decide +kernel
theorem dX5_enqueue_66 : decode cX5_enqueue 66 = .ok (.aload_n 0, 1) := by decide +kernel
theorem dX5_enqueue_67 : decode cX5_enqueue 67 = .ok (.aload_n 0, 1) := by decide +kernel
theorem dX5_enqueue_68 : decode cX5_enqueue 68 = .ok (.getfield 27, 3) := by decide +kernel
theorem dX5_enqueue_71 : decode cX5_enqueue 71 = .ok (.iload 6, 2) := by decide +kernel
theorem dX5_enqueue_73 : decode cX5_enqueue 73 = .ok (.iaload, 1) := by decide +kernel
theorem dX5_enqueue_74 : decode cX5_enqueue 74 = .ok (.putfield 46, 3) := by decide +kernel
theorem dX5_enqueue_77 : decode cX5_enqueue 77 = .ok (.aload_n 0, 1) := by decide +kernel
theorem dX5_enqueue_78 : decode cX5_enqueue 78 = .ok (.getfield 9, 3) := by decide +kernel
theorem dX5_enqueue_81 : decode cX5_enqueue 81 = .ok (.iload 6, 2) := by decide +kernel
theorem dX5_enqueue_83 : decode cX5_enqueue 83 = .ok (.iload_n 2, 1) := by decide +kernel
theorem dX5_enqueue_84 : decode cX5_enqueue 84 = .ok (.iastore, 1) := by decide +kernel
theorem dX5_enqueue_85 : decode cX5_enqueue 85 = .ok (.aload_n 0, 1) := by decide +kernel
theorem dX5_enqueue_86 : decode cX5_enqueue 86 = .ok (.getfield 15, 3) := by decide +kernel
theorem dX5_enqueue_89 : decode cX5_enqueue 89 = .ok (.iload 6, 2) := by decide +kernel
theorem dX5_enqueue_91 : decode cX5_enqueue 91 = .ok (.iload_n 1, 1) := by decide +kernel
theorem dX5_enqueue_92 : decode cX5_enqueue 92 = .ok (.iastore, 1) := by decide +kernel
theorem dX5_enqueue_93 : decode cX5_enqueue 93 = .ok (.aload_n 0, 1) := by decide +kernel
theorem dX5_enqueue_94 : decode cX5_enqueue 94 = .ok (.getfield 18, 3) := by decide +kernel
theorem dX5_enqueue_97 : decode cX5_enqueue 97 = .ok (.iload 6, 2) := by decide +kernel
theorem dX5_enqueue_99 : decode cX5_enqueue 99 = .ok (.iload_n 3, 1) := by decide +kernel
theorem dX5_enqueue_100 : decode cX5_enqueue 100 = .ok (.iastore, 1) := by decide +kernel
theorem dX5_enqueue_101 : decode cX5_enqueue 101 = .ok (.aload_n 0, 1) := by decide +kernel
theorem dX5_enqueue_102 : decode cX5_enqueue 102 = .ok (.getfield 21, 3) := by decide +kernel
theorem dX5_enqueue_105 : decode cX5_enqueue 105 = .ok (.iload 6, 2) := by decide +kernel
theorem dX5_enqueue_107 : decode cX5_enqueue 107 = .ok (.iload 4, 2) := by decide +kernel
theorem dX5_enqueue_109 : decode cX5_enqueue 109 = .ok (.iastore, 1) := by decide +kernel
theorem dX5_enqueue_110 : decode cX5_enqueue 110 = .ok (.aload_n 0, 1) := by decide +kernel
theorem dX5_enqueue_111 : decode cX5_enqueue 111 = .ok (.getfield 24, 3) := by decide +kernel
theorem dX5_enqueue_114 : decode cX5_enqueue 114 = .ok (.iload 6, 2) := by decide +kernel
theorem dX5_enqueue_116 : decode cX5_enqueue 116 = .ok (.iload 5, 2) := by decide +kernel
theorem dX5_enqueue_118 : decode cX5_enqueue 118 = .ok (.iastore, 1) := by decide +kernel
theorem dX5_enqueue_119 : decode cX5_enqueue 119 = .ok (.aload_n 0, 1) := by decide +kernel
theorem dX5_enqueue_120 : decode cX5_enqueue 120 = .ok (.getfield 27, 3) := by decide +kernel
theorem dX5_enqueue_123 : decode cX5_enqueue 123 = .ok (.iload 6, 2) := by decide +kernel
theorem dX5_enqueue_125 : decode cX5_enqueue 125 = .ok (.iconst (-1), 1) := by decide +kernel
theorem dX5_enqueue_126 : decode cX5_enqueue 126 = .ok (.iastore, 1) := by decide +kernel
theorem dX5_enqueue_127 : decode cX5_enqueue 127 = .ok (.aload_n 0, 1) := by decide +kernel
theorem dX5_enqueue_128 : decode cX5_enqueue 128 = .ok (.getfield 33, 3) := by decide +kernel
theorem dX5_enqueue_131 : decode cX5_enqueue 131 = .ok (.iload_n 1, 1) := by decide +kernel
theorem dX5_enqueue_132 : decode cX5_enqueue 132 = .ok (.iaload, 1) := by decide +kernel
theorem dX5_enqueue_133 : decode cX5_enqueue 133 = .ok (.istore 7, 2) := by decide +kernel
theorem dX5_enqueue_135 : decode cX5_enqueue 135 = .ok (.iload 7, 2) := by decide +kernel
theorem dX5_enqueue_137 : decode cX5_enqueue 137 = .ok (.ifCond .lt 23, 3) := by decide +kernel
theorem dX5_enqueue_140 : decode cX5_enqueue 140 = .ok (.iload 7, 2) := by decide +kernel
theorem dX5_enqueue_142 : decode cX5_enqueue 142 = .ok (.sipush 300, 3) := by decide +kernel
theorem dX5_enqueue_145 : decode cX5_enqueue 145 = .ok (.if_icmp .ge 15, 3) := by decide +kernel
theorem dX5_enqueue_148 : decode cX5_enqueue 148 = .ok (.aload_n 0, 1) := by decide +kernel
theorem dX5_enqueue_149 : decode cX5_enqueue 149 = .ok (.getfield 27, 3) := by decide +kernel
theorem dX5_enqueue_152 : decode cX5_enqueue 152 = .ok (.iload 7, 2) := by decide +kernel
theorem dX5_enqueue_154 : decode cX5_enqueue 154 = .ok (.iload 6, 2) := by decide +kernel
theorem dX5_enqueue_156 : decode cX5_enqueue 156 = .ok (.iastore, 1) := by decide +kernel
theorem dX5_enqueue_157 : decode cX5_enqueue 157 = .ok (.goto 11, 3) := by decide +kernel
theorem dX5_enqueue_160 : decode cX5_enqueue 160 = .ok (.aload_n 0, 1) := by decide +kernel
theorem dX5_enqueue_161 : decode cX5_enqueue 161 = .ok (.getfield 30, 3) := by decide +kernel
theorem dX5_enqueue_164 : decode cX5_enqueue 164 = .ok (.iload_n 1, 1) := by decide +kernel
theorem dX5_enqueue_165 : decode cX5_enqueue 165 = .ok (.iload 6, 2) := by decide +kernel
theorem dX5_enqueue_167 : decode cX5_enqueue 167 = .ok (.iastore, 1) := by decide +kernel
theorem dX5_enqueue_168 : decode cX5_enqueue 168 = .ok (.aload_n 0, 1) := by decide +kernel
theorem dX5_enqueue_169 : decode cX5_enqueue 169 = .ok (.getfield 33, 3) := by decide +kernel
theorem dX5_enqueue_172 : decode cX5_enqueue 172 = .ok (.iload_n 1, 1) := by decide +kernel
theorem dX5_enqueue_173 : decode cX5_enqueue 173 = .ok (.iload 6, 2) := by decide +kernel
theorem dX5_enqueue_175 : decode cX5_enqueue 175 = .ok (.iastore, 1) := by decide +kernel
theorem dX5_enqueue_176 : decode cX5_enqueue 176 = .ok (.aload_n 0, 1) := by decide +kernel
theorem dX5_enqueue_177 : decode cX5_enqueue 177 = .ok (.getfield 36, 3) := by decide +kernel
theorem dX5_enqueue_180 : decode cX5_enqueue 180 = .ok (.iload_n 1, 1) := by decide +kernel
theorem dX5_enqueue_181 : decode cX5_enqueue 181 = .ok (.dup2, 1) := by decide +kernel
theorem dX5_enqueue_182 : decode cX5_enqueue 182 = .ok (.iaload, 1) := by decide +kernel
theorem dX5_enqueue_183 : decode cX5_enqueue 183 = .ok (.iconst 1, 1) := by decide +kernel
theorem dX5_enqueue_184 : decode cX5_enqueue 184 = .ok (.iadd, 1) := by decide +kernel
theorem dX5_enqueue_185 : decode cX5_enqueue 185 = .ok (.iastore, 1) := by decide +kernel
theorem dX5_enqueue_186 : decode cX5_enqueue 186 = .ok (.aload_n 0, 1) := by decide +kernel
theorem dX5_enqueue_187 : decode cX5_enqueue 187 = .ok (.dup, 1) := by decide +kernel
theorem dX5_enqueue_188 : decode cX5_enqueue 188 = .ok (.getfield 49, 3) := by decide +kernel
theorem dX5_enqueue_191 : decode cX5_enqueue 191 = .ok (.iconst 1, 1) := by decide +kernel
theorem dX5_enqueue_192 : decode cX5_enqueue 192 = .ok (.iadd, 1) := by decide +kernel
theorem dX5_enqueue_193 : decode cX5_enqueue 193 = .ok (.putfield 49, 3) := by decide +kernel
theorem dX5_enqueue_196 : decode cX5_enqueue 196 = .ok (.return_, 1) := by decide +kernel
/-! X5_init -/
theorem dX5_init_0 : decode cX5_init 0 = .ok (.aload_n 0, 1) := by decide +kernel
theorem dX5_init_1 : decode cX5_init 1 = .ok (.invokespecial 3, 3) := by decide +kernel
theorem dX5_init_4 : decode cX5_init 4 = .ok (.aload_n 0, 1) := by decide +kernel
theorem dX5_init_5 : decode cX5_init 5 = .ok (.sipush 300, 3) := by decide +kernel
theorem dX5_init_8 : decode cX5_init 8 = .ok (.newarray .int, 2) := by decide +kernel
theorem dX5_init_10 : decode cX5_init 10 = .ok (.putfield 9, 3) := by decide +kernel
theorem dX5_init_13 : decode cX5_init 13 = .ok (.aload_n 0, 1) := by decide +kernel
theorem dX5_init_14 : decode cX5_init 14 = .ok (.sipush 300, 3) := by decide +kernel
theorem dX5_init_17 : decode cX5_init 17 = .ok (.newarray .int, 2) := by decide +kernel
theorem dX5_init_19 : decode cX5_init 19 = .ok (.putfield 15, 3) := by decide +kernel
theorem dX5_init_22 : decode cX5_init 22 = .ok (.aload_n 0, 1) := by decide +kernel
theorem dX5_init_23 : decode cX5_init 23 = .ok (.sipush 300, 3) := by decide +kernel
theorem dX5_init_26 : decode cX5_init 26 = .ok (.newarray .int, 2) := by decide +kernel
theorem dX5_init_28 : decode cX5_init 28 = .ok (.putfield 18, 3) := by decide +kernel
theorem dX5_init_31 : decode cX5_init 31 = .ok (.aload_n 0, 1) := by decide +kernel
theorem dX5_init_32 : decode cX5_init 32 = .ok (.sipush 300, 3) := by decide +kernel
theorem dX5_init_35 : decode cX5_init 35 = .ok (.newarray .int, 2) := by decide +kernel
theorem dX5_init_37 : decode cX5_init 37 = .ok (.putfield 21, 3) := by decide +kernel
theorem dX5_init_40 : decode cX5_init 40 = .ok (.aload_n 0, 1) := by decide +kernel
theorem dX5_init_41 : decode cX5_init 41 = .ok (.sipush 300, 3) := by decide +kernel
theorem dX5_init_44 : decode cX5_init 44 = .ok (.newarray .int, 2) := by decide +kernel
theorem dX5_init_46 : decode cX5_init 46 = .ok (.putfield 24, 3) := by decide +kernel
theorem dX5_init_49 : decode cX5_init 49 = .ok (.aload_n 0, 1) := by decide +kernel
theorem dX5_init_50 : decode cX5_init 50 = .ok (.sipush 300, 3) := by decide +kernel
theorem dX5_init_53 : decode cX5_init 53 = .ok (.newarray .int, 2) := by decide +kernel
theorem dX5_init_55 : decode cX5_init 55 = .ok (.putfield 27, 3) := by decide +kernel
theorem dX5_init_58 : decode cX5_init 58 = .ok (.aload_n 0, 1) := by decide +kernel
theorem dX5_init_59 : decode cX5_init 59 = .ok (.bipush 6, 2) := by decide +kernel
theorem dX5_init_61 : decode cX5_init 61 = .ok (.newarray .int, 2) := by decide +kernel
theorem dX5_init_63 : decode cX5_init 63 = .ok (.putfield 30, 3) := by decide +kernel
theorem dX5_init_66 : decode cX5_init 66 = .ok (.aload_n 0, 1) := by decide +kernel
theorem dX5_init_67 : decode cX5_init 67 = .ok (.bipush 6, 2) := by decide +kernel
theorem dX5_init_69 : decode cX5_init 69 = .ok (.newarray .int, 2) := by decide +kernel
theorem dX5_init_71 : decode cX5_init 71 = .ok (.putfield 33, 3) := by decide +kernel
theorem dX5_init_74 : decode cX5_init 74 = .ok (.aload_n 0, 1) := by decide +kernel
theorem dX5_init_75 : decode cX5_init 75 = .ok (.bipush 6, 2) := by decide +kernel
theorem dX5_init_77 : decode cX5_init 77 = .ok (.newarray .int, 2) := by decide +kernel
theorem dX5_init_79 : decode cX5_init 79 = .ok (.putfield 36, 3) := by decide +kernel
theorem dX5_init_82 : decode cX5_init 82 = .ok (.aload_n 0, 1) := by decide +kernel
theorem dX5_init_83 : decode cX5_init 83 = .ok (.bipush 6, 2) := by decide +kernel
theorem dX5_init_85 : decode cX5_init 85 = .ok (.newarray .int, 2) := by decide +kernel
theorem dX5_init_87 : decode cX5_init 87 = .ok (.putfield 39, 3) := by decide +kernel
theorem dX5_init_90 : decode cX5_init 90 = .ok (.aload_n 0, 1) := by decide +kernel
theorem dX5_init_91 : decode cX5_init 91 = .ok (.iconst 0, 1) := by decide +kernel
theorem dX5_init_92 : decode cX5_init 92 = .ok (.putfield 42, 3) := by decide +kernel
theorem dX5_init_95 : decode cX5_init 95 = .ok (.aload_n 0, 1) := by decide +kernel
theorem dX5_init_96 : decode cX5_init 96 = .ok (.iconst (-1), 1) := by decide +kernel
theorem dX5_init_97 : decode cX5_init 97 = .ok (.putfield 46, 3) := by decide +kernel
theorem dX5_init_100 : decode cX5_init 100 = .ok (.aload_n 0, 1) := by decide +kernel
theorem dX5_init_101 : decode cX5_init 101 = .ok (.iconst 0, 1) := by decide +kernel
theorem dX5_init_102 : decode cX5_init 102 = .ok (.putfield 49, 3) := by decide +kernel
theorem dX5_init_105 : decode cX5_init 105 = .ok (.aload_n 0, 1) := by decide +kernel
theorem dX5_init_106 : decode cX5_init 106 = .ok (.getfield 30, 3) := by decide +kernel
theorem dX5_init_109 : decode cX5_init 109 = .ok (.iconst (-1), 1) := by decide +kernel
theorem dX5_init_110 : decode cX5_init 110 = .ok (.invokestatic 52, 3) := by decide +kernel
theorem dX5_init_113 : decode cX5_init 113 = .ok (.aload_n 0, 1) := by decide +kernel
theorem dX5_init_114 : decode cX5_init 114 = .ok (.getfield 33, 3) := by decide +kernel
theorem dX5_init_117 : decode cX5_init 117 = .ok (.iconst (-1), 1) := by decide +kernel
theorem dX5_init_118 : decode cX5_init 118 = .ok (.invokestatic 52, 3) := by decide +kernel
theorem dX5_init_121 : decode cX5_init 121 = .ok (.return_, 1) := by decide +kernel
/-! X5_isFull -/
theorem dX5_isFull_0 : decode cX5_isFull 0 = .ok (.aload_n 0, 1) := by decide +kernel
theorem dX5_isFull_1 : decode cX5_isFull 1 = .ok (.getfield 49, 3) := by decide +kernel
theorem dX5_isFull_4 : decode cX5_isFull 4 = .ok (.sipush 300, 3) := by decide +kernel
theorem dX5_isFull_7 : decode cX5_isFull 7 = .ok (.if_icmp .lt 7, 3) := by decide +kernel
theorem dX5_isFull_10 : decode cX5_isFull 10 = .ok (.iconst 1, 1) := by decide +kernel
theorem dX5_isFull_11 : decode cX5_isFull 11 = .ok (.goto 4, 3) := by decide +kernel
theorem dX5_isFull_14 : decode cX5_isFull 14 = .ok (.iconst 0, 1) := by decide +kernel
theorem dX5_isFull_15 : decode cX5_isFull 15 = .ok (.ireturn, 1) := by decide +kernel
/-! X5_slotInOrder -/
theorem dX5_slotInOrder_0 : decode cX5_slotInOrder 0 = .ok (.iload_n 1, 1) := by decide +kernel
theorem dX5_slotInOrder_1 : decode cX5_slotInOrder 1 = .ok (.ifCond .lt 11, 3) := by decide +kernel
theorem dX5_slotInOrder_4 : decode cX5_slotInOrder 4 = .ok (.iload_n 1, 1) := by decide +kernel
theorem dX5_slotInOrder_5 : decode cX5_slotInOrder 5 = .ok (.aload_n 0, 1) := by decide +kernel
theorem dX5_slotInOrder_6 : decode cX5_slotInOrder 6 = .ok (.getfield 49, 3) := by decide +kernel
theorem dX5_slotInOrder_9 : decode cX5_slotInOrder 9 = .ok (.if_icmp .lt 5, 3) := by decide +kernel
theorem dX5_slotInOrder_12 : decode cX5_slotInOrder 12 = .ok (.iconst (-1), 1) := by decide +kernel
theorem dX5_slotInOrder_13 : decode cX5_slotInOrder 13 = .ok (.ireturn, 1) := by decide +kernel
theorem dX5_slotInOrder_14 : decode cX5_slotInOrder 14 = .ok (.aload_n 0, 1) := by decide +kernel
theorem dX5_slotInOrder_15 : decode cX5_slotInOrder 15 = .ok (.getfield 30, 3) := by decide +kernel
theorem dX5_slotInOrder_18 : decode cX5_slotInOrder 18 = .ok (.iconst 0, 1) := by decide +kernel
theorem dX5_slotInOrder_19 : decode cX5_slotInOrder 19 = .ok (.aload_n 0, 1) := by decide +kernel
theorem dX5_slotInOrder_20 : decode cX5_slotInOrder 20 = .ok (.getfield 39, 3) := by decide +kernel
theorem dX5_slotInOrder_23 : decode cX5_slotInOrder 23 = .ok (.iconst 0, 1) := by decide +kernel
theorem dX5_slotInOrder_24 : decode cX5_slotInOrder 24 = .ok (.bipush 6, 2) := by decide +kernel
theorem dX5_slotInOrder_26 : decode cX5_slotInOrder 26 = .ok (.invokestatic 62, 3) := by decide +kernel
theorem dX5_slotInOrder_29 : decode cX5_slotInOrder 29 = .ok (.iconst (-1), 1) := by decide +kernel
theorem dX5_slotInOrder_30 : decode cX5_slotInOrder 30 = .ok (.istore_n 2, 1) := by decide +kernel
theorem dX5_slotInOrder_31 : decode cX5_slotInOrder 31 = .ok (.iconst 0, 1) := by decide +kernel
theorem dX5_slotInOrder_32 : decode cX5_slotInOrder 32 = .ok (.istore_n 3, 1) := by decide +kernel
theorem dX5_slotInOrder_33 : decode cX5_slotInOrder 33 = .ok (.iload_n 3, 1) := by decide +kernel
theorem dX5_slotInOrder_34 : decode cX5_slotInOrder 34 = .ok (.iload_n 1, 1) := by decide +kernel
theorem dX5_slotInOrder_35 : decode cX5_slotInOrder 35 = .ok (.if_icmp .gt 49, 3) := by decide +kernel
theorem dX5_slotInOrder_38 : decode cX5_slotInOrder 38 = .ok (.iload_n 3, 1) := by decide +kernel
theorem dX5_slotInOrder_39 : decode cX5_slotInOrder 39 = .ok (.sipush 300, 3) := by decide +kernel
theorem dX5_slotInOrder_42 : decode cX5_slotInOrder 42 = .ok (.if_icmp .ge 42, 3) := by decide +kernel
theorem dX5_slotInOrder_45 : decode cX5_slotInOrder 45 = .ok (.aload_n 0, 1) := by decide +kernel
theorem dX5_slotInOrder_46 : decode cX5_slotInOrder 46 = .ok (.invokevirtual 68, 3) := by decide +kernel
theorem dX5_slotInOrder_49 : decode cX5_slotInOrder 49 = .ok (.istore 4, 2) := by decide +kernel
theorem dX5_slotInOrder_51 : decode cX5_slotInOrder 51 = .ok (.aload_n 0, 1) := by decide +kernel
theorem dX5_slotInOrder_52 : decode cX5_slotInOrder 52 = .ok (.getfield 39, 3) := by decide +kernel
theorem dX5_slotInOrder_55 : decode cX5_slotInOrder 55 = .ok (.iload 4, 2) := by decide +kernel
theorem dX5_slotInOrder_57 : decode cX5_slotInOrder 57 = .ok (.invokestatic 58, 3) := by decide +kernel
theorem dX5_slotInOrder_60 : decode cX5_slotInOrder 60 = .ok (.istore_n 2, 1) := by decide +kernel
theorem dX5_slotInOrder_61 : decode cX5_slotInOrder 61 = .ok (.aload_n 0, 1) := by decide +kernel
theorem dX5_slotInOrder_62 : decode cX5_slotInOrder 62 = .ok (.getfield 39, 3) := by decide +kernel
theorem dX5_slotInOrder_65 : decode cX5_slotInOrder 65 = .ok (.iload 4, 2) := by decide +kernel
theorem dX5_slotInOrder_67 : decode cX5_slotInOrder 67 = .ok (.aload_n 0, 1) := by decide +kernel
theorem dX5_slotInOrder_68 : decode cX5_slotInOrder 68 = .ok (.getfield 27, 3) := by decide +kernel
theorem dX5_slotInOrder_71 : decode cX5_slotInOrder 71 = .ok (.iload_n 2, 1) := by decide +kernel
theorem dX5_slotInOrder_72 : decode cX5_slotInOrder 72 = .ok (.invokestatic 58, 3) := by decide +kernel
theorem dX5_slotInOrder_75 : decode cX5_slotInOrder 75 = .ok (.invokestatic 72, 3) := by decide +kernel
theorem dX5_slotInOrder_78 : decode cX5_slotInOrder 78 = .ok (.iinc 3 1, 3) := by decide +kernel
theorem dX5_slotInOrder_81 : decode cX5_slotInOrder 81 = .ok (.goto (-48), 3) := by decide +kernel
theorem dX5_slotInOrder_84 : decode cX5_slotInOrder 84 = .ok (.iload_n 2, 1) := by decide +kernel
theorem dX5_slotInOrder_85 : decode cX5_slotInOrder 85 = .ok (.ireturn, 1) := by decide +kernel
/-! X5_soonestCursor -/
theorem dX5_soonestCursor_0 : decode cX5_soonestCursor 0 = .ok (.iconst (-1), 1) := by decide +kernel
theorem dX5_soonestCursor_1 : decode cX5_soonestCursor 1 = .ok (.istore_n 1, 1) := by decide +kernel
theorem dX5_soonestCursor_2 : decode cX5_soonestCursor 2 = .ok (.iconst 0, 1) := by decide +kernel
theorem dX5_soonestCursor_3 : decode cX5_soonestCursor 3 = .ok (.istore_n 2, 1) := by decide +kernel
theorem dX5_soonestCursor_4 : decode cX5_soonestCursor 4 = .ok (.iload_n 2, 1) := by decide +kernel
theorem dX5_soonestCursor_5 : decode cX5_soonestCursor 5 = .ok (.bipush 6, 2) := by decide +kernel
theorem dX5_soonestCursor_7 : decode cX5_soonestCursor 7 = .ok (.if_icmp .ge 57, 3) := by decide +kernel
theorem dX5_soonestCursor_10 : decode cX5_soonestCursor 10 = .ok (.aload_n 0, 1) := by decide +kernel
theorem dX5_soonestCursor_11 : decode cX5_soonestCursor 11 = .ok (.getfield 39, 3) := by decide +kernel
theorem dX5_soonestCursor_14 : decode cX5_soonestCursor 14 = .ok (.iload_n 2, 1) := by decide +kernel
theorem dX5_soonestCursor_15 : decode cX5_soonestCursor 15 = .ok (.iaload, 1) := by decide +kernel
theorem dX5_soonestCursor_16 : decode cX5_soonestCursor 16 = .ok (.iconst (-1), 1) := by decide +kernel
theorem dX5_soonestCursor_17 : decode cX5_soonestCursor 17 = .ok (.if_icmp .eq 41, 3) := by decide +kernel
theorem dX5_soonestCursor_20 : decode cX5_soonestCursor 20 = .ok (.iload_n 1, 1) := by decide +kernel
theorem dX5_soonestCursor_21 : decode cX5_soonestCursor 21 = .ok (.iconst (-1), 1) := by decide +kernel
theorem dX5_soonestCursor_22 : decode cX5_soonestCursor 22 = .ok (.if_icmp .eq 34, 3) := by decide +kernel
theorem dX5_soonestCursor_25 : decode cX5_soonestCursor 25 = .ok (.aload_n 0, 1) := by decide +kernel
theorem dX5_soonestCursor_26 : decode cX5_soonestCursor 26 = .ok (.getfield 9, 3) := by decide +kernel
theorem dX5_soonestCursor_29 : decode cX5_soonestCursor 29 = .ok (.aload_n 0, 1) := by decide +kernel
theorem dX5_soonestCursor_30 : decode cX5_soonestCursor 30 = .ok (.getfield 39, 3) := by decide +kernel
theorem dX5_soonestCursor_33 : decode cX5_soonestCursor 33 = .ok (.iload_n 2, 1) := by decide +kernel
theorem dX5_soonestCursor_34 : decode cX5_soonestCursor 34 = .ok (.iaload, 1) := by decide +kernel
theorem dX5_soonestCursor_35 : decode cX5_soonestCursor 35 = .ok (.invokestatic 58, 3) := by decide +kernel
theorem dX5_soonestCursor_38 : decode cX5_soonestCursor 38 = .ok (.aload_n 0, 1) := by decide +kernel
theorem dX5_soonestCursor_39 : decode cX5_soonestCursor 39 = .ok (.getfield 9, 3) := by decide +kernel
theorem dX5_soonestCursor_42 : decode cX5_soonestCursor 42 = .ok (.aload_n 0, 1) := by decide +kernel
theorem dX5_soonestCursor_43 : decode cX5_soonestCursor 43 = .ok (.getfield 39, 3) := by decide +kernel
theorem dX5_soonestCursor_46 : decode cX5_soonestCursor 46 = .ok (.iload_n 1, 1) := by decide +kernel
theorem dX5_soonestCursor_47 : decode cX5_soonestCursor 47 = .ok (.invokestatic 58, 3) := by decide +kernel
theorem dX5_soonestCursor_50 : decode cX5_soonestCursor 50 = .ok (.invokestatic 58, 3) := by decide +kernel
theorem dX5_soonestCursor_53 : decode cX5_soonestCursor 53 = .ok (.if_icmp .ge 5, 3) := by decide +kernel
theorem dX5_soonestCursor_56 : decode cX5_soonestCursor 56 = .ok (.iload_n 2, 1) := by decide +kernel
theorem dX5_soonestCursor_57 : decode cX5_soonestCursor 57 = .ok (.istore_n 1, 1) := by decide +kernel
theorem dX5_soonestCursor_58 : decode cX5_soonestCursor 58 = .ok (.iinc 2 1, 3) := by decide +kernel
theorem dX5_soonestCursor_61 : decode cX5_soonestCursor 61 = .ok (.goto (-57), 3) := by decide +kernel
theorem dX5_soonestCursor_64 : decode cX5_soonestCursor 64 = .ok (.iload_n 1, 1) := by decide +kernel
theorem dX5_soonestCursor_65 : decode cX5_soonestCursor 65 = .ok (.ireturn, 1) := by decide +kernel
/-! X5_waitingOn -/
theorem dX5_waitingOn_0 : decode cX5_waitingOn 0 = .ok (.aload_n 0, 1) := by decide +kernel
theorem dX5_waitingOn_1 : decode cX5_waitingOn 1 = .ok (.getfield 36, 3) := by decide +kernel
theorem dX5_waitingOn_4 : decode cX5_waitingOn 4 = .ok (.iload_n 1, 1) := by decide +kernel
theorem dX5_waitingOn_5 : decode cX5_waitingOn 5 = .ok (.invokestatic 58, 3) := by decide +kernel
theorem dX5_waitingOn_8 : decode cX5_waitingOn 8 = .ok (.ireturn, 1) := by decide +kernel
/-! J9_floorMod_7cf53 -/
theorem dJ9_floorMod_7cf53_0 : decode cJ9_floorMod_7cf53 0 = .ok (.iload_n 0, 1) := by decide +kernel
theorem dJ9_floorMod_7cf53_1 : decode cJ9_floorMod_7cf53 1 = .ok (.iload_n 1, 1) := by decide +kernel
theorem dJ9_floorMod_7cf53_2 : decode cJ9_floorMod_7cf53 2 = .ok (.irem, 1) := by decide +kernel
theorem dJ9_floorMod_7cf53_3 : decode cJ9_floorMod_7cf53 3 = .ok (.istore_n 2, 1) := by decide +kernel
theorem dJ9_floorMod_7cf53_4 : decode cJ9_floorMod_7cf53 4 = .ok (.iload_n 0, 1) := by decide +kernel
theorem dJ9_floorMod_7cf53_5 : decode cJ9_floorMod_7cf53 5 = .ok (.iload_n 1, 1) := by decide +kernel
theorem dJ9_floorMod_7cf53_6 : decode cJ9_floorMod_7cf53 6 = .ok (.ixor, 1) := by decide +kernel
theorem dJ9_floorMod_7cf53_7 : decode cJ9_floorMod_7cf53 7 = .ok (.ifCond .ge 11, 3) := by decide +kernel
theorem dJ9_floorMod_7cf53_10 : decode cJ9_floorMod_7cf53 10 = .ok (.iload_n 2, 1) := by decide +kernel
theorem dJ9_floorMod_7cf53_11 : decode cJ9_floorMod_7cf53 11 = .ok (.ifCond .eq 7, 3) := by decide +kernel
theorem dJ9_floorMod_7cf53_14 : decode cJ9_floorMod_7cf53 14 = .ok (.iload_n 2, 1) := by decide +kernel
theorem dJ9_floorMod_7cf53_15 : decode cJ9_floorMod_7cf53 15 = .ok (.iload_n 1, 1) := by decide +kernel
theorem dJ9_floorMod_7cf53_16 : decode cJ9_floorMod_7cf53 16 = .ok (.iadd, 1) := by decide +kernel
theorem dJ9_floorMod_7cf53_17 : decode cJ9_floorMod_7cf53 17 = .ok (.ireturn, 1) := by decide +kernel
theorem dJ9_floorMod_7cf53_18 : decode cJ9_floorMod_7cf53 18 = .ok (.iload_n 2, 1) := by decide +kernel
theorem dJ9_floorMod_7cf53_19 : decode cJ9_floorMod_7cf53 19 = .ok (.ireturn, 1) := by decide +kernel
/-! J9_max_7cf53 -/
theorem dJ9_max_7cf53_0 : decode cJ9_max_7cf53 0 = .ok (.iload_n 0, 1) := by decide +kernel
theorem dJ9_max_7cf53_1 : decode cJ9_max_7cf53 1 = .ok (.iload_n 1, 1) := by decide +kernel
theorem dJ9_max_7cf53_2 : decode cJ9_max_7cf53 2 = .ok (.if_icmp .lt 7, 3) := by decide +kernel
theorem dJ9_max_7cf53_5 : decode cJ9_max_7cf53 5 = .ok (.iload_n 0, 1) := by decide +kernel
theorem dJ9_max_7cf53_6 : decode cJ9_max_7cf53 6 = .ok (.goto 4, 3) := by decide +kernel
theorem dJ9_max_7cf53_9 : decode cJ9_max_7cf53 9 = .ok (.iload_n 1, 1) := by decide +kernel
theorem dJ9_max_7cf53_10 : decode cJ9_max_7cf53 10 = .ok (.ireturn, 1) := by decide +kernel
/-! J9_min_7cf53 -/
theorem dJ9_min_7cf53_0 : decode cJ9_min_7cf53 0 = .ok (.iload_n 0, 1) := by decide +kernel
theorem dJ9_min_7cf53_1 : decode cJ9_min_7cf53 1 = .ok (.iload_n 1, 1) := by decide +kernel
theorem dJ9_min_7cf53_2 : decode cJ9_min_7cf53 2 = .ok (.if_icmp .gt 7, 3) := by decide +kernel
theorem dJ9_min_7cf53_5 : decode cJ9_min_7cf53 5 = .ok (.iload_n 0, 1) := by decide +kernel
theorem dJ9_min_7cf53_6 : decode cJ9_min_7cf53 6 = .ok (.goto 4, 3) := by decide +kernel
theorem dJ9_min_7cf53_9 : decode cJ9_min_7cf53 9 = .ok (.iload_n 1, 1) := by decide +kernel
theorem dJ9_min_7cf53_10 : decode cJ9_min_7cf53 10 = .ok (.ireturn, 1) := by decide +kernel
/-! J7_fill_53178 -/
theorem dJ7_fill_53178_0 : decode cJ7_fill_53178 0 = .ok (.iconst 0, 1) := by decide +kernel
theorem dJ7_fill_53178_1 : decode cJ7_fill_53178 1 = .ok (.istore_n 2, 1) := by decide +kernel
theorem dJ7_fill_53178_2 : decode cJ7_fill_53178 2 = .ok (.aload_n 0, 1) := by decide +kernel
theorem dJ7_fill_53178_3 : decode cJ7_fill_53178 3 = .ok (.arraylength, 1) := by decide +kernel
theorem dJ7_fill_53178_4 : decode cJ7_fill_53178 4 = .ok (.istore_n 3, 1) := by decide +kernel
theorem dJ7_fill_53178_5 : decode cJ7_fill_53178 5 = .ok (.iload_n 2, 1) := by decide +kernel
theorem dJ7_fill_53178_6 : decode cJ7_fill_53178 6 = .ok (.iload_n 3, 1) := by decide +kernel
theorem dJ7_fill_53178_7 : decode cJ7_fill_53178 7 = .ok (.if_icmp .ge 13, 3) := by decide +kernel
theorem dJ7_fill_53178_10 : decode cJ7_fill_53178 10 = .ok (.aload_n 0, 1) := by decide +kernel
theorem dJ7_fill_53178_11 : decode cJ7_fill_53178 11 = .ok (.iload_n 2, 1) := by decide +kernel
theorem dJ7_fill_53178_12 : decode cJ7_fill_53178 12 = .ok (.iload_n 1, 1) := by decide +kernel
theorem dJ7_fill_53178_13 : decode cJ7_fill_53178 13 = .ok (.iastore, 1) := by decide +kernel
theorem dJ7_fill_53178_14 : decode cJ7_fill_53178 14 = .ok (.iinc 2 1, 3) := by decide +kernel
theorem dJ7_fill_53178_17 : decode cJ7_fill_53178 17 = .ok (.goto (-12), 3) := by decide +kernel
theorem dJ7_fill_53178_20 : decode cJ7_fill_53178 20 = .ok (.return_, 1) := by decide +kernel
/-! J7_copyOf_59c91 -/
theorem dJ7_copyOf_59c91_0 : decode cJ7_copyOf_59c91 0 = .ok (.iload_n 1, 1) := by decide +kernel
theorem dJ7_copyOf_59c91_1 : decode cJ7_copyOf_59c91 1 = .ok (.aload_n 0, 1) := by decide +kernel
theorem dJ7_copyOf_59c91_2 : decode cJ7_copyOf_59c91 2 = .ok (.arraylength, 1) := by decide +kernel
theorem dJ7_copyOf_59c91_3 : decode cJ7_copyOf_59c91 3 = .ok (.if_icmp .ne 11, 3) := by decide +kernel
theorem dJ7_copyOf_59c91_6 : decode cJ7_copyOf_59c91 6 = .ok (.aload_n 0, 1) := by decide +kernel
theorem dJ7_copyOf_59c91_7 : decode cJ7_copyOf_59c91 7 = .ok (.invokevirtual 316, 3) := by decide +kernel
theorem dJ7_copyOf_59c91_10 : decode cJ7_copyOf_59c91 10 = .ok (.checkcast 317, 3) := by decide +kernel
theorem dJ7_copyOf_59c91_13 : decode cJ7_copyOf_59c91 13 = .ok (.areturn, 1) := by decide +kernel
theorem dJ7_copyOf_59c91_14 : decode cJ7_copyOf_59c91 14 = .ok (.iload_n 1, 1) := by decide +kernel
theorem dJ7_copyOf_59c91_15 : decode cJ7_copyOf_59c91 15 = .ok (.newarray .int, 2) := by decide +kernel
theorem dJ7_copyOf_59c91_17 : decode cJ7_copyOf_59c91 17 = .ok (.astore_n 2, 1) := by decide +kernel
theorem dJ7_copyOf_59c91_18 : decode cJ7_copyOf_59c91 18 = .ok (.aload_n 0, 1) := by decide +kernel
theorem dJ7_copyOf_59c91_19 : decode cJ7_copyOf_59c91 19 = .ok (.iconst 0, 1) := by decide +kernel
theorem dJ7_copyOf_59c91_20 : decode cJ7_copyOf_59c91 20 = .ok (.aload_n 2, 1) := by decide +kernel
theorem dJ7_copyOf_59c91_21 : decode cJ7_copyOf_59c91 21 = .ok (.iconst 0, 1) := by decide +kernel
theorem dJ7_copyOf_59c91_22 : decode cJ7_copyOf_59c91 22 = .ok (.aload_n 0, 1) := by decide +kernel
theorem dJ7_copyOf_59c91_23 : decode cJ7_copyOf_59c91 23 = .ok (.arraylength, 1) := by decide +kernel
theorem dJ7_copyOf_59c91_24 : decode cJ7_copyOf_59c91 24 = .ok (.iload_n 1, 1) := by decide +kernel
theorem dJ7_copyOf_59c91_25 : decode cJ7_copyOf_59c91 25 = .ok (.invokestatic 304, 3) := by decide +kernel
theorem dJ7_copyOf_59c91_28 : decode cJ7_copyOf_59c91 28 = .ok (.invokestatic 150, 3) := by decide +kernel
theorem dJ7_copyOf_59c91_31 : decode cJ7_copyOf_59c91 31 = .ok (.aload_n 2, 1) := by decide +kernel
theorem dJ7_copyOf_59c91_32 : decode cJ7_copyOf_59c91 32 = .ok (.areturn, 1) := by decide +kernel
