/-! J7_fill_53178 -/
theorem dJ7_fill_53178_0 : decode cJ7_fill_53178 0 = .ok (.iconst 0, 1) := by decide +kernel
theorem dJ7_fill_53178_1 : decode cJ7_fill_53178 1 = .ok (.istore_n 2, 1) := by decide +kernel
theorem dJ7_fill_53178_2 : decode cJ7_fill_53178 2 = .ok (.aload_n 0, 1) := by decide +kernel
theorem dJ7_fill_53178_3 : decode cJ7_fill_53178 3 = .ok (.arraylength, 1) := by decide +kernel
theorem dJ7_fill_53178_4 : decode cJ7_fill_53178 4 = .ok (.istore_n 3, 1) := by decide +kernel
theorem dJ7_fill_53178_5 : decode cJ7_fill_53178 5 = .ok (.iload_n 2, 1) := by decide +kernel
theorem dJ7_fill_53178_6 : decode cJ7_fill_53178 6 = .ok (.iload_n 3, 1) := by decide +kernel
theorem dJ7_fill_53178_7 : decode cJ7_fill_53178 7 = .ok (.if_icmp .ge 13, 3) := by decide +kernel
theorem dJ7_fill_53178_10 : decode cJ7_fill_53178 10 = .ok (.aload_n 0, 1) := by decide +kernel
theorem dJ7_fill_53178_11 : decode cJ7_fill_53178 11 = .ok (.iload_n 2, 1) := by decide +kernel
theorem dJ7_fill_53178_12 : decode cJ7_fill_53178 12 = .ok (.iload_n 1, 1) := by decide +kernel
theorem dJ7_fill_53178_13 : decode cJ7_fill_53178 13 = .ok (.iastore, 1) := by decide +kernel
theorem dJ7_fill_53178_14 : decode cJ7_fill_53178 14 = .ok (.iinc 2 1, 3) := by decide +kernel
theorem dJ7_fill_53178_17 : decode cJ7_fill_53178 17 = .ok (.goto (-12), 3) := by decide +kernel
theorem dJ7_fill_53178_20 : decode cJ7_fill_53178 20 = .ok (.return_, 1) := by decide +kernel
/-! X0_init -/
theorem dX0_init_0 : decode cX0_init 0 = .ok (.aload_n 0, 1) := by decide +kernel
theorem dX0_init_1 : decode cX0_init 1 = .ok (.invokespecial 1, 3) := by decide +kernel
theorem dX0_init_4 : decode cX0_init 4 = .ok (.aload_n 0, 1) := by decide +kernel
theorem dX0_init_5 : decode cX0_init 5 = .ok (.iconst 0, 1) := by decide +kernel
theorem dX0_init_6 : decode cX0_init 6 = .ok (.putfield 7, 3) := by decide +kernel
theorem dX0_init_9 : decode cX0_init 9 = .ok (.aload_n 0, 1) := by decide +kernel
theorem dX0_init_10 : decode cX0_init 10 = .ok (.iconst 0, 1) := by decide +kernel
theorem dX0_init_11 : decode cX0_init 11 = .ok (.putfield 13, 3) := by decide +kernel
theorem dX0_init_14 : decode cX0_init 14 = .ok (.aload_n 0, 1) := by decide +kernel
theorem dX0_init_15 : decode cX0_init 15 = .ok (.iconst 0, 1) := by decide +kernel
theorem dX0_init_16 : decode cX0_init 16 = .ok (.putfield 16, 3) := by decide +kernel
theorem dX0_init_19 : decode cX0_init 19 = .ok (.aload_n 0, 1) := by decide +kernel
theorem dX0_init_20 : decode cX0_init 20 = .ok (.iconst 0, 1) := by decide +kernel
theorem dX0_init_21 : decode cX0_init 21 = .ok (.putfield 19, 3) := by decide +kernel
theorem dX0_init_24 : decode cX0_init 24 = .ok (.aload_n 0, 1) := by decide +kernel
theorem dX0_init_25 : decode cX0_init 25 = .ok (.iconst 0, 1) := by decide +kernel
theorem dX0_init_26 : decode cX0_init 26 = .ok (.putfield 22, 3) := by decide +kernel
theorem dX0_init_29 : decode cX0_init 29 = .ok (.aload_n 0, 1) := by decide +kernel
theorem dX0_init_30 : decode cX0_init 30 = .ok (.iconst 0, 1) := by decide +kernel
theorem dX0_init_31 : decode cX0_init 31 = .ok (.putfield 25, 3) := by decide +kernel
theorem dX0_init_34 : decode cX0_init 34 = .ok (.aload_n 0, 1) := by decide +kernel
theorem dX0_init_35 : decode cX0_init 35 = .ok (.iconst 0, 1) := by decide +kernel
theorem dX0_init_36 : decode cX0_init 36 = .ok (.putfield 28, 3) := by decide +kernel
theorem dX0_init_39 : decode cX0_init 39 = .ok (.aload_n 0, 1) := by decide +kernel
theorem dX0_init_40 : decode cX0_init 40 = .ok (.iconst 0, 1) := by decide +kernel
theorem dX0_init_41 : decode cX0_init 41 = .ok (.putfield 31, 3) := by decide +kernel
theorem dX0_init_44 : decode cX0_init 44 = .ok (.aload_n 0, 1) := by decide +kernel
theorem dX0_init_45 : decode cX0_init 45 = .ok (.iconst 0, 1) := by decide +kernel
theorem dX0_init_46 : decode cX0_init 46 = .ok (.putfield 34, 3) := by decide +kernel
theorem dX0_init_49 : decode cX0_init 49 = .ok (.aload_n 0, 1) := by decide +kernel
theorem dX0_init_50 : decode cX0_init 50 = .ok (.iconst 0, 1) := by decide +kernel
theorem dX0_init_51 : decode cX0_init 51 = .ok (.putfield 37, 3) := by decide +kernel
theorem dX0_init_54 : decode cX0_init 54 = .ok (.aload_n 0, 1) := by decide +kernel
theorem dX0_init_55 : decode cX0_init 55 = .ok (.iconst 0, 1) := by decide +kernel
theorem dX0_init_56 : decode cX0_init 56 = .ok (.putfield 40, 3) := by decide +kernel
theorem dX0_init_59 : decode cX0_init 59 = .ok (.aload_n 0, 1) := by decide +kernel
theorem dX0_init_60 : decode cX0_init 60 = .ok (.iconst 0, 1) := by decide +kernel
theorem dX0_init_61 : decode cX0_init 61 = .ok (.putfield 43, 3) := by decide +kernel
theorem dX0_init_64 : decode cX0_init 64 = .ok (.aload_n 0, 1) := by decide +kernel
theorem dX0_init_65 : decode cX0_init 65 = .ok (.iconst 0, 1) := by decide +kernel
theorem dX0_init_66 : decode cX0_init 66 = .ok (.putfield 46, 3) := by decide +kernel
theorem dX0_init_69 : decode cX0_init 69 = .ok (.return_, 1) := by decide +kernel
/-! X1_init -/
theorem dX1_init_0 : decode cX1_init 0 = .ok (.aload_n 0, 1) := by decide +kernel
theorem dX1_init_1 : decode cX1_init 1 = .ok (.invokespecial 3, 3) := by decide +kernel
theorem dX1_init_4 : decode cX1_init 4 = .ok (.aload_n 0, 1) := by decide +kernel
theorem dX1_init_5 : decode cX1_init 5 = .ok (.iconst 0, 1) := by decide +kernel
theorem dX1_init_6 : decode cX1_init 6 = .ok (.putfield 9, 3) := by decide +kernel
theorem dX1_init_9 : decode cX1_init 9 = .ok (.aload_n 0, 1) := by decide +kernel
theorem dX1_init_10 : decode cX1_init 10 = .ok (.iconst 0, 1) := by decide +kernel
theorem dX1_init_11 : decode cX1_init 11 = .ok (.putfield 15, 3) := by decide +kernel
theorem dX1_init_14 : decode cX1_init 14 = .ok (.aload_n 0, 1) := by decide +kernel
theorem dX1_init_15 : decode cX1_init 15 = .ok (.iconst 0, 1) := by decide +kernel
theorem dX1_init_16 : decode cX1_init 16 = .ok (.putfield 18, 3) := by decide +kernel
theorem dX1_init_19 : decode cX1_init 19 = .ok (.aload_n 0, 1) := by decide +kernel
theorem dX1_init_20 : decode cX1_init 20 = .ok (.iconst 0, 1) := by decide +kernel
theorem dX1_init_21 : decode cX1_init 21 = .ok (.putfield 22, 3) := by decide +kernel
theorem dX1_init_24 : decode cX1_init 24 = .ok (.aload_n 0, 1) := by decide +kernel
theorem dX1_init_25 : decode cX1_init 25 = .ok (.iconst 0, 1) := by decide +kernel
theorem dX1_init_26 : decode cX1_init 26 = .ok (.putfield 25, 3) := by decide +kernel
theorem dX1_init_29 : decode cX1_init 29 = .ok (.aload_n 0, 1) := by decide +kernel
theorem dX1_init_30 : decode cX1_init 30 = .ok (.iconst 0, 1) := by decide +kernel
theorem dX1_init_31 : decode cX1_init 31 = .ok (.putfield 28, 3) := by decide +kernel
theorem dX1_init_34 : decode cX1_init 34 = .ok (.aload_n 0, 1) := by decide +kernel
theorem dX1_init_35 : decode cX1_init 35 = .ok (.iconst (-1), 1) := by decide +kernel
theorem dX1_init_36 : decode cX1_init 36 = .ok (.putfield 31, 3) := by decide +kernel
theorem dX1_init_39 : decode cX1_init 39 = .ok (.aload_n 0, 1) := by decide +kernel
theorem dX1_init_40 : decode cX1_init 40 = .ok (.iconst 0, 1) := by decide +kernel
theorem dX1_init_41 : decode cX1_init 41 = .ok (.putfield 34, 3) := by decide +kernel
theorem dX1_init_44 : decode cX1_init 44 = .ok (.return_, 1) := by decide +kernel
/-! X2_init -/
theorem dX2_init_0 : decode cX2_init 0 = .ok (.aload_n 0, 1) := by decide +kernel
theorem dX2_init_1 : decode cX2_init 1 = .ok (.invokespecial 3, 3) := by decide +kernel
theorem dX2_init_4 : decode cX2_init 4 = .ok (.aload_n 0, 1) := by decide +kernel
theorem dX2_init_5 : decode cX2_init 5 = .ok (.iconst (-1), 1) := by decide +kernel
theorem dX2_init_6 : decode cX2_init 6 = .ok (.putfield 11, 3) := by decide +kernel
theorem dX2_init_9 : decode cX2_init 9 = .ok (.aload_n 0, 1) := by decide +kernel
theorem dX2_init_10 : decode cX2_init 10 = .ok (.iconst 0, 1) := by decide +kernel
theorem dX2_init_11 : decode cX2_init 11 = .ok (.putfield 15, 3) := by decide +kernel
theorem dX2_init_14 : decode cX2_init 14 = .ok (.aload_n 0, 1) := by decide +kernel
theorem dX2_init_15 : decode cX2_init 15 = .ok (.iconst (-1), 1) := by decide +kernel
theorem dX2_init_16 : decode cX2_init 16 = .ok (.putfield 18, 3) := by decide +kernel
theorem dX2_init_19 : decode cX2_init 19 = .ok (.aload_n 0, 1) := by decide +kernel
theorem dX2_init_20 : decode cX2_init 20 = .ok (.iconst 0, 1) := by decide +kernel
theorem dX2_init_21 : decode cX2_init 21 = .ok (.putfield 21, 3) := by decide +kernel
theorem dX2_init_24 : decode cX2_init 24 = .ok (.aload_n 0, 1) := by decide +kernel
theorem dX2_init_25 : decode cX2_init 25 = .ok (.iconst 0, 1) := by decide +kernel
theorem dX2_init_26 : decode cX2_init 26 = .ok (.putfield 24, 3) := by decide +kernel
theorem dX2_init_29 : decode cX2_init 29 = .ok (.aload_n 0, 1) := by decide +kernel
theorem dX2_init_30 : decode cX2_init 30 = .ok (.iconst 0, 1) := by decide +kernel
theorem dX2_init_31 : decode cX2_init 31 = .ok (.putfield 27, 3) := by decide +kernel
theorem dX2_init_34 : decode cX2_init 34 = .ok (.aload_n 0, 1) := by decide +kernel
theorem dX2_init_35 : decode cX2_init 35 = .ok (.iconst 0, 1) := by decide +kernel
theorem dX2_init_36 : decode cX2_init 36 = .ok (.putfield 30, 3) := by decide +kernel
theorem dX2_init_39 : decode cX2_init 39 = .ok (.aload_n 0, 1) := by decide +kernel
theorem dX2_init_40 : decode cX2_init 40 = .ok (.iconst 0, 1) := by decide +kernel
theorem dX2_init_41 : decode cX2_init 41 = .ok (.newarray .int, 2) := by decide +kernel
theorem dX2_init_43 : decode cX2_init 43 = .ok (.putfield 33, 3) := by decide +kernel
theorem dX2_init_46 : decode cX2_init 46 = .ok (.return_, 1) := by decide +kernel
/-! X3_begin -/
theorem dX3_begin_0 : decode cX3_begin 0 = .ok (.aload_n 0, 1) := by decide +kernel
theorem dX3_begin_1 : decode cX3_begin 1 = .ok (.iload_n 1, 1) := by decide +kernel
theorem dX3_begin_2 : decode cX3_begin 2 = .ok (.putfield 7, 3) := by decide +kernel
theorem dX3_begin_5 : decode cX3_begin 5 = .ok (.aload_n 0, 1) := by decide +kernel
theorem dX3_begin_6 : decode cX3_begin 6 = .ok (.iload_n 2, 1) := by decide +kernel
theorem dX3_begin_7 : decode cX3_begin 7 = .ok (.putfield 13, 3) := by decide +kernel
theorem dX3_begin_10 : decode cX3_begin 10 = .ok (.aload_n 0, 1) := by decide +kernel
theorem dX3_begin_11 : decode cX3_begin 11 = .ok (.iload_n 3, 1) := by decide +kernel
theorem dX3_begin_12 : decode cX3_begin 12 = .ok (.putfield 16, 3) := by decide +kernel
theorem dX3_begin_15 : decode cX3_begin 15 = .ok (.aload_n 0, 1) := by decide +kernel
theorem dX3_begin_16 : decode cX3_begin 16 = .ok (.iconst 0, 1) := by decide +kernel
theorem dX3_begin_17 : decode cX3_begin 17 = .ok (.putfield 19, 3) := by decide +kernel
theorem dX3_begin_20 : decode cX3_begin 20 = .ok (.aload_n 0, 1) := by decide +kernel
theorem dX3_begin_21 : decode cX3_begin 21 = .ok (.iconst 0, 1) := by decide +kernel
theorem dX3_begin_22 : decode cX3_begin 22 = .ok (.putfield 22, 3) := by decide +kernel
theorem dX3_begin_25 : decode cX3_begin 25 = .ok (.aload_n 0, 1) := by decide +kernel
theorem dX3_begin_26 : decode cX3_begin 26 = .ok (.iconst 0, 1) := by decide +kernel
theorem dX3_begin_27 : decode cX3_begin 27 = .ok (.putfield 25, 3) := by decide +kernel
theorem dX3_begin_30 : decode cX3_begin 30 = .ok (.aload_n 0, 1) := by decide +kernel
theorem dX3_begin_31 : decode cX3_begin 31 = .ok (.iconst 0, 1) := by decide +kernel
theorem dX3_begin_32 : decode cX3_begin 32 = .ok (.putfield 28, 3) := by decide +kernel
theorem dX3_begin_35 : decode cX3_begin 35 = .ok (.aload_n 0, 1) := by decide +kernel
theorem dX3_begin_36 : decode cX3_begin 36 = .ok (.iconst 0, 1) := by decide +kernel
theorem dX3_begin_37 : decode cX3_begin 37 = .ok (.putfield 31, 3) := by decide +kernel
theorem dX3_begin_40 : decode cX3_begin 40 = .ok (.return_, 1) := by decide +kernel
/-! X3_init -/
theorem dX3_init_0 : decode cX3_init 0 = .ok (.aload_n 0, 1) := by decide +kernel
theorem dX3_init_1 : decode cX3_init 1 = .ok (.invokespecial 1, 3) := by decide +kernel
theorem dX3_init_4 : decode cX3_init 4 = .ok (.aload_n 0, 1) := by decide +kernel
theorem dX3_init_5 : decode cX3_init 5 = .ok (.iconst 0, 1) := by decide +kernel
theorem dX3_init_6 : decode cX3_init 6 = .ok (.putfield 7, 3) := by decide +kernel
theorem dX3_init_9 : decode cX3_init 9 = .ok (.aload_n 0, 1) := by decide +kernel
theorem dX3_init_10 : decode cX3_init 10 = .ok (.iconst 0, 1) := by decide +kernel
theorem dX3_init_11 : decode cX3_init 11 = .ok (.putfield 13, 3) := by decide +kernel
theorem dX3_init_14 : decode cX3_init 14 = .ok (.aload_n 0, 1) := by decide +kernel
theorem dX3_init_15 : decode cX3_init 15 = .ok (.iconst 0, 1) := by decide +kernel
theorem dX3_init_16 : decode cX3_init 16 = .ok (.putfield 16, 3) := by decide +kernel
theorem dX3_init_19 : decode cX3_init 19 = .ok (.aload_n 0, 1) := by decide +kernel
theorem dX3_init_20 : decode cX3_init 20 = .ok (.iconst 0, 1) := by decide +kernel
theorem dX3_init_21 : decode cX3_init 21 = .ok (.putfield 19, 3) := by decide +kernel
theorem dX3_init_24 : decode cX3_init 24 = .ok (.aload_n 0, 1) := by decide +kernel
theorem dX3_init_25 : decode cX3_init 25 = .ok (.iconst 0, 1) := by decide +kernel
theorem dX3_init_26 : decode cX3_init 26 = .ok (.putfield 22, 3) := by decide +kernel
theorem dX3_init_29 : decode cX3_init 29 = .ok (.aload_n 0, 1) := by decide +kernel
theorem dX3_init_30 : decode cX3_init 30 = .ok (.iconst 0, 1) := by decide +kernel
theorem dX3_init_31 : decode cX3_init 31 = .ok (.putfield 25, 3) := by decide +kernel
theorem dX3_init_34 : decode cX3_init 34 = .ok (.aload_n 0, 1) := by decide +kernel
theorem dX3_init_35 : decode cX3_init 35 = .ok (.iconst 0, 1) := by decide +kernel
theorem dX3_init_36 : decode cX3_init 36 = .ok (.putfield 28, 3) := by decide +kernel
theorem dX3_init_39 : decode cX3_init 39 = .ok (.aload_n 0, 1) := by decide +kernel
theorem dX3_init_40 : decode cX3_init 40 = .ok (.iconst 0, 1) := by decide +kernel
theorem dX3_init_41 : decode cX3_init 41 = .ok (.putfield 31, 3) := by decide +kernel
theorem dX3_init_44 : decode cX3_init 44 = .ok (.return_, 1) := by decide +kernel
/-! X4_answers -/
theorem dX4_answers_0 : decode cX4_answers 0 = .ok (.iconst 0, 1) := by decide +kernel
theorem dX4_answers_1 : decode cX4_answers 1 = .ok (.istore_n 1, 1) := by decide +kernel
theorem dX4_answers_2 : decode cX4_answers 2 = .ok (.iconst 0, 1) := by decide +kernel
theorem dX4_answers_3 : decode cX4_answers 3 = .ok (.istore_n 2, 1) := by decide +kernel
theorem dX4_answers_4 : decode cX4_answers 4 = .ok (.iload_n 2, 1) := by decide +kernel
theorem dX4_answers_5 : decode cX4_answers 5 = .ok (.aload_n 0, 1) := by decide +kernel
theorem dX4_answers_6 : decode cX4_answers 6 = .ok (.getfield 21, 3) := by decide +kernel
theorem dX4_answers_9 : decode cX4_answers 9 = .ok (.if_icmp .ge 21, 3) := by decide +kernel
theorem dX4_answers_12 : decode cX4_answers 12 = .ok (.aload_n 0, 1) := by decide +kernel
theorem dX4_answers_13 : decode cX4_answers 13 = .ok (.iload_n 2, 1) := by decide +kernel
theorem dX4_answers_14 : decode cX4_answers 14 = .ok (.invokevirtual 53, 3) := by decide +kernel
theorem dX4_answers_17 : decode cX4_answers 17 = .ok (.iconst (-1), 1) := by decide +kernel
theorem dX4_answers_18 : decode cX4_answers 18 = .ok (.if_icmp .ne 6, 3) := by decide +kernel
theorem dX4_answers_21 : decode cX4_answers 21 = .ok (.iinc 1 1, 3) := by decide +kernel
theorem dX4_answers_24 : decode cX4_answers 24 = .ok (.iinc 2 1, 3) := by decide +kernel
theorem dX4_answers_27 : decode cX4_answers 27 = .ok (.goto (-23), 3) := by decide +kernel
theorem dX4_answers_30 : decode cX4_answers 30 = .ok (.iload_n 1, 1) := by decide +kernel
theorem dX4_answers_31 : decode cX4_answers 31 = .ok (.ireturn, 1) := by decide +kernel
/-! X4_init -/
theorem dX4_init_0 : decode cX4_init 0 = .ok (.aload_n 0, 1) := by decide +kernel
theorem dX4_init_1 : decode cX4_init 1 = .ok (.invokespecial 3, 3) := by decide +kernel
theorem dX4_init_4 : decode cX4_init 4 = .ok (.aload_n 0, 1) := by decide +kernel
theorem dX4_init_5 : decode cX4_init 5 = .ok (.bipush 16, 2) := by decide +kernel
theorem dX4_init_7 : decode cX4_init 7 = .ok (.newarray .int, 2) := by decide +kernel
theorem dX4_init_9 : decode cX4_init 9 = .ok (.putfield 9, 3) := by decide +kernel
theorem dX4_init_12 : decode cX4_init 12 = .ok (.aload_n 0, 1) := by decide +kernel
theorem dX4_init_13 : decode cX4_init 13 = .ok (.bipush 16, 2) := by decide +kernel
theorem dX4_init_15 : decode cX4_init 15 = .ok (.newarray .int, 2) := by decide +kernel
theorem dX4_init_17 : decode cX4_init 17 = .ok (.putfield 15, 3) := by decide +kernel
theorem dX4_init_20 : decode cX4_init 20 = .ok (.aload_n 0, 1) := by decide +kernel
theorem dX4_init_21 : decode cX4_init 21 = .ok (.bipush 16, 2) := by decide +kernel
theorem dX4_init_23 : decode cX4_init 23 = .ok (.newarray .int, 2) := by decide +kernel
theorem dX4_init_25 : decode cX4_init 25 = .ok (.putfield 18, 3) := by decide +kernel
theorem dX4_init_28 : decode cX4_init 28 = .ok (.aload_n 0, 1) := by decide +kernel
theorem dX4_init_29 : decode cX4_init 29 = .ok (.iconst 0, 1) := by decide +kernel
theorem dX4_init_30 : decode cX4_init 30 = .ok (.putfield 21, 3) := by decide +kernel
theorem dX4_init_33 : decode cX4_init 33 = .ok (.aload_n 0, 1) := by decide +kernel
theorem dX4_init_34 : decode cX4_init 34 = .ok (.ldc 25, 2) := by decide +kernel
theorem dX4_init_36 : decode cX4_init 36 = .ok (.putfield 26, 3) := by decide +kernel
theorem dX4_init_39 : decode cX4_init 39 = .ok (.return_, 1) := by decide +kernel
/-! X5_init -/
theorem dX5_init_0 : decode cX5_init 0 = .ok (.aload_n 0, 1) := by decide +kernel
theorem dX5_init_1 : decode cX5_init 1 = .ok (.invokespecial 3, 3) := by decide +kernel
theorem dX5_init_4 : decode cX5_init 4 = .ok (.aload_n 0, 1) := by decide +kernel
theorem dX5_init_5 : decode cX5_init 5 = .ok (.sipush 300, 3) := by decide +kernel
theorem dX5_init_8 : decode cX5_init 8 = .ok (.newarray .int, 2) := by decide +kernel
theorem dX5_init_10 : decode cX5_init 10 = .ok (.putfield 9, 3) := by decide +kernel
theorem dX5_init_13 : decode cX5_init 13 = .ok (.aload_n 0, 1) := by decide +kernel
theorem dX5_init_14 : decode cX5_init 14 = .ok (.sipush 300, 3) := by decide +kernel
theorem dX5_init_17 : decode cX5_init 17 = .ok (.newarray .int, 2) := by decide +kernel
theorem dX5_init_19 : decode cX5_init 19 = .ok (.putfield 15, 3) := by decide +kernel
theorem dX5_init_22 : decode cX5_init 22 = .ok (.aload_n 0, 1) := by decide +kernel
theorem dX5_init_23 : decode cX5_init 23 = .ok (.sipush 300, 3) := by decide +kernel
theorem dX5_init_26 : decode cX5_init 26 = .ok (.newarray .int, 2) := by decide +kernel
theorem dX5_init_28 : decode cX5_init 28 = .ok (.putfield 18, 3) := by decide +kernel
theorem dX5_init_31 : decode cX5_init 31 = .ok (.aload_n 0, 1) := by decide +kernel
theorem dX5_init_32 : decode cX5_init 32 = .ok (.sipush 300, 3) := by decide +kernel
theorem dX5_init_35 : decode cX5_init 35 = .ok (.newarray .int, 2) := by decide +kernel
theorem dX5_init_37 : decode cX5_init 37 = .ok (.putfield 21, 3) := by decide +kernel
theorem dX5_init_40 : decode cX5_init 40 = .ok (.aload_n 0, 1) := by decide +kernel
theorem dX5_init_41 : decode cX5_init 41 = .ok (.sipush 300, 3) := by decide +kernel
theorem dX5_init_44 : decode cX5_init 44 = .ok (.newarray .int, 2) := by decide +kernel
theorem dX5_init_46 : decode cX5_init 46 = .ok (.putfield 24, 3) := by decide +kernel
theorem dX5_init_49 : decode cX5_init 49 = .ok (.aload_n 0, 1) := by decide +kernel
theorem dX5_init_50 : decode cX5_init 50 = .ok (.sipush 300, 3) := by decide +kernel
theorem dX5_init_53 : decode cX5_init 53 = .ok (.newarray .int, 2) := by decide +kernel
theorem dX5_init_55 : decode cX5_init 55 = .ok (.putfield 27, 3) := by decide +kernel
theorem dX5_init_58 : decode cX5_init 58 = .ok (.aload_n 0, 1) := by decide +kernel
theorem dX5_init_59 : decode cX5_init 59 = .ok (.bipush 6, 2) := by decide +kernel
theorem dX5_init_61 : decode cX5_init 61 = .ok (.newarray .int, 2) := by decide +kernel
theorem dX5_init_63 : decode cX5_init 63 = .ok (.putfield 30, 3) := by decide +kernel
theorem dX5_init_66 : decode cX5_init 66 = .ok (.aload_n 0, 1) := by decide +kernel
theorem dX5_init_67 : decode cX5_init 67 = .ok (.bipush 6, 2) := by decide +kernel
theorem dX5_init_69 : decode cX5_init 69 = .ok (.newarray .int, 2) := by decide +kernel
theorem dX5_init_71 : decode cX5_init 71 = .ok (.putfield 33, 3) := by decide +kernel
theorem dX5_init_74 : decode cX5_init 74 = .ok (.aload_n 0, 1) := by decide +kernel
theorem dX5_init_75 : decode cX5_init 75 = .ok (.bipush 6, 2) := by decide +kernel
theorem dX5_init_77 : decode cX5_init 77 = .ok (.newarray .int, 2) := by decide +kernel
theorem dX5_init_79 : decode cX5_init 79 = .ok (.putfield 36, 3) := by decide +kernel
theorem dX5_init_82 : decode cX5_init 82 = .ok (.aload_n 0, 1) := by decide +kernel
theorem dX5_init_83 : decode cX5_init 83 = .ok (.bipush 6, 2) := by decide +kernel
theorem dX5_init_85 : decode cX5_init 85 = .ok (.newarray .int, 2) := by decide +kernel
theorem dX5_init_87 : decode cX5_init 87 = .ok (.putfield 39, 3) := by decide +kernel
theorem dX5_init_90 : decode cX5_init 90 = .ok (.aload_n 0, 1) := by decide +kernel
theorem dX5_init_91 : decode cX5_init 91 = .ok (.iconst 0, 1) := by decide +kernel
theorem dX5_init_92 : decode cX5_init 92 = .ok (.putfield 42, 3) := by decide +kernel
theorem dX5_init_95 : decode cX5_init 95 = .ok (.aload_n 0, 1) := by decide +kernel
theorem dX5_init_96 : decode cX5_init 96 = .ok (.iconst (-1), 1) := by decide +kernel
theorem dX5_init_97 : decode cX5_init 97 = .ok (.putfield 46, 3) := by decide +kernel
theorem dX5_init_100 : decode cX5_init 100 = .ok (.aload_n 0, 1) := by decide +kernel
theorem dX5_init_101 : decode cX5_init 101 = .ok (.iconst 0, 1) := by decide +kernel
theorem dX5_init_102 : decode cX5_init 102 = .ok (.putfield 49, 3) := by decide +kernel
theorem dX5_init_105 : decode cX5_init 105 = .ok (.aload_n 0, 1) := by decide +kernel
theorem dX5_init_106 : decode cX5_init 106 = .ok (.getfield 30, 3) := by decide +kernel
theorem dX5_init_109 : decode cX5_init 109 = .ok (.iconst (-1), 1) := by decide +kernel
theorem dX5_init_110 : decode cX5_init 110 = .ok (.invokestatic 52, 3) := by decide +kernel
theorem dX5_init_113 : decode cX5_init 113 = .ok (.aload_n 0, 1) := by decide +kernel
theorem dX5_init_114 : decode cX5_init 114 = .ok (.getfield 33, 3) := by decide +kernel
theorem dX5_init_117 : decode cX5_init 117 = .ok (.iconst (-1), 1) := by decide +kernel
theorem dX5_init_118 : decode cX5_init 118 = .ok (.invokestatic 52, 3) := by decide +kernel
theorem dX5_init_121 : decode cX5_init 121 = .ok (.return_, 1) := by decide +kernel
/-! X6_init -/
theorem dX6_init_0 : decode cX6_init 0 = .ok (.aload_n 0, 1) := by decide +kernel
theorem dX6_init_1 : decode cX6_init 1 = .ok (.invokespecial 3, 3) := by decide +kernel
theorem dX6_init_4 : decode cX6_init 4 = .ok (.aload_n 0, 1) := by decide +kernel
theorem dX6_init_5 : decode cX6_init 5 = .ok (.sipush 500, 3) := by decide +kernel
theorem dX6_init_8 : decode cX6_init 8 = .ok (.newarray .byte, 2) := by decide +kernel
theorem dX6_init_10 : decode cX6_init 10 = .ok (.putfield 11, 3) := by decide +kernel
theorem dX6_init_13 : decode cX6_init 13 = .ok (.aload_n 0, 1) := by decide +kernel
theorem dX6_init_14 : decode cX6_init 14 = .ok (.iconst 0, 1) := by decide +kernel
theorem dX6_init_15 : decode cX6_init 15 = .ok (.putfield 15, 3) := by decide +kernel
theorem dX6_init_18 : decode cX6_init 18 = .ok (.aload_n 0, 1) := by decide +kernel
theorem dX6_init_19 : decode cX6_init 19 = .ok (.iconst 0, 1) := by decide +kernel
theorem dX6_init_20 : decode cX6_init 20 = .ok (.putfield 19, 3) := by decide +kernel
theorem dX6_init_23 : decode cX6_init 23 = .ok (.aload_n 0, 1) := by decide +kernel
theorem dX6_init_24 : decode cX6_init 24 = .ok (.iconst 0, 1) := by decide +kernel
theorem dX6_init_25 : decode cX6_init 25 = .ok (.putfield 22, 3) := by decide +kernel
theorem dX6_init_28 : decode cX6_init 28 = .ok (.aload_n 0, 1) := by decide +kernel
theorem dX6_init_29 : decode cX6_init 29 = .ok (.iconst 0, 1) := by decide +kernel
theorem dX6_init_30 : decode cX6_init 30 = .ok (.putfield 26, 3) := by decide +kernel
theorem dX6_init_33 : decode cX6_init 33 = .ok (.aload_n 0, 1) := by decide +kernel
theorem dX6_init_34 : decode cX6_init 34 = .ok (.iconst (-1), 1) := by decide +kernel
theorem dX6_init_35 : decode cX6_init 35 = .ok (.putfield 29, 3) := by decide +kernel
theorem dX6_init_38 : decode cX6_init 38 = .ok (.aload_n 0, 1) := by decide +kernel
theorem dX6_init_39 : decode cX6_init 39 = .ok (.iconst 0, 1) := by decide +kernel
theorem dX6_init_40 : decode cX6_init 40 = .ok (.putfield 32, 3) := by decide +kernel
theorem dX6_init_43 : decode cX6_init 43 = .ok (.aload_n 0, 1) := by decide +kernel
theorem dX6_init_44 : decode cX6_init 44 = .ok (.bipush 48, 2) := by decide +kernel
theorem dX6_init_46 : decode cX6_init 46 = .ok (.newarray .int, 2) := by decide +kernel
theorem dX6_init_48 : decode cX6_init 48 = .ok (.putfield 35, 3) := by decide +kernel
theorem dX6_init_51 : decode cX6_init 51 = .ok (.aload_n 0, 1) := by decide +kernel
theorem dX6_init_52 : decode cX6_init 52 = .ok (.sipush 192, 3) := by decide +kernel
theorem dX6_init_55 : decode cX6_init 55 = .ok (.newarray .int, 2) := by decide +kernel
theorem dX6_init_57 : decode cX6_init 57 = .ok (.putfield 39, 3) := by decide +kernel
theorem dX6_init_60 : decode cX6_init 60 = .ok (.aload_n 0, 1) := by decide +kernel
theorem dX6_init_61 : decode cX6_init 61 = .ok (.bipush 48, 2) := by decide +kernel
theorem dX6_init_63 : decode cX6_init 63 = .ok (.newarray .boolean, 2) := by decide +kernel
theorem dX6_init_65 : decode cX6_init 65 = .ok (.putfield 42, 3) := by decide +kernel
theorem dX6_init_68 : decode cX6_init 68 = .ok (.aload_n 0, 1) := by decide +kernel
theorem dX6_init_69 : decode cX6_init 69 = .ok (.bipush 10, 2) := by decide +kernel
theorem dX6_init_71 : decode cX6_init 71 = .ok (.newarray .int, 2) := by decide +kernel
theorem dX6_init_73 : decode cX6_init 73 = .ok (.putfield 46, 3) := by decide +kernel
theorem dX6_init_76 : decode cX6_init 76 = .ok (.return_, 1) := by decide +kernel
/-! X7_addLink -/
theorem dX7_addLink_0 : decode cX7_addLink 0 = .ok (.aload_n 0, 1) := by decide +kernel
theorem dX7_addLink_1 : decode cX7_addLink 1 = .ok (.getfield 30, 3) := by decide +kernel
theorem dX7_addLink_4 : decode cX7_addLink 4 = .ok (.ifCond .lt 37, 3) := by decide +kernel
theorem dX7_addLink_7 : decode cX7_addLink 7 = .ok (.aload_n 0, 1) := by decide +kernel
theorem dX7_addLink_8 : decode cX7_addLink 8 = .ok (.getfield 30, 3) := by decide +kernel
theorem dX7_addLink_11 : decode cX7_addLink 11 = .ok (.bipush 6, 2) := by decide +kernel
theorem dX7_addLink_13 : decode cX7_addLink 13 = .ok (.if_icmp .ge 28, 3) := by decide +kernel
theorem dX7_addLink_16 : decode cX7_addLink 16 = .ok (.aload_n 0, 1) := by decide +kernel
theorem dX7_addLink_17 : decode cX7_addLink 17 = .ok (.getfield 38, 3) := by decide +kernel
theorem dX7_addLink_20 : decode cX7_addLink 20 = .ok (.aload_n 0, 1) := by decide +kernel
theorem dX7_addLink_21 : decode cX7_addLink 21 = .ok (.getfield 30, 3) := by decide +kernel
theorem dX7_addLink_24 : decode cX7_addLink 24 = .ok (.aaload, 1) := by decide +kernel
theorem dX7_addLink_25 : decode cX7_addLink 25 = .ok (.iload_n 1, 1) := by decide +kernel
theorem dX7_addLink_26 : decode cX7_addLink 26 = .ok (.iload_n 2, 1) := by decide +kernel
theorem dX7_addLink_27 : decode cX7_addLink 27 = .ok (.iload_n 3, 1) := by decide +kernel
theorem dX7_addLink_28 : decode cX7_addLink 28 = .ok (.invokevirtual 105, 3) := by decide +kernel
theorem dX7_addLink_31 : decode cX7_addLink 31 = .ok (.aload_n 0, 1) := by decide +kernel
theorem dX7_addLink_32 : decode cX7_addLink 32 = .ok (.dup, 1) := by decide +kernel
theorem dX7_addLink_33 : decode cX7_addLink 33 = .ok (.getfield 30, 3) := by decide +kernel
theorem dX7_addLink_36 : decode cX7_addLink 36 = .ok (.iconst 1, 1) := by decide +kernel
theorem dX7_addLink_37 : decode cX7_addLink 37 = .ok (.iadd, 1) := by decide +kernel
theorem dX7_addLink_38 : decode cX7_addLink 38 = .ok (.putfield 30, 3) := by decide +kernel
theorem dX7_addLink_41 : decode cX7_addLink 41 = .ok (.return_, 1) := by decide +kernel
/-! X7_datagramAt -/
theorem dX7_datagramAt_0 : decode cX7_datagramAt 0 = .ok (.iload_n 1, 1) := by decide +kernel
theorem dX7_datagramAt_1 : decode cX7_datagramAt 1 = .ok (.ifCond .lt 26, 3) := by decide +kernel
theorem dX7_datagramAt_4 : decode cX7_datagramAt 4 = .ok (.iload_n 1, 1) := by decide +kernel
theorem dX7_datagramAt_5 : decode cX7_datagramAt 5 = .ok (.aload_n 0, 1) := by decide +kernel
theorem dX7_datagramAt_6 : decode cX7_datagramAt 6 = .ok (.getfield 33, 3) := by decide +kernel
theorem dX7_datagramAt_9 : decode cX7_datagramAt 9 = .ok (.if_icmp .ge 18, 3) := by decide +kernel
theorem dX7_datagramAt_12 : decode cX7_datagramAt 12 = .ok (.iload_n 1, 1) := by decide +kernel
theorem dX7_datagramAt_13 : decode cX7_datagramAt 13 = .ok (.bipush 40, 2) := by decide +kernel
theorem dX7_datagramAt_15 : decode cX7_datagramAt 15 = .ok (.if_icmp .ge 12, 3) := by decide +kernel
theorem dX7_datagramAt_18 : decode cX7_datagramAt 18 = .ok (.aload_n 0, 1) := by decide +kernel
theorem dX7_datagramAt_19 : decode cX7_datagramAt 19 = .ok (.getfield 44, 3) := by decide +kernel
theorem dX7_datagramAt_22 : decode cX7_datagramAt 22 = .ok (.iload_n 1, 1) := by decide +kernel
theorem dX7_datagramAt_23 : decode cX7_datagramAt 23 = .ok (.aaload, 1) := by decide +kernel
theorem dX7_datagramAt_24 : decode cX7_datagramAt 24 = .ok (.goto 4, 3) := by decide +kernel
theorem dX7_datagramAt_27 : decode cX7_datagramAt 27 = .ok (.aconst_null, 1) := by decide +kernel
theorem dX7_datagramAt_28 : decode cX7_datagramAt 28 = .ok (.areturn, 1) := by decide +kernel
/-! X7_fateCount -/
theorem dX7_fateCount_0 : decode cX7_fateCount 0 = .ok (.iconst 0, 1) := by decide +kernel
theorem dX7_fateCount_1 : decode cX7_fateCount 1 = .ok (.istore_n 2, 1) := by decide +kernel
theorem dX7_fateCount_2 : decode cX7_fateCount 2 = .ok (.iconst 0, 1) := by decide +kernel
theorem dX7_fateCount_3 : decode cX7_fateCount 3 = .ok (.istore_n 3, 1) := by decide +kernel
theorem dX7_fateCount_4 : decode cX7_fateCount 4 = .ok (.iload_n 3, 1) := by decide +kernel
theorem dX7_fateCount_5 : decode cX7_fateCount 5 = .ok (.aload_n 0, 1) := by decide +kernel
theorem dX7_fateCount_6 : decode cX7_fateCount 6 = .ok (.getfield 33, 3) := by decide +kernel
theorem dX7_fateCount_9 : decode cX7_fateCount 9 = .ok (.if_icmp .ge 31, 3) := by decide +kernel
theorem dX7_fateCount_12 : decode cX7_fateCount 12 = .ok (.iload_n 3, 1) := by decide +kernel
theorem dX7_fateCount_13 : decode cX7_fateCount 13 = .ok (.bipush 40, 2) := by decide +kernel
theorem dX7_fateCount_15 : decode cX7_fateCount 15 = .ok (.if_icmp .ge 25, 3) := by decide +kernel
theorem dX7_fateCount_18 : decode cX7_fateCount 18 = .ok (.aload_n 0, 1) := by decide +kernel
theorem dX7_fateCount_19 : decode cX7_fateCount 19 = .ok (.getfield 44, 3) := by decide +kernel
theorem dX7_fateCount_22 : decode cX7_fateCount 22 = .ok (.iload_n 3, 1) := by decide +kernel
theorem dX7_fateCount_23 : decode cX7_fateCount 23 = .ok (.aaload, 1) := by decide +kernel
theorem dX7_fateCount_24 : decode cX7_fateCount 24 = .ok (.getfield 216, 3) := by decide +kernel
theorem dX7_fateCount_27 : decode cX7_fateCount 27 = .ok (.iload_n 1, 1) := by decide +kernel
theorem dX7_fateCount_28 : decode cX7_fateCount 28 = .ok (.if_icmp .ne 6, 3) := by decide +kernel
theorem dX7_fateCount_31 : decode cX7_fateCount 31 = .ok (.iinc 2 1, 3) := by decide +kernel
theorem dX7_fateCount_34 : decode cX7_fateCount 34 = .ok (.iinc 3 1, 3) := by decide +kernel
theorem dX7_fateCount_37 : decode cX7_fateCount 37 = .ok (.goto (-33), 3) := by decide +kernel
theorem dX7_fateCount_40 : decode cX7_fateCount 40 = .ok (.iload_n 2, 1) := by decide +kernel
theorem dX7_fateCount_41 : decode cX7_fateCount 41 = .ok (.ireturn, 1) := by decide +kernel
/-! X7_handedCount -/
theorem dX7_handedCount_0 : decode cX7_handedCount 0 = .ok (.aload_n 0, 1) := by decide +kernel
theorem dX7_handedCount_1 : decode cX7_handedCount 1 = .ok (.iconst 1, 1) := by decide +kernel
theorem dX7_handedCount_2 : decode cX7_handedCount 2 = .ok (.invokevirtual 340, 3) := by decide +kernel
theorem dX7_handedCount_5 : decode cX7_handedCount 5 = .ok (.aload_n 0, 1) := by decide +kernel
theorem dX7_handedCount_6 : decode cX7_handedCount 6 = .ok (.iconst 2, 1) := by decide +kernel
theorem dX7_handedCount_7 : decode cX7_handedCount 7 = .ok (.invokevirtual 340, 3) := by decide +kernel
theorem dX7_handedCount_10 : decode cX7_handedCount 10 = .ok (.iadd, 1) := by decide +kernel
theorem dX7_handedCount_11 : decode cX7_handedCount 11 = .ok (.ireturn, 1) := by decide +kernel
/-! X7_heapCount -/
theorem dX7_heapCount_0 : decode cX7_heapCount 0 = .ok (.iconst 0, 1) := by decide +kernel
theorem dX7_heapCount_1 : decode cX7_heapCount 1 = .ok (.istore_n 1, 1) := by decide +kernel
theorem dX7_heapCount_2 : decode cX7_heapCount 2 = .ok (.iconst 0, 1) := by decide +kernel
theorem dX7_heapCount_3 : decode cX7_heapCount 3 = .ok (.istore_n 2, 1) := by decide +kernel
theorem dX7_heapCount_4 : decode cX7_heapCount 4 = .ok (.iload_n 2, 1) := by decide +kernel
theorem dX7_heapCount_5 : decode cX7_heapCount 5 = .ok (.iconst 4, 1) := by decide +kernel
theorem dX7_heapCount_6 : decode cX7_heapCount 6 = .ok (.if_icmp .ge 25, 3) := by decide +kernel
theorem dX7_heapCount_9 : decode cX7_heapCount 9 = .ok (.aload_n 0, 1) := by decide +kernel
theorem dX7_heapCount_10 : decode cX7_heapCount 10 = .ok (.getfield 50, 3) := by decide +kernel
theorem dX7_heapCount_13 : decode cX7_heapCount 13 = .ok (.iload_n 2, 1) := by decide +kernel
theorem dX7_heapCount_14 : decode cX7_heapCount 14 = .ok (.aaload, 1) := by decide +kernel
theorem dX7_heapCount_15 : decode cX7_heapCount 15 = .ok (.getfield 78, 3) := by decide +kernel
theorem dX7_heapCount_18 : decode cX7_heapCount 18 = .ok (.iconst (-1), 1) := by decide +kernel
theorem dX7_heapCount_19 : decode cX7_heapCount 19 = .ok (.if_icmp .eq 6, 3) := by decide +kernel
theorem dX7_heapCount_22 : decode cX7_heapCount 22 = .ok (.iinc 1 1, 3) := by decide +kernel
theorem dX7_heapCount_25 : decode cX7_heapCount 25 = .ok (.iinc 2 1, 3) := by decide +kernel
theorem dX7_heapCount_28 : decode cX7_heapCount 28 = .ok (.goto (-24), 3) := by decide +kernel
theorem dX7_heapCount_31 : decode cX7_heapCount 31 = .ok (.iload_n 1, 1) := by decide +kernel
theorem dX7_heapCount_32 : decode cX7_heapCount 32 = .ok (.ireturn, 1) := by decide +kernel
/-! X7_init -/
theorem dX7_init_0 : decode cX7_init 0 = .ok (.aload_n 0, 1) := by decide +kernel
theorem dX7_init_1 : decode cX7_init 1 = .ok (.invokespecial 3, 3) := by decide +kernel
theorem dX7_init_4 : decode cX7_init 4 = .ok (.aload_n 0, 1) := by decide +kernel
theorem dX7_init_5 : decode cX7_init 5 = .ok (.iconst 0, 1) := by decide +kernel
theorem dX7_init_6 : decode cX7_init 6 = .ok (.putfield 9, 3) := by decide +kernel
theorem dX7_init_9 : decode cX7_init 9 = .ok (.aload_n 0, 1) := by decide +kernel
theorem dX7_init_10 : decode cX7_init 10 = .ok (.bipush 60, 2) := by decide +kernel
theorem dX7_init_12 : decode cX7_init 12 = .ok (.putfield 15, 3) := by decide +kernel
theorem dX7_init_15 : decode cX7_init 15 = .ok (.aload_n 0, 1) := by decide +kernel
theorem dX7_init_16 : decode cX7_init 16 = .ok (.iconst 0, 1) := by decide +kernel
theorem dX7_init_17 : decode cX7_init 17 = .ok (.putfield 18, 3) := by decide +kernel
theorem dX7_init_20 : decode cX7_init 20 = .ok (.aload_n 0, 1) := by decide +kernel
theorem dX7_init_21 : decode cX7_init 21 = .ok (.bipush 28, 2) := by decide +kernel
theorem dX7_init_23 : decode cX7_init 23 = .ok (.putfield 21, 3) := by decide +kernel
theorem dX7_init_26 : decode cX7_init 26 = .ok (.aload_n 0, 1) := by decide +kernel
theorem dX7_init_27 : decode cX7_init 27 = .ok (.bipush 27, 2) := by decide +kernel
theorem dX7_init_29 : decode cX7_init 29 = .ok (.putfield 24, 3) := by decide +kernel
theorem dX7_init_32 : decode cX7_init 32 = .ok (.aload_n 0, 1) := by decide +kernel
theorem dX7_init_33 : decode cX7_init 33 = .ok (.iconst (-1), 1) := by decide +kernel
theorem dX7_init_34 : decode cX7_init 34 = .ok (.putfield 27, 3) := by decide +kernel
theorem dX7_init_37 : decode cX7_init 37 = .ok (.aload_n 0, 1) := by decide +kernel
theorem dX7_init_38 : decode cX7_init 38 = .ok (.iconst 0, 1) := by decide +kernel
theorem dX7_init_39 : decode cX7_init 39 = .ok (.putfield 30, 3) := by decide +kernel
theorem dX7_init_42 : decode cX7_init 42 = .ok (.aload_n 0, 1) := by decide +kernel
theorem dX7_init_43 : decode cX7_init 43 = .ok (.iconst 0, 1) := by decide +kernel
theorem dX7_init_44 : decode cX7_init 44 = .ok (.putfield 33, 3) := by decide +kernel
theorem dX7_init_47 : decode cX7_init 47 = .ok (.aload_n 0, 1) := by decide +kernel
theorem dX7_init_48 : decode cX7_init 48 = .ok (.bipush 6, 2) := by decide +kernel
theorem dX7_init_50 : decode cX7_init 50 = .ok (.anewarray 36, 3) := by decide +kernel
theorem dX7_init_53 : decode cX7_init 53 = .ok (.putfield 38, 3) := by decide +kernel
theorem dX7_init_56 : decode cX7_init 56 = .ok (.aload_n 0, 1) := by decide +kernel
theorem dX7_init_57 : decode cX7_init 57 = .ok (.bipush 40, 2) := by decide +kernel
theorem dX7_init_59 : decode cX7_init 59 = .ok (.anewarray 42, 3) := by decide +kernel
theorem dX7_init_62 : decode cX7_init 62 = .ok (.putfield 44, 3) := by decide +kernel
theorem dX7_init_65 : decode cX7_init 65 = .ok (.aload_n 0, 1) := by decide +kernel
theorem dX7_init_66 : decode cX7_init 66 = .ok (.iconst 4, 1) := by decide +kernel
theorem dX7_init_67 : decode cX7_init 67 = .ok (.anewarray 48, 3) := by decide +kernel
theorem dX7_init_70 : decode cX7_init 70 = .ok (.putfield 50, 3) := by decide +kernel
theorem dX7_init_73 : decode cX7_init 73 = .ok (.aload_n 0, 1) := by decide +kernel
theorem dX7_init_74 : decode cX7_init 74 = .ok (.new 54, 3) := by decide +kernel
theorem dX7_init_77 : decode cX7_init 77 = .ok (.dup, 1) := by decide +kernel
theorem dX7_init_78 : decode cX7_init 78 = .ok (.invokespecial 56, 3) := by decide +kernel
theorem dX7_init_81 : decode cX7_init 81 = .ok (.putfield 57, 3) := by decide +kernel
theorem dX7_init_84 : decode cX7_init 84 = .ok (.aload_n 0, 1) := by decide +kernel
theorem dX7_init_85 : decode cX7_init 85 = .ok (.new 61, 3) := by decide +kernel
theorem dX7_init_88 : decode cX7_init 88 = .ok (.dup, 1) := by decide +kernel
theorem dX7_init_89 : decode cX7_init 89 = .ok (.invokespecial 63, 3) := by decide +kernel
theorem dX7_init_92 : decode cX7_init 92 = .ok (.putfield 64, 3) := by decide +kernel
theorem dX7_init_95 : decode cX7_init 95 = .ok (.aload_n 0, 1) := by decide +kernel
theorem dX7_init_96 : decode cX7_init 96 = .ok (.new 68, 3) := by decide +kernel
theorem dX7_init_99 : decode cX7_init 99 = .ok (.dup, 1) := by decide +kernel
theorem dX7_init_100 : decode cX7_init 100 = .ok (.invokespecial 70, 3) := by decide +kernel
theorem dX7_init_103 : decode cX7_init 103 = .ok (.putfield 71, 3) := by decide +kernel
theorem dX7_init_106 : decode cX7_init 106 = .ok (.iconst 0, 1) := by decide +kernel
theorem dX7_init_107 : decode cX7_init 107 = .ok (.istore_n 1, 1) := by decide +kernel
theorem dX7_init_108 : decode cX7_init 108 = .ok (.iload_n 1, 1) := by decide +kernel
theorem dX7_init_109 : decode cX7_init 109 = .ok (.bipush 6, 2) := by decide +kernel
theorem dX7_init_111 : decode cX7_init 111 = .ok (.if_icmp .ge 22, 3) := by decide +kernel
theorem dX7_init_114 : decode cX7_init 114 = .ok (.aload_n 0, 1) := by decide +kernel
theorem dX7_init_115 : decode cX7_init 115 = .ok (.getfield 38, 3) := by decide +kernel
theorem dX7_init_118 : decode cX7_init 118 = .ok (.iload_n 1, 1) := by decide +kernel
theorem dX7_init_119 : decode cX7_init 119 = .ok (.new 36, 3) := by decide +kernel
theorem dX7_init_122 : decode cX7_init 122 = .ok (.dup, 1) := by decide +kernel
theorem dX7_init_123 : decode cX7_init 123 = .ok (.invokespecial 75, 3) := by decide +kernel
theorem dX7_init_126 : decode cX7_init 126 = .ok (.aastore, 1) := by decide +kernel
theorem dX7_init_127 : decode cX7_init 127 = .ok (.iinc 1 1, 3) := by decide +kernel
theorem dX7_init_130 : decode cX7_init 130 = .ok (.goto (-22), 3) := by decide +kernel
theorem dX7_init_133 : decode cX7_init 133 = .ok (.iconst 0, 1) := by decide +kernel
theorem dX7_init_134 : decode cX7_init 134 = .ok (.istore_n 1, 1) := by decide +kernel
theorem dX7_init_135 : decode cX7_init 135 = .ok (.iload_n 1, 1) := by decide +kernel
theorem dX7_init_136 : decode cX7_init 136 = .ok (.bipush 40, 2) := by decide +kernel
theorem dX7_init_138 : decode cX7_init 138 = .ok (.if_icmp .ge 22, 3) := by decide +kernel
theorem dX7_init_141 : decode cX7_init 141 = .ok (.aload_n 0, 1) := by decide +kernel
theorem dX7_init_142 : decode cX7_init 142 = .ok (.getfield 44, 3) := by decide +kernel
theorem dX7_init_145 : decode cX7_init 145 = .ok (.iload_n 1, 1) := by decide +kernel
theorem dX7_init_146 : decode cX7_init 146 = .ok (.new 42, 3) := by decide +kernel
theorem dX7_init_149 : decode cX7_init 149 = .ok (.dup, 1) := by decide +kernel
theorem dX7_init_150 : decode cX7_init 150 = .ok (.invokespecial 76, 3) := by decide +kernel
theorem dX7_init_153 : decode cX7_init 153 = .ok (.aastore, 1) := by decide +kernel
theorem dX7_init_154 : decode cX7_init 154 = .ok (.iinc 1 1, 3) := by decide +kernel
theorem dX7_init_157 : decode cX7_init 157 = .ok (.goto (-22), 3) := by decide +kernel
theorem dX7_init_160 : decode cX7_init 160 = .ok (.iconst 0, 1) := by decide +kernel
theorem dX7_init_161 : decode cX7_init 161 = .ok (.istore_n 1, 1) := by decide +kernel
theorem dX7_init_162 : decode cX7_init 162 = .ok (.iload_n 1, 1) := by decide +kernel
theorem dX7_init_163 : decode cX7_init 163 = .ok (.iconst 4, 1) := by decide +kernel
theorem dX7_init_164 : decode cX7_init 164 = .ok (.if_icmp .ge 22, 3) := by decide +kernel
theorem dX7_init_167 : decode cX7_init 167 = .ok (.aload_n 0, 1) := by decide +kernel
theorem dX7_init_168 : decode cX7_init 168 = .ok (.getfield 50, 3) := by decide +kernel
theorem dX7_init_171 : decode cX7_init 171 = .ok (.iload_n 1, 1) := by decide +kernel
theorem dX7_init_172 : decode cX7_init 172 = .ok (.new 48, 3) := by decide +kernel
theorem dX7_init_175 : decode cX7_init 175 = .ok (.dup, 1) := by decide +kernel
theorem dX7_init_176 : decode cX7_init 176 = .ok (.invokespecial 77, 3) := by decide +kernel
theorem dX7_init_179 : decode cX7_init 179 = .ok (.aastore, 1) := by decide +kernel
theorem dX7_init_180 : decode cX7_init 180 = .ok (.iinc 1 1, 3) := by decide +kernel
theorem dX7_init_183 : decode cX7_init 183 = .ok (.goto (-21), 3) := by decide +kernel
theorem dX7_init_186 : decode cX7_init 186 = .ok (.return_, 1) := by decide +kernel
/-! X7_linkAt -/
theorem dX7_linkAt_0 : decode cX7_linkAt 0 = .ok (.iload_n 1, 1) := by decide +kernel
theorem dX7_linkAt_1 : decode cX7_linkAt 1 = .ok (.ifCond .lt 26, 3) := by decide +kernel
theorem dX7_linkAt_4 : decode cX7_linkAt 4 = .ok (.iload_n 1, 1) := by decide +kernel
theorem dX7_linkAt_5 : decode cX7_linkAt 5 = .ok (.aload_n 0, 1) := by decide +kernel
theorem dX7_linkAt_6 : decode cX7_linkAt 6 = .ok (.getfield 30, 3) := by decide +kernel
theorem dX7_linkAt_9 : decode cX7_linkAt 9 = .ok (.if_icmp .ge 18, 3) := by decide +kernel
theorem dX7_linkAt_12 : decode cX7_linkAt 12 = .ok (.iload_n 1, 1) := by decide +kernel
theorem dX7_linkAt_13 : decode cX7_linkAt 13 = .ok (.bipush 6, 2) := by decide +kernel
theorem dX7_linkAt_15 : decode cX7_linkAt 15 = .ok (.if_icmp .ge 12, 3) := by decide +kernel
theorem dX7_linkAt_18 : decode cX7_linkAt 18 = .ok (.aload_n 0, 1) := by decide +kernel
theorem dX7_linkAt_19 : decode cX7_linkAt 19 = .ok (.getfield 38, 3) := by decide +kernel
theorem dX7_linkAt_22 : decode cX7_linkAt 22 = .ok (.iload_n 1, 1) := by decide +kernel
theorem dX7_linkAt_23 : decode cX7_linkAt 23 = .ok (.aaload, 1) := by decide +kernel
theorem dX7_linkAt_24 : decode cX7_linkAt 24 = .ok (.goto 4, 3) := by decide +kernel
theorem dX7_linkAt_27 : decode cX7_linkAt 27 = .ok (.aconst_null, 1) := by decide +kernel
theorem dX7_linkAt_28 : decode cX7_linkAt 28 = .ok (.areturn, 1) := by decide +kernel
/-! X7_unlearn -/
theorem dX7_unlearn_0 : decode cX7_unlearn 0 = .ok (.aload_n 0, 1) := by decide +kernel
theorem dX7_unlearn_1 : decode cX7_unlearn 1 = .ok (.iconst 0, 1) := by decide +kernel
theorem dX7_unlearn_2 : decode cX7_unlearn 2 = .ok (.invokevirtual 112, 3) := by decide +kernel
theorem dX7_unlearn_5 : decode cX7_unlearn 5 = .ok (.astore_n 1, 1) := by decide +kernel
theorem dX7_unlearn_6 : decode cX7_unlearn 6 = .ok (.aload_n 0, 1) := by decide +kernel
theorem dX7_unlearn_7 : decode cX7_unlearn 7 = .ok (.aload_n 1, 1) := by decide +kernel
theorem dX7_unlearn_8 : decode cX7_unlearn 8 = .ok (.ifnonnull 8, 3) := by decide +kernel
theorem dX7_unlearn_11 : decode cX7_unlearn 11 = .ok (.bipush 28, 2) := by decide +kernel
theorem dX7_unlearn_13 : decode cX7_unlearn 13 = .ok (.goto 7, 3) := by decide +kernel
theorem dX7_unlearn_16 : decode cX7_unlearn 16 = .ok (.aload_n 1, 1) := by decide +kernel
theorem dX7_unlearn_17 : decode cX7_unlearn 17 = .ok (.getfield 116, 3) := by decide +kernel
theorem dX7_unlearn_20 : decode cX7_unlearn 20 = .ok (.putfield 21, 3) := by decide +kernel
theorem dX7_unlearn_23 : decode cX7_unlearn 23 = .ok (.aload_n 0, 1) := by decide +kernel
theorem dX7_unlearn_24 : decode cX7_unlearn 24 = .ok (.bipush 27, 2) := by decide +kernel
theorem dX7_unlearn_26 : decode cX7_unlearn 26 = .ok (.putfield 24, 3) := by decide +kernel
theorem dX7_unlearn_29 : decode cX7_unlearn 29 = .ok (.aload_n 0, 1) := by decide +kernel
theorem dX7_unlearn_30 : decode cX7_unlearn 30 = .ok (.iconst (-1), 1) := by decide +kernel
theorem dX7_unlearn_31 : decode cX7_unlearn 31 = .ok (.putfield 27, 3) := by decide +kernel
theorem dX7_unlearn_34 : decode cX7_unlearn 34 = .ok (.return_, 1) := by decide +kernel
/-! X8_init -/
theorem dX8_init_0 : decode cX8_init 0 = .ok (.aload_n 0, 1) := by decide +kernel
theorem dX8_init_1 : decode cX8_init 1 = .ok (.invokespecial 3, 3) := by decide +kernel
theorem dX8_init_4 : decode cX8_init 4 = .ok (.aload_n 0, 1) := by decide +kernel
theorem dX8_init_5 : decode cX8_init 5 = .ok (.sipush 2048, 3) := by decide +kernel
theorem dX8_init_8 : decode cX8_init 8 = .ok (.newarray .byte, 2) := by decide +kernel
theorem dX8_init_10 : decode cX8_init 10 = .ok (.putfield 11, 3) := by decide +kernel
theorem dX8_init_13 : decode cX8_init 13 = .ok (.aload_n 0, 1) := by decide +kernel
theorem dX8_init_14 : decode cX8_init 14 = .ok (.iconst 0, 1) := by decide +kernel
theorem dX8_init_15 : decode cX8_init 15 = .ok (.putfield 15, 3) := by decide +kernel
theorem dX8_init_18 : decode cX8_init 18 = .ok (.return_, 1) := by decide +kernel
/-! X9_again -/
theorem dX9_again_0 : decode cX9_again 0 = .ok (.aload_n 0, 1) := by decide +kernel
theorem dX9_again_1 : decode cX9_again 1 = .ok (.iload_n 1, 1) := by decide +kernel
theorem dX9_again_2 : decode cX9_again 2 = .ok (.invokevirtual 245, 3) := by decide +kernel
theorem dX9_again_5 : decode cX9_again 5 = .ok (.astore_n 2, 1) := by decide +kernel
theorem dX9_again_6 : decode cX9_again 6 = .ok (.aload_n 2, 1) := by decide +kernel
theorem dX9_again_7 : decode cX9_again 7 = .ok (.getfield 155, 3) := by decide +kernel
theorem dX9_again_10 : decode cX9_again 10 = .ok (.ifCond .eq 6, 3) := by decide +kernel
theorem dX9_again_13 : decode cX9_again 13 = .ok (.bipush (-2), 2) := by decide +kernel
theorem dX9_again_15 : decode cX9_again 15 = .ok (.ireturn, 1) := by decide +kernel
theorem dX9_again_16 : decode cX9_again 16 = .ok (.aload_n 0, 1) := by decide +kernel
theorem dX9_again_17 : decode cX9_again 17 = .ok (.invokevirtual 122, 3) := by decide +kernel
theorem dX9_again_20 : decode cX9_again 20 = .ok (.aload_n 0, 1) := by decide +kernel
theorem dX9_again_21 : decode cX9_again 21 = .ok (.getfield 30, 3) := by decide +kernel
theorem dX9_again_24 : decode cX9_again 24 = .ok (.iload_n 1, 1) := by decide +kernel
theorem dX9_again_25 : decode cX9_again 25 = .ok (.iconst 0, 1) := by decide +kernel
theorem dX9_again_26 : decode cX9_again 26 = .ok (.invokevirtual 160, 3) := by decide +kernel
theorem dX9_again_29 : decode cX9_again 29 = .ok (.aload_n 2, 1) := by decide +kernel
theorem dX9_again_30 : decode cX9_again 30 = .ok (.getfield 256, 3) := by decide +kernel
theorem dX9_again_33 : decode cX9_again 33 = .ok (.ireturn, 1) := by decide +kernel
/-! X9_datagram -/
theorem dX9_datagram_0 : decode cX9_datagram 0 = .ok (.aload_n 0, 1) := by decide +kernel
theorem dX9_datagram_1 : decode cX9_datagram 1 = .ok (.iload_n 1, 1) := by decide +kernel
theorem dX9_datagram_2 : decode cX9_datagram 2 = .ok (.invokevirtual 245, 3) := by decide +kernel
theorem dX9_datagram_5 : decode cX9_datagram 5 = .ok (.astore_n 3, 1) := by decide +kernel
theorem dX9_datagram_6 : decode cX9_datagram 6 = .ok (.iload_n 2, 1) := by decide +kernel
theorem dX9_datagram_7 : decode cX9_datagram 7 = .ok (.iconst 0, 1) := by decide +kernel
theorem dX9_datagram_8 : decode cX9_datagram 8 = .ok (.bipush 8, 2) := by decide +kernel
theorem dX9_datagram_10 : decode cX9_datagram 10 = .ok (.invokestatic 76, 3) := by decide +kernel
theorem dX9_datagram_13 : decode cX9_datagram 13 = .ok (.iload_n 2, 1) := by decide +kernel
theorem dX9_datagram_14 : decode cX9_datagram 14 = .ok (.tableswitch 94 0 7 #[46, 51, 56, 69, 74, 79, 84, 89], 46) := by decide +kernel
theorem dX9_datagram_60 : decode cX9_datagram 60 = .ok (.aload_n 3, 1) := by decide +kernel
theorem dX9_datagram_61 : decode cX9_datagram 61 = .ok (.getfield 248, 3) := by decide +kernel
theorem dX9_datagram_64 : decode cX9_datagram 64 = .ok (.ireturn, 1) := by decide +kernel
theorem dX9_datagram_65 : decode cX9_datagram 65 = .ok (.aload_n 3, 1) := by decide +kernel
theorem dX9_datagram_66 : decode cX9_datagram 66 = .ok (.getfield 249, 3) := by decide +kernel
theorem dX9_datagram_69 : decode cX9_datagram 69 = .ok (.ireturn, 1) := by decide +kernel
theorem dX9_datagram_70 : decode cX9_datagram 70 = .ok (.aload_n 3, 1) := by decide +kernel
theorem dX9_datagram_71 : decode cX9_datagram 71 = .ok (.getfield 252, 3) := by decide +kernel
theorem dX9_datagram_74 : decode cX9_datagram 74 = .ok (.ifCond .eq 7, 3) := by decide +kernel
theorem dX9_datagram_77 : decode cX9_datagram 77 = .ok (.iconst 1, 1) := by decide +kernel
theorem dX9_datagram_78 : decode cX9_datagram 78 = .ok (.goto 4, 3) := by decide +kernel
theorem dX9_datagram_81 : decode cX9_datagram 81 = .ok (.iconst 0, 1) := by decide +kernel
theorem dX9_datagram_82 : decode cX9_datagram 82 = .ok (.ireturn, 1) := by decide +kernel
theorem dX9_datagram_83 : decode cX9_datagram 83 = .ok (.aload_n 3, 1) := by decide +kernel
theorem dX9_datagram_84 : decode cX9_datagram 84 = .ok (.getfield 256, 3) := by decide +kernel
theorem dX9_datagram_87 : decode cX9_datagram 87 = .ok (.ireturn, 1) := by decide +kernel
theorem dX9_datagram_88 : decode cX9_datagram 88 = .ok (.aload_n 3, 1) := by decide +kernel
theorem dX9_datagram_89 : decode cX9_datagram 89 = .ok (.getfield 259, 3) := by decide +kernel
theorem dX9_datagram_92 : decode cX9_datagram 92 = .ok (.ireturn, 1) := by decide +kernel
theorem dX9_datagram_93 : decode cX9_datagram 93 = .ok (.aload_n 3, 1) := by decide +kernel
theorem dX9_datagram_94 : decode cX9_datagram 94 = .ok (.getfield 155, 3) := by decide +kernel
theorem dX9_datagram_97 : decode cX9_datagram 97 = .ok (.ireturn, 1) := by decide +kernel
theorem dX9_datagram_98 : decode cX9_datagram 98 = .ok (.aload_n 3, 1) := by decide +kernel
theorem dX9_datagram_99 : decode cX9_datagram 99 = .ok (.getfield 262, 3) := by decide +kernel
theorem dX9_datagram_102 : decode cX9_datagram 102 = .ok (.ireturn, 1) := by decide +kernel
theorem dX9_datagram_103 : decode cX9_datagram 103 = .ok (.aload_n 3, 1) := by decide +kernel
theorem dX9_datagram_104 : decode cX9_datagram 104 = .ok (.getfield 265, 3) := by decide +kernel
theorem dX9_datagram_107 : decode cX9_datagram 107 = .ok (.ireturn, 1) := by decide +kernel
theorem dX9_datagram_108 : decode cX9_datagram 108 = .ok (.aload_n 0, 1) := by decide +kernel
theorem dX9_datagram_109 : decode cX9_datagram 109 = .ok (.getfield 30, 3) := by decide +kernel
theorem dX9_datagram_112 : decode cX9_datagram 112 = .ok (.getfield 194, 3) := by decide +kernel
theorem dX9_datagram_115 : decode cX9_datagram 115 = .ok (.iload_n 1, 1) := by decide +kernel
theorem dX9_datagram_116 : decode cX9_datagram 116 = .ok (.invokevirtual 268, 3) := by decide +kernel
theorem dX9_datagram_119 : decode cX9_datagram 119 = .ok (.ireturn, 1) := by decide +kernel
/-! X9_endIn -/
theorem dX9_endIn_0 : decode cX9_endIn 0 = .ok (.aload_n 0, 1) := by decide +kernel
theorem dX9_endIn_1 : decode cX9_endIn 1 = .ok (.iload_n 1, 1) := by decide +kernel
theorem dX9_endIn_2 : decode cX9_endIn 2 = .ok (.invokevirtual 245, 3) := by decide +kernel
theorem dX9_endIn_5 : decode cX9_endIn 5 = .ok (.pop, 1) := by decide +kernel
theorem dX9_endIn_6 : decode cX9_endIn 6 = .ok (.aload_n 0, 1) := by decide +kernel
theorem dX9_endIn_7 : decode cX9_endIn 7 = .ok (.iconst 1, 1) := by decide +kernel
theorem dX9_endIn_8 : decode cX9_endIn 8 = .ok (.iload_n 1, 1) := by decide +kernel
theorem dX9_endIn_9 : decode cX9_endIn 9 = .ok (.invokevirtual 393, 3) := by decide +kernel
theorem dX9_endIn_12 : decode cX9_endIn 12 = .ok (.ireturn, 1) := by decide +kernel
/-! X9_errorCode -/
theorem dX9_errorCode_0 : decode cX9_errorCode 0 = .ok (.aload_n 0, 1) := by decide +kernel
theorem dX9_errorCode_1 : decode cX9_errorCode 1 = .ok (.getfield 10, 3) := by decide +kernel
theorem dX9_errorCode_4 : decode cX9_errorCode 4 = .ok (.getfield 176, 3) := by decide +kernel
theorem dX9_errorCode_7 : decode cX9_errorCode 7 = .ok (.ireturn, 1) := by decide +kernel
/-! X9_errorPosition -/
theorem dX9_errorPosition_0 : decode cX9_errorPosition 0 = .ok (.aload_n 0, 1) := by decide +kernel
theorem dX9_errorPosition_1 : decode cX9_errorPosition 1 = .ok (.getfield 10, 3) := by decide +kernel
theorem dX9_errorPosition_4 : decode cX9_errorPosition 4 = .ok (.getfield 179, 3) := by decide +kernel
theorem dX9_errorPosition_7 : decode cX9_errorPosition 7 = .ok (.ireturn, 1) := by decide +kernel
/-! X9_fills -/
theorem dX9_fills_0 : decode cX9_fills 0 = .ok (.aload_n 0, 1) := by decide +kernel
theorem dX9_fills_1 : decode cX9_fills 1 = .ok (.iload_n 1, 1) := by decide +kernel
theorem dX9_fills_2 : decode cX9_fills 2 = .ok (.invokevirtual 245, 3) := by decide +kernel
theorem dX9_fills_5 : decode cX9_fills 5 = .ok (.pop, 1) := by decide +kernel
theorem dX9_fills_6 : decode cX9_fills 6 = .ok (.iload_n 2, 1) := by decide +kernel
theorem dX9_fills_7 : decode cX9_fills 7 = .ok (.iconst 0, 1) := by decide +kernel
theorem dX9_fills_8 : decode cX9_fills 8 = .ok (.sipush 1000, 3) := by decide +kernel
theorem dX9_fills_11 : decode cX9_fills 11 = .ok (.invokestatic 76, 3) := by decide +kernel
theorem dX9_fills_14 : decode cX9_fills 14 = .ok (.iload_n 3, 1) := by decide +kernel
theorem dX9_fills_15 : decode cX9_fills 15 = .ok (.iconst 1, 1) := by decide +kernel
theorem dX9_fills_16 : decode cX9_fills 16 = .ok (.sipush 1000, 3) := by decide +kernel
theorem dX9_fills_19 : decode cX9_fills 19 = .ok (.invokestatic 76, 3) := by decide +kernel
theorem dX9_fills_22 : decode cX9_fills 22 = .ok (.aload_n 0, 1) := by decide +kernel
theorem dX9_fills_23 : decode cX9_fills 23 = .ok (.getfield 30, 3) := by decide +kernel
theorem dX9_fills_26 : decode cX9_fills 26 = .ok (.iload_n 1, 1) := by decide +kernel
theorem dX9_fills_27 : decode cX9_fills 27 = .ok (.invokevirtual 305, 3) := by decide +kernel
theorem dX9_fills_30 : decode cX9_fills 30 = .ok (.astore 4, 2) := by decide +kernel
theorem dX9_fills_32 : decode cX9_fills 32 = .ok (.aload 4, 2) := by decide +kernel
theorem dX9_fills_34 : decode cX9_fills 34 = .ok (.ifnull 29, 3) := by decide +kernel
theorem dX9_fills_37 : decode cX9_fills 37 = .ok (.aload 4, 2) := by decide +kernel
theorem dX9_fills_39 : decode cX9_fills 39 = .ok (.iconst 0, 1) := by decide +kernel
theorem dX9_fills_40 : decode cX9_fills 40 = .ok (.iconst 0, 1) := by decide +kernel
theorem dX9_fills_41 : decode cX9_fills 41 = .ok (.invokevirtual 390, 3) := by decide +kernel
theorem dX9_fills_44 : decode cX9_fills 44 = .ok (.ifCond .le 19, 3) := by decide +kernel
theorem dX9_fills_47 : decode cX9_fills 47 = .ok (.aload 4, 2) := by decide +kernel
theorem dX9_fills_49 : decode cX9_fills 49 = .ok (.iload_n 2, 1) := by decide +kernel
theorem dX9_fills_50 : decode cX9_fills 50 = .ok (.iload_n 2, 1) := by decide +kernel
theorem dX9_fills_51 : decode cX9_fills 51 = .ok (.iload_n 3, 1) := by decide +kernel
theorem dX9_fills_52 : decode cX9_fills 52 = .ok (.iadd, 1) := by decide +kernel
theorem dX9_fills_53 : decode cX9_fills 53 = .ok (.invokevirtual 390, 3) := by decide +kernel
theorem dX9_fills_56 : decode cX9_fills 56 = .ok (.ifCond .ne 7, 3) := by decide +kernel
theorem dX9_fills_59 : decode cX9_fills 59 = .ok (.iconst 1, 1) := by decide +kernel
theorem dX9_fills_60 : decode cX9_fills 60 = .ok (.goto 4, 3) := by decide +kernel
theorem dX9_fills_63 : decode cX9_fills 63 = .ok (.iconst 0, 1) := by decide +kernel
theorem dX9_fills_64 : decode cX9_fills 64 = .ok (.ireturn, 1) := by decide +kernel
/-! X9_forge -/
theorem dX9_forge_0 : decode cX9_forge 0 = .ok (.aload_n 0, 1) := by decide +kernel
theorem dX9_forge_1 : decode cX9_forge 1 = .ok (.iload_n 1, 1) := by decide +kernel
theorem dX9_forge_2 : decode cX9_forge 2 = .ok (.invokevirtual 245, 3) := by decide +kernel
theorem dX9_forge_5 : decode cX9_forge 5 = .ok (.pop, 1) := by decide +kernel
theorem dX9_forge_6 : decode cX9_forge 6 = .ok (.iload_n 2, 1) := by decide +kernel
theorem dX9_forge_7 : decode cX9_forge 7 = .ok (.iconst 0, 1) := by decide +kernel
theorem dX9_forge_8 : decode cX9_forge 8 = .ok (.sipush 992, 3) := by decide +kernel
theorem dX9_forge_11 : decode cX9_forge 11 = .ok (.invokestatic 76, 3) := by decide +kernel
theorem dX9_forge_14 : decode cX9_forge 14 = .ok (.iload_n 2, 1) := by decide +kernel
theorem dX9_forge_15 : decode cX9_forge 15 = .ok (.bipush 8, 2) := by decide +kernel
theorem dX9_forge_17 : decode cX9_forge 17 = .ok (.irem, 1) := by decide +kernel
theorem dX9_forge_18 : decode cX9_forge 18 = .ok (.ifCond .eq 14, 3) := by decide +kernel
theorem dX9_forge_21 : decode cX9_forge 21 = .ok (.new 83, 3) := by decide +kernel
theorem dX9_forge_24 : decode cX9_forge 24 = .ok (.dup, 1) := by decide +kernel
theorem dX9_forge_25 : decode cX9_forge 25 = .ok (.ldc_w 417, 3) := by decide +kernel
theorem dX9_forge_28 : decode cX9_forge 28 = .ok (.invokespecial 87, 3) := by decide +kernel
theorem dX9_forge_31 : decode cX9_forge 31 = .ok (.athrow, 1) := by decide +kernel
theorem dX9_forge_32 : decode cX9_forge 32 = .ok (.iload_n 3, 1) := by decide +kernel
theorem dX9_forge_33 : decode cX9_forge 33 = .ok (.iconst 1, 1) := by decide +kernel
theorem dX9_forge_34 : decode cX9_forge 34 = .ok (.sipush 200, 3) := by decide +kernel
theorem dX9_forge_37 : decode cX9_forge 37 = .ok (.invokestatic 76, 3) := by decide +kernel
theorem dX9_forge_40 : decode cX9_forge 40 = .ok (.iload 4, 2) := by decide +kernel
theorem dX9_forge_42 : decode cX9_forge 42 = .ok (.iconst 0, 1) := by decide +kernel
theorem dX9_forge_43 : decode cX9_forge 43 = .ok (.sipush 255, 3) := by decide +kernel
theorem dX9_forge_46 : decode cX9_forge 46 = .ok (.invokestatic 76, 3) := by decide +kernel
theorem dX9_forge_49 : decode cX9_forge 49 = .ok (.aload_n 0, 1) := by decide +kernel
theorem dX9_forge_50 : decode cX9_forge 50 = .ok (.invokevirtual 122, 3) := by decide +kernel
theorem dX9_forge_53 : decode cX9_forge 53 = .ok (.aload_n 0, 1) := by decide +kernel
theorem dX9_forge_54 : decode cX9_forge 54 = .ok (.getfield 30, 3) := by decide +kernel
theorem dX9_forge_57 : decode cX9_forge 57 = .ok (.iload_n 1, 1) := by decide +kernel
theorem dX9_forge_58 : decode cX9_forge 58 = .ok (.iload_n 2, 1) := by decide +kernel
theorem dX9_forge_59 : decode cX9_forge 59 = .ok (.iload_n 3, 1) := by decide +kernel
theorem dX9_forge_60 : decode cX9_forge 60 = .ok (.iload 4, 2) := by decide +kernel
theorem dX9_forge_62 : decode cX9_forge 62 = .ok (.iload 5, 2) := by decide +kernel
theorem dX9_forge_64 : decode cX9_forge 64 = .ok (.ifCond .ne 7, 3) := by decide +kernel
theorem dX9_forge_67 : decode cX9_forge 67 = .ok (.iconst 1, 1) := by decide +kernel
theorem dX9_forge_68 : decode cX9_forge 68 = .ok (.goto 4, 3) := by decide +kernel
theorem dX9_forge_71 : decode cX9_forge 71 = .ok (.iconst 0, 1) := by decide +kernel
theorem dX9_forge_72 : decode cX9_forge 72 = .ok (.invokevirtual 134, 3) := by decide +kernel
theorem dX9_forge_75 : decode cX9_forge 75 = .ok (.pop, 1) := by decide +kernel
theorem dX9_forge_76 : decode cX9_forge 76 = .ok (.aload_n 0, 1) := by decide +kernel
theorem dX9_forge_77 : decode cX9_forge 77 = .ok (.getfield 30, 3) := by decide +kernel
theorem dX9_forge_80 : decode cX9_forge 80 = .ok (.iload_n 1, 1) := by decide +kernel
theorem dX9_forge_81 : decode cX9_forge 81 = .ok (.invokevirtual 305, 3) := by decide +kernel
theorem dX9_forge_84 : decode cX9_forge 84 = .ok (.astore 6, 2) := by decide +kernel
theorem dX9_forge_86 : decode cX9_forge 86 = .ok (.aload 6, 2) := by decide +kernel
theorem dX9_forge_88 : decode cX9_forge 88 = .ok (.ifnonnull 7, 3) := by decide +kernel
theorem dX9_forge_91 : decode cX9_forge 91 = .ok (.iconst 0, 1) := by decide +kernel
theorem dX9_forge_92 : decode cX9_forge 92 = .ok (.goto 8, 3) := by decide +kernel
theorem dX9_forge_95 : decode cX9_forge 95 = .ok (.aload 6, 2) := by decide +kernel
theorem dX9_forge_97 : decode cX9_forge 97 = .ok (.getfield 317, 3) := by decide +kernel
theorem dX9_forge_100 : decode cX9_forge 100 = .ok (.ireturn, 1) := by decide +kernel
/-! X9_handedIn -/
theorem dX9_handedIn_0 : decode cX9_handedIn 0 = .ok (.aload_n 0, 1) := by decide +kernel
theorem dX9_handedIn_1 : decode cX9_handedIn 1 = .ok (.iload_n 1, 1) := by decide +kernel
theorem dX9_handedIn_2 : decode cX9_handedIn 2 = .ok (.invokevirtual 245, 3) := by decide +kernel
theorem dX9_handedIn_5 : decode cX9_handedIn 5 = .ok (.pop, 1) := by decide +kernel
theorem dX9_handedIn_6 : decode cX9_handedIn 6 = .ok (.aload_n 0, 1) := by decide +kernel
theorem dX9_handedIn_7 : decode cX9_handedIn 7 = .ok (.iconst 0, 1) := by decide +kernel
theorem dX9_handedIn_8 : decode cX9_handedIn 8 = .ok (.iload_n 1, 1) := by decide +kernel
theorem dX9_handedIn_9 : decode cX9_handedIn 9 = .ok (.invokevirtual 393, 3) := by decide +kernel
theorem dX9_handedIn_12 : decode cX9_handedIn 12 = .ok (.ireturn, 1) := by decide +kernel
/-! X9_heap -/
theorem dX9_heap_0 : decode cX9_heap 0 = .ok (.aload_n 0, 1) := by decide +kernel
theorem dX9_heap_1 : decode cX9_heap 1 = .ok (.iload_n 1, 1) := by decide +kernel
theorem dX9_heap_2 : decode cX9_heap 2 = .ok (.invokevirtual 245, 3) := by decide +kernel
theorem dX9_heap_5 : decode cX9_heap 5 = .ok (.pop, 1) := by decide +kernel
theorem dX9_heap_6 : decode cX9_heap 6 = .ok (.iload_n 2, 1) := by decide +kernel
theorem dX9_heap_7 : decode cX9_heap 7 = .ok (.iconst 0, 1) := by decide +kernel
theorem dX9_heap_8 : decode cX9_heap 8 = .ok (.bipush 6, 2) := by decide +kernel
theorem dX9_heap_10 : decode cX9_heap 10 = .ok (.invokestatic 76, 3) := by decide +kernel
theorem dX9_heap_13 : decode cX9_heap 13 = .ok (.aload_n 0, 1) := by decide +kernel
theorem dX9_heap_14 : decode cX9_heap 14 = .ok (.getfield 30, 3) := by decide +kernel
theorem dX9_heap_17 : decode cX9_heap 17 = .ok (.iload_n 1, 1) := by decide +kernel
theorem dX9_heap_18 : decode cX9_heap 18 = .ok (.invokevirtual 305, 3) := by decide +kernel
theorem dX9_heap_21 : decode cX9_heap 21 = .ok (.astore_n 3, 1) := by decide +kernel
theorem dX9_heap_22 : decode cX9_heap 22 = .ok (.aload_n 3, 1) := by decide +kernel
theorem dX9_heap_23 : decode cX9_heap 23 = .ok (.ifnonnull 5, 3) := by decide +kernel
theorem dX9_heap_26 : decode cX9_heap 26 = .ok (.iconst (-1), 1) := by decide +kernel
theorem dX9_heap_27 : decode cX9_heap 27 = .ok (.ireturn, 1) := by decide +kernel
theorem dX9_heap_28 : decode cX9_heap 28 = .ok (.iload_n 2, 1) := by decide +kernel
theorem dX9_heap_29 : decode cX9_heap 29 = .ok (.tableswitch 69 0 5 #[39, 44, 49, 54, 59, 64], 39) := by decide +kernel
theorem dX9_heap_68 : decode cX9_heap 68 = .ok (.aload_n 3, 1) := by decide +kernel
theorem dX9_heap_69 : decode cX9_heap 69 = .ok (.getfield 309, 3) := by decide +kernel
theorem dX9_heap_72 : decode cX9_heap 72 = .ok (.ireturn, 1) := by decide +kernel
theorem dX9_heap_73 : decode cX9_heap 73 = .ok (.aload_n 3, 1) := by decide +kernel
theorem dX9_heap_74 : decode cX9_heap 74 = .ok (.getfield 314, 3) := by decide +kernel
theorem dX9_heap_77 : decode cX9_heap 77 = .ok (.ireturn, 1) := by decide +kernel
theorem dX9_heap_78 : decode cX9_heap 78 = .ok (.aload_n 3, 1) := by decide +kernel
theorem dX9_heap_79 : decode cX9_heap 79 = .ok (.getfield 317, 3) := by decide +kernel
theorem dX9_heap_82 : decode cX9_heap 82 = .ok (.ireturn, 1) := by decide +kernel
theorem dX9_heap_83 : decode cX9_heap 83 = .ok (.aload_n 3, 1) := by decide +kernel
theorem dX9_heap_84 : decode cX9_heap 84 = .ok (.invokevirtual 320, 3) := by decide +kernel
theorem dX9_heap_87 : decode cX9_heap 87 = .ok (.ireturn, 1) := by decide +kernel
theorem dX9_heap_88 : decode cX9_heap 88 = .ok (.aload_n 3, 1) := by decide +kernel
theorem dX9_heap_89 : decode cX9_heap 89 = .ok (.getfield 323, 3) := by decide +kernel
theorem dX9_heap_92 : decode cX9_heap 92 = .ok (.ireturn, 1) := by decide +kernel
theorem dX9_heap_93 : decode cX9_heap 93 = .ok (.aload_n 3, 1) := by decide +kernel
theorem dX9_heap_94 : decode cX9_heap 94 = .ok (.getfield 326, 3) := by decide +kernel
theorem dX9_heap_97 : decode cX9_heap 97 = .ok (.ireturn, 1) := by decide +kernel
theorem dX9_heap_98 : decode cX9_heap 98 = .ok (.aload_n 3, 1) := by decide +kernel
theorem dX9_heap_99 : decode cX9_heap 99 = .ok (.getfield 329, 3) := by decide +kernel
theorem dX9_heap_102 : decode cX9_heap 102 = .ok (.ireturn, 1) := by decide +kernel
/-! X9_heapByte -/
theorem dX9_heapByte_0 : decode cX9_heapByte 0 = .ok (.aload_n 0, 1) := by decide +kernel
theorem dX9_heapByte_1 : decode cX9_heapByte 1 = .ok (.iload_n 1, 1) := by decide +kernel
theorem dX9_heapByte_2 : decode cX9_heapByte 2 = .ok (.invokevirtual 245, 3) := by decide +kernel
theorem dX9_heapByte_5 : decode cX9_heapByte 5 = .ok (.pop, 1) := by decide +kernel
theorem dX9_heapByte_6 : decode cX9_heapByte 6 = .ok (.aload_n 0, 1) := by decide +kernel
theorem dX9_heapByte_7 : decode cX9_heapByte 7 = .ok (.getfield 30, 3) := by decide +kernel
theorem dX9_heapByte_10 : decode cX9_heapByte 10 = .ok (.iload_n 1, 1) := by decide +kernel
theorem dX9_heapByte_11 : decode cX9_heapByte 11 = .ok (.invokevirtual 305, 3) := by decide +kernel
theorem dX9_heapByte_14 : decode cX9_heapByte 14 = .ok (.astore_n 3, 1) := by decide +kernel
theorem dX9_heapByte_15 : decode cX9_heapByte 15 = .ok (.aload_n 3, 1) := by decide +kernel
theorem dX9_heapByte_16 : decode cX9_heapByte 16 = .ok (.ifnonnull 7, 3) := by decide +kernel
theorem dX9_heapByte_19 : decode cX9_heapByte 19 = .ok (.iconst (-1), 1) := by decide +kernel
theorem dX9_heapByte_20 : decode cX9_heapByte 20 = .ok (.goto 8, 3) := by decide +kernel
theorem dX9_heapByte_23 : decode cX9_heapByte 23 = .ok (.aload_n 3, 1) := by decide +kernel
theorem dX9_heapByte_24 : decode cX9_heapByte 24 = .ok (.iload_n 2, 1) := by decide +kernel
theorem dX9_heapByte_25 : decode cX9_heapByte 25 = .ok (.invokevirtual 338, 3) := by decide +kernel
theorem dX9_heapByte_28 : decode cX9_heapByte 28 = .ok (.ireturn, 1) := by decide +kernel
/-! X9_hole -/
theorem dX9_hole_0 : decode cX9_hole 0 = .ok (.aload_n 0, 1) := by decide +kernel
theorem dX9_hole_1 : decode cX9_hole 1 = .ok (.iload_n 1, 1) := by decide +kernel
theorem dX9_hole_2 : decode cX9_hole 2 = .ok (.invokevirtual 245, 3) := by decide +kernel
theorem dX9_hole_5 : decode cX9_hole 5 = .ok (.pop, 1) := by decide +kernel
theorem dX9_hole_6 : decode cX9_hole 6 = .ok (.iload_n 3, 1) := by decide +kernel
theorem dX9_hole_7 : decode cX9_hole 7 = .ok (.iconst 0, 1) := by decide +kernel
theorem dX9_hole_8 : decode cX9_hole 8 = .ok (.iconst 1, 1) := by decide +kernel
theorem dX9_hole_9 : decode cX9_hole 9 = .ok (.invokestatic 76, 3) := by decide +kernel
theorem dX9_hole_12 : decode cX9_hole 12 = .ok (.aload_n 0, 1) := by decide +kernel
theorem dX9_hole_13 : decode cX9_hole 13 = .ok (.getfield 30, 3) := by decide +kernel
theorem dX9_hole_16 : decode cX9_hole 16 = .ok (.iload_n 1, 1) := by decide +kernel
theorem dX9_hole_17 : decode cX9_hole 17 = .ok (.invokevirtual 305, 3) := by decide +kernel
theorem dX9_hole_20 : decode cX9_hole 20 = .ok (.astore 4, 2) := by decide +kernel
theorem dX9_hole_22 : decode cX9_hole 22 = .ok (.aload 4, 2) := by decide +kernel
theorem dX9_hole_24 : decode cX9_hole 24 = .ok (.ifnonnull 5, 3) := by decide +kernel
theorem dX9_hole_27 : decode cX9_hole 27 = .ok (.iconst (-1), 1) := by decide +kernel
theorem dX9_hole_28 : decode cX9_hole 28 = .ok (.ireturn, 1) := by decide +kernel
theorem dX9_hole_29 : decode cX9_hole 29 = .ok (.aload 4, 2) := by decide +kernel
theorem dX9_hole_31 : decode cX9_hole 31 = .ok (.iload_n 2, 1) := by decide +kernel
theorem dX9_hole_32 : decode cX9_hole 32 = .ok (.invokevirtual 332, 3) := by decide +kernel
theorem dX9_hole_35 : decode cX9_hole 35 = .ok (.istore 5, 2) := by decide +kernel
theorem dX9_hole_37 : decode cX9_hole 37 = .ok (.iload_n 3, 1) := by decide +kernel
theorem dX9_hole_38 : decode cX9_hole 38 = .ok (.ifCond .eq 9, 3) := by decide +kernel
theorem dX9_hole_41 : decode cX9_hole 41 = .ok (.iload 5, 2) := by decide +kernel
theorem dX9_hole_43 : decode cX9_hole 43 = .ok (.iconst (-1), 1) := by decide +kernel
theorem dX9_hole_44 : decode cX9_hole 44 = .ok (.if_icmp .ne 8, 3) := by decide +kernel
theorem dX9_hole_47 : decode cX9_hole 47 = .ok (.iload 5, 2) := by decide +kernel
theorem dX9_hole_49 : decode cX9_hole 49 = .ok (.goto 10, 3) := by decide +kernel
theorem dX9_hole_52 : decode cX9_hole 52 = .ok (.aload 4, 2) := by decide +kernel
theorem dX9_hole_54 : decode cX9_hole 54 = .ok (.iload 5, 2) := by decide +kernel
theorem dX9_hole_56 : decode cX9_hole 56 = .ok (.invokevirtual 335, 3) := by decide +kernel
theorem dX9_hole_59 : decode cX9_hole 59 = .ok (.ireturn, 1) := by decide +kernel
/-! X9_init -/
theorem dX9_init_0 : decode cX9_init 0 = .ok (.aload_n 0, 1) := by decide +kernel
theorem dX9_init_1 : decode cX9_init 1 = .ok (.invokespecial 1, 3) := by decide +kernel
theorem dX9_init_4 : decode cX9_init 4 = .ok (.aload_n 0, 1) := by decide +kernel
theorem dX9_init_5 : decode cX9_init 5 = .ok (.new 7, 3) := by decide +kernel
theorem dX9_init_8 : decode cX9_init 8 = .ok (.dup, 1) := by decide +kernel
theorem dX9_init_9 : decode cX9_init 9 = .ok (.invokespecial 9, 3) := by decide +kernel
theorem dX9_init_12 : decode cX9_init 12 = .ok (.putfield 10, 3) := by decide +kernel
theorem dX9_init_15 : decode cX9_init 15 = .ok (.aload_n 0, 1) := by decide +kernel
theorem dX9_init_16 : decode cX9_init 16 = .ok (.new 16, 3) := by decide +kernel
theorem dX9_init_19 : decode cX9_init 19 = .ok (.dup, 1) := by decide +kernel
theorem dX9_init_20 : decode cX9_init 20 = .ok (.invokespecial 18, 3) := by decide +kernel
theorem dX9_init_23 : decode cX9_init 23 = .ok (.putfield 19, 3) := by decide +kernel
theorem dX9_init_26 : decode cX9_init 26 = .ok (.aload_n 0, 1) := by decide +kernel
theorem dX9_init_27 : decode cX9_init 27 = .ok (.sipush 1001, 3) := by decide +kernel
theorem dX9_init_30 : decode cX9_init 30 = .ok (.newarray .int, 2) := by decide +kernel
theorem dX9_init_32 : decode cX9_init 32 = .ok (.putfield 23, 3) := by decide +kernel
theorem dX9_init_35 : decode cX9_init 35 = .ok (.aload_n 0, 1) := by decide +kernel
theorem dX9_init_36 : decode cX9_init 36 = .ok (.new 27, 3) := by decide +kernel
theorem dX9_init_39 : decode cX9_init 39 = .ok (.dup, 1) := by decide +kernel
theorem dX9_init_40 : decode cX9_init 40 = .ok (.invokespecial 29, 3) := by decide +kernel
theorem dX9_init_43 : decode cX9_init 43 = .ok (.putfield 30, 3) := by decide +kernel
theorem dX9_init_46 : decode cX9_init 46 = .ok (.aload_n 0, 1) := by decide +kernel
theorem dX9_init_47 : decode cX9_init 47 = .ok (.bipush 8, 2) := by decide +kernel
theorem dX9_init_49 : decode cX9_init 49 = .ok (.anewarray 27, 3) := by decide +kernel
theorem dX9_init_52 : decode cX9_init 52 = .ok (.putfield 34, 3) := by decide +kernel
theorem dX9_init_55 : decode cX9_init 55 = .ok (.aload_n 0, 1) := by decide +kernel
theorem dX9_init_56 : decode cX9_init 56 = .ok (.iconst 0, 1) := by decide +kernel
theorem dX9_init_57 : decode cX9_init 57 = .ok (.putfield 38, 3) := by decide +kernel
theorem dX9_init_60 : decode cX9_init 60 = .ok (.aload_n 0, 1) := by decide +kernel
theorem dX9_init_61 : decode cX9_init 61 = .ok (.iconst 0, 1) := by decide +kernel
theorem dX9_init_62 : decode cX9_init 62 = .ok (.putfield 42, 3) := by decide +kernel
theorem dX9_init_65 : decode cX9_init 65 = .ok (.aload_n 0, 1) := by decide +kernel
theorem dX9_init_66 : decode cX9_init 66 = .ok (.aconst_null, 1) := by decide +kernel
theorem dX9_init_67 : decode cX9_init 67 = .ok (.putfield 45, 3) := by decide +kernel
theorem dX9_init_70 : decode cX9_init 70 = .ok (.aload_n 0, 1) := by decide +kernel
theorem dX9_init_71 : decode cX9_init 71 = .ok (.aconst_null, 1) := by decide +kernel
theorem dX9_init_72 : decode cX9_init 72 = .ok (.putfield 48, 3) := by decide +kernel
theorem dX9_init_75 : decode cX9_init 75 = .ok (.aload_n 0, 1) := by decide +kernel
theorem dX9_init_76 : decode cX9_init 76 = .ok (.getfield 30, 3) := by decide +kernel
theorem dX9_init_79 : decode cX9_init 79 = .ok (.sipush 576, 3) := by decide +kernel
theorem dX9_init_82 : decode cX9_init 82 = .ok (.iconst 1, 1) := by decide +kernel
theorem dX9_init_83 : decode cX9_init 83 = .ok (.iconst 0, 1) := by decide +kernel
theorem dX9_init_84 : decode cX9_init 84 = .ok (.invokevirtual 51, 3) := by decide +kernel
theorem dX9_init_87 : decode cX9_init 87 = .ok (.aload_n 0, 1) := by decide +kernel
theorem dX9_init_88 : decode cX9_init 88 = .ok (.getfield 30, 3) := by decide +kernel
theorem dX9_init_91 : decode cX9_init 91 = .ok (.invokevirtual 55, 3) := by decide +kernel
theorem dX9_init_94 : decode cX9_init 94 = .ok (.return_, 1) := by decide +kernel
/-! X9_missing -/
theorem dX9_missing_0 : decode cX9_missing 0 = .ok (.aload_n 0, 1) := by decide +kernel
theorem dX9_missing_1 : decode cX9_missing 1 = .ok (.iload_n 1, 1) := by decide +kernel
theorem dX9_missing_2 : decode cX9_missing 2 = .ok (.invokevirtual 245, 3) := by decide +kernel
theorem dX9_missing_5 : decode cX9_missing 5 = .ok (.pop, 1) := by decide +kernel
theorem dX9_missing_6 : decode cX9_missing 6 = .ok (.aload_n 0, 1) := by decide +kernel
theorem dX9_missing_7 : decode cX9_missing 7 = .ok (.getfield 30, 3) := by decide +kernel
theorem dX9_missing_10 : decode cX9_missing 10 = .ok (.iload_n 1, 1) := by decide +kernel
theorem dX9_missing_11 : decode cX9_missing 11 = .ok (.invokevirtual 305, 3) := by decide +kernel
theorem dX9_missing_14 : decode cX9_missing 14 = .ok (.astore_n 2, 1) := by decide +kernel
theorem dX9_missing_15 : decode cX9_missing 15 = .ok (.aload_n 2, 1) := by decide +kernel
theorem dX9_missing_16 : decode cX9_missing 16 = .ok (.ifnonnull 7, 3) := by decide +kernel
theorem dX9_missing_19 : decode cX9_missing 19 = .ok (.iconst (-1), 1) := by decide +kernel
theorem dX9_missing_20 : decode cX9_missing 20 = .ok (.goto 9, 3) := by decide +kernel
theorem dX9_missing_23 : decode cX9_missing 23 = .ok (.aload_n 2, 1) := by decide +kernel
theorem dX9_missing_24 : decode cX9_missing 24 = .ok (.iconst 0, 1) := by decide +kernel
theorem dX9_missing_25 : decode cX9_missing 25 = .ok (.iconst 0, 1) := by decide +kernel
theorem dX9_missing_26 : decode cX9_missing 26 = .ok (.invokevirtual 390, 3) := by decide +kernel
theorem dX9_missing_29 : decode cX9_missing 29 = .ok (.ireturn, 1) := by decide +kernel
/-! X9_needDatagram -/
theorem dX9_needDatagram_0 : decode cX9_needDatagram 0 = .ok (.aload_n 0, 1) := by decide +kernel
theorem dX9_needDatagram_1 : decode cX9_needDatagram 1 = .ok (.getfield 30, 3) := by decide +kernel
theorem dX9_needDatagram_4 : decode cX9_needDatagram 4 = .ok (.iload_n 1, 1) := by decide +kernel
theorem dX9_needDatagram_5 : decode cX9_needDatagram 5 = .ok (.invokevirtual 151, 3) := by decide +kernel
theorem dX9_needDatagram_8 : decode cX9_needDatagram 8 = .ok (.astore_n 2, 1) := by decide +kernel
theorem dX9_needDatagram_9 : decode cX9_needDatagram 9 = .ok (.aload_n 2, 1) := by decide +kernel
theorem dX9_needDatagram_10 : decode cX9_needDatagram 10 = .ok (.ifnonnull 14, 3) := by decide +kernel
theorem dX9_needDatagram_13 : decode cX9_needDatagram 13 = .ok (.new 277, 3) := by decide +kernel
theorem dX9_needDatagram_16 : decode cX9_needDatagram 16 = .ok (.dup, 1) := by decide +kernel
theorem dX9_needDatagram_17 : decode cX9_needDatagram 17 = .ok (.ldc_w 448, 3) := by decide +kernel
theorem dX9_needDatagram_20 : decode cX9_needDatagram 20 = .ok (.invokespecial 281, 3) := by decide +kernel
theorem dX9_needDatagram_23 : decode cX9_needDatagram 23 = .ok (.athrow, 1) := by decide +kernel
theorem dX9_needDatagram_24 : decode cX9_needDatagram 24 = .ok (.aload_n 2, 1) := by decide +kernel
theorem dX9_needDatagram_25 : decode cX9_needDatagram 25 = .ok (.areturn, 1) := by decide +kernel
/-! X9_needLink -/
theorem dX9_needLink_0 : decode cX9_needLink 0 = .ok (.aload_n 0, 1) := by decide +kernel
theorem dX9_needLink_1 : decode cX9_needLink 1 = .ok (.getfield 30, 3) := by decide +kernel
theorem dX9_needLink_4 : decode cX9_needLink 4 = .ok (.iload_n 1, 1) := by decide +kernel
theorem dX9_needLink_5 : decode cX9_needLink 5 = .ok (.invokevirtual 164, 3) := by decide +kernel
theorem dX9_needLink_8 : decode cX9_needLink 8 = .ok (.astore_n 2, 1) := by decide +kernel
theorem dX9_needLink_9 : decode cX9_needLink 9 = .ok (.aload_n 2, 1) := by decide +kernel
theorem dX9_needLink_10 : decode cX9_needLink 10 = .ok (.ifnonnull 14, 3) := by decide +kernel
theorem dX9_needLink_13 : decode cX9_needLink 13 = .ok (.new 277, 3) := by decide +kernel
theorem dX9_needLink_16 : decode cX9_needLink 16 = .ok (.dup, 1) := by decide +kernel
theorem dX9_needLink_17 : decode cX9_needLink 17 = .ok (.ldc_w 446, 3) := by decide +kernel
theorem dX9_needLink_20 : decode cX9_needLink 20 = .ok (.invokespecial 281, 3) := by decide +kernel
theorem dX9_needLink_23 : decode cX9_needLink 23 = .ok (.athrow, 1) := by decide +kernel
theorem dX9_needLink_24 : decode cX9_needLink 24 = .ok (.aload_n 2, 1) := by decide +kernel
theorem dX9_needLink_25 : decode cX9_needLink 25 = .ok (.areturn, 1) := by decide +kernel
/-! X9_needRange -/
theorem dX9_needRange_0 : decode cX9_needRange 0 = .ok (.iload_n 0, 1) := by decide +kernel
theorem dX9_needRange_1 : decode cX9_needRange 1 = .ok (.iload_n 1, 1) := by decide +kernel
theorem dX9_needRange_2 : decode cX9_needRange 2 = .ok (.if_icmp .lt 8, 3) := by decide +kernel
theorem dX9_needRange_5 : decode cX9_needRange 5 = .ok (.iload_n 0, 1) := by decide +kernel
theorem dX9_needRange_6 : decode cX9_needRange 6 = .ok (.iload_n 2, 1) := by decide +kernel
theorem dX9_needRange_7 : decode cX9_needRange 7 = .ok (.if_icmp .le 14, 3) := by decide +kernel
theorem dX9_needRange_10 : decode cX9_needRange 10 = .ok (.new 83, 3) := by decide +kernel
theorem dX9_needRange_13 : decode cX9_needRange 13 = .ok (.dup, 1) := by decide +kernel
theorem dX9_needRange_14 : decode cX9_needRange 14 = .ok (.ldc_w 450, 3) := by decide +kernel
theorem dX9_needRange_17 : decode cX9_needRange 17 = .ok (.invokespecial 87, 3) := by decide +kernel
theorem dX9_needRange_20 : decode cX9_needRange 20 = .ok (.athrow, 1) := by decide +kernel
theorem dX9_needRange_21 : decode cX9_needRange 21 = .ok (.return_, 1) := by decide +kernel
/-! X9_ownByte -/
theorem dX9_ownByte_0 : decode cX9_ownByte 0 = .ok (.aload_n 0, 1) := by decide +kernel
theorem dX9_ownByte_1 : decode cX9_ownByte 1 = .ok (.iload_n 1, 1) := by decide +kernel
theorem dX9_ownByte_2 : decode cX9_ownByte 2 = .ok (.invokevirtual 245, 3) := by decide +kernel
theorem dX9_ownByte_5 : decode cX9_ownByte 5 = .ok (.astore_n 3, 1) := by decide +kernel
theorem dX9_ownByte_6 : decode cX9_ownByte 6 = .ok (.iload_n 2, 1) := by decide +kernel
theorem dX9_ownByte_7 : decode cX9_ownByte 7 = .ok (.ifCond .lt 19, 3) := by decide +kernel
theorem dX9_ownByte_10 : decode cX9_ownByte 10 = .ok (.iload_n 2, 1) := by decide +kernel
theorem dX9_ownByte_11 : decode cX9_ownByte 11 = .ok (.aload_n 3, 1) := by decide +kernel
theorem dX9_ownByte_12 : decode cX9_ownByte 12 = .ok (.getfield 248, 3) := by decide +kernel
theorem dX9_ownByte_15 : decode cX9_ownByte 15 = .ok (.if_icmp .ge 11, 3) := by decide +kernel
theorem dX9_ownByte_18 : decode cX9_ownByte 18 = .ok (.aload_n 3, 1) := by decide +kernel
theorem dX9_ownByte_19 : decode cX9_ownByte 19 = .ok (.iload_n 2, 1) := by decide +kernel
theorem dX9_ownByte_20 : decode cX9_ownByte 20 = .ok (.invokevirtual 271, 3) := by decide +kernel
theorem dX9_ownByte_23 : decode cX9_ownByte 23 = .ok (.goto 4, 3) := by decide +kernel
theorem dX9_ownByte_26 : decode cX9_ownByte 26 = .ok (.iconst (-1), 1) := by decide +kernel
theorem dX9_ownByte_27 : decode cX9_ownByte 27 = .ok (.ireturn, 1) := by decide +kernel
/-! X9_setIn -/
theorem dX9_setIn_0 : decode cX9_setIn 0 = .ok (.iload_n 1, 1) := by decide +kernel
theorem dX9_setIn_1 : decode cX9_setIn 1 = .ok (.ifCond .lt 13, 3) := by decide +kernel
theorem dX9_setIn_4 : decode cX9_setIn 4 = .ok (.iload_n 1, 1) := by decide +kernel
theorem dX9_setIn_5 : decode cX9_setIn 5 = .ok (.aload_n 0, 1) := by decide +kernel
theorem dX9_setIn_6 : decode cX9_setIn 6 = .ok (.arraylength, 1) := by decide +kernel
theorem dX9_setIn_7 : decode cX9_setIn 7 = .ok (.if_icmp .ge 7, 3) := by decide +kernel
theorem dX9_setIn_10 : decode cX9_setIn 10 = .ok (.aload_n 0, 1) := by decide +kernel
theorem dX9_setIn_11 : decode cX9_setIn 11 = .ok (.iload_n 1, 1) := by decide +kernel
theorem dX9_setIn_12 : decode cX9_setIn 12 = .ok (.iload_n 2, 1) := by decide +kernel
theorem dX9_setIn_13 : decode cX9_setIn 13 = .ok (.iastore, 1) := by decide +kernel
theorem dX9_setIn_14 : decode cX9_setIn 14 = .ok (.return_, 1) := by decide +kernel
/-! X9_valueIn -/
theorem dX9_valueIn_0 : decode cX9_valueIn 0 = .ok (.iload_n 1, 1) := by decide +kernel
theorem dX9_valueIn_1 : decode cX9_valueIn 1 = .ok (.ifCond .lt 15, 3) := by decide +kernel
theorem dX9_valueIn_4 : decode cX9_valueIn 4 = .ok (.iload_n 1, 1) := by decide +kernel
theorem dX9_valueIn_5 : decode cX9_valueIn 5 = .ok (.aload_n 0, 1) := by decide +kernel
theorem dX9_valueIn_6 : decode cX9_valueIn 6 = .ok (.arraylength, 1) := by decide +kernel
theorem dX9_valueIn_7 : decode cX9_valueIn 7 = .ok (.if_icmp .ge 9, 3) := by decide +kernel
theorem dX9_valueIn_10 : decode cX9_valueIn 10 = .ok (.aload_n 0, 1) := by decide +kernel
theorem dX9_valueIn_11 : decode cX9_valueIn 11 = .ok (.iload_n 1, 1) := by decide +kernel
theorem dX9_valueIn_12 : decode cX9_valueIn 12 = .ok (.iaload, 1) := by decide +kernel
theorem dX9_valueIn_13 : decode cX9_valueIn 13 = .ok (.goto 4, 3) := by decide +kernel
theorem dX9_valueIn_16 : decode cX9_valueIn 16 = .ok (.iconst (-1), 1) := by decide +kernel
theorem dX9_valueIn_17 : decode cX9_valueIn 17 = .ok (.ireturn, 1) := by decide +kernel
/-! X9_writeHeap -/
theorem dX9_writeHeap_0 : decode cX9_writeHeap 0 = .ok (.aload_n 0, 1) := by decide +kernel
theorem dX9_writeHeap_1 : decode cX9_writeHeap 1 = .ok (.iload_n 1, 1) := by decide +kernel
theorem dX9_writeHeap_2 : decode cX9_writeHeap 2 = .ok (.invokevirtual 245, 3) := by decide +kernel
theorem dX9_writeHeap_5 : decode cX9_writeHeap 5 = .ok (.pop, 1) := by decide +kernel
theorem dX9_writeHeap_6 : decode cX9_writeHeap 6 = .ok (.aload_n 0, 1) := by decide +kernel
theorem dX9_writeHeap_7 : decode cX9_writeHeap 7 = .ok (.getfield 19, 3) := by decide +kernel
theorem dX9_writeHeap_10 : decode cX9_writeHeap 10 = .ok (.iconst 0, 1) := by decide +kernel
theorem dX9_writeHeap_11 : decode cX9_writeHeap 11 = .ok (.putfield 419, 3) := by decide +kernel
theorem dX9_writeHeap_14 : decode cX9_writeHeap 14 = .ok (.aload_n 0, 1) := by decide +kernel
theorem dX9_writeHeap_15 : decode cX9_writeHeap 15 = .ok (.getfield 30, 3) := by decide +kernel
theorem dX9_writeHeap_18 : decode cX9_writeHeap 18 = .ok (.iload_n 1, 1) := by decide +kernel
theorem dX9_writeHeap_19 : decode cX9_writeHeap 19 = .ok (.invokevirtual 305, 3) := by decide +kernel
theorem dX9_writeHeap_22 : decode cX9_writeHeap 22 = .ok (.astore_n 2, 1) := by decide +kernel
theorem dX9_writeHeap_23 : decode cX9_writeHeap 23 = .ok (.aload_n 2, 1) := by decide +kernel
theorem dX9_writeHeap_24 : decode cX9_writeHeap 24 = .ok (.ifnonnull 20, 3) := by decide +kernel
theorem dX9_writeHeap_27 : decode cX9_writeHeap 27 = .ok (.aload_n 0, 1) := by decide +kernel
theorem dX9_writeHeap_28 : decode cX9_writeHeap 28 = .ok (.getfield 19, 3) := by decide +kernel
theorem dX9_writeHeap_31 : decode cX9_writeHeap 31 = .ok (.bipush 120, 2) := by decide +kernel
theorem dX9_writeHeap_33 : decode cX9_writeHeap 33 = .ok (.invokevirtual 420, 3) := by decide +kernel
theorem dX9_writeHeap_36 : decode cX9_writeHeap 36 = .ok (.aload_n 0, 1) := by decide +kernel
theorem dX9_writeHeap_37 : decode cX9_writeHeap 37 = .ok (.getfield 19, 3) := by decide +kernel
theorem dX9_writeHeap_40 : decode cX9_writeHeap 40 = .ok (.getfield 419, 3) := by decide +kernel
theorem dX9_writeHeap_43 : decode cX9_writeHeap 43 = .ok (.ireturn, 1) := by decide +kernel
theorem dX9_writeHeap_44 : decode cX9_writeHeap 44 = .ok (.aload_n 0, 1) := by decide +kernel
theorem dX9_writeHeap_45 : decode cX9_writeHeap 45 = .ok (.aload_n 2, 1) := by decide +kernel
theorem dX9_writeHeap_46 : decode cX9_writeHeap 46 = .ok (.invokevirtual 423, 3) := by decide +kernel
theorem dX9_writeHeap_49 : decode cX9_writeHeap 49 = .ok (.aload_n 0, 1) := by decide +kernel
theorem dX9_writeHeap_50 : decode cX9_writeHeap 50 = .ok (.getfield 19, 3) := by decide +kernel
theorem dX9_writeHeap_53 : decode cX9_writeHeap 53 = .ok (.bipush 47, 2) := by decide +kernel
theorem dX9_writeHeap_55 : decode cX9_writeHeap 55 = .ok (.invokevirtual 420, 3) := by decide +kernel
theorem dX9_writeHeap_58 : decode cX9_writeHeap 58 = .ok (.aload_n 2, 1) := by decide +kernel
theorem dX9_writeHeap_59 : decode cX9_writeHeap 59 = .ok (.getfield 314, 3) := by decide +kernel
theorem dX9_writeHeap_62 : decode cX9_writeHeap 62 = .ok (.iconst (-1), 1) := by decide +kernel
theorem dX9_writeHeap_63 : decode cX9_writeHeap 63 = .ok (.if_icmp .ne 15, 3) := by decide +kernel
theorem dX9_writeHeap_66 : decode cX9_writeHeap 66 = .ok (.aload_n 0, 1) := by decide +kernel
theorem dX9_writeHeap_67 : decode cX9_writeHeap 67 = .ok (.getfield 19, 3) := by decide +kernel
theorem dX9_writeHeap_70 : decode cX9_writeHeap 70 = .ok (.bipush 63, 2) := by decide +kernel
theorem dX9_writeHeap_72 : decode cX9_writeHeap 72 = .ok (.invokevirtual 420, 3) := by decide +kernel
theorem dX9_writeHeap_75 : decode cX9_writeHeap 75 = .ok (.goto 14, 3) := by decide +kernel
theorem dX9_writeHeap_78 : decode cX9_writeHeap 78 = .ok (.aload_n 0, 1) := by decide +kernel
theorem dX9_writeHeap_79 : decode cX9_writeHeap 79 = .ok (.getfield 19, 3) := by decide +kernel
theorem dX9_writeHeap_82 : decode cX9_writeHeap 82 = .ok (.aload_n 2, 1) := by decide +kernel
theorem dX9_writeHeap_83 : decode cX9_writeHeap 83 = .ok (.getfield 314, 3) := by decide +kernel
theorem dX9_writeHeap_86 : decode cX9_writeHeap 86 = .ok (.invokevirtual 427, 3) := by decide +kernel
theorem dX9_writeHeap_89 : decode cX9_writeHeap 89 = .ok (.aload_n 0, 1) := by decide +kernel
theorem dX9_writeHeap_90 : decode cX9_writeHeap 90 = .ok (.getfield 19, 3) := by decide +kernel
theorem dX9_writeHeap_93 : decode cX9_writeHeap 93 = .ok (.getfield 419, 3) := by decide +kernel
theorem dX9_writeHeap_96 : decode cX9_writeHeap 96 = .ok (.ireturn, 1) := by decide +kernel
