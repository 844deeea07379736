/-! X10_account -/
theorem dX10_account_0 : decode cX10_account 0 = .ok (.aload_n 0, 1) := by decide +kernel
theorem dX10_account_1 : decode cX10_account 1 = .ok (.iload_n 1, 1) := by decide +kernel
theorem dX10_account_2 : decode cX10_account 2 = .ok (.i2l, 1) := by decide +kernel
theorem dX10_account_3 : decode cX10_account 3 = .ok (.lconst 0, 1) := by decide +kernel
theorem dX10_account_4 : decode cX10_account 4 = .ok (.ldc2_w 421, 3) := by decide +kernel
theorem dX10_account_7 : decode cX10_account 7 = .ok (.invokestatic 65, 3) := by decide +kernel
theorem dX10_account_10 : decode cX10_account 10 = .ok (.invokevirtual 201, 3) := by decide +kernel
theorem dX10_account_13 : decode cX10_account 13 = .ok (.ifCond .eq 15, 3) := by decide +kernel
theorem dX10_account_16 : decode cX10_account 16 = .ok (.aload_n 0, 1) := by decide +kernel
theorem dX10_account_17 : decode cX10_account 17 = .ok (.getfield 7, 3) := by decide +kernel
theorem dX10_account_20 : decode cX10_account 20 = .ok (.bipush 12, 2) := by decide +kernel
theorem dX10_account_22 : decode cX10_account 22 = .ok (.iload_n 1, 1) := by decide +kernel
theorem dX10_account_23 : decode cX10_account 23 = .ok (.iadd, 1) := by decide +kernel
theorem dX10_account_24 : decode cX10_account 24 = .ok (.iaload, 1) := by decide +kernel
theorem dX10_account_25 : decode cX10_account 25 = .ok (.goto 4, 3) := by decide +kernel
theorem dX10_account_28 : decode cX10_account 28 = .ok (.iconst 0, 1) := by decide +kernel
theorem dX10_account_29 : decode cX10_account 29 = .ok (.ireturn, 1) := by decide +kernel
/-! X10_again -/
theorem dX10_again_0 : decode cX10_again 0 = .ok (.aload_n 0, 1) := by decide +kernel
theorem dX10_again_1 : decode cX10_again 1 = .ok (.aload_n 0, 1) := by decide +kernel
theorem dX10_again_2 : decode cX10_again 2 = .ok (.aload_n 0, 1) := by decide +kernel
theorem dX10_again_3 : decode cX10_again 3 = .ok (.iload_n 1, 1) := by decide +kernel
theorem dX10_again_4 : decode cX10_again 4 = .ok (.invokevirtual 342, 3) := by decide +kernel
theorem dX10_again_7 : decode cX10_again 7 = .ok (.invokevirtual 201, 3) := by decide +kernel
theorem dX10_again_10 : decode cX10_again 10 = .ok (.invokevirtual 474, 3) := by decide +kernel
theorem dX10_again_13 : decode cX10_again 13 = .ok (.ifCond .eq 15, 3) := by decide +kernel
theorem dX10_again_16 : decode cX10_again 16 = .ok (.aload_n 0, 1) := by decide +kernel
theorem dX10_again_17 : decode cX10_again 17 = .ok (.aload_n 0, 1) := by decide +kernel
theorem dX10_again_18 : decode cX10_again 18 = .ok (.iload_n 1, 1) := by decide +kernel
theorem dX10_again_19 : decode cX10_again 19 = .ok (.invokevirtual 345, 3) := by decide +kernel
theorem dX10_again_22 : decode cX10_again 22 = .ok (.invokevirtual 477, 3) := by decide +kernel
theorem dX10_again_25 : decode cX10_again 25 = .ok (.goto 4, 3) := by decide +kernel
theorem dX10_again_28 : decode cX10_again 28 = .ok (.iconst 0, 1) := by decide +kernel
theorem dX10_again_29 : decode cX10_again 29 = .ok (.ireturn, 1) := by decide +kernel
/-! X10_againNow -/
theorem dX10_againNow_0 : decode cX10_againNow 0 = .ok (.aload_n 0, 1) := by decide +kernel
theorem dX10_againNow_1 : decode cX10_againNow 1 = .ok (.iload_n 1, 1) := by decide +kernel
theorem dX10_againNow_2 : decode cX10_againNow 2 = .ok (.invokevirtual 91, 3) := by decide +kernel
theorem dX10_againNow_5 : decode cX10_againNow 5 = .ok (.ifCond .ne 6, 3) := by decide +kernel
theorem dX10_againNow_8 : decode cX10_againNow 8 = .ok (.bipush (-2), 2) := by decide +kernel
theorem dX10_againNow_10 : decode cX10_againNow 10 = .ok (.ireturn, 1) := by decide +kernel
theorem dX10_againNow_11 : decode cX10_againNow 11 = .ok (.aload_n 0, 1) := by decide +kernel
theorem dX10_againNow_12 : decode cX10_againNow 12 = .ok (.iload_n 1, 1) := by decide +kernel
theorem dX10_againNow_13 : decode cX10_againNow 13 = .ok (.invokevirtual 95, 3) := by decide +kernel
theorem dX10_againNow_16 : decode cX10_againNow 16 = .ok (.aload_n 0, 1) := by decide +kernel
theorem dX10_againNow_17 : decode cX10_againNow 17 = .ok (.iload_n 1, 1) := by decide +kernel
theorem dX10_againNow_18 : decode cX10_againNow 18 = .ok (.iconst 3, 1) := by decide +kernel
theorem dX10_againNow_19 : decode cX10_againNow 19 = .ok (.invokevirtual 69, 3) := by decide +kernel
theorem dX10_againNow_22 : decode cX10_againNow 22 = .ok (.ireturn, 1) := by decide +kernel
/-! X10_answerComes -/
theorem dX10_answerComes_0 : decode cX10_answerComes 0 = .ok (.aload_n 0, 1) := by decide +kernel
theorem dX10_answerComes_1 : decode cX10_answerComes 1 = .ok (.bipush 9, 2) := by decide +kernel
theorem dX10_answerComes_3 : decode cX10_answerComes 3 = .ok (.iconst 1, 1) := by decide +kernel
theorem dX10_answerComes_4 : decode cX10_answerComes 4 = .ok (.invokevirtual 87, 3) := by decide +kernel
theorem dX10_answerComes_7 : decode cX10_answerComes 7 = .ok (.aload_n 0, 1) := by decide +kernel
theorem dX10_answerComes_8 : decode cX10_answerComes 8 = .ok (.getfield 7, 3) := by decide +kernel
theorem dX10_answerComes_11 : decode cX10_answerComes 11 = .ok (.bipush 6, 2) := by decide +kernel
theorem dX10_answerComes_13 : decode cX10_answerComes 13 = .ok (.aload_n 0, 1) := by decide +kernel
theorem dX10_answerComes_14 : decode cX10_answerComes 14 = .ok (.getfield 7, 3) := by decide +kernel
theorem dX10_answerComes_17 : decode cX10_answerComes 17 = .ok (.bipush 6, 2) := by decide +kernel
theorem dX10_answerComes_19 : decode cX10_answerComes 19 = .ok (.iaload, 1) := by decide +kernel
theorem dX10_answerComes_20 : decode cX10_answerComes 20 = .ok (.iload_n 1, 1) := by decide +kernel
theorem dX10_answerComes_21 : decode cX10_answerComes 21 = .ok (.invokestatic 99, 3) := by decide +kernel
theorem dX10_answerComes_24 : decode cX10_answerComes 24 = .ok (.iastore, 1) := by decide +kernel
theorem dX10_answerComes_25 : decode cX10_answerComes 25 = .ok (.return_, 1) := by decide +kernel
/-! X10_append -/
theorem dX10_append_0 : decode cX10_append 0 = .ok (.aload_n 0, 1) := by decide +kernel
theorem dX10_append_1 : decode cX10_append 1 = .ok (.aload_n 0, 1) := by decide +kernel
theorem dX10_append_2 : decode cX10_append 2 = .ok (.getfield 198, 3) := by decide +kernel
theorem dX10_append_5 : decode cX10_append 5 = .ok (.bipush 20, 2) := by decide +kernel
theorem dX10_append_7 : decode cX10_append 7 = .ok (.iadd, 1) := by decide +kernel
theorem dX10_append_8 : decode cX10_append 8 = .ok (.sipush 500, 3) := by decide +kernel
theorem dX10_append_11 : decode cX10_append 11 = .ok (.if_icmp .gt 7, 3) := by decide +kernel
theorem dX10_append_14 : decode cX10_append 14 = .ok (.iconst 1, 1) := by decide +kernel
theorem dX10_append_15 : decode cX10_append 15 = .ok (.goto 4, 3) := by decide +kernel
theorem dX10_append_18 : decode cX10_append 18 = .ok (.iconst 0, 1) := by decide +kernel
theorem dX10_append_19 : decode cX10_append 19 = .ok (.invokevirtual 201, 3) := by decide +kernel
theorem dX10_append_22 : decode cX10_append 22 = .ok (.ifCond .ne 5, 3) := by decide +kernel
theorem dX10_append_25 : decode cX10_append 25 = .ok (.iconst 0, 1) := by decide +kernel
theorem dX10_append_26 : decode cX10_append 26 = .ok (.ireturn, 1) := by decide +kernel
theorem dX10_append_27 : decode cX10_append 27 = .ok (.aload_n 0, 1) := by decide +kernel
theorem dX10_append_28 : decode cX10_append 28 = .ok (.iload_n 1, 1) := by decide +kernel
theorem dX10_append_29 : decode cX10_append 29 = .ok (.invokevirtual 205, 3) := by decide +kernel
theorem dX10_append_32 : decode cX10_append 32 = .ok (.aload_n 0, 1) := by decide +kernel
theorem dX10_append_33 : decode cX10_append 33 = .ok (.iload_n 2, 1) := by decide +kernel
theorem dX10_append_34 : decode cX10_append 34 = .ok (.invokevirtual 205, 3) := by decide +kernel
theorem dX10_append_37 : decode cX10_append 37 = .ok (.aload_n 0, 1) := by decide +kernel
theorem dX10_append_38 : decode cX10_append 38 = .ok (.iload_n 3, 1) := by decide +kernel
theorem dX10_append_39 : decode cX10_append 39 = .ok (.invokevirtual 205, 3) := by decide +kernel
theorem dX10_append_42 : decode cX10_append 42 = .ok (.aload_n 0, 1) := by decide +kernel
theorem dX10_append_43 : decode cX10_append 43 = .ok (.iload 4, 2) := by decide +kernel
theorem dX10_append_45 : decode cX10_append 45 = .ok (.invokevirtual 205, 3) := by decide +kernel
theorem dX10_append_48 : decode cX10_append 48 = .ok (.aload_n 0, 1) := by decide +kernel
theorem dX10_append_49 : decode cX10_append 49 = .ok (.iload 5, 2) := by decide +kernel
theorem dX10_append_51 : decode cX10_append 51 = .ok (.invokevirtual 205, 3) := by decide +kernel
theorem dX10_append_54 : decode cX10_append 54 = .ok (.aload_n 0, 1) := by decide +kernel
theorem dX10_append_55 : decode cX10_append 55 = .ok (.getfield 198, 3) := by decide +kernel
theorem dX10_append_58 : decode cX10_append 58 = .ok (.ireturn, 1) := by decide +kernel
/-! X10_arrived -/
theorem dX10_arrived_0 : decode cX10_arrived 0 = .ok (.iconst 0, 1) := by decide +kernel
theorem dX10_arrived_1 : decode cX10_arrived 1 = .ok (.istore_n 2, 1) := by decide +kernel
theorem dX10_arrived_2 : decode cX10_arrived 2 = .ok (.iload_n 2, 1) := by decide +kernel
theorem dX10_arrived_3 : decode cX10_arrived 3 = .ok (.aload_n 0, 1) := by decide +kernel
theorem dX10_arrived_4 : decode cX10_arrived 4 = .ok (.getfield 7, 3) := by decide +kernel
theorem dX10_arrived_7 : decode cX10_arrived 7 = .ok (.bipush 8, 2) := by decide +kernel
theorem dX10_arrived_9 : decode cX10_arrived 9 = .ok (.iaload, 1) := by decide +kernel
theorem dX10_arrived_10 : decode cX10_arrived 10 = .ok (.if_icmp .ge 36, 3) := by decide +kernel
theorem dX10_arrived_13 : decode cX10_arrived 13 = .ok (.aload_n 0, 1) := by decide +kernel
theorem dX10_arrived_14 : decode cX10_arrived 14 = .ok (.iload_n 2, 1) := by decide +kernel
theorem dX10_arrived_15 : decode cX10_arrived 15 = .ok (.iconst 0, 1) := by decide +kernel
theorem dX10_arrived_16 : decode cX10_arrived 16 = .ok (.invokevirtual 131, 3) := by decide +kernel
theorem dX10_arrived_19 : decode cX10_arrived 19 = .ok (.iload_n 1, 1) := by decide +kernel
theorem dX10_arrived_20 : decode cX10_arrived 20 = .ok (.if_icmp .ne 20, 3) := by decide +kernel
theorem dX10_arrived_23 : decode cX10_arrived 23 = .ok (.aload_n 0, 1) := by decide +kernel
theorem dX10_arrived_24 : decode cX10_arrived 24 = .ok (.iload_n 2, 1) := by decide +kernel
theorem dX10_arrived_25 : decode cX10_arrived 25 = .ok (.iconst 1, 1) := by decide +kernel
theorem dX10_arrived_26 : decode cX10_arrived 26 = .ok (.invokevirtual 131, 3) := by decide +kernel
theorem dX10_arrived_29 : decode cX10_arrived 29 = .ok (.aload_n 0, 1) := by decide +kernel
theorem dX10_arrived_30 : decode cX10_arrived 30 = .ok (.getfield 7, 3) := by decide +kernel
theorem dX10_arrived_33 : decode cX10_arrived 33 = .ok (.iconst 2, 1) := by decide +kernel
theorem dX10_arrived_34 : decode cX10_arrived 34 = .ok (.iaload, 1) := by decide +kernel
theorem dX10_arrived_35 : decode cX10_arrived 35 = .ok (.if_icmp .ne 5, 3) := by decide +kernel
theorem dX10_arrived_38 : decode cX10_arrived 38 = .ok (.iload_n 2, 1) := by decide +kernel
theorem dX10_arrived_39 : decode cX10_arrived 39 = .ok (.ireturn, 1) := by decide +kernel
theorem dX10_arrived_40 : decode cX10_arrived 40 = .ok (.iinc 2 1, 3) := by decide +kernel
theorem dX10_arrived_43 : decode cX10_arrived 43 = .ok (.goto (-41), 3) := by decide +kernel
theorem dX10_arrived_46 : decode cX10_arrived 46 = .ok (.iconst (-1), 1) := by decide +kernel
theorem dX10_arrived_47 : decode cX10_arrived 47 = .ok (.ireturn, 1) := by decide +kernel
/-! X10_arrives -/
theorem dX10_arrives_0 : decode cX10_arrives 0 = .ok (.aload_n 0, 1) := by decide +kernel
theorem dX10_arrives_1 : decode cX10_arrives 1 = .ok (.iload_n 1, 1) := by decide +kernel
theorem dX10_arrives_2 : decode cX10_arrives 2 = .ok (.iconst 0, 1) := by decide +kernel
theorem dX10_arrives_3 : decode cX10_arrives 3 = .ok (.invokevirtual 131, 3) := by decide +kernel
theorem dX10_arrives_6 : decode cX10_arrives 6 = .ok (.iconst 1, 1) := by decide +kernel
theorem dX10_arrives_7 : decode cX10_arrives 7 = .ok (.iadd, 1) := by decide +kernel
theorem dX10_arrives_8 : decode cX10_arrives 8 = .ok (.istore_n 2, 1) := by decide +kernel
theorem dX10_arrives_9 : decode cX10_arrives 9 = .ok (.aload_n 0, 1) := by decide +kernel
theorem dX10_arrives_10 : decode cX10_arrives 10 = .ok (.iload_n 1, 1) := by decide +kernel
theorem dX10_arrives_11 : decode cX10_arrives 11 = .ok (.iconst 2, 1) := by decide +kernel
theorem dX10_arrives_12 : decode cX10_arrives 12 = .ok (.invokevirtual 131, 3) := by decide +kernel
theorem dX10_arrives_15 : decode cX10_arrives 15 = .ok (.istore_n 3, 1) := by decide +kernel
theorem dX10_arrives_16 : decode cX10_arrives 16 = .ok (.aload_n 0, 1) := by decide +kernel
theorem dX10_arrives_17 : decode cX10_arrives 17 = .ok (.iload_n 1, 1) := by decide +kernel
theorem dX10_arrives_18 : decode cX10_arrives 18 = .ok (.iconst 3, 1) := by decide +kernel
theorem dX10_arrives_19 : decode cX10_arrives 19 = .ok (.invokevirtual 131, 3) := by decide +kernel
theorem dX10_arrives_22 : decode cX10_arrives 22 = .ok (.istore 4, 2) := by decide +kernel
theorem dX10_arrives_24 : decode cX10_arrives 24 = .ok (.aload_n 0, 1) := by decide +kernel
theorem dX10_arrives_25 : decode cX10_arrives 25 = .ok (.iload_n 1, 1) := by decide +kernel
theorem dX10_arrives_26 : decode cX10_arrives 26 = .ok (.iconst 4, 1) := by decide +kernel
theorem dX10_arrives_27 : decode cX10_arrives 27 = .ok (.invokevirtual 131, 3) := by decide +kernel
theorem dX10_arrives_30 : decode cX10_arrives 30 = .ok (.istore 5, 2) := by decide +kernel
theorem dX10_arrives_32 : decode cX10_arrives 32 = .ok (.aload_n 0, 1) := by decide +kernel
theorem dX10_arrives_33 : decode cX10_arrives 33 = .ok (.iload_n 1, 1) := by decide +kernel
theorem dX10_arrives_34 : decode cX10_arrives 34 = .ok (.iconst 5, 1) := by decide +kernel
theorem dX10_arrives_35 : decode cX10_arrives 35 = .ok (.invokevirtual 131, 3) := by decide +kernel
theorem dX10_arrives_38 : decode cX10_arrives 38 = .ok (.iconst 1, 1) := by decide +kernel
theorem dX10_arrives_39 : decode cX10_arrives 39 = .ok (.if_icmp .ne 7, 3) := by decide +kernel
theorem dX10_arrives_42 : decode cX10_arrives 42 = .ok (.iconst 1, 1) := by decide +kernel
theorem dX10_arrives_43 : decode cX10_arrives 43 = .ok (.goto 4, 3) := by decide +kernel
theorem dX10_arrives_46 : decode cX10_arrives 46 = .ok (.iconst 0, 1) := by decide +kernel
theorem dX10_arrives_47 : decode cX10_arrives 47 = .ok (.istore 6, 2) := by decide +kernel
theorem dX10_arrives_49 : decode cX10_arrives 49 = .ok (.aload_n 0, 1) := by decide +kernel
theorem dX10_arrives_50 : decode cX10_arrives 50 = .ok (.iload_n 1, 1) := by decide +kernel
theorem dX10_arrives_51 : decode cX10_arrives 51 = .ok (.bipush 6, 2) := by decide +kernel
theorem dX10_arrives_53 : decode cX10_arrives 53 = .ok (.invokevirtual 131, 3) := by decide +kernel
theorem dX10_arrives_56 : decode cX10_arrives 56 = .ok (.iconst 1, 1) := by decide +kernel
theorem dX10_arrives_57 : decode cX10_arrives 57 = .ok (.if_icmp .ne 7, 3) := by decide +kernel
theorem dX10_arrives_60 : decode cX10_arrives 60 = .ok (.iconst 1, 1) := by decide +kernel
theorem dX10_arrives_61 : decode cX10_arrives 61 = .ok (.goto 4, 3) := by decide +kernel
theorem dX10_arrives_64 : decode cX10_arrives 64 = .ok (.iconst 0, 1) := by decide +kernel
theorem dX10_arrives_65 : decode cX10_arrives 65 = .ok (.istore 7, 2) := by decide +kernel
theorem dX10_arrives_67 : decode cX10_arrives 67 = .ok (.aload_n 0, 1) := by decide +kernel
theorem dX10_arrives_68 : decode cX10_arrives 68 = .ok (.getfield 7, 3) := by decide +kernel
theorem dX10_arrives_71 : decode cX10_arrives 71 = .ok (.bipush 8, 2) := by decide +kernel
theorem dX10_arrives_73 : decode cX10_arrives 73 = .ok (.dup2, 1) := by decide +kernel
theorem dX10_arrives_74 : decode cX10_arrives 74 = .ok (.iaload, 1) := by decide +kernel
theorem dX10_arrives_75 : decode cX10_arrives 75 = .ok (.iconst 1, 1) := by decide +kernel
theorem dX10_arrives_76 : decode cX10_arrives 76 = .ok (.isub, 1) := by decide +kernel
theorem dX10_arrives_77 : decode cX10_arrives 77 = .ok (.iastore, 1) := by decide +kernel
theorem dX10_arrives_78 : decode cX10_arrives 78 = .ok (.sipush 392, 3) := by decide +kernel
theorem dX10_arrives_81 : decode cX10_arrives 81 = .ok (.bipush 7, 2) := by decide +kernel
theorem dX10_arrives_83 : decode cX10_arrives 83 = .ok (.iload_n 1, 1) := by decide +kernel
theorem dX10_arrives_84 : decode cX10_arrives 84 = .ok (.imul, 1) := by decide +kernel
theorem dX10_arrives_85 : decode cX10_arrives 85 = .ok (.iadd, 1) := by decide +kernel
theorem dX10_arrives_86 : decode cX10_arrives 86 = .ok (.istore 8, 2) := by decide +kernel
theorem dX10_arrives_88 : decode cX10_arrives 88 = .ok (.iload 8, 2) := by decide +kernel
theorem dX10_arrives_90 : decode cX10_arrives 90 = .ok (.sipush 392, 3) := by decide +kernel
theorem dX10_arrives_93 : decode cX10_arrives 93 = .ok (.bipush 7, 2) := by decide +kernel
theorem dX10_arrives_95 : decode cX10_arrives 95 = .ok (.aload_n 0, 1) := by decide +kernel
theorem dX10_arrives_96 : decode cX10_arrives 96 = .ok (.getfield 7, 3) := by decide +kernel
theorem dX10_arrives_99 : decode cX10_arrives 99 = .ok (.bipush 8, 2) := by decide +kernel
theorem dX10_arrives_101 : decode cX10_arrives 101 = .ok (.iaload, 1) := by decide +kernel
theorem dX10_arrives_102 : decode cX10_arrives 102 = .ok (.imul, 1) := by decide +kernel
theorem dX10_arrives_103 : decode cX10_arrives 103 = .ok (.iadd, 1) := by decide +kernel
theorem dX10_arrives_104 : decode cX10_arrives 104 = .ok (.if_icmp .ge 26, 3) := by decide +kernel
theorem dX10_arrives_107 : decode cX10_arrives 107 = .ok (.aload_n 0, 1) := by decide +kernel
theorem dX10_arrives_108 : decode cX10_arrives 108 = .ok (.getfield 7, 3) := by decide +kernel
theorem dX10_arrives_111 : decode cX10_arrives 111 = .ok (.iload 8, 2) := by decide +kernel
theorem dX10_arrives_113 : decode cX10_arrives 113 = .ok (.aload_n 0, 1) := by decide +kernel
theorem dX10_arrives_114 : decode cX10_arrives 114 = .ok (.getfield 7, 3) := by decide +kernel
theorem dX10_arrives_117 : decode cX10_arrives 117 = .ok (.iload 8, 2) := by decide +kernel
theorem dX10_arrives_119 : decode cX10_arrives 119 = .ok (.bipush 7, 2) := by decide +kernel
theorem dX10_arrives_121 : decode cX10_arrives 121 = .ok (.iadd, 1) := by decide +kernel
theorem dX10_arrives_122 : decode cX10_arrives 122 = .ok (.iaload, 1) := by decide +kernel
theorem dX10_arrives_123 : decode cX10_arrives 123 = .ok (.iastore, 1) := by decide +kernel
theorem dX10_arrives_124 : decode cX10_arrives 124 = .ok (.iinc 8 1, 3) := by decide +kernel
theorem dX10_arrives_127 : decode cX10_arrives 127 = .ok (.goto (-39), 3) := by decide +kernel
theorem dX10_arrives_130 : decode cX10_arrives 130 = .ok (.aload_n 0, 1) := by decide +kernel
theorem dX10_arrives_131 : decode cX10_arrives 131 = .ok (.getfield 7, 3) := by decide +kernel
theorem dX10_arrives_134 : decode cX10_arrives 134 = .ok (.bipush 10, 2) := by decide +kernel
theorem dX10_arrives_136 : decode cX10_arrives 136 = .ok (.dup2, 1) := by decide +kernel
theorem dX10_arrives_137 : decode cX10_arrives 137 = .ok (.iaload, 1) := by decide +kernel
theorem dX10_arrives_138 : decode cX10_arrives 138 = .ok (.iconst 1, 1) := by decide +kernel
theorem dX10_arrives_139 : decode cX10_arrives 139 = .ok (.iadd, 1) := by decide +kernel
theorem dX10_arrives_140 : decode cX10_arrives 140 = .ok (.iastore, 1) := by decide +kernel
theorem dX10_arrives_141 : decode cX10_arrives 141 = .ok (.iload_n 2, 1) := by decide +kernel
theorem dX10_arrives_142 : decode cX10_arrives 142 = .ok (.aload_n 0, 1) := by decide +kernel
theorem dX10_arrives_143 : decode cX10_arrives 143 = .ok (.getfield 7, 3) := by decide +kernel
theorem dX10_arrives_146 : decode cX10_arrives 146 = .ok (.iconst 0, 1) := by decide +kernel
theorem dX10_arrives_147 : decode cX10_arrives 147 = .ok (.iaload, 1) := by decide +kernel
theorem dX10_arrives_148 : decode cX10_arrives 148 = .ok (.if_icmp .ge 20, 3) := by decide +kernel
theorem dX10_arrives_151 : decode cX10_arrives 151 = .ok (.aload_n 0, 1) := by decide +kernel
theorem dX10_arrives_152 : decode cX10_arrives 152 = .ok (.iload_n 2, 1) := by decide +kernel
theorem dX10_arrives_153 : decode cX10_arrives 153 = .ok (.iload_n 3, 1) := by decide +kernel
theorem dX10_arrives_154 : decode cX10_arrives 154 = .ok (.iload 4, 2) := by decide +kernel
theorem dX10_arrives_156 : decode cX10_arrives 156 = .ok (.iload 5, 2) := by decide +kernel
theorem dX10_arrives_158 : decode cX10_arrives 158 = .ok (.iload 6, 2) := by decide +kernel
theorem dX10_arrives_160 : decode cX10_arrives 160 = .ok (.iload 7, 2) := by decide +kernel
theorem dX10_arrives_162 : decode cX10_arrives 162 = .ok (.invokevirtual 83, 3) := by decide +kernel
theorem dX10_arrives_165 : decode cX10_arrives 165 = .ok (.goto 52, 3) := by decide +kernel
theorem dX10_arrives_168 : decode cX10_arrives 168 = .ok (.iload_n 3, 1) := by decide +kernel
theorem dX10_arrives_169 : decode cX10_arrives 169 = .ok (.iconst (-1), 1) := by decide +kernel
theorem dX10_arrives_170 : decode cX10_arrives 170 = .ok (.if_icmp .ne 32, 3) := by decide +kernel
theorem dX10_arrives_173 : decode cX10_arrives 173 = .ok (.aload_n 0, 1) := by decide +kernel
theorem dX10_arrives_174 : decode cX10_arrives 174 = .ok (.iconst 1, 1) := by decide +kernel
theorem dX10_arrives_175 : decode cX10_arrives 175 = .ok (.aload_n 0, 1) := by decide +kernel
theorem dX10_arrives_176 : decode cX10_arrives 176 = .ok (.getfield 7, 3) := by decide +kernel
theorem dX10_arrives_179 : decode cX10_arrives 179 = .ok (.iconst 2, 1) := by decide +kernel
theorem dX10_arrives_180 : decode cX10_arrives 180 = .ok (.iaload, 1) := by decide +kernel
theorem dX10_arrives_181 : decode cX10_arrives 181 = .ok (.aload_n 0, 1) := by decide +kernel
theorem dX10_arrives_182 : decode cX10_arrives 182 = .ok (.aload_n 0, 1) := by decide +kernel
theorem dX10_arrives_183 : decode cX10_arrives 183 = .ok (.getfield 7, 3) := by decide +kernel
theorem dX10_arrives_186 : decode cX10_arrives 186 = .ok (.iconst 0, 1) := by decide +kernel
theorem dX10_arrives_187 : decode cX10_arrives 187 = .ok (.iaload, 1) := by decide +kernel
theorem dX10_arrives_188 : decode cX10_arrives 188 = .ok (.invokevirtual 120, 3) := by decide +kernel
theorem dX10_arrives_191 : decode cX10_arrives 191 = .ok (.iadd, 1) := by decide +kernel
theorem dX10_arrives_192 : decode cX10_arrives 192 = .ok (.iconst 0, 1) := by decide +kernel
theorem dX10_arrives_193 : decode cX10_arrives 193 = .ok (.iconst (-1), 1) := by decide +kernel
theorem dX10_arrives_194 : decode cX10_arrives 194 = .ok (.iload 5, 2) := by decide +kernel
theorem dX10_arrives_196 : decode cX10_arrives 196 = .ok (.invokevirtual 123, 3) := by decide +kernel
theorem dX10_arrives_199 : decode cX10_arrives 199 = .ok (.goto 18, 3) := by decide +kernel
theorem dX10_arrives_202 : decode cX10_arrives 202 = .ok (.aload_n 0, 1) := by decide +kernel
theorem dX10_arrives_203 : decode cX10_arrives 203 = .ok (.iload_n 3, 1) := by decide +kernel
theorem dX10_arrives_204 : decode cX10_arrives 204 = .ok (.iload 4, 2) := by decide +kernel
theorem dX10_arrives_206 : decode cX10_arrives 206 = .ok (.iload 5, 2) := by decide +kernel
theorem dX10_arrives_208 : decode cX10_arrives 208 = .ok (.bipush 20, 2) := by decide +kernel
theorem dX10_arrives_210 : decode cX10_arrives 210 = .ok (.isub, 1) := by decide +kernel
theorem dX10_arrives_211 : decode cX10_arrives 211 = .ok (.iload 6, 2) := by decide +kernel
theorem dX10_arrives_213 : decode cX10_arrives 213 = .ok (.iconst (-1), 1) := by decide +kernel
theorem dX10_arrives_214 : decode cX10_arrives 214 = .ok (.invokevirtual 176, 3) := by decide +kernel
theorem dX10_arrives_217 : decode cX10_arrives 217 = .ok (.return_, 1) := by decide +kernel
/-! X10_back -/
theorem dX10_back_0 : decode cX10_back 0 = .ok (.aload_n 0, 1) := by decide +kernel
theorem dX10_back_1 : decode cX10_back 1 = .ok (.getfield 19, 3) := by decide +kernel
theorem dX10_back_4 : decode cX10_back 4 = .ok (.iconst 0, 1) := by decide +kernel
theorem dX10_back_5 : decode cX10_back 5 = .ok (.aload_n 0, 1) := by decide +kernel
theorem dX10_back_6 : decode cX10_back 6 = .ok (.getfield 7, 3) := by decide +kernel
theorem dX10_back_9 : decode cX10_back 9 = .ok (.iconst 0, 1) := by decide +kernel
theorem dX10_back_10 : decode cX10_back 10 = .ok (.invokestatic 290, 3) := by decide +kernel
theorem dX10_back_13 : decode cX10_back 13 = .ok (.iload_n 1, 1) := by decide +kernel
theorem dX10_back_14 : decode cX10_back 14 = .ok (.ireturn, 1) := by decide +kernel
/-! X10_begins -/
theorem dX10_begins_0 : decode cX10_begins 0 = .ok (.aload_n 0, 1) := by decide +kernel
theorem dX10_begins_1 : decode cX10_begins 1 = .ok (.iconst 0, 1) := by decide +kernel
theorem dX10_begins_2 : decode cX10_begins 2 = .ok (.putfield 208, 3) := by decide +kernel
theorem dX10_begins_5 : decode cX10_begins 5 = .ok (.aload_n 0, 1) := by decide +kernel
theorem dX10_begins_6 : decode cX10_begins 6 = .ok (.iconst 0, 1) := by decide +kernel
theorem dX10_begins_7 : decode cX10_begins 7 = .ok (.putfield 214, 3) := by decide +kernel
theorem dX10_begins_10 : decode cX10_begins 10 = .ok (.aload_n 0, 1) := by decide +kernel
theorem dX10_begins_11 : decode cX10_begins 11 = .ok (.iconst 0, 1) := by decide +kernel
theorem dX10_begins_12 : decode cX10_begins 12 = .ok (.putfield 217, 3) := by decide +kernel
theorem dX10_begins_15 : decode cX10_begins 15 = .ok (.aload_n 0, 1) := by decide +kernel
theorem dX10_begins_16 : decode cX10_begins 16 = .ok (.iconst (-1), 1) := by decide +kernel
theorem dX10_begins_17 : decode cX10_begins 17 = .ok (.putfield 220, 3) := by decide +kernel
theorem dX10_begins_20 : decode cX10_begins 20 = .ok (.return_, 1) := by decide +kernel
/-! X10_beginsHeap -/
theorem dX10_beginsHeap_0 : decode cX10_beginsHeap 0 = .ok (.aload_n 0, 1) := by decide +kernel
theorem dX10_beginsHeap_1 : decode cX10_beginsHeap 1 = .ok (.invokevirtual 143, 3) := by decide +kernel
theorem dX10_beginsHeap_4 : decode cX10_beginsHeap 4 = .ok (.iconst 4, 1) := by decide +kernel
theorem dX10_beginsHeap_5 : decode cX10_beginsHeap 5 = .ok (.if_icmp .ne 13, 3) := by decide +kernel
theorem dX10_beginsHeap_8 : decode cX10_beginsHeap 8 = .ok (.aload_n 0, 1) := by decide +kernel
theorem dX10_beginsHeap_9 : decode cX10_beginsHeap 9 = .ok (.aload_n 0, 1) := by decide +kernel
theorem dX10_beginsHeap_10 : decode cX10_beginsHeap 10 = .ok (.invokevirtual 147, 3) := by decide +kernel
theorem dX10_beginsHeap_13 : decode cX10_beginsHeap 13 = .ok (.iconst 3, 1) := by decide +kernel
theorem dX10_beginsHeap_14 : decode cX10_beginsHeap 14 = .ok (.iconst 2, 1) := by decide +kernel
theorem dX10_beginsHeap_15 : decode cX10_beginsHeap 15 = .ok (.invokevirtual 150, 3) := by decide +kernel
theorem dX10_beginsHeap_18 : decode cX10_beginsHeap 18 = .ok (.iconst 0, 1) := by decide +kernel
theorem dX10_beginsHeap_19 : decode cX10_beginsHeap 19 = .ok (.istore_n 2, 1) := by decide +kernel
theorem dX10_beginsHeap_20 : decode cX10_beginsHeap 20 = .ok (.aload_n 0, 1) := by decide +kernel
theorem dX10_beginsHeap_21 : decode cX10_beginsHeap 21 = .ok (.iload_n 2, 1) := by decide +kernel
theorem dX10_beginsHeap_22 : decode cX10_beginsHeap 22 = .ok (.iconst 0, 1) := by decide +kernel
theorem dX10_beginsHeap_23 : decode cX10_beginsHeap 23 = .ok (.invokevirtual 134, 3) := by decide +kernel
theorem dX10_beginsHeap_26 : decode cX10_beginsHeap 26 = .ok (.iconst (-1), 1) := by decide +kernel
theorem dX10_beginsHeap_27 : decode cX10_beginsHeap 27 = .ok (.if_icmp .eq 9, 3) := by decide +kernel
theorem dX10_beginsHeap_30 : decode cX10_beginsHeap 30 = .ok (.iinc 2 1, 3) := by decide +kernel
theorem dX10_beginsHeap_33 : decode cX10_beginsHeap 33 = .ok (.goto (-13), 3) := by decide +kernel
theorem dX10_beginsHeap_36 : decode cX10_beginsHeap 36 = .ok (.aload_n 0, 1) := by decide +kernel
theorem dX10_beginsHeap_37 : decode cX10_beginsHeap 37 = .ok (.iload_n 2, 1) := by decide +kernel
theorem dX10_beginsHeap_38 : decode cX10_beginsHeap 38 = .ok (.iconst 0, 1) := by decide +kernel
theorem dX10_beginsHeap_39 : decode cX10_beginsHeap 39 = .ok (.iload_n 1, 1) := by decide +kernel
theorem dX10_beginsHeap_40 : decode cX10_beginsHeap 40 = .ok (.invokevirtual 140, 3) := by decide +kernel
theorem dX10_beginsHeap_43 : decode cX10_beginsHeap 43 = .ok (.aload_n 0, 1) := by decide +kernel
theorem dX10_beginsHeap_44 : decode cX10_beginsHeap 44 = .ok (.iload_n 2, 1) := by decide +kernel
theorem dX10_beginsHeap_45 : decode cX10_beginsHeap 45 = .ok (.iconst 1, 1) := by decide +kernel
theorem dX10_beginsHeap_46 : decode cX10_beginsHeap 46 = .ok (.aload_n 0, 1) := by decide +kernel
theorem dX10_beginsHeap_47 : decode cX10_beginsHeap 47 = .ok (.getfield 7, 3) := by decide +kernel
theorem dX10_beginsHeap_50 : decode cX10_beginsHeap 50 = .ok (.iconst 2, 1) := by decide +kernel
theorem dX10_beginsHeap_51 : decode cX10_beginsHeap 51 = .ok (.iaload, 1) := by decide +kernel
theorem dX10_beginsHeap_52 : decode cX10_beginsHeap 52 = .ok (.invokevirtual 140, 3) := by decide +kernel
theorem dX10_beginsHeap_55 : decode cX10_beginsHeap 55 = .ok (.aload_n 0, 1) := by decide +kernel
theorem dX10_beginsHeap_56 : decode cX10_beginsHeap 56 = .ok (.iload_n 2, 1) := by decide +kernel
theorem dX10_beginsHeap_57 : decode cX10_beginsHeap 57 = .ok (.iconst 2, 1) := by decide +kernel
theorem dX10_beginsHeap_58 : decode cX10_beginsHeap 58 = .ok (.iconst (-1), 1) := by decide +kernel
theorem dX10_beginsHeap_59 : decode cX10_beginsHeap 59 = .ok (.invokevirtual 140, 3) := by decide +kernel
theorem dX10_beginsHeap_62 : decode cX10_beginsHeap 62 = .ok (.aload_n 0, 1) := by decide +kernel
theorem dX10_beginsHeap_63 : decode cX10_beginsHeap 63 = .ok (.iload_n 2, 1) := by decide +kernel
theorem dX10_beginsHeap_64 : decode cX10_beginsHeap 64 = .ok (.iconst 3, 1) := by decide +kernel
theorem dX10_beginsHeap_65 : decode cX10_beginsHeap 65 = .ok (.iconst 0, 1) := by decide +kernel
theorem dX10_beginsHeap_66 : decode cX10_beginsHeap 66 = .ok (.invokevirtual 140, 3) := by decide +kernel
theorem dX10_beginsHeap_69 : decode cX10_beginsHeap 69 = .ok (.aload_n 0, 1) := by decide +kernel
theorem dX10_beginsHeap_70 : decode cX10_beginsHeap 70 = .ok (.iload_n 2, 1) := by decide +kernel
theorem dX10_beginsHeap_71 : decode cX10_beginsHeap 71 = .ok (.iconst 4, 1) := by decide +kernel
theorem dX10_beginsHeap_72 : decode cX10_beginsHeap 72 = .ok (.iconst 0, 1) := by decide +kernel
theorem dX10_beginsHeap_73 : decode cX10_beginsHeap 73 = .ok (.invokevirtual 140, 3) := by decide +kernel
theorem dX10_beginsHeap_76 : decode cX10_beginsHeap 76 = .ok (.iconst 0, 1) := by decide +kernel
theorem dX10_beginsHeap_77 : decode cX10_beginsHeap 77 = .ok (.istore_n 3, 1) := by decide +kernel
theorem dX10_beginsHeap_78 : decode cX10_beginsHeap 78 = .ok (.iload_n 3, 1) := by decide +kernel
theorem dX10_beginsHeap_79 : decode cX10_beginsHeap 79 = .ok (.sipush 1200, 3) := by decide +kernel
theorem dX10_beginsHeap_82 : decode cX10_beginsHeap 82 = .ok (.if_icmp .ge 19, 3) := by decide +kernel
theorem dX10_beginsHeap_85 : decode cX10_beginsHeap 85 = .ok (.aload_n 0, 1) := by decide +kernel
theorem dX10_beginsHeap_86 : decode cX10_beginsHeap 86 = .ok (.iload_n 2, 1) := by decide +kernel
theorem dX10_beginsHeap_87 : decode cX10_beginsHeap 87 = .ok (.bipush 6, 2) := by decide +kernel
theorem dX10_beginsHeap_89 : decode cX10_beginsHeap 89 = .ok (.iload_n 3, 1) := by decide +kernel
theorem dX10_beginsHeap_90 : decode cX10_beginsHeap 90 = .ok (.iadd, 1) := by decide +kernel
theorem dX10_beginsHeap_91 : decode cX10_beginsHeap 91 = .ok (.iconst (-1), 1) := by decide +kernel
theorem dX10_beginsHeap_92 : decode cX10_beginsHeap 92 = .ok (.invokevirtual 140, 3) := by decide +kernel
theorem dX10_beginsHeap_95 : decode cX10_beginsHeap 95 = .ok (.iinc 3 1, 3) := by decide +kernel
theorem dX10_beginsHeap_98 : decode cX10_beginsHeap 98 = .ok (.goto (-20), 3) := by decide +kernel
theorem dX10_beginsHeap_101 : decode cX10_beginsHeap 101 = .ok (.iload_n 2, 1) := by decide +kernel
theorem dX10_beginsHeap_102 : decode cX10_beginsHeap 102 = .ok (.ireturn, 1) := by decide +kernel
/-! X10_beginsHole -/
theorem dX10_beginsHole_0 : decode cX10_beginsHole 0 = .ok (.aload_n 0, 1) := by decide +kernel
theorem dX10_beginsHole_1 : decode cX10_beginsHole 1 = .ok (.iload_n 1, 1) := by decide +kernel
theorem dX10_beginsHole_2 : decode cX10_beginsHole 2 = .ok (.iload_n 2, 1) := by decide +kernel
theorem dX10_beginsHole_3 : decode cX10_beginsHole 3 = .ok (.invokevirtual 153, 3) := by decide +kernel
theorem dX10_beginsHole_6 : decode cX10_beginsHole 6 = .ok (.iconst (-1), 1) := by decide +kernel
theorem dX10_beginsHole_7 : decode cX10_beginsHole 7 = .ok (.if_icmp .ne 23, 3) := by decide +kernel
theorem dX10_beginsHole_10 : decode cX10_beginsHole 10 = .ok (.iload_n 2, 1) := by decide +kernel
theorem dX10_beginsHole_11 : decode cX10_beginsHole 11 = .ok (.ifCond .eq 15, 3) := by decide +kernel
theorem dX10_beginsHole_14 : decode cX10_beginsHole 14 = .ok (.aload_n 0, 1) := by decide +kernel
theorem dX10_beginsHole_15 : decode cX10_beginsHole 15 = .ok (.iload_n 1, 1) := by decide +kernel
theorem dX10_beginsHole_16 : decode cX10_beginsHole 16 = .ok (.iload_n 2, 1) := by decide +kernel
theorem dX10_beginsHole_17 : decode cX10_beginsHole 17 = .ok (.iconst 1, 1) := by decide +kernel
theorem dX10_beginsHole_18 : decode cX10_beginsHole 18 = .ok (.isub, 1) := by decide +kernel
theorem dX10_beginsHole_19 : decode cX10_beginsHole 19 = .ok (.invokevirtual 153, 3) := by decide +kernel
theorem dX10_beginsHole_22 : decode cX10_beginsHole 22 = .ok (.iconst (-1), 1) := by decide +kernel
theorem dX10_beginsHole_23 : decode cX10_beginsHole 23 = .ok (.if_icmp .eq 7, 3) := by decide +kernel
theorem dX10_beginsHole_26 : decode cX10_beginsHole 26 = .ok (.iconst 1, 1) := by decide +kernel
theorem dX10_beginsHole_27 : decode cX10_beginsHole 27 = .ok (.goto 4, 3) := by decide +kernel
theorem dX10_beginsHole_30 : decode cX10_beginsHole 30 = .ok (.iconst 0, 1) := by decide +kernel
theorem dX10_beginsHole_31 : decode cX10_beginsHole 31 = .ok (.ireturn, 1) := by decide +kernel
/-! X10_beginsRow -/
theorem dX10_beginsRow_0 : decode cX10_beginsRow 0 = .ok (.aload_n 0, 1) := by decide +kernel
theorem dX10_beginsRow_1 : decode cX10_beginsRow 1 = .ok (.iload_n 1, 1) := by decide +kernel
theorem dX10_beginsRow_2 : decode cX10_beginsRow 2 = .ok (.iload_n 2, 1) := by decide +kernel
theorem dX10_beginsRow_3 : decode cX10_beginsRow 3 = .ok (.invokevirtual 153, 3) := by decide +kernel
theorem dX10_beginsRow_6 : decode cX10_beginsRow 6 = .ok (.iconst (-1), 1) := by decide +kernel
theorem dX10_beginsRow_7 : decode cX10_beginsRow 7 = .ok (.if_icmp .eq 23, 3) := by decide +kernel
theorem dX10_beginsRow_10 : decode cX10_beginsRow 10 = .ok (.iload_n 2, 1) := by decide +kernel
theorem dX10_beginsRow_11 : decode cX10_beginsRow 11 = .ok (.ifCond .eq 15, 3) := by decide +kernel
theorem dX10_beginsRow_14 : decode cX10_beginsRow 14 = .ok (.aload_n 0, 1) := by decide +kernel
theorem dX10_beginsRow_15 : decode cX10_beginsRow 15 = .ok (.iload_n 1, 1) := by decide +kernel
theorem dX10_beginsRow_16 : decode cX10_beginsRow 16 = .ok (.iload_n 2, 1) := by decide +kernel
theorem dX10_beginsRow_17 : decode cX10_beginsRow 17 = .ok (.iconst 1, 1) := by decide +kernel
theorem dX10_beginsRow_18 : decode cX10_beginsRow 18 = .ok (.isub, 1) := by decide +kernel
theorem dX10_beginsRow_19 : decode cX10_beginsRow 19 = .ok (.invokevirtual 153, 3) := by decide +kernel
theorem dX10_beginsRow_22 : decode cX10_beginsRow 22 = .ok (.iconst (-1), 1) := by decide +kernel
theorem dX10_beginsRow_23 : decode cX10_beginsRow 23 = .ok (.if_icmp .ne 7, 3) := by decide +kernel
theorem dX10_beginsRow_26 : decode cX10_beginsRow 26 = .ok (.iconst 1, 1) := by decide +kernel
theorem dX10_beginsRow_27 : decode cX10_beginsRow 27 = .ok (.goto 4, 3) := by decide +kernel
theorem dX10_beginsRow_30 : decode cX10_beginsRow 30 = .ok (.iconst 0, 1) := by decide +kernel
theorem dX10_beginsRow_31 : decode cX10_beginsRow 31 = .ok (.ireturn, 1) := by decide +kernel
/-! X10_bestLong -/
theorem dX10_bestLong_0 : decode cX10_bestLong 0 = .ok (.aload_n 0, 1) := by decide +kernel
theorem dX10_bestLong_1 : decode cX10_bestLong 1 = .ok (.iload_n 1, 1) := by decide +kernel
theorem dX10_bestLong_2 : decode cX10_bestLong 2 = .ok (.i2l, 1) := by decide +kernel
theorem dX10_bestLong_3 : decode cX10_bestLong 3 = .ok (.lconst 1, 1) := by decide +kernel
theorem dX10_bestLong_4 : decode cX10_bestLong 4 = .ok (.ldc2_w 443, 3) := by decide +kernel
theorem dX10_bestLong_7 : decode cX10_bestLong 7 = .ok (.invokestatic 65, 3) := by decide +kernel
theorem dX10_bestLong_10 : decode cX10_bestLong 10 = .ok (.invokevirtual 201, 3) := by decide +kernel
theorem dX10_bestLong_13 : decode cX10_bestLong 13 = .ok (.ifCond .ne 5, 3) := by decide +kernel
theorem dX10_bestLong_16 : decode cX10_bestLong 16 = .ok (.iconst 0, 1) := by decide +kernel
theorem dX10_bestLong_17 : decode cX10_bestLong 17 = .ok (.ireturn, 1) := by decide +kernel
theorem dX10_bestLong_18 : decode cX10_bestLong 18 = .ok (.iconst (-1), 1) := by decide +kernel
theorem dX10_bestLong_19 : decode cX10_bestLong 19 = .ok (.istore_n 2, 1) := by decide +kernel
theorem dX10_bestLong_20 : decode cX10_bestLong 20 = .ok (.iconst 0, 1) := by decide +kernel
theorem dX10_bestLong_21 : decode cX10_bestLong 21 = .ok (.istore_n 3, 1) := by decide +kernel
theorem dX10_bestLong_22 : decode cX10_bestLong 22 = .ok (.iconst 1, 1) := by decide +kernel
theorem dX10_bestLong_23 : decode cX10_bestLong 23 = .ok (.istore 4, 2) := by decide +kernel
theorem dX10_bestLong_25 : decode cX10_bestLong 25 = .ok (.iload 4, 2) := by decide +kernel
theorem dX10_bestLong_27 : decode cX10_bestLong 27 = .ok (.sipush 1000, 3) := by decide +kernel
theorem dX10_bestLong_30 : decode cX10_bestLong 30 = .ok (.if_icmp .gt 68, 3) := by decide +kernel
theorem dX10_bestLong_33 : decode cX10_bestLong 33 = .ok (.iload 4, 2) := by decide +kernel
theorem dX10_bestLong_35 : decode cX10_bestLong 35 = .ok (.iload_n 1, 1) := by decide +kernel
theorem dX10_bestLong_36 : decode cX10_bestLong 36 = .ok (.if_icmp .gt 62, 3) := by decide +kernel
theorem dX10_bestLong_39 : decode cX10_bestLong 39 = .ok (.iload_n 1, 1) := by decide +kernel
theorem dX10_bestLong_40 : decode cX10_bestLong 40 = .ok (.iload 4, 2) := by decide +kernel
theorem dX10_bestLong_42 : decode cX10_bestLong 42 = .ok (.idiv, 1) := by decide +kernel
theorem dX10_bestLong_43 : decode cX10_bestLong 43 = .ok (.aload_n 0, 1) := by decide +kernel
theorem dX10_bestLong_44 : decode cX10_bestLong 44 = .ok (.iload 4, 2) := by decide +kernel
theorem dX10_bestLong_46 : decode cX10_bestLong 46 = .ok (.invokevirtual 440, 3) := by decide +kernel
theorem dX10_bestLong_49 : decode cX10_bestLong 49 = .ok (.imul, 1) := by decide +kernel
theorem dX10_bestLong_50 : decode cX10_bestLong 50 = .ok (.iload_n 1, 1) := by decide +kernel
theorem dX10_bestLong_51 : decode cX10_bestLong 51 = .ok (.iload 4, 2) := by decide +kernel
theorem dX10_bestLong_53 : decode cX10_bestLong 53 = .ok (.irem, 1) := by decide +kernel
theorem dX10_bestLong_54 : decode cX10_bestLong 54 = .ok (.ifCond .ne 7, 3) := by decide +kernel
theorem dX10_bestLong_57 : decode cX10_bestLong 57 = .ok (.iconst 0, 1) := by decide +kernel
theorem dX10_bestLong_58 : decode cX10_bestLong 58 = .ok (.goto 11, 3) := by decide +kernel
theorem dX10_bestLong_61 : decode cX10_bestLong 61 = .ok (.aload_n 0, 1) := by decide +kernel
theorem dX10_bestLong_62 : decode cX10_bestLong 62 = .ok (.iload_n 1, 1) := by decide +kernel
theorem dX10_bestLong_63 : decode cX10_bestLong 63 = .ok (.iload 4, 2) := by decide +kernel
theorem dX10_bestLong_65 : decode cX10_bestLong 65 = .ok (.irem, 1) := by decide +kernel
theorem dX10_bestLong_66 : decode cX10_bestLong 66 = .ok (.invokevirtual 440, 3) := by decide +kernel
theorem dX10_bestLong_69 : decode cX10_bestLong 69 = .ok (.iadd, 1) := by decide +kernel
theorem dX10_bestLong_70 : decode cX10_bestLong 70 = .ok (.istore 5, 2) := by decide +kernel
theorem dX10_bestLong_72 : decode cX10_bestLong 72 = .ok (.iload_n 2, 1) := by decide +kernel
theorem dX10_bestLong_73 : decode cX10_bestLong 73 = .ok (.iconst (-1), 1) := by decide +kernel
theorem dX10_bestLong_74 : decode cX10_bestLong 74 = .ok (.if_icmp .eq 12, 3) := by decide +kernel
theorem dX10_bestLong_77 : decode cX10_bestLong 77 = .ok (.iload 5, 2) := by decide +kernel
theorem dX10_bestLong_79 : decode cX10_bestLong 79 = .ok (.iload_n 3, 1) := by decide +kernel
theorem dX10_bestLong_80 : decode cX10_bestLong 80 = .ok (.if_icmp .le 6, 3) := by decide +kernel
theorem dX10_bestLong_83 : decode cX10_bestLong 83 = .ok (.goto 9, 3) := by decide +kernel
theorem dX10_bestLong_86 : decode cX10_bestLong 86 = .ok (.iload 4, 2) := by decide +kernel
theorem dX10_bestLong_88 : decode cX10_bestLong 88 = .ok (.istore_n 2, 1) := by decide +kernel
theorem dX10_bestLong_89 : decode cX10_bestLong 89 = .ok (.iload 5, 2) := by decide +kernel
theorem dX10_bestLong_91 : decode cX10_bestLong 91 = .ok (.istore_n 3, 1) := by decide +kernel
theorem dX10_bestLong_92 : decode cX10_bestLong 92 = .ok (.iinc 4 1, 3) := by decide +kernel
theorem dX10_bestLong_95 : decode cX10_bestLong 95 = .ok (.goto (-70), 3) := by decide +kernel
theorem dX10_bestLong_98 : decode cX10_bestLong 98 = .ok (.iload_n 2, 1) := by decide +kernel
theorem dX10_bestLong_99 : decode cX10_bestLong 99 = .ok (.ireturn, 1) := by decide +kernel
/-! X10_bound -/
theorem dX10_bound_0 : decode cX10_bound 0 = .ok (.aload_n 0, 1) := by decide +kernel
theorem dX10_bound_1 : decode cX10_bound 1 = .ok (.iload_n 1, 1) := by decide +kernel
theorem dX10_bound_2 : decode cX10_bound 2 = .ok (.iconst 2, 1) := by decide +kernel
theorem dX10_bound_3 : decode cX10_bound 3 = .ok (.invokevirtual 134, 3) := by decide +kernel
theorem dX10_bound_6 : decode cX10_bound 6 = .ok (.iconst (-1), 1) := by decide +kernel
theorem dX10_bound_7 : decode cX10_bound 7 = .ok (.if_icmp .ne 11, 3) := by decide +kernel
theorem dX10_bound_10 : decode cX10_bound 10 = .ok (.aload_n 0, 1) := by decide +kernel
theorem dX10_bound_11 : decode cX10_bound 11 = .ok (.iload_n 1, 1) := by decide +kernel
theorem dX10_bound_12 : decode cX10_bound 12 = .ok (.invokevirtual 162, 3) := by decide +kernel
theorem dX10_bound_15 : decode cX10_bound 15 = .ok (.goto 9, 3) := by decide +kernel
theorem dX10_bound_18 : decode cX10_bound 18 = .ok (.aload_n 0, 1) := by decide +kernel
theorem dX10_bound_19 : decode cX10_bound 19 = .ok (.iload_n 1, 1) := by decide +kernel
theorem dX10_bound_20 : decode cX10_bound 20 = .ok (.iconst 2, 1) := by decide +kernel
theorem dX10_bound_21 : decode cX10_bound 21 = .ok (.invokevirtual 134, 3) := by decide +kernel
theorem dX10_bound_24 : decode cX10_bound 24 = .ok (.ireturn, 1) := by decide +kernel
/-! X10_burden -/
theorem dX10_burden_0 : decode cX10_burden 0 = .ok (.aload_n 0, 1) := by decide +kernel
theorem dX10_burden_1 : decode cX10_burden 1 = .ok (.iload_n 1, 1) := by decide +kernel
theorem dX10_burden_2 : decode cX10_burden 2 = .ok (.i2l, 1) := by decide +kernel
theorem dX10_burden_3 : decode cX10_burden 3 = .ok (.lconst 1, 1) := by decide +kernel
theorem dX10_burden_4 : decode cX10_burden 4 = .ok (.ldc2_w 432, 3) := by decide +kernel
theorem dX10_burden_7 : decode cX10_burden 7 = .ok (.invokestatic 65, 3) := by decide +kernel
theorem dX10_burden_10 : decode cX10_burden 10 = .ok (.invokevirtual 201, 3) := by decide +kernel
theorem dX10_burden_13 : decode cX10_burden 13 = .ok (.ifCond .eq 11, 3) := by decide +kernel
theorem dX10_burden_16 : decode cX10_burden 16 = .ok (.aload_n 0, 1) := by decide +kernel
theorem dX10_burden_17 : decode cX10_burden 17 = .ok (.iload_n 1, 1) := by decide +kernel
theorem dX10_burden_18 : decode cX10_burden 18 = .ok (.invokevirtual 440, 3) := by decide +kernel
theorem dX10_burden_21 : decode cX10_burden 21 = .ok (.goto 4, 3) := by decide +kernel
theorem dX10_burden_24 : decode cX10_burden 24 = .ok (.iconst 0, 1) := by decide +kernel
theorem dX10_burden_25 : decode cX10_burden 25 = .ok (.ireturn, 1) := by decide +kernel
/-! X10_burdenOf -/
theorem dX10_burdenOf_0 : decode cX10_burdenOf 0 = .ok (.iconst 0, 1) := by decide +kernel
theorem dX10_burdenOf_1 : decode cX10_burdenOf 1 = .ok (.istore_n 2, 1) := by decide +kernel
theorem dX10_burdenOf_2 : decode cX10_burdenOf 2 = .ok (.aload_n 0, 1) := by decide +kernel
theorem dX10_burdenOf_3 : decode cX10_burdenOf 3 = .ok (.iload_n 1, 1) := by decide +kernel
theorem dX10_burdenOf_4 : decode cX10_burdenOf 4 = .ok (.invokevirtual 434, 3) := by decide +kernel
theorem dX10_burdenOf_7 : decode cX10_burdenOf 7 = .ok (.iconst 0, 1) := by decide +kernel
theorem dX10_burdenOf_8 : decode cX10_burdenOf 8 = .ok (.istore_n 3, 1) := by decide +kernel
theorem dX10_burdenOf_9 : decode cX10_burdenOf 9 = .ok (.iload_n 3, 1) := by decide +kernel
theorem dX10_burdenOf_10 : decode cX10_burdenOf 10 = .ok (.aload_n 0, 1) := by decide +kernel
theorem dX10_burdenOf_11 : decode cX10_burdenOf 11 = .ok (.getfield 7, 3) := by decide +kernel
theorem dX10_burdenOf_14 : decode cX10_burdenOf 14 = .ok (.iconst 0, 1) := by decide +kernel
theorem dX10_burdenOf_15 : decode cX10_burdenOf 15 = .ok (.iaload, 1) := by decide +kernel
theorem dX10_burdenOf_16 : decode cX10_burdenOf 16 = .ok (.if_icmp .ge 26, 3) := by decide +kernel
theorem dX10_burdenOf_19 : decode cX10_burdenOf 19 = .ok (.aload_n 0, 1) := by decide +kernel
theorem dX10_burdenOf_20 : decode cX10_burdenOf 20 = .ok (.iload_n 3, 1) := by decide +kernel
theorem dX10_burdenOf_21 : decode cX10_burdenOf 21 = .ok (.invokevirtual 437, 3) := by decide +kernel
theorem dX10_burdenOf_24 : decode cX10_burdenOf 24 = .ok (.iload_n 2, 1) := by decide +kernel
theorem dX10_burdenOf_25 : decode cX10_burdenOf 25 = .ok (.iload_n 1, 1) := by decide +kernel
theorem dX10_burdenOf_26 : decode cX10_burdenOf 26 = .ok (.bipush 20, 2) := by decide +kernel
theorem dX10_burdenOf_28 : decode cX10_burdenOf 28 = .ok (.aload_n 0, 1) := by decide +kernel
theorem dX10_burdenOf_29 : decode cX10_burdenOf 29 = .ok (.getfield 426, 3) := by decide +kernel
theorem dX10_burdenOf_32 : decode cX10_burdenOf 32 = .ok (.imul, 1) := by decide +kernel
theorem dX10_burdenOf_33 : decode cX10_burdenOf 33 = .ok (.iadd, 1) := by decide +kernel
theorem dX10_burdenOf_34 : decode cX10_burdenOf 34 = .ok (.iadd, 1) := by decide +kernel
theorem dX10_burdenOf_35 : decode cX10_burdenOf 35 = .ok (.istore_n 2, 1) := by decide +kernel
theorem dX10_burdenOf_36 : decode cX10_burdenOf 36 = .ok (.iinc 3 1, 3) := by decide +kernel
theorem dX10_burdenOf_39 : decode cX10_burdenOf 39 = .ok (.goto (-30), 3) := by decide +kernel
theorem dX10_burdenOf_42 : decode cX10_burdenOf 42 = .ok (.iload_n 2, 1) := by decide +kernel
theorem dX10_burdenOf_43 : decode cX10_burdenOf 43 = .ok (.ireturn, 1) := by decide +kernel
/-! X10_byteAt -/
theorem dX10_byteAt_0 : decode cX10_byteAt 0 = .ok (.iload_n 1, 1) := by decide +kernel
theorem dX10_byteAt_1 : decode cX10_byteAt 1 = .ok (.aload_n 0, 1) := by decide +kernel
theorem dX10_byteAt_2 : decode cX10_byteAt 2 = .ok (.getfield 198, 3) := by decide +kernel
theorem dX10_byteAt_5 : decode cX10_byteAt 5 = .ok (.if_icmp .ge 12, 3) := by decide +kernel
theorem dX10_byteAt_8 : decode cX10_byteAt 8 = .ok (.aload_n 0, 1) := by decide +kernel
theorem dX10_byteAt_9 : decode cX10_byteAt 9 = .ok (.getfield 26, 3) := by decide +kernel
theorem dX10_byteAt_12 : decode cX10_byteAt 12 = .ok (.iload_n 1, 1) := by decide +kernel
theorem dX10_byteAt_13 : decode cX10_byteAt 13 = .ok (.iaload, 1) := by decide +kernel
theorem dX10_byteAt_14 : decode cX10_byteAt 14 = .ok (.goto 4, 3) := by decide +kernel
theorem dX10_byteAt_17 : decode cX10_byteAt 17 = .ok (.iconst (-1), 1) := by decide +kernel
theorem dX10_byteAt_18 : decode cX10_byteAt 18 = .ok (.ireturn, 1) := by decide +kernel
/-! X10_clears -/
theorem dX10_clears_0 : decode cX10_clears 0 = .ok (.iconst 0, 1) := by decide +kernel
theorem dX10_clears_1 : decode cX10_clears 1 = .ok (.istore_n 1, 1) := by decide +kernel
theorem dX10_clears_2 : decode cX10_clears 2 = .ok (.iload_n 1, 1) := by decide +kernel
theorem dX10_clears_3 : decode cX10_clears 3 = .ok (.sipush 16816, 3) := by decide +kernel
theorem dX10_clears_6 : decode cX10_clears 6 = .ok (.if_icmp .ge 16, 3) := by decide +kernel
theorem dX10_clears_9 : decode cX10_clears 9 = .ok (.aload_n 0, 1) := by decide +kernel
theorem dX10_clears_10 : decode cX10_clears 10 = .ok (.getfield 7, 3) := by decide +kernel
theorem dX10_clears_13 : decode cX10_clears 13 = .ok (.iload_n 1, 1) := by decide +kernel
theorem dX10_clears_14 : decode cX10_clears 14 = .ok (.iconst 0, 1) := by decide +kernel
theorem dX10_clears_15 : decode cX10_clears 15 = .ok (.iastore, 1) := by decide +kernel
theorem dX10_clears_16 : decode cX10_clears 16 = .ok (.iinc 1 1, 3) := by decide +kernel
theorem dX10_clears_19 : decode cX10_clears 19 = .ok (.goto (-17), 3) := by decide +kernel
theorem dX10_clears_22 : decode cX10_clears 22 = .ok (.aload_n 0, 1) := by decide +kernel
theorem dX10_clears_23 : decode cX10_clears 23 = .ok (.getfield 7, 3) := by decide +kernel
theorem dX10_clears_26 : decode cX10_clears 26 = .ok (.iconst 3, 1) := by decide +kernel
theorem dX10_clears_27 : decode cX10_clears 27 = .ok (.bipush 60, 2) := by decide +kernel
theorem dX10_clears_29 : decode cX10_clears 29 = .ok (.iastore, 1) := by decide +kernel
theorem dX10_clears_30 : decode cX10_clears 30 = .ok (.aload_n 0, 1) := by decide +kernel
theorem dX10_clears_31 : decode cX10_clears 31 = .ok (.getfield 7, 3) := by decide +kernel
theorem dX10_clears_34 : decode cX10_clears 34 = .ok (.bipush 6, 2) := by decide +kernel
theorem dX10_clears_36 : decode cX10_clears 36 = .ok (.bipush 27, 2) := by decide +kernel
theorem dX10_clears_38 : decode cX10_clears 38 = .ok (.iastore, 1) := by decide +kernel
theorem dX10_clears_39 : decode cX10_clears 39 = .ok (.aload_n 0, 1) := by decide +kernel
theorem dX10_clears_40 : decode cX10_clears 40 = .ok (.getfield 7, 3) := by decide +kernel
theorem dX10_clears_43 : decode cX10_clears 43 = .ok (.bipush 7, 2) := by decide +kernel
theorem dX10_clears_45 : decode cX10_clears 45 = .ok (.iconst (-1), 1) := by decide +kernel
theorem dX10_clears_46 : decode cX10_clears 46 = .ok (.iastore, 1) := by decide +kernel
theorem dX10_clears_47 : decode cX10_clears 47 = .ok (.iconst 0, 1) := by decide +kernel
theorem dX10_clears_48 : decode cX10_clears 48 = .ok (.istore_n 1, 1) := by decide +kernel
theorem dX10_clears_49 : decode cX10_clears 49 = .ok (.iload_n 1, 1) := by decide +kernel
theorem dX10_clears_50 : decode cX10_clears 50 = .ok (.iconst 4, 1) := by decide +kernel
theorem dX10_clears_51 : decode cX10_clears 51 = .ok (.if_icmp .ge 26, 3) := by decide +kernel
theorem dX10_clears_54 : decode cX10_clears 54 = .ok (.aload_n 0, 1) := by decide +kernel
theorem dX10_clears_55 : decode cX10_clears 55 = .ok (.getfield 7, 3) := by decide +kernel
theorem dX10_clears_58 : decode cX10_clears 58 = .ok (.sipush 11992, 3) := by decide +kernel
theorem dX10_clears_61 : decode cX10_clears 61 = .ok (.sipush 1206, 3) := by decide +kernel
theorem dX10_clears_64 : decode cX10_clears 64 = .ok (.iload_n 1, 1) := by decide +kernel
theorem dX10_clears_65 : decode cX10_clears 65 = .ok (.imul, 1) := by decide +kernel
theorem dX10_clears_66 : decode cX10_clears 66 = .ok (.iadd, 1) := by decide +kernel
theorem dX10_clears_67 : decode cX10_clears 67 = .ok (.iconst 0, 1) := by decide +kernel
theorem dX10_clears_68 : decode cX10_clears 68 = .ok (.iadd, 1) := by decide +kernel
theorem dX10_clears_69 : decode cX10_clears 69 = .ok (.iconst (-1), 1) := by decide +kernel
theorem dX10_clears_70 : decode cX10_clears 70 = .ok (.iastore, 1) := by decide +kernel
theorem dX10_clears_71 : decode cX10_clears 71 = .ok (.iinc 1 1, 3) := by decide +kernel
theorem dX10_clears_74 : decode cX10_clears 74 = .ok (.goto (-25), 3) := by decide +kernel
theorem dX10_clears_77 : decode cX10_clears 77 = .ok (.return_, 1) := by decide +kernel
/-! X10_copies -/
theorem dX10_copies_0 : decode cX10_copies 0 = .ok (.iconst 0, 1) := by decide +kernel
theorem dX10_copies_1 : decode cX10_copies 1 = .ok (.istore 4, 2) := by decide +kernel
theorem dX10_copies_3 : decode cX10_copies 3 = .ok (.iload 4, 2) := by decide +kernel
theorem dX10_copies_5 : decode cX10_copies 5 = .ok (.sipush 16816, 3) := by decide +kernel
theorem dX10_copies_8 : decode cX10_copies 8 = .ok (.if_icmp .ge 21, 3) := by decide +kernel
theorem dX10_copies_11 : decode cX10_copies 11 = .ok (.aload_n 2, 1) := by decide +kernel
theorem dX10_copies_12 : decode cX10_copies 12 = .ok (.iload_n 3, 1) := by decide +kernel
theorem dX10_copies_13 : decode cX10_copies 13 = .ok (.iload 4, 2) := by decide +kernel
theorem dX10_copies_15 : decode cX10_copies 15 = .ok (.iadd, 1) := by decide +kernel
theorem dX10_copies_16 : decode cX10_copies 16 = .ok (.aload_n 0, 1) := by decide +kernel
theorem dX10_copies_17 : decode cX10_copies 17 = .ok (.iload_n 1, 1) := by decide +kernel
theorem dX10_copies_18 : decode cX10_copies 18 = .ok (.iload 4, 2) := by decide +kernel
theorem dX10_copies_20 : decode cX10_copies 20 = .ok (.iadd, 1) := by decide +kernel
theorem dX10_copies_21 : decode cX10_copies 21 = .ok (.iaload, 1) := by decide +kernel
theorem dX10_copies_22 : decode cX10_copies 22 = .ok (.iastore, 1) := by decide +kernel
theorem dX10_copies_23 : decode cX10_copies 23 = .ok (.iinc 4 1, 3) := by decide +kernel
theorem dX10_copies_26 : decode cX10_copies 26 = .ok (.goto (-23), 3) := by decide +kernel
theorem dX10_copies_29 : decode cX10_copies 29 = .ok (.return_, 1) := by decide +kernel
/-! X10_crosses -/
theorem dX10_crosses_0 : decode cX10_crosses 0 = .ok (.aload_n 0, 1) := by decide +kernel
theorem dX10_crosses_1 : decode cX10_crosses 1 = .ok (.iload_n 1, 1) := by decide +kernel
theorem dX10_crosses_2 : decode cX10_crosses 2 = .ok (.iconst 0, 1) := by decide +kernel
theorem dX10_crosses_3 : decode cX10_crosses 3 = .ok (.invokevirtual 73, 3) := by decide +kernel
theorem dX10_crosses_6 : decode cX10_crosses 6 = .ok (.istore_n 2, 1) := by decide +kernel
theorem dX10_crosses_7 : decode cX10_crosses 7 = .ok (.aload_n 0, 1) := by decide +kernel
theorem dX10_crosses_8 : decode cX10_crosses 8 = .ok (.aload_n 0, 1) := by decide +kernel
theorem dX10_crosses_9 : decode cX10_crosses 9 = .ok (.getfield 426, 3) := by decide +kernel
theorem dX10_crosses_12 : decode cX10_crosses 12 = .ok (.putfield 429, 3) := by decide +kernel
theorem dX10_crosses_15 : decode cX10_crosses 15 = .ok (.iconst 0, 1) := by decide +kernel
theorem dX10_crosses_16 : decode cX10_crosses 16 = .ok (.istore_n 3, 1) := by decide +kernel
theorem dX10_crosses_17 : decode cX10_crosses 17 = .ok (.iload_n 3, 1) := by decide +kernel
theorem dX10_crosses_18 : decode cX10_crosses 18 = .ok (.aload_n 0, 1) := by decide +kernel
theorem dX10_crosses_19 : decode cX10_crosses 19 = .ok (.getfield 429, 3) := by decide +kernel
theorem dX10_crosses_22 : decode cX10_crosses 22 = .ok (.if_icmp .ge 21, 3) := by decide +kernel
theorem dX10_crosses_25 : decode cX10_crosses 25 = .ok (.aload_n 0, 1) := by decide +kernel
theorem dX10_crosses_26 : decode cX10_crosses 26 = .ok (.getfield 46, 3) := by decide +kernel
theorem dX10_crosses_29 : decode cX10_crosses 29 = .ok (.iload_n 3, 1) := by decide +kernel
theorem dX10_crosses_30 : decode cX10_crosses 30 = .ok (.aload_n 0, 1) := by decide +kernel
theorem dX10_crosses_31 : decode cX10_crosses 31 = .ok (.getfield 49, 3) := by decide +kernel
theorem dX10_crosses_34 : decode cX10_crosses 34 = .ok (.iload_n 3, 1) := by decide +kernel
theorem dX10_crosses_35 : decode cX10_crosses 35 = .ok (.iaload, 1) := by decide +kernel
theorem dX10_crosses_36 : decode cX10_crosses 36 = .ok (.iastore, 1) := by decide +kernel
theorem dX10_crosses_37 : decode cX10_crosses 37 = .ok (.iinc 3 1, 3) := by decide +kernel
theorem dX10_crosses_40 : decode cX10_crosses 40 = .ok (.goto (-23), 3) := by decide +kernel
theorem dX10_crosses_43 : decode cX10_crosses 43 = .ok (.aload_n 0, 1) := by decide +kernel
theorem dX10_crosses_44 : decode cX10_crosses 44 = .ok (.iconst 0, 1) := by decide +kernel
theorem dX10_crosses_45 : decode cX10_crosses 45 = .ok (.putfield 426, 3) := by decide +kernel
theorem dX10_crosses_48 : decode cX10_crosses 48 = .ok (.iconst 0, 1) := by decide +kernel
theorem dX10_crosses_49 : decode cX10_crosses 49 = .ok (.istore_n 3, 1) := by decide +kernel
theorem dX10_crosses_50 : decode cX10_crosses 50 = .ok (.iload_n 3, 1) := by decide +kernel
theorem dX10_crosses_51 : decode cX10_crosses 51 = .ok (.aload_n 0, 1) := by decide +kernel
theorem dX10_crosses_52 : decode cX10_crosses 52 = .ok (.getfield 429, 3) := by decide +kernel
theorem dX10_crosses_55 : decode cX10_crosses 55 = .ok (.if_icmp .ge 82, 3) := by decide +kernel
theorem dX10_crosses_58 : decode cX10_crosses 58 = .ok (.aload_n 0, 1) := by decide +kernel
theorem dX10_crosses_59 : decode cX10_crosses 59 = .ok (.getfield 46, 3) := by decide +kernel
theorem dX10_crosses_62 : decode cX10_crosses 62 = .ok (.iload_n 3, 1) := by decide +kernel
theorem dX10_crosses_63 : decode cX10_crosses 63 = .ok (.iaload, 1) := by decide +kernel
theorem dX10_crosses_64 : decode cX10_crosses 64 = .ok (.istore 4, 2) := by decide +kernel
theorem dX10_crosses_66 : decode cX10_crosses 66 = .ok (.iload 4, 2) := by decide +kernel
theorem dX10_crosses_68 : decode cX10_crosses 68 = .ok (.iload_n 2, 1) := by decide +kernel
theorem dX10_crosses_69 : decode cX10_crosses 69 = .ok (.bipush 20, 2) := by decide +kernel
theorem dX10_crosses_71 : decode cX10_crosses 71 = .ok (.isub, 1) := by decide +kernel
theorem dX10_crosses_72 : decode cX10_crosses 72 = .ok (.if_icmp .le 38, 3) := by decide +kernel
theorem dX10_crosses_75 : decode cX10_crosses 75 = .ok (.aload_n 0, 1) := by decide +kernel
theorem dX10_crosses_76 : decode cX10_crosses 76 = .ok (.getfield 49, 3) := by decide +kernel
theorem dX10_crosses_79 : decode cX10_crosses 79 = .ok (.aload_n 0, 1) := by decide +kernel
theorem dX10_crosses_80 : decode cX10_crosses 80 = .ok (.getfield 426, 3) := by decide +kernel
theorem dX10_crosses_83 : decode cX10_crosses 83 = .ok (.iload_n 2, 1) := by decide +kernel
theorem dX10_crosses_84 : decode cX10_crosses 84 = .ok (.invokestatic 79, 3) := by decide +kernel
theorem dX10_crosses_87 : decode cX10_crosses 87 = .ok (.iastore, 1) := by decide +kernel
theorem dX10_crosses_88 : decode cX10_crosses 88 = .ok (.aload_n 0, 1) := by decide +kernel
theorem dX10_crosses_89 : decode cX10_crosses 89 = .ok (.dup, 1) := by decide +kernel
theorem dX10_crosses_90 : decode cX10_crosses 90 = .ok (.getfield 426, 3) := by decide +kernel
theorem dX10_crosses_93 : decode cX10_crosses 93 = .ok (.iconst 1, 1) := by decide +kernel
theorem dX10_crosses_94 : decode cX10_crosses 94 = .ok (.iadd, 1) := by decide +kernel
theorem dX10_crosses_95 : decode cX10_crosses 95 = .ok (.putfield 426, 3) := by decide +kernel
theorem dX10_crosses_98 : decode cX10_crosses 98 = .ok (.iload 4, 2) := by decide +kernel
theorem dX10_crosses_100 : decode cX10_crosses 100 = .ok (.iload_n 2, 1) := by decide +kernel
theorem dX10_crosses_101 : decode cX10_crosses 101 = .ok (.invokestatic 79, 3) := by decide +kernel
theorem dX10_crosses_104 : decode cX10_crosses 104 = .ok (.isub, 1) := by decide +kernel
theorem dX10_crosses_105 : decode cX10_crosses 105 = .ok (.istore 4, 2) := by decide +kernel
theorem dX10_crosses_107 : decode cX10_crosses 107 = .ok (.goto (-41), 3) := by decide +kernel
theorem dX10_crosses_110 : decode cX10_crosses 110 = .ok (.aload_n 0, 1) := by decide +kernel
theorem dX10_crosses_111 : decode cX10_crosses 111 = .ok (.getfield 49, 3) := by decide +kernel
theorem dX10_crosses_114 : decode cX10_crosses 114 = .ok (.aload_n 0, 1) := by decide +kernel
theorem dX10_crosses_115 : decode cX10_crosses 115 = .ok (.getfield 426, 3) := by decide +kernel
theorem dX10_crosses_118 : decode cX10_crosses 118 = .ok (.iload 4, 2) := by decide +kernel
theorem dX10_crosses_120 : decode cX10_crosses 120 = .ok (.iastore, 1) := by decide +kernel
theorem dX10_crosses_121 : decode cX10_crosses 121 = .ok (.aload_n 0, 1) := by decide +kernel
theorem dX10_crosses_122 : decode cX10_crosses 122 = .ok (.dup, 1) := by decide +kernel
theorem dX10_crosses_123 : decode cX10_crosses 123 = .ok (.getfield 426, 3) := by decide +kernel
theorem dX10_crosses_126 : decode cX10_crosses 126 = .ok (.iconst 1, 1) := by decide +kernel
theorem dX10_crosses_127 : decode cX10_crosses 127 = .ok (.iadd, 1) := by decide +kernel
theorem dX10_crosses_128 : decode cX10_crosses 128 = .ok (.putfield 426, 3) := by decide +kernel
theorem dX10_crosses_131 : decode cX10_crosses 131 = .ok (.iinc 3 1, 3) := by decide +kernel
theorem dX10_crosses_134 : decode cX10_crosses 134 = .ok (.goto (-84), 3) := by decide +kernel
theorem dX10_crosses_137 : decode cX10_crosses 137 = .ok (.return_, 1) := by decide +kernel
/-! X10_cuts -/
theorem dX10_cuts_0 : decode cX10_cuts 0 = .ok (.aload_n 0, 1) := by decide +kernel
theorem dX10_cuts_1 : decode cX10_cuts 1 = .ok (.iload_n 1, 1) := by decide +kernel
theorem dX10_cuts_2 : decode cX10_cuts 2 = .ok (.iconst 0, 1) := by decide +kernel
theorem dX10_cuts_3 : decode cX10_cuts 3 = .ok (.invokevirtual 73, 3) := by decide +kernel
theorem dX10_cuts_6 : decode cX10_cuts 6 = .ok (.istore 6, 2) := by decide +kernel
theorem dX10_cuts_8 : decode cX10_cuts 8 = .ok (.iload 4, 2) := by decide +kernel
theorem dX10_cuts_10 : decode cX10_cuts 10 = .ok (.istore 7, 2) := by decide +kernel
theorem dX10_cuts_12 : decode cX10_cuts 12 = .ok (.iload_n 3, 1) := by decide +kernel
theorem dX10_cuts_13 : decode cX10_cuts 13 = .ok (.istore 8, 2) := by decide +kernel
theorem dX10_cuts_15 : decode cX10_cuts 15 = .ok (.iload 7, 2) := by decide +kernel
theorem dX10_cuts_17 : decode cX10_cuts 17 = .ok (.iload 6, 2) := by decide +kernel
theorem dX10_cuts_19 : decode cX10_cuts 19 = .ok (.bipush 20, 2) := by decide +kernel
theorem dX10_cuts_21 : decode cX10_cuts 21 = .ok (.isub, 1) := by decide +kernel
theorem dX10_cuts_22 : decode cX10_cuts 22 = .ok (.if_icmp .le 44, 3) := by decide +kernel
theorem dX10_cuts_25 : decode cX10_cuts 25 = .ok (.aload_n 0, 1) := by decide +kernel
theorem dX10_cuts_26 : decode cX10_cuts 26 = .ok (.iload_n 1, 1) := by decide +kernel
theorem dX10_cuts_27 : decode cX10_cuts 27 = .ok (.iload_n 2, 1) := by decide +kernel
theorem dX10_cuts_28 : decode cX10_cuts 28 = .ok (.iload 8, 2) := by decide +kernel
theorem dX10_cuts_30 : decode cX10_cuts 30 = .ok (.iload 6, 2) := by decide +kernel
theorem dX10_cuts_32 : decode cX10_cuts 32 = .ok (.invokestatic 79, 3) := by decide +kernel
theorem dX10_cuts_35 : decode cX10_cuts 35 = .ok (.bipush 20, 2) := by decide +kernel
theorem dX10_cuts_37 : decode cX10_cuts 37 = .ok (.iadd, 1) := by decide +kernel
theorem dX10_cuts_38 : decode cX10_cuts 38 = .ok (.iconst 1, 1) := by decide +kernel
theorem dX10_cuts_39 : decode cX10_cuts 39 = .ok (.iconst 0, 1) := by decide +kernel
theorem dX10_cuts_40 : decode cX10_cuts 40 = .ok (.invokevirtual 111, 3) := by decide +kernel
theorem dX10_cuts_43 : decode cX10_cuts 43 = .ok (.iload 8, 2) := by decide +kernel
theorem dX10_cuts_45 : decode cX10_cuts 45 = .ok (.iload 6, 2) := by decide +kernel
theorem dX10_cuts_47 : decode cX10_cuts 47 = .ok (.invokestatic 79, 3) := by decide +kernel
theorem dX10_cuts_50 : decode cX10_cuts 50 = .ok (.iadd, 1) := by decide +kernel
theorem dX10_cuts_51 : decode cX10_cuts 51 = .ok (.istore 8, 2) := by decide +kernel
theorem dX10_cuts_53 : decode cX10_cuts 53 = .ok (.iload 7, 2) := by decide +kernel
theorem dX10_cuts_55 : decode cX10_cuts 55 = .ok (.iload 6, 2) := by decide +kernel
theorem dX10_cuts_57 : decode cX10_cuts 57 = .ok (.invokestatic 79, 3) := by decide +kernel
theorem dX10_cuts_60 : decode cX10_cuts 60 = .ok (.isub, 1) := by decide +kernel
theorem dX10_cuts_61 : decode cX10_cuts 61 = .ok (.istore 7, 2) := by decide +kernel
theorem dX10_cuts_63 : decode cX10_cuts 63 = .ok (.goto (-48), 3) := by decide +kernel
theorem dX10_cuts_66 : decode cX10_cuts 66 = .ok (.aload_n 0, 1) := by decide +kernel
theorem dX10_cuts_67 : decode cX10_cuts 67 = .ok (.iload_n 1, 1) := by decide +kernel
theorem dX10_cuts_68 : decode cX10_cuts 68 = .ok (.iload_n 2, 1) := by decide +kernel
theorem dX10_cuts_69 : decode cX10_cuts 69 = .ok (.iload 8, 2) := by decide +kernel
theorem dX10_cuts_71 : decode cX10_cuts 71 = .ok (.iload 7, 2) := by decide +kernel
theorem dX10_cuts_73 : decode cX10_cuts 73 = .ok (.bipush 20, 2) := by decide +kernel
theorem dX10_cuts_75 : decode cX10_cuts 75 = .ok (.iadd, 1) := by decide +kernel
theorem dX10_cuts_76 : decode cX10_cuts 76 = .ok (.iload 5, 2) := by decide +kernel
theorem dX10_cuts_78 : decode cX10_cuts 78 = .ok (.iconst 0, 1) := by decide +kernel
theorem dX10_cuts_79 : decode cX10_cuts 79 = .ok (.invokevirtual 111, 3) := by decide +kernel
theorem dX10_cuts_82 : decode cX10_cuts 82 = .ok (.return_, 1) := by decide +kernel
/-! X10_dataOf -/
theorem dX10_dataOf_0 : decode cX10_dataOf 0 = .ok (.iconst 0, 1) := by decide +kernel
theorem dX10_dataOf_1 : decode cX10_dataOf 1 = .ok (.istore_n 3, 1) := by decide +kernel
theorem dX10_dataOf_2 : decode cX10_dataOf 2 = .ok (.iconst 0, 1) := by decide +kernel
theorem dX10_dataOf_3 : decode cX10_dataOf 3 = .ok (.istore 4, 2) := by decide +kernel
theorem dX10_dataOf_5 : decode cX10_dataOf 5 = .ok (.iload 4, 2) := by decide +kernel
theorem dX10_dataOf_7 : decode cX10_dataOf 7 = .ok (.aload_n 0, 1) := by decide +kernel
theorem dX10_dataOf_8 : decode cX10_dataOf 8 = .ok (.getfield 7, 3) := by decide +kernel
theorem dX10_dataOf_11 : decode cX10_dataOf 11 = .ok (.iconst 1, 1) := by decide +kernel
theorem dX10_dataOf_12 : decode cX10_dataOf 12 = .ok (.iaload, 1) := by decide +kernel
theorem dX10_dataOf_13 : decode cX10_dataOf 13 = .ok (.if_icmp .ge 30, 3) := by decide +kernel
theorem dX10_dataOf_16 : decode cX10_dataOf 16 = .ok (.iload_n 3, 1) := by decide +kernel
theorem dX10_dataOf_17 : decode cX10_dataOf 17 = .ok (.aload_n 0, 1) := by decide +kernel
theorem dX10_dataOf_18 : decode cX10_dataOf 18 = .ok (.iload 4, 2) := by decide +kernel
theorem dX10_dataOf_20 : decode cX10_dataOf 20 = .ok (.iconst 5, 1) := by decide +kernel
theorem dX10_dataOf_21 : decode cX10_dataOf 21 = .ok (.invokevirtual 69, 3) := by decide +kernel
theorem dX10_dataOf_24 : decode cX10_dataOf 24 = .ok (.i2l, 1) := by decide +kernel
theorem dX10_dataOf_25 : decode cX10_dataOf 25 = .ok (.iload_n 1, 1) := by decide +kernel
theorem dX10_dataOf_26 : decode cX10_dataOf 26 = .ok (.i2l, 1) := by decide +kernel
theorem dX10_dataOf_27 : decode cX10_dataOf 27 = .ok (.iload_n 2, 1) := by decide +kernel
theorem dX10_dataOf_28 : decode cX10_dataOf 28 = .ok (.i2l, 1) := by decide +kernel
theorem dX10_dataOf_29 : decode cX10_dataOf 29 = .ok (.invokestatic 65, 3) := by decide +kernel
theorem dX10_dataOf_32 : decode cX10_dataOf 32 = .ok (.invokestatic 104, 3) := by decide +kernel
theorem dX10_dataOf_35 : decode cX10_dataOf 35 = .ok (.iadd, 1) := by decide +kernel
theorem dX10_dataOf_36 : decode cX10_dataOf 36 = .ok (.istore_n 3, 1) := by decide +kernel
theorem dX10_dataOf_37 : decode cX10_dataOf 37 = .ok (.iinc 4 1, 3) := by decide +kernel
theorem dX10_dataOf_40 : decode cX10_dataOf 40 = .ok (.goto (-35), 3) := by decide +kernel
theorem dX10_dataOf_43 : decode cX10_dataOf 43 = .ok (.iload_n 3, 1) := by decide +kernel
theorem dX10_dataOf_44 : decode cX10_dataOf 44 = .ok (.ireturn, 1) := by decide +kernel
/-! X10_datagram -/
theorem dX10_datagram_0 : decode cX10_datagram 0 = .ok (.aload_n 0, 1) := by decide +kernel
theorem dX10_datagram_1 : decode cX10_datagram 1 = .ok (.aload_n 0, 1) := by decide +kernel
theorem dX10_datagram_2 : decode cX10_datagram 2 = .ok (.iload_n 1, 1) := by decide +kernel
theorem dX10_datagram_3 : decode cX10_datagram 3 = .ok (.invokevirtual 342, 3) := by decide +kernel
theorem dX10_datagram_6 : decode cX10_datagram 6 = .ok (.iload_n 2, 1) := by decide +kernel
theorem dX10_datagram_7 : decode cX10_datagram 7 = .ok (.i2l, 1) := by decide +kernel
theorem dX10_datagram_8 : decode cX10_datagram 8 = .ok (.lconst 0, 1) := by decide +kernel
theorem dX10_datagram_9 : decode cX10_datagram 9 = .ok (.ldc2_w 384, 3) := by decide +kernel
theorem dX10_datagram_12 : decode cX10_datagram 12 = .ok (.invokestatic 65, 3) := by decide +kernel
theorem dX10_datagram_15 : decode cX10_datagram 15 = .ok (.invokevirtual 386, 3) := by decide +kernel
theorem dX10_datagram_18 : decode cX10_datagram 18 = .ok (.ifCond .ne 5, 3) := by decide +kernel
theorem dX10_datagram_21 : decode cX10_datagram 21 = .ok (.iconst 0, 1) := by decide +kernel
theorem dX10_datagram_22 : decode cX10_datagram 22 = .ok (.ireturn, 1) := by decide +kernel
theorem dX10_datagram_23 : decode cX10_datagram 23 = .ok (.iload_n 2, 1) := by decide +kernel
theorem dX10_datagram_24 : decode cX10_datagram 24 = .ok (.bipush 8, 2) := by decide +kernel
theorem dX10_datagram_26 : decode cX10_datagram 26 = .ok (.if_icmp .ne 9, 3) := by decide +kernel
theorem dX10_datagram_29 : decode cX10_datagram 29 = .ok (.aload_n 0, 1) := by decide +kernel
theorem dX10_datagram_30 : decode cX10_datagram 30 = .ok (.iload_n 1, 1) := by decide +kernel
theorem dX10_datagram_31 : decode cX10_datagram 31 = .ok (.invokevirtual 393, 3) := by decide +kernel
theorem dX10_datagram_34 : decode cX10_datagram 34 = .ok (.ireturn, 1) := by decide +kernel
theorem dX10_datagram_35 : decode cX10_datagram 35 = .ok (.iload_n 2, 1) := by decide +kernel
theorem dX10_datagram_36 : decode cX10_datagram 36 = .ok (.bipush 6, 2) := by decide +kernel
theorem dX10_datagram_38 : decode cX10_datagram 38 = .ok (.if_icmp .ne 15, 3) := by decide +kernel
theorem dX10_datagram_41 : decode cX10_datagram 41 = .ok (.aload_n 0, 1) := by decide +kernel
theorem dX10_datagram_42 : decode cX10_datagram 42 = .ok (.iload_n 1, 1) := by decide +kernel
theorem dX10_datagram_43 : decode cX10_datagram 43 = .ok (.invokevirtual 91, 3) := by decide +kernel
theorem dX10_datagram_46 : decode cX10_datagram 46 = .ok (.ifCond .eq 7, 3) := by decide +kernel
theorem dX10_datagram_49 : decode cX10_datagram 49 = .ok (.iconst (-1), 1) := by decide +kernel
theorem dX10_datagram_50 : decode cX10_datagram 50 = .ok (.goto 9, 3) := by decide +kernel
theorem dX10_datagram_53 : decode cX10_datagram 53 = .ok (.aload_n 0, 1) := by decide +kernel
theorem dX10_datagram_54 : decode cX10_datagram 54 = .ok (.iload_n 1, 1) := by decide +kernel
theorem dX10_datagram_55 : decode cX10_datagram 55 = .ok (.iload_n 2, 1) := by decide +kernel
theorem dX10_datagram_56 : decode cX10_datagram 56 = .ok (.invokevirtual 69, 3) := by decide +kernel
theorem dX10_datagram_59 : decode cX10_datagram 59 = .ok (.ireturn, 1) := by decide +kernel
/-! X10_delayUpTo -/
theorem dX10_delayUpTo_0 : decode cX10_delayUpTo 0 = .ok (.iconst 0, 1) := by decide +kernel
theorem dX10_delayUpTo_1 : decode cX10_delayUpTo 1 = .ok (.istore_n 2, 1) := by decide +kernel
theorem dX10_delayUpTo_2 : decode cX10_delayUpTo 2 = .ok (.iconst 0, 1) := by decide +kernel
theorem dX10_delayUpTo_3 : decode cX10_delayUpTo 3 = .ok (.istore_n 3, 1) := by decide +kernel
theorem dX10_delayUpTo_4 : decode cX10_delayUpTo 4 = .ok (.iload_n 3, 1) := by decide +kernel
theorem dX10_delayUpTo_5 : decode cX10_delayUpTo 5 = .ok (.iload_n 1, 1) := by decide +kernel
theorem dX10_delayUpTo_6 : decode cX10_delayUpTo 6 = .ok (.if_icmp .ge 18, 3) := by decide +kernel
theorem dX10_delayUpTo_9 : decode cX10_delayUpTo 9 = .ok (.iload_n 2, 1) := by decide +kernel
theorem dX10_delayUpTo_10 : decode cX10_delayUpTo 10 = .ok (.aload_n 0, 1) := by decide +kernel
theorem dX10_delayUpTo_11 : decode cX10_delayUpTo 11 = .ok (.iload_n 3, 1) := by decide +kernel
theorem dX10_delayUpTo_12 : decode cX10_delayUpTo 12 = .ok (.iconst 1, 1) := by decide +kernel
theorem dX10_delayUpTo_13 : decode cX10_delayUpTo 13 = .ok (.invokevirtual 73, 3) := by decide +kernel
theorem dX10_delayUpTo_16 : decode cX10_delayUpTo 16 = .ok (.iadd, 1) := by decide +kernel
theorem dX10_delayUpTo_17 : decode cX10_delayUpTo 17 = .ok (.istore_n 2, 1) := by decide +kernel
theorem dX10_delayUpTo_18 : decode cX10_delayUpTo 18 = .ok (.iinc 3 1, 3) := by decide +kernel
theorem dX10_delayUpTo_21 : decode cX10_delayUpTo 21 = .ok (.goto (-17), 3) := by decide +kernel
theorem dX10_delayUpTo_24 : decode cX10_delayUpTo 24 = .ok (.iload_n 2, 1) := by decide +kernel
theorem dX10_delayUpTo_25 : decode cX10_delayUpTo 25 = .ok (.ireturn, 1) := by decide +kernel
/-! X10_does -/
theorem dX10_does_0 : decode cX10_does 0 = .ok (.aload_n 0, 1) := by decide +kernel
theorem dX10_does_1 : decode cX10_does 1 = .ok (.getfield 43, 3) := by decide +kernel
theorem dX10_does_4 : decode cX10_does 4 = .ok (.bipush 6, 2) := by decide +kernel
theorem dX10_does_6 : decode cX10_does 6 = .ok (.iload_n 1, 1) := by decide +kernel
theorem dX10_does_7 : decode cX10_does 7 = .ok (.imul, 1) := by decide +kernel
theorem dX10_does_8 : decode cX10_does 8 = .ok (.iconst 1, 1) := by decide +kernel
theorem dX10_does_9 : decode cX10_does 9 = .ok (.iadd, 1) := by decide +kernel
theorem dX10_does_10 : decode cX10_does 10 = .ok (.iaload, 1) := by decide +kernel
theorem dX10_does_11 : decode cX10_does 11 = .ok (.istore_n 2, 1) := by decide +kernel
theorem dX10_does_12 : decode cX10_does 12 = .ok (.aload_n 0, 1) := by decide +kernel
theorem dX10_does_13 : decode cX10_does 13 = .ok (.getfield 43, 3) := by decide +kernel
theorem dX10_does_16 : decode cX10_does 16 = .ok (.bipush 6, 2) := by decide +kernel
theorem dX10_does_18 : decode cX10_does 18 = .ok (.iload_n 1, 1) := by decide +kernel
theorem dX10_does_19 : decode cX10_does 19 = .ok (.imul, 1) := by decide +kernel
theorem dX10_does_20 : decode cX10_does 20 = .ok (.iconst 2, 1) := by decide +kernel
theorem dX10_does_21 : decode cX10_does 21 = .ok (.iadd, 1) := by decide +kernel
theorem dX10_does_22 : decode cX10_does 22 = .ok (.iaload, 1) := by decide +kernel
theorem dX10_does_23 : decode cX10_does 23 = .ok (.istore_n 3, 1) := by decide +kernel
theorem dX10_does_24 : decode cX10_does 24 = .ok (.aload_n 0, 1) := by decide +kernel
theorem dX10_does_25 : decode cX10_does 25 = .ok (.getfield 43, 3) := by decide +kernel
theorem dX10_does_28 : decode cX10_does 28 = .ok (.bipush 6, 2) := by decide +kernel
theorem dX10_does_30 : decode cX10_does 30 = .ok (.iload_n 1, 1) := by decide +kernel
theorem dX10_does_31 : decode cX10_does 31 = .ok (.imul, 1) := by decide +kernel
theorem dX10_does_32 : decode cX10_does 32 = .ok (.iconst 3, 1) := by decide +kernel
theorem dX10_does_33 : decode cX10_does 33 = .ok (.iadd, 1) := by decide +kernel
theorem dX10_does_34 : decode cX10_does 34 = .ok (.iaload, 1) := by decide +kernel
theorem dX10_does_35 : decode cX10_does 35 = .ok (.istore 4, 2) := by decide +kernel
theorem dX10_does_37 : decode cX10_does 37 = .ok (.aload_n 0, 1) := by decide +kernel
theorem dX10_does_38 : decode cX10_does 38 = .ok (.getfield 43, 3) := by decide +kernel
theorem dX10_does_41 : decode cX10_does 41 = .ok (.bipush 6, 2) := by decide +kernel
theorem dX10_does_43 : decode cX10_does 43 = .ok (.iload_n 1, 1) := by decide +kernel
theorem dX10_does_44 : decode cX10_does 44 = .ok (.imul, 1) := by decide +kernel
theorem dX10_does_45 : decode cX10_does 45 = .ok (.iaload, 1) := by decide +kernel
theorem dX10_does_46 : decode cX10_does 46 = .ok (.tableswitch 142 0 6 #[42, 60, 78, 84, 142, 142, 136], 42) := by decide +kernel
theorem dX10_does_88 : decode cX10_does 88 = .ok (.aload_n 0, 1) := by decide +kernel
theorem dX10_does_89 : decode cX10_does 89 = .ok (.iload_n 2, 1) := by decide +kernel
theorem dX10_does_90 : decode cX10_does 90 = .ok (.iload_n 3, 1) := by decide +kernel
theorem dX10_does_91 : decode cX10_does 91 = .ok (.iload 4, 2) := by decide +kernel
theorem dX10_does_93 : decode cX10_does 93 = .ok (.iconst 1, 1) := by decide +kernel
theorem dX10_does_94 : decode cX10_does 94 = .ok (.if_icmp .ne 7, 3) := by decide +kernel
theorem dX10_does_97 : decode cX10_does 97 = .ok (.iconst 1, 1) := by decide +kernel
theorem dX10_does_98 : decode cX10_does 98 = .ok (.goto 4, 3) := by decide +kernel
theorem dX10_does_101 : decode cX10_does 101 = .ok (.iconst 0, 1) := by decide +kernel
theorem dX10_does_102 : decode cX10_does 102 = .ok (.invokevirtual 339, 3) := by decide +kernel
theorem dX10_does_105 : decode cX10_does 105 = .ok (.ireturn, 1) := by decide +kernel
theorem dX10_does_106 : decode cX10_does 106 = .ok (.aload_n 0, 1) := by decide +kernel
theorem dX10_does_107 : decode cX10_does 107 = .ok (.iload_n 2, 1) := by decide +kernel
theorem dX10_does_108 : decode cX10_does 108 = .ok (.invokevirtual 342, 3) := by decide +kernel
theorem dX10_does_111 : decode cX10_does 111 = .ok (.ifCond .eq 11, 3) := by decide +kernel
theorem dX10_does_114 : decode cX10_does 114 = .ok (.aload_n 0, 1) := by decide +kernel
theorem dX10_does_115 : decode cX10_does 115 = .ok (.iload_n 2, 1) := by decide +kernel
theorem dX10_does_116 : decode cX10_does 116 = .ok (.invokevirtual 345, 3) := by decide +kernel
theorem dX10_does_119 : decode cX10_does 119 = .ok (.goto 4, 3) := by decide +kernel
theorem dX10_does_122 : decode cX10_does 122 = .ok (.iconst (-1), 1) := by decide +kernel
theorem dX10_does_123 : decode cX10_does 123 = .ok (.ireturn, 1) := by decide +kernel
theorem dX10_does_124 : decode cX10_does 124 = .ok (.aload_n 0, 1) := by decide +kernel
theorem dX10_does_125 : decode cX10_does 125 = .ok (.iload_n 2, 1) := by decide +kernel
theorem dX10_does_126 : decode cX10_does 126 = .ok (.invokevirtual 348, 3) := by decide +kernel
theorem dX10_does_129 : decode cX10_does 129 = .ok (.ireturn, 1) := by decide +kernel
theorem dX10_does_130 : decode cX10_does 130 = .ok (.aload_n 0, 1) := by decide +kernel
theorem dX10_does_131 : decode cX10_does 131 = .ok (.iload_n 2, 1) := by decide +kernel
theorem dX10_does_132 : decode cX10_does 132 = .ok (.invokevirtual 342, 3) := by decide +kernel
theorem dX10_does_135 : decode cX10_does 135 = .ok (.ifCond .eq 45, 3) := by decide +kernel
theorem dX10_does_138 : decode cX10_does 138 = .ok (.aload_n 0, 1) := by decide +kernel
theorem dX10_does_139 : decode cX10_does 139 = .ok (.iload_n 2, 1) := by decide +kernel
theorem dX10_does_140 : decode cX10_does 140 = .ok (.iload_n 3, 1) := by decide +kernel
theorem dX10_does_141 : decode cX10_does 141 = .ok (.iload 4, 2) := by decide +kernel
theorem dX10_does_143 : decode cX10_does 143 = .ok (.aload_n 0, 1) := by decide +kernel
theorem dX10_does_144 : decode cX10_does 144 = .ok (.getfield 43, 3) := by decide +kernel
theorem dX10_does_147 : decode cX10_does 147 = .ok (.bipush 6, 2) := by decide +kernel
theorem dX10_does_149 : decode cX10_does 149 = .ok (.iload_n 1, 1) := by decide +kernel
theorem dX10_does_150 : decode cX10_does 150 = .ok (.imul, 1) := by decide +kernel
theorem dX10_does_151 : decode cX10_does 151 = .ok (.iconst 4, 1) := by decide +kernel
theorem dX10_does_152 : decode cX10_does 152 = .ok (.iadd, 1) := by decide +kernel
theorem dX10_does_153 : decode cX10_does 153 = .ok (.iaload, 1) := by decide +kernel
theorem dX10_does_154 : decode cX10_does 154 = .ok (.aload_n 0, 1) := by decide +kernel
theorem dX10_does_155 : decode cX10_does 155 = .ok (.getfield 43, 3) := by decide +kernel
theorem dX10_does_158 : decode cX10_does 158 = .ok (.bipush 6, 2) := by decide +kernel
theorem dX10_does_160 : decode cX10_does 160 = .ok (.iload_n 1, 1) := by decide +kernel
theorem dX10_does_161 : decode cX10_does 161 = .ok (.imul, 1) := by decide +kernel
theorem dX10_does_162 : decode cX10_does 162 = .ok (.iconst 5, 1) := by decide +kernel
theorem dX10_does_163 : decode cX10_does 163 = .ok (.iadd, 1) := by decide +kernel
theorem dX10_does_164 : decode cX10_does 164 = .ok (.iaload, 1) := by decide +kernel
theorem dX10_does_165 : decode cX10_does 165 = .ok (.iconst 1, 1) := by decide +kernel
theorem dX10_does_166 : decode cX10_does 166 = .ok (.if_icmp .ne 7, 3) := by decide +kernel
theorem dX10_does_169 : decode cX10_does 169 = .ok (.iconst 1, 1) := by decide +kernel
theorem dX10_does_170 : decode cX10_does 170 = .ok (.goto 4, 3) := by decide +kernel
theorem dX10_does_173 : decode cX10_does 173 = .ok (.iconst 0, 1) := by decide +kernel
theorem dX10_does_174 : decode cX10_does 174 = .ok (.invokevirtual 351, 3) := by decide +kernel
theorem dX10_does_177 : decode cX10_does 177 = .ok (.goto 4, 3) := by decide +kernel
theorem dX10_does_180 : decode cX10_does 180 = .ok (.iconst (-1), 1) := by decide +kernel
theorem dX10_does_181 : decode cX10_does 181 = .ok (.ireturn, 1) := by decide +kernel
theorem dX10_does_182 : decode cX10_does 182 = .ok (.aload_n 0, 1) := by decide +kernel
theorem dX10_does_183 : decode cX10_does 183 = .ok (.iload_n 2, 1) := by decide +kernel
theorem dX10_does_184 : decode cX10_does 184 = .ok (.invokevirtual 355, 3) := by decide +kernel
theorem dX10_does_187 : decode cX10_does 187 = .ok (.ireturn, 1) := by decide +kernel
theorem dX10_does_188 : decode cX10_does 188 = .ok (.aload_n 0, 1) := by decide +kernel
theorem dX10_does_189 : decode cX10_does 189 = .ok (.iload_n 2, 1) := by decide +kernel
theorem dX10_does_190 : decode cX10_does 190 = .ok (.invokevirtual 358, 3) := by decide +kernel
theorem dX10_does_193 : decode cX10_does 193 = .ok (.ifCond .eq 30, 3) := by decide +kernel
theorem dX10_does_196 : decode cX10_does 196 = .ok (.aload_n 0, 1) := by decide +kernel
theorem dX10_does_197 : decode cX10_does 197 = .ok (.iload_n 2, 1) := by decide +kernel
theorem dX10_does_198 : decode cX10_does 198 = .ok (.aload_n 0, 1) := by decide +kernel
theorem dX10_does_199 : decode cX10_does 199 = .ok (.getfield 43, 3) := by decide +kernel
theorem dX10_does_202 : decode cX10_does 202 = .ok (.bipush 6, 2) := by decide +kernel
theorem dX10_does_204 : decode cX10_does 204 = .ok (.iload_n 1, 1) := by decide +kernel
theorem dX10_does_205 : decode cX10_does 205 = .ok (.imul, 1) := by decide +kernel
theorem dX10_does_206 : decode cX10_does 206 = .ok (.iaload, 1) := by decide +kernel
theorem dX10_does_207 : decode cX10_does 207 = .ok (.iconst 4, 1) := by decide +kernel
theorem dX10_does_208 : decode cX10_does 208 = .ok (.if_icmp .ne 7, 3) := by decide +kernel
theorem dX10_does_211 : decode cX10_does 211 = .ok (.iconst 0, 1) := by decide +kernel
theorem dX10_does_212 : decode cX10_does 212 = .ok (.goto 4, 3) := by decide +kernel
theorem dX10_does_215 : decode cX10_does 215 = .ok (.iconst 2, 1) := by decide +kernel
theorem dX10_does_216 : decode cX10_does 216 = .ok (.iload_n 3, 1) := by decide +kernel
theorem dX10_does_217 : decode cX10_does 217 = .ok (.invokevirtual 361, 3) := by decide +kernel
theorem dX10_does_220 : decode cX10_does 220 = .ok (.goto 4, 3) := by decide +kernel
theorem dX10_does_223 : decode cX10_does 223 = .ok (.iconst (-1), 1) := by decide +kernel
theorem dX10_does_224 : decode cX10_does 224 = .ok (.ireturn, 1) := by decide +kernel
/-! X10_done -/
theorem dX10_done_0 : decode cX10_done 0 = .ok (.iload_n 1, 1) := by decide +kernel
theorem dX10_done_1 : decode cX10_done 1 = .ok (.ifCond .lt 11, 3) := by decide +kernel
theorem dX10_done_4 : decode cX10_done 4 = .ok (.aload_n 0, 1) := by decide +kernel
theorem dX10_done_5 : decode cX10_done 5 = .ok (.aload_n 0, 1) := by decide +kernel
theorem dX10_done_6 : decode cX10_done 6 = .ok (.getfield 16, 3) := by decide +kernel
theorem dX10_done_9 : decode cX10_done 9 = .ok (.invokevirtual 369, 3) := by decide +kernel
theorem dX10_done_12 : decode cX10_done 12 = .ok (.iload_n 1, 1) := by decide +kernel
theorem dX10_done_13 : decode cX10_done 13 = .ok (.ireturn, 1) := by decide +kernel
/-! X10_endIn -/
theorem dX10_endIn_0 : decode cX10_endIn 0 = .ok (.aload_n 0, 1) := by decide +kernel
theorem dX10_endIn_1 : decode cX10_endIn 1 = .ok (.aload_n 0, 1) := by decide +kernel
theorem dX10_endIn_2 : decode cX10_endIn 2 = .ok (.iload_n 1, 1) := by decide +kernel
theorem dX10_endIn_3 : decode cX10_endIn 3 = .ok (.invokevirtual 342, 3) := by decide +kernel
theorem dX10_endIn_6 : decode cX10_endIn 6 = .ok (.invokevirtual 201, 3) := by decide +kernel
theorem dX10_endIn_9 : decode cX10_endIn 9 = .ok (.ifCond .ne 5, 3) := by decide +kernel
theorem dX10_endIn_12 : decode cX10_endIn 12 = .ok (.iconst 0, 1) := by decide +kernel
theorem dX10_endIn_13 : decode cX10_endIn 13 = .ok (.ireturn, 1) := by decide +kernel
theorem dX10_endIn_14 : decode cX10_endIn 14 = .ok (.aload_n 0, 1) := by decide +kernel
theorem dX10_endIn_15 : decode cX10_endIn 15 = .ok (.invokevirtual 448, 3) := by decide +kernel
theorem dX10_endIn_18 : decode cX10_endIn 18 = .ok (.aload_n 0, 1) := by decide +kernel
theorem dX10_endIn_19 : decode cX10_endIn 19 = .ok (.aload_n 0, 1) := by decide +kernel
theorem dX10_endIn_20 : decode cX10_endIn 20 = .ok (.iload_n 1, 1) := by decide +kernel
theorem dX10_endIn_21 : decode cX10_endIn 21 = .ok (.invokevirtual 451, 3) := by decide +kernel
theorem dX10_endIn_24 : decode cX10_endIn 24 = .ok (.invokevirtual 454, 3) := by decide +kernel
theorem dX10_endIn_27 : decode cX10_endIn 27 = .ok (.ireturn, 1) := by decide +kernel
/-! X10_endOf -/
theorem dX10_endOf_0 : decode cX10_endOf 0 = .ok (.iconst 0, 1) := by decide +kernel
theorem dX10_endOf_1 : decode cX10_endOf 1 = .ok (.istore_n 2, 1) := by decide +kernel
theorem dX10_endOf_2 : decode cX10_endOf 2 = .ok (.iload_n 2, 1) := by decide +kernel
theorem dX10_endOf_3 : decode cX10_endOf 3 = .ok (.sipush 600, 3) := by decide +kernel
theorem dX10_endOf_6 : decode cX10_endOf 6 = .ok (.if_icmp .gt 30, 3) := by decide +kernel
theorem dX10_endOf_9 : decode cX10_endOf 9 = .ok (.aload_n 0, 1) := by decide +kernel
theorem dX10_endOf_10 : decode cX10_endOf 10 = .ok (.iload_n 1, 1) := by decide +kernel
theorem dX10_endOf_11 : decode cX10_endOf 11 = .ok (.invokevirtual 91, 3) := by decide +kernel
theorem dX10_endOf_14 : decode cX10_endOf 14 = .ok (.ifCond .ne 5, 3) := by decide +kernel
theorem dX10_endOf_17 : decode cX10_endOf 17 = .ok (.iload_n 2, 1) := by decide +kernel
theorem dX10_endOf_18 : decode cX10_endOf 18 = .ok (.ireturn, 1) := by decide +kernel
theorem dX10_endOf_19 : decode cX10_endOf 19 = .ok (.iload_n 2, 1) := by decide +kernel
theorem dX10_endOf_20 : decode cX10_endOf 20 = .ok (.sipush 600, 3) := by decide +kernel
theorem dX10_endOf_23 : decode cX10_endOf 23 = .ok (.if_icmp .ge 7, 3) := by decide +kernel
theorem dX10_endOf_26 : decode cX10_endOf 26 = .ok (.aload_n 0, 1) := by decide +kernel
theorem dX10_endOf_27 : decode cX10_endOf 27 = .ok (.invokevirtual 195, 3) := by decide +kernel
theorem dX10_endOf_30 : decode cX10_endOf 30 = .ok (.iinc 2 1, 3) := by decide +kernel
theorem dX10_endOf_33 : decode cX10_endOf 33 = .ok (.goto (-31), 3) := by decide +kernel
theorem dX10_endOf_36 : decode cX10_endOf 36 = .ok (.iconst (-1), 1) := by decide +kernel
theorem dX10_endOf_37 : decode cX10_endOf 37 = .ok (.ireturn, 1) := by decide +kernel
/-! X10_ends -/
theorem dX10_ends_0 : decode cX10_ends 0 = .ok (.aload_n 0, 1) := by decide +kernel
theorem dX10_ends_1 : decode cX10_ends 1 = .ok (.iload_n 1, 1) := by decide +kernel
theorem dX10_ends_2 : decode cX10_ends 2 = .ok (.invokevirtual 137, 3) := by decide +kernel
theorem dX10_ends_5 : decode cX10_ends 5 = .ok (.istore 4, 2) := by decide +kernel
theorem dX10_ends_7 : decode cX10_ends 7 = .ok (.iload 4, 2) := by decide +kernel
theorem dX10_ends_9 : decode cX10_ends 9 = .ok (.iconst (-1), 1) := by decide +kernel
theorem dX10_ends_10 : decode cX10_ends 10 = .ok (.if_icmp .eq 11, 3) := by decide +kernel
theorem dX10_ends_13 : decode cX10_ends 13 = .ok (.aload_n 0, 1) := by decide +kernel
theorem dX10_ends_14 : decode cX10_ends 14 = .ok (.iload 4, 2) := by decide +kernel
theorem dX10_ends_16 : decode cX10_ends 16 = .ok (.iconst 0, 1) := by decide +kernel
theorem dX10_ends_17 : decode cX10_ends 17 = .ok (.iconst (-1), 1) := by decide +kernel
theorem dX10_ends_18 : decode cX10_ends 18 = .ok (.invokevirtual 140, 3) := by decide +kernel
theorem dX10_ends_21 : decode cX10_ends 21 = .ok (.aload_n 0, 1) := by decide +kernel
theorem dX10_ends_22 : decode cX10_ends 22 = .ok (.iload_n 1, 1) := by decide +kernel
theorem dX10_ends_23 : decode cX10_ends 23 = .ok (.iconst 5, 1) := by decide +kernel
theorem dX10_ends_24 : decode cX10_ends 24 = .ok (.iload_n 2, 1) := by decide +kernel
theorem dX10_ends_25 : decode cX10_ends 25 = .ok (.invokevirtual 76, 3) := by decide +kernel
theorem dX10_ends_28 : decode cX10_ends 28 = .ok (.aload_n 0, 1) := by decide +kernel
theorem dX10_ends_29 : decode cX10_ends 29 = .ok (.iload_n 1, 1) := by decide +kernel
theorem dX10_ends_30 : decode cX10_ends 30 = .ok (.bipush 6, 2) := by decide +kernel
theorem dX10_ends_32 : decode cX10_ends 32 = .ok (.aload_n 0, 1) := by decide +kernel
theorem dX10_ends_33 : decode cX10_ends 33 = .ok (.getfield 7, 3) := by decide +kernel
theorem dX10_ends_36 : decode cX10_ends 36 = .ok (.iconst 2, 1) := by decide +kernel
theorem dX10_ends_37 : decode cX10_ends 37 = .ok (.iaload, 1) := by decide +kernel
theorem dX10_ends_38 : decode cX10_ends 38 = .ok (.invokevirtual 76, 3) := by decide +kernel
theorem dX10_ends_41 : decode cX10_ends 41 = .ok (.aload_n 0, 1) := by decide +kernel
theorem dX10_ends_42 : decode cX10_ends 42 = .ok (.iload_n 1, 1) := by decide +kernel
theorem dX10_ends_43 : decode cX10_ends 43 = .ok (.bipush 7, 2) := by decide +kernel
theorem dX10_ends_45 : decode cX10_ends 45 = .ok (.iload_n 3, 1) := by decide +kernel
theorem dX10_ends_46 : decode cX10_ends 46 = .ok (.invokevirtual 76, 3) := by decide +kernel
theorem dX10_ends_49 : decode cX10_ends 49 = .ok (.return_, 1) := by decide +kernel
/-! X10_ends_ -/
theorem dX10_ends__0 : decode cX10_ends_ 0 = .ok (.aload_n 0, 1) := by decide +kernel
theorem dX10_ends__1 : decode cX10_ends_ 1 = .ok (.iconst 0, 1) := by decide +kernel
theorem dX10_ends__2 : decode cX10_ends_ 2 = .ok (.putfield 198, 3) := by decide +kernel
theorem dX10_ends__5 : decode cX10_ends_ 5 = .ok (.aload_n 0, 1) := by decide +kernel
theorem dX10_ends__6 : decode cX10_ends_ 6 = .ok (.aload_n 0, 1) := by decide +kernel
theorem dX10_ends__7 : decode cX10_ends_ 7 = .ok (.getfield 217, 3) := by decide +kernel
theorem dX10_ends__10 : decode cX10_ends_ 10 = .ok (.putfield 252, 3) := by decide +kernel
theorem dX10_ends__13 : decode cX10_ends_ 13 = .ok (.aload_n 0, 1) := by decide +kernel
theorem dX10_ends__14 : decode cX10_ends_ 14 = .ok (.aload_n 0, 1) := by decide +kernel
theorem dX10_ends__15 : decode cX10_ends_ 15 = .ok (.getfield 220, 3) := by decide +kernel
theorem dX10_ends__18 : decode cX10_ends_ 18 = .ok (.putfield 29, 3) := by decide +kernel
theorem dX10_ends__21 : decode cX10_ends_ 21 = .ok (.aload_n 0, 1) := by decide +kernel
theorem dX10_ends__22 : decode cX10_ends_ 22 = .ok (.getfield 217, 3) := by decide +kernel
theorem dX10_ends__25 : decode cX10_ends_ 25 = .ok (.ifCond .ne 7, 3) := by decide +kernel
theorem dX10_ends__28 : decode cX10_ends_ 28 = .ok (.iconst 1, 1) := by decide +kernel
theorem dX10_ends__29 : decode cX10_ends_ 29 = .ok (.goto 4, 3) := by decide +kernel
theorem dX10_ends__32 : decode cX10_ends_ 32 = .ok (.iconst 0, 1) := by decide +kernel
theorem dX10_ends__33 : decode cX10_ends_ 33 = .ok (.ireturn, 1) := by decide +kernel
/-! X10_errorCode -/
theorem dX10_errorCode_0 : decode cX10_errorCode 0 = .ok (.aload_n 0, 1) := by decide +kernel
theorem dX10_errorCode_1 : decode cX10_errorCode 1 = .ok (.iconst 0, 1) := by decide +kernel
theorem dX10_errorCode_2 : decode cX10_errorCode 2 = .ok (.putfield 62, 3) := by decide +kernel
theorem dX10_errorCode_5 : decode cX10_errorCode 5 = .ok (.aload_n 0, 1) := by decide +kernel
theorem dX10_errorCode_6 : decode cX10_errorCode 6 = .ok (.getfield 252, 3) := by decide +kernel
theorem dX10_errorCode_9 : decode cX10_errorCode 9 = .ok (.ireturn, 1) := by decide +kernel
/-! X10_errorPosition -/
theorem dX10_errorPosition_0 : decode cX10_errorPosition 0 = .ok (.aload_n 0, 1) := by decide +kernel
theorem dX10_errorPosition_1 : decode cX10_errorPosition 1 = .ok (.iconst 0, 1) := by decide +kernel
theorem dX10_errorPosition_2 : decode cX10_errorPosition 2 = .ok (.putfield 62, 3) := by decide +kernel
theorem dX10_errorPosition_5 : decode cX10_errorPosition 5 = .ok (.aload_n 0, 1) := by decide +kernel
theorem dX10_errorPosition_6 : decode cX10_errorPosition 6 = .ok (.getfield 29, 3) := by decide +kernel
theorem dX10_errorPosition_9 : decode cX10_errorPosition 9 = .ok (.ireturn, 1) := by decide +kernel
/-! X10_fails -/
theorem dX10_fails_0 : decode cX10_fails 0 = .ok (.aload_n 0, 1) := by decide +kernel
theorem dX10_fails_1 : decode cX10_fails 1 = .ok (.getfield 217, 3) := by decide +kernel
theorem dX10_fails_4 : decode cX10_fails 4 = .ok (.ifCond .eq 4, 3) := by decide +kernel
theorem dX10_fails_7 : decode cX10_fails 7 = .ok (.return_, 1) := by decide +kernel
theorem dX10_fails_8 : decode cX10_fails 8 = .ok (.aload_n 0, 1) := by decide +kernel
theorem dX10_fails_9 : decode cX10_fails 9 = .ok (.iload_n 1, 1) := by decide +kernel
theorem dX10_fails_10 : decode cX10_fails 10 = .ok (.putfield 217, 3) := by decide +kernel
theorem dX10_fails_13 : decode cX10_fails 13 = .ok (.aload_n 0, 1) := by decide +kernel
theorem dX10_fails_14 : decode cX10_fails 14 = .ok (.aload_n 0, 1) := by decide +kernel
theorem dX10_fails_15 : decode cX10_fails 15 = .ok (.getfield 214, 3) := by decide +kernel
theorem dX10_fails_18 : decode cX10_fails 18 = .ok (.putfield 220, 3) := by decide +kernel
theorem dX10_fails_21 : decode cX10_fails 21 = .ok (.return_, 1) := by decide +kernel
/-! X10_fills -/
theorem dX10_fills_0 : decode cX10_fills 0 = .ok (.aload_n 0, 1) := by decide +kernel
theorem dX10_fills_1 : decode cX10_fills 1 = .ok (.aload_n 0, 1) := by decide +kernel
theorem dX10_fills_2 : decode cX10_fills 2 = .ok (.iload_n 1, 1) := by decide +kernel
theorem dX10_fills_3 : decode cX10_fills 3 = .ok (.invokevirtual 342, 3) := by decide +kernel
theorem dX10_fills_6 : decode cX10_fills 6 = .ok (.iload_n 2, 1) := by decide +kernel
theorem dX10_fills_7 : decode cX10_fills 7 = .ok (.i2l, 1) := by decide +kernel
theorem dX10_fills_8 : decode cX10_fills 8 = .ok (.lconst 0, 1) := by decide +kernel
theorem dX10_fills_9 : decode cX10_fills 9 = .ok (.ldc2_w 432, 3) := by decide +kernel
theorem dX10_fills_12 : decode cX10_fills 12 = .ok (.invokestatic 65, 3) := by decide +kernel
theorem dX10_fills_15 : decode cX10_fills 15 = .ok (.ifCond .eq 19, 3) := by decide +kernel
theorem dX10_fills_18 : decode cX10_fills 18 = .ok (.iload_n 3, 1) := by decide +kernel
theorem dX10_fills_19 : decode cX10_fills 19 = .ok (.i2l, 1) := by decide +kernel
theorem dX10_fills_20 : decode cX10_fills 20 = .ok (.lconst 1, 1) := by decide +kernel
theorem dX10_fills_21 : decode cX10_fills 21 = .ok (.ldc2_w 432, 3) := by decide +kernel
theorem dX10_fills_24 : decode cX10_fills 24 = .ok (.invokestatic 65, 3) := by decide +kernel
theorem dX10_fills_27 : decode cX10_fills 27 = .ok (.ifCond .eq 7, 3) := by decide +kernel
theorem dX10_fills_30 : decode cX10_fills 30 = .ok (.iconst 1, 1) := by decide +kernel
theorem dX10_fills_31 : decode cX10_fills 31 = .ok (.goto 4, 3) := by decide +kernel
theorem dX10_fills_34 : decode cX10_fills 34 = .ok (.iconst 0, 1) := by decide +kernel
theorem dX10_fills_35 : decode cX10_fills 35 = .ok (.invokevirtual 386, 3) := by decide +kernel
theorem dX10_fills_38 : decode cX10_fills 38 = .ok (.ifCond .ne 5, 3) := by decide +kernel
theorem dX10_fills_41 : decode cX10_fills 41 = .ok (.iconst 0, 1) := by decide +kernel
theorem dX10_fills_42 : decode cX10_fills 42 = .ok (.ireturn, 1) := by decide +kernel
theorem dX10_fills_43 : decode cX10_fills 43 = .ok (.aload_n 0, 1) := by decide +kernel
theorem dX10_fills_44 : decode cX10_fills 44 = .ok (.iload_n 1, 1) := by decide +kernel
theorem dX10_fills_45 : decode cX10_fills 45 = .ok (.invokevirtual 137, 3) := by decide +kernel
theorem dX10_fills_48 : decode cX10_fills 48 = .ok (.istore 4, 2) := by decide +kernel
theorem dX10_fills_50 : decode cX10_fills 50 = .ok (.iload 4, 2) := by decide +kernel
theorem dX10_fills_52 : decode cX10_fills 52 = .ok (.iconst (-1), 1) := by decide +kernel
theorem dX10_fills_53 : decode cX10_fills 53 = .ok (.if_icmp .eq 23, 3) := by decide +kernel
theorem dX10_fills_56 : decode cX10_fills 56 = .ok (.aload_n 0, 1) := by decide +kernel
theorem dX10_fills_57 : decode cX10_fills 57 = .ok (.iload 4, 2) := by decide +kernel
theorem dX10_fills_59 : decode cX10_fills 59 = .ok (.iconst 2, 1) := by decide +kernel
theorem dX10_fills_60 : decode cX10_fills 60 = .ok (.invokevirtual 134, 3) := by decide +kernel
theorem dX10_fills_63 : decode cX10_fills 63 = .ok (.iconst (-1), 1) := by decide +kernel
theorem dX10_fills_64 : decode cX10_fills 64 = .ok (.if_icmp .eq 12, 3) := by decide +kernel
theorem dX10_fills_67 : decode cX10_fills 67 = .ok (.aload_n 0, 1) := by decide +kernel
theorem dX10_fills_68 : decode cX10_fills 68 = .ok (.iload 4, 2) := by decide +kernel
theorem dX10_fills_70 : decode cX10_fills 70 = .ok (.invokevirtual 445, 3) := by decide +kernel
theorem dX10_fills_73 : decode cX10_fills 73 = .ok (.ifCond .ne 5, 3) := by decide +kernel
theorem dX10_fills_76 : decode cX10_fills 76 = .ok (.iconst 0, 1) := by decide +kernel
theorem dX10_fills_77 : decode cX10_fills 77 = .ok (.ireturn, 1) := by decide +kernel
theorem dX10_fills_78 : decode cX10_fills 78 = .ok (.iconst 0, 1) := by decide +kernel
theorem dX10_fills_79 : decode cX10_fills 79 = .ok (.istore 5, 2) := by decide +kernel
theorem dX10_fills_81 : decode cX10_fills 81 = .ok (.iload 5, 2) := by decide +kernel
theorem dX10_fills_83 : decode cX10_fills 83 = .ok (.aload_n 0, 1) := by decide +kernel
theorem dX10_fills_84 : decode cX10_fills 84 = .ok (.iload 4, 2) := by decide +kernel
theorem dX10_fills_86 : decode cX10_fills 86 = .ok (.iconst 2, 1) := by decide +kernel
theorem dX10_fills_87 : decode cX10_fills 87 = .ok (.invokevirtual 134, 3) := by decide +kernel
theorem dX10_fills_90 : decode cX10_fills 90 = .ok (.if_icmp .ge 40, 3) := by decide +kernel
theorem dX10_fills_93 : decode cX10_fills 93 = .ok (.aload_n 0, 1) := by decide +kernel
theorem dX10_fills_94 : decode cX10_fills 94 = .ok (.iload 4, 2) := by decide +kernel
theorem dX10_fills_96 : decode cX10_fills 96 = .ok (.iload 5, 2) := by decide +kernel
theorem dX10_fills_98 : decode cX10_fills 98 = .ok (.invokevirtual 153, 3) := by decide +kernel
theorem dX10_fills_101 : decode cX10_fills 101 = .ok (.iconst (-1), 1) := by decide +kernel
theorem dX10_fills_102 : decode cX10_fills 102 = .ok (.if_icmp .ne 22, 3) := by decide +kernel
theorem dX10_fills_105 : decode cX10_fills 105 = .ok (.iload 5, 2) := by decide +kernel
theorem dX10_fills_107 : decode cX10_fills 107 = .ok (.i2l, 1) := by decide +kernel
theorem dX10_fills_108 : decode cX10_fills 108 = .ok (.iload_n 2, 1) := by decide +kernel
theorem dX10_fills_109 : decode cX10_fills 109 = .ok (.i2l, 1) := by decide +kernel
theorem dX10_fills_110 : decode cX10_fills 110 = .ok (.iload_n 2, 1) := by decide +kernel
theorem dX10_fills_111 : decode cX10_fills 111 = .ok (.iload_n 3, 1) := by decide +kernel
theorem dX10_fills_112 : decode cX10_fills 112 = .ok (.iadd, 1) := by decide +kernel
theorem dX10_fills_113 : decode cX10_fills 113 = .ok (.iconst 1, 1) := by decide +kernel
theorem dX10_fills_114 : decode cX10_fills 114 = .ok (.isub, 1) := by decide +kernel
theorem dX10_fills_115 : decode cX10_fills 115 = .ok (.i2l, 1) := by decide +kernel
theorem dX10_fills_116 : decode cX10_fills 116 = .ok (.invokestatic 65, 3) := by decide +kernel
theorem dX10_fills_119 : decode cX10_fills 119 = .ok (.ifCond .ne 5, 3) := by decide +kernel
theorem dX10_fills_122 : decode cX10_fills 122 = .ok (.iconst 0, 1) := by decide +kernel
theorem dX10_fills_123 : decode cX10_fills 123 = .ok (.ireturn, 1) := by decide +kernel
theorem dX10_fills_124 : decode cX10_fills 124 = .ok (.iinc 5 1, 3) := by decide +kernel
theorem dX10_fills_127 : decode cX10_fills 127 = .ok (.goto (-46), 3) := by decide +kernel
theorem dX10_fills_130 : decode cX10_fills 130 = .ok (.iconst 1, 1) := by decide +kernel
theorem dX10_fills_131 : decode cX10_fills 131 = .ok (.ireturn, 1) := by decide +kernel
/-! X10_fillsIn -/
theorem dX10_fillsIn_0 : decode cX10_fillsIn 0 = .ok (.iconst 0, 1) := by decide +kernel
theorem dX10_fillsIn_1 : decode cX10_fillsIn 1 = .ok (.istore 6, 2) := by decide +kernel
theorem dX10_fillsIn_3 : decode cX10_fillsIn 3 = .ok (.iconst 0, 1) := by decide +kernel
theorem dX10_fillsIn_4 : decode cX10_fillsIn 4 = .ok (.istore 7, 2) := by decide +kernel
theorem dX10_fillsIn_6 : decode cX10_fillsIn 6 = .ok (.iload_n 3, 1) := by decide +kernel
theorem dX10_fillsIn_7 : decode cX10_fillsIn 7 = .ok (.istore 8, 2) := by decide +kernel
theorem dX10_fillsIn_9 : decode cX10_fillsIn 9 = .ok (.iload 8, 2) := by decide +kernel
theorem dX10_fillsIn_11 : decode cX10_fillsIn 11 = .ok (.iload_n 3, 1) := by decide +kernel
theorem dX10_fillsIn_12 : decode cX10_fillsIn 12 = .ok (.iload 4, 2) := by decide +kernel
theorem dX10_fillsIn_14 : decode cX10_fillsIn 14 = .ok (.iadd, 1) := by decide +kernel
theorem dX10_fillsIn_15 : decode cX10_fillsIn 15 = .ok (.if_icmp .ge 93, 3) := by decide +kernel
theorem dX10_fillsIn_18 : decode cX10_fillsIn 18 = .ok (.iload 5, 2) := by decide +kernel
theorem dX10_fillsIn_20 : decode cX10_fillsIn 20 = .ok (.iconst (-1), 1) := by decide +kernel
theorem dX10_fillsIn_21 : decode cX10_fillsIn 21 = .ok (.if_icmp .ne 17, 3) := by decide +kernel
theorem dX10_fillsIn_24 : decode cX10_fillsIn 24 = .ok (.aload_n 0, 1) := by decide +kernel
theorem dX10_fillsIn_25 : decode cX10_fillsIn 25 = .ok (.iload_n 2, 1) := by decide +kernel
theorem dX10_fillsIn_26 : decode cX10_fillsIn 26 = .ok (.iconst 1, 1) := by decide +kernel
theorem dX10_fillsIn_27 : decode cX10_fillsIn 27 = .ok (.invokevirtual 69, 3) := by decide +kernel
theorem dX10_fillsIn_30 : decode cX10_fillsIn 30 = .ok (.iload 8, 2) := by decide +kernel
theorem dX10_fillsIn_32 : decode cX10_fillsIn 32 = .ok (.invokestatic 156, 3) := by decide +kernel
theorem dX10_fillsIn_35 : decode cX10_fillsIn 35 = .ok (.goto 5, 3) := by decide +kernel
theorem dX10_fillsIn_38 : decode cX10_fillsIn 38 = .ok (.iload 5, 2) := by decide +kernel
theorem dX10_fillsIn_40 : decode cX10_fillsIn 40 = .ok (.istore 9, 2) := by decide +kernel
theorem dX10_fillsIn_42 : decode cX10_fillsIn 42 = .ok (.iload 6, 2) := by decide +kernel
theorem dX10_fillsIn_44 : decode cX10_fillsIn 44 = .ok (.aload_n 0, 1) := by decide +kernel
theorem dX10_fillsIn_45 : decode cX10_fillsIn 45 = .ok (.iload_n 1, 1) := by decide +kernel
theorem dX10_fillsIn_46 : decode cX10_fillsIn 46 = .ok (.iload 8, 2) := by decide +kernel
theorem dX10_fillsIn_48 : decode cX10_fillsIn 48 = .ok (.invokevirtual 153, 3) := by decide +kernel
theorem dX10_fillsIn_51 : decode cX10_fillsIn 51 = .ok (.iconst (-1), 1) := by decide +kernel
theorem dX10_fillsIn_52 : decode cX10_fillsIn 52 = .ok (.if_icmp .eq 7, 3) := by decide +kernel
theorem dX10_fillsIn_55 : decode cX10_fillsIn 55 = .ok (.iconst 1, 1) := by decide +kernel
theorem dX10_fillsIn_56 : decode cX10_fillsIn 56 = .ok (.goto 4, 3) := by decide +kernel
theorem dX10_fillsIn_59 : decode cX10_fillsIn 59 = .ok (.iconst 0, 1) := by decide +kernel
theorem dX10_fillsIn_60 : decode cX10_fillsIn 60 = .ok (.invokestatic 104, 3) := by decide +kernel
theorem dX10_fillsIn_63 : decode cX10_fillsIn 63 = .ok (.iadd, 1) := by decide +kernel
theorem dX10_fillsIn_64 : decode cX10_fillsIn 64 = .ok (.istore 6, 2) := by decide +kernel
theorem dX10_fillsIn_66 : decode cX10_fillsIn 66 = .ok (.iload 7, 2) := by decide +kernel
theorem dX10_fillsIn_68 : decode cX10_fillsIn 68 = .ok (.aload_n 0, 1) := by decide +kernel
theorem dX10_fillsIn_69 : decode cX10_fillsIn 69 = .ok (.iload_n 1, 1) := by decide +kernel
theorem dX10_fillsIn_70 : decode cX10_fillsIn 70 = .ok (.iload 8, 2) := by decide +kernel
theorem dX10_fillsIn_72 : decode cX10_fillsIn 72 = .ok (.invokevirtual 153, 3) := by decide +kernel
theorem dX10_fillsIn_75 : decode cX10_fillsIn 75 = .ok (.iconst (-1), 1) := by decide +kernel
theorem dX10_fillsIn_76 : decode cX10_fillsIn 76 = .ok (.if_icmp .eq 19, 3) := by decide +kernel
theorem dX10_fillsIn_79 : decode cX10_fillsIn 79 = .ok (.aload_n 0, 1) := by decide +kernel
theorem dX10_fillsIn_80 : decode cX10_fillsIn 80 = .ok (.iload_n 1, 1) := by decide +kernel
theorem dX10_fillsIn_81 : decode cX10_fillsIn 81 = .ok (.iload 8, 2) := by decide +kernel
theorem dX10_fillsIn_83 : decode cX10_fillsIn 83 = .ok (.invokevirtual 153, 3) := by decide +kernel
theorem dX10_fillsIn_86 : decode cX10_fillsIn 86 = .ok (.iload 9, 2) := by decide +kernel
theorem dX10_fillsIn_88 : decode cX10_fillsIn 88 = .ok (.if_icmp .eq 7, 3) := by decide +kernel
theorem dX10_fillsIn_91 : decode cX10_fillsIn 91 = .ok (.iconst 1, 1) := by decide +kernel
theorem dX10_fillsIn_92 : decode cX10_fillsIn 92 = .ok (.goto 4, 3) := by decide +kernel
theorem dX10_fillsIn_95 : decode cX10_fillsIn 95 = .ok (.iconst 0, 1) := by decide +kernel
theorem dX10_fillsIn_96 : decode cX10_fillsIn 96 = .ok (.invokestatic 104, 3) := by decide +kernel
theorem dX10_fillsIn_99 : decode cX10_fillsIn 99 = .ok (.iadd, 1) := by decide +kernel
theorem dX10_fillsIn_100 : decode cX10_fillsIn 100 = .ok (.istore 7, 2) := by decide +kernel
theorem dX10_fillsIn_102 : decode cX10_fillsIn 102 = .ok (.iinc 8 1, 3) := by decide +kernel
theorem dX10_fillsIn_105 : decode cX10_fillsIn 105 = .ok (.goto (-96), 3) := by decide +kernel
theorem dX10_fillsIn_108 : decode cX10_fillsIn 108 = .ok (.aload_n 0, 1) := by decide +kernel
theorem dX10_fillsIn_109 : decode cX10_fillsIn 109 = .ok (.iload_n 1, 1) := by decide +kernel
theorem dX10_fillsIn_110 : decode cX10_fillsIn 110 = .ok (.iconst 3, 1) := by decide +kernel
theorem dX10_fillsIn_111 : decode cX10_fillsIn 111 = .ok (.aload_n 0, 1) := by decide +kernel
theorem dX10_fillsIn_112 : decode cX10_fillsIn 112 = .ok (.iload_n 1, 1) := by decide +kernel
theorem dX10_fillsIn_113 : decode cX10_fillsIn 113 = .ok (.iconst 3, 1) := by decide +kernel
theorem dX10_fillsIn_114 : decode cX10_fillsIn 114 = .ok (.invokevirtual 134, 3) := by decide +kernel
theorem dX10_fillsIn_117 : decode cX10_fillsIn 117 = .ok (.iload 6, 2) := by decide +kernel
theorem dX10_fillsIn_119 : decode cX10_fillsIn 119 = .ok (.iadd, 1) := by decide +kernel
theorem dX10_fillsIn_120 : decode cX10_fillsIn 120 = .ok (.invokevirtual 140, 3) := by decide +kernel
theorem dX10_fillsIn_123 : decode cX10_fillsIn 123 = .ok (.aload_n 0, 1) := by decide +kernel
theorem dX10_fillsIn_124 : decode cX10_fillsIn 124 = .ok (.bipush 7, 2) := by decide +kernel
theorem dX10_fillsIn_126 : decode cX10_fillsIn 126 = .ok (.iload 6, 2) := by decide +kernel
theorem dX10_fillsIn_128 : decode cX10_fillsIn 128 = .ok (.invokevirtual 87, 3) := by decide +kernel
theorem dX10_fillsIn_131 : decode cX10_fillsIn 131 = .ok (.aload_n 0, 1) := by decide +kernel
theorem dX10_fillsIn_132 : decode cX10_fillsIn 132 = .ok (.getfield 7, 3) := by decide +kernel
theorem dX10_fillsIn_135 : decode cX10_fillsIn 135 = .ok (.iconst 4, 1) := by decide +kernel
theorem dX10_fillsIn_136 : decode cX10_fillsIn 136 = .ok (.iaload, 1) := by decide +kernel
theorem dX10_fillsIn_137 : decode cX10_fillsIn 137 = .ok (.iconst 2, 1) := by decide +kernel
theorem dX10_fillsIn_138 : decode cX10_fillsIn 138 = .ok (.if_icmp .ne 10, 3) := by decide +kernel
theorem dX10_fillsIn_141 : decode cX10_fillsIn 141 = .ok (.iload 7, 2) := by decide +kernel
theorem dX10_fillsIn_143 : decode cX10_fillsIn 143 = .ok (.ifCond .le 5, 3) := by decide +kernel
theorem dX10_fillsIn_146 : decode cX10_fillsIn 146 = .ok (.iconst 0, 1) := by decide +kernel
theorem dX10_fillsIn_147 : decode cX10_fillsIn 147 = .ok (.ireturn, 1) := by decide +kernel
theorem dX10_fillsIn_148 : decode cX10_fillsIn 148 = .ok (.iload_n 3, 1) := by decide +kernel
theorem dX10_fillsIn_149 : decode cX10_fillsIn 149 = .ok (.istore 8, 2) := by decide +kernel
theorem dX10_fillsIn_151 : decode cX10_fillsIn 151 = .ok (.iload 8, 2) := by decide +kernel
theorem dX10_fillsIn_153 : decode cX10_fillsIn 153 = .ok (.iload_n 3, 1) := by decide +kernel
theorem dX10_fillsIn_154 : decode cX10_fillsIn 154 = .ok (.iload 4, 2) := by decide +kernel
theorem dX10_fillsIn_156 : decode cX10_fillsIn 156 = .ok (.iadd, 1) := by decide +kernel
theorem dX10_fillsIn_157 : decode cX10_fillsIn 157 = .ok (.if_icmp .ge 66, 3) := by decide +kernel
theorem dX10_fillsIn_160 : decode cX10_fillsIn 160 = .ok (.iload 5, 2) := by decide +kernel
theorem dX10_fillsIn_162 : decode cX10_fillsIn 162 = .ok (.iconst (-1), 1) := by decide +kernel
theorem dX10_fillsIn_163 : decode cX10_fillsIn 163 = .ok (.if_icmp .ne 17, 3) := by decide +kernel
theorem dX10_fillsIn_166 : decode cX10_fillsIn 166 = .ok (.aload_n 0, 1) := by decide +kernel
theorem dX10_fillsIn_167 : decode cX10_fillsIn 167 = .ok (.iload_n 2, 1) := by decide +kernel
theorem dX10_fillsIn_168 : decode cX10_fillsIn 168 = .ok (.iconst 1, 1) := by decide +kernel
theorem dX10_fillsIn_169 : decode cX10_fillsIn 169 = .ok (.invokevirtual 69, 3) := by decide +kernel
theorem dX10_fillsIn_172 : decode cX10_fillsIn 172 = .ok (.iload 8, 2) := by decide +kernel
theorem dX10_fillsIn_174 : decode cX10_fillsIn 174 = .ok (.invokestatic 156, 3) := by decide +kernel
theorem dX10_fillsIn_177 : decode cX10_fillsIn 177 = .ok (.goto 5, 3) := by decide +kernel
theorem dX10_fillsIn_180 : decode cX10_fillsIn 180 = .ok (.iload 5, 2) := by decide +kernel
theorem dX10_fillsIn_182 : decode cX10_fillsIn 182 = .ok (.istore 9, 2) := by decide +kernel
theorem dX10_fillsIn_184 : decode cX10_fillsIn 184 = .ok (.aload_n 0, 1) := by decide +kernel
theorem dX10_fillsIn_185 : decode cX10_fillsIn 185 = .ok (.iload_n 1, 1) := by decide +kernel
theorem dX10_fillsIn_186 : decode cX10_fillsIn 186 = .ok (.iload 8, 2) := by decide +kernel
theorem dX10_fillsIn_188 : decode cX10_fillsIn 188 = .ok (.invokevirtual 153, 3) := by decide +kernel
theorem dX10_fillsIn_191 : decode cX10_fillsIn 191 = .ok (.iconst (-1), 1) := by decide +kernel
theorem dX10_fillsIn_192 : decode cX10_fillsIn 192 = .ok (.if_icmp .eq 13, 3) := by decide +kernel
theorem dX10_fillsIn_195 : decode cX10_fillsIn 195 = .ok (.aload_n 0, 1) := by decide +kernel
theorem dX10_fillsIn_196 : decode cX10_fillsIn 196 = .ok (.getfield 7, 3) := by decide +kernel
theorem dX10_fillsIn_199 : decode cX10_fillsIn 199 = .ok (.iconst 4, 1) := by decide +kernel
theorem dX10_fillsIn_200 : decode cX10_fillsIn 200 = .ok (.iaload, 1) := by decide +kernel
theorem dX10_fillsIn_201 : decode cX10_fillsIn 201 = .ok (.iconst 1, 1) := by decide +kernel
theorem dX10_fillsIn_202 : decode cX10_fillsIn 202 = .ok (.if_icmp .ne 15, 3) := by decide +kernel
theorem dX10_fillsIn_205 : decode cX10_fillsIn 205 = .ok (.aload_n 0, 1) := by decide +kernel
theorem dX10_fillsIn_206 : decode cX10_fillsIn 206 = .ok (.iload_n 1, 1) := by decide +kernel
theorem dX10_fillsIn_207 : decode cX10_fillsIn 207 = .ok (.bipush 6, 2) := by decide +kernel
theorem dX10_fillsIn_209 : decode cX10_fillsIn 209 = .ok (.iload 8, 2) := by decide +kernel
theorem dX10_fillsIn_211 : decode cX10_fillsIn 211 = .ok (.iadd, 1) := by decide +kernel
theorem dX10_fillsIn_212 : decode cX10_fillsIn 212 = .ok (.iload 9, 2) := by decide +kernel
theorem dX10_fillsIn_214 : decode cX10_fillsIn 214 = .ok (.invokevirtual 140, 3) := by decide +kernel
theorem dX10_fillsIn_217 : decode cX10_fillsIn 217 = .ok (.iinc 8 1, 3) := by decide +kernel
theorem dX10_fillsIn_220 : decode cX10_fillsIn 220 = .ok (.goto (-69), 3) := by decide +kernel
theorem dX10_fillsIn_223 : decode cX10_fillsIn 223 = .ok (.iconst 1, 1) := by decide +kernel
theorem dX10_fillsIn_224 : decode cX10_fillsIn 224 = .ok (.ireturn, 1) := by decide +kernel
/-! X10_forge -/
theorem dX10_forge_0 : decode cX10_forge 0 = .ok (.iload_n 2, 1) := by decide +kernel
theorem dX10_forge_1 : decode cX10_forge 1 = .ok (.i2l, 1) := by decide +kernel
theorem dX10_forge_2 : decode cX10_forge 2 = .ok (.lconst 0, 1) := by decide +kernel
theorem dX10_forge_3 : decode cX10_forge 3 = .ok (.ldc2_w 484, 3) := by decide +kernel
theorem dX10_forge_6 : decode cX10_forge 6 = .ok (.invokestatic 65, 3) := by decide +kernel
theorem dX10_forge_9 : decode cX10_forge 9 = .ok (.ifCond .eq 39, 3) := by decide +kernel
theorem dX10_forge_12 : decode cX10_forge 12 = .ok (.iload_n 2, 1) := by decide +kernel
theorem dX10_forge_13 : decode cX10_forge 13 = .ok (.bipush 8, 2) := by decide +kernel
theorem dX10_forge_15 : decode cX10_forge 15 = .ok (.irem, 1) := by decide +kernel
theorem dX10_forge_16 : decode cX10_forge 16 = .ok (.ifCond .ne 32, 3) := by decide +kernel
theorem dX10_forge_19 : decode cX10_forge 19 = .ok (.iload_n 3, 1) := by decide +kernel
theorem dX10_forge_20 : decode cX10_forge 20 = .ok (.i2l, 1) := by decide +kernel
theorem dX10_forge_21 : decode cX10_forge 21 = .ok (.lconst 1, 1) := by decide +kernel
theorem dX10_forge_22 : decode cX10_forge 22 = .ok (.ldc2_w 468, 3) := by decide +kernel
theorem dX10_forge_25 : decode cX10_forge 25 = .ok (.invokestatic 65, 3) := by decide +kernel
theorem dX10_forge_28 : decode cX10_forge 28 = .ok (.ifCond .eq 20, 3) := by decide +kernel
theorem dX10_forge_31 : decode cX10_forge 31 = .ok (.iload 4, 2) := by decide +kernel
theorem dX10_forge_33 : decode cX10_forge 33 = .ok (.i2l, 1) := by decide +kernel
theorem dX10_forge_34 : decode cX10_forge 34 = .ok (.lconst 0, 1) := by decide +kernel
theorem dX10_forge_35 : decode cX10_forge 35 = .ok (.ldc2_w 472, 3) := by decide +kernel
theorem dX10_forge_38 : decode cX10_forge 38 = .ok (.invokestatic 65, 3) := by decide +kernel
theorem dX10_forge_41 : decode cX10_forge 41 = .ok (.ifCond .eq 7, 3) := by decide +kernel
theorem dX10_forge_44 : decode cX10_forge 44 = .ok (.iconst 1, 1) := by decide +kernel
theorem dX10_forge_45 : decode cX10_forge 45 = .ok (.goto 4, 3) := by decide +kernel
theorem dX10_forge_48 : decode cX10_forge 48 = .ok (.iconst 0, 1) := by decide +kernel
theorem dX10_forge_49 : decode cX10_forge 49 = .ok (.istore 6, 2) := by decide +kernel
theorem dX10_forge_51 : decode cX10_forge 51 = .ok (.aload_n 0, 1) := by decide +kernel
theorem dX10_forge_52 : decode cX10_forge 52 = .ok (.aload_n 0, 1) := by decide +kernel
theorem dX10_forge_53 : decode cX10_forge 53 = .ok (.aload_n 0, 1) := by decide +kernel
theorem dX10_forge_54 : decode cX10_forge 54 = .ok (.iload_n 1, 1) := by decide +kernel
theorem dX10_forge_55 : decode cX10_forge 55 = .ok (.invokevirtual 342, 3) := by decide +kernel
theorem dX10_forge_58 : decode cX10_forge 58 = .ok (.iload 6, 2) := by decide +kernel
theorem dX10_forge_60 : decode cX10_forge 60 = .ok (.invokevirtual 386, 3) := by decide +kernel
theorem dX10_forge_63 : decode cX10_forge 63 = .ok (.invokevirtual 474, 3) := by decide +kernel
theorem dX10_forge_66 : decode cX10_forge 66 = .ok (.ifCond .eq 21, 3) := by decide +kernel
theorem dX10_forge_69 : decode cX10_forge 69 = .ok (.aload_n 0, 1) := by decide +kernel
theorem dX10_forge_70 : decode cX10_forge 70 = .ok (.aload_n 0, 1) := by decide +kernel
theorem dX10_forge_71 : decode cX10_forge 71 = .ok (.iload_n 1, 1) := by decide +kernel
theorem dX10_forge_72 : decode cX10_forge 72 = .ok (.iload_n 2, 1) := by decide +kernel
theorem dX10_forge_73 : decode cX10_forge 73 = .ok (.iload_n 3, 1) := by decide +kernel
theorem dX10_forge_74 : decode cX10_forge 74 = .ok (.iload 4, 2) := by decide +kernel
theorem dX10_forge_76 : decode cX10_forge 76 = .ok (.iload 5, 2) := by decide +kernel
theorem dX10_forge_78 : decode cX10_forge 78 = .ok (.invokevirtual 351, 3) := by decide +kernel
theorem dX10_forge_81 : decode cX10_forge 81 = .ok (.invokevirtual 477, 3) := by decide +kernel
theorem dX10_forge_84 : decode cX10_forge 84 = .ok (.goto 4, 3) := by decide +kernel
theorem dX10_forge_87 : decode cX10_forge 87 = .ok (.iconst 0, 1) := by decide +kernel
theorem dX10_forge_88 : decode cX10_forge 88 = .ok (.ireturn, 1) := by decide +kernel
/-! X10_forgeNow -/
theorem dX10_forgeNow_0 : decode cX10_forgeNow 0 = .ok (.aload_n 0, 1) := by decide +kernel
theorem dX10_forgeNow_1 : decode cX10_forgeNow 1 = .ok (.bipush 10, 2) := by decide +kernel
theorem dX10_forgeNow_3 : decode cX10_forgeNow 3 = .ok (.iconst 1, 1) := by decide +kernel
theorem dX10_forgeNow_4 : decode cX10_forgeNow 4 = .ok (.invokevirtual 87, 3) := by decide +kernel
theorem dX10_forgeNow_7 : decode cX10_forgeNow 7 = .ok (.aload_n 0, 1) := by decide +kernel
theorem dX10_forgeNow_8 : decode cX10_forgeNow 8 = .ok (.iload_n 1, 1) := by decide +kernel
theorem dX10_forgeNow_9 : decode cX10_forgeNow 9 = .ok (.iload_n 2, 1) := by decide +kernel
theorem dX10_forgeNow_10 : decode cX10_forgeNow 10 = .ok (.iload_n 3, 1) := by decide +kernel
theorem dX10_forgeNow_11 : decode cX10_forgeNow 11 = .ok (.iload 5, 2) := by decide +kernel
theorem dX10_forgeNow_13 : decode cX10_forgeNow 13 = .ok (.iload 4, 2) := by decide +kernel
theorem dX10_forgeNow_15 : decode cX10_forgeNow 15 = .ok (.invokevirtual 176, 3) := by decide +kernel
theorem dX10_forgeNow_18 : decode cX10_forgeNow 18 = .ok (.aload_n 0, 1) := by decide +kernel
theorem dX10_forgeNow_19 : decode cX10_forgeNow 19 = .ok (.iload_n 1, 1) := by decide +kernel
theorem dX10_forgeNow_20 : decode cX10_forgeNow 20 = .ok (.invokevirtual 91, 3) := by decide +kernel
theorem dX10_forgeNow_23 : decode cX10_forgeNow 23 = .ok (.ifCond .eq 11, 3) := by decide +kernel
theorem dX10_forgeNow_26 : decode cX10_forgeNow 26 = .ok (.aload_n 0, 1) := by decide +kernel
theorem dX10_forgeNow_27 : decode cX10_forgeNow 27 = .ok (.iload_n 1, 1) := by decide +kernel
theorem dX10_forgeNow_28 : decode cX10_forgeNow 28 = .ok (.invokevirtual 137, 3) := by decide +kernel
theorem dX10_forgeNow_31 : decode cX10_forgeNow 31 = .ok (.goto 4, 3) := by decide +kernel
theorem dX10_forgeNow_34 : decode cX10_forgeNow 34 = .ok (.iconst (-1), 1) := by decide +kernel
theorem dX10_forgeNow_35 : decode cX10_forgeNow 35 = .ok (.istore 6, 2) := by decide +kernel
theorem dX10_forgeNow_37 : decode cX10_forgeNow 37 = .ok (.iload 6, 2) := by decide +kernel
theorem dX10_forgeNow_39 : decode cX10_forgeNow 39 = .ok (.iconst (-1), 1) := by decide +kernel
theorem dX10_forgeNow_40 : decode cX10_forgeNow 40 = .ok (.if_icmp .ne 7, 3) := by decide +kernel
theorem dX10_forgeNow_43 : decode cX10_forgeNow 43 = .ok (.iconst 0, 1) := by decide +kernel
theorem dX10_forgeNow_44 : decode cX10_forgeNow 44 = .ok (.goto 9, 3) := by decide +kernel
theorem dX10_forgeNow_47 : decode cX10_forgeNow 47 = .ok (.aload_n 0, 1) := by decide +kernel
theorem dX10_forgeNow_48 : decode cX10_forgeNow 48 = .ok (.iload 6, 2) := by decide +kernel
theorem dX10_forgeNow_50 : decode cX10_forgeNow 50 = .ok (.invokevirtual 413, 3) := by decide +kernel
theorem dX10_forgeNow_53 : decode cX10_forgeNow 53 = .ok (.ireturn, 1) := by decide +kernel
/-! X10_forget -/
theorem dX10_forget_0 : decode cX10_forget 0 = .ok (.aload_n 0, 1) := by decide +kernel
theorem dX10_forget_1 : decode cX10_forget 1 = .ok (.aload_n 0, 1) := by decide +kernel
theorem dX10_forget_2 : decode cX10_forget 2 = .ok (.iconst 1, 1) := by decide +kernel
theorem dX10_forget_3 : decode cX10_forget 3 = .ok (.invokevirtual 201, 3) := by decide +kernel
theorem dX10_forget_6 : decode cX10_forget 6 = .ok (.invokevirtual 474, 3) := by decide +kernel
theorem dX10_forget_9 : decode cX10_forget 9 = .ok (.ifCond .eq 14, 3) := by decide +kernel
theorem dX10_forget_12 : decode cX10_forget 12 = .ok (.aload_n 0, 1) := by decide +kernel
theorem dX10_forget_13 : decode cX10_forget 13 = .ok (.aload_n 0, 1) := by decide +kernel
theorem dX10_forget_14 : decode cX10_forget 14 = .ok (.invokevirtual 491, 3) := by decide +kernel
theorem dX10_forget_17 : decode cX10_forget 17 = .ok (.invokevirtual 477, 3) := by decide +kernel
theorem dX10_forget_20 : decode cX10_forget 20 = .ok (.goto 4, 3) := by decide +kernel
theorem dX10_forget_23 : decode cX10_forget 23 = .ok (.iconst 0, 1) := by decide +kernel
theorem dX10_forget_24 : decode cX10_forget 24 = .ok (.ireturn, 1) := by decide +kernel
/-! X10_forgetNow -/
theorem dX10_forgetNow_0 : decode cX10_forgetNow 0 = .ok (.aload_n 0, 1) := by decide +kernel
theorem dX10_forgetNow_1 : decode cX10_forgetNow 1 = .ok (.getfield 7, 3) := by decide +kernel
theorem dX10_forgetNow_4 : decode cX10_forgetNow 4 = .ok (.iconst 5, 1) := by decide +kernel
theorem dX10_forgetNow_5 : decode cX10_forgetNow 5 = .ok (.aload_n 0, 1) := by decide +kernel
theorem dX10_forgetNow_6 : decode cX10_forgetNow 6 = .ok (.iconst 0, 1) := by decide +kernel
theorem dX10_forgetNow_7 : decode cX10_forgetNow 7 = .ok (.iconst 0, 1) := by decide +kernel
theorem dX10_forgetNow_8 : decode cX10_forgetNow 8 = .ok (.invokevirtual 73, 3) := by decide +kernel
theorem dX10_forgetNow_11 : decode cX10_forgetNow 11 = .ok (.iastore, 1) := by decide +kernel
theorem dX10_forgetNow_12 : decode cX10_forgetNow 12 = .ok (.aload_n 0, 1) := by decide +kernel
theorem dX10_forgetNow_13 : decode cX10_forgetNow 13 = .ok (.getfield 7, 3) := by decide +kernel
theorem dX10_forgetNow_16 : decode cX10_forgetNow 16 = .ok (.bipush 6, 2) := by decide +kernel
theorem dX10_forgetNow_18 : decode cX10_forgetNow 18 = .ok (.bipush 27, 2) := by decide +kernel
theorem dX10_forgetNow_20 : decode cX10_forgetNow 20 = .ok (.iastore, 1) := by decide +kernel
theorem dX10_forgetNow_21 : decode cX10_forgetNow 21 = .ok (.aload_n 0, 1) := by decide +kernel
theorem dX10_forgetNow_22 : decode cX10_forgetNow 22 = .ok (.getfield 7, 3) := by decide +kernel
theorem dX10_forgetNow_25 : decode cX10_forgetNow 25 = .ok (.bipush 7, 2) := by decide +kernel
theorem dX10_forgetNow_27 : decode cX10_forgetNow 27 = .ok (.iconst (-1), 1) := by decide +kernel
theorem dX10_forgetNow_28 : decode cX10_forgetNow 28 = .ok (.iastore, 1) := by decide +kernel
theorem dX10_forgetNow_29 : decode cX10_forgetNow 29 = .ok (.aload_n 0, 1) := by decide +kernel
theorem dX10_forgetNow_30 : decode cX10_forgetNow 30 = .ok (.getfield 7, 3) := by decide +kernel
theorem dX10_forgetNow_33 : decode cX10_forgetNow 33 = .ok (.iconst 5, 1) := by decide +kernel
theorem dX10_forgetNow_34 : decode cX10_forgetNow 34 = .ok (.iaload, 1) := by decide +kernel
theorem dX10_forgetNow_35 : decode cX10_forgetNow 35 = .ok (.ireturn, 1) := by decide +kernel
/-! X10_four -/
theorem dX10_four_0 : decode cX10_four 0 = .ok (.bipush 24, 2) := by decide +kernel
theorem dX10_four_2 : decode cX10_four 2 = .ok (.istore_n 2, 1) := by decide +kernel
theorem dX10_four_3 : decode cX10_four 3 = .ok (.iload_n 2, 1) := by decide +kernel
theorem dX10_four_4 : decode cX10_four 4 = .ok (.ifCond .lt 35, 3) := by decide +kernel
theorem dX10_four_7 : decode cX10_four 7 = .ok (.aload_n 0, 1) := by decide +kernel
theorem dX10_four_8 : decode cX10_four 8 = .ok (.getfield 26, 3) := by decide +kernel
theorem dX10_four_11 : decode cX10_four 11 = .ok (.aload_n 0, 1) := by decide +kernel
theorem dX10_four_12 : decode cX10_four 12 = .ok (.getfield 198, 3) := by decide +kernel
theorem dX10_four_15 : decode cX10_four 15 = .ok (.iload_n 1, 1) := by decide +kernel
theorem dX10_four_16 : decode cX10_four 16 = .ok (.iload_n 2, 1) := by decide +kernel
theorem dX10_four_17 : decode cX10_four 17 = .ok (.ishr, 1) := by decide +kernel
theorem dX10_four_18 : decode cX10_four 18 = .ok (.sipush 255, 3) := by decide +kernel
theorem dX10_four_21 : decode cX10_four 21 = .ok (.iand, 1) := by decide +kernel
theorem dX10_four_22 : decode cX10_four 22 = .ok (.iastore, 1) := by decide +kernel
theorem dX10_four_23 : decode cX10_four 23 = .ok (.aload_n 0, 1) := by decide +kernel
theorem dX10_four_24 : decode cX10_four 24 = .ok (.dup, 1) := by decide +kernel
theorem dX10_four_25 : decode cX10_four 25 = .ok (.getfield 198, 3) := by decide +kernel
theorem dX10_four_28 : decode cX10_four 28 = .ok (.iconst 1, 1) := by decide +kernel
theorem dX10_four_29 : decode cX10_four 29 = .ok (.iadd, 1) := by decide +kernel
theorem dX10_four_30 : decode cX10_four 30 = .ok (.putfield 198, 3) := by decide +kernel
theorem dX10_four_33 : decode cX10_four 33 = .ok (.iinc 2 (-8), 3) := by decide +kernel
theorem dX10_four_36 : decode cX10_four 36 = .ok (.goto (-33), 3) := by decide +kernel
theorem dX10_four_39 : decode cX10_four 39 = .ok (.return_, 1) := by decide +kernel
/-! X10_gap -/
theorem dX10_gap_0 : decode cX10_gap 0 = .ok (.aload_n 0, 1) := by decide +kernel
theorem dX10_gap_1 : decode cX10_gap 1 = .ok (.iconst 0, 1) := by decide +kernel
theorem dX10_gap_2 : decode cX10_gap 2 = .ok (.putfield 62, 3) := by decide +kernel
theorem dX10_gap_5 : decode cX10_gap 5 = .ok (.aload_n 0, 1) := by decide +kernel
theorem dX10_gap_6 : decode cX10_gap 6 = .ok (.getfield 7, 3) := by decide +kernel
theorem dX10_gap_9 : decode cX10_gap 9 = .ok (.bipush 12, 2) := by decide +kernel
theorem dX10_gap_11 : decode cX10_gap 11 = .ok (.iaload, 1) := by decide +kernel
theorem dX10_gap_12 : decode cX10_gap 12 = .ok (.aload_n 0, 1) := by decide +kernel
theorem dX10_gap_13 : decode cX10_gap 13 = .ok (.getfield 7, 3) := by decide +kernel
theorem dX10_gap_16 : decode cX10_gap 16 = .ok (.bipush 13, 2) := by decide +kernel
theorem dX10_gap_18 : decode cX10_gap 18 = .ok (.iaload, 1) := by decide +kernel
theorem dX10_gap_19 : decode cX10_gap 19 = .ok (.isub, 1) := by decide +kernel
theorem dX10_gap_20 : decode cX10_gap 20 = .ok (.aload_n 0, 1) := by decide +kernel
theorem dX10_gap_21 : decode cX10_gap 21 = .ok (.getfield 7, 3) := by decide +kernel
theorem dX10_gap_24 : decode cX10_gap 24 = .ok (.bipush 14, 2) := by decide +kernel
theorem dX10_gap_26 : decode cX10_gap 26 = .ok (.iaload, 1) := by decide +kernel
theorem dX10_gap_27 : decode cX10_gap 27 = .ok (.isub, 1) := by decide +kernel
theorem dX10_gap_28 : decode cX10_gap 28 = .ok (.aload_n 0, 1) := by decide +kernel
theorem dX10_gap_29 : decode cX10_gap 29 = .ok (.getfield 7, 3) := by decide +kernel
theorem dX10_gap_32 : decode cX10_gap 32 = .ok (.bipush 8, 2) := by decide +kernel
theorem dX10_gap_34 : decode cX10_gap 34 = .ok (.iaload, 1) := by decide +kernel
theorem dX10_gap_35 : decode cX10_gap 35 = .ok (.isub, 1) := by decide +kernel
theorem dX10_gap_36 : decode cX10_gap 36 = .ok (.aload_n 0, 1) := by decide +kernel
theorem dX10_gap_37 : decode cX10_gap 37 = .ok (.getfield 7, 3) := by decide +kernel
theorem dX10_gap_40 : decode cX10_gap 40 = .ok (.bipush 10, 2) := by decide +kernel
theorem dX10_gap_42 : decode cX10_gap 42 = .ok (.iaload, 1) := by decide +kernel
theorem dX10_gap_43 : decode cX10_gap 43 = .ok (.isub, 1) := by decide +kernel
theorem dX10_gap_44 : decode cX10_gap 44 = .ok (.ireturn, 1) := by decide +kernel
/-! X10_goesOn -/
theorem dX10_goesOn_0 : decode cX10_goesOn 0 = .ok (.aload_n 0, 1) := by decide +kernel
theorem dX10_goesOn_1 : decode cX10_goesOn 1 = .ok (.iconst 0, 1) := by decide +kernel
theorem dX10_goesOn_2 : decode cX10_goesOn 2 = .ok (.iconst 1, 1) := by decide +kernel
theorem dX10_goesOn_3 : decode cX10_goesOn 3 = .ok (.invokevirtual 87, 3) := by decide +kernel
theorem dX10_goesOn_6 : decode cX10_goesOn 6 = .ok (.aload_n 0, 1) := by decide +kernel
theorem dX10_goesOn_7 : decode cX10_goesOn 7 = .ok (.iload_n 1, 1) := by decide +kernel
theorem dX10_goesOn_8 : decode cX10_goesOn 8 = .ok (.iconst 3, 1) := by decide +kernel
theorem dX10_goesOn_9 : decode cX10_goesOn 9 = .ok (.iconst 1, 1) := by decide +kernel
theorem dX10_goesOn_10 : decode cX10_goesOn 10 = .ok (.invokevirtual 114, 3) := by decide +kernel
theorem dX10_goesOn_13 : decode cX10_goesOn 13 = .ok (.aload_n 0, 1) := by decide +kernel
theorem dX10_goesOn_14 : decode cX10_goesOn 14 = .ok (.iload_n 1, 1) := by decide +kernel
theorem dX10_goesOn_15 : decode cX10_goesOn 15 = .ok (.bipush 7, 2) := by decide +kernel
theorem dX10_goesOn_17 : decode cX10_goesOn 17 = .ok (.iload 4, 2) := by decide +kernel
theorem dX10_goesOn_19 : decode cX10_goesOn 19 = .ok (.invokevirtual 114, 3) := by decide +kernel
theorem dX10_goesOn_22 : decode cX10_goesOn 22 = .ok (.aload_n 0, 1) := by decide +kernel
theorem dX10_goesOn_23 : decode cX10_goesOn 23 = .ok (.iload_n 1, 1) := by decide +kernel
theorem dX10_goesOn_24 : decode cX10_goesOn 24 = .ok (.iconst 2, 1) := by decide +kernel
theorem dX10_goesOn_25 : decode cX10_goesOn 25 = .ok (.invokevirtual 73, 3) := by decide +kernel
theorem dX10_goesOn_28 : decode cX10_goesOn 28 = .ok (.ifCond .eq 33, 3) := by decide +kernel
theorem dX10_goesOn_31 : decode cX10_goesOn 31 = .ok (.aload_n 0, 1) := by decide +kernel
theorem dX10_goesOn_32 : decode cX10_goesOn 32 = .ok (.iload_n 1, 1) := by decide +kernel
theorem dX10_goesOn_33 : decode cX10_goesOn 33 = .ok (.iconst 3, 1) := by decide +kernel
theorem dX10_goesOn_34 : decode cX10_goesOn 34 = .ok (.invokevirtual 73, 3) := by decide +kernel
theorem dX10_goesOn_37 : decode cX10_goesOn 37 = .ok (.aload_n 0, 1) := by decide +kernel
theorem dX10_goesOn_38 : decode cX10_goesOn 38 = .ok (.iload_n 1, 1) := by decide +kernel
theorem dX10_goesOn_39 : decode cX10_goesOn 39 = .ok (.iconst 2, 1) := by decide +kernel
theorem dX10_goesOn_40 : decode cX10_goesOn 40 = .ok (.invokevirtual 73, 3) := by decide +kernel
theorem dX10_goesOn_43 : decode cX10_goesOn 43 = .ok (.irem, 1) := by decide +kernel
theorem dX10_goesOn_44 : decode cX10_goesOn 44 = .ok (.ifCond .ne 17, 3) := by decide +kernel
theorem dX10_goesOn_47 : decode cX10_goesOn 47 = .ok (.aload_n 0, 1) := by decide +kernel
theorem dX10_goesOn_48 : decode cX10_goesOn 48 = .ok (.iconst 1, 1) := by decide +kernel
theorem dX10_goesOn_49 : decode cX10_goesOn 49 = .ok (.iconst 1, 1) := by decide +kernel
theorem dX10_goesOn_50 : decode cX10_goesOn 50 = .ok (.invokevirtual 87, 3) := by decide +kernel
theorem dX10_goesOn_53 : decode cX10_goesOn 53 = .ok (.aload_n 0, 1) := by decide +kernel
theorem dX10_goesOn_54 : decode cX10_goesOn 54 = .ok (.iload_n 1, 1) := by decide +kernel
theorem dX10_goesOn_55 : decode cX10_goesOn 55 = .ok (.iconst 4, 1) := by decide +kernel
theorem dX10_goesOn_56 : decode cX10_goesOn 56 = .ok (.iconst 1, 1) := by decide +kernel
theorem dX10_goesOn_57 : decode cX10_goesOn 57 = .ok (.invokevirtual 114, 3) := by decide +kernel
theorem dX10_goesOn_60 : decode cX10_goesOn 60 = .ok (.return_, 1) := by decide +kernel
theorem dX10_goesOn_61 : decode cX10_goesOn 61 = .ok (.aload_n 0, 1) := by decide +kernel
theorem dX10_goesOn_62 : decode cX10_goesOn 62 = .ok (.getfield 7, 3) := by decide +kernel
theorem dX10_goesOn_65 : decode cX10_goesOn 65 = .ok (.bipush 8, 2) := by decide +kernel
theorem dX10_goesOn_67 : decode cX10_goesOn 67 = .ok (.iaload, 1) := by decide +kernel
theorem dX10_goesOn_68 : decode cX10_goesOn 68 = .ok (.sipush 300, 3) := by decide +kernel
theorem dX10_goesOn_71 : decode cX10_goesOn 71 = .ok (.if_icmp .ne 10, 3) := by decide +kernel
theorem dX10_goesOn_74 : decode cX10_goesOn 74 = .ok (.aload_n 0, 1) := by decide +kernel
theorem dX10_goesOn_75 : decode cX10_goesOn 75 = .ok (.iconst 2, 1) := by decide +kernel
theorem dX10_goesOn_76 : decode cX10_goesOn 76 = .ok (.iconst 1, 1) := by decide +kernel
theorem dX10_goesOn_77 : decode cX10_goesOn 77 = .ok (.invokevirtual 87, 3) := by decide +kernel
theorem dX10_goesOn_80 : decode cX10_goesOn 80 = .ok (.return_, 1) := by decide +kernel
theorem dX10_goesOn_81 : decode cX10_goesOn 81 = .ok (.sipush 392, 3) := by decide +kernel
theorem dX10_goesOn_84 : decode cX10_goesOn 84 = .ok (.bipush 7, 2) := by decide +kernel
theorem dX10_goesOn_86 : decode cX10_goesOn 86 = .ok (.aload_n 0, 1) := by decide +kernel
theorem dX10_goesOn_87 : decode cX10_goesOn 87 = .ok (.getfield 7, 3) := by decide +kernel
theorem dX10_goesOn_90 : decode cX10_goesOn 90 = .ok (.bipush 8, 2) := by decide +kernel
theorem dX10_goesOn_92 : decode cX10_goesOn 92 = .ok (.iaload, 1) := by decide +kernel
theorem dX10_goesOn_93 : decode cX10_goesOn 93 = .ok (.imul, 1) := by decide +kernel
theorem dX10_goesOn_94 : decode cX10_goesOn 94 = .ok (.iadd, 1) := by decide +kernel
theorem dX10_goesOn_95 : decode cX10_goesOn 95 = .ok (.istore 7, 2) := by decide +kernel
theorem dX10_goesOn_97 : decode cX10_goesOn 97 = .ok (.aload_n 0, 1) := by decide +kernel
theorem dX10_goesOn_98 : decode cX10_goesOn 98 = .ok (.getfield 7, 3) := by decide +kernel
theorem dX10_goesOn_101 : decode cX10_goesOn 101 = .ok (.iload 7, 2) := by decide +kernel
theorem dX10_goesOn_103 : decode cX10_goesOn 103 = .ok (.iconst 0, 1) := by decide +kernel
theorem dX10_goesOn_104 : decode cX10_goesOn 104 = .ok (.iadd, 1) := by decide +kernel
theorem dX10_goesOn_105 : decode cX10_goesOn 105 = .ok (.iload_n 1, 1) := by decide +kernel
theorem dX10_goesOn_106 : decode cX10_goesOn 106 = .ok (.iastore, 1) := by decide +kernel
theorem dX10_goesOn_107 : decode cX10_goesOn 107 = .ok (.aload_n 0, 1) := by decide +kernel
theorem dX10_goesOn_108 : decode cX10_goesOn 108 = .ok (.getfield 7, 3) := by decide +kernel
theorem dX10_goesOn_111 : decode cX10_goesOn 111 = .ok (.iload 7, 2) := by decide +kernel
theorem dX10_goesOn_113 : decode cX10_goesOn 113 = .ok (.iconst 1, 1) := by decide +kernel
theorem dX10_goesOn_114 : decode cX10_goesOn 114 = .ok (.iadd, 1) := by decide +kernel
theorem dX10_goesOn_115 : decode cX10_goesOn 115 = .ok (.aload_n 0, 1) := by decide +kernel
theorem dX10_goesOn_116 : decode cX10_goesOn 116 = .ok (.getfield 7, 3) := by decide +kernel
theorem dX10_goesOn_119 : decode cX10_goesOn 119 = .ok (.iconst 2, 1) := by decide +kernel
theorem dX10_goesOn_120 : decode cX10_goesOn 120 = .ok (.iaload, 1) := by decide +kernel
theorem dX10_goesOn_121 : decode cX10_goesOn 121 = .ok (.aload_n 0, 1) := by decide +kernel
theorem dX10_goesOn_122 : decode cX10_goesOn 122 = .ok (.iload_n 1, 1) := by decide +kernel
theorem dX10_goesOn_123 : decode cX10_goesOn 123 = .ok (.iconst 1, 1) := by decide +kernel
theorem dX10_goesOn_124 : decode cX10_goesOn 124 = .ok (.invokevirtual 73, 3) := by decide +kernel
theorem dX10_goesOn_127 : decode cX10_goesOn 127 = .ok (.iadd, 1) := by decide +kernel
theorem dX10_goesOn_128 : decode cX10_goesOn 128 = .ok (.iastore, 1) := by decide +kernel
theorem dX10_goesOn_129 : decode cX10_goesOn 129 = .ok (.aload_n 0, 1) := by decide +kernel
theorem dX10_goesOn_130 : decode cX10_goesOn 130 = .ok (.getfield 7, 3) := by decide +kernel
theorem dX10_goesOn_133 : decode cX10_goesOn 133 = .ok (.iload 7, 2) := by decide +kernel
theorem dX10_goesOn_135 : decode cX10_goesOn 135 = .ok (.iconst 2, 1) := by decide +kernel
theorem dX10_goesOn_136 : decode cX10_goesOn 136 = .ok (.iadd, 1) := by decide +kernel
theorem dX10_goesOn_137 : decode cX10_goesOn 137 = .ok (.iload_n 2, 1) := by decide +kernel
theorem dX10_goesOn_138 : decode cX10_goesOn 138 = .ok (.iastore, 1) := by decide +kernel
theorem dX10_goesOn_139 : decode cX10_goesOn 139 = .ok (.aload_n 0, 1) := by decide +kernel
theorem dX10_goesOn_140 : decode cX10_goesOn 140 = .ok (.getfield 7, 3) := by decide +kernel
theorem dX10_goesOn_143 : decode cX10_goesOn 143 = .ok (.iload 7, 2) := by decide +kernel
theorem dX10_goesOn_145 : decode cX10_goesOn 145 = .ok (.iconst 3, 1) := by decide +kernel
theorem dX10_goesOn_146 : decode cX10_goesOn 146 = .ok (.iadd, 1) := by decide +kernel
theorem dX10_goesOn_147 : decode cX10_goesOn 147 = .ok (.iload_n 3, 1) := by decide +kernel
theorem dX10_goesOn_148 : decode cX10_goesOn 148 = .ok (.iastore, 1) := by decide +kernel
theorem dX10_goesOn_149 : decode cX10_goesOn 149 = .ok (.aload_n 0, 1) := by decide +kernel
theorem dX10_goesOn_150 : decode cX10_goesOn 150 = .ok (.getfield 7, 3) := by decide +kernel
theorem dX10_goesOn_153 : decode cX10_goesOn 153 = .ok (.iload 7, 2) := by decide +kernel
theorem dX10_goesOn_155 : decode cX10_goesOn 155 = .ok (.iconst 4, 1) := by decide +kernel
theorem dX10_goesOn_156 : decode cX10_goesOn 156 = .ok (.iadd, 1) := by decide +kernel
theorem dX10_goesOn_157 : decode cX10_goesOn 157 = .ok (.iload 4, 2) := by decide +kernel
theorem dX10_goesOn_159 : decode cX10_goesOn 159 = .ok (.iastore, 1) := by decide +kernel
theorem dX10_goesOn_160 : decode cX10_goesOn 160 = .ok (.aload_n 0, 1) := by decide +kernel
theorem dX10_goesOn_161 : decode cX10_goesOn 161 = .ok (.getfield 7, 3) := by decide +kernel
theorem dX10_goesOn_164 : decode cX10_goesOn 164 = .ok (.iload 7, 2) := by decide +kernel
theorem dX10_goesOn_166 : decode cX10_goesOn 166 = .ok (.iconst 5, 1) := by decide +kernel
theorem dX10_goesOn_167 : decode cX10_goesOn 167 = .ok (.iadd, 1) := by decide +kernel
theorem dX10_goesOn_168 : decode cX10_goesOn 168 = .ok (.iload 5, 2) := by decide +kernel
theorem dX10_goesOn_170 : decode cX10_goesOn 170 = .ok (.invokestatic 104, 3) := by decide +kernel
theorem dX10_goesOn_173 : decode cX10_goesOn 173 = .ok (.iastore, 1) := by decide +kernel
theorem dX10_goesOn_174 : decode cX10_goesOn 174 = .ok (.aload_n 0, 1) := by decide +kernel
theorem dX10_goesOn_175 : decode cX10_goesOn 175 = .ok (.getfield 7, 3) := by decide +kernel
theorem dX10_goesOn_178 : decode cX10_goesOn 178 = .ok (.iload 7, 2) := by decide +kernel
theorem dX10_goesOn_180 : decode cX10_goesOn 180 = .ok (.bipush 6, 2) := by decide +kernel
theorem dX10_goesOn_182 : decode cX10_goesOn 182 = .ok (.iadd, 1) := by decide +kernel
theorem dX10_goesOn_183 : decode cX10_goesOn 183 = .ok (.iload 6, 2) := by decide +kernel
theorem dX10_goesOn_185 : decode cX10_goesOn 185 = .ok (.invokestatic 104, 3) := by decide +kernel
theorem dX10_goesOn_188 : decode cX10_goesOn 188 = .ok (.iastore, 1) := by decide +kernel
theorem dX10_goesOn_189 : decode cX10_goesOn 189 = .ok (.aload_n 0, 1) := by decide +kernel
theorem dX10_goesOn_190 : decode cX10_goesOn 190 = .ok (.getfield 7, 3) := by decide +kernel
theorem dX10_goesOn_193 : decode cX10_goesOn 193 = .ok (.bipush 8, 2) := by decide +kernel
theorem dX10_goesOn_195 : decode cX10_goesOn 195 = .ok (.dup2, 1) := by decide +kernel
theorem dX10_goesOn_196 : decode cX10_goesOn 196 = .ok (.iaload, 1) := by decide +kernel
theorem dX10_goesOn_197 : decode cX10_goesOn 197 = .ok (.iconst 1, 1) := by decide +kernel
theorem dX10_goesOn_198 : decode cX10_goesOn 198 = .ok (.iadd, 1) := by decide +kernel
theorem dX10_goesOn_199 : decode cX10_goesOn 199 = .ok (.iastore, 1) := by decide +kernel
theorem dX10_goesOn_200 : decode cX10_goesOn 200 = .ok (.return_, 1) := by decide +kernel
/-! X10_grows -/
theorem dX10_grows_0 : decode cX10_grows 0 = .ok (.aload_n 0, 1) := by decide +kernel
theorem dX10_grows_1 : decode cX10_grows 1 = .ok (.getfield 7, 3) := by decide +kernel
theorem dX10_grows_4 : decode cX10_grows 4 = .ok (.bipush 12, 2) := by decide +kernel
theorem dX10_grows_6 : decode cX10_grows 6 = .ok (.iload_n 1, 1) := by decide +kernel
theorem dX10_grows_7 : decode cX10_grows 7 = .ok (.iadd, 1) := by decide +kernel
theorem dX10_grows_8 : decode cX10_grows 8 = .ok (.dup2, 1) := by decide +kernel
theorem dX10_grows_9 : decode cX10_grows 9 = .ok (.iaload, 1) := by decide +kernel
theorem dX10_grows_10 : decode cX10_grows 10 = .ok (.iload_n 2, 1) := by decide +kernel
theorem dX10_grows_11 : decode cX10_grows 11 = .ok (.iadd, 1) := by decide +kernel
theorem dX10_grows_12 : decode cX10_grows 12 = .ok (.iastore, 1) := by decide +kernel
theorem dX10_grows_13 : decode cX10_grows 13 = .ok (.return_, 1) := by decide +kernel
/-! X10_growsLink -/
theorem dX10_growsLink_0 : decode cX10_growsLink 0 = .ok (.aload_n 0, 1) := by decide +kernel
theorem dX10_growsLink_1 : decode cX10_growsLink 1 = .ok (.getfield 7, 3) := by decide +kernel
theorem dX10_growsLink_4 : decode cX10_growsLink 4 = .ok (.bipush 24, 2) := by decide +kernel
theorem dX10_growsLink_6 : decode cX10_growsLink 6 = .ok (.bipush 8, 2) := by decide +kernel
theorem dX10_growsLink_8 : decode cX10_growsLink 8 = .ok (.iload_n 1, 1) := by decide +kernel
theorem dX10_growsLink_9 : decode cX10_growsLink 9 = .ok (.imul, 1) := by decide +kernel
theorem dX10_growsLink_10 : decode cX10_growsLink 10 = .ok (.iadd, 1) := by decide +kernel
theorem dX10_growsLink_11 : decode cX10_growsLink 11 = .ok (.iload_n 2, 1) := by decide +kernel
theorem dX10_growsLink_12 : decode cX10_growsLink 12 = .ok (.iadd, 1) := by decide +kernel
theorem dX10_growsLink_13 : decode cX10_growsLink 13 = .ok (.dup2, 1) := by decide +kernel
theorem dX10_growsLink_14 : decode cX10_growsLink 14 = .ok (.iaload, 1) := by decide +kernel
theorem dX10_growsLink_15 : decode cX10_growsLink 15 = .ok (.iload_n 3, 1) := by decide +kernel
theorem dX10_growsLink_16 : decode cX10_growsLink 16 = .ok (.iadd, 1) := by decide +kernel
theorem dX10_growsLink_17 : decode cX10_growsLink 17 = .ok (.iastore, 1) := by decide +kernel
theorem dX10_growsLink_18 : decode cX10_growsLink 18 = .ok (.return_, 1) := by decide +kernel
/-! X10_handedBy -/
theorem dX10_handedBy_0 : decode cX10_handedBy 0 = .ok (.aload_n 0, 1) := by decide +kernel
theorem dX10_handedBy_1 : decode cX10_handedBy 1 = .ok (.iload_n 1, 1) := by decide +kernel
theorem dX10_handedBy_2 : decode cX10_handedBy 2 = .ok (.i2l, 1) := by decide +kernel
theorem dX10_handedBy_3 : decode cX10_handedBy 3 = .ok (.lconst 1, 1) := by decide +kernel
theorem dX10_handedBy_4 : decode cX10_handedBy 4 = .ok (.ldc2_w 468, 3) := by decide +kernel
theorem dX10_handedBy_7 : decode cX10_handedBy 7 = .ok (.invokestatic 65, 3) := by decide +kernel
theorem dX10_handedBy_10 : decode cX10_handedBy 10 = .ok (.ifCond .eq 19, 3) := by decide +kernel
theorem dX10_handedBy_13 : decode cX10_handedBy 13 = .ok (.iload_n 2, 1) := by decide +kernel
theorem dX10_handedBy_14 : decode cX10_handedBy 14 = .ok (.i2l, 1) := by decide +kernel
theorem dX10_handedBy_15 : decode cX10_handedBy 15 = .ok (.lconst 0, 1) := by decide +kernel
theorem dX10_handedBy_16 : decode cX10_handedBy 16 = .ok (.ldc2_w 470, 3) := by decide +kernel
theorem dX10_handedBy_19 : decode cX10_handedBy 19 = .ok (.invokestatic 65, 3) := by decide +kernel
theorem dX10_handedBy_22 : decode cX10_handedBy 22 = .ok (.ifCond .eq 7, 3) := by decide +kernel
theorem dX10_handedBy_25 : decode cX10_handedBy 25 = .ok (.iconst 1, 1) := by decide +kernel
theorem dX10_handedBy_26 : decode cX10_handedBy 26 = .ok (.goto 4, 3) := by decide +kernel
theorem dX10_handedBy_29 : decode cX10_handedBy 29 = .ok (.iconst 0, 1) := by decide +kernel
theorem dX10_handedBy_30 : decode cX10_handedBy 30 = .ok (.invokevirtual 201, 3) := by decide +kernel
theorem dX10_handedBy_33 : decode cX10_handedBy 33 = .ok (.ifCond .ne 5, 3) := by decide +kernel
theorem dX10_handedBy_36 : decode cX10_handedBy 36 = .ok (.iconst 0, 1) := by decide +kernel
theorem dX10_handedBy_37 : decode cX10_handedBy 37 = .ok (.ireturn, 1) := by decide +kernel
theorem dX10_handedBy_38 : decode cX10_handedBy 38 = .ok (.aload_n 0, 1) := by decide +kernel
theorem dX10_handedBy_39 : decode cX10_handedBy 39 = .ok (.invokevirtual 448, 3) := by decide +kernel
theorem dX10_handedBy_42 : decode cX10_handedBy 42 = .ok (.aload_n 0, 1) := by decide +kernel
theorem dX10_handedBy_43 : decode cX10_handedBy 43 = .ok (.getfield 7, 3) := by decide +kernel
theorem dX10_handedBy_46 : decode cX10_handedBy 46 = .ok (.iconst 3, 1) := by decide +kernel
theorem dX10_handedBy_47 : decode cX10_handedBy 47 = .ok (.iload_n 1, 1) := by decide +kernel
theorem dX10_handedBy_48 : decode cX10_handedBy 48 = .ok (.iastore, 1) := by decide +kernel
theorem dX10_handedBy_49 : decode cX10_handedBy 49 = .ok (.aload_n 0, 1) := by decide +kernel
theorem dX10_handedBy_50 : decode cX10_handedBy 50 = .ok (.getfield 7, 3) := by decide +kernel
theorem dX10_handedBy_53 : decode cX10_handedBy 53 = .ok (.iconst 4, 1) := by decide +kernel
theorem dX10_handedBy_54 : decode cX10_handedBy 54 = .ok (.iload_n 2, 1) := by decide +kernel
theorem dX10_handedBy_55 : decode cX10_handedBy 55 = .ok (.iastore, 1) := by decide +kernel
theorem dX10_handedBy_56 : decode cX10_handedBy 56 = .ok (.aload_n 0, 1) := by decide +kernel
theorem dX10_handedBy_57 : decode cX10_handedBy 57 = .ok (.sipush 600, 3) := by decide +kernel
theorem dX10_handedBy_60 : decode cX10_handedBy 60 = .ok (.invokevirtual 465, 3) := by decide +kernel
theorem dX10_handedBy_63 : decode cX10_handedBy 63 = .ok (.aload_n 0, 1) := by decide +kernel
theorem dX10_handedBy_64 : decode cX10_handedBy 64 = .ok (.aload_n 0, 1) := by decide +kernel
theorem dX10_handedBy_65 : decode cX10_handedBy 65 = .ok (.iconst 1, 1) := by decide +kernel
theorem dX10_handedBy_66 : decode cX10_handedBy 66 = .ok (.iconst 2, 1) := by decide +kernel
theorem dX10_handedBy_67 : decode cX10_handedBy 67 = .ok (.invokevirtual 381, 3) := by decide +kernel
theorem dX10_handedBy_70 : decode cX10_handedBy 70 = .ok (.invokevirtual 454, 3) := by decide +kernel
theorem dX10_handedBy_73 : decode cX10_handedBy 73 = .ok (.ireturn, 1) := by decide +kernel
/-! X10_handedIn -/
theorem dX10_handedIn_0 : decode cX10_handedIn 0 = .ok (.aload_n 0, 1) := by decide +kernel
theorem dX10_handedIn_1 : decode cX10_handedIn 1 = .ok (.aload_n 0, 1) := by decide +kernel
theorem dX10_handedIn_2 : decode cX10_handedIn 2 = .ok (.iload_n 1, 1) := by decide +kernel
theorem dX10_handedIn_3 : decode cX10_handedIn 3 = .ok (.invokevirtual 342, 3) := by decide +kernel
theorem dX10_handedIn_6 : decode cX10_handedIn 6 = .ok (.invokevirtual 201, 3) := by decide +kernel
theorem dX10_handedIn_9 : decode cX10_handedIn 9 = .ok (.ifCond .ne 5, 3) := by decide +kernel
theorem dX10_handedIn_12 : decode cX10_handedIn 12 = .ok (.iconst 0, 1) := by decide +kernel
theorem dX10_handedIn_13 : decode cX10_handedIn 13 = .ok (.ireturn, 1) := by decide +kernel
theorem dX10_handedIn_14 : decode cX10_handedIn 14 = .ok (.aload_n 0, 1) := by decide +kernel
theorem dX10_handedIn_15 : decode cX10_handedIn 15 = .ok (.invokevirtual 448, 3) := by decide +kernel
theorem dX10_handedIn_18 : decode cX10_handedIn 18 = .ok (.aload_n 0, 1) := by decide +kernel
theorem dX10_handedIn_19 : decode cX10_handedIn 19 = .ok (.iload_n 1, 1) := by decide +kernel
theorem dX10_handedIn_20 : decode cX10_handedIn 20 = .ok (.invokevirtual 451, 3) := by decide +kernel
theorem dX10_handedIn_23 : decode cX10_handedIn 23 = .ok (.istore_n 2, 1) := by decide +kernel
theorem dX10_handedIn_24 : decode cX10_handedIn 24 = .ok (.aload_n 0, 1) := by decide +kernel
theorem dX10_handedIn_25 : decode cX10_handedIn 25 = .ok (.aload_n 0, 1) := by decide +kernel
theorem dX10_handedIn_26 : decode cX10_handedIn 26 = .ok (.iload_n 1, 1) := by decide +kernel
theorem dX10_handedIn_27 : decode cX10_handedIn 27 = .ok (.iconst 5, 1) := by decide +kernel
theorem dX10_handedIn_28 : decode cX10_handedIn 28 = .ok (.invokevirtual 69, 3) := by decide +kernel
theorem dX10_handedIn_31 : decode cX10_handedIn 31 = .ok (.iconst 3, 1) := by decide +kernel
theorem dX10_handedIn_32 : decode cX10_handedIn 32 = .ok (.if_icmp .ne 7, 3) := by decide +kernel
theorem dX10_handedIn_35 : decode cX10_handedIn 35 = .ok (.iconst (-1), 1) := by decide +kernel
theorem dX10_handedIn_36 : decode cX10_handedIn 36 = .ok (.goto 4, 3) := by decide +kernel
theorem dX10_handedIn_39 : decode cX10_handedIn 39 = .ok (.iload_n 2, 1) := by decide +kernel
theorem dX10_handedIn_40 : decode cX10_handedIn 40 = .ok (.invokevirtual 454, 3) := by decide +kernel
theorem dX10_handedIn_43 : decode cX10_handedIn 43 = .ok (.ireturn, 1) := by decide +kernel
/-! X10_heap -/
theorem dX10_heap_0 : decode cX10_heap 0 = .ok (.aload_n 0, 1) := by decide +kernel
theorem dX10_heap_1 : decode cX10_heap 1 = .ok (.aload_n 0, 1) := by decide +kernel
theorem dX10_heap_2 : decode cX10_heap 2 = .ok (.iload_n 1, 1) := by decide +kernel
theorem dX10_heap_3 : decode cX10_heap 3 = .ok (.invokevirtual 342, 3) := by decide +kernel
theorem dX10_heap_6 : decode cX10_heap 6 = .ok (.iload_n 2, 1) := by decide +kernel
theorem dX10_heap_7 : decode cX10_heap 7 = .ok (.i2l, 1) := by decide +kernel
theorem dX10_heap_8 : decode cX10_heap 8 = .ok (.lconst 0, 1) := by decide +kernel
theorem dX10_heap_9 : decode cX10_heap 9 = .ok (.ldc2_w 399, 3) := by decide +kernel
theorem dX10_heap_12 : decode cX10_heap 12 = .ok (.invokestatic 65, 3) := by decide +kernel
theorem dX10_heap_15 : decode cX10_heap 15 = .ok (.invokevirtual 386, 3) := by decide +kernel
theorem dX10_heap_18 : decode cX10_heap 18 = .ok (.ifCond .ne 5, 3) := by decide +kernel
theorem dX10_heap_21 : decode cX10_heap 21 = .ok (.iconst 0, 1) := by decide +kernel
theorem dX10_heap_22 : decode cX10_heap 22 = .ok (.ireturn, 1) := by decide +kernel
theorem dX10_heap_23 : decode cX10_heap 23 = .ok (.aload_n 0, 1) := by decide +kernel
theorem dX10_heap_24 : decode cX10_heap 24 = .ok (.iload_n 1, 1) := by decide +kernel
theorem dX10_heap_25 : decode cX10_heap 25 = .ok (.invokevirtual 137, 3) := by decide +kernel
theorem dX10_heap_28 : decode cX10_heap 28 = .ok (.istore_n 3, 1) := by decide +kernel
theorem dX10_heap_29 : decode cX10_heap 29 = .ok (.iload_n 3, 1) := by decide +kernel
theorem dX10_heap_30 : decode cX10_heap 30 = .ok (.iconst (-1), 1) := by decide +kernel
theorem dX10_heap_31 : decode cX10_heap 31 = .ok (.if_icmp .ne 5, 3) := by decide +kernel
theorem dX10_heap_34 : decode cX10_heap 34 = .ok (.iconst (-1), 1) := by decide +kernel
theorem dX10_heap_35 : decode cX10_heap 35 = .ok (.ireturn, 1) := by decide +kernel
theorem dX10_heap_36 : decode cX10_heap 36 = .ok (.iload_n 2, 1) := by decide +kernel
theorem dX10_heap_37 : decode cX10_heap 37 = .ok (.tableswitch 79 0 5 #[39, 46, 53, 59, 65, 72], 39) := by decide +kernel
theorem dX10_heap_76 : decode cX10_heap 76 = .ok (.aload_n 0, 1) := by decide +kernel
theorem dX10_heap_77 : decode cX10_heap 77 = .ok (.iload_n 3, 1) := by decide +kernel
theorem dX10_heap_78 : decode cX10_heap 78 = .ok (.iconst 1, 1) := by decide +kernel
theorem dX10_heap_79 : decode cX10_heap 79 = .ok (.invokevirtual 134, 3) := by decide +kernel
theorem dX10_heap_82 : decode cX10_heap 82 = .ok (.ireturn, 1) := by decide +kernel
theorem dX10_heap_83 : decode cX10_heap 83 = .ok (.aload_n 0, 1) := by decide +kernel
theorem dX10_heap_84 : decode cX10_heap 84 = .ok (.iload_n 3, 1) := by decide +kernel
theorem dX10_heap_85 : decode cX10_heap 85 = .ok (.iconst 2, 1) := by decide +kernel
theorem dX10_heap_86 : decode cX10_heap 86 = .ok (.invokevirtual 134, 3) := by decide +kernel
theorem dX10_heap_89 : decode cX10_heap 89 = .ok (.ireturn, 1) := by decide +kernel
theorem dX10_heap_90 : decode cX10_heap 90 = .ok (.aload_n 0, 1) := by decide +kernel
theorem dX10_heap_91 : decode cX10_heap 91 = .ok (.iload_n 3, 1) := by decide +kernel
theorem dX10_heap_92 : decode cX10_heap 92 = .ok (.invokevirtual 413, 3) := by decide +kernel
theorem dX10_heap_95 : decode cX10_heap 95 = .ok (.ireturn, 1) := by decide +kernel
theorem dX10_heap_96 : decode cX10_heap 96 = .ok (.aload_n 0, 1) := by decide +kernel
theorem dX10_heap_97 : decode cX10_heap 97 = .ok (.iload_n 3, 1) := by decide +kernel
theorem dX10_heap_98 : decode cX10_heap 98 = .ok (.invokevirtual 416, 3) := by decide +kernel
theorem dX10_heap_101 : decode cX10_heap 101 = .ok (.ireturn, 1) := by decide +kernel
theorem dX10_heap_102 : decode cX10_heap 102 = .ok (.aload_n 0, 1) := by decide +kernel
theorem dX10_heap_103 : decode cX10_heap 103 = .ok (.iload_n 3, 1) := by decide +kernel
theorem dX10_heap_104 : decode cX10_heap 104 = .ok (.iconst 3, 1) := by decide +kernel
theorem dX10_heap_105 : decode cX10_heap 105 = .ok (.invokevirtual 134, 3) := by decide +kernel
theorem dX10_heap_108 : decode cX10_heap 108 = .ok (.ireturn, 1) := by decide +kernel
theorem dX10_heap_109 : decode cX10_heap 109 = .ok (.aload_n 0, 1) := by decide +kernel
theorem dX10_heap_110 : decode cX10_heap 110 = .ok (.iload_n 3, 1) := by decide +kernel
theorem dX10_heap_111 : decode cX10_heap 111 = .ok (.iconst 4, 1) := by decide +kernel
theorem dX10_heap_112 : decode cX10_heap 112 = .ok (.invokevirtual 134, 3) := by decide +kernel
theorem dX10_heap_115 : decode cX10_heap 115 = .ok (.ireturn, 1) := by decide +kernel
theorem dX10_heap_116 : decode cX10_heap 116 = .ok (.aload_n 0, 1) := by decide +kernel
theorem dX10_heap_117 : decode cX10_heap 117 = .ok (.iload_n 3, 1) := by decide +kernel
theorem dX10_heap_118 : decode cX10_heap 118 = .ok (.invokevirtual 162, 3) := by decide +kernel
theorem dX10_heap_121 : decode cX10_heap 121 = .ok (.ireturn, 1) := by decide +kernel
/-! X10_heapByte -/
theorem dX10_heapByte_0 : decode cX10_heapByte 0 = .ok (.aload_n 0, 1) := by decide +kernel
theorem dX10_heapByte_1 : decode cX10_heapByte 1 = .ok (.aload_n 0, 1) := by decide +kernel
theorem dX10_heapByte_2 : decode cX10_heapByte 2 = .ok (.iload_n 1, 1) := by decide +kernel
theorem dX10_heapByte_3 : decode cX10_heapByte 3 = .ok (.invokevirtual 342, 3) := by decide +kernel
theorem dX10_heapByte_6 : decode cX10_heapByte 6 = .ok (.invokevirtual 201, 3) := by decide +kernel
theorem dX10_heapByte_9 : decode cX10_heapByte 9 = .ok (.ifCond .ne 5, 3) := by decide +kernel
theorem dX10_heapByte_12 : decode cX10_heapByte 12 = .ok (.iconst 0, 1) := by decide +kernel
theorem dX10_heapByte_13 : decode cX10_heapByte 13 = .ok (.ireturn, 1) := by decide +kernel
theorem dX10_heapByte_14 : decode cX10_heapByte 14 = .ok (.aload_n 0, 1) := by decide +kernel
theorem dX10_heapByte_15 : decode cX10_heapByte 15 = .ok (.iload_n 1, 1) := by decide +kernel
theorem dX10_heapByte_16 : decode cX10_heapByte 16 = .ok (.invokevirtual 137, 3) := by decide +kernel
theorem dX10_heapByte_19 : decode cX10_heapByte 19 = .ok (.istore_n 3, 1) := by decide +kernel
theorem dX10_heapByte_20 : decode cX10_heapByte 20 = .ok (.iload_n 3, 1) := by decide +kernel
theorem dX10_heapByte_21 : decode cX10_heapByte 21 = .ok (.iconst (-1), 1) := by decide +kernel
theorem dX10_heapByte_22 : decode cX10_heapByte 22 = .ok (.if_icmp .eq 24, 3) := by decide +kernel
theorem dX10_heapByte_25 : decode cX10_heapByte 25 = .ok (.iload_n 2, 1) := by decide +kernel
theorem dX10_heapByte_26 : decode cX10_heapByte 26 = .ok (.i2l, 1) := by decide +kernel
theorem dX10_heapByte_27 : decode cX10_heapByte 27 = .ok (.lconst 0, 1) := by decide +kernel
theorem dX10_heapByte_28 : decode cX10_heapByte 28 = .ok (.ldc2_w 419, 3) := by decide +kernel
theorem dX10_heapByte_31 : decode cX10_heapByte 31 = .ok (.invokestatic 65, 3) := by decide +kernel
theorem dX10_heapByte_34 : decode cX10_heapByte 34 = .ok (.ifCond .eq 12, 3) := by decide +kernel
theorem dX10_heapByte_37 : decode cX10_heapByte 37 = .ok (.aload_n 0, 1) := by decide +kernel
theorem dX10_heapByte_38 : decode cX10_heapByte 38 = .ok (.iload_n 3, 1) := by decide +kernel
theorem dX10_heapByte_39 : decode cX10_heapByte 39 = .ok (.iload_n 2, 1) := by decide +kernel
theorem dX10_heapByte_40 : decode cX10_heapByte 40 = .ok (.invokevirtual 153, 3) := by decide +kernel
theorem dX10_heapByte_43 : decode cX10_heapByte 43 = .ok (.goto 4, 3) := by decide +kernel
theorem dX10_heapByte_46 : decode cX10_heapByte 46 = .ok (.iconst (-1), 1) := by decide +kernel
theorem dX10_heapByte_47 : decode cX10_heapByte 47 = .ok (.ireturn, 1) := by decide +kernel
/-! X10_heapOf -/
theorem dX10_heapOf_0 : decode cX10_heapOf 0 = .ok (.iconst 0, 1) := by decide +kernel
theorem dX10_heapOf_1 : decode cX10_heapOf 1 = .ok (.istore_n 2, 1) := by decide +kernel
theorem dX10_heapOf_2 : decode cX10_heapOf 2 = .ok (.iload_n 2, 1) := by decide +kernel
theorem dX10_heapOf_3 : decode cX10_heapOf 3 = .ok (.iconst 4, 1) := by decide +kernel
theorem dX10_heapOf_4 : decode cX10_heapOf 4 = .ok (.if_icmp .ge 21, 3) := by decide +kernel
theorem dX10_heapOf_7 : decode cX10_heapOf 7 = .ok (.aload_n 0, 1) := by decide +kernel
theorem dX10_heapOf_8 : decode cX10_heapOf 8 = .ok (.iload_n 2, 1) := by decide +kernel
theorem dX10_heapOf_9 : decode cX10_heapOf 9 = .ok (.iconst 0, 1) := by decide +kernel
theorem dX10_heapOf_10 : decode cX10_heapOf 10 = .ok (.invokevirtual 134, 3) := by decide +kernel
theorem dX10_heapOf_13 : decode cX10_heapOf 13 = .ok (.iload_n 1, 1) := by decide +kernel
theorem dX10_heapOf_14 : decode cX10_heapOf 14 = .ok (.if_icmp .ne 5, 3) := by decide +kernel
theorem dX10_heapOf_17 : decode cX10_heapOf 17 = .ok (.iload_n 2, 1) := by decide +kernel
theorem dX10_heapOf_18 : decode cX10_heapOf 18 = .ok (.ireturn, 1) := by decide +kernel
theorem dX10_heapOf_19 : decode cX10_heapOf 19 = .ok (.iinc 2 1, 3) := by decide +kernel
theorem dX10_heapOf_22 : decode cX10_heapOf 22 = .ok (.goto (-20), 3) := by decide +kernel
theorem dX10_heapOf_25 : decode cX10_heapOf 25 = .ok (.iconst (-1), 1) := by decide +kernel
theorem dX10_heapOf_26 : decode cX10_heapOf 26 = .ok (.ireturn, 1) := by decide +kernel
/-! X10_heaps -/
theorem dX10_heaps_0 : decode cX10_heaps 0 = .ok (.iconst 0, 1) := by decide +kernel
theorem dX10_heaps_1 : decode cX10_heaps 1 = .ok (.istore_n 1, 1) := by decide +kernel
theorem dX10_heaps_2 : decode cX10_heaps 2 = .ok (.iconst 0, 1) := by decide +kernel
theorem dX10_heaps_3 : decode cX10_heaps 3 = .ok (.istore_n 2, 1) := by decide +kernel
theorem dX10_heaps_4 : decode cX10_heaps 4 = .ok (.iload_n 2, 1) := by decide +kernel
theorem dX10_heaps_5 : decode cX10_heaps 5 = .ok (.iconst 4, 1) := by decide +kernel
theorem dX10_heaps_6 : decode cX10_heaps 6 = .ok (.if_icmp .ge 30, 3) := by decide +kernel
theorem dX10_heaps_9 : decode cX10_heaps 9 = .ok (.iload_n 1, 1) := by decide +kernel
theorem dX10_heaps_10 : decode cX10_heaps 10 = .ok (.aload_n 0, 1) := by decide +kernel
theorem dX10_heaps_11 : decode cX10_heaps 11 = .ok (.iload_n 2, 1) := by decide +kernel
theorem dX10_heaps_12 : decode cX10_heaps 12 = .ok (.iconst 0, 1) := by decide +kernel
theorem dX10_heaps_13 : decode cX10_heaps 13 = .ok (.invokevirtual 134, 3) := by decide +kernel
theorem dX10_heaps_16 : decode cX10_heaps 16 = .ok (.iconst (-1), 1) := by decide +kernel
theorem dX10_heaps_17 : decode cX10_heaps 17 = .ok (.if_icmp .eq 7, 3) := by decide +kernel
theorem dX10_heaps_20 : decode cX10_heaps 20 = .ok (.iconst 1, 1) := by decide +kernel
theorem dX10_heaps_21 : decode cX10_heaps 21 = .ok (.goto 4, 3) := by decide +kernel
theorem dX10_heaps_24 : decode cX10_heaps 24 = .ok (.iconst 0, 1) := by decide +kernel
theorem dX10_heaps_25 : decode cX10_heaps 25 = .ok (.invokestatic 104, 3) := by decide +kernel
theorem dX10_heaps_28 : decode cX10_heaps 28 = .ok (.iadd, 1) := by decide +kernel
theorem dX10_heaps_29 : decode cX10_heaps 29 = .ok (.istore_n 1, 1) := by decide +kernel
theorem dX10_heaps_30 : decode cX10_heaps 30 = .ok (.iinc 2 1, 3) := by decide +kernel
theorem dX10_heaps_33 : decode cX10_heaps 33 = .ok (.goto (-29), 3) := by decide +kernel
theorem dX10_heaps_36 : decode cX10_heaps 36 = .ok (.iload_n 1, 1) := by decide +kernel
theorem dX10_heaps_37 : decode cX10_heaps 37 = .ok (.ireturn, 1) := by decide +kernel
/-! X10_hole -/
theorem dX10_hole_0 : decode cX10_hole 0 = .ok (.aload_n 0, 1) := by decide +kernel
theorem dX10_hole_1 : decode cX10_hole 1 = .ok (.aload_n 0, 1) := by decide +kernel
theorem dX10_hole_2 : decode cX10_hole 2 = .ok (.iload_n 1, 1) := by decide +kernel
theorem dX10_hole_3 : decode cX10_hole 3 = .ok (.invokevirtual 342, 3) := by decide +kernel
theorem dX10_hole_6 : decode cX10_hole 6 = .ok (.iload_n 3, 1) := by decide +kernel
theorem dX10_hole_7 : decode cX10_hole 7 = .ok (.i2l, 1) := by decide +kernel
theorem dX10_hole_8 : decode cX10_hole 8 = .ok (.lconst 0, 1) := by decide +kernel
theorem dX10_hole_9 : decode cX10_hole 9 = .ok (.lconst 1, 1) := by decide +kernel
theorem dX10_hole_10 : decode cX10_hole 10 = .ok (.invokestatic 65, 3) := by decide +kernel
theorem dX10_hole_13 : decode cX10_hole 13 = .ok (.invokevirtual 386, 3) := by decide +kernel
theorem dX10_hole_16 : decode cX10_hole 16 = .ok (.ifCond .ne 5, 3) := by decide +kernel
theorem dX10_hole_19 : decode cX10_hole 19 = .ok (.iconst 0, 1) := by decide +kernel
theorem dX10_hole_20 : decode cX10_hole 20 = .ok (.ireturn, 1) := by decide +kernel
theorem dX10_hole_21 : decode cX10_hole 21 = .ok (.aload_n 0, 1) := by decide +kernel
theorem dX10_hole_22 : decode cX10_hole 22 = .ok (.iload_n 1, 1) := by decide +kernel
theorem dX10_hole_23 : decode cX10_hole 23 = .ok (.invokevirtual 137, 3) := by decide +kernel
theorem dX10_hole_26 : decode cX10_hole 26 = .ok (.istore 4, 2) := by decide +kernel
theorem dX10_hole_28 : decode cX10_hole 28 = .ok (.iload 4, 2) := by decide +kernel
theorem dX10_hole_30 : decode cX10_hole 30 = .ok (.iconst (-1), 1) := by decide +kernel
theorem dX10_hole_31 : decode cX10_hole 31 = .ok (.if_icmp .eq 7, 3) := by decide +kernel
theorem dX10_hole_34 : decode cX10_hole 34 = .ok (.iload_n 2, 1) := by decide +kernel
theorem dX10_hole_35 : decode cX10_hole 35 = .ok (.ifCond .ge 7, 3) := by decide +kernel
theorem dX10_hole_38 : decode cX10_hole 38 = .ok (.iconst (-1), 1) := by decide +kernel
theorem dX10_hole_39 : decode cX10_hole 39 = .ok (.goto 10, 3) := by decide +kernel
theorem dX10_hole_42 : decode cX10_hole 42 = .ok (.aload_n 0, 1) := by decide +kernel
theorem dX10_hole_43 : decode cX10_hole 43 = .ok (.iload 4, 2) := by decide +kernel
theorem dX10_hole_45 : decode cX10_hole 45 = .ok (.iload_n 2, 1) := by decide +kernel
theorem dX10_hole_46 : decode cX10_hole 46 = .ok (.invokevirtual 410, 3) := by decide +kernel
theorem dX10_hole_49 : decode cX10_hole 49 = .ok (.istore 5, 2) := by decide +kernel
theorem dX10_hole_51 : decode cX10_hole 51 = .ok (.iload 5, 2) := by decide +kernel
theorem dX10_hole_53 : decode cX10_hole 53 = .ok (.iconst (-1), 1) := by decide +kernel
theorem dX10_hole_54 : decode cX10_hole 54 = .ok (.if_icmp .eq 7, 3) := by decide +kernel
theorem dX10_hole_57 : decode cX10_hole 57 = .ok (.iload_n 3, 1) := by decide +kernel
theorem dX10_hole_58 : decode cX10_hole 58 = .ok (.ifCond .ne 6, 3) := by decide +kernel
theorem dX10_hole_61 : decode cX10_hole 61 = .ok (.iload 5, 2) := by decide +kernel
theorem dX10_hole_63 : decode cX10_hole 63 = .ok (.ireturn, 1) := by decide +kernel
theorem dX10_hole_64 : decode cX10_hole 64 = .ok (.iload 5, 2) := by decide +kernel
theorem dX10_hole_66 : decode cX10_hole 66 = .ok (.istore 6, 2) := by decide +kernel
theorem dX10_hole_68 : decode cX10_hole 68 = .ok (.iload 6, 2) := by decide +kernel
theorem dX10_hole_70 : decode cX10_hole 70 = .ok (.aload_n 0, 1) := by decide +kernel
theorem dX10_hole_71 : decode cX10_hole 71 = .ok (.iload 4, 2) := by decide +kernel
theorem dX10_hole_73 : decode cX10_hole 73 = .ok (.invokevirtual 404, 3) := by decide +kernel
theorem dX10_hole_76 : decode cX10_hole 76 = .ok (.if_icmp .ge 21, 3) := by decide +kernel
theorem dX10_hole_79 : decode cX10_hole 79 = .ok (.aload_n 0, 1) := by decide +kernel
theorem dX10_hole_80 : decode cX10_hole 80 = .ok (.iload 4, 2) := by decide +kernel
theorem dX10_hole_82 : decode cX10_hole 82 = .ok (.iload 6, 2) := by decide +kernel
theorem dX10_hole_84 : decode cX10_hole 84 = .ok (.invokevirtual 153, 3) := by decide +kernel
theorem dX10_hole_87 : decode cX10_hole 87 = .ok (.iconst (-1), 1) := by decide +kernel
theorem dX10_hole_88 : decode cX10_hole 88 = .ok (.if_icmp .ne 9, 3) := by decide +kernel
theorem dX10_hole_91 : decode cX10_hole 91 = .ok (.iinc 6 1, 3) := by decide +kernel
theorem dX10_hole_94 : decode cX10_hole 94 = .ok (.goto (-26), 3) := by decide +kernel
theorem dX10_hole_97 : decode cX10_hole 97 = .ok (.iload 6, 2) := by decide +kernel
theorem dX10_hole_99 : decode cX10_hole 99 = .ok (.iload 5, 2) := by decide +kernel
theorem dX10_hole_101 : decode cX10_hole 101 = .ok (.if_icmp .ne 7, 3) := by decide +kernel
theorem dX10_hole_104 : decode cX10_hole 104 = .ok (.iconst (-1), 1) := by decide +kernel
theorem dX10_hole_105 : decode cX10_hole 105 = .ok (.goto 5, 3) := by decide +kernel
theorem dX10_hole_108 : decode cX10_hole 108 = .ok (.iload 6, 2) := by decide +kernel
theorem dX10_hole_110 : decode cX10_hole 110 = .ok (.ireturn, 1) := by decide +kernel
/-! X10_holeAt -/
theorem dX10_holeAt_0 : decode cX10_holeAt 0 = .ok (.iload_n 2, 1) := by decide +kernel
theorem dX10_holeAt_1 : decode cX10_holeAt 1 = .ok (.istore_n 3, 1) := by decide +kernel
theorem dX10_holeAt_2 : decode cX10_holeAt 2 = .ok (.iconst 0, 1) := by decide +kernel
theorem dX10_holeAt_3 : decode cX10_holeAt 3 = .ok (.istore 4, 2) := by decide +kernel
theorem dX10_holeAt_5 : decode cX10_holeAt 5 = .ok (.iload 4, 2) := by decide +kernel
theorem dX10_holeAt_7 : decode cX10_holeAt 7 = .ok (.aload_n 0, 1) := by decide +kernel
theorem dX10_holeAt_8 : decode cX10_holeAt 8 = .ok (.iload_n 1, 1) := by decide +kernel
theorem dX10_holeAt_9 : decode cX10_holeAt 9 = .ok (.invokevirtual 404, 3) := by decide +kernel
theorem dX10_holeAt_12 : decode cX10_holeAt 12 = .ok (.if_icmp .ge 32, 3) := by decide +kernel
theorem dX10_holeAt_15 : decode cX10_holeAt 15 = .ok (.aload_n 0, 1) := by decide +kernel
theorem dX10_holeAt_16 : decode cX10_holeAt 16 = .ok (.iload_n 1, 1) := by decide +kernel
theorem dX10_holeAt_17 : decode cX10_holeAt 17 = .ok (.iload 4, 2) := by decide +kernel
theorem dX10_holeAt_19 : decode cX10_holeAt 19 = .ok (.invokevirtual 407, 3) := by decide +kernel
theorem dX10_holeAt_22 : decode cX10_holeAt 22 = .ok (.ifCond .ne 6, 3) := by decide +kernel
theorem dX10_holeAt_25 : decode cX10_holeAt 25 = .ok (.goto 13, 3) := by decide +kernel
theorem dX10_holeAt_28 : decode cX10_holeAt 28 = .ok (.iload_n 3, 1) := by decide +kernel
theorem dX10_holeAt_29 : decode cX10_holeAt 29 = .ok (.ifCond .ne 6, 3) := by decide +kernel
theorem dX10_holeAt_32 : decode cX10_holeAt 32 = .ok (.iload 4, 2) := by decide +kernel
theorem dX10_holeAt_34 : decode cX10_holeAt 34 = .ok (.ireturn, 1) := by decide +kernel
theorem dX10_holeAt_35 : decode cX10_holeAt 35 = .ok (.iinc 3 (-1), 3) := by decide +kernel
theorem dX10_holeAt_38 : decode cX10_holeAt 38 = .ok (.iinc 4 1, 3) := by decide +kernel
theorem dX10_holeAt_41 : decode cX10_holeAt 41 = .ok (.goto (-36), 3) := by decide +kernel
theorem dX10_holeAt_44 : decode cX10_holeAt 44 = .ok (.aload_n 0, 1) := by decide +kernel
theorem dX10_holeAt_45 : decode cX10_holeAt 45 = .ok (.iload_n 1, 1) := by decide +kernel
theorem dX10_holeAt_46 : decode cX10_holeAt 46 = .ok (.iconst 2, 1) := by decide +kernel
theorem dX10_holeAt_47 : decode cX10_holeAt 47 = .ok (.invokevirtual 134, 3) := by decide +kernel
theorem dX10_holeAt_50 : decode cX10_holeAt 50 = .ok (.iconst (-1), 1) := by decide +kernel
theorem dX10_holeAt_51 : decode cX10_holeAt 51 = .ok (.if_icmp .ne 15, 3) := by decide +kernel
theorem dX10_holeAt_54 : decode cX10_holeAt 54 = .ok (.iload_n 3, 1) := by decide +kernel
theorem dX10_holeAt_55 : decode cX10_holeAt 55 = .ok (.ifCond .ne 11, 3) := by decide +kernel
theorem dX10_holeAt_58 : decode cX10_holeAt 58 = .ok (.aload_n 0, 1) := by decide +kernel
theorem dX10_holeAt_59 : decode cX10_holeAt 59 = .ok (.iload_n 1, 1) := by decide +kernel
theorem dX10_holeAt_60 : decode cX10_holeAt 60 = .ok (.invokevirtual 162, 3) := by decide +kernel
theorem dX10_holeAt_63 : decode cX10_holeAt 63 = .ok (.goto 4, 3) := by decide +kernel
theorem dX10_holeAt_66 : decode cX10_holeAt 66 = .ok (.iconst (-1), 1) := by decide +kernel
theorem dX10_holeAt_67 : decode cX10_holeAt 67 = .ok (.ireturn, 1) := by decide +kernel
/-! X10_holes -/
theorem dX10_holes_0 : decode cX10_holes 0 = .ok (.iconst 0, 1) := by decide +kernel
theorem dX10_holes_1 : decode cX10_holes 1 = .ok (.istore_n 2, 1) := by decide +kernel
theorem dX10_holes_2 : decode cX10_holes 2 = .ok (.aload_n 0, 1) := by decide +kernel
theorem dX10_holes_3 : decode cX10_holes 3 = .ok (.iload_n 1, 1) := by decide +kernel
theorem dX10_holes_4 : decode cX10_holes 4 = .ok (.iload_n 2, 1) := by decide +kernel
theorem dX10_holes_5 : decode cX10_holes 5 = .ok (.invokevirtual 410, 3) := by decide +kernel
theorem dX10_holes_8 : decode cX10_holes 8 = .ok (.iconst (-1), 1) := by decide +kernel
theorem dX10_holes_9 : decode cX10_holes 9 = .ok (.if_icmp .eq 9, 3) := by decide +kernel
theorem dX10_holes_12 : decode cX10_holes 12 = .ok (.iinc 2 1, 3) := by decide +kernel
theorem dX10_holes_15 : decode cX10_holes 15 = .ok (.goto (-13), 3) := by decide +kernel
theorem dX10_holes_18 : decode cX10_holes 18 = .ok (.iload_n 2, 1) := by decide +kernel
theorem dX10_holes_19 : decode cX10_holes 19 = .ok (.ireturn, 1) := by decide +kernel
/-! X10_in -/
theorem dX10_in_0 : decode cX10_in 0 = .ok (.lload_n 0, 1) := by decide +kernel
theorem dX10_in_1 : decode cX10_in 1 = .ok (.lload_n 2, 1) := by decide +kernel
theorem dX10_in_2 : decode cX10_in 2 = .ok (.lcmp, 1) := by decide +kernel
theorem dX10_in_3 : decode cX10_in 3 = .ok (.ifCond .lt 14, 3) := by decide +kernel
theorem dX10_in_6 : decode cX10_in 6 = .ok (.lload_n 0, 1) := by decide +kernel
theorem dX10_in_7 : decode cX10_in 7 = .ok (.lload 4, 2) := by decide +kernel
theorem dX10_in_9 : decode cX10_in 9 = .ok (.lcmp, 1) := by decide +kernel
theorem dX10_in_10 : decode cX10_in 10 = .ok (.ifCond .gt 7, 3) := by decide +kernel
theorem dX10_in_13 : decode cX10_in 13 = .ok (.iconst 1, 1) := by decide +kernel
theorem dX10_in_14 : decode cX10_in 14 = .ok (.goto 4, 3) := by decide +kernel
theorem dX10_in_17 : decode cX10_in 17 = .ok (.iconst 0, 1) := by decide +kernel
theorem dX10_in_18 : decode cX10_in 18 = .ok (.ireturn, 1) := by decide +kernel
/-! X10_inOrder -/
theorem dX10_inOrder_0 : decode cX10_inOrder 0 = .ok (.iconst 0, 1) := by decide +kernel
theorem dX10_inOrder_1 : decode cX10_inOrder 1 = .ok (.istore_n 2, 1) := by decide +kernel
theorem dX10_inOrder_2 : decode cX10_inOrder 2 = .ok (.iload_n 2, 1) := by decide +kernel
theorem dX10_inOrder_3 : decode cX10_inOrder 3 = .ok (.aload_n 0, 1) := by decide +kernel
theorem dX10_inOrder_4 : decode cX10_inOrder 4 = .ok (.getfield 7, 3) := by decide +kernel
theorem dX10_inOrder_7 : decode cX10_inOrder 7 = .ok (.bipush 8, 2) := by decide +kernel
theorem dX10_inOrder_9 : decode cX10_inOrder 9 = .ok (.iaload, 1) := by decide +kernel
theorem dX10_inOrder_10 : decode cX10_inOrder 10 = .ok (.if_icmp .ge 66, 3) := by decide +kernel
theorem dX10_inOrder_13 : decode cX10_inOrder 13 = .ok (.iconst 0, 1) := by decide +kernel
theorem dX10_inOrder_14 : decode cX10_inOrder 14 = .ok (.istore_n 3, 1) := by decide +kernel
theorem dX10_inOrder_15 : decode cX10_inOrder 15 = .ok (.iconst 0, 1) := by decide +kernel
theorem dX10_inOrder_16 : decode cX10_inOrder 16 = .ok (.istore 4, 2) := by decide +kernel
theorem dX10_inOrder_18 : decode cX10_inOrder 18 = .ok (.iload 4, 2) := by decide +kernel
theorem dX10_inOrder_20 : decode cX10_inOrder 20 = .ok (.aload_n 0, 1) := by decide +kernel
theorem dX10_inOrder_21 : decode cX10_inOrder 21 = .ok (.getfield 7, 3) := by decide +kernel
theorem dX10_inOrder_24 : decode cX10_inOrder 24 = .ok (.bipush 8, 2) := by decide +kernel
theorem dX10_inOrder_26 : decode cX10_inOrder 26 = .ok (.iaload, 1) := by decide +kernel
theorem dX10_inOrder_27 : decode cX10_inOrder 27 = .ok (.if_icmp .ge 36, 3) := by decide +kernel
theorem dX10_inOrder_30 : decode cX10_inOrder 30 = .ok (.iload_n 3, 1) := by decide +kernel
theorem dX10_inOrder_31 : decode cX10_inOrder 31 = .ok (.iload 4, 2) := by decide +kernel
theorem dX10_inOrder_33 : decode cX10_inOrder 33 = .ok (.iload_n 2, 1) := by decide +kernel
theorem dX10_inOrder_34 : decode cX10_inOrder 34 = .ok (.if_icmp .eq 17, 3) := by decide +kernel
theorem dX10_inOrder_37 : decode cX10_inOrder 37 = .ok (.aload_n 0, 1) := by decide +kernel
theorem dX10_inOrder_38 : decode cX10_inOrder 38 = .ok (.iload 4, 2) := by decide +kernel
theorem dX10_inOrder_40 : decode cX10_inOrder 40 = .ok (.iload_n 2, 1) := by decide +kernel
theorem dX10_inOrder_41 : decode cX10_inOrder 41 = .ok (.invokevirtual 396, 3) := by decide +kernel
theorem dX10_inOrder_44 : decode cX10_inOrder 44 = .ok (.ifCond .eq 7, 3) := by decide +kernel
theorem dX10_inOrder_47 : decode cX10_inOrder 47 = .ok (.iconst 1, 1) := by decide +kernel
theorem dX10_inOrder_48 : decode cX10_inOrder 48 = .ok (.goto 4, 3) := by decide +kernel
theorem dX10_inOrder_51 : decode cX10_inOrder 51 = .ok (.iconst 0, 1) := by decide +kernel
theorem dX10_inOrder_52 : decode cX10_inOrder 52 = .ok (.invokestatic 104, 3) := by decide +kernel
theorem dX10_inOrder_55 : decode cX10_inOrder 55 = .ok (.iadd, 1) := by decide +kernel
theorem dX10_inOrder_56 : decode cX10_inOrder 56 = .ok (.istore_n 3, 1) := by decide +kernel
theorem dX10_inOrder_57 : decode cX10_inOrder 57 = .ok (.iinc 4 1, 3) := by decide +kernel
theorem dX10_inOrder_60 : decode cX10_inOrder 60 = .ok (.goto (-42), 3) := by decide +kernel
theorem dX10_inOrder_63 : decode cX10_inOrder 63 = .ok (.iload_n 3, 1) := by decide +kernel
theorem dX10_inOrder_64 : decode cX10_inOrder 64 = .ok (.iload_n 1, 1) := by decide +kernel
theorem dX10_inOrder_65 : decode cX10_inOrder 65 = .ok (.if_icmp .ne 5, 3) := by decide +kernel
theorem dX10_inOrder_68 : decode cX10_inOrder 68 = .ok (.iload_n 2, 1) := by decide +kernel
theorem dX10_inOrder_69 : decode cX10_inOrder 69 = .ok (.ireturn, 1) := by decide +kernel
theorem dX10_inOrder_70 : decode cX10_inOrder 70 = .ok (.iinc 2 1, 3) := by decide +kernel
theorem dX10_inOrder_73 : decode cX10_inOrder 73 = .ok (.goto (-71), 3) := by decide +kernel
theorem dX10_inOrder_76 : decode cX10_inOrder 76 = .ok (.iconst (-1), 1) := by decide +kernel
theorem dX10_inOrder_77 : decode cX10_inOrder 77 = .ok (.ireturn, 1) := by decide +kernel
/-! X10_init -/
theorem dX10_init_0 : decode cX10_init 0 = .ok (.aload_n 0, 1) := by decide +kernel
theorem dX10_init_1 : decode cX10_init 1 = .ok (.invokespecial 1, 3) := by decide +kernel
theorem dX10_init_4 : decode cX10_init 4 = .ok (.aload_n 0, 1) := by decide +kernel
theorem dX10_init_5 : decode cX10_init 5 = .ok (.sipush 16816, 3) := by decide +kernel
theorem dX10_init_8 : decode cX10_init 8 = .ok (.newarray .int, 2) := by decide +kernel
theorem dX10_init_10 : decode cX10_init 10 = .ok (.putfield 7, 3) := by decide +kernel
theorem dX10_init_13 : decode cX10_init 13 = .ok (.aload_n 0, 1) := by decide +kernel
theorem dX10_init_14 : decode cX10_init 14 = .ok (.sipush 16816, 3) := by decide +kernel
theorem dX10_init_17 : decode cX10_init 17 = .ok (.newarray .int, 2) := by decide +kernel
theorem dX10_init_19 : decode cX10_init 19 = .ok (.putfield 13, 3) := by decide +kernel
theorem dX10_init_22 : decode cX10_init 22 = .ok (.aload_n 0, 1) := by decide +kernel
theorem dX10_init_23 : decode cX10_init 23 = .ok (.sipush 16816, 3) := by decide +kernel
theorem dX10_init_26 : decode cX10_init 26 = .ok (.newarray .int, 2) := by decide +kernel
theorem dX10_init_28 : decode cX10_init 28 = .ok (.putfield 16, 3) := by decide +kernel
theorem dX10_init_31 : decode cX10_init 31 = .ok (.aload_n 0, 1) := by decide +kernel
theorem dX10_init_32 : decode cX10_init 32 = .ok (.sipush 16816, 3) := by decide +kernel
theorem dX10_init_35 : decode cX10_init 35 = .ok (.newarray .int, 2) := by decide +kernel
theorem dX10_init_37 : decode cX10_init 37 = .ok (.putfield 19, 3) := by decide +kernel
theorem dX10_init_40 : decode cX10_init 40 = .ok (.aload_n 0, 1) := by decide +kernel
theorem dX10_init_41 : decode cX10_init 41 = .ok (.ldc 22, 2) := by decide +kernel
theorem dX10_init_43 : decode cX10_init 43 = .ok (.newarray .int, 2) := by decide +kernel
theorem dX10_init_45 : decode cX10_init 45 = .ok (.putfield 23, 3) := by decide +kernel
theorem dX10_init_48 : decode cX10_init 48 = .ok (.aload_n 0, 1) := by decide +kernel
theorem dX10_init_49 : decode cX10_init 49 = .ok (.sipush 500, 3) := by decide +kernel
theorem dX10_init_52 : decode cX10_init 52 = .ok (.newarray .int, 2) := by decide +kernel
theorem dX10_init_54 : decode cX10_init 54 = .ok (.putfield 26, 3) := by decide +kernel
theorem dX10_init_57 : decode cX10_init 57 = .ok (.aload_n 0, 1) := by decide +kernel
theorem dX10_init_58 : decode cX10_init 58 = .ok (.iconst (-1), 1) := by decide +kernel
theorem dX10_init_59 : decode cX10_init 59 = .ok (.putfield 29, 3) := by decide +kernel
theorem dX10_init_62 : decode cX10_init 62 = .ok (.aload_n 0, 1) := by decide +kernel
theorem dX10_init_63 : decode cX10_init 63 = .ok (.bipush 40, 2) := by decide +kernel
theorem dX10_init_65 : decode cX10_init 65 = .ok (.newarray .int, 2) := by decide +kernel
theorem dX10_init_67 : decode cX10_init 67 = .ok (.putfield 33, 3) := by decide +kernel
theorem dX10_init_70 : decode cX10_init 70 = .ok (.aload_n 0, 1) := by decide +kernel
theorem dX10_init_71 : decode cX10_init 71 = .ok (.bipush 40, 2) := by decide +kernel
theorem dX10_init_73 : decode cX10_init 73 = .ok (.newarray .int, 2) := by decide +kernel
theorem dX10_init_75 : decode cX10_init 75 = .ok (.putfield 36, 3) := by decide +kernel
theorem dX10_init_78 : decode cX10_init 78 = .ok (.aload_n 0, 1) := by decide +kernel
theorem dX10_init_79 : decode cX10_init 79 = .ok (.bipush 40, 2) := by decide +kernel
theorem dX10_init_81 : decode cX10_init 81 = .ok (.newarray .boolean, 2) := by decide +kernel
theorem dX10_init_83 : decode cX10_init 83 = .ok (.putfield 39, 3) := by decide +kernel
theorem dX10_init_86 : decode cX10_init 86 = .ok (.aload_n 0, 1) := by decide +kernel
theorem dX10_init_87 : decode cX10_init 87 = .ok (.sipush 180, 3) := by decide +kernel
theorem dX10_init_90 : decode cX10_init 90 = .ok (.newarray .int, 2) := by decide +kernel
theorem dX10_init_92 : decode cX10_init 92 = .ok (.putfield 43, 3) := by decide +kernel
theorem dX10_init_95 : decode cX10_init 95 = .ok (.aload_n 0, 1) := by decide +kernel
theorem dX10_init_96 : decode cX10_init 96 = .ok (.sipush 200, 3) := by decide +kernel
theorem dX10_init_99 : decode cX10_init 99 = .ok (.newarray .int, 2) := by decide +kernel
theorem dX10_init_101 : decode cX10_init 101 = .ok (.putfield 46, 3) := by decide +kernel
theorem dX10_init_104 : decode cX10_init 104 = .ok (.aload_n 0, 1) := by decide +kernel
theorem dX10_init_105 : decode cX10_init 105 = .ok (.sipush 200, 3) := by decide +kernel
theorem dX10_init_108 : decode cX10_init 108 = .ok (.newarray .int, 2) := by decide +kernel
theorem dX10_init_110 : decode cX10_init 110 = .ok (.putfield 49, 3) := by decide +kernel
theorem dX10_init_113 : decode cX10_init 113 = .ok (.aload_n 0, 1) := by decide +kernel
theorem dX10_init_114 : decode cX10_init 114 = .ok (.sipush 8000, 3) := by decide +kernel
theorem dX10_init_117 : decode cX10_init 117 = .ok (.newarray .int, 2) := by decide +kernel
theorem dX10_init_119 : decode cX10_init 119 = .ok (.putfield 52, 3) := by decide +kernel
theorem dX10_init_122 : decode cX10_init 122 = .ok (.aload_n 0, 1) := by decide +kernel
theorem dX10_init_123 : decode cX10_init 123 = .ok (.invokevirtual 55, 3) := by decide +kernel
theorem dX10_init_126 : decode cX10_init 126 = .ok (.aload_n 0, 1) := by decide +kernel
theorem dX10_init_127 : decode cX10_init 127 = .ok (.sipush 576, 3) := by decide +kernel
theorem dX10_init_130 : decode cX10_init 130 = .ok (.iconst 1, 1) := by decide +kernel
theorem dX10_init_131 : decode cX10_init 131 = .ok (.iconst 0, 1) := by decide +kernel
theorem dX10_init_132 : decode cX10_init 132 = .ok (.invokevirtual 58, 3) := by decide +kernel
theorem dX10_init_135 : decode cX10_init 135 = .ok (.aload_n 0, 1) := by decide +kernel
theorem dX10_init_136 : decode cX10_init 136 = .ok (.getfield 7, 3) := by decide +kernel
theorem dX10_init_139 : decode cX10_init 139 = .ok (.iconst 5, 1) := by decide +kernel
theorem dX10_init_140 : decode cX10_init 140 = .ok (.sipush 576, 3) := by decide +kernel
theorem dX10_init_143 : decode cX10_init 143 = .ok (.iastore, 1) := by decide +kernel
theorem dX10_init_144 : decode cX10_init 144 = .ok (.return_, 1) := by decide +kernel
/-! X10_isAhead -/
theorem dX10_isAhead_0 : decode cX10_isAhead 0 = .ok (.aload_n 0, 1) := by decide +kernel
theorem dX10_isAhead_1 : decode cX10_isAhead 1 = .ok (.iload_n 1, 1) := by decide +kernel
theorem dX10_isAhead_2 : decode cX10_isAhead 2 = .ok (.iconst 1, 1) := by decide +kernel
theorem dX10_isAhead_3 : decode cX10_isAhead 3 = .ok (.invokevirtual 131, 3) := by decide +kernel
theorem dX10_isAhead_6 : decode cX10_isAhead 6 = .ok (.aload_n 0, 1) := by decide +kernel
theorem dX10_isAhead_7 : decode cX10_isAhead 7 = .ok (.iload_n 2, 1) := by decide +kernel
theorem dX10_isAhead_8 : decode cX10_isAhead 8 = .ok (.iconst 1, 1) := by decide +kernel
theorem dX10_isAhead_9 : decode cX10_isAhead 9 = .ok (.invokevirtual 131, 3) := by decide +kernel
theorem dX10_isAhead_12 : decode cX10_isAhead 12 = .ok (.if_icmp .eq 24, 3) := by decide +kernel
theorem dX10_isAhead_15 : decode cX10_isAhead 15 = .ok (.aload_n 0, 1) := by decide +kernel
theorem dX10_isAhead_16 : decode cX10_isAhead 16 = .ok (.iload_n 1, 1) := by decide +kernel
theorem dX10_isAhead_17 : decode cX10_isAhead 17 = .ok (.iconst 1, 1) := by decide +kernel
theorem dX10_isAhead_18 : decode cX10_isAhead 18 = .ok (.invokevirtual 131, 3) := by decide +kernel
theorem dX10_isAhead_21 : decode cX10_isAhead 21 = .ok (.aload_n 0, 1) := by decide +kernel
theorem dX10_isAhead_22 : decode cX10_isAhead 22 = .ok (.iload_n 2, 1) := by decide +kernel
theorem dX10_isAhead_23 : decode cX10_isAhead 23 = .ok (.iconst 1, 1) := by decide +kernel
theorem dX10_isAhead_24 : decode cX10_isAhead 24 = .ok (.invokevirtual 131, 3) := by decide +kernel
theorem dX10_isAhead_27 : decode cX10_isAhead 27 = .ok (.if_icmp .ge 7, 3) := by decide +kernel
theorem dX10_isAhead_30 : decode cX10_isAhead 30 = .ok (.iconst 1, 1) := by decide +kernel
theorem dX10_isAhead_31 : decode cX10_isAhead 31 = .ok (.goto 4, 3) := by decide +kernel
theorem dX10_isAhead_34 : decode cX10_isAhead 34 = .ok (.iconst 0, 1) := by decide +kernel
theorem dX10_isAhead_35 : decode cX10_isAhead 35 = .ok (.ireturn, 1) := by decide +kernel
theorem dX10_isAhead_36 : decode cX10_isAhead 36 = .ok (.aload_n 0, 1) := by decide +kernel
theorem dX10_isAhead_37 : decode cX10_isAhead 37 = .ok (.iload_n 1, 1) := by decide +kernel
theorem dX10_isAhead_38 : decode cX10_isAhead 38 = .ok (.iconst 0, 1) := by decide +kernel
theorem dX10_isAhead_39 : decode cX10_isAhead 39 = .ok (.invokevirtual 131, 3) := by decide +kernel
theorem dX10_isAhead_42 : decode cX10_isAhead 42 = .ok (.aload_n 0, 1) := by decide +kernel
theorem dX10_isAhead_43 : decode cX10_isAhead 43 = .ok (.iload_n 2, 1) := by decide +kernel
theorem dX10_isAhead_44 : decode cX10_isAhead 44 = .ok (.iconst 0, 1) := by decide +kernel
theorem dX10_isAhead_45 : decode cX10_isAhead 45 = .ok (.invokevirtual 131, 3) := by decide +kernel
theorem dX10_isAhead_48 : decode cX10_isAhead 48 = .ok (.if_icmp .eq 24, 3) := by decide +kernel
theorem dX10_isAhead_51 : decode cX10_isAhead 51 = .ok (.aload_n 0, 1) := by decide +kernel
theorem dX10_isAhead_52 : decode cX10_isAhead 52 = .ok (.iload_n 1, 1) := by decide +kernel
theorem dX10_isAhead_53 : decode cX10_isAhead 53 = .ok (.iconst 0, 1) := by decide +kernel
theorem dX10_isAhead_54 : decode cX10_isAhead 54 = .ok (.invokevirtual 131, 3) := by decide +kernel
theorem dX10_isAhead_57 : decode cX10_isAhead 57 = .ok (.aload_n 0, 1) := by decide +kernel
theorem dX10_isAhead_58 : decode cX10_isAhead 58 = .ok (.iload_n 2, 1) := by decide +kernel
theorem dX10_isAhead_59 : decode cX10_isAhead 59 = .ok (.iconst 0, 1) := by decide +kernel
theorem dX10_isAhead_60 : decode cX10_isAhead 60 = .ok (.invokevirtual 131, 3) := by decide +kernel
theorem dX10_isAhead_63 : decode cX10_isAhead 63 = .ok (.if_icmp .ge 7, 3) := by decide +kernel
theorem dX10_isAhead_66 : decode cX10_isAhead 66 = .ok (.iconst 1, 1) := by decide +kernel
theorem dX10_isAhead_67 : decode cX10_isAhead 67 = .ok (.goto 4, 3) := by decide +kernel
theorem dX10_isAhead_70 : decode cX10_isAhead 70 = .ok (.iconst 0, 1) := by decide +kernel
theorem dX10_isAhead_71 : decode cX10_isAhead 71 = .ok (.ireturn, 1) := by decide +kernel
theorem dX10_isAhead_72 : decode cX10_isAhead 72 = .ok (.iload_n 1, 1) := by decide +kernel
theorem dX10_isAhead_73 : decode cX10_isAhead 73 = .ok (.iload_n 2, 1) := by decide +kernel
theorem dX10_isAhead_74 : decode cX10_isAhead 74 = .ok (.if_icmp .ge 7, 3) := by decide +kernel
theorem dX10_isAhead_77 : decode cX10_isAhead 77 = .ok (.iconst 1, 1) := by decide +kernel
theorem dX10_isAhead_78 : decode cX10_isAhead 78 = .ok (.goto 4, 3) := by decide +kernel
theorem dX10_isAhead_81 : decode cX10_isAhead 81 = .ok (.iconst 0, 1) := by decide +kernel
theorem dX10_isAhead_82 : decode cX10_isAhead 82 = .ok (.ireturn, 1) := by decide +kernel
/-! X10_isData -/
theorem dX10_isData_0 : decode cX10_isData 0 = .ok (.iload_n 1, 1) := by decide +kernel
theorem dX10_isData_1 : decode cX10_isData 1 = .ok (.i2l, 1) := by decide +kernel
theorem dX10_isData_2 : decode cX10_isData 2 = .ok (.lconst 0, 1) := by decide +kernel
theorem dX10_isData_3 : decode cX10_isData 3 = .ok (.aload_n 0, 1) := by decide +kernel
theorem dX10_isData_4 : decode cX10_isData 4 = .ok (.getfield 7, 3) := by decide +kernel
theorem dX10_isData_7 : decode cX10_isData 7 = .ok (.iconst 1, 1) := by decide +kernel
theorem dX10_isData_8 : decode cX10_isData 8 = .ok (.iaload, 1) := by decide +kernel
theorem dX10_isData_9 : decode cX10_isData 9 = .ok (.iconst 1, 1) := by decide +kernel
theorem dX10_isData_10 : decode cX10_isData 10 = .ok (.isub, 1) := by decide +kernel
theorem dX10_isData_11 : decode cX10_isData 11 = .ok (.i2l, 1) := by decide +kernel
theorem dX10_isData_12 : decode cX10_isData 12 = .ok (.invokestatic 65, 3) := by decide +kernel
theorem dX10_isData_15 : decode cX10_isData 15 = .ok (.ireturn, 1) := by decide +kernel
/-! X10_isFound -/
theorem dX10_isFound_0 : decode cX10_isFound 0 = .ok (.aload_n 0, 1) := by decide +kernel
theorem dX10_isFound_1 : decode cX10_isFound 1 = .ok (.iconst 0, 1) := by decide +kernel
theorem dX10_isFound_2 : decode cX10_isFound 2 = .ok (.putfield 62, 3) := by decide +kernel
theorem dX10_isFound_5 : decode cX10_isFound 5 = .ok (.aload_n 0, 1) := by decide +kernel
theorem dX10_isFound_6 : decode cX10_isFound 6 = .ok (.getfield 7, 3) := by decide +kernel
theorem dX10_isFound_9 : decode cX10_isFound 9 = .ok (.bipush 7, 2) := by decide +kernel
theorem dX10_isFound_11 : decode cX10_isFound 11 = .ok (.iaload, 1) := by decide +kernel
theorem dX10_isFound_12 : decode cX10_isFound 12 = .ok (.aload_n 0, 1) := by decide +kernel
theorem dX10_isFound_13 : decode cX10_isFound 13 = .ok (.getfield 7, 3) := by decide +kernel
theorem dX10_isFound_16 : decode cX10_isFound 16 = .ok (.bipush 6, 2) := by decide +kernel
theorem dX10_isFound_18 : decode cX10_isFound 18 = .ok (.iaload, 1) := by decide +kernel
theorem dX10_isFound_19 : decode cX10_isFound 19 = .ok (.iconst 1, 1) := by decide +kernel
theorem dX10_isFound_20 : decode cX10_isFound 20 = .ok (.iadd, 1) := by decide +kernel
theorem dX10_isFound_21 : decode cX10_isFound 21 = .ok (.if_icmp .eq 16, 3) := by decide +kernel
theorem dX10_isFound_24 : decode cX10_isFound 24 = .ok (.aload_n 0, 1) := by decide +kernel
theorem dX10_isFound_25 : decode cX10_isFound 25 = .ok (.getfield 7, 3) := by decide +kernel
theorem dX10_isFound_28 : decode cX10_isFound 28 = .ok (.bipush 6, 2) := by decide +kernel
theorem dX10_isFound_30 : decode cX10_isFound 30 = .ok (.iaload, 1) := by decide +kernel
theorem dX10_isFound_31 : decode cX10_isFound 31 = .ok (.sipush 1500, 3) := by decide +kernel
theorem dX10_isFound_34 : decode cX10_isFound 34 = .ok (.if_icmp .ne 7, 3) := by decide +kernel
theorem dX10_isFound_37 : decode cX10_isFound 37 = .ok (.iconst 1, 1) := by decide +kernel
theorem dX10_isFound_38 : decode cX10_isFound 38 = .ok (.goto 4, 3) := by decide +kernel
theorem dX10_isFound_41 : decode cX10_isFound 41 = .ok (.iconst 0, 1) := by decide +kernel
theorem dX10_isFound_42 : decode cX10_isFound 42 = .ok (.ireturn, 1) := by decide +kernel
/-! X10_isLink -/
theorem dX10_isLink_0 : decode cX10_isLink 0 = .ok (.iload_n 1, 1) := by decide +kernel
theorem dX10_isLink_1 : decode cX10_isLink 1 = .ok (.i2l, 1) := by decide +kernel
theorem dX10_isLink_2 : decode cX10_isLink 2 = .ok (.lconst 0, 1) := by decide +kernel
theorem dX10_isLink_3 : decode cX10_isLink 3 = .ok (.aload_n 0, 1) := by decide +kernel
theorem dX10_isLink_4 : decode cX10_isLink 4 = .ok (.getfield 7, 3) := by decide +kernel
theorem dX10_isLink_7 : decode cX10_isLink 7 = .ok (.iconst 0, 1) := by decide +kernel
theorem dX10_isLink_8 : decode cX10_isLink 8 = .ok (.iaload, 1) := by decide +kernel
theorem dX10_isLink_9 : decode cX10_isLink 9 = .ok (.iconst 1, 1) := by decide +kernel
theorem dX10_isLink_10 : decode cX10_isLink 10 = .ok (.isub, 1) := by decide +kernel
theorem dX10_isLink_11 : decode cX10_isLink 11 = .ok (.i2l, 1) := by decide +kernel
theorem dX10_isLink_12 : decode cX10_isLink 12 = .ok (.invokestatic 65, 3) := by decide +kernel
theorem dX10_isLink_15 : decode cX10_isLink 15 = .ok (.ireturn, 1) := by decide +kernel
/-! X10_isOpen -/
theorem dX10_isOpen_0 : decode cX10_isOpen 0 = .ok (.aload_n 0, 1) := by decide +kernel
theorem dX10_isOpen_1 : decode cX10_isOpen 1 = .ok (.iload_n 1, 1) := by decide +kernel
theorem dX10_isOpen_2 : decode cX10_isOpen 2 = .ok (.iconst 5, 1) := by decide +kernel
theorem dX10_isOpen_3 : decode cX10_isOpen 3 = .ok (.invokevirtual 69, 3) := by decide +kernel
theorem dX10_isOpen_6 : decode cX10_isOpen 6 = .ok (.ifCond .ne 7, 3) := by decide +kernel
theorem dX10_isOpen_9 : decode cX10_isOpen 9 = .ok (.iconst 1, 1) := by decide +kernel
theorem dX10_isOpen_10 : decode cX10_isOpen 10 = .ok (.goto 4, 3) := by decide +kernel
theorem dX10_isOpen_13 : decode cX10_isOpen 13 = .ok (.iconst 0, 1) := by decide +kernel
theorem dX10_isOpen_14 : decode cX10_isOpen 14 = .ok (.ireturn, 1) := by decide +kernel
/-! X10_isOwn -/
theorem dX10_isOwn_0 : decode cX10_isOwn 0 = .ok (.aload_n 0, 1) := by decide +kernel
theorem dX10_isOwn_1 : decode cX10_isOwn 1 = .ok (.iload_n 1, 1) := by decide +kernel
theorem dX10_isOwn_2 : decode cX10_isOwn 2 = .ok (.iconst 2, 1) := by decide +kernel
theorem dX10_isOwn_3 : decode cX10_isOwn 3 = .ok (.invokevirtual 134, 3) := by decide +kernel
theorem dX10_isOwn_6 : decode cX10_isOwn 6 = .ok (.aload_n 0, 1) := by decide +kernel
theorem dX10_isOwn_7 : decode cX10_isOwn 7 = .ok (.iload_n 2, 1) := by decide +kernel
theorem dX10_isOwn_8 : decode cX10_isOwn 8 = .ok (.iconst 0, 1) := by decide +kernel
theorem dX10_isOwn_9 : decode cX10_isOwn 9 = .ok (.invokevirtual 69, 3) := by decide +kernel
theorem dX10_isOwn_12 : decode cX10_isOwn 12 = .ok (.if_icmp .eq 5, 3) := by decide +kernel
theorem dX10_isOwn_15 : decode cX10_isOwn 15 = .ok (.iconst 0, 1) := by decide +kernel
theorem dX10_isOwn_16 : decode cX10_isOwn 16 = .ok (.ireturn, 1) := by decide +kernel
theorem dX10_isOwn_17 : decode cX10_isOwn 17 = .ok (.iconst 0, 1) := by decide +kernel
theorem dX10_isOwn_18 : decode cX10_isOwn 18 = .ok (.istore_n 3, 1) := by decide +kernel
theorem dX10_isOwn_19 : decode cX10_isOwn 19 = .ok (.iload_n 3, 1) := by decide +kernel
theorem dX10_isOwn_20 : decode cX10_isOwn 20 = .ok (.aload_n 0, 1) := by decide +kernel
theorem dX10_isOwn_21 : decode cX10_isOwn 21 = .ok (.iload_n 1, 1) := by decide +kernel
theorem dX10_isOwn_22 : decode cX10_isOwn 22 = .ok (.iconst 2, 1) := by decide +kernel
theorem dX10_isOwn_23 : decode cX10_isOwn 23 = .ok (.invokevirtual 134, 3) := by decide +kernel
theorem dX10_isOwn_26 : decode cX10_isOwn 26 = .ok (.if_icmp .ge 30, 3) := by decide +kernel
theorem dX10_isOwn_29 : decode cX10_isOwn 29 = .ok (.aload_n 0, 1) := by decide +kernel
theorem dX10_isOwn_30 : decode cX10_isOwn 30 = .ok (.iload_n 1, 1) := by decide +kernel
theorem dX10_isOwn_31 : decode cX10_isOwn 31 = .ok (.iload_n 3, 1) := by decide +kernel
theorem dX10_isOwn_32 : decode cX10_isOwn 32 = .ok (.invokevirtual 153, 3) := by decide +kernel
theorem dX10_isOwn_35 : decode cX10_isOwn 35 = .ok (.aload_n 0, 1) := by decide +kernel
theorem dX10_isOwn_36 : decode cX10_isOwn 36 = .ok (.iload_n 2, 1) := by decide +kernel
theorem dX10_isOwn_37 : decode cX10_isOwn 37 = .ok (.iconst 1, 1) := by decide +kernel
theorem dX10_isOwn_38 : decode cX10_isOwn 38 = .ok (.invokevirtual 69, 3) := by decide +kernel
theorem dX10_isOwn_41 : decode cX10_isOwn 41 = .ok (.iload_n 3, 1) := by decide +kernel
theorem dX10_isOwn_42 : decode cX10_isOwn 42 = .ok (.invokestatic 156, 3) := by decide +kernel
theorem dX10_isOwn_45 : decode cX10_isOwn 45 = .ok (.if_icmp .eq 5, 3) := by decide +kernel
theorem dX10_isOwn_48 : decode cX10_isOwn 48 = .ok (.iconst 0, 1) := by decide +kernel
theorem dX10_isOwn_49 : decode cX10_isOwn 49 = .ok (.ireturn, 1) := by decide +kernel
theorem dX10_isOwn_50 : decode cX10_isOwn 50 = .ok (.iinc 3 1, 3) := by decide +kernel
theorem dX10_isOwn_53 : decode cX10_isOwn 53 = .ok (.goto (-34), 3) := by decide +kernel
theorem dX10_isOwn_56 : decode cX10_isOwn 56 = .ok (.iconst 1, 1) := by decide +kernel
theorem dX10_isOwn_57 : decode cX10_isOwn 57 = .ok (.ireturn, 1) := by decide +kernel
/-! X10_isQuiet -/
theorem dX10_isQuiet_0 : decode cX10_isQuiet 0 = .ok (.aload_n 0, 1) := by decide +kernel
theorem dX10_isQuiet_1 : decode cX10_isQuiet 1 = .ok (.getfield 7, 3) := by decide +kernel
theorem dX10_isQuiet_4 : decode cX10_isQuiet 4 = .ok (.bipush 8, 2) := by decide +kernel
theorem dX10_isQuiet_6 : decode cX10_isQuiet 6 = .ok (.iaload, 1) := by decide +kernel
theorem dX10_isQuiet_7 : decode cX10_isQuiet 7 = .ok (.aload_n 0, 1) := by decide +kernel
theorem dX10_isQuiet_8 : decode cX10_isQuiet 8 = .ok (.getfield 7, 3) := by decide +kernel
theorem dX10_isQuiet_11 : decode cX10_isQuiet 11 = .ok (.bipush 9, 2) := by decide +kernel
theorem dX10_isQuiet_13 : decode cX10_isQuiet 13 = .ok (.iaload, 1) := by decide +kernel
theorem dX10_isQuiet_14 : decode cX10_isQuiet 14 = .ok (.iadd, 1) := by decide +kernel
theorem dX10_isQuiet_15 : decode cX10_isQuiet 15 = .ok (.aload_n 0, 1) := by decide +kernel
theorem dX10_isQuiet_16 : decode cX10_isQuiet 16 = .ok (.invokevirtual 143, 3) := by decide +kernel
theorem dX10_isQuiet_19 : decode cX10_isQuiet 19 = .ok (.iadd, 1) := by decide +kernel
theorem dX10_isQuiet_20 : decode cX10_isQuiet 20 = .ok (.ifCond .ne 7, 3) := by decide +kernel
theorem dX10_isQuiet_23 : decode cX10_isQuiet 23 = .ok (.iconst 1, 1) := by decide +kernel
theorem dX10_isQuiet_24 : decode cX10_isQuiet 24 = .ok (.goto 4, 3) := by decide +kernel
theorem dX10_isQuiet_27 : decode cX10_isQuiet 27 = .ok (.iconst 0, 1) := by decide +kernel
theorem dX10_isQuiet_28 : decode cX10_isQuiet 28 = .ok (.ireturn, 1) := by decide +kernel
/-! X10_isWhole -/
theorem dX10_isWhole_0 : decode cX10_isWhole 0 = .ok (.aload_n 0, 1) := by decide +kernel
theorem dX10_isWhole_1 : decode cX10_isWhole 1 = .ok (.iload_n 1, 1) := by decide +kernel
theorem dX10_isWhole_2 : decode cX10_isWhole 2 = .ok (.iconst 2, 1) := by decide +kernel
theorem dX10_isWhole_3 : decode cX10_isWhole 3 = .ok (.invokevirtual 134, 3) := by decide +kernel
theorem dX10_isWhole_6 : decode cX10_isWhole 6 = .ok (.iconst (-1), 1) := by decide +kernel
theorem dX10_isWhole_7 : decode cX10_isWhole 7 = .ok (.if_icmp .ne 5, 3) := by decide +kernel
theorem dX10_isWhole_10 : decode cX10_isWhole 10 = .ok (.iconst 0, 1) := by decide +kernel
theorem dX10_isWhole_11 : decode cX10_isWhole 11 = .ok (.ireturn, 1) := by decide +kernel
theorem dX10_isWhole_12 : decode cX10_isWhole 12 = .ok (.iconst 0, 1) := by decide +kernel
theorem dX10_isWhole_13 : decode cX10_isWhole 13 = .ok (.istore_n 2, 1) := by decide +kernel
theorem dX10_isWhole_14 : decode cX10_isWhole 14 = .ok (.iload_n 2, 1) := by decide +kernel
theorem dX10_isWhole_15 : decode cX10_isWhole 15 = .ok (.aload_n 0, 1) := by decide +kernel
theorem dX10_isWhole_16 : decode cX10_isWhole 16 = .ok (.iload_n 1, 1) := by decide +kernel
theorem dX10_isWhole_17 : decode cX10_isWhole 17 = .ok (.iconst 2, 1) := by decide +kernel
theorem dX10_isWhole_18 : decode cX10_isWhole 18 = .ok (.invokevirtual 134, 3) := by decide +kernel
theorem dX10_isWhole_21 : decode cX10_isWhole 21 = .ok (.if_icmp .ge 21, 3) := by decide +kernel
theorem dX10_isWhole_24 : decode cX10_isWhole 24 = .ok (.aload_n 0, 1) := by decide +kernel
theorem dX10_isWhole_25 : decode cX10_isWhole 25 = .ok (.iload_n 1, 1) := by decide +kernel
theorem dX10_isWhole_26 : decode cX10_isWhole 26 = .ok (.iload_n 2, 1) := by decide +kernel
theorem dX10_isWhole_27 : decode cX10_isWhole 27 = .ok (.invokevirtual 153, 3) := by decide +kernel
theorem dX10_isWhole_30 : decode cX10_isWhole 30 = .ok (.iconst (-1), 1) := by decide +kernel
theorem dX10_isWhole_31 : decode cX10_isWhole 31 = .ok (.if_icmp .ne 5, 3) := by decide +kernel
theorem dX10_isWhole_34 : decode cX10_isWhole 34 = .ok (.iconst 0, 1) := by decide +kernel
theorem dX10_isWhole_35 : decode cX10_isWhole 35 = .ok (.ireturn, 1) := by decide +kernel
theorem dX10_isWhole_36 : decode cX10_isWhole 36 = .ok (.iinc 2 1, 3) := by decide +kernel
theorem dX10_isWhole_39 : decode cX10_isWhole 39 = .ok (.goto (-25), 3) := by decide +kernel
theorem dX10_isWhole_42 : decode cX10_isWhole 42 = .ok (.iconst 1, 1) := by decide +kernel
theorem dX10_isWhole_43 : decode cX10_isWhole 43 = .ok (.ireturn, 1) := by decide +kernel
/-! X10_keeps -/
theorem dX10_keeps_0 : decode cX10_keeps 0 = .ok (.aload_n 0, 1) := by decide +kernel
theorem dX10_keeps_1 : decode cX10_keeps 1 = .ok (.getfield 307, 3) := by decide +kernel
theorem dX10_keeps_4 : decode cX10_keeps 4 = .ok (.bipush 8, 2) := by decide +kernel
theorem dX10_keeps_6 : decode cX10_keeps 6 = .ok (.if_icmp .ne 44, 3) := by decide +kernel
theorem dX10_keeps_9 : decode cX10_keeps 9 = .ok (.iconst 0, 1) := by decide +kernel
theorem dX10_keeps_10 : decode cX10_keeps 10 = .ok (.istore_n 2, 1) := by decide +kernel
theorem dX10_keeps_11 : decode cX10_keeps 11 = .ok (.iload_n 2, 1) := by decide +kernel
theorem dX10_keeps_12 : decode cX10_keeps 12 = .ok (.ldc_w 365, 3) := by decide +kernel
theorem dX10_keeps_15 : decode cX10_keeps 15 = .ok (.if_icmp .ge 25, 3) := by decide +kernel
theorem dX10_keeps_18 : decode cX10_keeps 18 = .ok (.aload_n 0, 1) := by decide +kernel
theorem dX10_keeps_19 : decode cX10_keeps 19 = .ok (.getfield 23, 3) := by decide +kernel
theorem dX10_keeps_22 : decode cX10_keeps 22 = .ok (.iload_n 2, 1) := by decide +kernel
theorem dX10_keeps_23 : decode cX10_keeps 23 = .ok (.aload_n 0, 1) := by decide +kernel
theorem dX10_keeps_24 : decode cX10_keeps 24 = .ok (.getfield 23, 3) := by decide +kernel
theorem dX10_keeps_27 : decode cX10_keeps 27 = .ok (.iload_n 2, 1) := by decide +kernel
theorem dX10_keeps_28 : decode cX10_keeps 28 = .ok (.sipush 16816, 3) := by decide +kernel
theorem dX10_keeps_31 : decode cX10_keeps 31 = .ok (.iadd, 1) := by decide +kernel
theorem dX10_keeps_32 : decode cX10_keeps 32 = .ok (.iaload, 1) := by decide +kernel
theorem dX10_keeps_33 : decode cX10_keeps 33 = .ok (.iastore, 1) := by decide +kernel
theorem dX10_keeps_34 : decode cX10_keeps 34 = .ok (.iinc 2 1, 3) := by decide +kernel
theorem dX10_keeps_37 : decode cX10_keeps 37 = .ok (.goto (-26), 3) := by decide +kernel
theorem dX10_keeps_40 : decode cX10_keeps 40 = .ok (.aload_n 0, 1) := by decide +kernel
theorem dX10_keeps_41 : decode cX10_keeps 41 = .ok (.dup, 1) := by decide +kernel
theorem dX10_keeps_42 : decode cX10_keeps 42 = .ok (.getfield 307, 3) := by decide +kernel
theorem dX10_keeps_45 : decode cX10_keeps 45 = .ok (.iconst 1, 1) := by decide +kernel
theorem dX10_keeps_46 : decode cX10_keeps 46 = .ok (.isub, 1) := by decide +kernel
theorem dX10_keeps_47 : decode cX10_keeps 47 = .ok (.putfield 307, 3) := by decide +kernel
theorem dX10_keeps_50 : decode cX10_keeps 50 = .ok (.aload_n 1, 1) := by decide +kernel
theorem dX10_keeps_51 : decode cX10_keeps 51 = .ok (.iconst 0, 1) := by decide +kernel
theorem dX10_keeps_52 : decode cX10_keeps 52 = .ok (.aload_n 0, 1) := by decide +kernel
theorem dX10_keeps_53 : decode cX10_keeps 53 = .ok (.getfield 23, 3) := by decide +kernel
theorem dX10_keeps_56 : decode cX10_keeps 56 = .ok (.sipush 16816, 3) := by decide +kernel
theorem dX10_keeps_59 : decode cX10_keeps 59 = .ok (.aload_n 0, 1) := by decide +kernel
theorem dX10_keeps_60 : decode cX10_keeps 60 = .ok (.getfield 307, 3) := by decide +kernel
theorem dX10_keeps_63 : decode cX10_keeps 63 = .ok (.imul, 1) := by decide +kernel
theorem dX10_keeps_64 : decode cX10_keeps 64 = .ok (.invokestatic 290, 3) := by decide +kernel
theorem dX10_keeps_67 : decode cX10_keeps 67 = .ok (.aload_n 0, 1) := by decide +kernel
theorem dX10_keeps_68 : decode cX10_keeps 68 = .ok (.dup, 1) := by decide +kernel
theorem dX10_keeps_69 : decode cX10_keeps 69 = .ok (.getfield 307, 3) := by decide +kernel
theorem dX10_keeps_72 : decode cX10_keeps 72 = .ok (.iconst 1, 1) := by decide +kernel
theorem dX10_keeps_73 : decode cX10_keeps 73 = .ok (.iadd, 1) := by decide +kernel
theorem dX10_keeps_74 : decode cX10_keeps 74 = .ok (.putfield 307, 3) := by decide +kernel
theorem dX10_keeps_77 : decode cX10_keeps 77 = .ok (.return_, 1) := by decide +kernel
/-! X10_known -/
theorem dX10_known_0 : decode cX10_known 0 = .ok (.aload_n 0, 1) := by decide +kernel
theorem dX10_known_1 : decode cX10_known 1 = .ok (.getfield 7, 3) := by decide +kernel
theorem dX10_known_4 : decode cX10_known 4 = .ok (.sipush 11992, 3) := by decide +kernel
theorem dX10_known_7 : decode cX10_known 7 = .ok (.sipush 1206, 3) := by decide +kernel
theorem dX10_known_10 : decode cX10_known 10 = .ok (.iload_n 1, 1) := by decide +kernel
theorem dX10_known_11 : decode cX10_known 11 = .ok (.imul, 1) := by decide +kernel
theorem dX10_known_12 : decode cX10_known 12 = .ok (.iadd, 1) := by decide +kernel
theorem dX10_known_13 : decode cX10_known 13 = .ok (.bipush 6, 2) := by decide +kernel
theorem dX10_known_15 : decode cX10_known 15 = .ok (.iadd, 1) := by decide +kernel
theorem dX10_known_16 : decode cX10_known 16 = .ok (.iload_n 2, 1) := by decide +kernel
theorem dX10_known_17 : decode cX10_known 17 = .ok (.iadd, 1) := by decide +kernel
theorem dX10_known_18 : decode cX10_known 18 = .ok (.iaload, 1) := by decide +kernel
theorem dX10_known_19 : decode cX10_known 19 = .ok (.ireturn, 1) := by decide +kernel
/-! X10_knownMany -/
theorem dX10_knownMany_0 : decode cX10_knownMany 0 = .ok (.iconst 0, 1) := by decide +kernel
theorem dX10_knownMany_1 : decode cX10_knownMany 1 = .ok (.istore_n 2, 1) := by decide +kernel
theorem dX10_knownMany_2 : decode cX10_knownMany 2 = .ok (.iconst 0, 1) := by decide +kernel
theorem dX10_knownMany_3 : decode cX10_knownMany 3 = .ok (.istore_n 3, 1) := by decide +kernel
theorem dX10_knownMany_4 : decode cX10_knownMany 4 = .ok (.iload_n 3, 1) := by decide +kernel
theorem dX10_knownMany_5 : decode cX10_knownMany 5 = .ok (.sipush 1200, 3) := by decide +kernel
theorem dX10_knownMany_8 : decode cX10_knownMany 8 = .ok (.if_icmp .ge 30, 3) := by decide +kernel
theorem dX10_knownMany_11 : decode cX10_knownMany 11 = .ok (.iload_n 2, 1) := by decide +kernel
theorem dX10_knownMany_12 : decode cX10_knownMany 12 = .ok (.aload_n 0, 1) := by decide +kernel
theorem dX10_knownMany_13 : decode cX10_knownMany 13 = .ok (.iload_n 1, 1) := by decide +kernel
theorem dX10_knownMany_14 : decode cX10_knownMany 14 = .ok (.iload_n 3, 1) := by decide +kernel
theorem dX10_knownMany_15 : decode cX10_knownMany 15 = .ok (.invokevirtual 153, 3) := by decide +kernel
theorem dX10_knownMany_18 : decode cX10_knownMany 18 = .ok (.iconst (-1), 1) := by decide +kernel
theorem dX10_knownMany_19 : decode cX10_knownMany 19 = .ok (.if_icmp .eq 7, 3) := by decide +kernel
theorem dX10_knownMany_22 : decode cX10_knownMany 22 = .ok (.iconst 1, 1) := by decide +kernel
theorem dX10_knownMany_23 : decode cX10_knownMany 23 = .ok (.goto 4, 3) := by decide +kernel
theorem dX10_knownMany_26 : decode cX10_knownMany 26 = .ok (.iconst 0, 1) := by decide +kernel
theorem dX10_knownMany_27 : decode cX10_knownMany 27 = .ok (.invokestatic 104, 3) := by decide +kernel
theorem dX10_knownMany_30 : decode cX10_knownMany 30 = .ok (.iadd, 1) := by decide +kernel
theorem dX10_knownMany_31 : decode cX10_knownMany 31 = .ok (.istore_n 2, 1) := by decide +kernel
theorem dX10_knownMany_32 : decode cX10_knownMany 32 = .ok (.iinc 3 1, 3) := by decide +kernel
theorem dX10_knownMany_35 : decode cX10_knownMany 35 = .ok (.goto (-31), 3) := by decide +kernel
theorem dX10_knownMany_38 : decode cX10_knownMany 38 = .ok (.iload_n 2, 1) := by decide +kernel
theorem dX10_knownMany_39 : decode cX10_knownMany 39 = .ok (.ireturn, 1) := by decide +kernel
/-! X10_laysLink -/
theorem dX10_laysLink_0 : decode cX10_laysLink 0 = .ok (.bipush 24, 2) := by decide +kernel
theorem dX10_laysLink_2 : decode cX10_laysLink 2 = .ok (.bipush 8, 2) := by decide +kernel
theorem dX10_laysLink_4 : decode cX10_laysLink 4 = .ok (.aload_n 0, 1) := by decide +kernel
theorem dX10_laysLink_5 : decode cX10_laysLink 5 = .ok (.getfield 7, 3) := by decide +kernel
theorem dX10_laysLink_8 : decode cX10_laysLink 8 = .ok (.iconst 0, 1) := by decide +kernel
theorem dX10_laysLink_9 : decode cX10_laysLink 9 = .ok (.iaload, 1) := by decide +kernel
theorem dX10_laysLink_10 : decode cX10_laysLink 10 = .ok (.imul, 1) := by decide +kernel
theorem dX10_laysLink_11 : decode cX10_laysLink 11 = .ok (.iadd, 1) := by decide +kernel
theorem dX10_laysLink_12 : decode cX10_laysLink 12 = .ok (.istore 4, 2) := by decide +kernel
theorem dX10_laysLink_14 : decode cX10_laysLink 14 = .ok (.aload_n 0, 1) := by decide +kernel
theorem dX10_laysLink_15 : decode cX10_laysLink 15 = .ok (.getfield 7, 3) := by decide +kernel
theorem dX10_laysLink_18 : decode cX10_laysLink 18 = .ok (.iload 4, 2) := by decide +kernel
theorem dX10_laysLink_20 : decode cX10_laysLink 20 = .ok (.iconst 0, 1) := by decide +kernel
theorem dX10_laysLink_21 : decode cX10_laysLink 21 = .ok (.iadd, 1) := by decide +kernel
theorem dX10_laysLink_22 : decode cX10_laysLink 22 = .ok (.iload_n 1, 1) := by decide +kernel
theorem dX10_laysLink_23 : decode cX10_laysLink 23 = .ok (.iastore, 1) := by decide +kernel
theorem dX10_laysLink_24 : decode cX10_laysLink 24 = .ok (.aload_n 0, 1) := by decide +kernel
theorem dX10_laysLink_25 : decode cX10_laysLink 25 = .ok (.getfield 7, 3) := by decide +kernel
theorem dX10_laysLink_28 : decode cX10_laysLink 28 = .ok (.iload 4, 2) := by decide +kernel
theorem dX10_laysLink_30 : decode cX10_laysLink 30 = .ok (.iconst 1, 1) := by decide +kernel
theorem dX10_laysLink_31 : decode cX10_laysLink 31 = .ok (.iadd, 1) := by decide +kernel
theorem dX10_laysLink_32 : decode cX10_laysLink 32 = .ok (.iload_n 2, 1) := by decide +kernel
theorem dX10_laysLink_33 : decode cX10_laysLink 33 = .ok (.iastore, 1) := by decide +kernel
theorem dX10_laysLink_34 : decode cX10_laysLink 34 = .ok (.aload_n 0, 1) := by decide +kernel
theorem dX10_laysLink_35 : decode cX10_laysLink 35 = .ok (.getfield 7, 3) := by decide +kernel
theorem dX10_laysLink_38 : decode cX10_laysLink 38 = .ok (.iload 4, 2) := by decide +kernel
theorem dX10_laysLink_40 : decode cX10_laysLink 40 = .ok (.iconst 2, 1) := by decide +kernel
theorem dX10_laysLink_41 : decode cX10_laysLink 41 = .ok (.iadd, 1) := by decide +kernel
theorem dX10_laysLink_42 : decode cX10_laysLink 42 = .ok (.iload_n 3, 1) := by decide +kernel
theorem dX10_laysLink_43 : decode cX10_laysLink 43 = .ok (.iastore, 1) := by decide +kernel
theorem dX10_laysLink_44 : decode cX10_laysLink 44 = .ok (.aload_n 0, 1) := by decide +kernel
theorem dX10_laysLink_45 : decode cX10_laysLink 45 = .ok (.getfield 7, 3) := by decide +kernel
theorem dX10_laysLink_48 : decode cX10_laysLink 48 = .ok (.iconst 0, 1) := by decide +kernel
theorem dX10_laysLink_49 : decode cX10_laysLink 49 = .ok (.dup2, 1) := by decide +kernel
theorem dX10_laysLink_50 : decode cX10_laysLink 50 = .ok (.iaload, 1) := by decide +kernel
theorem dX10_laysLink_51 : decode cX10_laysLink 51 = .ok (.iconst 1, 1) := by decide +kernel
theorem dX10_laysLink_52 : decode cX10_laysLink 52 = .ok (.iadd, 1) := by decide +kernel
theorem dX10_laysLink_53 : decode cX10_laysLink 53 = .ok (.iastore, 1) := by decide +kernel
theorem dX10_laysLink_54 : decode cX10_laysLink 54 = .ok (.return_, 1) := by decide +kernel
/-! X10_laysNews -/
theorem dX10_laysNews_0 : decode cX10_laysNews 0 = .ok (.sipush 2492, 3) := by decide +kernel
theorem dX10_laysNews_3 : decode cX10_laysNews 3 = .ok (.iconst 5, 1) := by decide +kernel
theorem dX10_laysNews_4 : decode cX10_laysNews 4 = .ok (.aload_n 0, 1) := by decide +kernel
theorem dX10_laysNews_5 : decode cX10_laysNews 5 = .ok (.getfield 7, 3) := by decide +kernel
theorem dX10_laysNews_8 : decode cX10_laysNews 8 = .ok (.bipush 9, 2) := by decide +kernel
theorem dX10_laysNews_10 : decode cX10_laysNews 10 = .ok (.iaload, 1) := by decide +kernel
theorem dX10_laysNews_11 : decode cX10_laysNews 11 = .ok (.imul, 1) := by decide +kernel
theorem dX10_laysNews_12 : decode cX10_laysNews 12 = .ok (.iadd, 1) := by decide +kernel
theorem dX10_laysNews_13 : decode cX10_laysNews 13 = .ok (.istore 6, 2) := by decide +kernel
theorem dX10_laysNews_15 : decode cX10_laysNews 15 = .ok (.aload_n 0, 1) := by decide +kernel
theorem dX10_laysNews_16 : decode cX10_laysNews 16 = .ok (.getfield 7, 3) := by decide +kernel
theorem dX10_laysNews_19 : decode cX10_laysNews 19 = .ok (.iload 6, 2) := by decide +kernel
theorem dX10_laysNews_21 : decode cX10_laysNews 21 = .ok (.iconst 0, 1) := by decide +kernel
theorem dX10_laysNews_22 : decode cX10_laysNews 22 = .ok (.iadd, 1) := by decide +kernel
theorem dX10_laysNews_23 : decode cX10_laysNews 23 = .ok (.iload_n 1, 1) := by decide +kernel
theorem dX10_laysNews_24 : decode cX10_laysNews 24 = .ok (.invokestatic 104, 3) := by decide +kernel
theorem dX10_laysNews_27 : decode cX10_laysNews 27 = .ok (.iastore, 1) := by decide +kernel
theorem dX10_laysNews_28 : decode cX10_laysNews 28 = .ok (.aload_n 0, 1) := by decide +kernel
theorem dX10_laysNews_29 : decode cX10_laysNews 29 = .ok (.getfield 7, 3) := by decide +kernel
theorem dX10_laysNews_32 : decode cX10_laysNews 32 = .ok (.iload 6, 2) := by decide +kernel
theorem dX10_laysNews_34 : decode cX10_laysNews 34 = .ok (.iconst 1, 1) := by decide +kernel
theorem dX10_laysNews_35 : decode cX10_laysNews 35 = .ok (.iadd, 1) := by decide +kernel
theorem dX10_laysNews_36 : decode cX10_laysNews 36 = .ok (.iload_n 2, 1) := by decide +kernel
theorem dX10_laysNews_37 : decode cX10_laysNews 37 = .ok (.iastore, 1) := by decide +kernel
theorem dX10_laysNews_38 : decode cX10_laysNews 38 = .ok (.aload_n 0, 1) := by decide +kernel
theorem dX10_laysNews_39 : decode cX10_laysNews 39 = .ok (.getfield 7, 3) := by decide +kernel
theorem dX10_laysNews_42 : decode cX10_laysNews 42 = .ok (.iload 6, 2) := by decide +kernel
theorem dX10_laysNews_44 : decode cX10_laysNews 44 = .ok (.iconst 2, 1) := by decide +kernel
theorem dX10_laysNews_45 : decode cX10_laysNews 45 = .ok (.iadd, 1) := by decide +kernel
theorem dX10_laysNews_46 : decode cX10_laysNews 46 = .ok (.iload_n 3, 1) := by decide +kernel
theorem dX10_laysNews_47 : decode cX10_laysNews 47 = .ok (.iastore, 1) := by decide +kernel
theorem dX10_laysNews_48 : decode cX10_laysNews 48 = .ok (.aload_n 0, 1) := by decide +kernel
theorem dX10_laysNews_49 : decode cX10_laysNews 49 = .ok (.getfield 7, 3) := by decide +kernel
theorem dX10_laysNews_52 : decode cX10_laysNews 52 = .ok (.iload 6, 2) := by decide +kernel
theorem dX10_laysNews_54 : decode cX10_laysNews 54 = .ok (.iconst 3, 1) := by decide +kernel
theorem dX10_laysNews_55 : decode cX10_laysNews 55 = .ok (.iadd, 1) := by decide +kernel
theorem dX10_laysNews_56 : decode cX10_laysNews 56 = .ok (.iload 4, 2) := by decide +kernel
theorem dX10_laysNews_58 : decode cX10_laysNews 58 = .ok (.iastore, 1) := by decide +kernel
theorem dX10_laysNews_59 : decode cX10_laysNews 59 = .ok (.aload_n 0, 1) := by decide +kernel
theorem dX10_laysNews_60 : decode cX10_laysNews 60 = .ok (.getfield 7, 3) := by decide +kernel
theorem dX10_laysNews_63 : decode cX10_laysNews 63 = .ok (.iload 6, 2) := by decide +kernel
theorem dX10_laysNews_65 : decode cX10_laysNews 65 = .ok (.iconst 4, 1) := by decide +kernel
theorem dX10_laysNews_66 : decode cX10_laysNews 66 = .ok (.iadd, 1) := by decide +kernel
theorem dX10_laysNews_67 : decode cX10_laysNews 67 = .ok (.iload 5, 2) := by decide +kernel
theorem dX10_laysNews_69 : decode cX10_laysNews 69 = .ok (.iastore, 1) := by decide +kernel
theorem dX10_laysNews_70 : decode cX10_laysNews 70 = .ok (.aload_n 0, 1) := by decide +kernel
theorem dX10_laysNews_71 : decode cX10_laysNews 71 = .ok (.getfield 7, 3) := by decide +kernel
theorem dX10_laysNews_74 : decode cX10_laysNews 74 = .ok (.bipush 9, 2) := by decide +kernel
theorem dX10_laysNews_76 : decode cX10_laysNews 76 = .ok (.dup2, 1) := by decide +kernel
theorem dX10_laysNews_77 : decode cX10_laysNews 77 = .ok (.iaload, 1) := by decide +kernel
theorem dX10_laysNews_78 : decode cX10_laysNews 78 = .ok (.iconst 1, 1) := by decide +kernel
theorem dX10_laysNews_79 : decode cX10_laysNews 79 = .ok (.iadd, 1) := by decide +kernel
theorem dX10_laysNews_80 : decode cX10_laysNews 80 = .ok (.iastore, 1) := by decide +kernel
theorem dX10_laysNews_81 : decode cX10_laysNews 81 = .ok (.return_, 1) := by decide +kernel
/-! X10_laysWhole -/
theorem dX10_laysWhole_0 : decode cX10_laysWhole 0 = .ok (.aload_n 0, 1) := by decide +kernel
theorem dX10_laysWhole_1 : decode cX10_laysWhole 1 = .ok (.getfield 49, 3) := by decide +kernel
theorem dX10_laysWhole_4 : decode cX10_laysWhole 4 = .ok (.iconst 0, 1) := by decide +kernel
theorem dX10_laysWhole_5 : decode cX10_laysWhole 5 = .ok (.iload_n 1, 1) := by decide +kernel
theorem dX10_laysWhole_6 : decode cX10_laysWhole 6 = .ok (.iastore, 1) := by decide +kernel
theorem dX10_laysWhole_7 : decode cX10_laysWhole 7 = .ok (.aload_n 0, 1) := by decide +kernel
theorem dX10_laysWhole_8 : decode cX10_laysWhole 8 = .ok (.iconst 1, 1) := by decide +kernel
theorem dX10_laysWhole_9 : decode cX10_laysWhole 9 = .ok (.putfield 426, 3) := by decide +kernel
theorem dX10_laysWhole_12 : decode cX10_laysWhole 12 = .ok (.return_, 1) := by decide +kernel
/-! X10_line -/
theorem dX10_line_0 : decode cX10_line 0 = .ok (.aload_n 0, 1) := by decide +kernel
theorem dX10_line_1 : decode cX10_line 1 = .ok (.ldc_w 270, 3) := by decide +kernel
theorem dX10_line_4 : decode cX10_line 4 = .ok (.invokevirtual 266, 3) := by decide +kernel
theorem dX10_line_7 : decode cX10_line 7 = .ok (.ifCond .eq 10, 3) := by decide +kernel
theorem dX10_line_10 : decode cX10_line 10 = .ok (.aload_n 0, 1) := by decide +kernel
theorem dX10_line_11 : decode cX10_line 11 = .ok (.invokevirtual 272, 3) := by decide +kernel
theorem dX10_line_14 : decode cX10_line 14 = .ok (.goto 67, 3) := by decide +kernel
theorem dX10_line_17 : decode cX10_line 17 = .ok (.aload_n 0, 1) := by decide +kernel
theorem dX10_line_18 : decode cX10_line 18 = .ok (.ldc_w 275, 3) := by decide +kernel
theorem dX10_line_21 : decode cX10_line 21 = .ok (.invokevirtual 266, 3) := by decide +kernel
theorem dX10_line_24 : decode cX10_line 24 = .ok (.ifCond .eq 15, 3) := by decide +kernel
theorem dX10_line_27 : decode cX10_line 27 = .ok (.aload_n 0, 1) := by decide +kernel
theorem dX10_line_28 : decode cX10_line 28 = .ok (.iconst 3, 1) := by decide +kernel
theorem dX10_line_29 : decode cX10_line 29 = .ok (.iconst 1, 1) := by decide +kernel
theorem dX10_line_30 : decode cX10_line 30 = .ok (.sipush 200, 3) := by decide +kernel
theorem dX10_line_33 : decode cX10_line 33 = .ok (.invokevirtual 277, 3) := by decide +kernel
theorem dX10_line_36 : decode cX10_line 36 = .ok (.goto 45, 3) := by decide +kernel
theorem dX10_line_39 : decode cX10_line 39 = .ok (.aload_n 0, 1) := by decide +kernel
theorem dX10_line_40 : decode cX10_line 40 = .ok (.ldc_w 280, 3) := by decide +kernel
theorem dX10_line_43 : decode cX10_line 43 = .ok (.invokevirtual 266, 3) := by decide +kernel
theorem dX10_line_46 : decode cX10_line 46 = .ok (.ifCond .eq 13, 3) := by decide +kernel
theorem dX10_line_49 : decode cX10_line 49 = .ok (.aload_n 0, 1) := by decide +kernel
theorem dX10_line_50 : decode cX10_line 50 = .ok (.iconst 4, 1) := by decide +kernel
theorem dX10_line_51 : decode cX10_line 51 = .ok (.iconst 0, 1) := by decide +kernel
theorem dX10_line_52 : decode cX10_line 52 = .ok (.iconst 2, 1) := by decide +kernel
theorem dX10_line_53 : decode cX10_line 53 = .ok (.invokevirtual 277, 3) := by decide +kernel
theorem dX10_line_56 : decode cX10_line 56 = .ok (.goto 25, 3) := by decide +kernel
theorem dX10_line_59 : decode cX10_line 59 = .ok (.aload_n 0, 1) := by decide +kernel
theorem dX10_line_60 : decode cX10_line 60 = .ok (.ldc_w 282, 3) := by decide +kernel
theorem dX10_line_63 : decode cX10_line 63 = .ok (.invokevirtual 266, 3) := by decide +kernel
theorem dX10_line_66 : decode cX10_line 66 = .ok (.ifCond .eq 10, 3) := by decide +kernel
theorem dX10_line_69 : decode cX10_line 69 = .ok (.aload_n 0, 1) := by decide +kernel
theorem dX10_line_70 : decode cX10_line 70 = .ok (.invokevirtual 284, 3) := by decide +kernel
theorem dX10_line_73 : decode cX10_line 73 = .ok (.goto 8, 3) := by decide +kernel
theorem dX10_line_76 : decode cX10_line 76 = .ok (.aload_n 0, 1) := by decide +kernel
theorem dX10_line_77 : decode cX10_line 77 = .ok (.iconst 1, 1) := by decide +kernel
theorem dX10_line_78 : decode cX10_line 78 = .ok (.invokevirtual 223, 3) := by decide +kernel
theorem dX10_line_81 : decode cX10_line 81 = .ok (.return_, 1) := by decide +kernel
/-! X10_link -/
theorem dX10_link_0 : decode cX10_link 0 = .ok (.aload_n 0, 1) := by decide +kernel
theorem dX10_link_1 : decode cX10_link 1 = .ok (.aload_n 0, 1) := by decide +kernel
theorem dX10_link_2 : decode cX10_link 2 = .ok (.iload_n 1, 1) := by decide +kernel
theorem dX10_link_3 : decode cX10_link 3 = .ok (.invokevirtual 358, 3) := by decide +kernel
theorem dX10_link_6 : decode cX10_link 6 = .ok (.iload_n 2, 1) := by decide +kernel
theorem dX10_link_7 : decode cX10_link 7 = .ok (.i2l, 1) := by decide +kernel
theorem dX10_link_8 : decode cX10_link 8 = .ok (.lconst 0, 1) := by decide +kernel
theorem dX10_link_9 : decode cX10_link 9 = .ok (.ldc2_w 384, 3) := by decide +kernel
theorem dX10_link_12 : decode cX10_link 12 = .ok (.invokestatic 65, 3) := by decide +kernel
theorem dX10_link_15 : decode cX10_link 15 = .ok (.invokevirtual 386, 3) := by decide +kernel
theorem dX10_link_18 : decode cX10_link 18 = .ok (.ifCond .ne 5, 3) := by decide +kernel
theorem dX10_link_21 : decode cX10_link 21 = .ok (.iconst 0, 1) := by decide +kernel
theorem dX10_link_22 : decode cX10_link 22 = .ok (.ireturn, 1) := by decide +kernel
theorem dX10_link_23 : decode cX10_link 23 = .ok (.iload_n 2, 1) := by decide +kernel
theorem dX10_link_24 : decode cX10_link 24 = .ok (.iconst 4, 1) := by decide +kernel
theorem dX10_link_25 : decode cX10_link 25 = .ok (.if_icmp .ne 11, 3) := by decide +kernel
theorem dX10_link_28 : decode cX10_link 28 = .ok (.aload_n 0, 1) := by decide +kernel
theorem dX10_link_29 : decode cX10_link 29 = .ok (.iload_n 1, 1) := by decide +kernel
theorem dX10_link_30 : decode cX10_link 30 = .ok (.invokevirtual 390, 3) := by decide +kernel
theorem dX10_link_33 : decode cX10_link 33 = .ok (.goto 20, 3) := by decide +kernel
theorem dX10_link_36 : decode cX10_link 36 = .ok (.aload_n 0, 1) := by decide +kernel
theorem dX10_link_37 : decode cX10_link 37 = .ok (.iload_n 1, 1) := by decide +kernel
theorem dX10_link_38 : decode cX10_link 38 = .ok (.iload_n 2, 1) := by decide +kernel
theorem dX10_link_39 : decode cX10_link 39 = .ok (.iconst 4, 1) := by decide +kernel
theorem dX10_link_40 : decode cX10_link 40 = .ok (.if_icmp .ge 7, 3) := by decide +kernel
theorem dX10_link_43 : decode cX10_link 43 = .ok (.iload_n 2, 1) := by decide +kernel
theorem dX10_link_44 : decode cX10_link 44 = .ok (.goto 6, 3) := by decide +kernel
theorem dX10_link_47 : decode cX10_link 47 = .ok (.iload_n 2, 1) := by decide +kernel
theorem dX10_link_48 : decode cX10_link 48 = .ok (.iconst 1, 1) := by decide +kernel
theorem dX10_link_49 : decode cX10_link 49 = .ok (.isub, 1) := by decide +kernel
theorem dX10_link_50 : decode cX10_link 50 = .ok (.invokevirtual 73, 3) := by decide +kernel
theorem dX10_link_53 : decode cX10_link 53 = .ok (.ireturn, 1) := by decide +kernel
/-! X10_linkLine -/
theorem dX10_linkLine_0 : decode cX10_linkLine 0 = .ok (.aload_n 0, 1) := by decide +kernel
theorem dX10_linkLine_1 : decode cX10_linkLine 1 = .ok (.aload_n 0, 1) := by decide +kernel
theorem dX10_linkLine_2 : decode cX10_linkLine 2 = .ok (.getfield 7, 3) := by decide +kernel
theorem dX10_linkLine_5 : decode cX10_linkLine 5 = .ok (.iconst 0, 1) := by decide +kernel
theorem dX10_linkLine_6 : decode cX10_linkLine 6 = .ok (.iaload, 1) := by decide +kernel
theorem dX10_linkLine_7 : decode cX10_linkLine 7 = .ok (.bipush 6, 2) := by decide +kernel
theorem dX10_linkLine_9 : decode cX10_linkLine 9 = .ok (.if_icmp .ge 7, 3) := by decide +kernel
theorem dX10_linkLine_12 : decode cX10_linkLine 12 = .ok (.iconst 1, 1) := by decide +kernel
theorem dX10_linkLine_13 : decode cX10_linkLine 13 = .ok (.goto 4, 3) := by decide +kernel
theorem dX10_linkLine_16 : decode cX10_linkLine 16 = .ok (.iconst 0, 1) := by decide +kernel
theorem dX10_linkLine_17 : decode cX10_linkLine 17 = .ok (.iconst 4, 1) := by decide +kernel
theorem dX10_linkLine_18 : decode cX10_linkLine 18 = .ok (.invokevirtual 245, 3) := by decide +kernel
theorem dX10_linkLine_21 : decode cX10_linkLine 21 = .ok (.aload_n 0, 1) := by decide +kernel
theorem dX10_linkLine_22 : decode cX10_linkLine 22 = .ok (.bipush 28, 2) := by decide +kernel
theorem dX10_linkLine_24 : decode cX10_linkLine 24 = .ok (.sipush 1500, 3) := by decide +kernel
theorem dX10_linkLine_27 : decode cX10_linkLine 27 = .ok (.invokevirtual 255, 3) := by decide +kernel
theorem dX10_linkLine_30 : decode cX10_linkLine 30 = .ok (.istore_n 1, 1) := by decide +kernel
theorem dX10_linkLine_31 : decode cX10_linkLine 31 = .ok (.aload_n 0, 1) := by decide +kernel
theorem dX10_linkLine_32 : decode cX10_linkLine 32 = .ok (.iconst 1, 1) := by decide +kernel
theorem dX10_linkLine_33 : decode cX10_linkLine 33 = .ok (.bipush 50, 2) := by decide +kernel
theorem dX10_linkLine_35 : decode cX10_linkLine 35 = .ok (.invokevirtual 255, 3) := by decide +kernel
theorem dX10_linkLine_38 : decode cX10_linkLine 38 = .ok (.istore_n 2, 1) := by decide +kernel
theorem dX10_linkLine_39 : decode cX10_linkLine 39 = .ok (.aload_n 0, 1) := by decide +kernel
theorem dX10_linkLine_40 : decode cX10_linkLine 40 = .ok (.iconst 0, 1) := by decide +kernel
theorem dX10_linkLine_41 : decode cX10_linkLine 41 = .ok (.bipush 99, 2) := by decide +kernel
theorem dX10_linkLine_43 : decode cX10_linkLine 43 = .ok (.invokevirtual 255, 3) := by decide +kernel
theorem dX10_linkLine_46 : decode cX10_linkLine 46 = .ok (.istore_n 3, 1) := by decide +kernel
theorem dX10_linkLine_47 : decode cX10_linkLine 47 = .ok (.aload_n 0, 1) := by decide +kernel
theorem dX10_linkLine_48 : decode cX10_linkLine 48 = .ok (.getfield 217, 3) := by decide +kernel
theorem dX10_linkLine_51 : decode cX10_linkLine 51 = .ok (.ifCond .ne 10, 3) := by decide +kernel
theorem dX10_linkLine_54 : decode cX10_linkLine 54 = .ok (.aload_n 0, 1) := by decide +kernel
theorem dX10_linkLine_55 : decode cX10_linkLine 55 = .ok (.iload_n 1, 1) := by decide +kernel
theorem dX10_linkLine_56 : decode cX10_linkLine 56 = .ok (.iload_n 2, 1) := by decide +kernel
theorem dX10_linkLine_57 : decode cX10_linkLine 57 = .ok (.iload_n 3, 1) := by decide +kernel
theorem dX10_linkLine_58 : decode cX10_linkLine 58 = .ok (.invokevirtual 58, 3) := by decide +kernel
theorem dX10_linkLine_61 : decode cX10_linkLine 61 = .ok (.return_, 1) := by decide +kernel
/-! X10_meanTries -/
theorem dX10_meanTries_0 : decode cX10_meanTries 0 = .ok (.aload_n 0, 1) := by decide +kernel
theorem dX10_meanTries_1 : decode cX10_meanTries 1 = .ok (.iconst 0, 1) := by decide +kernel
theorem dX10_meanTries_2 : decode cX10_meanTries 2 = .ok (.putfield 62, 3) := by decide +kernel
theorem dX10_meanTries_5 : decode cX10_meanTries 5 = .ok (.iconst 0, 1) := by decide +kernel
theorem dX10_meanTries_6 : decode cX10_meanTries 6 = .ok (.istore_n 1, 1) := by decide +kernel
theorem dX10_meanTries_7 : decode cX10_meanTries 7 = .ok (.iconst 0, 1) := by decide +kernel
theorem dX10_meanTries_8 : decode cX10_meanTries 8 = .ok (.istore_n 2, 1) := by decide +kernel
theorem dX10_meanTries_9 : decode cX10_meanTries 9 = .ok (.iload_n 2, 1) := by decide +kernel
theorem dX10_meanTries_10 : decode cX10_meanTries 10 = .ok (.aload_n 0, 1) := by decide +kernel
theorem dX10_meanTries_11 : decode cX10_meanTries 11 = .ok (.getfield 7, 3) := by decide +kernel
theorem dX10_meanTries_14 : decode cX10_meanTries 14 = .ok (.iconst 1, 1) := by decide +kernel
theorem dX10_meanTries_15 : decode cX10_meanTries 15 = .ok (.iaload, 1) := by decide +kernel
theorem dX10_meanTries_16 : decode cX10_meanTries 16 = .ok (.if_icmp .ge 18, 3) := by decide +kernel
theorem dX10_meanTries_19 : decode cX10_meanTries 19 = .ok (.iload_n 1, 1) := by decide +kernel
theorem dX10_meanTries_20 : decode cX10_meanTries 20 = .ok (.aload_n 0, 1) := by decide +kernel
theorem dX10_meanTries_21 : decode cX10_meanTries 21 = .ok (.iload_n 2, 1) := by decide +kernel
theorem dX10_meanTries_22 : decode cX10_meanTries 22 = .ok (.iconst 3, 1) := by decide +kernel
theorem dX10_meanTries_23 : decode cX10_meanTries 23 = .ok (.invokevirtual 69, 3) := by decide +kernel
theorem dX10_meanTries_26 : decode cX10_meanTries 26 = .ok (.iadd, 1) := by decide +kernel
theorem dX10_meanTries_27 : decode cX10_meanTries 27 = .ok (.istore_n 1, 1) := by decide +kernel
theorem dX10_meanTries_28 : decode cX10_meanTries 28 = .ok (.iinc 2 1, 3) := by decide +kernel
theorem dX10_meanTries_31 : decode cX10_meanTries 31 = .ok (.goto (-22), 3) := by decide +kernel
theorem dX10_meanTries_34 : decode cX10_meanTries 34 = .ok (.aload_n 0, 1) := by decide +kernel
theorem dX10_meanTries_35 : decode cX10_meanTries 35 = .ok (.getfield 7, 3) := by decide +kernel
theorem dX10_meanTries_38 : decode cX10_meanTries 38 = .ok (.iconst 1, 1) := by decide +kernel
theorem dX10_meanTries_39 : decode cX10_meanTries 39 = .ok (.iaload, 1) := by decide +kernel
theorem dX10_meanTries_40 : decode cX10_meanTries 40 = .ok (.ifCond .ne 7, 3) := by decide +kernel
theorem dX10_meanTries_43 : decode cX10_meanTries 43 = .ok (.dconst 0, 1) := by decide +kernel
theorem dX10_meanTries_44 : decode cX10_meanTries 44 = .ok (.goto 13, 3) := by decide +kernel
theorem dX10_meanTries_47 : decode cX10_meanTries 47 = .ok (.iload_n 1, 1) := by decide +kernel
theorem dX10_meanTries_48 : decode cX10_meanTries 48 = .ok (.i2d, 1) := by decide +kernel
theorem dX10_meanTries_49 : decode cX10_meanTries 49 = .ok (.aload_n 0, 1) := by decide +kernel
theorem dX10_meanTries_50 : decode cX10_meanTries 50 = .ok (.getfield 7, 3) := by decide +kernel
theorem dX10_meanTries_53 : decode cX10_meanTries 53 = .ok (.iconst 1, 1) := by decide +kernel
theorem dX10_meanTries_54 : decode cX10_meanTries 54 = .ok (.iaload, 1) := by decide +kernel
theorem dX10_meanTries_55 : decode cX10_meanTries 55 = .ok (.i2d, 1) := by decide +kernel
theorem dX10_meanTries_56 : decode cX10_meanTries 56 = .ok (.ddiv, 1) := by decide +kernel
theorem dX10_meanTries_57 : decode cX10_meanTries 57 = .ok (.dreturn, 1) := by decide +kernel
/-! X10_missing -/
theorem dX10_missing_0 : decode cX10_missing 0 = .ok (.aload_n 0, 1) := by decide +kernel
theorem dX10_missing_1 : decode cX10_missing 1 = .ok (.aload_n 0, 1) := by decide +kernel
theorem dX10_missing_2 : decode cX10_missing 2 = .ok (.iload_n 1, 1) := by decide +kernel
theorem dX10_missing_3 : decode cX10_missing 3 = .ok (.invokevirtual 342, 3) := by decide +kernel
theorem dX10_missing_6 : decode cX10_missing 6 = .ok (.invokevirtual 201, 3) := by decide +kernel
theorem dX10_missing_9 : decode cX10_missing 9 = .ok (.ifCond .ne 5, 3) := by decide +kernel
theorem dX10_missing_12 : decode cX10_missing 12 = .ok (.iconst 0, 1) := by decide +kernel
theorem dX10_missing_13 : decode cX10_missing 13 = .ok (.ireturn, 1) := by decide +kernel
theorem dX10_missing_14 : decode cX10_missing 14 = .ok (.aload_n 0, 1) := by decide +kernel
theorem dX10_missing_15 : decode cX10_missing 15 = .ok (.iload_n 1, 1) := by decide +kernel
theorem dX10_missing_16 : decode cX10_missing 16 = .ok (.invokevirtual 137, 3) := by decide +kernel
theorem dX10_missing_19 : decode cX10_missing 19 = .ok (.istore_n 2, 1) := by decide +kernel
theorem dX10_missing_20 : decode cX10_missing 20 = .ok (.iload_n 2, 1) := by decide +kernel
theorem dX10_missing_21 : decode cX10_missing 21 = .ok (.iconst (-1), 1) := by decide +kernel
theorem dX10_missing_22 : decode cX10_missing 22 = .ok (.if_icmp .eq 13, 3) := by decide +kernel
theorem dX10_missing_25 : decode cX10_missing 25 = .ok (.aload_n 0, 1) := by decide +kernel
theorem dX10_missing_26 : decode cX10_missing 26 = .ok (.iload_n 2, 1) := by decide +kernel
theorem dX10_missing_27 : decode cX10_missing 27 = .ok (.iconst 2, 1) := by decide +kernel
theorem dX10_missing_28 : decode cX10_missing 28 = .ok (.invokevirtual 134, 3) := by decide +kernel
theorem dX10_missing_31 : decode cX10_missing 31 = .ok (.iconst (-1), 1) := by decide +kernel
theorem dX10_missing_32 : decode cX10_missing 32 = .ok (.if_icmp .ne 7, 3) := by decide +kernel
theorem dX10_missing_35 : decode cX10_missing 35 = .ok (.iconst (-1), 1) := by decide +kernel
theorem dX10_missing_36 : decode cX10_missing 36 = .ok (.goto 8, 3) := by decide +kernel
theorem dX10_missing_39 : decode cX10_missing 39 = .ok (.aload_n 0, 1) := by decide +kernel
theorem dX10_missing_40 : decode cX10_missing 40 = .ok (.iload_n 2, 1) := by decide +kernel
theorem dX10_missing_41 : decode cX10_missing 41 = .ok (.invokevirtual 445, 3) := by decide +kernel
theorem dX10_missing_44 : decode cX10_missing 44 = .ok (.ireturn, 1) := by decide +kernel
/-! X10_missingIn -/
theorem dX10_missingIn_0 : decode cX10_missingIn 0 = .ok (.iconst 0, 1) := by decide +kernel
theorem dX10_missingIn_1 : decode cX10_missingIn 1 = .ok (.istore_n 2, 1) := by decide +kernel
theorem dX10_missingIn_2 : decode cX10_missingIn 2 = .ok (.iconst 0, 1) := by decide +kernel
theorem dX10_missingIn_3 : decode cX10_missingIn 3 = .ok (.istore_n 3, 1) := by decide +kernel
theorem dX10_missingIn_4 : decode cX10_missingIn 4 = .ok (.iload_n 3, 1) := by decide +kernel
theorem dX10_missingIn_5 : decode cX10_missingIn 5 = .ok (.aload_n 0, 1) := by decide +kernel
theorem dX10_missingIn_6 : decode cX10_missingIn 6 = .ok (.iload_n 1, 1) := by decide +kernel
theorem dX10_missingIn_7 : decode cX10_missingIn 7 = .ok (.iconst 2, 1) := by decide +kernel
theorem dX10_missingIn_8 : decode cX10_missingIn 8 = .ok (.invokevirtual 134, 3) := by decide +kernel
theorem dX10_missingIn_11 : decode cX10_missingIn 11 = .ok (.if_icmp .ge 30, 3) := by decide +kernel
theorem dX10_missingIn_14 : decode cX10_missingIn 14 = .ok (.iload_n 2, 1) := by decide +kernel
theorem dX10_missingIn_15 : decode cX10_missingIn 15 = .ok (.aload_n 0, 1) := by decide +kernel
theorem dX10_missingIn_16 : decode cX10_missingIn 16 = .ok (.iload_n 1, 1) := by decide +kernel
theorem dX10_missingIn_17 : decode cX10_missingIn 17 = .ok (.iload_n 3, 1) := by decide +kernel
theorem dX10_missingIn_18 : decode cX10_missingIn 18 = .ok (.invokevirtual 153, 3) := by decide +kernel
theorem dX10_missingIn_21 : decode cX10_missingIn 21 = .ok (.iconst (-1), 1) := by decide +kernel
theorem dX10_missingIn_22 : decode cX10_missingIn 22 = .ok (.if_icmp .ne 7, 3) := by decide +kernel
theorem dX10_missingIn_25 : decode cX10_missingIn 25 = .ok (.iconst 1, 1) := by decide +kernel
theorem dX10_missingIn_26 : decode cX10_missingIn 26 = .ok (.goto 4, 3) := by decide +kernel
theorem dX10_missingIn_29 : decode cX10_missingIn 29 = .ok (.iconst 0, 1) := by decide +kernel
theorem dX10_missingIn_30 : decode cX10_missingIn 30 = .ok (.invokestatic 104, 3) := by decide +kernel
theorem dX10_missingIn_33 : decode cX10_missingIn 33 = .ok (.iadd, 1) := by decide +kernel
theorem dX10_missingIn_34 : decode cX10_missingIn 34 = .ok (.istore_n 2, 1) := by decide +kernel
theorem dX10_missingIn_35 : decode cX10_missingIn 35 = .ok (.iinc 3 1, 3) := by decide +kernel
theorem dX10_missingIn_38 : decode cX10_missingIn 38 = .ok (.goto (-34), 3) := by decide +kernel
theorem dX10_missingIn_41 : decode cX10_missingIn 41 = .ok (.iload_n 2, 1) := by decide +kernel
theorem dX10_missingIn_42 : decode cX10_missingIn 42 = .ok (.ireturn, 1) := by decide +kernel
/-! X10_must -/
theorem dX10_must_0 : decode cX10_must 0 = .ok (.iload_n 1, 1) := by decide +kernel
theorem dX10_must_1 : decode cX10_must 1 = .ok (.ifCond .ne 8, 3) := by decide +kernel
theorem dX10_must_4 : decode cX10_must 4 = .ok (.aload_n 0, 1) := by decide +kernel
theorem dX10_must_5 : decode cX10_must 5 = .ok (.iload_n 2, 1) := by decide +kernel
theorem dX10_must_6 : decode cX10_must 6 = .ok (.invokevirtual 223, 3) := by decide +kernel
theorem dX10_must_9 : decode cX10_must 9 = .ok (.return_, 1) := by decide +kernel
/-! X10_narrowest -/
theorem dX10_narrowest_0 : decode cX10_narrowest 0 = .ok (.aload_n 0, 1) := by decide +kernel
theorem dX10_narrowest_1 : decode cX10_narrowest 1 = .ok (.iconst 0, 1) := by decide +kernel
theorem dX10_narrowest_2 : decode cX10_narrowest 2 = .ok (.putfield 62, 3) := by decide +kernel
theorem dX10_narrowest_5 : decode cX10_narrowest 5 = .ok (.sipush 1500, 3) := by decide +kernel
theorem dX10_narrowest_8 : decode cX10_narrowest 8 = .ok (.istore_n 1, 1) := by decide +kernel
theorem dX10_narrowest_9 : decode cX10_narrowest 9 = .ok (.iconst 0, 1) := by decide +kernel
theorem dX10_narrowest_10 : decode cX10_narrowest 10 = .ok (.istore_n 2, 1) := by decide +kernel
theorem dX10_narrowest_11 : decode cX10_narrowest 11 = .ok (.iload_n 2, 1) := by decide +kernel
theorem dX10_narrowest_12 : decode cX10_narrowest 12 = .ok (.aload_n 0, 1) := by decide +kernel
theorem dX10_narrowest_13 : decode cX10_narrowest 13 = .ok (.getfield 7, 3) := by decide +kernel
theorem dX10_narrowest_16 : decode cX10_narrowest 16 = .ok (.iconst 0, 1) := by decide +kernel
theorem dX10_narrowest_17 : decode cX10_narrowest 17 = .ok (.iaload, 1) := by decide +kernel
theorem dX10_narrowest_18 : decode cX10_narrowest 18 = .ok (.if_icmp .ge 20, 3) := by decide +kernel
theorem dX10_narrowest_21 : decode cX10_narrowest 21 = .ok (.iload_n 1, 1) := by decide +kernel
theorem dX10_narrowest_22 : decode cX10_narrowest 22 = .ok (.aload_n 0, 1) := by decide +kernel
theorem dX10_narrowest_23 : decode cX10_narrowest 23 = .ok (.iload_n 2, 1) := by decide +kernel
theorem dX10_narrowest_24 : decode cX10_narrowest 24 = .ok (.iconst 0, 1) := by decide +kernel
theorem dX10_narrowest_25 : decode cX10_narrowest 25 = .ok (.invokevirtual 73, 3) := by decide +kernel
theorem dX10_narrowest_28 : decode cX10_narrowest 28 = .ok (.invokestatic 423, 3) := by decide +kernel
theorem dX10_narrowest_31 : decode cX10_narrowest 31 = .ok (.istore_n 1, 1) := by decide +kernel
theorem dX10_narrowest_32 : decode cX10_narrowest 32 = .ok (.iinc 2 1, 3) := by decide +kernel
theorem dX10_narrowest_35 : decode cX10_narrowest 35 = .ok (.goto (-24), 3) := by decide +kernel
theorem dX10_narrowest_38 : decode cX10_narrowest 38 = .ok (.iload_n 1, 1) := by decide +kernel
theorem dX10_narrowest_39 : decode cX10_narrowest 39 = .ok (.ireturn, 1) := by decide +kernel
/-! X10_newsComes -/
theorem dX10_newsComes_0 : decode cX10_newsComes 0 = .ok (.aload_n 0, 1) := by decide +kernel
theorem dX10_newsComes_1 : decode cX10_newsComes 1 = .ok (.iload_n 1, 1) := by decide +kernel
theorem dX10_newsComes_2 : decode cX10_newsComes 2 = .ok (.iconst 0, 1) := by decide +kernel
theorem dX10_newsComes_3 : decode cX10_newsComes 3 = .ok (.invokevirtual 108, 3) := by decide +kernel
theorem dX10_newsComes_6 : decode cX10_newsComes 6 = .ok (.iconst 1, 1) := by decide +kernel
theorem dX10_newsComes_7 : decode cX10_newsComes 7 = .ok (.if_icmp .ne 7, 3) := by decide +kernel
theorem dX10_newsComes_10 : decode cX10_newsComes 10 = .ok (.iconst 1, 1) := by decide +kernel
theorem dX10_newsComes_11 : decode cX10_newsComes 11 = .ok (.goto 4, 3) := by decide +kernel
theorem dX10_newsComes_14 : decode cX10_newsComes 14 = .ok (.iconst 0, 1) := by decide +kernel
theorem dX10_newsComes_15 : decode cX10_newsComes 15 = .ok (.istore_n 2, 1) := by decide +kernel
theorem dX10_newsComes_16 : decode cX10_newsComes 16 = .ok (.aload_n 0, 1) := by decide +kernel
theorem dX10_newsComes_17 : decode cX10_newsComes 17 = .ok (.iload_n 1, 1) := by decide +kernel
theorem dX10_newsComes_18 : decode cX10_newsComes 18 = .ok (.iconst 2, 1) := by decide +kernel
theorem dX10_newsComes_19 : decode cX10_newsComes 19 = .ok (.invokevirtual 108, 3) := by decide +kernel
theorem dX10_newsComes_22 : decode cX10_newsComes 22 = .ok (.istore_n 3, 1) := by decide +kernel
theorem dX10_newsComes_23 : decode cX10_newsComes 23 = .ok (.aload_n 0, 1) := by decide +kernel
theorem dX10_newsComes_24 : decode cX10_newsComes 24 = .ok (.iload_n 1, 1) := by decide +kernel
theorem dX10_newsComes_25 : decode cX10_newsComes 25 = .ok (.iconst 3, 1) := by decide +kernel
theorem dX10_newsComes_26 : decode cX10_newsComes 26 = .ok (.invokevirtual 108, 3) := by decide +kernel
theorem dX10_newsComes_29 : decode cX10_newsComes 29 = .ok (.istore 4, 2) := by decide +kernel
theorem dX10_newsComes_31 : decode cX10_newsComes 31 = .ok (.aload_n 0, 1) := by decide +kernel
theorem dX10_newsComes_32 : decode cX10_newsComes 32 = .ok (.iload_n 1, 1) := by decide +kernel
theorem dX10_newsComes_33 : decode cX10_newsComes 33 = .ok (.iconst 4, 1) := by decide +kernel
theorem dX10_newsComes_34 : decode cX10_newsComes 34 = .ok (.invokevirtual 108, 3) := by decide +kernel
theorem dX10_newsComes_37 : decode cX10_newsComes 37 = .ok (.istore 5, 2) := by decide +kernel
theorem dX10_newsComes_39 : decode cX10_newsComes 39 = .ok (.aload_n 0, 1) := by decide +kernel
theorem dX10_newsComes_40 : decode cX10_newsComes 40 = .ok (.getfield 7, 3) := by decide +kernel
theorem dX10_newsComes_43 : decode cX10_newsComes 43 = .ok (.bipush 9, 2) := by decide +kernel
theorem dX10_newsComes_45 : decode cX10_newsComes 45 = .ok (.dup2, 1) := by decide +kernel
theorem dX10_newsComes_46 : decode cX10_newsComes 46 = .ok (.iaload, 1) := by decide +kernel
theorem dX10_newsComes_47 : decode cX10_newsComes 47 = .ok (.iconst 1, 1) := by decide +kernel
theorem dX10_newsComes_48 : decode cX10_newsComes 48 = .ok (.isub, 1) := by decide +kernel
theorem dX10_newsComes_49 : decode cX10_newsComes 49 = .ok (.iastore, 1) := by decide +kernel
theorem dX10_newsComes_50 : decode cX10_newsComes 50 = .ok (.sipush 2492, 3) := by decide +kernel
theorem dX10_newsComes_53 : decode cX10_newsComes 53 = .ok (.iconst 5, 1) := by decide +kernel
theorem dX10_newsComes_54 : decode cX10_newsComes 54 = .ok (.iload_n 1, 1) := by decide +kernel
theorem dX10_newsComes_55 : decode cX10_newsComes 55 = .ok (.imul, 1) := by decide +kernel
theorem dX10_newsComes_56 : decode cX10_newsComes 56 = .ok (.iadd, 1) := by decide +kernel
theorem dX10_newsComes_57 : decode cX10_newsComes 57 = .ok (.istore 6, 2) := by decide +kernel
theorem dX10_newsComes_59 : decode cX10_newsComes 59 = .ok (.iload 6, 2) := by decide +kernel
theorem dX10_newsComes_61 : decode cX10_newsComes 61 = .ok (.sipush 2492, 3) := by decide +kernel
theorem dX10_newsComes_64 : decode cX10_newsComes 64 = .ok (.iconst 5, 1) := by decide +kernel
theorem dX10_newsComes_65 : decode cX10_newsComes 65 = .ok (.aload_n 0, 1) := by decide +kernel
theorem dX10_newsComes_66 : decode cX10_newsComes 66 = .ok (.getfield 7, 3) := by decide +kernel
theorem dX10_newsComes_69 : decode cX10_newsComes 69 = .ok (.bipush 9, 2) := by decide +kernel
theorem dX10_newsComes_71 : decode cX10_newsComes 71 = .ok (.iaload, 1) := by decide +kernel
theorem dX10_newsComes_72 : decode cX10_newsComes 72 = .ok (.imul, 1) := by decide +kernel
theorem dX10_newsComes_73 : decode cX10_newsComes 73 = .ok (.iadd, 1) := by decide +kernel
theorem dX10_newsComes_74 : decode cX10_newsComes 74 = .ok (.if_icmp .ge 25, 3) := by decide +kernel
theorem dX10_newsComes_77 : decode cX10_newsComes 77 = .ok (.aload_n 0, 1) := by decide +kernel
theorem dX10_newsComes_78 : decode cX10_newsComes 78 = .ok (.getfield 7, 3) := by decide +kernel
theorem dX10_newsComes_81 : decode cX10_newsComes 81 = .ok (.iload 6, 2) := by decide +kernel
theorem dX10_newsComes_83 : decode cX10_newsComes 83 = .ok (.aload_n 0, 1) := by decide +kernel
theorem dX10_newsComes_84 : decode cX10_newsComes 84 = .ok (.getfield 7, 3) := by decide +kernel
theorem dX10_newsComes_87 : decode cX10_newsComes 87 = .ok (.iload 6, 2) := by decide +kernel
theorem dX10_newsComes_89 : decode cX10_newsComes 89 = .ok (.iconst 5, 1) := by decide +kernel
theorem dX10_newsComes_90 : decode cX10_newsComes 90 = .ok (.iadd, 1) := by decide +kernel
theorem dX10_newsComes_91 : decode cX10_newsComes 91 = .ok (.iaload, 1) := by decide +kernel
theorem dX10_newsComes_92 : decode cX10_newsComes 92 = .ok (.iastore, 1) := by decide +kernel
theorem dX10_newsComes_93 : decode cX10_newsComes 93 = .ok (.iinc 6 1, 3) := by decide +kernel
theorem dX10_newsComes_96 : decode cX10_newsComes 96 = .ok (.goto (-37), 3) := by decide +kernel
theorem dX10_newsComes_99 : decode cX10_newsComes 99 = .ok (.iload_n 2, 1) := by decide +kernel
theorem dX10_newsComes_100 : decode cX10_newsComes 100 = .ok (.ifCond .eq 12, 3) := by decide +kernel
theorem dX10_newsComes_103 : decode cX10_newsComes 103 = .ok (.aload_n 0, 1) := by decide +kernel
theorem dX10_newsComes_104 : decode cX10_newsComes 104 = .ok (.iload 5, 2) := by decide +kernel
theorem dX10_newsComes_106 : decode cX10_newsComes 106 = .ok (.invokevirtual 180, 3) := by decide +kernel
theorem dX10_newsComes_109 : decode cX10_newsComes 109 = .ok (.goto 12, 3) := by decide +kernel
theorem dX10_newsComes_112 : decode cX10_newsComes 112 = .ok (.aload_n 0, 1) := by decide +kernel
theorem dX10_newsComes_113 : decode cX10_newsComes 113 = .ok (.iload_n 3, 1) := by decide +kernel
theorem dX10_newsComes_114 : decode cX10_newsComes 114 = .ok (.iload 4, 2) := by decide +kernel
theorem dX10_newsComes_116 : decode cX10_newsComes 116 = .ok (.iload 5, 2) := by decide +kernel
theorem dX10_newsComes_118 : decode cX10_newsComes 118 = .ok (.invokevirtual 117, 3) := by decide +kernel
theorem dX10_newsComes_121 : decode cX10_newsComes 121 = .ok (.return_, 1) := by decide +kernel
/-! X10_newsMany -/
theorem dX10_newsMany_0 : decode cX10_newsMany 0 = .ok (.iconst 0, 1) := by decide +kernel
theorem dX10_newsMany_1 : decode cX10_newsMany 1 = .ok (.istore_n 2, 1) := by decide +kernel
theorem dX10_newsMany_2 : decode cX10_newsMany 2 = .ok (.iconst 0, 1) := by decide +kernel
theorem dX10_newsMany_3 : decode cX10_newsMany 3 = .ok (.istore_n 3, 1) := by decide +kernel
theorem dX10_newsMany_4 : decode cX10_newsMany 4 = .ok (.iload_n 3, 1) := by decide +kernel
theorem dX10_newsMany_5 : decode cX10_newsMany 5 = .ok (.aload_n 0, 1) := by decide +kernel
theorem dX10_newsMany_6 : decode cX10_newsMany 6 = .ok (.getfield 7, 3) := by decide +kernel
theorem dX10_newsMany_9 : decode cX10_newsMany 9 = .ok (.bipush 9, 2) := by decide +kernel
theorem dX10_newsMany_11 : decode cX10_newsMany 11 = .ok (.iaload, 1) := by decide +kernel
theorem dX10_newsMany_12 : decode cX10_newsMany 12 = .ok (.if_icmp .ge 39, 3) := by decide +kernel
theorem dX10_newsMany_15 : decode cX10_newsMany 15 = .ok (.iload_n 2, 1) := by decide +kernel
theorem dX10_newsMany_16 : decode cX10_newsMany 16 = .ok (.aload_n 0, 1) := by decide +kernel
theorem dX10_newsMany_17 : decode cX10_newsMany 17 = .ok (.iload_n 3, 1) := by decide +kernel
theorem dX10_newsMany_18 : decode cX10_newsMany 18 = .ok (.iconst 0, 1) := by decide +kernel
theorem dX10_newsMany_19 : decode cX10_newsMany 19 = .ok (.invokevirtual 108, 3) := by decide +kernel
theorem dX10_newsMany_22 : decode cX10_newsMany 22 = .ok (.iconst 1, 1) := by decide +kernel
theorem dX10_newsMany_23 : decode cX10_newsMany 23 = .ok (.if_icmp .ne 7, 3) := by decide +kernel
theorem dX10_newsMany_26 : decode cX10_newsMany 26 = .ok (.iconst 1, 1) := by decide +kernel
theorem dX10_newsMany_27 : decode cX10_newsMany 27 = .ok (.goto 4, 3) := by decide +kernel
theorem dX10_newsMany_30 : decode cX10_newsMany 30 = .ok (.iconst 0, 1) := by decide +kernel
theorem dX10_newsMany_31 : decode cX10_newsMany 31 = .ok (.iload_n 1, 1) := by decide +kernel
theorem dX10_newsMany_32 : decode cX10_newsMany 32 = .ok (.if_icmp .ne 7, 3) := by decide +kernel
theorem dX10_newsMany_35 : decode cX10_newsMany 35 = .ok (.iconst 1, 1) := by decide +kernel
theorem dX10_newsMany_36 : decode cX10_newsMany 36 = .ok (.goto 4, 3) := by decide +kernel
theorem dX10_newsMany_39 : decode cX10_newsMany 39 = .ok (.iconst 0, 1) := by decide +kernel
theorem dX10_newsMany_40 : decode cX10_newsMany 40 = .ok (.invokestatic 104, 3) := by decide +kernel
theorem dX10_newsMany_43 : decode cX10_newsMany 43 = .ok (.iadd, 1) := by decide +kernel
theorem dX10_newsMany_44 : decode cX10_newsMany 44 = .ok (.istore_n 2, 1) := by decide +kernel
theorem dX10_newsMany_45 : decode cX10_newsMany 45 = .ok (.iinc 3 1, 3) := by decide +kernel
theorem dX10_newsMany_48 : decode cX10_newsMany 48 = .ok (.goto (-44), 3) := by decide +kernel
theorem dX10_newsMany_51 : decode cX10_newsMany 51 = .ok (.iload_n 2, 1) := by decide +kernel
theorem dX10_newsMany_52 : decode cX10_newsMany 52 = .ok (.ireturn, 1) := by decide +kernel
/-! X10_newsNow -/
theorem dX10_newsNow_0 : decode cX10_newsNow 0 = .ok (.iconst 0, 1) := by decide +kernel
theorem dX10_newsNow_1 : decode cX10_newsNow 1 = .ok (.istore_n 1, 1) := by decide +kernel
theorem dX10_newsNow_2 : decode cX10_newsNow 2 = .ok (.iload_n 1, 1) := by decide +kernel
theorem dX10_newsNow_3 : decode cX10_newsNow 3 = .ok (.aload_n 0, 1) := by decide +kernel
theorem dX10_newsNow_4 : decode cX10_newsNow 4 = .ok (.getfield 7, 3) := by decide +kernel
theorem dX10_newsNow_7 : decode cX10_newsNow 7 = .ok (.bipush 9, 2) := by decide +kernel
theorem dX10_newsNow_9 : decode cX10_newsNow 9 = .ok (.iaload, 1) := by decide +kernel
theorem dX10_newsNow_10 : decode cX10_newsNow 10 = .ok (.if_icmp .ge 26, 3) := by decide +kernel
theorem dX10_newsNow_13 : decode cX10_newsNow 13 = .ok (.aload_n 0, 1) := by decide +kernel
theorem dX10_newsNow_14 : decode cX10_newsNow 14 = .ok (.iload_n 1, 1) := by decide +kernel
theorem dX10_newsNow_15 : decode cX10_newsNow 15 = .ok (.iconst 1, 1) := by decide +kernel
theorem dX10_newsNow_16 : decode cX10_newsNow 16 = .ok (.invokevirtual 108, 3) := by decide +kernel
theorem dX10_newsNow_19 : decode cX10_newsNow 19 = .ok (.aload_n 0, 1) := by decide +kernel
theorem dX10_newsNow_20 : decode cX10_newsNow 20 = .ok (.getfield 7, 3) := by decide +kernel
theorem dX10_newsNow_23 : decode cX10_newsNow 23 = .ok (.iconst 2, 1) := by decide +kernel
theorem dX10_newsNow_24 : decode cX10_newsNow 24 = .ok (.iaload, 1) := by decide +kernel
theorem dX10_newsNow_25 : decode cX10_newsNow 25 = .ok (.if_icmp .ne 5, 3) := by decide +kernel
theorem dX10_newsNow_28 : decode cX10_newsNow 28 = .ok (.iload_n 1, 1) := by decide +kernel
theorem dX10_newsNow_29 : decode cX10_newsNow 29 = .ok (.ireturn, 1) := by decide +kernel
theorem dX10_newsNow_30 : decode cX10_newsNow 30 = .ok (.iinc 1 1, 3) := by decide +kernel
theorem dX10_newsNow_33 : decode cX10_newsNow 33 = .ok (.goto (-31), 3) := by decide +kernel
theorem dX10_newsNow_36 : decode cX10_newsNow 36 = .ok (.iconst (-1), 1) := by decide +kernel
theorem dX10_newsNow_37 : decode cX10_newsNow 37 = .ok (.ireturn, 1) := by decide +kernel
/-! X10_next -/
theorem dX10_next_0 : decode cX10_next 0 = .ok (.aload_n 0, 1) := by decide +kernel
theorem dX10_next_1 : decode cX10_next 1 = .ok (.aload_n 0, 1) := by decide +kernel
theorem dX10_next_2 : decode cX10_next 2 = .ok (.getfield 208, 3) := by decide +kernel
theorem dX10_next_5 : decode cX10_next 5 = .ok (.invokevirtual 211, 3) := by decide +kernel
theorem dX10_next_8 : decode cX10_next 8 = .ok (.bipush 32, 2) := by decide +kernel
theorem dX10_next_10 : decode cX10_next 10 = .ok (.if_icmp .ne 16, 3) := by decide +kernel
theorem dX10_next_13 : decode cX10_next 13 = .ok (.aload_n 0, 1) := by decide +kernel
theorem dX10_next_14 : decode cX10_next 14 = .ok (.dup, 1) := by decide +kernel
theorem dX10_next_15 : decode cX10_next 15 = .ok (.getfield 208, 3) := by decide +kernel
theorem dX10_next_18 : decode cX10_next 18 = .ok (.iconst 1, 1) := by decide +kernel
theorem dX10_next_19 : decode cX10_next 19 = .ok (.iadd, 1) := by decide +kernel
theorem dX10_next_20 : decode cX10_next 20 = .ok (.putfield 208, 3) := by decide +kernel
theorem dX10_next_23 : decode cX10_next 23 = .ok (.goto (-23), 3) := by decide +kernel
theorem dX10_next_26 : decode cX10_next 26 = .ok (.aload_n 0, 1) := by decide +kernel
theorem dX10_next_27 : decode cX10_next 27 = .ok (.aload_n 0, 1) := by decide +kernel
theorem dX10_next_28 : decode cX10_next 28 = .ok (.getfield 208, 3) := by decide +kernel
theorem dX10_next_31 : decode cX10_next 31 = .ok (.putfield 214, 3) := by decide +kernel
theorem dX10_next_34 : decode cX10_next 34 = .ok (.aload_n 0, 1) := by decide +kernel
theorem dX10_next_35 : decode cX10_next 35 = .ok (.aload_n 0, 1) := by decide +kernel
theorem dX10_next_36 : decode cX10_next 36 = .ok (.getfield 208, 3) := by decide +kernel
theorem dX10_next_39 : decode cX10_next 39 = .ok (.invokevirtual 211, 3) := by decide +kernel
theorem dX10_next_42 : decode cX10_next 42 = .ok (.ireturn, 1) := by decide +kernel
/-! X10_nextProbe -/
theorem dX10_nextProbe_0 : decode cX10_nextProbe 0 = .ok (.aload_n 0, 1) := by decide +kernel
theorem dX10_nextProbe_1 : decode cX10_nextProbe 1 = .ok (.iconst 0, 1) := by decide +kernel
theorem dX10_nextProbe_2 : decode cX10_nextProbe 2 = .ok (.putfield 62, 3) := by decide +kernel
theorem dX10_nextProbe_5 : decode cX10_nextProbe 5 = .ok (.aload_n 0, 1) := by decide +kernel
theorem dX10_nextProbe_6 : decode cX10_nextProbe 6 = .ok (.getfield 7, 3) := by decide +kernel
theorem dX10_nextProbe_9 : decode cX10_nextProbe 9 = .ok (.bipush 7, 2) := by decide +kernel
theorem dX10_nextProbe_11 : decode cX10_nextProbe 11 = .ok (.iaload, 1) := by decide +kernel
theorem dX10_nextProbe_12 : decode cX10_nextProbe 12 = .ok (.iconst (-1), 1) := by decide +kernel
theorem dX10_nextProbe_13 : decode cX10_nextProbe 13 = .ok (.if_icmp .ne 24, 3) := by decide +kernel
theorem dX10_nextProbe_16 : decode cX10_nextProbe 16 = .ok (.aload_n 0, 1) := by decide +kernel
theorem dX10_nextProbe_17 : decode cX10_nextProbe 17 = .ok (.getfield 7, 3) := by decide +kernel
theorem dX10_nextProbe_20 : decode cX10_nextProbe 20 = .ok (.bipush 6, 2) := by decide +kernel
theorem dX10_nextProbe_22 : decode cX10_nextProbe 22 = .ok (.iaload, 1) := by decide +kernel
theorem dX10_nextProbe_23 : decode cX10_nextProbe 23 = .ok (.sipush 1500, 3) := by decide +kernel
theorem dX10_nextProbe_26 : decode cX10_nextProbe 26 = .ok (.if_icmp .ge 9, 3) := by decide +kernel
theorem dX10_nextProbe_29 : decode cX10_nextProbe 29 = .ok (.sipush 1500, 3) := by decide +kernel
theorem dX10_nextProbe_32 : decode cX10_nextProbe 32 = .ok (.goto 4, 3) := by decide +kernel
theorem dX10_nextProbe_35 : decode cX10_nextProbe 35 = .ok (.iconst (-1), 1) := by decide +kernel
theorem dX10_nextProbe_36 : decode cX10_nextProbe 36 = .ok (.ireturn, 1) := by decide +kernel
theorem dX10_nextProbe_37 : decode cX10_nextProbe 37 = .ok (.aload_n 0, 1) := by decide +kernel
theorem dX10_nextProbe_38 : decode cX10_nextProbe 38 = .ok (.getfield 7, 3) := by decide +kernel
theorem dX10_nextProbe_41 : decode cX10_nextProbe 41 = .ok (.bipush 7, 2) := by decide +kernel
theorem dX10_nextProbe_43 : decode cX10_nextProbe 43 = .ok (.iaload, 1) := by decide +kernel
theorem dX10_nextProbe_44 : decode cX10_nextProbe 44 = .ok (.aload_n 0, 1) := by decide +kernel
theorem dX10_nextProbe_45 : decode cX10_nextProbe 45 = .ok (.getfield 7, 3) := by decide +kernel
theorem dX10_nextProbe_48 : decode cX10_nextProbe 48 = .ok (.bipush 6, 2) := by decide +kernel
theorem dX10_nextProbe_50 : decode cX10_nextProbe 50 = .ok (.iaload, 1) := by decide +kernel
theorem dX10_nextProbe_51 : decode cX10_nextProbe 51 = .ok (.iconst 1, 1) := by decide +kernel
theorem dX10_nextProbe_52 : decode cX10_nextProbe 52 = .ok (.iadd, 1) := by decide +kernel
theorem dX10_nextProbe_53 : decode cX10_nextProbe 53 = .ok (.if_icmp .le 23, 3) := by decide +kernel
theorem dX10_nextProbe_56 : decode cX10_nextProbe 56 = .ok (.aload_n 0, 1) := by decide +kernel
theorem dX10_nextProbe_57 : decode cX10_nextProbe 57 = .ok (.getfield 7, 3) := by decide +kernel
theorem dX10_nextProbe_60 : decode cX10_nextProbe 60 = .ok (.bipush 6, 2) := by decide +kernel
theorem dX10_nextProbe_62 : decode cX10_nextProbe 62 = .ok (.iaload, 1) := by decide +kernel
theorem dX10_nextProbe_63 : decode cX10_nextProbe 63 = .ok (.aload_n 0, 1) := by decide +kernel
theorem dX10_nextProbe_64 : decode cX10_nextProbe 64 = .ok (.getfield 7, 3) := by decide +kernel
theorem dX10_nextProbe_67 : decode cX10_nextProbe 67 = .ok (.bipush 7, 2) := by decide +kernel
theorem dX10_nextProbe_69 : decode cX10_nextProbe 69 = .ok (.iaload, 1) := by decide +kernel
theorem dX10_nextProbe_70 : decode cX10_nextProbe 70 = .ok (.iadd, 1) := by decide +kernel
theorem dX10_nextProbe_71 : decode cX10_nextProbe 71 = .ok (.iconst 2, 1) := by decide +kernel
theorem dX10_nextProbe_72 : decode cX10_nextProbe 72 = .ok (.idiv, 1) := by decide +kernel
theorem dX10_nextProbe_73 : decode cX10_nextProbe 73 = .ok (.goto 4, 3) := by decide +kernel
theorem dX10_nextProbe_76 : decode cX10_nextProbe 76 = .ok (.iconst (-1), 1) := by decide +kernel
theorem dX10_nextProbe_77 : decode cX10_nextProbe 77 = .ok (.ireturn, 1) := by decide +kernel
/-! X10_noteComes -/
theorem dX10_noteComes_0 : decode cX10_noteComes 0 = .ok (.aload_n 0, 1) := by decide +kernel
theorem dX10_noteComes_1 : decode cX10_noteComes 1 = .ok (.bipush 8, 2) := by decide +kernel
theorem dX10_noteComes_3 : decode cX10_noteComes 3 = .ok (.iconst 1, 1) := by decide +kernel
theorem dX10_noteComes_4 : decode cX10_noteComes 4 = .ok (.invokevirtual 87, 3) := by decide +kernel
theorem dX10_noteComes_7 : decode cX10_noteComes 7 = .ok (.iload_n 1, 1) := by decide +kernel
theorem dX10_noteComes_8 : decode cX10_noteComes 8 = .ok (.aload_n 0, 1) := by decide +kernel
theorem dX10_noteComes_9 : decode cX10_noteComes 9 = .ok (.getfield 7, 3) := by decide +kernel
theorem dX10_noteComes_12 : decode cX10_noteComes 12 = .ok (.iconst 5, 1) := by decide +kernel
theorem dX10_noteComes_13 : decode cX10_noteComes 13 = .ok (.iaload, 1) := by decide +kernel
theorem dX10_noteComes_14 : decode cX10_noteComes 14 = .ok (.if_icmp .ge 7, 3) := by decide +kernel
theorem dX10_noteComes_17 : decode cX10_noteComes 17 = .ok (.iconst 1, 1) := by decide +kernel
theorem dX10_noteComes_18 : decode cX10_noteComes 18 = .ok (.goto 4, 3) := by decide +kernel
theorem dX10_noteComes_21 : decode cX10_noteComes 21 = .ok (.iconst 0, 1) := by decide +kernel
theorem dX10_noteComes_22 : decode cX10_noteComes 22 = .ok (.istore 4, 2) := by decide +kernel
theorem dX10_noteComes_24 : decode cX10_noteComes 24 = .ok (.iload 4, 2) := by decide +kernel
theorem dX10_noteComes_26 : decode cX10_noteComes 26 = .ok (.ifCond .eq 10, 3) := by decide +kernel
theorem dX10_noteComes_29 : decode cX10_noteComes 29 = .ok (.aload_n 0, 1) := by decide +kernel
theorem dX10_noteComes_30 : decode cX10_noteComes 30 = .ok (.getfield 7, 3) := by decide +kernel
theorem dX10_noteComes_33 : decode cX10_noteComes 33 = .ok (.iconst 5, 1) := by decide +kernel
theorem dX10_noteComes_34 : decode cX10_noteComes 34 = .ok (.iload_n 1, 1) := by decide +kernel
theorem dX10_noteComes_35 : decode cX10_noteComes 35 = .ok (.iastore, 1) := by decide +kernel
theorem dX10_noteComes_36 : decode cX10_noteComes 36 = .ok (.iload_n 2, 1) := by decide +kernel
theorem dX10_noteComes_37 : decode cX10_noteComes 37 = .ok (.iconst (-1), 1) := by decide +kernel
theorem dX10_noteComes_38 : decode cX10_noteComes 38 = .ok (.if_icmp .ne 33, 3) := by decide +kernel
theorem dX10_noteComes_41 : decode cX10_noteComes 41 = .ok (.aload_n 0, 1) := by decide +kernel
theorem dX10_noteComes_42 : decode cX10_noteComes 42 = .ok (.getfield 7, 3) := by decide +kernel
theorem dX10_noteComes_45 : decode cX10_noteComes 45 = .ok (.bipush 7, 2) := by decide +kernel
theorem dX10_noteComes_47 : decode cX10_noteComes 47 = .ok (.iaload, 1) := by decide +kernel
theorem dX10_noteComes_48 : decode cX10_noteComes 48 = .ok (.iconst (-1), 1) := by decide +kernel
theorem dX10_noteComes_49 : decode cX10_noteComes 49 = .ok (.if_icmp .eq 14, 3) := by decide +kernel
theorem dX10_noteComes_52 : decode cX10_noteComes 52 = .ok (.aload_n 0, 1) := by decide +kernel
theorem dX10_noteComes_53 : decode cX10_noteComes 53 = .ok (.getfield 7, 3) := by decide +kernel
theorem dX10_noteComes_56 : decode cX10_noteComes 56 = .ok (.bipush 7, 2) := by decide +kernel
theorem dX10_noteComes_58 : decode cX10_noteComes 58 = .ok (.iaload, 1) := by decide +kernel
theorem dX10_noteComes_59 : decode cX10_noteComes 59 = .ok (.iload_n 3, 1) := by decide +kernel
theorem dX10_noteComes_60 : decode cX10_noteComes 60 = .ok (.if_icmp .le 11, 3) := by decide +kernel
theorem dX10_noteComes_63 : decode cX10_noteComes 63 = .ok (.aload_n 0, 1) := by decide +kernel
theorem dX10_noteComes_64 : decode cX10_noteComes 64 = .ok (.getfield 7, 3) := by decide +kernel
theorem dX10_noteComes_67 : decode cX10_noteComes 67 = .ok (.bipush 7, 2) := by decide +kernel
theorem dX10_noteComes_69 : decode cX10_noteComes 69 = .ok (.iload_n 3, 1) := by decide +kernel
theorem dX10_noteComes_70 : decode cX10_noteComes 70 = .ok (.iastore, 1) := by decide +kernel
theorem dX10_noteComes_71 : decode cX10_noteComes 71 = .ok (.iload 4, 2) := by decide +kernel
theorem dX10_noteComes_73 : decode cX10_noteComes 73 = .ok (.ifCond .eq 31, 3) := by decide +kernel
theorem dX10_noteComes_76 : decode cX10_noteComes 76 = .ok (.iload_n 2, 1) := by decide +kernel
theorem dX10_noteComes_77 : decode cX10_noteComes 77 = .ok (.iconst (-1), 1) := by decide +kernel
theorem dX10_noteComes_78 : decode cX10_noteComes 78 = .ok (.if_icmp .eq 26, 3) := by decide +kernel
theorem dX10_noteComes_81 : decode cX10_noteComes 81 = .ok (.aload_n 0, 1) := by decide +kernel
theorem dX10_noteComes_82 : decode cX10_noteComes 82 = .ok (.iload_n 2, 1) := by decide +kernel
theorem dX10_noteComes_83 : decode cX10_noteComes 83 = .ok (.invokevirtual 91, 3) := by decide +kernel
theorem dX10_noteComes_86 : decode cX10_noteComes 86 = .ok (.ifCond .eq 18, 3) := by decide +kernel
theorem dX10_noteComes_89 : decode cX10_noteComes 89 = .ok (.aload_n 0, 1) := by decide +kernel
theorem dX10_noteComes_90 : decode cX10_noteComes 90 = .ok (.iload_n 2, 1) := by decide +kernel
theorem dX10_noteComes_91 : decode cX10_noteComes 91 = .ok (.iconst 3, 1) := by decide +kernel
theorem dX10_noteComes_92 : decode cX10_noteComes 92 = .ok (.invokevirtual 69, 3) := by decide +kernel
theorem dX10_noteComes_95 : decode cX10_noteComes 95 = .ok (.iconst 3, 1) := by decide +kernel
theorem dX10_noteComes_96 : decode cX10_noteComes 96 = .ok (.if_icmp .ge 8, 3) := by decide +kernel
theorem dX10_noteComes_99 : decode cX10_noteComes 99 = .ok (.aload_n 0, 1) := by decide +kernel
theorem dX10_noteComes_100 : decode cX10_noteComes 100 = .ok (.iload_n 2, 1) := by decide +kernel
theorem dX10_noteComes_101 : decode cX10_noteComes 101 = .ok (.invokevirtual 95, 3) := by decide +kernel
theorem dX10_noteComes_104 : decode cX10_noteComes 104 = .ok (.return_, 1) := by decide +kernel
/-! X10_ofData -/
theorem dX10_ofData_0 : decode cX10_ofData 0 = .ok (.aload_n 0, 1) := by decide +kernel
theorem dX10_ofData_1 : decode cX10_ofData 1 = .ok (.getfield 7, 3) := by decide +kernel
theorem dX10_ofData_4 : decode cX10_ofData 4 = .ok (.bipush 72, 2) := by decide +kernel
theorem dX10_ofData_6 : decode cX10_ofData 6 = .ok (.bipush 8, 2) := by decide +kernel
theorem dX10_ofData_8 : decode cX10_ofData 8 = .ok (.iload_n 1, 1) := by decide +kernel
theorem dX10_ofData_9 : decode cX10_ofData 9 = .ok (.imul, 1) := by decide +kernel
theorem dX10_ofData_10 : decode cX10_ofData 10 = .ok (.iadd, 1) := by decide +kernel
theorem dX10_ofData_11 : decode cX10_ofData 11 = .ok (.iload_n 2, 1) := by decide +kernel
theorem dX10_ofData_12 : decode cX10_ofData 12 = .ok (.iadd, 1) := by decide +kernel
theorem dX10_ofData_13 : decode cX10_ofData 13 = .ok (.iaload, 1) := by decide +kernel
theorem dX10_ofData_14 : decode cX10_ofData 14 = .ok (.ireturn, 1) := by decide +kernel
/-! X10_ofHeap -/
theorem dX10_ofHeap_0 : decode cX10_ofHeap 0 = .ok (.aload_n 0, 1) := by decide +kernel
theorem dX10_ofHeap_1 : decode cX10_ofHeap 1 = .ok (.getfield 7, 3) := by decide +kernel
theorem dX10_ofHeap_4 : decode cX10_ofHeap 4 = .ok (.sipush 11992, 3) := by decide +kernel
theorem dX10_ofHeap_7 : decode cX10_ofHeap 7 = .ok (.sipush 1206, 3) := by decide +kernel
theorem dX10_ofHeap_10 : decode cX10_ofHeap 10 = .ok (.iload_n 1, 1) := by decide +kernel
theorem dX10_ofHeap_11 : decode cX10_ofHeap 11 = .ok (.imul, 1) := by decide +kernel
theorem dX10_ofHeap_12 : decode cX10_ofHeap 12 = .ok (.iadd, 1) := by decide +kernel
theorem dX10_ofHeap_13 : decode cX10_ofHeap 13 = .ok (.iload_n 2, 1) := by decide +kernel
theorem dX10_ofHeap_14 : decode cX10_ofHeap 14 = .ok (.iadd, 1) := by decide +kernel
theorem dX10_ofHeap_15 : decode cX10_ofHeap 15 = .ok (.iaload, 1) := by decide +kernel
theorem dX10_ofHeap_16 : decode cX10_ofHeap 16 = .ok (.ireturn, 1) := by decide +kernel
/-! X10_ofLink -/
theorem dX10_ofLink_0 : decode cX10_ofLink 0 = .ok (.aload_n 0, 1) := by decide +kernel
theorem dX10_ofLink_1 : decode cX10_ofLink 1 = .ok (.getfield 7, 3) := by decide +kernel
theorem dX10_ofLink_4 : decode cX10_ofLink 4 = .ok (.bipush 24, 2) := by decide +kernel
theorem dX10_ofLink_6 : decode cX10_ofLink 6 = .ok (.bipush 8, 2) := by decide +kernel
theorem dX10_ofLink_8 : decode cX10_ofLink 8 = .ok (.iload_n 1, 1) := by decide +kernel
theorem dX10_ofLink_9 : decode cX10_ofLink 9 = .ok (.imul, 1) := by decide +kernel
theorem dX10_ofLink_10 : decode cX10_ofLink 10 = .ok (.iadd, 1) := by decide +kernel
theorem dX10_ofLink_11 : decode cX10_ofLink 11 = .ok (.iload_n 2, 1) := by decide +kernel
theorem dX10_ofLink_12 : decode cX10_ofLink 12 = .ok (.iadd, 1) := by decide +kernel
theorem dX10_ofLink_13 : decode cX10_ofLink 13 = .ok (.iaload, 1) := by decide +kernel
theorem dX10_ofLink_14 : decode cX10_ofLink 14 = .ok (.ireturn, 1) := by decide +kernel
/-! X10_ofNews -/
theorem dX10_ofNews_0 : decode cX10_ofNews 0 = .ok (.aload_n 0, 1) := by decide +kernel
theorem dX10_ofNews_1 : decode cX10_ofNews 1 = .ok (.getfield 7, 3) := by decide +kernel
theorem dX10_ofNews_4 : decode cX10_ofNews 4 = .ok (.sipush 2492, 3) := by decide +kernel
theorem dX10_ofNews_7 : decode cX10_ofNews 7 = .ok (.iconst 5, 1) := by decide +kernel
theorem dX10_ofNews_8 : decode cX10_ofNews 8 = .ok (.iload_n 1, 1) := by decide +kernel
theorem dX10_ofNews_9 : decode cX10_ofNews 9 = .ok (.imul, 1) := by decide +kernel
theorem dX10_ofNews_10 : decode cX10_ofNews 10 = .ok (.iadd, 1) := by decide +kernel
theorem dX10_ofNews_11 : decode cX10_ofNews 11 = .ok (.iload_n 2, 1) := by decide +kernel
theorem dX10_ofNews_12 : decode cX10_ofNews 12 = .ok (.iadd, 1) := by decide +kernel
theorem dX10_ofNews_13 : decode cX10_ofNews 13 = .ok (.iaload, 1) := by decide +kernel
theorem dX10_ofNews_14 : decode cX10_ofNews 14 = .ok (.ireturn, 1) := by decide +kernel
/-! X10_ofPacket -/
theorem dX10_ofPacket_0 : decode cX10_ofPacket 0 = .ok (.aload_n 0, 1) := by decide +kernel
theorem dX10_ofPacket_1 : decode cX10_ofPacket 1 = .ok (.getfield 7, 3) := by decide +kernel
theorem dX10_ofPacket_4 : decode cX10_ofPacket 4 = .ok (.sipush 392, 3) := by decide +kernel
theorem dX10_ofPacket_7 : decode cX10_ofPacket 7 = .ok (.bipush 7, 2) := by decide +kernel
theorem dX10_ofPacket_9 : decode cX10_ofPacket 9 = .ok (.iload_n 1, 1) := by decide +kernel
theorem dX10_ofPacket_10 : decode cX10_ofPacket 10 = .ok (.imul, 1) := by decide +kernel
theorem dX10_ofPacket_11 : decode cX10_ofPacket 11 = .ok (.iadd, 1) := by decide +kernel
theorem dX10_ofPacket_12 : decode cX10_ofPacket 12 = .ok (.iload_n 2, 1) := by decide +kernel
theorem dX10_ofPacket_13 : decode cX10_ofPacket 13 = .ok (.iadd, 1) := by decide +kernel
theorem dX10_ofPacket_14 : decode cX10_ofPacket 14 = .ok (.iaload, 1) := by decide +kernel
theorem dX10_ofPacket_15 : decode cX10_ofPacket 15 = .ok (.ireturn, 1) := by decide +kernel
/-! X10_oldest -/
theorem dX10_oldest_0 : decode cX10_oldest 0 = .ok (.iconst (-1), 1) := by decide +kernel
theorem dX10_oldest_1 : decode cX10_oldest 1 = .ok (.istore_n 1, 1) := by decide +kernel
theorem dX10_oldest_2 : decode cX10_oldest 2 = .ok (.iconst 0, 1) := by decide +kernel
theorem dX10_oldest_3 : decode cX10_oldest 3 = .ok (.istore_n 2, 1) := by decide +kernel
theorem dX10_oldest_4 : decode cX10_oldest 4 = .ok (.iload_n 2, 1) := by decide +kernel
theorem dX10_oldest_5 : decode cX10_oldest 5 = .ok (.iconst 4, 1) := by decide +kernel
theorem dX10_oldest_6 : decode cX10_oldest 6 = .ok (.if_icmp .ge 74, 3) := by decide +kernel
theorem dX10_oldest_9 : decode cX10_oldest 9 = .ok (.aload_n 0, 1) := by decide +kernel
theorem dX10_oldest_10 : decode cX10_oldest 10 = .ok (.iload_n 2, 1) := by decide +kernel
theorem dX10_oldest_11 : decode cX10_oldest 11 = .ok (.iconst 0, 1) := by decide +kernel
theorem dX10_oldest_12 : decode cX10_oldest 12 = .ok (.invokevirtual 134, 3) := by decide +kernel
theorem dX10_oldest_15 : decode cX10_oldest 15 = .ok (.iconst (-1), 1) := by decide +kernel
theorem dX10_oldest_16 : decode cX10_oldest 16 = .ok (.if_icmp .ne 6, 3) := by decide +kernel
theorem dX10_oldest_19 : decode cX10_oldest 19 = .ok (.goto 55, 3) := by decide +kernel
theorem dX10_oldest_22 : decode cX10_oldest 22 = .ok (.iload_n 1, 1) := by decide +kernel
theorem dX10_oldest_23 : decode cX10_oldest 23 = .ok (.iconst (-1), 1) := by decide +kernel
theorem dX10_oldest_24 : decode cX10_oldest 24 = .ok (.if_icmp .eq 48, 3) := by decide +kernel
theorem dX10_oldest_27 : decode cX10_oldest 27 = .ok (.aload_n 0, 1) := by decide +kernel
theorem dX10_oldest_28 : decode cX10_oldest 28 = .ok (.iload_n 2, 1) := by decide +kernel
theorem dX10_oldest_29 : decode cX10_oldest 29 = .ok (.iconst 1, 1) := by decide +kernel
theorem dX10_oldest_30 : decode cX10_oldest 30 = .ok (.invokevirtual 134, 3) := by decide +kernel
theorem dX10_oldest_33 : decode cX10_oldest 33 = .ok (.aload_n 0, 1) := by decide +kernel
theorem dX10_oldest_34 : decode cX10_oldest 34 = .ok (.iload_n 1, 1) := by decide +kernel
theorem dX10_oldest_35 : decode cX10_oldest 35 = .ok (.iconst 1, 1) := by decide +kernel
theorem dX10_oldest_36 : decode cX10_oldest 36 = .ok (.invokevirtual 134, 3) := by decide +kernel
theorem dX10_oldest_39 : decode cX10_oldest 39 = .ok (.if_icmp .lt 33, 3) := by decide +kernel
theorem dX10_oldest_42 : decode cX10_oldest 42 = .ok (.aload_n 0, 1) := by decide +kernel
theorem dX10_oldest_43 : decode cX10_oldest 43 = .ok (.iload_n 2, 1) := by decide +kernel
theorem dX10_oldest_44 : decode cX10_oldest 44 = .ok (.iconst 1, 1) := by decide +kernel
theorem dX10_oldest_45 : decode cX10_oldest 45 = .ok (.invokevirtual 134, 3) := by decide +kernel
theorem dX10_oldest_48 : decode cX10_oldest 48 = .ok (.aload_n 0, 1) := by decide +kernel
theorem dX10_oldest_49 : decode cX10_oldest 49 = .ok (.iload_n 1, 1) := by decide +kernel
theorem dX10_oldest_50 : decode cX10_oldest 50 = .ok (.iconst 1, 1) := by decide +kernel
theorem dX10_oldest_51 : decode cX10_oldest 51 = .ok (.invokevirtual 134, 3) := by decide +kernel
theorem dX10_oldest_54 : decode cX10_oldest 54 = .ok (.if_icmp .ne 20, 3) := by decide +kernel
theorem dX10_oldest_57 : decode cX10_oldest 57 = .ok (.aload_n 0, 1) := by decide +kernel
theorem dX10_oldest_58 : decode cX10_oldest 58 = .ok (.iload_n 2, 1) := by decide +kernel
theorem dX10_oldest_59 : decode cX10_oldest 59 = .ok (.iconst 0, 1) := by decide +kernel
theorem dX10_oldest_60 : decode cX10_oldest 60 = .ok (.invokevirtual 134, 3) := by decide +kernel
theorem dX10_oldest_63 : decode cX10_oldest 63 = .ok (.aload_n 0, 1) := by decide +kernel
theorem dX10_oldest_64 : decode cX10_oldest 64 = .ok (.iload_n 1, 1) := by decide +kernel
theorem dX10_oldest_65 : decode cX10_oldest 65 = .ok (.iconst 0, 1) := by decide +kernel
theorem dX10_oldest_66 : decode cX10_oldest 66 = .ok (.invokevirtual 134, 3) := by decide +kernel
theorem dX10_oldest_69 : decode cX10_oldest 69 = .ok (.if_icmp .ge 5, 3) := by decide +kernel
theorem dX10_oldest_72 : decode cX10_oldest 72 = .ok (.iload_n 2, 1) := by decide +kernel
theorem dX10_oldest_73 : decode cX10_oldest 73 = .ok (.istore_n 1, 1) := by decide +kernel
theorem dX10_oldest_74 : decode cX10_oldest 74 = .ok (.iinc 2 1, 3) := by decide +kernel
theorem dX10_oldest_77 : decode cX10_oldest 77 = .ok (.goto (-73), 3) := by decide +kernel
theorem dX10_oldest_80 : decode cX10_oldest 80 = .ok (.aload_n 0, 1) := by decide +kernel
theorem dX10_oldest_81 : decode cX10_oldest 81 = .ok (.iload_n 1, 1) := by decide +kernel
theorem dX10_oldest_82 : decode cX10_oldest 82 = .ok (.iconst 0, 1) := by decide +kernel
theorem dX10_oldest_83 : decode cX10_oldest 83 = .ok (.invokevirtual 134, 3) := by decide +kernel
theorem dX10_oldest_86 : decode cX10_oldest 86 = .ok (.ireturn, 1) := by decide +kernel
/-! X10_onTheirWay -/
theorem dX10_onTheirWay_0 : decode cX10_onTheirWay 0 = .ok (.iconst 0, 1) := by decide +kernel
theorem dX10_onTheirWay_1 : decode cX10_onTheirWay 1 = .ok (.istore_n 2, 1) := by decide +kernel
theorem dX10_onTheirWay_2 : decode cX10_onTheirWay 2 = .ok (.iconst 0, 1) := by decide +kernel
theorem dX10_onTheirWay_3 : decode cX10_onTheirWay 3 = .ok (.istore_n 3, 1) := by decide +kernel
theorem dX10_onTheirWay_4 : decode cX10_onTheirWay 4 = .ok (.iload_n 3, 1) := by decide +kernel
theorem dX10_onTheirWay_5 : decode cX10_onTheirWay 5 = .ok (.aload_n 0, 1) := by decide +kernel
theorem dX10_onTheirWay_6 : decode cX10_onTheirWay 6 = .ok (.getfield 7, 3) := by decide +kernel
theorem dX10_onTheirWay_9 : decode cX10_onTheirWay 9 = .ok (.bipush 8, 2) := by decide +kernel
theorem dX10_onTheirWay_11 : decode cX10_onTheirWay 11 = .ok (.iaload, 1) := by decide +kernel
theorem dX10_onTheirWay_12 : decode cX10_onTheirWay 12 = .ok (.if_icmp .ge 30, 3) := by decide +kernel
theorem dX10_onTheirWay_15 : decode cX10_onTheirWay 15 = .ok (.iload_n 2, 1) := by decide +kernel
theorem dX10_onTheirWay_16 : decode cX10_onTheirWay 16 = .ok (.aload_n 0, 1) := by decide +kernel
theorem dX10_onTheirWay_17 : decode cX10_onTheirWay 17 = .ok (.iload_n 3, 1) := by decide +kernel
theorem dX10_onTheirWay_18 : decode cX10_onTheirWay 18 = .ok (.iconst 2, 1) := by decide +kernel
theorem dX10_onTheirWay_19 : decode cX10_onTheirWay 19 = .ok (.invokevirtual 131, 3) := by decide +kernel
theorem dX10_onTheirWay_22 : decode cX10_onTheirWay 22 = .ok (.iload_n 1, 1) := by decide +kernel
theorem dX10_onTheirWay_23 : decode cX10_onTheirWay 23 = .ok (.if_icmp .ne 7, 3) := by decide +kernel
theorem dX10_onTheirWay_26 : decode cX10_onTheirWay 26 = .ok (.iconst 1, 1) := by decide +kernel
theorem dX10_onTheirWay_27 : decode cX10_onTheirWay 27 = .ok (.goto 4, 3) := by decide +kernel
theorem dX10_onTheirWay_30 : decode cX10_onTheirWay 30 = .ok (.iconst 0, 1) := by decide +kernel
theorem dX10_onTheirWay_31 : decode cX10_onTheirWay 31 = .ok (.invokestatic 104, 3) := by decide +kernel
theorem dX10_onTheirWay_34 : decode cX10_onTheirWay 34 = .ok (.iadd, 1) := by decide +kernel
theorem dX10_onTheirWay_35 : decode cX10_onTheirWay 35 = .ok (.istore_n 2, 1) := by decide +kernel
theorem dX10_onTheirWay_36 : decode cX10_onTheirWay 36 = .ok (.iinc 3 1, 3) := by decide +kernel
theorem dX10_onTheirWay_39 : decode cX10_onTheirWay 39 = .ok (.goto (-35), 3) := by decide +kernel
theorem dX10_onTheirWay_42 : decode cX10_onTheirWay 42 = .ok (.iload_n 2, 1) := by decide +kernel
theorem dX10_onTheirWay_43 : decode cX10_onTheirWay 43 = .ok (.ireturn, 1) := by decide +kernel
/-! X10_onceLine -/
theorem dX10_onceLine_0 : decode cX10_onceLine 0 = .ok (.aload_n 0, 1) := by decide +kernel
theorem dX10_onceLine_1 : decode cX10_onceLine 1 = .ok (.aload_n 0, 1) := by decide +kernel
theorem dX10_onceLine_2 : decode cX10_onceLine 2 = .ok (.getfield 258, 3) := by decide +kernel
theorem dX10_onceLine_5 : decode cX10_onceLine 5 = .ok (.iload_n 1, 1) := by decide +kernel
theorem dX10_onceLine_6 : decode cX10_onceLine 6 = .ok (.ishr, 1) := by decide +kernel
theorem dX10_onceLine_7 : decode cX10_onceLine 7 = .ok (.iconst 1, 1) := by decide +kernel
theorem dX10_onceLine_8 : decode cX10_onceLine 8 = .ok (.iand, 1) := by decide +kernel
theorem dX10_onceLine_9 : decode cX10_onceLine 9 = .ok (.ifCond .ne 7, 3) := by decide +kernel
theorem dX10_onceLine_12 : decode cX10_onceLine 12 = .ok (.iconst 1, 1) := by decide +kernel
theorem dX10_onceLine_13 : decode cX10_onceLine 13 = .ok (.goto 4, 3) := by decide +kernel
theorem dX10_onceLine_16 : decode cX10_onceLine 16 = .ok (.iconst 0, 1) := by decide +kernel
theorem dX10_onceLine_17 : decode cX10_onceLine 17 = .ok (.iconst 3, 1) := by decide +kernel
theorem dX10_onceLine_18 : decode cX10_onceLine 18 = .ok (.invokevirtual 245, 3) := by decide +kernel
theorem dX10_onceLine_21 : decode cX10_onceLine 21 = .ok (.aload_n 0, 1) := by decide +kernel
theorem dX10_onceLine_22 : decode cX10_onceLine 22 = .ok (.dup, 1) := by decide +kernel
theorem dX10_onceLine_23 : decode cX10_onceLine 23 = .ok (.getfield 258, 3) := by decide +kernel
theorem dX10_onceLine_26 : decode cX10_onceLine 26 = .ok (.iconst 1, 1) := by decide +kernel
theorem dX10_onceLine_27 : decode cX10_onceLine 27 = .ok (.iload_n 1, 1) := by decide +kernel
theorem dX10_onceLine_28 : decode cX10_onceLine 28 = .ok (.ishl, 1) := by decide +kernel
theorem dX10_onceLine_29 : decode cX10_onceLine 29 = .ok (.ior, 1) := by decide +kernel
theorem dX10_onceLine_30 : decode cX10_onceLine 30 = .ok (.putfield 258, 3) := by decide +kernel
theorem dX10_onceLine_33 : decode cX10_onceLine 33 = .ok (.aload_n 0, 1) := by decide +kernel
theorem dX10_onceLine_34 : decode cX10_onceLine 34 = .ok (.iload_n 2, 1) := by decide +kernel
theorem dX10_onceLine_35 : decode cX10_onceLine 35 = .ok (.iload_n 3, 1) := by decide +kernel
theorem dX10_onceLine_36 : decode cX10_onceLine 36 = .ok (.invokevirtual 255, 3) := by decide +kernel
theorem dX10_onceLine_39 : decode cX10_onceLine 39 = .ok (.istore 4, 2) := by decide +kernel
theorem dX10_onceLine_41 : decode cX10_onceLine 41 = .ok (.aload_n 0, 1) := by decide +kernel
theorem dX10_onceLine_42 : decode cX10_onceLine 42 = .ok (.getfield 217, 3) := by decide +kernel
theorem dX10_onceLine_45 : decode cX10_onceLine 45 = .ok (.ifCond .ne 11, 3) := by decide +kernel
theorem dX10_onceLine_48 : decode cX10_onceLine 48 = .ok (.aload_n 0, 1) := by decide +kernel
theorem dX10_onceLine_49 : decode cX10_onceLine 49 = .ok (.getfield 7, 3) := by decide +kernel
theorem dX10_onceLine_52 : decode cX10_onceLine 52 = .ok (.iload_n 1, 1) := by decide +kernel
theorem dX10_onceLine_53 : decode cX10_onceLine 53 = .ok (.iload 4, 2) := by decide +kernel
theorem dX10_onceLine_55 : decode cX10_onceLine 55 = .ok (.iastore, 1) := by decide +kernel
theorem dX10_onceLine_56 : decode cX10_onceLine 56 = .ok (.return_, 1) := by decide +kernel
/-! X10_orderHere -/
theorem dX10_orderHere_0 : decode cX10_orderHere 0 = .ok (.aload_n 0, 1) := by decide +kernel
theorem dX10_orderHere_1 : decode cX10_orderHere 1 = .ok (.ldc_w 282, 3) := by decide +kernel
theorem dX10_orderHere_4 : decode cX10_orderHere 4 = .ok (.invokevirtual 266, 3) := by decide +kernel
theorem dX10_orderHere_7 : decode cX10_orderHere 7 = .ok (.ifCond .eq 5, 3) := by decide +kernel
theorem dX10_orderHere_10 : decode cX10_orderHere 10 = .ok (.iconst 0, 1) := by decide +kernel
theorem dX10_orderHere_11 : decode cX10_orderHere 11 = .ok (.ireturn, 1) := by decide +kernel
theorem dX10_orderHere_12 : decode cX10_orderHere 12 = .ok (.aload_n 0, 1) := by decide +kernel
theorem dX10_orderHere_13 : decode cX10_orderHere 13 = .ok (.ldc_w 310, 3) := by decide +kernel
theorem dX10_orderHere_16 : decode cX10_orderHere 16 = .ok (.invokevirtual 266, 3) := by decide +kernel
theorem dX10_orderHere_19 : decode cX10_orderHere 19 = .ok (.ifCond .eq 5, 3) := by decide +kernel
theorem dX10_orderHere_22 : decode cX10_orderHere 22 = .ok (.iconst 1, 1) := by decide +kernel
theorem dX10_orderHere_23 : decode cX10_orderHere 23 = .ok (.ireturn, 1) := by decide +kernel
theorem dX10_orderHere_24 : decode cX10_orderHere 24 = .ok (.aload_n 0, 1) := by decide +kernel
theorem dX10_orderHere_25 : decode cX10_orderHere 25 = .ok (.ldc_w 312, 3) := by decide +kernel
theorem dX10_orderHere_28 : decode cX10_orderHere 28 = .ok (.invokevirtual 266, 3) := by decide +kernel
theorem dX10_orderHere_31 : decode cX10_orderHere 31 = .ok (.ifCond .eq 5, 3) := by decide +kernel
theorem dX10_orderHere_34 : decode cX10_orderHere 34 = .ok (.iconst 2, 1) := by decide +kernel
theorem dX10_orderHere_35 : decode cX10_orderHere 35 = .ok (.ireturn, 1) := by decide +kernel
theorem dX10_orderHere_36 : decode cX10_orderHere 36 = .ok (.aload_n 0, 1) := by decide +kernel
theorem dX10_orderHere_37 : decode cX10_orderHere 37 = .ok (.ldc_w 314, 3) := by decide +kernel
theorem dX10_orderHere_40 : decode cX10_orderHere 40 = .ok (.invokevirtual 266, 3) := by decide +kernel
theorem dX10_orderHere_43 : decode cX10_orderHere 43 = .ok (.ifCond .eq 5, 3) := by decide +kernel
theorem dX10_orderHere_46 : decode cX10_orderHere 46 = .ok (.iconst 3, 1) := by decide +kernel
theorem dX10_orderHere_47 : decode cX10_orderHere 47 = .ok (.ireturn, 1) := by decide +kernel
theorem dX10_orderHere_48 : decode cX10_orderHere 48 = .ok (.aload_n 0, 1) := by decide +kernel
theorem dX10_orderHere_49 : decode cX10_orderHere 49 = .ok (.ldc_w 316, 3) := by decide +kernel
theorem dX10_orderHere_52 : decode cX10_orderHere 52 = .ok (.invokevirtual 266, 3) := by decide +kernel
theorem dX10_orderHere_55 : decode cX10_orderHere 55 = .ok (.ifCond .eq 5, 3) := by decide +kernel
theorem dX10_orderHere_58 : decode cX10_orderHere 58 = .ok (.iconst 4, 1) := by decide +kernel
theorem dX10_orderHere_59 : decode cX10_orderHere 59 = .ok (.ireturn, 1) := by decide +kernel
theorem dX10_orderHere_60 : decode cX10_orderHere 60 = .ok (.aload_n 0, 1) := by decide +kernel
theorem dX10_orderHere_61 : decode cX10_orderHere 61 = .ok (.ldc_w 318, 3) := by decide +kernel
theorem dX10_orderHere_64 : decode cX10_orderHere 64 = .ok (.invokevirtual 266, 3) := by decide +kernel
theorem dX10_orderHere_67 : decode cX10_orderHere 67 = .ok (.ifCond .eq 5, 3) := by decide +kernel
theorem dX10_orderHere_70 : decode cX10_orderHere 70 = .ok (.iconst 5, 1) := by decide +kernel
theorem dX10_orderHere_71 : decode cX10_orderHere 71 = .ok (.ireturn, 1) := by decide +kernel
theorem dX10_orderHere_72 : decode cX10_orderHere 72 = .ok (.aload_n 0, 1) := by decide +kernel
theorem dX10_orderHere_73 : decode cX10_orderHere 73 = .ok (.ldc_w 320, 3) := by decide +kernel
theorem dX10_orderHere_76 : decode cX10_orderHere 76 = .ok (.invokevirtual 266, 3) := by decide +kernel
theorem dX10_orderHere_79 : decode cX10_orderHere 79 = .ok (.ifCond .eq 8, 3) := by decide +kernel
theorem dX10_orderHere_82 : decode cX10_orderHere 82 = .ok (.bipush 6, 2) := by decide +kernel
theorem dX10_orderHere_84 : decode cX10_orderHere 84 = .ok (.goto 4, 3) := by decide +kernel
theorem dX10_orderHere_87 : decode cX10_orderHere 87 = .ok (.iconst (-1), 1) := by decide +kernel
theorem dX10_orderHere_88 : decode cX10_orderHere 88 = .ok (.ireturn, 1) := by decide +kernel
/-! X10_outputByte -/
theorem dX10_outputByte_0 : decode cX10_outputByte 0 = .ok (.aload_n 0, 1) := by decide +kernel
theorem dX10_outputByte_1 : decode cX10_outputByte 1 = .ok (.iconst 0, 1) := by decide +kernel
theorem dX10_outputByte_2 : decode cX10_outputByte 2 = .ok (.putfield 62, 3) := by decide +kernel
theorem dX10_outputByte_5 : decode cX10_outputByte 5 = .ok (.iload_n 1, 1) := by decide +kernel
theorem dX10_outputByte_6 : decode cX10_outputByte 6 = .ok (.i2l, 1) := by decide +kernel
theorem dX10_outputByte_7 : decode cX10_outputByte 7 = .ok (.lconst 0, 1) := by decide +kernel
theorem dX10_outputByte_8 : decode cX10_outputByte 8 = .ok (.aload_n 0, 1) := by decide +kernel
theorem dX10_outputByte_9 : decode cX10_outputByte 9 = .ok (.getfield 496, 3) := by decide +kernel
theorem dX10_outputByte_12 : decode cX10_outputByte 12 = .ok (.iconst 1, 1) := by decide +kernel
theorem dX10_outputByte_13 : decode cX10_outputByte 13 = .ok (.isub, 1) := by decide +kernel
theorem dX10_outputByte_14 : decode cX10_outputByte 14 = .ok (.i2l, 1) := by decide +kernel
theorem dX10_outputByte_15 : decode cX10_outputByte 15 = .ok (.invokestatic 65, 3) := by decide +kernel
theorem dX10_outputByte_18 : decode cX10_outputByte 18 = .ok (.ifCond .eq 12, 3) := by decide +kernel
theorem dX10_outputByte_21 : decode cX10_outputByte 21 = .ok (.aload_n 0, 1) := by decide +kernel
theorem dX10_outputByte_22 : decode cX10_outputByte 22 = .ok (.getfield 52, 3) := by decide +kernel
theorem dX10_outputByte_25 : decode cX10_outputByte 25 = .ok (.iload_n 1, 1) := by decide +kernel
theorem dX10_outputByte_26 : decode cX10_outputByte 26 = .ok (.iaload, 1) := by decide +kernel
theorem dX10_outputByte_27 : decode cX10_outputByte 27 = .ok (.goto 4, 3) := by decide +kernel
theorem dX10_outputByte_30 : decode cX10_outputByte 30 = .ok (.iconst (-1), 1) := by decide +kernel
theorem dX10_outputByte_31 : decode cX10_outputByte 31 = .ok (.ireturn, 1) := by decide +kernel
/-! X10_ownByte -/
theorem dX10_ownByte_0 : decode cX10_ownByte 0 = .ok (.aload_n 0, 1) := by decide +kernel
theorem dX10_ownByte_1 : decode cX10_ownByte 1 = .ok (.aload_n 0, 1) := by decide +kernel
theorem dX10_ownByte_2 : decode cX10_ownByte 2 = .ok (.iload_n 1, 1) := by decide +kernel
theorem dX10_ownByte_3 : decode cX10_ownByte 3 = .ok (.invokevirtual 342, 3) := by decide +kernel
theorem dX10_ownByte_6 : decode cX10_ownByte 6 = .ok (.invokevirtual 201, 3) := by decide +kernel
theorem dX10_ownByte_9 : decode cX10_ownByte 9 = .ok (.ifCond .ne 5, 3) := by decide +kernel
theorem dX10_ownByte_12 : decode cX10_ownByte 12 = .ok (.iconst 0, 1) := by decide +kernel
theorem dX10_ownByte_13 : decode cX10_ownByte 13 = .ok (.ireturn, 1) := by decide +kernel
theorem dX10_ownByte_14 : decode cX10_ownByte 14 = .ok (.iload_n 2, 1) := by decide +kernel
theorem dX10_ownByte_15 : decode cX10_ownByte 15 = .ok (.i2l, 1) := by decide +kernel
theorem dX10_ownByte_16 : decode cX10_ownByte 16 = .ok (.lconst 0, 1) := by decide +kernel
theorem dX10_ownByte_17 : decode cX10_ownByte 17 = .ok (.aload_n 0, 1) := by decide +kernel
theorem dX10_ownByte_18 : decode cX10_ownByte 18 = .ok (.iload_n 1, 1) := by decide +kernel
theorem dX10_ownByte_19 : decode cX10_ownByte 19 = .ok (.iconst 0, 1) := by decide +kernel
theorem dX10_ownByte_20 : decode cX10_ownByte 20 = .ok (.invokevirtual 69, 3) := by decide +kernel
theorem dX10_ownByte_23 : decode cX10_ownByte 23 = .ok (.iconst 1, 1) := by decide +kernel
theorem dX10_ownByte_24 : decode cX10_ownByte 24 = .ok (.isub, 1) := by decide +kernel
theorem dX10_ownByte_25 : decode cX10_ownByte 25 = .ok (.i2l, 1) := by decide +kernel
theorem dX10_ownByte_26 : decode cX10_ownByte 26 = .ok (.invokestatic 65, 3) := by decide +kernel
theorem dX10_ownByte_29 : decode cX10_ownByte 29 = .ok (.ifCond .eq 16, 3) := by decide +kernel
theorem dX10_ownByte_32 : decode cX10_ownByte 32 = .ok (.aload_n 0, 1) := by decide +kernel
theorem dX10_ownByte_33 : decode cX10_ownByte 33 = .ok (.iload_n 1, 1) := by decide +kernel
theorem dX10_ownByte_34 : decode cX10_ownByte 34 = .ok (.iconst 1, 1) := by decide +kernel
theorem dX10_ownByte_35 : decode cX10_ownByte 35 = .ok (.invokevirtual 69, 3) := by decide +kernel
theorem dX10_ownByte_38 : decode cX10_ownByte 38 = .ok (.iload_n 2, 1) := by decide +kernel
theorem dX10_ownByte_39 : decode cX10_ownByte 39 = .ok (.invokestatic 156, 3) := by decide +kernel
theorem dX10_ownByte_42 : decode cX10_ownByte 42 = .ok (.goto 4, 3) := by decide +kernel
theorem dX10_ownByte_45 : decode cX10_ownByte 45 = .ok (.iconst (-1), 1) := by decide +kernel
theorem dX10_ownByte_46 : decode cX10_ownByte 46 = .ok (.ireturn, 1) := by decide +kernel
/-! X10_ownOf -/
theorem dX10_ownOf_0 : decode cX10_ownOf 0 = .ok (.iload_n 0, 1) := by decide +kernel
theorem dX10_ownOf_1 : decode cX10_ownOf 1 = .ok (.bipush 31, 2) := by decide +kernel
theorem dX10_ownOf_3 : decode cX10_ownOf 3 = .ok (.iload_n 1, 1) := by decide +kernel
theorem dX10_ownOf_4 : decode cX10_ownOf 4 = .ok (.imul, 1) := by decide +kernel
theorem dX10_ownOf_5 : decode cX10_ownOf 5 = .ok (.iadd, 1) := by decide +kernel
theorem dX10_ownOf_6 : decode cX10_ownOf 6 = .ok (.sipush 256, 3) := by decide +kernel
theorem dX10_ownOf_9 : decode cX10_ownOf 9 = .ok (.irem, 1) := by decide +kernel
theorem dX10_ownOf_10 : decode cX10_ownOf 10 = .ok (.ireturn, 1) := by decide +kernel
/-! X10_packet -/
theorem dX10_packet_0 : decode cX10_packet 0 = .ok (.aload_n 0, 1) := by decide +kernel
theorem dX10_packet_1 : decode cX10_packet 1 = .ok (.iload_n 1, 1) := by decide +kernel
theorem dX10_packet_2 : decode cX10_packet 2 = .ok (.i2l, 1) := by decide +kernel
theorem dX10_packet_3 : decode cX10_packet 3 = .ok (.lconst 0, 1) := by decide +kernel
theorem dX10_packet_4 : decode cX10_packet 4 = .ok (.aload_n 0, 1) := by decide +kernel
theorem dX10_packet_5 : decode cX10_packet 5 = .ok (.getfield 7, 3) := by decide +kernel
theorem dX10_packet_8 : decode cX10_packet 8 = .ok (.bipush 8, 2) := by decide +kernel
theorem dX10_packet_10 : decode cX10_packet 10 = .ok (.iaload, 1) := by decide +kernel
theorem dX10_packet_11 : decode cX10_packet 11 = .ok (.iconst 1, 1) := by decide +kernel
theorem dX10_packet_12 : decode cX10_packet 12 = .ok (.isub, 1) := by decide +kernel
theorem dX10_packet_13 : decode cX10_packet 13 = .ok (.i2l, 1) := by decide +kernel
theorem dX10_packet_14 : decode cX10_packet 14 = .ok (.invokestatic 65, 3) := by decide +kernel
theorem dX10_packet_17 : decode cX10_packet 17 = .ok (.iload_n 2, 1) := by decide +kernel
theorem dX10_packet_18 : decode cX10_packet 18 = .ok (.i2l, 1) := by decide +kernel
theorem dX10_packet_19 : decode cX10_packet 19 = .ok (.lconst 0, 1) := by decide +kernel
theorem dX10_packet_20 : decode cX10_packet 20 = .ok (.ldc2_w 399, 3) := by decide +kernel
theorem dX10_packet_23 : decode cX10_packet 23 = .ok (.invokestatic 65, 3) := by decide +kernel
theorem dX10_packet_26 : decode cX10_packet 26 = .ok (.invokevirtual 386, 3) := by decide +kernel
theorem dX10_packet_29 : decode cX10_packet 29 = .ok (.ifCond .ne 5, 3) := by decide +kernel
theorem dX10_packet_32 : decode cX10_packet 32 = .ok (.iconst 0, 1) := by decide +kernel
theorem dX10_packet_33 : decode cX10_packet 33 = .ok (.ireturn, 1) := by decide +kernel
theorem dX10_packet_34 : decode cX10_packet 34 = .ok (.aload_n 0, 1) := by decide +kernel
theorem dX10_packet_35 : decode cX10_packet 35 = .ok (.aload_n 0, 1) := by decide +kernel
theorem dX10_packet_36 : decode cX10_packet 36 = .ok (.iload_n 1, 1) := by decide +kernel
theorem dX10_packet_37 : decode cX10_packet 37 = .ok (.invokevirtual 401, 3) := by decide +kernel
theorem dX10_packet_40 : decode cX10_packet 40 = .ok (.iload_n 2, 1) := by decide +kernel
theorem dX10_packet_41 : decode cX10_packet 41 = .ok (.invokevirtual 131, 3) := by decide +kernel
theorem dX10_packet_44 : decode cX10_packet 44 = .ok (.ireturn, 1) := by decide +kernel
/-! X10_packetsOn -/
theorem dX10_packetsOn_0 : decode cX10_packetsOn 0 = .ok (.iconst 0, 1) := by decide +kernel
theorem dX10_packetsOn_1 : decode cX10_packetsOn 1 = .ok (.istore_n 2, 1) := by decide +kernel
theorem dX10_packetsOn_2 : decode cX10_packetsOn 2 = .ok (.iconst 0, 1) := by decide +kernel
theorem dX10_packetsOn_3 : decode cX10_packetsOn 3 = .ok (.istore_n 3, 1) := by decide +kernel
theorem dX10_packetsOn_4 : decode cX10_packetsOn 4 = .ok (.iload_n 3, 1) := by decide +kernel
theorem dX10_packetsOn_5 : decode cX10_packetsOn 5 = .ok (.aload_n 0, 1) := by decide +kernel
theorem dX10_packetsOn_6 : decode cX10_packetsOn 6 = .ok (.getfield 7, 3) := by decide +kernel
theorem dX10_packetsOn_9 : decode cX10_packetsOn 9 = .ok (.bipush 8, 2) := by decide +kernel
theorem dX10_packetsOn_11 : decode cX10_packetsOn 11 = .ok (.iaload, 1) := by decide +kernel
theorem dX10_packetsOn_12 : decode cX10_packetsOn 12 = .ok (.if_icmp .ge 30, 3) := by decide +kernel
theorem dX10_packetsOn_15 : decode cX10_packetsOn 15 = .ok (.iload_n 2, 1) := by decide +kernel
theorem dX10_packetsOn_16 : decode cX10_packetsOn 16 = .ok (.aload_n 0, 1) := by decide +kernel
theorem dX10_packetsOn_17 : decode cX10_packetsOn 17 = .ok (.iload_n 3, 1) := by decide +kernel
theorem dX10_packetsOn_18 : decode cX10_packetsOn 18 = .ok (.iconst 0, 1) := by decide +kernel
theorem dX10_packetsOn_19 : decode cX10_packetsOn 19 = .ok (.invokevirtual 131, 3) := by decide +kernel
theorem dX10_packetsOn_22 : decode cX10_packetsOn 22 = .ok (.iload_n 1, 1) := by decide +kernel
theorem dX10_packetsOn_23 : decode cX10_packetsOn 23 = .ok (.if_icmp .ne 7, 3) := by decide +kernel
theorem dX10_packetsOn_26 : decode cX10_packetsOn 26 = .ok (.iconst 1, 1) := by decide +kernel
theorem dX10_packetsOn_27 : decode cX10_packetsOn 27 = .ok (.goto 4, 3) := by decide +kernel
theorem dX10_packetsOn_30 : decode cX10_packetsOn 30 = .ok (.iconst 0, 1) := by decide +kernel
theorem dX10_packetsOn_31 : decode cX10_packetsOn 31 = .ok (.invokestatic 104, 3) := by decide +kernel
theorem dX10_packetsOn_34 : decode cX10_packetsOn 34 = .ok (.iadd, 1) := by decide +kernel
theorem dX10_packetsOn_35 : decode cX10_packetsOn 35 = .ok (.istore_n 2, 1) := by decide +kernel
theorem dX10_packetsOn_36 : decode cX10_packetsOn 36 = .ok (.iinc 3 1, 3) := by decide +kernel
theorem dX10_packetsOn_39 : decode cX10_packetsOn 39 = .ok (.goto (-35), 3) := by decide +kernel
theorem dX10_packetsOn_42 : decode cX10_packetsOn 42 = .ok (.iload_n 2, 1) := by decide +kernel
theorem dX10_packetsOn_43 : decode cX10_packetsOn 43 = .ok (.ireturn, 1) := by decide +kernel
/-! X10_pass -/
theorem dX10_pass_0 : decode cX10_pass 0 = .ok (.aload_n 0, 1) := by decide +kernel
theorem dX10_pass_1 : decode cX10_pass 1 = .ok (.aload_n 0, 1) := by decide +kernel
theorem dX10_pass_2 : decode cX10_pass 2 = .ok (.iload_n 1, 1) := by decide +kernel
theorem dX10_pass_3 : decode cX10_pass 3 = .ok (.i2l, 1) := by decide +kernel
theorem dX10_pass_4 : decode cX10_pass 4 = .ok (.lconst 1, 1) := by decide +kernel
theorem dX10_pass_5 : decode cX10_pass 5 = .ok (.ldc2_w 494, 3) := by decide +kernel
theorem dX10_pass_8 : decode cX10_pass 8 = .ok (.invokestatic 65, 3) := by decide +kernel
theorem dX10_pass_11 : decode cX10_pass 11 = .ok (.invokevirtual 201, 3) := by decide +kernel
theorem dX10_pass_14 : decode cX10_pass 14 = .ok (.invokevirtual 474, 3) := by decide +kernel
theorem dX10_pass_17 : decode cX10_pass 17 = .ok (.ifCond .eq 15, 3) := by decide +kernel
theorem dX10_pass_20 : decode cX10_pass 20 = .ok (.aload_n 0, 1) := by decide +kernel
theorem dX10_pass_21 : decode cX10_pass 21 = .ok (.aload_n 0, 1) := by decide +kernel
theorem dX10_pass_22 : decode cX10_pass 22 = .ok (.iload_n 1, 1) := by decide +kernel
theorem dX10_pass_23 : decode cX10_pass 23 = .ok (.invokevirtual 355, 3) := by decide +kernel
theorem dX10_pass_26 : decode cX10_pass 26 = .ok (.invokevirtual 477, 3) := by decide +kernel
theorem dX10_pass_29 : decode cX10_pass 29 = .ok (.goto 4, 3) := by decide +kernel
theorem dX10_pass_32 : decode cX10_pass 32 = .ok (.iconst 0, 1) := by decide +kernel
theorem dX10_pass_33 : decode cX10_pass 33 = .ok (.ireturn, 1) := by decide +kernel
/-! X10_passNow -/
theorem dX10_passNow_0 : decode cX10_passNow 0 = .ok (.aload_n 0, 1) := by decide +kernel
theorem dX10_passNow_1 : decode cX10_passNow 1 = .ok (.getfield 7, 3) := by decide +kernel
theorem dX10_passNow_4 : decode cX10_passNow 4 = .ok (.iconst 2, 1) := by decide +kernel
theorem dX10_passNow_5 : decode cX10_passNow 5 = .ok (.iaload, 1) := by decide +kernel
theorem dX10_passNow_6 : decode cX10_passNow 6 = .ok (.iload_n 1, 1) := by decide +kernel
theorem dX10_passNow_7 : decode cX10_passNow 7 = .ok (.iadd, 1) := by decide +kernel
theorem dX10_passNow_8 : decode cX10_passNow 8 = .ok (.sipush 9999, 3) := by decide +kernel
theorem dX10_passNow_11 : decode cX10_passNow 11 = .ok (.if_icmp .le 6, 3) := by decide +kernel
theorem dX10_passNow_14 : decode cX10_passNow 14 = .ok (.bipush (-3), 2) := by decide +kernel
theorem dX10_passNow_16 : decode cX10_passNow 16 = .ok (.ireturn, 1) := by decide +kernel
theorem dX10_passNow_17 : decode cX10_passNow 17 = .ok (.aload_n 0, 1) := by decide +kernel
theorem dX10_passNow_18 : decode cX10_passNow 18 = .ok (.iconst 1, 1) := by decide +kernel
theorem dX10_passNow_19 : decode cX10_passNow 19 = .ok (.iconst 2, 1) := by decide +kernel
theorem dX10_passNow_20 : decode cX10_passNow 20 = .ok (.invokevirtual 381, 3) := by decide +kernel
theorem dX10_passNow_23 : decode cX10_passNow 23 = .ok (.istore_n 2, 1) := by decide +kernel
theorem dX10_passNow_24 : decode cX10_passNow 24 = .ok (.aload_n 0, 1) := by decide +kernel
theorem dX10_passNow_25 : decode cX10_passNow 25 = .ok (.iload_n 1, 1) := by decide +kernel
theorem dX10_passNow_26 : decode cX10_passNow 26 = .ok (.invokevirtual 465, 3) := by decide +kernel
theorem dX10_passNow_29 : decode cX10_passNow 29 = .ok (.aload_n 0, 1) := by decide +kernel
theorem dX10_passNow_30 : decode cX10_passNow 30 = .ok (.iconst 1, 1) := by decide +kernel
theorem dX10_passNow_31 : decode cX10_passNow 31 = .ok (.iconst 2, 1) := by decide +kernel
theorem dX10_passNow_32 : decode cX10_passNow 32 = .ok (.invokevirtual 381, 3) := by decide +kernel
theorem dX10_passNow_35 : decode cX10_passNow 35 = .ok (.iload_n 2, 1) := by decide +kernel
theorem dX10_passNow_36 : decode cX10_passNow 36 = .ok (.isub, 1) := by decide +kernel
theorem dX10_passNow_37 : decode cX10_passNow 37 = .ok (.ireturn, 1) := by decide +kernel
/-! X10_passes -/
theorem dX10_passes_0 : decode cX10_passes 0 = .ok (.aload_n 0, 1) := by decide +kernel
theorem dX10_passes_1 : decode cX10_passes 1 = .ok (.iload_n 1, 1) := by decide +kernel
theorem dX10_passes_2 : decode cX10_passes 2 = .ok (.ifCond .eq 7, 3) := by decide +kernel
theorem dX10_passes_5 : decode cX10_passes 5 = .ok (.iconst 0, 1) := by decide +kernel
theorem dX10_passes_6 : decode cX10_passes 6 = .ok (.goto 4, 3) := by decide +kernel
theorem dX10_passes_9 : decode cX10_passes 9 = .ok (.iconst 1, 1) := by decide +kernel
theorem dX10_passes_10 : decode cX10_passes 10 = .ok (.putfield 62, 3) := by decide +kernel
theorem dX10_passes_13 : decode cX10_passes 13 = .ok (.iload_n 1, 1) := by decide +kernel
theorem dX10_passes_14 : decode cX10_passes 14 = .ok (.ireturn, 1) := by decide +kernel
/-! X10_passesBoth -/
theorem dX10_passesBoth_0 : decode cX10_passesBoth 0 = .ok (.aload_n 0, 1) := by decide +kernel
theorem dX10_passesBoth_1 : decode cX10_passesBoth 1 = .ok (.iload_n 1, 1) := by decide +kernel
theorem dX10_passesBoth_2 : decode cX10_passesBoth 2 = .ok (.ifCond .ne 7, 3) := by decide +kernel
theorem dX10_passesBoth_5 : decode cX10_passesBoth 5 = .ok (.iconst 1, 1) := by decide +kernel
theorem dX10_passesBoth_6 : decode cX10_passesBoth 6 = .ok (.goto 12, 3) := by decide +kernel
theorem dX10_passesBoth_9 : decode cX10_passesBoth 9 = .ok (.iload_n 2, 1) := by decide +kernel
theorem dX10_passesBoth_10 : decode cX10_passesBoth 10 = .ok (.ifCond .ne 7, 3) := by decide +kernel
theorem dX10_passesBoth_13 : decode cX10_passesBoth 13 = .ok (.iconst 2, 1) := by decide +kernel
theorem dX10_passesBoth_14 : decode cX10_passesBoth 14 = .ok (.goto 4, 3) := by decide +kernel
theorem dX10_passesBoth_17 : decode cX10_passesBoth 17 = .ok (.iconst 0, 1) := by decide +kernel
theorem dX10_passesBoth_18 : decode cX10_passesBoth 18 = .ok (.putfield 62, 3) := by decide +kernel
theorem dX10_passesBoth_21 : decode cX10_passesBoth 21 = .ok (.aload_n 0, 1) := by decide +kernel
theorem dX10_passesBoth_22 : decode cX10_passesBoth 22 = .ok (.getfield 62, 3) := by decide +kernel
theorem dX10_passesBoth_25 : decode cX10_passesBoth 25 = .ok (.ifCond .ne 7, 3) := by decide +kernel
theorem dX10_passesBoth_28 : decode cX10_passesBoth 28 = .ok (.iconst 1, 1) := by decide +kernel
theorem dX10_passesBoth_29 : decode cX10_passesBoth 29 = .ok (.goto 4, 3) := by decide +kernel
theorem dX10_passesBoth_32 : decode cX10_passesBoth 32 = .ok (.iconst 0, 1) := by decide +kernel
theorem dX10_passesBoth_33 : decode cX10_passesBoth 33 = .ok (.ireturn, 1) := by decide +kernel
/-! X10_pathIn -/
theorem dX10_pathIn_0 : decode cX10_pathIn 0 = .ok (.aload_n 0, 1) := by decide +kernel
theorem dX10_pathIn_1 : decode cX10_pathIn 1 = .ok (.iload_n 1, 1) := by decide +kernel
theorem dX10_pathIn_2 : decode cX10_pathIn 2 = .ok (.i2l, 1) := by decide +kernel
theorem dX10_pathIn_3 : decode cX10_pathIn 3 = .ok (.lconst 0, 1) := by decide +kernel
theorem dX10_pathIn_4 : decode cX10_pathIn 4 = .ok (.ldc2_w 463, 3) := by decide +kernel
theorem dX10_pathIn_7 : decode cX10_pathIn 7 = .ok (.invokestatic 65, 3) := by decide +kernel
theorem dX10_pathIn_10 : decode cX10_pathIn 10 = .ok (.invokevirtual 201, 3) := by decide +kernel
theorem dX10_pathIn_13 : decode cX10_pathIn 13 = .ok (.ifCond .ne 5, 3) := by decide +kernel
theorem dX10_pathIn_16 : decode cX10_pathIn 16 = .ok (.iconst 0, 1) := by decide +kernel
theorem dX10_pathIn_17 : decode cX10_pathIn 17 = .ok (.ireturn, 1) := by decide +kernel
theorem dX10_pathIn_18 : decode cX10_pathIn 18 = .ok (.aload_n 0, 1) := by decide +kernel
theorem dX10_pathIn_19 : decode cX10_pathIn 19 = .ok (.invokevirtual 448, 3) := by decide +kernel
theorem dX10_pathIn_22 : decode cX10_pathIn 22 = .ok (.aload_n 0, 1) := by decide +kernel
theorem dX10_pathIn_23 : decode cX10_pathIn 23 = .ok (.iload_n 1, 1) := by decide +kernel
theorem dX10_pathIn_24 : decode cX10_pathIn 24 = .ok (.invokevirtual 465, 3) := by decide +kernel
theorem dX10_pathIn_27 : decode cX10_pathIn 27 = .ok (.aload_n 0, 1) := by decide +kernel
theorem dX10_pathIn_28 : decode cX10_pathIn 28 = .ok (.aload_n 0, 1) := by decide +kernel
theorem dX10_pathIn_29 : decode cX10_pathIn 29 = .ok (.getfield 7, 3) := by decide +kernel
theorem dX10_pathIn_32 : decode cX10_pathIn 32 = .ok (.iconst 5, 1) := by decide +kernel
theorem dX10_pathIn_33 : decode cX10_pathIn 33 = .ok (.iaload, 1) := by decide +kernel
theorem dX10_pathIn_34 : decode cX10_pathIn 34 = .ok (.invokevirtual 454, 3) := by decide +kernel
theorem dX10_pathIn_37 : decode cX10_pathIn 37 = .ok (.ireturn, 1) := by decide +kernel
/-! X10_pieceComes -/
theorem dX10_pieceComes_0 : decode cX10_pieceComes 0 = .ok (.aload_n 0, 1) := by decide +kernel
theorem dX10_pieceComes_1 : decode cX10_pieceComes 1 = .ok (.iconst 5, 1) := by decide +kernel
theorem dX10_pieceComes_2 : decode cX10_pieceComes 2 = .ok (.iconst 1, 1) := by decide +kernel
theorem dX10_pieceComes_3 : decode cX10_pieceComes 3 = .ok (.invokevirtual 87, 3) := by decide +kernel
theorem dX10_pieceComes_6 : decode cX10_pieceComes 6 = .ok (.aload_n 0, 1) := by decide +kernel
theorem dX10_pieceComes_7 : decode cX10_pieceComes 7 = .ok (.iload_n 1, 1) := by decide +kernel
theorem dX10_pieceComes_8 : decode cX10_pieceComes 8 = .ok (.invokevirtual 91, 3) := by decide +kernel
theorem dX10_pieceComes_11 : decode cX10_pieceComes 11 = .ok (.ifCond .ne 11, 3) := by decide +kernel
theorem dX10_pieceComes_14 : decode cX10_pieceComes 14 = .ok (.aload_n 0, 1) := by decide +kernel
theorem dX10_pieceComes_15 : decode cX10_pieceComes 15 = .ok (.bipush 6, 2) := by decide +kernel
theorem dX10_pieceComes_17 : decode cX10_pieceComes 17 = .ok (.iconst 1, 1) := by decide +kernel
theorem dX10_pieceComes_18 : decode cX10_pieceComes 18 = .ok (.invokevirtual 87, 3) := by decide +kernel
theorem dX10_pieceComes_21 : decode cX10_pieceComes 21 = .ok (.return_, 1) := by decide +kernel
theorem dX10_pieceComes_22 : decode cX10_pieceComes 22 = .ok (.aload_n 0, 1) := by decide +kernel
theorem dX10_pieceComes_23 : decode cX10_pieceComes 23 = .ok (.iload_n 1, 1) := by decide +kernel
theorem dX10_pieceComes_24 : decode cX10_pieceComes 24 = .ok (.invokevirtual 137, 3) := by decide +kernel
theorem dX10_pieceComes_27 : decode cX10_pieceComes 27 = .ok (.iconst (-1), 1) := by decide +kernel
theorem dX10_pieceComes_28 : decode cX10_pieceComes 28 = .ok (.if_icmp .ne 11, 3) := by decide +kernel
theorem dX10_pieceComes_31 : decode cX10_pieceComes 31 = .ok (.aload_n 0, 1) := by decide +kernel
theorem dX10_pieceComes_32 : decode cX10_pieceComes 32 = .ok (.iload_n 1, 1) := by decide +kernel
theorem dX10_pieceComes_33 : decode cX10_pieceComes 33 = .ok (.invokevirtual 159, 3) := by decide +kernel
theorem dX10_pieceComes_36 : decode cX10_pieceComes 36 = .ok (.goto 8, 3) := by decide +kernel
theorem dX10_pieceComes_39 : decode cX10_pieceComes 39 = .ok (.aload_n 0, 1) := by decide +kernel
theorem dX10_pieceComes_40 : decode cX10_pieceComes 40 = .ok (.iload_n 1, 1) := by decide +kernel
theorem dX10_pieceComes_41 : decode cX10_pieceComes 41 = .ok (.invokevirtual 137, 3) := by decide +kernel
theorem dX10_pieceComes_44 : decode cX10_pieceComes 44 = .ok (.istore 6, 2) := by decide +kernel
theorem dX10_pieceComes_46 : decode cX10_pieceComes 46 = .ok (.aload_n 0, 1) := by decide +kernel
theorem dX10_pieceComes_47 : decode cX10_pieceComes 47 = .ok (.iload 6, 2) := by decide +kernel
theorem dX10_pieceComes_49 : decode cX10_pieceComes 49 = .ok (.iconst 4, 1) := by decide +kernel
theorem dX10_pieceComes_50 : decode cX10_pieceComes 50 = .ok (.aload_n 0, 1) := by decide +kernel
theorem dX10_pieceComes_51 : decode cX10_pieceComes 51 = .ok (.iload 6, 2) := by decide +kernel
theorem dX10_pieceComes_53 : decode cX10_pieceComes 53 = .ok (.iconst 4, 1) := by decide +kernel
theorem dX10_pieceComes_54 : decode cX10_pieceComes 54 = .ok (.invokevirtual 134, 3) := by decide +kernel
theorem dX10_pieceComes_57 : decode cX10_pieceComes 57 = .ok (.iconst 1, 1) := by decide +kernel
theorem dX10_pieceComes_58 : decode cX10_pieceComes 58 = .ok (.iadd, 1) := by decide +kernel
theorem dX10_pieceComes_59 : decode cX10_pieceComes 59 = .ok (.invokevirtual 140, 3) := by decide +kernel
theorem dX10_pieceComes_62 : decode cX10_pieceComes 62 = .ok (.iload_n 2, 1) := by decide +kernel
theorem dX10_pieceComes_63 : decode cX10_pieceComes 63 = .ok (.iload_n 3, 1) := by decide +kernel
theorem dX10_pieceComes_64 : decode cX10_pieceComes 64 = .ok (.iadd, 1) := by decide +kernel
theorem dX10_pieceComes_65 : decode cX10_pieceComes 65 = .ok (.istore 7, 2) := by decide +kernel
theorem dX10_pieceComes_67 : decode cX10_pieceComes 67 = .ok (.aload_n 0, 1) := by decide +kernel
theorem dX10_pieceComes_68 : decode cX10_pieceComes 68 = .ok (.iload 6, 2) := by decide +kernel
theorem dX10_pieceComes_70 : decode cX10_pieceComes 70 = .ok (.iconst 2, 1) := by decide +kernel
theorem dX10_pieceComes_71 : decode cX10_pieceComes 71 = .ok (.invokevirtual 134, 3) := by decide +kernel
theorem dX10_pieceComes_74 : decode cX10_pieceComes 74 = .ok (.istore 8, 2) := by decide +kernel
theorem dX10_pieceComes_76 : decode cX10_pieceComes 76 = .ok (.iload 4, 2) := by decide +kernel
theorem dX10_pieceComes_78 : decode cX10_pieceComes 78 = .ok (.ifCond .eq 24, 3) := by decide +kernel
theorem dX10_pieceComes_81 : decode cX10_pieceComes 81 = .ok (.iload 8, 2) := by decide +kernel
theorem dX10_pieceComes_83 : decode cX10_pieceComes 83 = .ok (.iconst (-1), 1) := by decide +kernel
theorem dX10_pieceComes_84 : decode cX10_pieceComes 84 = .ok (.if_icmp .eq 14, 3) := by decide +kernel
theorem dX10_pieceComes_87 : decode cX10_pieceComes 87 = .ok (.iload 8, 2) := by decide +kernel
theorem dX10_pieceComes_89 : decode cX10_pieceComes 89 = .ok (.iload 7, 2) := by decide +kernel
theorem dX10_pieceComes_91 : decode cX10_pieceComes 91 = .ok (.if_icmp .ge 7, 3) := by decide +kernel
theorem dX10_pieceComes_94 : decode cX10_pieceComes 94 = .ok (.iconst 1, 1) := by decide +kernel
theorem dX10_pieceComes_95 : decode cX10_pieceComes 95 = .ok (.goto 36, 3) := by decide +kernel
theorem dX10_pieceComes_98 : decode cX10_pieceComes 98 = .ok (.iconst 0, 1) := by decide +kernel
theorem dX10_pieceComes_99 : decode cX10_pieceComes 99 = .ok (.goto 32, 3) := by decide +kernel
theorem dX10_pieceComes_102 : decode cX10_pieceComes 102 = .ok (.iload 8, 2) := by decide +kernel
theorem dX10_pieceComes_104 : decode cX10_pieceComes 104 = .ok (.iconst (-1), 1) := by decide +kernel
theorem dX10_pieceComes_105 : decode cX10_pieceComes 105 = .ok (.if_icmp .eq 10, 3) := by decide +kernel
theorem dX10_pieceComes_108 : decode cX10_pieceComes 108 = .ok (.iload 8, 2) := by decide +kernel
theorem dX10_pieceComes_110 : decode cX10_pieceComes 110 = .ok (.iload 7, 2) := by decide +kernel
theorem dX10_pieceComes_112 : decode cX10_pieceComes 112 = .ok (.if_icmp .ne 14, 3) := by decide +kernel
theorem dX10_pieceComes_115 : decode cX10_pieceComes 115 = .ok (.aload_n 0, 1) := by decide +kernel
theorem dX10_pieceComes_116 : decode cX10_pieceComes 116 = .ok (.iload 6, 2) := by decide +kernel
theorem dX10_pieceComes_118 : decode cX10_pieceComes 118 = .ok (.invokevirtual 162, 3) := by decide +kernel
theorem dX10_pieceComes_121 : decode cX10_pieceComes 121 = .ok (.iload 7, 2) := by decide +kernel
theorem dX10_pieceComes_123 : decode cX10_pieceComes 123 = .ok (.if_icmp .le 7, 3) := by decide +kernel
theorem dX10_pieceComes_126 : decode cX10_pieceComes 126 = .ok (.iconst 1, 1) := by decide +kernel
theorem dX10_pieceComes_127 : decode cX10_pieceComes 127 = .ok (.goto 4, 3) := by decide +kernel
theorem dX10_pieceComes_130 : decode cX10_pieceComes 130 = .ok (.iconst 0, 1) := by decide +kernel
theorem dX10_pieceComes_131 : decode cX10_pieceComes 131 = .ok (.istore 9, 2) := by decide +kernel
theorem dX10_pieceComes_133 : decode cX10_pieceComes 133 = .ok (.iload 9, 2) := by decide +kernel
theorem dX10_pieceComes_135 : decode cX10_pieceComes 135 = .ok (.ifCond .eq 11, 3) := by decide +kernel
theorem dX10_pieceComes_138 : decode cX10_pieceComes 138 = .ok (.aload_n 0, 1) := by decide +kernel
theorem dX10_pieceComes_139 : decode cX10_pieceComes 139 = .ok (.iload_n 1, 1) := by decide +kernel
theorem dX10_pieceComes_140 : decode cX10_pieceComes 140 = .ok (.iconst 3, 1) := by decide +kernel
theorem dX10_pieceComes_141 : decode cX10_pieceComes 141 = .ok (.iconst 3, 1) := by decide +kernel
theorem dX10_pieceComes_142 : decode cX10_pieceComes 142 = .ok (.invokevirtual 150, 3) := by decide +kernel
theorem dX10_pieceComes_145 : decode cX10_pieceComes 145 = .ok (.return_, 1) := by decide +kernel
theorem dX10_pieceComes_146 : decode cX10_pieceComes 146 = .ok (.iload 4, 2) := by decide +kernel
theorem dX10_pieceComes_148 : decode cX10_pieceComes 148 = .ok (.ifCond .ne 12, 3) := by decide +kernel
theorem dX10_pieceComes_151 : decode cX10_pieceComes 151 = .ok (.aload_n 0, 1) := by decide +kernel
theorem dX10_pieceComes_152 : decode cX10_pieceComes 152 = .ok (.iload 6, 2) := by decide +kernel
theorem dX10_pieceComes_154 : decode cX10_pieceComes 154 = .ok (.iconst 2, 1) := by decide +kernel
theorem dX10_pieceComes_155 : decode cX10_pieceComes 155 = .ok (.iload 7, 2) := by decide +kernel
theorem dX10_pieceComes_157 : decode cX10_pieceComes 157 = .ok (.invokevirtual 140, 3) := by decide +kernel
theorem dX10_pieceComes_160 : decode cX10_pieceComes 160 = .ok (.aload_n 0, 1) := by decide +kernel
theorem dX10_pieceComes_161 : decode cX10_pieceComes 161 = .ok (.iload 6, 2) := by decide +kernel
theorem dX10_pieceComes_163 : decode cX10_pieceComes 163 = .ok (.iload_n 1, 1) := by decide +kernel
theorem dX10_pieceComes_164 : decode cX10_pieceComes 164 = .ok (.iload_n 2, 1) := by decide +kernel
theorem dX10_pieceComes_165 : decode cX10_pieceComes 165 = .ok (.iload_n 3, 1) := by decide +kernel
theorem dX10_pieceComes_166 : decode cX10_pieceComes 166 = .ok (.iload 5, 2) := by decide +kernel
theorem dX10_pieceComes_168 : decode cX10_pieceComes 168 = .ok (.invokevirtual 165, 3) := by decide +kernel
theorem dX10_pieceComes_171 : decode cX10_pieceComes 171 = .ok (.ifCond .ne 11, 3) := by decide +kernel
theorem dX10_pieceComes_174 : decode cX10_pieceComes 174 = .ok (.aload_n 0, 1) := by decide +kernel
theorem dX10_pieceComes_175 : decode cX10_pieceComes 175 = .ok (.iload_n 1, 1) := by decide +kernel
theorem dX10_pieceComes_176 : decode cX10_pieceComes 176 = .ok (.iconst 3, 1) := by decide +kernel
theorem dX10_pieceComes_177 : decode cX10_pieceComes 177 = .ok (.iconst 4, 1) := by decide +kernel
theorem dX10_pieceComes_178 : decode cX10_pieceComes 178 = .ok (.invokevirtual 150, 3) := by decide +kernel
theorem dX10_pieceComes_181 : decode cX10_pieceComes 181 = .ok (.return_, 1) := by decide +kernel
theorem dX10_pieceComes_182 : decode cX10_pieceComes 182 = .ok (.aload_n 0, 1) := by decide +kernel
theorem dX10_pieceComes_183 : decode cX10_pieceComes 183 = .ok (.iload 6, 2) := by decide +kernel
theorem dX10_pieceComes_185 : decode cX10_pieceComes 185 = .ok (.invokevirtual 169, 3) := by decide +kernel
theorem dX10_pieceComes_188 : decode cX10_pieceComes 188 = .ok (.ifCond .ne 4, 3) := by decide +kernel
theorem dX10_pieceComes_191 : decode cX10_pieceComes 191 = .ok (.return_, 1) := by decide +kernel
theorem dX10_pieceComes_192 : decode cX10_pieceComes 192 = .ok (.aload_n 0, 1) := by decide +kernel
theorem dX10_pieceComes_193 : decode cX10_pieceComes 193 = .ok (.bipush 11, 2) := by decide +kernel
theorem dX10_pieceComes_195 : decode cX10_pieceComes 195 = .ok (.aload_n 0, 1) := by decide +kernel
theorem dX10_pieceComes_196 : decode cX10_pieceComes 196 = .ok (.iload 6, 2) := by decide +kernel
theorem dX10_pieceComes_198 : decode cX10_pieceComes 198 = .ok (.iconst 2, 1) := by decide +kernel
theorem dX10_pieceComes_199 : decode cX10_pieceComes 199 = .ok (.invokevirtual 134, 3) := by decide +kernel
theorem dX10_pieceComes_202 : decode cX10_pieceComes 202 = .ok (.invokevirtual 87, 3) := by decide +kernel
theorem dX10_pieceComes_205 : decode cX10_pieceComes 205 = .ok (.aload_n 0, 1) := by decide +kernel
theorem dX10_pieceComes_206 : decode cX10_pieceComes 206 = .ok (.iload_n 1, 1) := by decide +kernel
theorem dX10_pieceComes_207 : decode cX10_pieceComes 207 = .ok (.aload_n 0, 1) := by decide +kernel
theorem dX10_pieceComes_208 : decode cX10_pieceComes 208 = .ok (.iload 6, 2) := by decide +kernel
theorem dX10_pieceComes_210 : decode cX10_pieceComes 210 = .ok (.iload_n 1, 1) := by decide +kernel
theorem dX10_pieceComes_211 : decode cX10_pieceComes 211 = .ok (.invokevirtual 172, 3) := by decide +kernel
theorem dX10_pieceComes_214 : decode cX10_pieceComes 214 = .ok (.ifCond .eq 7, 3) := by decide +kernel
theorem dX10_pieceComes_217 : decode cX10_pieceComes 217 = .ok (.iconst 1, 1) := by decide +kernel
theorem dX10_pieceComes_218 : decode cX10_pieceComes 218 = .ok (.goto 4, 3) := by decide +kernel
theorem dX10_pieceComes_221 : decode cX10_pieceComes 221 = .ok (.iconst 2, 1) := by decide +kernel
theorem dX10_pieceComes_222 : decode cX10_pieceComes 222 = .ok (.iconst 0, 1) := by decide +kernel
theorem dX10_pieceComes_223 : decode cX10_pieceComes 223 = .ok (.invokevirtual 150, 3) := by decide +kernel
theorem dX10_pieceComes_226 : decode cX10_pieceComes 226 = .ok (.return_, 1) := by decide +kernel
/-! X10_pieces -/
theorem dX10_pieces_0 : decode cX10_pieces 0 = .ok (.aload_n 0, 1) := by decide +kernel
theorem dX10_pieces_1 : decode cX10_pieces 1 = .ok (.aload_n 0, 1) := by decide +kernel
theorem dX10_pieces_2 : decode cX10_pieces 2 = .ok (.iload_n 2, 1) := by decide +kernel
theorem dX10_pieces_3 : decode cX10_pieces 3 = .ok (.invokevirtual 358, 3) := by decide +kernel
theorem dX10_pieces_6 : decode cX10_pieces 6 = .ok (.iload_n 1, 1) := by decide +kernel
theorem dX10_pieces_7 : decode cX10_pieces 7 = .ok (.i2l, 1) := by decide +kernel
theorem dX10_pieces_8 : decode cX10_pieces 8 = .ok (.lconst 1, 1) := by decide +kernel
theorem dX10_pieces_9 : decode cX10_pieces 9 = .ok (.ldc2_w 432, 3) := by decide +kernel
theorem dX10_pieces_12 : decode cX10_pieces 12 = .ok (.invokestatic 65, 3) := by decide +kernel
theorem dX10_pieces_15 : decode cX10_pieces 15 = .ok (.invokevirtual 386, 3) := by decide +kernel
theorem dX10_pieces_18 : decode cX10_pieces 18 = .ok (.ifCond .ne 5, 3) := by decide +kernel
theorem dX10_pieces_21 : decode cX10_pieces 21 = .ok (.iconst 0, 1) := by decide +kernel
theorem dX10_pieces_22 : decode cX10_pieces 22 = .ok (.ireturn, 1) := by decide +kernel
theorem dX10_pieces_23 : decode cX10_pieces 23 = .ok (.aload_n 0, 1) := by decide +kernel
theorem dX10_pieces_24 : decode cX10_pieces 24 = .ok (.iload_n 1, 1) := by decide +kernel
theorem dX10_pieces_25 : decode cX10_pieces 25 = .ok (.invokevirtual 434, 3) := by decide +kernel
theorem dX10_pieces_28 : decode cX10_pieces 28 = .ok (.iconst 0, 1) := by decide +kernel
theorem dX10_pieces_29 : decode cX10_pieces 29 = .ok (.istore_n 3, 1) := by decide +kernel
theorem dX10_pieces_30 : decode cX10_pieces 30 = .ok (.iload_n 3, 1) := by decide +kernel
theorem dX10_pieces_31 : decode cX10_pieces 31 = .ok (.iload_n 2, 1) := by decide +kernel
theorem dX10_pieces_32 : decode cX10_pieces 32 = .ok (.if_icmp .gt 14, 3) := by decide +kernel
theorem dX10_pieces_35 : decode cX10_pieces 35 = .ok (.aload_n 0, 1) := by decide +kernel
theorem dX10_pieces_36 : decode cX10_pieces 36 = .ok (.iload_n 3, 1) := by decide +kernel
theorem dX10_pieces_37 : decode cX10_pieces 37 = .ok (.invokevirtual 437, 3) := by decide +kernel
theorem dX10_pieces_40 : decode cX10_pieces 40 = .ok (.iinc 3 1, 3) := by decide +kernel
theorem dX10_pieces_43 : decode cX10_pieces 43 = .ok (.goto (-13), 3) := by decide +kernel
theorem dX10_pieces_46 : decode cX10_pieces 46 = .ok (.aload_n 0, 1) := by decide +kernel
theorem dX10_pieces_47 : decode cX10_pieces 47 = .ok (.getfield 426, 3) := by decide +kernel
theorem dX10_pieces_50 : decode cX10_pieces 50 = .ok (.ireturn, 1) := by decide +kernel
/-! X10_probe -/
theorem dX10_probe_0 : decode cX10_probe 0 = .ok (.aload_n 0, 1) := by decide +kernel
theorem dX10_probe_1 : decode cX10_probe 1 = .ok (.aload_n 0, 1) := by decide +kernel
theorem dX10_probe_2 : decode cX10_probe 2 = .ok (.iload_n 1, 1) := by decide +kernel
theorem dX10_probe_3 : decode cX10_probe 3 = .ok (.i2l, 1) := by decide +kernel
theorem dX10_probe_4 : decode cX10_probe 4 = .ok (.ldc2_w 480, 3) := by decide +kernel
theorem dX10_probe_7 : decode cX10_probe 7 = .ok (.ldc2_w 482, 3) := by decide +kernel
theorem dX10_probe_10 : decode cX10_probe 10 = .ok (.invokestatic 65, 3) := by decide +kernel
theorem dX10_probe_13 : decode cX10_probe 13 = .ok (.invokevirtual 201, 3) := by decide +kernel
theorem dX10_probe_16 : decode cX10_probe 16 = .ok (.invokevirtual 474, 3) := by decide +kernel
theorem dX10_probe_19 : decode cX10_probe 19 = .ok (.ifCond .eq 15, 3) := by decide +kernel
theorem dX10_probe_22 : decode cX10_probe 22 = .ok (.aload_n 0, 1) := by decide +kernel
theorem dX10_probe_23 : decode cX10_probe 23 = .ok (.aload_n 0, 1) := by decide +kernel
theorem dX10_probe_24 : decode cX10_probe 24 = .ok (.iload_n 1, 1) := by decide +kernel
theorem dX10_probe_25 : decode cX10_probe 25 = .ok (.invokevirtual 348, 3) := by decide +kernel
theorem dX10_probe_28 : decode cX10_probe 28 = .ok (.invokevirtual 477, 3) := by decide +kernel
theorem dX10_probe_31 : decode cX10_probe 31 = .ok (.goto 4, 3) := by decide +kernel
theorem dX10_probe_34 : decode cX10_probe 34 = .ok (.iconst 0, 1) := by decide +kernel
theorem dX10_probe_35 : decode cX10_probe 35 = .ok (.ireturn, 1) := by decide +kernel
/-! X10_probeNow -/
theorem dX10_probeNow_0 : decode cX10_probeNow 0 = .ok (.aload_n 0, 1) := by decide +kernel
theorem dX10_probeNow_1 : decode cX10_probeNow 1 = .ok (.iconst 0, 1) := by decide +kernel
theorem dX10_probeNow_2 : decode cX10_probeNow 2 = .ok (.iconst (-1), 1) := by decide +kernel
theorem dX10_probeNow_3 : decode cX10_probeNow 3 = .ok (.iconst (-1), 1) := by decide +kernel
theorem dX10_probeNow_4 : decode cX10_probeNow 4 = .ok (.iload_n 1, 1) := by decide +kernel
theorem dX10_probeNow_5 : decode cX10_probeNow 5 = .ok (.iconst 0, 1) := by decide +kernel
theorem dX10_probeNow_6 : decode cX10_probeNow 6 = .ok (.iconst 1, 1) := by decide +kernel
theorem dX10_probeNow_7 : decode cX10_probeNow 7 = .ok (.invokevirtual 83, 3) := by decide +kernel
theorem dX10_probeNow_10 : decode cX10_probeNow 10 = .ok (.aload_n 0, 1) := by decide +kernel
theorem dX10_probeNow_11 : decode cX10_probeNow 11 = .ok (.getfield 7, 3) := by decide +kernel
theorem dX10_probeNow_14 : decode cX10_probeNow 14 = .ok (.bipush 8, 2) := by decide +kernel
theorem dX10_probeNow_16 : decode cX10_probeNow 16 = .ok (.iaload, 1) := by decide +kernel
theorem dX10_probeNow_17 : decode cX10_probeNow 17 = .ok (.ireturn, 1) := by decide +kernel
/-! X10_puts -/
theorem dX10_puts_0 : decode cX10_puts 0 = .ok (.aload_n 0, 1) := by decide +kernel
theorem dX10_puts_1 : decode cX10_puts 1 = .ok (.iload_n 1, 1) := by decide +kernel
theorem dX10_puts_2 : decode cX10_puts 2 = .ok (.iconst 0, 1) := by decide +kernel
theorem dX10_puts_3 : decode cX10_puts 3 = .ok (.invokevirtual 73, 3) := by decide +kernel
theorem dX10_puts_6 : decode cX10_puts 6 = .ok (.istore 7, 2) := by decide +kernel
theorem dX10_puts_8 : decode cX10_puts 8 = .ok (.iload 4, 2) := by decide +kernel
theorem dX10_puts_10 : decode cX10_puts 10 = .ok (.iload 7, 2) := by decide +kernel
theorem dX10_puts_12 : decode cX10_puts 12 = .ok (.if_icmp .gt 19, 3) := by decide +kernel
theorem dX10_puts_15 : decode cX10_puts 15 = .ok (.aload_n 0, 1) := by decide +kernel
theorem dX10_puts_16 : decode cX10_puts 16 = .ok (.iload_n 1, 1) := by decide +kernel
theorem dX10_puts_17 : decode cX10_puts 17 = .ok (.iload_n 2, 1) := by decide +kernel
theorem dX10_puts_18 : decode cX10_puts 18 = .ok (.iload_n 3, 1) := by decide +kernel
theorem dX10_puts_19 : decode cX10_puts 19 = .ok (.iload 4, 2) := by decide +kernel
theorem dX10_puts_21 : decode cX10_puts 21 = .ok (.iload 5, 2) := by decide +kernel
theorem dX10_puts_23 : decode cX10_puts 23 = .ok (.iload 6, 2) := by decide +kernel
theorem dX10_puts_25 : decode cX10_puts 25 = .ok (.invokevirtual 111, 3) := by decide +kernel
theorem dX10_puts_28 : decode cX10_puts 28 = .ok (.goto 90, 3) := by decide +kernel
theorem dX10_puts_31 : decode cX10_puts 31 = .ok (.iload 6, 2) := by decide +kernel
theorem dX10_puts_33 : decode cX10_puts 33 = .ok (.ifCond .eq 58, 3) := by decide +kernel
theorem dX10_puts_36 : decode cX10_puts 36 = .ok (.aload_n 0, 1) := by decide +kernel
theorem dX10_puts_37 : decode cX10_puts 37 = .ok (.iconst 4, 1) := by decide +kernel
theorem dX10_puts_38 : decode cX10_puts 38 = .ok (.iconst 1, 1) := by decide +kernel
theorem dX10_puts_39 : decode cX10_puts 39 = .ok (.invokevirtual 87, 3) := by decide +kernel
theorem dX10_puts_42 : decode cX10_puts 42 = .ok (.aload_n 0, 1) := by decide +kernel
theorem dX10_puts_43 : decode cX10_puts 43 = .ok (.iload_n 1, 1) := by decide +kernel
theorem dX10_puts_44 : decode cX10_puts 44 = .ok (.bipush 6, 2) := by decide +kernel
theorem dX10_puts_46 : decode cX10_puts 46 = .ok (.iconst 1, 1) := by decide +kernel
theorem dX10_puts_47 : decode cX10_puts 47 = .ok (.invokevirtual 114, 3) := by decide +kernel
theorem dX10_puts_50 : decode cX10_puts 50 = .ok (.iload_n 1, 1) := by decide +kernel
theorem dX10_puts_51 : decode cX10_puts 51 = .ok (.ifCond .ne 15, 3) := by decide +kernel
theorem dX10_puts_54 : decode cX10_puts 54 = .ok (.aload_n 0, 1) := by decide +kernel
theorem dX10_puts_55 : decode cX10_puts 55 = .ok (.iload 7, 2) := by decide +kernel
theorem dX10_puts_57 : decode cX10_puts 57 = .ok (.iload_n 2, 1) := by decide +kernel
theorem dX10_puts_58 : decode cX10_puts 58 = .ok (.iload 4, 2) := by decide +kernel
theorem dX10_puts_60 : decode cX10_puts 60 = .ok (.invokevirtual 117, 3) := by decide +kernel
theorem dX10_puts_63 : decode cX10_puts 63 = .ok (.goto 55, 3) := by decide +kernel
theorem dX10_puts_66 : decode cX10_puts 66 = .ok (.aload_n 0, 1) := by decide +kernel
theorem dX10_puts_67 : decode cX10_puts 67 = .ok (.iconst 0, 1) := by decide +kernel
theorem dX10_puts_68 : decode cX10_puts 68 = .ok (.aload_n 0, 1) := by decide +kernel
theorem dX10_puts_69 : decode cX10_puts 69 = .ok (.getfield 7, 3) := by decide +kernel
theorem dX10_puts_72 : decode cX10_puts 72 = .ok (.iconst 2, 1) := by decide +kernel
theorem dX10_puts_73 : decode cX10_puts 73 = .ok (.iaload, 1) := by decide +kernel
theorem dX10_puts_74 : decode cX10_puts 74 = .ok (.aload_n 0, 1) := by decide +kernel
theorem dX10_puts_75 : decode cX10_puts 75 = .ok (.iload_n 1, 1) := by decide +kernel
theorem dX10_puts_76 : decode cX10_puts 76 = .ok (.invokevirtual 120, 3) := by decide +kernel
theorem dX10_puts_79 : decode cX10_puts 79 = .ok (.iadd, 1) := by decide +kernel
theorem dX10_puts_80 : decode cX10_puts 80 = .ok (.iload 7, 2) := by decide +kernel
theorem dX10_puts_82 : decode cX10_puts 82 = .ok (.iload_n 2, 1) := by decide +kernel
theorem dX10_puts_83 : decode cX10_puts 83 = .ok (.iload 4, 2) := by decide +kernel
theorem dX10_puts_85 : decode cX10_puts 85 = .ok (.invokevirtual 123, 3) := by decide +kernel
theorem dX10_puts_88 : decode cX10_puts 88 = .ok (.goto 30, 3) := by decide +kernel
theorem dX10_puts_91 : decode cX10_puts 91 = .ok (.aload_n 0, 1) := by decide +kernel
theorem dX10_puts_92 : decode cX10_puts 92 = .ok (.iconst 3, 1) := by decide +kernel
theorem dX10_puts_93 : decode cX10_puts 93 = .ok (.iconst 1, 1) := by decide +kernel
theorem dX10_puts_94 : decode cX10_puts 94 = .ok (.invokevirtual 87, 3) := by decide +kernel
theorem dX10_puts_97 : decode cX10_puts 97 = .ok (.aload_n 0, 1) := by decide +kernel
theorem dX10_puts_98 : decode cX10_puts 98 = .ok (.iload_n 1, 1) := by decide +kernel
theorem dX10_puts_99 : decode cX10_puts 99 = .ok (.iconst 5, 1) := by decide +kernel
theorem dX10_puts_100 : decode cX10_puts 100 = .ok (.iconst 1, 1) := by decide +kernel
theorem dX10_puts_101 : decode cX10_puts 101 = .ok (.invokevirtual 114, 3) := by decide +kernel
theorem dX10_puts_104 : decode cX10_puts 104 = .ok (.aload_n 0, 1) := by decide +kernel
theorem dX10_puts_105 : decode cX10_puts 105 = .ok (.iload_n 1, 1) := by decide +kernel
theorem dX10_puts_106 : decode cX10_puts 106 = .ok (.iload_n 2, 1) := by decide +kernel
theorem dX10_puts_107 : decode cX10_puts 107 = .ok (.iload_n 3, 1) := by decide +kernel
theorem dX10_puts_108 : decode cX10_puts 108 = .ok (.iload 4, 2) := by decide +kernel
theorem dX10_puts_110 : decode cX10_puts 110 = .ok (.bipush 20, 2) := by decide +kernel
theorem dX10_puts_112 : decode cX10_puts 112 = .ok (.isub, 1) := by decide +kernel
theorem dX10_puts_113 : decode cX10_puts 113 = .ok (.iload 5, 2) := by decide +kernel
theorem dX10_puts_115 : decode cX10_puts 115 = .ok (.invokevirtual 127, 3) := by decide +kernel
theorem dX10_puts_118 : decode cX10_puts 118 = .ok (.return_, 1) := by decide +kernel
/-! X10_putsData -/
theorem dX10_putsData_0 : decode cX10_putsData 0 = .ok (.aload_n 0, 1) := by decide +kernel
theorem dX10_putsData_1 : decode cX10_putsData 1 = .ok (.getfield 7, 3) := by decide +kernel
theorem dX10_putsData_4 : decode cX10_putsData 4 = .ok (.bipush 72, 2) := by decide +kernel
theorem dX10_putsData_6 : decode cX10_putsData 6 = .ok (.bipush 8, 2) := by decide +kernel
theorem dX10_putsData_8 : decode cX10_putsData 8 = .ok (.iload_n 1, 1) := by decide +kernel
theorem dX10_putsData_9 : decode cX10_putsData 9 = .ok (.imul, 1) := by decide +kernel
theorem dX10_putsData_10 : decode cX10_putsData 10 = .ok (.iadd, 1) := by decide +kernel
theorem dX10_putsData_11 : decode cX10_putsData 11 = .ok (.iload_n 2, 1) := by decide +kernel
theorem dX10_putsData_12 : decode cX10_putsData 12 = .ok (.iadd, 1) := by decide +kernel
theorem dX10_putsData_13 : decode cX10_putsData 13 = .ok (.iload_n 3, 1) := by decide +kernel
theorem dX10_putsData_14 : decode cX10_putsData 14 = .ok (.iastore, 1) := by decide +kernel
theorem dX10_putsData_15 : decode cX10_putsData 15 = .ok (.return_, 1) := by decide +kernel
/-! X10_putsHeap -/
theorem dX10_putsHeap_0 : decode cX10_putsHeap 0 = .ok (.aload_n 0, 1) := by decide +kernel
theorem dX10_putsHeap_1 : decode cX10_putsHeap 1 = .ok (.getfield 7, 3) := by decide +kernel
theorem dX10_putsHeap_4 : decode cX10_putsHeap 4 = .ok (.sipush 11992, 3) := by decide +kernel
theorem dX10_putsHeap_7 : decode cX10_putsHeap 7 = .ok (.sipush 1206, 3) := by decide +kernel
theorem dX10_putsHeap_10 : decode cX10_putsHeap 10 = .ok (.iload_n 1, 1) := by decide +kernel
theorem dX10_putsHeap_11 : decode cX10_putsHeap 11 = .ok (.imul, 1) := by decide +kernel
theorem dX10_putsHeap_12 : decode cX10_putsHeap 12 = .ok (.iadd, 1) := by decide +kernel
theorem dX10_putsHeap_13 : decode cX10_putsHeap 13 = .ok (.iload_n 2, 1) := by decide +kernel
theorem dX10_putsHeap_14 : decode cX10_putsHeap 14 = .ok (.iadd, 1) := by decide +kernel
theorem dX10_putsHeap_15 : decode cX10_putsHeap 15 = .ok (.iload_n 3, 1) := by decide +kernel
theorem dX10_putsHeap_16 : decode cX10_putsHeap 16 = .ok (.iastore, 1) := by decide +kernel
theorem dX10_putsHeap_17 : decode cX10_putsHeap 17 = .ok (.return_, 1) := by decide +kernel
/-! X10_quietIn -/
theorem dX10_quietIn_0 : decode cX10_quietIn 0 = .ok (.aload_n 0, 1) := by decide +kernel
theorem dX10_quietIn_1 : decode cX10_quietIn 1 = .ok (.iconst 0, 1) := by decide +kernel
theorem dX10_quietIn_2 : decode cX10_quietIn 2 = .ok (.putfield 62, 3) := by decide +kernel
theorem dX10_quietIn_5 : decode cX10_quietIn 5 = .ok (.aload_n 0, 1) := by decide +kernel
theorem dX10_quietIn_6 : decode cX10_quietIn 6 = .ok (.invokevirtual 448, 3) := by decide +kernel
theorem dX10_quietIn_9 : decode cX10_quietIn 9 = .ok (.aload_n 0, 1) := by decide +kernel
theorem dX10_quietIn_10 : decode cX10_quietIn 10 = .ok (.aload_n 0, 1) := by decide +kernel
theorem dX10_quietIn_11 : decode cX10_quietIn 11 = .ok (.invokevirtual 460, 3) := by decide +kernel
theorem dX10_quietIn_14 : decode cX10_quietIn 14 = .ok (.invokevirtual 454, 3) := by decide +kernel
theorem dX10_quietIn_17 : decode cX10_quietIn 17 = .ok (.ireturn, 1) := by decide +kernel
/-! X10_quietNow -/
theorem dX10_quietNow_0 : decode cX10_quietNow 0 = .ok (.iconst 0, 1) := by decide +kernel
theorem dX10_quietNow_1 : decode cX10_quietNow 1 = .ok (.istore_n 1, 1) := by decide +kernel
theorem dX10_quietNow_2 : decode cX10_quietNow 2 = .ok (.iload_n 1, 1) := by decide +kernel
theorem dX10_quietNow_3 : decode cX10_quietNow 3 = .ok (.sipush 600, 3) := by decide +kernel
theorem dX10_quietNow_6 : decode cX10_quietNow 6 = .ok (.if_icmp .gt 29, 3) := by decide +kernel
theorem dX10_quietNow_9 : decode cX10_quietNow 9 = .ok (.aload_n 0, 1) := by decide +kernel
theorem dX10_quietNow_10 : decode cX10_quietNow 10 = .ok (.invokevirtual 457, 3) := by decide +kernel
theorem dX10_quietNow_13 : decode cX10_quietNow 13 = .ok (.ifCond .eq 5, 3) := by decide +kernel
theorem dX10_quietNow_16 : decode cX10_quietNow 16 = .ok (.iload_n 1, 1) := by decide +kernel
theorem dX10_quietNow_17 : decode cX10_quietNow 17 = .ok (.ireturn, 1) := by decide +kernel
theorem dX10_quietNow_18 : decode cX10_quietNow 18 = .ok (.iload_n 1, 1) := by decide +kernel
theorem dX10_quietNow_19 : decode cX10_quietNow 19 = .ok (.sipush 600, 3) := by decide +kernel
theorem dX10_quietNow_22 : decode cX10_quietNow 22 = .ok (.if_icmp .ge 7, 3) := by decide +kernel
theorem dX10_quietNow_25 : decode cX10_quietNow 25 = .ok (.aload_n 0, 1) := by decide +kernel
theorem dX10_quietNow_26 : decode cX10_quietNow 26 = .ok (.invokevirtual 195, 3) := by decide +kernel
theorem dX10_quietNow_29 : decode cX10_quietNow 29 = .ok (.iinc 1 1, 3) := by decide +kernel
theorem dX10_quietNow_32 : decode cX10_quietNow 32 = .ok (.goto (-30), 3) := by decide +kernel
theorem dX10_quietNow_35 : decode cX10_quietNow 35 = .ok (.iconst (-1), 1) := by decide +kernel
theorem dX10_quietNow_36 : decode cX10_quietNow 36 = .ok (.ireturn, 1) := by decide +kernel
/-! X10_readText -/
theorem dX10_readText_0 : decode cX10_readText 0 = .ok (.aload_n 0, 1) := by decide +kernel
theorem dX10_readText_1 : decode cX10_readText 1 = .ok (.getfield 7, 3) := by decide +kernel
theorem dX10_readText_4 : decode cX10_readText 4 = .ok (.iconst 0, 1) := by decide +kernel
theorem dX10_readText_5 : decode cX10_readText 5 = .ok (.aload_n 0, 1) := by decide +kernel
theorem dX10_readText_6 : decode cX10_readText 6 = .ok (.getfield 16, 3) := by decide +kernel
theorem dX10_readText_9 : decode cX10_readText 9 = .ok (.iconst 0, 1) := by decide +kernel
theorem dX10_readText_10 : decode cX10_readText 10 = .ok (.invokestatic 290, 3) := by decide +kernel
theorem dX10_readText_13 : decode cX10_readText 13 = .ok (.aload_n 0, 1) := by decide +kernel
theorem dX10_readText_14 : decode cX10_readText 14 = .ok (.invokevirtual 55, 3) := by decide +kernel
theorem dX10_readText_17 : decode cX10_readText 17 = .ok (.aload_n 0, 1) := by decide +kernel
theorem dX10_readText_18 : decode cX10_readText 18 = .ok (.iconst 0, 1) := by decide +kernel
theorem dX10_readText_19 : decode cX10_readText 19 = .ok (.putfield 258, 3) := by decide +kernel
theorem dX10_readText_22 : decode cX10_readText 22 = .ok (.aload_n 0, 1) := by decide +kernel
theorem dX10_readText_23 : decode cX10_readText 23 = .ok (.iconst 0, 1) := by decide +kernel
theorem dX10_readText_24 : decode cX10_readText 24 = .ok (.putfield 261, 3) := by decide +kernel
theorem dX10_readText_27 : decode cX10_readText 27 = .ok (.aload_n 0, 1) := by decide +kernel
theorem dX10_readText_28 : decode cX10_readText 28 = .ok (.invokevirtual 294, 3) := by decide +kernel
theorem dX10_readText_31 : decode cX10_readText 31 = .ok (.aload_n 0, 1) := by decide +kernel
theorem dX10_readText_32 : decode cX10_readText 32 = .ok (.invokevirtual 297, 3) := by decide +kernel
theorem dX10_readText_35 : decode cX10_readText 35 = .ok (.aload_n 0, 1) := by decide +kernel
theorem dX10_readText_36 : decode cX10_readText 36 = .ok (.aload_n 0, 1) := by decide +kernel
theorem dX10_readText_37 : decode cX10_readText 37 = .ok (.invokevirtual 300, 3) := by decide +kernel
theorem dX10_readText_40 : decode cX10_readText 40 = .ok (.invokevirtual 201, 3) := by decide +kernel
theorem dX10_readText_43 : decode cX10_readText 43 = .ok (.ifCond .ne 18, 3) := by decide +kernel
theorem dX10_readText_46 : decode cX10_readText 46 = .ok (.aload_n 0, 1) := by decide +kernel
theorem dX10_readText_47 : decode cX10_readText 47 = .ok (.getfield 16, 3) := by decide +kernel
theorem dX10_readText_50 : decode cX10_readText 50 = .ok (.iconst 0, 1) := by decide +kernel
theorem dX10_readText_51 : decode cX10_readText 51 = .ok (.aload_n 0, 1) := by decide +kernel
theorem dX10_readText_52 : decode cX10_readText 52 = .ok (.getfield 7, 3) := by decide +kernel
theorem dX10_readText_55 : decode cX10_readText 55 = .ok (.iconst 0, 1) := by decide +kernel
theorem dX10_readText_56 : decode cX10_readText 56 = .ok (.invokestatic 290, 3) := by decide +kernel
theorem dX10_readText_59 : decode cX10_readText 59 = .ok (.iconst 0, 1) := by decide +kernel
theorem dX10_readText_60 : decode cX10_readText 60 = .ok (.ireturn, 1) := by decide +kernel
theorem dX10_readText_61 : decode cX10_readText 61 = .ok (.aload_n 0, 1) := by decide +kernel
theorem dX10_readText_62 : decode cX10_readText 62 = .ok (.getfield 7, 3) := by decide +kernel
theorem dX10_readText_65 : decode cX10_readText 65 = .ok (.iconst 5, 1) := by decide +kernel
theorem dX10_readText_66 : decode cX10_readText 66 = .ok (.aload_n 0, 1) := by decide +kernel
theorem dX10_readText_67 : decode cX10_readText 67 = .ok (.iconst 0, 1) := by decide +kernel
theorem dX10_readText_68 : decode cX10_readText 68 = .ok (.iconst 0, 1) := by decide +kernel
theorem dX10_readText_69 : decode cX10_readText 69 = .ok (.invokevirtual 73, 3) := by decide +kernel
theorem dX10_readText_72 : decode cX10_readText 72 = .ok (.iastore, 1) := by decide +kernel
theorem dX10_readText_73 : decode cX10_readText 73 = .ok (.iconst 0, 1) := by decide +kernel
theorem dX10_readText_74 : decode cX10_readText 74 = .ok (.istore_n 1, 1) := by decide +kernel
theorem dX10_readText_75 : decode cX10_readText 75 = .ok (.iload_n 1, 1) := by decide +kernel
theorem dX10_readText_76 : decode cX10_readText 76 = .ok (.aload_n 0, 1) := by decide +kernel
theorem dX10_readText_77 : decode cX10_readText 77 = .ok (.getfield 261, 3) := by decide +kernel
theorem dX10_readText_80 : decode cX10_readText 80 = .ok (.if_icmp .ge 32, 3) := by decide +kernel
theorem dX10_readText_83 : decode cX10_readText 83 = .ok (.aload_n 0, 1) := by decide +kernel
theorem dX10_readText_84 : decode cX10_readText 84 = .ok (.aload_n 0, 1) := by decide +kernel
theorem dX10_readText_85 : decode cX10_readText 85 = .ok (.getfield 33, 3) := by decide +kernel
theorem dX10_readText_88 : decode cX10_readText 88 = .ok (.iload_n 1, 1) := by decide +kernel
theorem dX10_readText_89 : decode cX10_readText 89 = .ok (.iaload, 1) := by decide +kernel
theorem dX10_readText_90 : decode cX10_readText 90 = .ok (.aload_n 0, 1) := by decide +kernel
theorem dX10_readText_91 : decode cX10_readText 91 = .ok (.getfield 36, 3) := by decide +kernel
theorem dX10_readText_94 : decode cX10_readText 94 = .ok (.iload_n 1, 1) := by decide +kernel
theorem dX10_readText_95 : decode cX10_readText 95 = .ok (.iaload, 1) := by decide +kernel
theorem dX10_readText_96 : decode cX10_readText 96 = .ok (.aload_n 0, 1) := by decide +kernel
theorem dX10_readText_97 : decode cX10_readText 97 = .ok (.getfield 39, 3) := by decide +kernel
theorem dX10_readText_100 : decode cX10_readText 100 = .ok (.iload_n 1, 1) := by decide +kernel
theorem dX10_readText_101 : decode cX10_readText 101 = .ok (.baload, 1) := by decide +kernel
theorem dX10_readText_102 : decode cX10_readText 102 = .ok (.invokevirtual 303, 3) := by decide +kernel
theorem dX10_readText_105 : decode cX10_readText 105 = .ok (.istore_n 2, 1) := by decide +kernel
theorem dX10_readText_106 : decode cX10_readText 106 = .ok (.iinc 1 1, 3) := by decide +kernel
theorem dX10_readText_109 : decode cX10_readText 109 = .ok (.goto (-34), 3) := by decide +kernel
theorem dX10_readText_112 : decode cX10_readText 112 = .ok (.aload_n 0, 1) := by decide +kernel
theorem dX10_readText_113 : decode cX10_readText 113 = .ok (.iconst 0, 1) := by decide +kernel
theorem dX10_readText_114 : decode cX10_readText 114 = .ok (.putfield 307, 3) := by decide +kernel
theorem dX10_readText_117 : decode cX10_readText 117 = .ok (.aload_n 0, 1) := by decide +kernel
theorem dX10_readText_118 : decode cX10_readText 118 = .ok (.getfield 7, 3) := by decide +kernel
theorem dX10_readText_121 : decode cX10_readText 121 = .ok (.iconst 1, 1) := by decide +kernel
theorem dX10_readText_122 : decode cX10_readText 122 = .ok (.iaload, 1) := by decide +kernel
theorem dX10_readText_123 : decode cX10_readText 123 = .ok (.ireturn, 1) := by decide +kernel
/-! X10_reads -/
theorem dX10_reads_0 : decode cX10_reads 0 = .ok (.aload_n 0, 1) := by decide +kernel
theorem dX10_reads_1 : decode cX10_reads 1 = .ok (.getfield 217, 3) := by decide +kernel
theorem dX10_reads_4 : decode cX10_reads 4 = .ok (.ifCond .eq 5, 3) := by decide +kernel
theorem dX10_reads_7 : decode cX10_reads 7 = .ok (.iload_n 1, 1) := by decide +kernel
theorem dX10_reads_8 : decode cX10_reads 8 = .ok (.ireturn, 1) := by decide +kernel
theorem dX10_reads_9 : decode cX10_reads 9 = .ok (.aload_n 0, 1) := by decide +kernel
theorem dX10_reads_10 : decode cX10_reads 10 = .ok (.aload_n 0, 1) := by decide +kernel
theorem dX10_reads_11 : decode cX10_reads 11 = .ok (.invokevirtual 226, 3) := by decide +kernel
theorem dX10_reads_14 : decode cX10_reads 14 = .ok (.i2l, 1) := by decide +kernel
theorem dX10_reads_15 : decode cX10_reads 15 = .ok (.ldc2_w 241, 3) := by decide +kernel
theorem dX10_reads_18 : decode cX10_reads 18 = .ok (.ldc2_w 243, 3) := by decide +kernel
theorem dX10_reads_21 : decode cX10_reads 21 = .ok (.invokestatic 65, 3) := by decide +kernel
theorem dX10_reads_24 : decode cX10_reads 24 = .ok (.iconst 1, 1) := by decide +kernel
theorem dX10_reads_25 : decode cX10_reads 25 = .ok (.invokevirtual 245, 3) := by decide +kernel
theorem dX10_reads_28 : decode cX10_reads 28 = .ok (.aload_n 0, 1) := by decide +kernel
theorem dX10_reads_29 : decode cX10_reads 29 = .ok (.getfield 217, 3) := by decide +kernel
theorem dX10_reads_32 : decode cX10_reads 32 = .ok (.ifCond .eq 5, 3) := by decide +kernel
theorem dX10_reads_35 : decode cX10_reads 35 = .ok (.iload_n 1, 1) := by decide +kernel
theorem dX10_reads_36 : decode cX10_reads 36 = .ok (.ireturn, 1) := by decide +kernel
theorem dX10_reads_37 : decode cX10_reads 37 = .ok (.iconst 0, 1) := by decide +kernel
theorem dX10_reads_38 : decode cX10_reads 38 = .ok (.istore_n 3, 1) := by decide +kernel
theorem dX10_reads_39 : decode cX10_reads 39 = .ok (.aload_n 0, 1) := by decide +kernel
theorem dX10_reads_40 : decode cX10_reads 40 = .ok (.iconst 0, 1) := by decide +kernel
theorem dX10_reads_41 : decode cX10_reads 41 = .ok (.putfield 249, 3) := by decide +kernel
theorem dX10_reads_44 : decode cX10_reads 44 = .ok (.aload_n 0, 1) := by decide +kernel
theorem dX10_reads_45 : decode cX10_reads 45 = .ok (.aload_n 0, 1) := by decide +kernel
theorem dX10_reads_46 : decode cX10_reads 46 = .ok (.getfield 208, 3) := by decide +kernel
theorem dX10_reads_49 : decode cX10_reads 49 = .ok (.invokevirtual 211, 3) := by decide +kernel
theorem dX10_reads_52 : decode cX10_reads 52 = .ok (.i2l, 1) := by decide +kernel
theorem dX10_reads_53 : decode cX10_reads 53 = .ok (.ldc2_w 241, 3) := by decide +kernel
theorem dX10_reads_56 : decode cX10_reads 56 = .ok (.ldc2_w 243, 3) := by decide +kernel
theorem dX10_reads_59 : decode cX10_reads 59 = .ok (.invokestatic 65, 3) := by decide +kernel
theorem dX10_reads_62 : decode cX10_reads 62 = .ok (.ifCond .eq 54, 3) := by decide +kernel
theorem dX10_reads_65 : decode cX10_reads 65 = .ok (.aload_n 0, 1) := by decide +kernel
theorem dX10_reads_66 : decode cX10_reads 66 = .ok (.iload_n 3, 1) := by decide +kernel
theorem dX10_reads_67 : decode cX10_reads 67 = .ok (.iconst 4, 1) := by decide +kernel
theorem dX10_reads_68 : decode cX10_reads 68 = .ok (.if_icmp .ge 25, 3) := by decide +kernel
theorem dX10_reads_71 : decode cX10_reads 71 = .ok (.bipush 10, 2) := by decide +kernel
theorem dX10_reads_73 : decode cX10_reads 73 = .ok (.aload_n 0, 1) := by decide +kernel
theorem dX10_reads_74 : decode cX10_reads 74 = .ok (.getfield 249, 3) := by decide +kernel
theorem dX10_reads_77 : decode cX10_reads 77 = .ok (.imul, 1) := by decide +kernel
theorem dX10_reads_78 : decode cX10_reads 78 = .ok (.aload_n 0, 1) := by decide +kernel
theorem dX10_reads_79 : decode cX10_reads 79 = .ok (.aload_n 0, 1) := by decide +kernel
theorem dX10_reads_80 : decode cX10_reads 80 = .ok (.getfield 208, 3) := by decide +kernel
theorem dX10_reads_83 : decode cX10_reads 83 = .ok (.invokevirtual 211, 3) := by decide +kernel
theorem dX10_reads_86 : decode cX10_reads 86 = .ok (.iadd, 1) := by decide +kernel
theorem dX10_reads_87 : decode cX10_reads 87 = .ok (.bipush 48, 2) := by decide +kernel
theorem dX10_reads_89 : decode cX10_reads 89 = .ok (.isub, 1) := by decide +kernel
theorem dX10_reads_90 : decode cX10_reads 90 = .ok (.goto 7, 3) := by decide +kernel
theorem dX10_reads_93 : decode cX10_reads 93 = .ok (.aload_n 0, 1) := by decide +kernel
theorem dX10_reads_94 : decode cX10_reads 94 = .ok (.getfield 249, 3) := by decide +kernel
theorem dX10_reads_97 : decode cX10_reads 97 = .ok (.putfield 249, 3) := by decide +kernel
theorem dX10_reads_100 : decode cX10_reads 100 = .ok (.iinc 3 1, 3) := by decide +kernel
theorem dX10_reads_103 : decode cX10_reads 103 = .ok (.aload_n 0, 1) := by decide +kernel
theorem dX10_reads_104 : decode cX10_reads 104 = .ok (.dup, 1) := by decide +kernel
theorem dX10_reads_105 : decode cX10_reads 105 = .ok (.getfield 208, 3) := by decide +kernel
theorem dX10_reads_108 : decode cX10_reads 108 = .ok (.iconst 1, 1) := by decide +kernel
theorem dX10_reads_109 : decode cX10_reads 109 = .ok (.iadd, 1) := by decide +kernel
theorem dX10_reads_110 : decode cX10_reads 110 = .ok (.putfield 208, 3) := by decide +kernel
theorem dX10_reads_113 : decode cX10_reads 113 = .ok (.goto (-69), 3) := by decide +kernel
theorem dX10_reads_116 : decode cX10_reads 116 = .ok (.aload_n 0, 1) := by decide +kernel
theorem dX10_reads_117 : decode cX10_reads 117 = .ok (.iload_n 3, 1) := by decide +kernel
theorem dX10_reads_118 : decode cX10_reads 118 = .ok (.iconst 4, 1) := by decide +kernel
theorem dX10_reads_119 : decode cX10_reads 119 = .ok (.if_icmp .gt 7, 3) := by decide +kernel
theorem dX10_reads_122 : decode cX10_reads 122 = .ok (.iconst 1, 1) := by decide +kernel
theorem dX10_reads_123 : decode cX10_reads 123 = .ok (.goto 4, 3) := by decide +kernel
theorem dX10_reads_126 : decode cX10_reads 126 = .ok (.iconst 0, 1) := by decide +kernel
theorem dX10_reads_127 : decode cX10_reads 127 = .ok (.iconst 1, 1) := by decide +kernel
theorem dX10_reads_128 : decode cX10_reads 128 = .ok (.invokevirtual 245, 3) := by decide +kernel
theorem dX10_reads_131 : decode cX10_reads 131 = .ok (.aload_n 0, 1) := by decide +kernel
theorem dX10_reads_132 : decode cX10_reads 132 = .ok (.aload_n 0, 1) := by decide +kernel
theorem dX10_reads_133 : decode cX10_reads 133 = .ok (.getfield 249, 3) := by decide +kernel
theorem dX10_reads_136 : decode cX10_reads 136 = .ok (.i2l, 1) := by decide +kernel
theorem dX10_reads_137 : decode cX10_reads 137 = .ok (.iload_n 1, 1) := by decide +kernel
theorem dX10_reads_138 : decode cX10_reads 138 = .ok (.i2l, 1) := by decide +kernel
theorem dX10_reads_139 : decode cX10_reads 139 = .ok (.iload_n 2, 1) := by decide +kernel
theorem dX10_reads_140 : decode cX10_reads 140 = .ok (.i2l, 1) := by decide +kernel
theorem dX10_reads_141 : decode cX10_reads 141 = .ok (.invokestatic 65, 3) := by decide +kernel
theorem dX10_reads_144 : decode cX10_reads 144 = .ok (.iconst 2, 1) := by decide +kernel
theorem dX10_reads_145 : decode cX10_reads 145 = .ok (.invokevirtual 245, 3) := by decide +kernel
theorem dX10_reads_148 : decode cX10_reads 148 = .ok (.aload_n 0, 1) := by decide +kernel
theorem dX10_reads_149 : decode cX10_reads 149 = .ok (.getfield 217, 3) := by decide +kernel
theorem dX10_reads_152 : decode cX10_reads 152 = .ok (.ifCond .ne 10, 3) := by decide +kernel
theorem dX10_reads_155 : decode cX10_reads 155 = .ok (.aload_n 0, 1) := by decide +kernel
theorem dX10_reads_156 : decode cX10_reads 156 = .ok (.getfield 249, 3) := by decide +kernel
theorem dX10_reads_159 : decode cX10_reads 159 = .ok (.goto 4, 3) := by decide +kernel
theorem dX10_reads_162 : decode cX10_reads 162 = .ok (.iload_n 1, 1) := by decide +kernel
theorem dX10_reads_163 : decode cX10_reads 163 = .ok (.ireturn, 1) := by decide +kernel
/-! X10_readsForge -/
theorem dX10_readsForge_0 : decode cX10_readsForge 0 = .ok (.aload_n 0, 1) := by decide +kernel
theorem dX10_readsForge_1 : decode cX10_readsForge 1 = .ok (.iconst 1, 1) := by decide +kernel
theorem dX10_readsForge_2 : decode cX10_readsForge 2 = .ok (.aload_n 0, 1) := by decide +kernel
theorem dX10_readsForge_3 : decode cX10_readsForge 3 = .ok (.iconst 0, 1) := by decide +kernel
theorem dX10_readsForge_4 : decode cX10_readsForge 4 = .ok (.bipush 39, 2) := by decide +kernel
theorem dX10_readsForge_6 : decode cX10_readsForge 6 = .ok (.invokevirtual 255, 3) := by decide +kernel
theorem dX10_readsForge_9 : decode cX10_readsForge 9 = .ok (.invokevirtual 325, 3) := by decide +kernel
theorem dX10_readsForge_12 : decode cX10_readsForge 12 = .ok (.aload_n 0, 1) := by decide +kernel
theorem dX10_readsForge_13 : decode cX10_readsForge 13 = .ok (.iconst 0, 1) := by decide +kernel
theorem dX10_readsForge_14 : decode cX10_readsForge 14 = .ok (.sipush 992, 3) := by decide +kernel
theorem dX10_readsForge_17 : decode cX10_readsForge 17 = .ok (.invokevirtual 255, 3) := by decide +kernel
theorem dX10_readsForge_20 : decode cX10_readsForge 20 = .ok (.istore_n 1, 1) := by decide +kernel
theorem dX10_readsForge_21 : decode cX10_readsForge 21 = .ok (.aload_n 0, 1) := by decide +kernel
theorem dX10_readsForge_22 : decode cX10_readsForge 22 = .ok (.iload_n 1, 1) := by decide +kernel
theorem dX10_readsForge_23 : decode cX10_readsForge 23 = .ok (.bipush 8, 2) := by decide +kernel
theorem dX10_readsForge_25 : decode cX10_readsForge 25 = .ok (.irem, 1) := by decide +kernel
theorem dX10_readsForge_26 : decode cX10_readsForge 26 = .ok (.ifCond .ne 7, 3) := by decide +kernel
theorem dX10_readsForge_29 : decode cX10_readsForge 29 = .ok (.iconst 1, 1) := by decide +kernel
theorem dX10_readsForge_30 : decode cX10_readsForge 30 = .ok (.goto 4, 3) := by decide +kernel
theorem dX10_readsForge_33 : decode cX10_readsForge 33 = .ok (.iconst 0, 1) := by decide +kernel
theorem dX10_readsForge_34 : decode cX10_readsForge 34 = .ok (.iconst 2, 1) := by decide +kernel
theorem dX10_readsForge_35 : decode cX10_readsForge 35 = .ok (.invokevirtual 245, 3) := by decide +kernel
theorem dX10_readsForge_38 : decode cX10_readsForge 38 = .ok (.aload_n 0, 1) := by decide +kernel
theorem dX10_readsForge_39 : decode cX10_readsForge 39 = .ok (.iconst 2, 1) := by decide +kernel
theorem dX10_readsForge_40 : decode cX10_readsForge 40 = .ok (.iload_n 1, 1) := by decide +kernel
theorem dX10_readsForge_41 : decode cX10_readsForge 41 = .ok (.invokevirtual 325, 3) := by decide +kernel
theorem dX10_readsForge_44 : decode cX10_readsForge 44 = .ok (.aload_n 0, 1) := by decide +kernel
theorem dX10_readsForge_45 : decode cX10_readsForge 45 = .ok (.iconst 3, 1) := by decide +kernel
theorem dX10_readsForge_46 : decode cX10_readsForge 46 = .ok (.aload_n 0, 1) := by decide +kernel
theorem dX10_readsForge_47 : decode cX10_readsForge 47 = .ok (.iconst 1, 1) := by decide +kernel
theorem dX10_readsForge_48 : decode cX10_readsForge 48 = .ok (.sipush 200, 3) := by decide +kernel
theorem dX10_readsForge_51 : decode cX10_readsForge 51 = .ok (.invokevirtual 255, 3) := by decide +kernel
theorem dX10_readsForge_54 : decode cX10_readsForge 54 = .ok (.invokevirtual 325, 3) := by decide +kernel
theorem dX10_readsForge_57 : decode cX10_readsForge 57 = .ok (.aload_n 0, 1) := by decide +kernel
theorem dX10_readsForge_58 : decode cX10_readsForge 58 = .ok (.iconst 4, 1) := by decide +kernel
theorem dX10_readsForge_59 : decode cX10_readsForge 59 = .ok (.aload_n 0, 1) := by decide +kernel
theorem dX10_readsForge_60 : decode cX10_readsForge 60 = .ok (.iconst 0, 1) := by decide +kernel
theorem dX10_readsForge_61 : decode cX10_readsForge 61 = .ok (.sipush 255, 3) := by decide +kernel
theorem dX10_readsForge_64 : decode cX10_readsForge 64 = .ok (.invokevirtual 255, 3) := by decide +kernel
theorem dX10_readsForge_67 : decode cX10_readsForge 67 = .ok (.invokevirtual 325, 3) := by decide +kernel
theorem dX10_readsForge_70 : decode cX10_readsForge 70 = .ok (.aload_n 0, 1) := by decide +kernel
theorem dX10_readsForge_71 : decode cX10_readsForge 71 = .ok (.iconst 5, 1) := by decide +kernel
theorem dX10_readsForge_72 : decode cX10_readsForge 72 = .ok (.aload_n 0, 1) := by decide +kernel
theorem dX10_readsForge_73 : decode cX10_readsForge 73 = .ok (.ldc_w 328, 3) := by decide +kernel
theorem dX10_readsForge_76 : decode cX10_readsForge 76 = .ok (.invokevirtual 266, 3) := by decide +kernel
theorem dX10_readsForge_79 : decode cX10_readsForge 79 = .ok (.invokestatic 104, 3) := by decide +kernel
theorem dX10_readsForge_82 : decode cX10_readsForge 82 = .ok (.invokevirtual 325, 3) := by decide +kernel
theorem dX10_readsForge_85 : decode cX10_readsForge 85 = .ok (.return_, 1) := by decide +kernel
/-! X10_readsOrder -/
theorem dX10_readsOrder_0 : decode cX10_readsOrder 0 = .ok (.aload_n 0, 1) := by decide +kernel
theorem dX10_readsOrder_1 : decode cX10_readsOrder 1 = .ok (.invokevirtual 333, 3) := by decide +kernel
theorem dX10_readsOrder_4 : decode cX10_readsOrder 4 = .ok (.istore_n 1, 1) := by decide +kernel
theorem dX10_readsOrder_5 : decode cX10_readsOrder 5 = .ok (.aload_n 0, 1) := by decide +kernel
theorem dX10_readsOrder_6 : decode cX10_readsOrder 6 = .ok (.iload_n 1, 1) := by decide +kernel
theorem dX10_readsOrder_7 : decode cX10_readsOrder 7 = .ok (.iconst (-1), 1) := by decide +kernel
theorem dX10_readsOrder_8 : decode cX10_readsOrder 8 = .ok (.if_icmp .eq 7, 3) := by decide +kernel
theorem dX10_readsOrder_11 : decode cX10_readsOrder 11 = .ok (.iconst 1, 1) := by decide +kernel
theorem dX10_readsOrder_12 : decode cX10_readsOrder 12 = .ok (.goto 4, 3) := by decide +kernel
theorem dX10_readsOrder_15 : decode cX10_readsOrder 15 = .ok (.iconst 0, 1) := by decide +kernel
theorem dX10_readsOrder_16 : decode cX10_readsOrder 16 = .ok (.iconst 1, 1) := by decide +kernel
theorem dX10_readsOrder_17 : decode cX10_readsOrder 17 = .ok (.invokevirtual 245, 3) := by decide +kernel
theorem dX10_readsOrder_20 : decode cX10_readsOrder 20 = .ok (.aload_n 0, 1) := by decide +kernel
theorem dX10_readsOrder_21 : decode cX10_readsOrder 21 = .ok (.aload_n 0, 1) := by decide +kernel
theorem dX10_readsOrder_22 : decode cX10_readsOrder 22 = .ok (.getfield 322, 3) := by decide +kernel
theorem dX10_readsOrder_25 : decode cX10_readsOrder 25 = .ok (.bipush 30, 2) := by decide +kernel
theorem dX10_readsOrder_27 : decode cX10_readsOrder 27 = .ok (.if_icmp .ge 7, 3) := by decide +kernel
theorem dX10_readsOrder_30 : decode cX10_readsOrder 30 = .ok (.iconst 1, 1) := by decide +kernel
theorem dX10_readsOrder_31 : decode cX10_readsOrder 31 = .ok (.goto 4, 3) := by decide +kernel
theorem dX10_readsOrder_34 : decode cX10_readsOrder 34 = .ok (.iconst 0, 1) := by decide +kernel
theorem dX10_readsOrder_35 : decode cX10_readsOrder 35 = .ok (.iconst 4, 1) := by decide +kernel
theorem dX10_readsOrder_36 : decode cX10_readsOrder 36 = .ok (.invokevirtual 245, 3) := by decide +kernel
theorem dX10_readsOrder_39 : decode cX10_readsOrder 39 = .ok (.aload_n 0, 1) := by decide +kernel
theorem dX10_readsOrder_40 : decode cX10_readsOrder 40 = .ok (.getfield 217, 3) := by decide +kernel
theorem dX10_readsOrder_43 : decode cX10_readsOrder 43 = .ok (.ifCond .eq 4, 3) := by decide +kernel
theorem dX10_readsOrder_46 : decode cX10_readsOrder 46 = .ok (.return_, 1) := by decide +kernel
theorem dX10_readsOrder_47 : decode cX10_readsOrder 47 = .ok (.aload_n 0, 1) := by decide +kernel
theorem dX10_readsOrder_48 : decode cX10_readsOrder 48 = .ok (.iconst 0, 1) := by decide +kernel
theorem dX10_readsOrder_49 : decode cX10_readsOrder 49 = .ok (.iload_n 1, 1) := by decide +kernel
theorem dX10_readsOrder_50 : decode cX10_readsOrder 50 = .ok (.invokevirtual 325, 3) := by decide +kernel
theorem dX10_readsOrder_53 : decode cX10_readsOrder 53 = .ok (.aload_n 0, 1) := by decide +kernel
theorem dX10_readsOrder_54 : decode cX10_readsOrder 54 = .ok (.iload_n 1, 1) := by decide +kernel
theorem dX10_readsOrder_55 : decode cX10_readsOrder 55 = .ok (.invokevirtual 336, 3) := by decide +kernel
theorem dX10_readsOrder_58 : decode cX10_readsOrder 58 = .ok (.aload_n 0, 1) := by decide +kernel
theorem dX10_readsOrder_59 : decode cX10_readsOrder 59 = .ok (.dup, 1) := by decide +kernel
theorem dX10_readsOrder_60 : decode cX10_readsOrder 60 = .ok (.getfield 322, 3) := by decide +kernel
theorem dX10_readsOrder_63 : decode cX10_readsOrder 63 = .ok (.iconst 1, 1) := by decide +kernel
theorem dX10_readsOrder_64 : decode cX10_readsOrder 64 = .ok (.iadd, 1) := by decide +kernel
theorem dX10_readsOrder_65 : decode cX10_readsOrder 65 = .ok (.putfield 322, 3) := by decide +kernel
theorem dX10_readsOrder_68 : decode cX10_readsOrder 68 = .ok (.aload_n 0, 1) := by decide +kernel
theorem dX10_readsOrder_69 : decode cX10_readsOrder 69 = .ok (.getfield 217, 3) := by decide +kernel
theorem dX10_readsOrder_72 : decode cX10_readsOrder 72 = .ok (.ifCond .eq 4, 3) := by decide +kernel
theorem dX10_readsOrder_75 : decode cX10_readsOrder 75 = .ok (.return_, 1) := by decide +kernel
theorem dX10_readsOrder_76 : decode cX10_readsOrder 76 = .ok (.aload_n 0, 1) := by decide +kernel
theorem dX10_readsOrder_77 : decode cX10_readsOrder 77 = .ok (.aload_n 0, 1) := by decide +kernel
theorem dX10_readsOrder_78 : decode cX10_readsOrder 78 = .ok (.invokevirtual 226, 3) := by decide +kernel
theorem dX10_readsOrder_81 : decode cX10_readsOrder 81 = .ok (.bipush 59, 2) := by decide +kernel
theorem dX10_readsOrder_83 : decode cX10_readsOrder 83 = .ok (.if_icmp .ne 7, 3) := by decide +kernel
theorem dX10_readsOrder_86 : decode cX10_readsOrder 86 = .ok (.iconst 1, 1) := by decide +kernel
theorem dX10_readsOrder_87 : decode cX10_readsOrder 87 = .ok (.goto 4, 3) := by decide +kernel
theorem dX10_readsOrder_90 : decode cX10_readsOrder 90 = .ok (.iconst 0, 1) := by decide +kernel
theorem dX10_readsOrder_91 : decode cX10_readsOrder 91 = .ok (.iconst 1, 1) := by decide +kernel
theorem dX10_readsOrder_92 : decode cX10_readsOrder 92 = .ok (.invokevirtual 245, 3) := by decide +kernel
theorem dX10_readsOrder_95 : decode cX10_readsOrder 95 = .ok (.aload_n 0, 1) := by decide +kernel
theorem dX10_readsOrder_96 : decode cX10_readsOrder 96 = .ok (.dup, 1) := by decide +kernel
theorem dX10_readsOrder_97 : decode cX10_readsOrder 97 = .ok (.getfield 208, 3) := by decide +kernel
theorem dX10_readsOrder_100 : decode cX10_readsOrder 100 = .ok (.iconst 1, 1) := by decide +kernel
theorem dX10_readsOrder_101 : decode cX10_readsOrder 101 = .ok (.iadd, 1) := by decide +kernel
theorem dX10_readsOrder_102 : decode cX10_readsOrder 102 = .ok (.putfield 208, 3) := by decide +kernel
theorem dX10_readsOrder_105 : decode cX10_readsOrder 105 = .ok (.return_, 1) := by decide +kernel
/-! X10_readsParts -/
theorem dX10_readsParts_0 : decode cX10_readsParts 0 = .ok (.iload_n 1, 1) := by decide +kernel
theorem dX10_readsParts_1 : decode cX10_readsParts 1 = .ok (.tableswitch 132 0 6 #[43, 85, 98, 113, 132, 132, 118], 43) := by decide +kernel
theorem dX10_readsParts_44 : decode cX10_readsParts 44 = .ok (.aload_n 0, 1) := by decide +kernel
theorem dX10_readsParts_45 : decode cX10_readsParts 45 = .ok (.iconst 1, 1) := by decide +kernel
theorem dX10_readsParts_46 : decode cX10_readsParts 46 = .ok (.aload_n 0, 1) := by decide +kernel
theorem dX10_readsParts_47 : decode cX10_readsParts 47 = .ok (.iconst 1, 1) := by decide +kernel
theorem dX10_readsParts_48 : decode cX10_readsParts 48 = .ok (.sipush 1000, 3) := by decide +kernel
theorem dX10_readsParts_51 : decode cX10_readsParts 51 = .ok (.invokevirtual 255, 3) := by decide +kernel
theorem dX10_readsParts_54 : decode cX10_readsParts 54 = .ok (.invokevirtual 325, 3) := by decide +kernel
theorem dX10_readsParts_57 : decode cX10_readsParts 57 = .ok (.aload_n 0, 1) := by decide +kernel
theorem dX10_readsParts_58 : decode cX10_readsParts 58 = .ok (.iconst 2, 1) := by decide +kernel
theorem dX10_readsParts_59 : decode cX10_readsParts 59 = .ok (.aload_n 0, 1) := by decide +kernel
theorem dX10_readsParts_60 : decode cX10_readsParts 60 = .ok (.iconst 0, 1) := by decide +kernel
theorem dX10_readsParts_61 : decode cX10_readsParts 61 = .ok (.sipush 255, 3) := by decide +kernel
theorem dX10_readsParts_64 : decode cX10_readsParts 64 = .ok (.invokevirtual 255, 3) := by decide +kernel
theorem dX10_readsParts_67 : decode cX10_readsParts 67 = .ok (.invokevirtual 325, 3) := by decide +kernel
theorem dX10_readsParts_70 : decode cX10_readsParts 70 = .ok (.aload_n 0, 1) := by decide +kernel
theorem dX10_readsParts_71 : decode cX10_readsParts 71 = .ok (.iconst 3, 1) := by decide +kernel
theorem dX10_readsParts_72 : decode cX10_readsParts 72 = .ok (.aload_n 0, 1) := by decide +kernel
theorem dX10_readsParts_73 : decode cX10_readsParts 73 = .ok (.ldc_w 264, 3) := by decide +kernel
theorem dX10_readsParts_76 : decode cX10_readsParts 76 = .ok (.invokevirtual 266, 3) := by decide +kernel
theorem dX10_readsParts_79 : decode cX10_readsParts 79 = .ok (.invokestatic 104, 3) := by decide +kernel
theorem dX10_readsParts_82 : decode cX10_readsParts 82 = .ok (.invokevirtual 325, 3) := by decide +kernel
theorem dX10_readsParts_85 : decode cX10_readsParts 85 = .ok (.return_, 1) := by decide +kernel
theorem dX10_readsParts_86 : decode cX10_readsParts 86 = .ok (.aload_n 0, 1) := by decide +kernel
theorem dX10_readsParts_87 : decode cX10_readsParts 87 = .ok (.iconst 1, 1) := by decide +kernel
theorem dX10_readsParts_88 : decode cX10_readsParts 88 = .ok (.aload_n 0, 1) := by decide +kernel
theorem dX10_readsParts_89 : decode cX10_readsParts 89 = .ok (.iconst 0, 1) := by decide +kernel
theorem dX10_readsParts_90 : decode cX10_readsParts 90 = .ok (.bipush 39, 2) := by decide +kernel
theorem dX10_readsParts_92 : decode cX10_readsParts 92 = .ok (.invokevirtual 255, 3) := by decide +kernel
theorem dX10_readsParts_95 : decode cX10_readsParts 95 = .ok (.invokevirtual 325, 3) := by decide +kernel
theorem dX10_readsParts_98 : decode cX10_readsParts 98 = .ok (.return_, 1) := by decide +kernel
theorem dX10_readsParts_99 : decode cX10_readsParts 99 = .ok (.aload_n 0, 1) := by decide +kernel
theorem dX10_readsParts_100 : decode cX10_readsParts 100 = .ok (.iconst 1, 1) := by decide +kernel
theorem dX10_readsParts_101 : decode cX10_readsParts 101 = .ok (.aload_n 0, 1) := by decide +kernel
theorem dX10_readsParts_102 : decode cX10_readsParts 102 = .ok (.bipush 28, 2) := by decide +kernel
theorem dX10_readsParts_104 : decode cX10_readsParts 104 = .ok (.sipush 1500, 3) := by decide +kernel
theorem dX10_readsParts_107 : decode cX10_readsParts 107 = .ok (.invokevirtual 255, 3) := by decide +kernel
theorem dX10_readsParts_110 : decode cX10_readsParts 110 = .ok (.invokevirtual 325, 3) := by decide +kernel
theorem dX10_readsParts_113 : decode cX10_readsParts 113 = .ok (.return_, 1) := by decide +kernel
theorem dX10_readsParts_114 : decode cX10_readsParts 114 = .ok (.aload_n 0, 1) := by decide +kernel
theorem dX10_readsParts_115 : decode cX10_readsParts 115 = .ok (.invokevirtual 330, 3) := by decide +kernel
theorem dX10_readsParts_118 : decode cX10_readsParts 118 = .ok (.return_, 1) := by decide +kernel
theorem dX10_readsParts_119 : decode cX10_readsParts 119 = .ok (.aload_n 0, 1) := by decide +kernel
theorem dX10_readsParts_120 : decode cX10_readsParts 120 = .ok (.iconst 1, 1) := by decide +kernel
theorem dX10_readsParts_121 : decode cX10_readsParts 121 = .ok (.aload_n 0, 1) := by decide +kernel
theorem dX10_readsParts_122 : decode cX10_readsParts 122 = .ok (.iconst 1, 1) := by decide +kernel
theorem dX10_readsParts_123 : decode cX10_readsParts 123 = .ok (.sipush 500, 3) := by decide +kernel
theorem dX10_readsParts_126 : decode cX10_readsParts 126 = .ok (.invokevirtual 255, 3) := by decide +kernel
theorem dX10_readsParts_129 : decode cX10_readsParts 129 = .ok (.invokevirtual 325, 3) := by decide +kernel
theorem dX10_readsParts_132 : decode cX10_readsParts 132 = .ok (.return_, 1) := by decide +kernel
theorem dX10_readsParts_133 : decode cX10_readsParts 133 = .ok (.aload_n 0, 1) := by decide +kernel
theorem dX10_readsParts_134 : decode cX10_readsParts 134 = .ok (.iconst 1, 1) := by decide +kernel
theorem dX10_readsParts_135 : decode cX10_readsParts 135 = .ok (.aload_n 0, 1) := by decide +kernel
theorem dX10_readsParts_136 : decode cX10_readsParts 136 = .ok (.iconst 0, 1) := by decide +kernel
theorem dX10_readsParts_137 : decode cX10_readsParts 137 = .ok (.iconst 5, 1) := by decide +kernel
theorem dX10_readsParts_138 : decode cX10_readsParts 138 = .ok (.invokevirtual 255, 3) := by decide +kernel
theorem dX10_readsParts_141 : decode cX10_readsParts 141 = .ok (.invokevirtual 325, 3) := by decide +kernel
theorem dX10_readsParts_144 : decode cX10_readsParts 144 = .ok (.aload_n 0, 1) := by decide +kernel
theorem dX10_readsParts_145 : decode cX10_readsParts 145 = .ok (.iconst 2, 1) := by decide +kernel
theorem dX10_readsParts_146 : decode cX10_readsParts 146 = .ok (.iload_n 1, 1) := by decide +kernel
theorem dX10_readsParts_147 : decode cX10_readsParts 147 = .ok (.iconst 4, 1) := by decide +kernel
theorem dX10_readsParts_148 : decode cX10_readsParts 148 = .ok (.if_icmp .ne 15, 3) := by decide +kernel
theorem dX10_readsParts_151 : decode cX10_readsParts 151 = .ok (.aload_n 0, 1) := by decide +kernel
theorem dX10_readsParts_152 : decode cX10_readsParts 152 = .ok (.bipush 28, 2) := by decide +kernel
theorem dX10_readsParts_154 : decode cX10_readsParts 154 = .ok (.sipush 1500, 3) := by decide +kernel
theorem dX10_readsParts_157 : decode cX10_readsParts 157 = .ok (.invokevirtual 255, 3) := by decide +kernel
theorem dX10_readsParts_160 : decode cX10_readsParts 160 = .ok (.goto 10, 3) := by decide +kernel
theorem dX10_readsParts_163 : decode cX10_readsParts 163 = .ok (.aload_n 0, 1) := by decide +kernel
theorem dX10_readsParts_164 : decode cX10_readsParts 164 = .ok (.iconst 0, 1) := by decide +kernel
theorem dX10_readsParts_165 : decode cX10_readsParts 165 = .ok (.bipush 99, 2) := by decide +kernel
theorem dX10_readsParts_167 : decode cX10_readsParts 167 = .ok (.invokevirtual 255, 3) := by decide +kernel
theorem dX10_readsParts_170 : decode cX10_readsParts 170 = .ok (.invokevirtual 325, 3) := by decide +kernel
theorem dX10_readsParts_173 : decode cX10_readsParts 173 = .ok (.return_, 1) := by decide +kernel
/-! X10_readsPath -/
theorem dX10_readsPath_0 : decode cX10_readsPath 0 = .ok (.aload_n 0, 1) := by decide +kernel
theorem dX10_readsPath_1 : decode cX10_readsPath 1 = .ok (.aload_n 0, 1) := by decide +kernel
theorem dX10_readsPath_2 : decode cX10_readsPath 2 = .ok (.ldc_w 270, 3) := by decide +kernel
theorem dX10_readsPath_5 : decode cX10_readsPath 5 = .ok (.invokevirtual 266, 3) := by decide +kernel
theorem dX10_readsPath_8 : decode cX10_readsPath 8 = .ok (.iconst 1, 1) := by decide +kernel
theorem dX10_readsPath_9 : decode cX10_readsPath 9 = .ok (.invokevirtual 245, 3) := by decide +kernel
theorem dX10_readsPath_12 : decode cX10_readsPath 12 = .ok (.aload_n 0, 1) := by decide +kernel
theorem dX10_readsPath_13 : decode cX10_readsPath 13 = .ok (.getfield 217, 3) := by decide +kernel
theorem dX10_readsPath_16 : decode cX10_readsPath 16 = .ok (.ifCond .ne 7, 3) := by decide +kernel
theorem dX10_readsPath_19 : decode cX10_readsPath 19 = .ok (.aload_n 0, 1) := by decide +kernel
theorem dX10_readsPath_20 : decode cX10_readsPath 20 = .ok (.invokevirtual 272, 3) := by decide +kernel
theorem dX10_readsPath_23 : decode cX10_readsPath 23 = .ok (.aload_n 0, 1) := by decide +kernel
theorem dX10_readsPath_24 : decode cX10_readsPath 24 = .ok (.getfield 217, 3) := by decide +kernel
theorem dX10_readsPath_27 : decode cX10_readsPath 27 = .ok (.ifCond .ne 51, 3) := by decide +kernel
theorem dX10_readsPath_30 : decode cX10_readsPath 30 = .ok (.aload_n 0, 1) := by decide +kernel
theorem dX10_readsPath_31 : decode cX10_readsPath 31 = .ok (.invokevirtual 226, 3) := by decide +kernel
theorem dX10_readsPath_34 : decode cX10_readsPath 34 = .ok (.iconst (-1), 1) := by decide +kernel
theorem dX10_readsPath_35 : decode cX10_readsPath 35 = .ok (.if_icmp .eq 43, 3) := by decide +kernel
theorem dX10_readsPath_38 : decode cX10_readsPath 38 = .ok (.aload_n 0, 1) := by decide +kernel
theorem dX10_readsPath_39 : decode cX10_readsPath 39 = .ok (.aload_n 0, 1) := by decide +kernel
theorem dX10_readsPath_40 : decode cX10_readsPath 40 = .ok (.aload_n 0, 1) := by decide +kernel
theorem dX10_readsPath_41 : decode cX10_readsPath 41 = .ok (.getfield 208, 3) := by decide +kernel
theorem dX10_readsPath_44 : decode cX10_readsPath 44 = .ok (.invokevirtual 211, 3) := by decide +kernel
theorem dX10_readsPath_47 : decode cX10_readsPath 47 = .ok (.bipush 59, 2) := by decide +kernel
theorem dX10_readsPath_49 : decode cX10_readsPath 49 = .ok (.if_icmp .ne 7, 3) := by decide +kernel
theorem dX10_readsPath_52 : decode cX10_readsPath 52 = .ok (.iconst 1, 1) := by decide +kernel
theorem dX10_readsPath_53 : decode cX10_readsPath 53 = .ok (.goto 4, 3) := by decide +kernel
theorem dX10_readsPath_56 : decode cX10_readsPath 56 = .ok (.iconst 0, 1) := by decide +kernel
theorem dX10_readsPath_57 : decode cX10_readsPath 57 = .ok (.iconst 1, 1) := by decide +kernel
theorem dX10_readsPath_58 : decode cX10_readsPath 58 = .ok (.invokevirtual 245, 3) := by decide +kernel
theorem dX10_readsPath_61 : decode cX10_readsPath 61 = .ok (.aload_n 0, 1) := by decide +kernel
theorem dX10_readsPath_62 : decode cX10_readsPath 62 = .ok (.dup, 1) := by decide +kernel
theorem dX10_readsPath_63 : decode cX10_readsPath 63 = .ok (.getfield 208, 3) := by decide +kernel
theorem dX10_readsPath_66 : decode cX10_readsPath 66 = .ok (.iconst 1, 1) := by decide +kernel
theorem dX10_readsPath_67 : decode cX10_readsPath 67 = .ok (.iadd, 1) := by decide +kernel
theorem dX10_readsPath_68 : decode cX10_readsPath 68 = .ok (.putfield 208, 3) := by decide +kernel
theorem dX10_readsPath_71 : decode cX10_readsPath 71 = .ok (.aload_n 0, 1) := by decide +kernel
theorem dX10_readsPath_72 : decode cX10_readsPath 72 = .ok (.invokevirtual 287, 3) := by decide +kernel
theorem dX10_readsPath_75 : decode cX10_readsPath 75 = .ok (.goto (-52), 3) := by decide +kernel
theorem dX10_readsPath_78 : decode cX10_readsPath 78 = .ok (.return_, 1) := by decide +kernel
/-! X10_restore -/
theorem dX10_restore_0 : decode cX10_restore 0 = .ok (.aload_n 0, 1) := by decide +kernel
theorem dX10_restore_1 : decode cX10_restore 1 = .ok (.aload_n 0, 1) := by decide +kernel
theorem dX10_restore_2 : decode cX10_restore 2 = .ok (.getfield 511, 3) := by decide +kernel
theorem dX10_restore_5 : decode cX10_restore 5 = .ok (.invokevirtual 201, 3) := by decide +kernel
theorem dX10_restore_8 : decode cX10_restore 8 = .ok (.ifCond .ne 5, 3) := by decide +kernel
theorem dX10_restore_11 : decode cX10_restore 11 = .ok (.iconst 0, 1) := by decide +kernel
theorem dX10_restore_12 : decode cX10_restore 12 = .ok (.ireturn, 1) := by decide +kernel
theorem dX10_restore_13 : decode cX10_restore 13 = .ok (.aload_n 0, 1) := by decide +kernel
theorem dX10_restore_14 : decode cX10_restore 14 = .ok (.getfield 13, 3) := by decide +kernel
theorem dX10_restore_17 : decode cX10_restore 17 = .ok (.iconst 0, 1) := by decide +kernel
theorem dX10_restore_18 : decode cX10_restore 18 = .ok (.aload_n 0, 1) := by decide +kernel
theorem dX10_restore_19 : decode cX10_restore 19 = .ok (.getfield 7, 3) := by decide +kernel
theorem dX10_restore_22 : decode cX10_restore 22 = .ok (.iconst 0, 1) := by decide +kernel
theorem dX10_restore_23 : decode cX10_restore 23 = .ok (.invokestatic 290, 3) := by decide +kernel
theorem dX10_restore_26 : decode cX10_restore 26 = .ok (.aload_n 0, 1) := by decide +kernel
theorem dX10_restore_27 : decode cX10_restore 27 = .ok (.iconst 0, 1) := by decide +kernel
theorem dX10_restore_28 : decode cX10_restore 28 = .ok (.putfield 307, 3) := by decide +kernel
theorem dX10_restore_31 : decode cX10_restore 31 = .ok (.aload_n 0, 1) := by decide +kernel
theorem dX10_restore_32 : decode cX10_restore 32 = .ok (.getfield 7, 3) := by decide +kernel
theorem dX10_restore_35 : decode cX10_restore 35 = .ok (.iconst 2, 1) := by decide +kernel
theorem dX10_restore_36 : decode cX10_restore 36 = .ok (.iaload, 1) := by decide +kernel
theorem dX10_restore_37 : decode cX10_restore 37 = .ok (.ireturn, 1) := by decide +kernel
/-! X10_roomOf -/
theorem dX10_roomOf_0 : decode cX10_roomOf 0 = .ok (.iload_n 0, 1) := by decide +kernel
theorem dX10_roomOf_1 : decode cX10_roomOf 1 = .ok (.bipush 20, 2) := by decide +kernel
theorem dX10_roomOf_3 : decode cX10_roomOf 3 = .ok (.isub, 1) := by decide +kernel
theorem dX10_roomOf_4 : decode cX10_roomOf 4 = .ok (.bipush 8, 2) := by decide +kernel
theorem dX10_roomOf_6 : decode cX10_roomOf 6 = .ok (.idiv, 1) := by decide +kernel
theorem dX10_roomOf_7 : decode cX10_roomOf 7 = .ok (.bipush 8, 2) := by decide +kernel
theorem dX10_roomOf_9 : decode cX10_roomOf 9 = .ok (.imul, 1) := by decide +kernel
theorem dX10_roomOf_10 : decode cX10_roomOf 10 = .ok (.ireturn, 1) := by decide +kernel
/-! X10_ruleNow -/
theorem dX10_ruleNow_0 : decode cX10_ruleNow 0 = .ok (.aload_n 0, 1) := by decide +kernel
theorem dX10_ruleNow_1 : decode cX10_ruleNow 1 = .ok (.getfield 7, 3) := by decide +kernel
theorem dX10_ruleNow_4 : decode cX10_ruleNow 4 = .ok (.iload_n 1, 1) := by decide +kernel
theorem dX10_ruleNow_5 : decode cX10_ruleNow 5 = .ok (.iaload, 1) := by decide +kernel
theorem dX10_ruleNow_6 : decode cX10_ruleNow 6 = .ok (.istore_n 3, 1) := by decide +kernel
theorem dX10_ruleNow_7 : decode cX10_ruleNow 7 = .ok (.aload_n 0, 1) := by decide +kernel
theorem dX10_ruleNow_8 : decode cX10_ruleNow 8 = .ok (.getfield 7, 3) := by decide +kernel
theorem dX10_ruleNow_11 : decode cX10_ruleNow 11 = .ok (.iload_n 1, 1) := by decide +kernel
theorem dX10_ruleNow_12 : decode cX10_ruleNow 12 = .ok (.iload_n 2, 1) := by decide +kernel
theorem dX10_ruleNow_13 : decode cX10_ruleNow 13 = .ok (.iastore, 1) := by decide +kernel
theorem dX10_ruleNow_14 : decode cX10_ruleNow 14 = .ok (.iload_n 3, 1) := by decide +kernel
theorem dX10_ruleNow_15 : decode cX10_ruleNow 15 = .ok (.ireturn, 1) := by decide +kernel
/-! X10_runOrders -/
theorem dX10_runOrders_0 : decode cX10_runOrders 0 = .ok (.aload_n 0, 1) := by decide +kernel
theorem dX10_runOrders_1 : decode cX10_runOrders 1 = .ok (.invokevirtual 294, 3) := by decide +kernel
theorem dX10_runOrders_4 : decode cX10_runOrders 4 = .ok (.aload_n 0, 1) := by decide +kernel
theorem dX10_runOrders_5 : decode cX10_runOrders 5 = .ok (.iconst 0, 1) := by decide +kernel
theorem dX10_runOrders_6 : decode cX10_runOrders 6 = .ok (.putfield 322, 3) := by decide +kernel
theorem dX10_runOrders_9 : decode cX10_runOrders 9 = .ok (.aload_n 0, 1) := by decide +kernel
theorem dX10_runOrders_10 : decode cX10_runOrders 10 = .ok (.getfield 217, 3) := by decide +kernel
theorem dX10_runOrders_13 : decode cX10_runOrders 13 = .ok (.ifCond .ne 18, 3) := by decide +kernel
theorem dX10_runOrders_16 : decode cX10_runOrders 16 = .ok (.aload_n 0, 1) := by decide +kernel
theorem dX10_runOrders_17 : decode cX10_runOrders 17 = .ok (.invokevirtual 226, 3) := by decide +kernel
theorem dX10_runOrders_20 : decode cX10_runOrders 20 = .ok (.iconst (-1), 1) := by decide +kernel
theorem dX10_runOrders_21 : decode cX10_runOrders 21 = .ok (.if_icmp .eq 10, 3) := by decide +kernel
theorem dX10_runOrders_24 : decode cX10_runOrders 24 = .ok (.aload_n 0, 1) := by decide +kernel
theorem dX10_runOrders_25 : decode cX10_runOrders 25 = .ok (.invokevirtual 366, 3) := by decide +kernel
theorem dX10_runOrders_28 : decode cX10_runOrders 28 = .ok (.goto (-19), 3) := by decide +kernel
theorem dX10_runOrders_31 : decode cX10_runOrders 31 = .ok (.aload_n 0, 1) := by decide +kernel
theorem dX10_runOrders_32 : decode cX10_runOrders 32 = .ok (.aload_n 0, 1) := by decide +kernel
theorem dX10_runOrders_33 : decode cX10_runOrders 33 = .ok (.invokevirtual 300, 3) := by decide +kernel
theorem dX10_runOrders_36 : decode cX10_runOrders 36 = .ok (.invokevirtual 201, 3) := by decide +kernel
theorem dX10_runOrders_39 : decode cX10_runOrders 39 = .ok (.ifCond .ne 5, 3) := by decide +kernel
theorem dX10_runOrders_42 : decode cX10_runOrders 42 = .ok (.iconst 0, 1) := by decide +kernel
theorem dX10_runOrders_43 : decode cX10_runOrders 43 = .ok (.ireturn, 1) := by decide +kernel
theorem dX10_runOrders_44 : decode cX10_runOrders 44 = .ok (.aload_n 0, 1) := by decide +kernel
theorem dX10_runOrders_45 : decode cX10_runOrders 45 = .ok (.aload_n 0, 1) := by decide +kernel
theorem dX10_runOrders_46 : decode cX10_runOrders 46 = .ok (.getfield 7, 3) := by decide +kernel
theorem dX10_runOrders_49 : decode cX10_runOrders 49 = .ok (.invokevirtual 369, 3) := by decide +kernel
theorem dX10_runOrders_52 : decode cX10_runOrders 52 = .ok (.iconst 0, 1) := by decide +kernel
theorem dX10_runOrders_53 : decode cX10_runOrders 53 = .ok (.istore_n 1, 1) := by decide +kernel
theorem dX10_runOrders_54 : decode cX10_runOrders 54 = .ok (.iload_n 1, 1) := by decide +kernel
theorem dX10_runOrders_55 : decode cX10_runOrders 55 = .ok (.aload_n 0, 1) := by decide +kernel
theorem dX10_runOrders_56 : decode cX10_runOrders 56 = .ok (.getfield 322, 3) := by decide +kernel
theorem dX10_runOrders_59 : decode cX10_runOrders 59 = .ok (.if_icmp .ge 17, 3) := by decide +kernel
theorem dX10_runOrders_62 : decode cX10_runOrders 62 = .ok (.aload_n 0, 1) := by decide +kernel
theorem dX10_runOrders_63 : decode cX10_runOrders 63 = .ok (.iload_n 1, 1) := by decide +kernel
theorem dX10_runOrders_64 : decode cX10_runOrders 64 = .ok (.invokevirtual 373, 3) := by decide +kernel
theorem dX10_runOrders_67 : decode cX10_runOrders 67 = .ok (.ifCond .lt 9, 3) := by decide +kernel
theorem dX10_runOrders_70 : decode cX10_runOrders 70 = .ok (.iinc 1 1, 3) := by decide +kernel
theorem dX10_runOrders_73 : decode cX10_runOrders 73 = .ok (.goto (-19), 3) := by decide +kernel
theorem dX10_runOrders_76 : decode cX10_runOrders 76 = .ok (.iload_n 1, 1) := by decide +kernel
theorem dX10_runOrders_77 : decode cX10_runOrders 77 = .ok (.ireturn, 1) := by decide +kernel
/-! X10_save -/
theorem dX10_save_0 : decode cX10_save 0 = .ok (.aload_n 0, 1) := by decide +kernel
theorem dX10_save_1 : decode cX10_save 1 = .ok (.iconst 0, 1) := by decide +kernel
theorem dX10_save_2 : decode cX10_save 2 = .ok (.putfield 62, 3) := by decide +kernel
theorem dX10_save_5 : decode cX10_save 5 = .ok (.aload_n 0, 1) := by decide +kernel
theorem dX10_save_6 : decode cX10_save 6 = .ok (.getfield 7, 3) := by decide +kernel
theorem dX10_save_9 : decode cX10_save 9 = .ok (.iconst 0, 1) := by decide +kernel
theorem dX10_save_10 : decode cX10_save 10 = .ok (.aload_n 0, 1) := by decide +kernel
theorem dX10_save_11 : decode cX10_save 11 = .ok (.getfield 13, 3) := by decide +kernel
theorem dX10_save_14 : decode cX10_save 14 = .ok (.iconst 0, 1) := by decide +kernel
theorem dX10_save_15 : decode cX10_save 15 = .ok (.invokestatic 290, 3) := by decide +kernel
theorem dX10_save_18 : decode cX10_save 18 = .ok (.aload_n 0, 1) := by decide +kernel
theorem dX10_save_19 : decode cX10_save 19 = .ok (.iconst 1, 1) := by decide +kernel
theorem dX10_save_20 : decode cX10_save 20 = .ok (.putfield 511, 3) := by decide +kernel
theorem dX10_save_23 : decode cX10_save 23 = .ok (.aload_n 0, 1) := by decide +kernel
theorem dX10_save_24 : decode cX10_save 24 = .ok (.getfield 7, 3) := by decide +kernel
theorem dX10_save_27 : decode cX10_save 27 = .ok (.iconst 2, 1) := by decide +kernel
theorem dX10_save_28 : decode cX10_save 28 = .ok (.iaload, 1) := by decide +kernel
theorem dX10_save_29 : decode cX10_save 29 = .ok (.ireturn, 1) := by decide +kernel
/-! X10_send -/
theorem dX10_send_0 : decode cX10_send 0 = .ok (.aload_n 0, 1) := by decide +kernel
theorem dX10_send_1 : decode cX10_send 1 = .ok (.aload_n 0, 1) := by decide +kernel
theorem dX10_send_2 : decode cX10_send 2 = .ok (.iload_n 1, 1) := by decide +kernel
theorem dX10_send_3 : decode cX10_send 3 = .ok (.i2l, 1) := by decide +kernel
theorem dX10_send_4 : decode cX10_send 4 = .ok (.lconst 1, 1) := by decide +kernel
theorem dX10_send_5 : decode cX10_send 5 = .ok (.ldc2_w 432, 3) := by decide +kernel
theorem dX10_send_8 : decode cX10_send 8 = .ok (.invokestatic 65, 3) := by decide +kernel
theorem dX10_send_11 : decode cX10_send 11 = .ok (.ifCond .eq 19, 3) := by decide +kernel
theorem dX10_send_14 : decode cX10_send 14 = .ok (.iload_n 2, 1) := by decide +kernel
theorem dX10_send_15 : decode cX10_send 15 = .ok (.i2l, 1) := by decide +kernel
theorem dX10_send_16 : decode cX10_send 16 = .ok (.lconst 0, 1) := by decide +kernel
theorem dX10_send_17 : decode cX10_send 17 = .ok (.ldc2_w 472, 3) := by decide +kernel
theorem dX10_send_20 : decode cX10_send 20 = .ok (.invokestatic 65, 3) := by decide +kernel
theorem dX10_send_23 : decode cX10_send 23 = .ok (.ifCond .eq 7, 3) := by decide +kernel
theorem dX10_send_26 : decode cX10_send 26 = .ok (.iconst 1, 1) := by decide +kernel
theorem dX10_send_27 : decode cX10_send 27 = .ok (.goto 4, 3) := by decide +kernel
theorem dX10_send_30 : decode cX10_send 30 = .ok (.iconst 0, 1) := by decide +kernel
theorem dX10_send_31 : decode cX10_send 31 = .ok (.invokevirtual 201, 3) := by decide +kernel
theorem dX10_send_34 : decode cX10_send 34 = .ok (.invokevirtual 474, 3) := by decide +kernel
theorem dX10_send_37 : decode cX10_send 37 = .ok (.ifCond .eq 17, 3) := by decide +kernel
theorem dX10_send_40 : decode cX10_send 40 = .ok (.aload_n 0, 1) := by decide +kernel
theorem dX10_send_41 : decode cX10_send 41 = .ok (.aload_n 0, 1) := by decide +kernel
theorem dX10_send_42 : decode cX10_send 42 = .ok (.iload_n 1, 1) := by decide +kernel
theorem dX10_send_43 : decode cX10_send 43 = .ok (.iload_n 2, 1) := by decide +kernel
theorem dX10_send_44 : decode cX10_send 44 = .ok (.iload_n 3, 1) := by decide +kernel
theorem dX10_send_45 : decode cX10_send 45 = .ok (.invokevirtual 339, 3) := by decide +kernel
theorem dX10_send_48 : decode cX10_send 48 = .ok (.invokevirtual 477, 3) := by decide +kernel
theorem dX10_send_51 : decode cX10_send 51 = .ok (.goto 4, 3) := by decide +kernel
theorem dX10_send_54 : decode cX10_send 54 = .ok (.iconst 0, 1) := by decide +kernel
theorem dX10_send_55 : decode cX10_send 55 = .ok (.ireturn, 1) := by decide +kernel
/-! X10_sendLine -/
theorem dX10_sendLine_0 : decode cX10_sendLine 0 = .ok (.aload_n 0, 1) := by decide +kernel
theorem dX10_sendLine_1 : decode cX10_sendLine 1 = .ok (.aload_n 0, 1) := by decide +kernel
theorem dX10_sendLine_2 : decode cX10_sendLine 2 = .ok (.getfield 261, 3) := by decide +kernel
theorem dX10_sendLine_5 : decode cX10_sendLine 5 = .ok (.bipush 40, 2) := by decide +kernel
theorem dX10_sendLine_7 : decode cX10_sendLine 7 = .ok (.if_icmp .ge 7, 3) := by decide +kernel
theorem dX10_sendLine_10 : decode cX10_sendLine 10 = .ok (.iconst 1, 1) := by decide +kernel
theorem dX10_sendLine_11 : decode cX10_sendLine 11 = .ok (.goto 4, 3) := by decide +kernel
theorem dX10_sendLine_14 : decode cX10_sendLine 14 = .ok (.iconst 0, 1) := by decide +kernel
theorem dX10_sendLine_15 : decode cX10_sendLine 15 = .ok (.iconst 4, 1) := by decide +kernel
theorem dX10_sendLine_16 : decode cX10_sendLine 16 = .ok (.invokevirtual 245, 3) := by decide +kernel
theorem dX10_sendLine_19 : decode cX10_sendLine 19 = .ok (.aload_n 0, 1) := by decide +kernel
theorem dX10_sendLine_20 : decode cX10_sendLine 20 = .ok (.iconst 1, 1) := by decide +kernel
theorem dX10_sendLine_21 : decode cX10_sendLine 21 = .ok (.sipush 1000, 3) := by decide +kernel
theorem dX10_sendLine_24 : decode cX10_sendLine 24 = .ok (.invokevirtual 255, 3) := by decide +kernel
theorem dX10_sendLine_27 : decode cX10_sendLine 27 = .ok (.istore_n 1, 1) := by decide +kernel
theorem dX10_sendLine_28 : decode cX10_sendLine 28 = .ok (.aload_n 0, 1) := by decide +kernel
theorem dX10_sendLine_29 : decode cX10_sendLine 29 = .ok (.iconst 0, 1) := by decide +kernel
theorem dX10_sendLine_30 : decode cX10_sendLine 30 = .ok (.sipush 255, 3) := by decide +kernel
theorem dX10_sendLine_33 : decode cX10_sendLine 33 = .ok (.invokevirtual 255, 3) := by decide +kernel
theorem dX10_sendLine_36 : decode cX10_sendLine 36 = .ok (.istore_n 2, 1) := by decide +kernel
theorem dX10_sendLine_37 : decode cX10_sendLine 37 = .ok (.aload_n 0, 1) := by decide +kernel
theorem dX10_sendLine_38 : decode cX10_sendLine 38 = .ok (.getfield 217, 3) := by decide +kernel
theorem dX10_sendLine_41 : decode cX10_sendLine 41 = .ok (.ifCond .eq 4, 3) := by decide +kernel
theorem dX10_sendLine_44 : decode cX10_sendLine 44 = .ok (.return_, 1) := by decide +kernel
theorem dX10_sendLine_45 : decode cX10_sendLine 45 = .ok (.aload_n 0, 1) := by decide +kernel
theorem dX10_sendLine_46 : decode cX10_sendLine 46 = .ok (.getfield 33, 3) := by decide +kernel
theorem dX10_sendLine_49 : decode cX10_sendLine 49 = .ok (.aload_n 0, 1) := by decide +kernel
theorem dX10_sendLine_50 : decode cX10_sendLine 50 = .ok (.getfield 261, 3) := by decide +kernel
theorem dX10_sendLine_53 : decode cX10_sendLine 53 = .ok (.iload_n 1, 1) := by decide +kernel
theorem dX10_sendLine_54 : decode cX10_sendLine 54 = .ok (.iastore, 1) := by decide +kernel
theorem dX10_sendLine_55 : decode cX10_sendLine 55 = .ok (.aload_n 0, 1) := by decide +kernel
theorem dX10_sendLine_56 : decode cX10_sendLine 56 = .ok (.getfield 36, 3) := by decide +kernel
theorem dX10_sendLine_59 : decode cX10_sendLine 59 = .ok (.aload_n 0, 1) := by decide +kernel
theorem dX10_sendLine_60 : decode cX10_sendLine 60 = .ok (.getfield 261, 3) := by decide +kernel
theorem dX10_sendLine_63 : decode cX10_sendLine 63 = .ok (.iload_n 2, 1) := by decide +kernel
theorem dX10_sendLine_64 : decode cX10_sendLine 64 = .ok (.iastore, 1) := by decide +kernel
theorem dX10_sendLine_65 : decode cX10_sendLine 65 = .ok (.aload_n 0, 1) := by decide +kernel
theorem dX10_sendLine_66 : decode cX10_sendLine 66 = .ok (.getfield 39, 3) := by decide +kernel
theorem dX10_sendLine_69 : decode cX10_sendLine 69 = .ok (.aload_n 0, 1) := by decide +kernel
theorem dX10_sendLine_70 : decode cX10_sendLine 70 = .ok (.getfield 261, 3) := by decide +kernel
theorem dX10_sendLine_73 : decode cX10_sendLine 73 = .ok (.aload_n 0, 1) := by decide +kernel
theorem dX10_sendLine_74 : decode cX10_sendLine 74 = .ok (.ldc_w 264, 3) := by decide +kernel
theorem dX10_sendLine_77 : decode cX10_sendLine 77 = .ok (.invokevirtual 266, 3) := by decide +kernel
theorem dX10_sendLine_80 : decode cX10_sendLine 80 = .ok (.bastore, 1) := by decide +kernel
theorem dX10_sendLine_81 : decode cX10_sendLine 81 = .ok (.aload_n 0, 1) := by decide +kernel
theorem dX10_sendLine_82 : decode cX10_sendLine 82 = .ok (.dup, 1) := by decide +kernel
theorem dX10_sendLine_83 : decode cX10_sendLine 83 = .ok (.getfield 261, 3) := by decide +kernel
theorem dX10_sendLine_86 : decode cX10_sendLine 86 = .ok (.iconst 1, 1) := by decide +kernel
theorem dX10_sendLine_87 : decode cX10_sendLine 87 = .ok (.iadd, 1) := by decide +kernel
theorem dX10_sendLine_88 : decode cX10_sendLine 88 = .ok (.putfield 261, 3) := by decide +kernel
theorem dX10_sendLine_91 : decode cX10_sendLine 91 = .ok (.return_, 1) := by decide +kernel
/-! X10_sendNow -/
theorem dX10_sendNow_0 : decode cX10_sendNow 0 = .ok (.aload_n 0, 1) := by decide +kernel
theorem dX10_sendNow_1 : decode cX10_sendNow 1 = .ok (.getfield 7, 3) := by decide +kernel
theorem dX10_sendNow_4 : decode cX10_sendNow 4 = .ok (.iconst 1, 1) := by decide +kernel
theorem dX10_sendNow_5 : decode cX10_sendNow 5 = .ok (.iaload, 1) := by decide +kernel
theorem dX10_sendNow_6 : decode cX10_sendNow 6 = .ok (.bipush 40, 2) := by decide +kernel
theorem dX10_sendNow_8 : decode cX10_sendNow 8 = .ok (.if_icmp .ne 7, 3) := by decide +kernel
theorem dX10_sendNow_11 : decode cX10_sendNow 11 = .ok (.iconst (-1), 1) := by decide +kernel
theorem dX10_sendNow_12 : decode cX10_sendNow 12 = .ok (.goto 10, 3) := by decide +kernel
theorem dX10_sendNow_15 : decode cX10_sendNow 15 = .ok (.aload_n 0, 1) := by decide +kernel
theorem dX10_sendNow_16 : decode cX10_sendNow 16 = .ok (.iload_n 1, 1) := by decide +kernel
theorem dX10_sendNow_17 : decode cX10_sendNow 17 = .ok (.iload_n 2, 1) := by decide +kernel
theorem dX10_sendNow_18 : decode cX10_sendNow 18 = .ok (.iload_n 3, 1) := by decide +kernel
theorem dX10_sendNow_19 : decode cX10_sendNow 19 = .ok (.invokevirtual 303, 3) := by decide +kernel
theorem dX10_sendNow_22 : decode cX10_sendNow 22 = .ok (.ireturn, 1) := by decide +kernel
/-! X10_sends -/
theorem dX10_sends_0 : decode cX10_sends 0 = .ok (.aload_n 0, 1) := by decide +kernel
theorem dX10_sends_1 : decode cX10_sends 1 = .ok (.iload_n 1, 1) := by decide +kernel
theorem dX10_sends_2 : decode cX10_sends 2 = .ok (.iconst 3, 1) := by decide +kernel
theorem dX10_sends_3 : decode cX10_sends 3 = .ok (.aload_n 0, 1) := by decide +kernel
theorem dX10_sends_4 : decode cX10_sends 4 = .ok (.iload_n 1, 1) := by decide +kernel
theorem dX10_sends_5 : decode cX10_sends 5 = .ok (.iconst 3, 1) := by decide +kernel
theorem dX10_sends_6 : decode cX10_sends 6 = .ok (.invokevirtual 69, 3) := by decide +kernel
theorem dX10_sends_9 : decode cX10_sends 9 = .ok (.iconst 1, 1) := by decide +kernel
theorem dX10_sends_10 : decode cX10_sends 10 = .ok (.iadd, 1) := by decide +kernel
theorem dX10_sends_11 : decode cX10_sends 11 = .ok (.invokevirtual 76, 3) := by decide +kernel
theorem dX10_sends_14 : decode cX10_sends 14 = .ok (.aload_n 0, 1) := by decide +kernel
theorem dX10_sends_15 : decode cX10_sends 15 = .ok (.iload_n 1, 1) := by decide +kernel
theorem dX10_sends_16 : decode cX10_sends 16 = .ok (.iconst 0, 1) := by decide +kernel
theorem dX10_sends_17 : decode cX10_sends 17 = .ok (.invokevirtual 69, 3) := by decide +kernel
theorem dX10_sends_20 : decode cX10_sends 20 = .ok (.istore_n 2, 1) := by decide +kernel
theorem dX10_sends_21 : decode cX10_sends 21 = .ok (.aload_n 0, 1) := by decide +kernel
theorem dX10_sends_22 : decode cX10_sends 22 = .ok (.getfield 7, 3) := by decide +kernel
theorem dX10_sends_25 : decode cX10_sends 25 = .ok (.iconst 5, 1) := by decide +kernel
theorem dX10_sends_26 : decode cX10_sends 26 = .ok (.iaload, 1) := by decide +kernel
theorem dX10_sends_27 : decode cX10_sends 27 = .ok (.istore_n 3, 1) := by decide +kernel
theorem dX10_sends_28 : decode cX10_sends 28 = .ok (.iconst 0, 1) := by decide +kernel
theorem dX10_sends_29 : decode cX10_sends 29 = .ok (.istore 4, 2) := by decide +kernel
theorem dX10_sends_31 : decode cX10_sends 31 = .ok (.aload_n 0, 1) := by decide +kernel
theorem dX10_sends_32 : decode cX10_sends 32 = .ok (.iload_n 1, 1) := by decide +kernel
theorem dX10_sends_33 : decode cX10_sends 33 = .ok (.iconst 2, 1) := by decide +kernel
theorem dX10_sends_34 : decode cX10_sends 34 = .ok (.invokevirtual 69, 3) := by decide +kernel
theorem dX10_sends_37 : decode cX10_sends 37 = .ok (.iconst 1, 1) := by decide +kernel
theorem dX10_sends_38 : decode cX10_sends 38 = .ok (.if_icmp .ne 7, 3) := by decide +kernel
theorem dX10_sends_41 : decode cX10_sends 41 = .ok (.iconst 1, 1) := by decide +kernel
theorem dX10_sends_42 : decode cX10_sends 42 = .ok (.goto 4, 3) := by decide +kernel
theorem dX10_sends_45 : decode cX10_sends 45 = .ok (.iconst 0, 1) := by decide +kernel
theorem dX10_sends_46 : decode cX10_sends 46 = .ok (.istore 5, 2) := by decide +kernel
theorem dX10_sends_48 : decode cX10_sends 48 = .ok (.iload 5, 2) := by decide +kernel
theorem dX10_sends_50 : decode cX10_sends 50 = .ok (.ifCond .eq 47, 3) := by decide +kernel
theorem dX10_sends_53 : decode cX10_sends 53 = .ok (.iload_n 2, 1) := by decide +kernel
theorem dX10_sends_54 : decode cX10_sends 54 = .ok (.iload_n 3, 1) := by decide +kernel
theorem dX10_sends_55 : decode cX10_sends 55 = .ok (.bipush 20, 2) := by decide +kernel
theorem dX10_sends_57 : decode cX10_sends 57 = .ok (.isub, 1) := by decide +kernel
theorem dX10_sends_58 : decode cX10_sends 58 = .ok (.if_icmp .le 39, 3) := by decide +kernel
theorem dX10_sends_61 : decode cX10_sends 61 = .ok (.aload_n 0, 1) := by decide +kernel
theorem dX10_sends_62 : decode cX10_sends 62 = .ok (.iconst 0, 1) := by decide +kernel
theorem dX10_sends_63 : decode cX10_sends 63 = .ok (.iload_n 1, 1) := by decide +kernel
theorem dX10_sends_64 : decode cX10_sends 64 = .ok (.iload 4, 2) := by decide +kernel
theorem dX10_sends_66 : decode cX10_sends 66 = .ok (.iload_n 3, 1) := by decide +kernel
theorem dX10_sends_67 : decode cX10_sends 67 = .ok (.invokestatic 79, 3) := by decide +kernel
theorem dX10_sends_70 : decode cX10_sends 70 = .ok (.bipush 20, 2) := by decide +kernel
theorem dX10_sends_72 : decode cX10_sends 72 = .ok (.iadd, 1) := by decide +kernel
theorem dX10_sends_73 : decode cX10_sends 73 = .ok (.iconst 1, 1) := by decide +kernel
theorem dX10_sends_74 : decode cX10_sends 74 = .ok (.iconst 1, 1) := by decide +kernel
theorem dX10_sends_75 : decode cX10_sends 75 = .ok (.invokevirtual 83, 3) := by decide +kernel
theorem dX10_sends_78 : decode cX10_sends 78 = .ok (.iload 4, 2) := by decide +kernel
theorem dX10_sends_80 : decode cX10_sends 80 = .ok (.iload_n 3, 1) := by decide +kernel
theorem dX10_sends_81 : decode cX10_sends 81 = .ok (.invokestatic 79, 3) := by decide +kernel
theorem dX10_sends_84 : decode cX10_sends 84 = .ok (.iadd, 1) := by decide +kernel
theorem dX10_sends_85 : decode cX10_sends 85 = .ok (.istore 4, 2) := by decide +kernel
theorem dX10_sends_87 : decode cX10_sends 87 = .ok (.iload_n 2, 1) := by decide +kernel
theorem dX10_sends_88 : decode cX10_sends 88 = .ok (.iload_n 3, 1) := by decide +kernel
theorem dX10_sends_89 : decode cX10_sends 89 = .ok (.invokestatic 79, 3) := by decide +kernel
theorem dX10_sends_92 : decode cX10_sends 92 = .ok (.isub, 1) := by decide +kernel
theorem dX10_sends_93 : decode cX10_sends 93 = .ok (.istore_n 2, 1) := by decide +kernel
theorem dX10_sends_94 : decode cX10_sends 94 = .ok (.goto (-46), 3) := by decide +kernel
theorem dX10_sends_97 : decode cX10_sends 97 = .ok (.aload_n 0, 1) := by decide +kernel
theorem dX10_sends_98 : decode cX10_sends 98 = .ok (.iconst 0, 1) := by decide +kernel
theorem dX10_sends_99 : decode cX10_sends 99 = .ok (.iload_n 1, 1) := by decide +kernel
theorem dX10_sends_100 : decode cX10_sends 100 = .ok (.iload 4, 2) := by decide +kernel
theorem dX10_sends_102 : decode cX10_sends 102 = .ok (.iload_n 2, 1) := by decide +kernel
theorem dX10_sends_103 : decode cX10_sends 103 = .ok (.bipush 20, 2) := by decide +kernel
theorem dX10_sends_105 : decode cX10_sends 105 = .ok (.iadd, 1) := by decide +kernel
theorem dX10_sends_106 : decode cX10_sends 106 = .ok (.iconst 0, 1) := by decide +kernel
theorem dX10_sends_107 : decode cX10_sends 107 = .ok (.iload 5, 2) := by decide +kernel
theorem dX10_sends_109 : decode cX10_sends 109 = .ok (.invokevirtual 83, 3) := by decide +kernel
theorem dX10_sends_112 : decode cX10_sends 112 = .ok (.return_, 1) := by decide +kernel
/-! X10_sendsNew -/
theorem dX10_sendsNew_0 : decode cX10_sendsNew 0 = .ok (.aload_n 0, 1) := by decide +kernel
theorem dX10_sendsNew_1 : decode cX10_sendsNew 1 = .ok (.getfield 7, 3) := by decide +kernel
theorem dX10_sendsNew_4 : decode cX10_sendsNew 4 = .ok (.iconst 1, 1) := by decide +kernel
theorem dX10_sendsNew_5 : decode cX10_sendsNew 5 = .ok (.iaload, 1) := by decide +kernel
theorem dX10_sendsNew_6 : decode cX10_sendsNew 6 = .ok (.istore 4, 2) := by decide +kernel
theorem dX10_sendsNew_8 : decode cX10_sendsNew 8 = .ok (.aload_n 0, 1) := by decide +kernel
theorem dX10_sendsNew_9 : decode cX10_sendsNew 9 = .ok (.iload 4, 2) := by decide +kernel
theorem dX10_sendsNew_11 : decode cX10_sendsNew 11 = .ok (.iconst 0, 1) := by decide +kernel
theorem dX10_sendsNew_12 : decode cX10_sendsNew 12 = .ok (.iload_n 1, 1) := by decide +kernel
theorem dX10_sendsNew_13 : decode cX10_sendsNew 13 = .ok (.invokevirtual 76, 3) := by decide +kernel
theorem dX10_sendsNew_16 : decode cX10_sendsNew 16 = .ok (.aload_n 0, 1) := by decide +kernel
theorem dX10_sendsNew_17 : decode cX10_sendsNew 17 = .ok (.iload 4, 2) := by decide +kernel
theorem dX10_sendsNew_19 : decode cX10_sendsNew 19 = .ok (.iconst 1, 1) := by decide +kernel
theorem dX10_sendsNew_20 : decode cX10_sendsNew 20 = .ok (.iload_n 2, 1) := by decide +kernel
theorem dX10_sendsNew_21 : decode cX10_sendsNew 21 = .ok (.invokevirtual 76, 3) := by decide +kernel
theorem dX10_sendsNew_24 : decode cX10_sendsNew 24 = .ok (.aload_n 0, 1) := by decide +kernel
theorem dX10_sendsNew_25 : decode cX10_sendsNew 25 = .ok (.iload 4, 2) := by decide +kernel
theorem dX10_sendsNew_27 : decode cX10_sendsNew 27 = .ok (.iconst 2, 1) := by decide +kernel
theorem dX10_sendsNew_28 : decode cX10_sendsNew 28 = .ok (.iload_n 3, 1) := by decide +kernel
theorem dX10_sendsNew_29 : decode cX10_sendsNew 29 = .ok (.invokestatic 104, 3) := by decide +kernel
theorem dX10_sendsNew_32 : decode cX10_sendsNew 32 = .ok (.invokevirtual 76, 3) := by decide +kernel
theorem dX10_sendsNew_35 : decode cX10_sendsNew 35 = .ok (.aload_n 0, 1) := by decide +kernel
theorem dX10_sendsNew_36 : decode cX10_sendsNew 36 = .ok (.iload 4, 2) := by decide +kernel
theorem dX10_sendsNew_38 : decode cX10_sendsNew 38 = .ok (.iconst 4, 1) := by decide +kernel
theorem dX10_sendsNew_39 : decode cX10_sendsNew 39 = .ok (.aload_n 0, 1) := by decide +kernel
theorem dX10_sendsNew_40 : decode cX10_sendsNew 40 = .ok (.getfield 7, 3) := by decide +kernel
theorem dX10_sendsNew_43 : decode cX10_sendsNew 43 = .ok (.iconst 2, 1) := by decide +kernel
theorem dX10_sendsNew_44 : decode cX10_sendsNew 44 = .ok (.iaload, 1) := by decide +kernel
theorem dX10_sendsNew_45 : decode cX10_sendsNew 45 = .ok (.invokevirtual 76, 3) := by decide +kernel
theorem dX10_sendsNew_48 : decode cX10_sendsNew 48 = .ok (.aload_n 0, 1) := by decide +kernel
theorem dX10_sendsNew_49 : decode cX10_sendsNew 49 = .ok (.getfield 7, 3) := by decide +kernel
theorem dX10_sendsNew_52 : decode cX10_sendsNew 52 = .ok (.iconst 1, 1) := by decide +kernel
theorem dX10_sendsNew_53 : decode cX10_sendsNew 53 = .ok (.dup2, 1) := by decide +kernel
theorem dX10_sendsNew_54 : decode cX10_sendsNew 54 = .ok (.iaload, 1) := by decide +kernel
theorem dX10_sendsNew_55 : decode cX10_sendsNew 55 = .ok (.iconst 1, 1) := by decide +kernel
theorem dX10_sendsNew_56 : decode cX10_sendsNew 56 = .ok (.iadd, 1) := by decide +kernel
theorem dX10_sendsNew_57 : decode cX10_sendsNew 57 = .ok (.iastore, 1) := by decide +kernel
theorem dX10_sendsNew_58 : decode cX10_sendsNew 58 = .ok (.aload_n 0, 1) := by decide +kernel
theorem dX10_sendsNew_59 : decode cX10_sendsNew 59 = .ok (.iload 4, 2) := by decide +kernel
theorem dX10_sendsNew_61 : decode cX10_sendsNew 61 = .ok (.invokevirtual 95, 3) := by decide +kernel
theorem dX10_sendsNew_64 : decode cX10_sendsNew 64 = .ok (.iload 4, 2) := by decide +kernel
theorem dX10_sendsNew_66 : decode cX10_sendsNew 66 = .ok (.ireturn, 1) := by decide +kernel
/-! X10_setEvery -/
theorem dX10_setEvery_0 : decode cX10_setEvery 0 = .ok (.aload_n 0, 1) := by decide +kernel
theorem dX10_setEvery_1 : decode cX10_setEvery 1 = .ok (.aload_n 0, 1) := by decide +kernel
theorem dX10_setEvery_2 : decode cX10_setEvery 2 = .ok (.aload_n 0, 1) := by decide +kernel
theorem dX10_setEvery_3 : decode cX10_setEvery 3 = .ok (.iload_n 1, 1) := by decide +kernel
theorem dX10_setEvery_4 : decode cX10_setEvery 4 = .ok (.invokevirtual 358, 3) := by decide +kernel
theorem dX10_setEvery_7 : decode cX10_setEvery 7 = .ok (.iload_n 2, 1) := by decide +kernel
theorem dX10_setEvery_8 : decode cX10_setEvery 8 = .ok (.i2l, 1) := by decide +kernel
theorem dX10_setEvery_9 : decode cX10_setEvery 9 = .ok (.lconst 0, 1) := by decide +kernel
theorem dX10_setEvery_10 : decode cX10_setEvery 10 = .ok (.ldc2_w 486, 3) := by decide +kernel
theorem dX10_setEvery_13 : decode cX10_setEvery 13 = .ok (.invokestatic 65, 3) := by decide +kernel
theorem dX10_setEvery_16 : decode cX10_setEvery 16 = .ok (.invokevirtual 386, 3) := by decide +kernel
theorem dX10_setEvery_19 : decode cX10_setEvery 19 = .ok (.invokevirtual 474, 3) := by decide +kernel
theorem dX10_setEvery_22 : decode cX10_setEvery 22 = .ok (.ifCond .eq 17, 3) := by decide +kernel
theorem dX10_setEvery_25 : decode cX10_setEvery 25 = .ok (.aload_n 0, 1) := by decide +kernel
theorem dX10_setEvery_26 : decode cX10_setEvery 26 = .ok (.aload_n 0, 1) := by decide +kernel
theorem dX10_setEvery_27 : decode cX10_setEvery 27 = .ok (.iload_n 1, 1) := by decide +kernel
theorem dX10_setEvery_28 : decode cX10_setEvery 28 = .ok (.iconst 2, 1) := by decide +kernel
theorem dX10_setEvery_29 : decode cX10_setEvery 29 = .ok (.iload_n 2, 1) := by decide +kernel
theorem dX10_setEvery_30 : decode cX10_setEvery 30 = .ok (.invokevirtual 361, 3) := by decide +kernel
theorem dX10_setEvery_33 : decode cX10_setEvery 33 = .ok (.invokevirtual 477, 3) := by decide +kernel
theorem dX10_setEvery_36 : decode cX10_setEvery 36 = .ok (.goto 4, 3) := by decide +kernel
theorem dX10_setEvery_39 : decode cX10_setEvery 39 = .ok (.iconst 0, 1) := by decide +kernel
theorem dX10_setEvery_40 : decode cX10_setEvery 40 = .ok (.ireturn, 1) := by decide +kernel
/-! X10_setLife -/
theorem dX10_setLife_0 : decode cX10_setLife 0 = .ok (.aload_n 0, 1) := by decide +kernel
theorem dX10_setLife_1 : decode cX10_setLife 1 = .ok (.aload_n 0, 1) := by decide +kernel
theorem dX10_setLife_2 : decode cX10_setLife 2 = .ok (.iload_n 1, 1) := by decide +kernel
theorem dX10_setLife_3 : decode cX10_setLife 3 = .ok (.i2l, 1) := by decide +kernel
theorem dX10_setLife_4 : decode cX10_setLife 4 = .ok (.lconst 1, 1) := by decide +kernel
theorem dX10_setLife_5 : decode cX10_setLife 5 = .ok (.ldc2_w 468, 3) := by decide +kernel
theorem dX10_setLife_8 : decode cX10_setLife 8 = .ok (.invokestatic 65, 3) := by decide +kernel
theorem dX10_setLife_11 : decode cX10_setLife 11 = .ok (.invokevirtual 201, 3) := by decide +kernel
theorem dX10_setLife_14 : decode cX10_setLife 14 = .ok (.invokevirtual 474, 3) := by decide +kernel
theorem dX10_setLife_17 : decode cX10_setLife 17 = .ok (.ifCond .eq 16, 3) := by decide +kernel
theorem dX10_setLife_20 : decode cX10_setLife 20 = .ok (.aload_n 0, 1) := by decide +kernel
theorem dX10_setLife_21 : decode cX10_setLife 21 = .ok (.aload_n 0, 1) := by decide +kernel
theorem dX10_setLife_22 : decode cX10_setLife 22 = .ok (.iconst 3, 1) := by decide +kernel
theorem dX10_setLife_23 : decode cX10_setLife 23 = .ok (.iload_n 1, 1) := by decide +kernel
theorem dX10_setLife_24 : decode cX10_setLife 24 = .ok (.invokevirtual 488, 3) := by decide +kernel
theorem dX10_setLife_27 : decode cX10_setLife 27 = .ok (.invokevirtual 477, 3) := by decide +kernel
theorem dX10_setLife_30 : decode cX10_setLife 30 = .ok (.goto 4, 3) := by decide +kernel
theorem dX10_setLife_33 : decode cX10_setLife 33 = .ok (.iconst 0, 1) := by decide +kernel
theorem dX10_setLife_34 : decode cX10_setLife 34 = .ok (.ireturn, 1) := by decide +kernel
/-! X10_setNow -/
theorem dX10_setNow_0 : decode cX10_setNow 0 = .ok (.aload_n 0, 1) := by decide +kernel
theorem dX10_setNow_1 : decode cX10_setNow 1 = .ok (.iload_n 1, 1) := by decide +kernel
theorem dX10_setNow_2 : decode cX10_setNow 2 = .ok (.iload_n 2, 1) := by decide +kernel
theorem dX10_setNow_3 : decode cX10_setNow 3 = .ok (.invokevirtual 73, 3) := by decide +kernel
theorem dX10_setNow_6 : decode cX10_setNow 6 = .ok (.istore 4, 2) := by decide +kernel
theorem dX10_setNow_8 : decode cX10_setNow 8 = .ok (.aload_n 0, 1) := by decide +kernel
theorem dX10_setNow_9 : decode cX10_setNow 9 = .ok (.getfield 7, 3) := by decide +kernel
theorem dX10_setNow_12 : decode cX10_setNow 12 = .ok (.bipush 24, 2) := by decide +kernel
theorem dX10_setNow_14 : decode cX10_setNow 14 = .ok (.bipush 8, 2) := by decide +kernel
theorem dX10_setNow_16 : decode cX10_setNow 16 = .ok (.iload_n 1, 1) := by decide +kernel
theorem dX10_setNow_17 : decode cX10_setNow 17 = .ok (.imul, 1) := by decide +kernel
theorem dX10_setNow_18 : decode cX10_setNow 18 = .ok (.iadd, 1) := by decide +kernel
theorem dX10_setNow_19 : decode cX10_setNow 19 = .ok (.iload_n 2, 1) := by decide +kernel
theorem dX10_setNow_20 : decode cX10_setNow 20 = .ok (.iadd, 1) := by decide +kernel
theorem dX10_setNow_21 : decode cX10_setNow 21 = .ok (.iload_n 3, 1) := by decide +kernel
theorem dX10_setNow_22 : decode cX10_setNow 22 = .ok (.iastore, 1) := by decide +kernel
theorem dX10_setNow_23 : decode cX10_setNow 23 = .ok (.iload 4, 2) := by decide +kernel
theorem dX10_setNow_25 : decode cX10_setNow 25 = .ok (.ireturn, 1) := by decide +kernel
/-! X10_setPolicy -/
theorem dX10_setPolicy_0 : decode cX10_setPolicy 0 = .ok (.aload_n 0, 1) := by decide +kernel
theorem dX10_setPolicy_1 : decode cX10_setPolicy 1 = .ok (.aload_n 0, 1) := by decide +kernel
theorem dX10_setPolicy_2 : decode cX10_setPolicy 2 = .ok (.iload_n 1, 1) := by decide +kernel
theorem dX10_setPolicy_3 : decode cX10_setPolicy 3 = .ok (.i2l, 1) := by decide +kernel
theorem dX10_setPolicy_4 : decode cX10_setPolicy 4 = .ok (.lconst 0, 1) := by decide +kernel
theorem dX10_setPolicy_5 : decode cX10_setPolicy 5 = .ok (.ldc2_w 470, 3) := by decide +kernel
theorem dX10_setPolicy_8 : decode cX10_setPolicy 8 = .ok (.invokestatic 65, 3) := by decide +kernel
theorem dX10_setPolicy_11 : decode cX10_setPolicy 11 = .ok (.invokevirtual 201, 3) := by decide +kernel
theorem dX10_setPolicy_14 : decode cX10_setPolicy 14 = .ok (.invokevirtual 474, 3) := by decide +kernel
theorem dX10_setPolicy_17 : decode cX10_setPolicy 17 = .ok (.ifCond .eq 16, 3) := by decide +kernel
theorem dX10_setPolicy_20 : decode cX10_setPolicy 20 = .ok (.aload_n 0, 1) := by decide +kernel
theorem dX10_setPolicy_21 : decode cX10_setPolicy 21 = .ok (.aload_n 0, 1) := by decide +kernel
theorem dX10_setPolicy_22 : decode cX10_setPolicy 22 = .ok (.iconst 4, 1) := by decide +kernel
theorem dX10_setPolicy_23 : decode cX10_setPolicy 23 = .ok (.iload_n 1, 1) := by decide +kernel
theorem dX10_setPolicy_24 : decode cX10_setPolicy 24 = .ok (.invokevirtual 488, 3) := by decide +kernel
theorem dX10_setPolicy_27 : decode cX10_setPolicy 27 = .ok (.invokevirtual 477, 3) := by decide +kernel
theorem dX10_setPolicy_30 : decode cX10_setPolicy 30 = .ok (.goto 4, 3) := by decide +kernel
theorem dX10_setPolicy_33 : decode cX10_setPolicy 33 = .ok (.iconst 0, 1) := by decide +kernel
theorem dX10_setPolicy_34 : decode cX10_setPolicy 34 = .ok (.ireturn, 1) := by decide +kernel
/-! X10_setSize -/
theorem dX10_setSize_0 : decode cX10_setSize 0 = .ok (.aload_n 0, 1) := by decide +kernel
theorem dX10_setSize_1 : decode cX10_setSize 1 = .ok (.aload_n 0, 1) := by decide +kernel
theorem dX10_setSize_2 : decode cX10_setSize 2 = .ok (.aload_n 0, 1) := by decide +kernel
theorem dX10_setSize_3 : decode cX10_setSize 3 = .ok (.iload_n 1, 1) := by decide +kernel
theorem dX10_setSize_4 : decode cX10_setSize 4 = .ok (.invokevirtual 358, 3) := by decide +kernel
theorem dX10_setSize_7 : decode cX10_setSize 7 = .ok (.iload_n 2, 1) := by decide +kernel
theorem dX10_setSize_8 : decode cX10_setSize 8 = .ok (.i2l, 1) := by decide +kernel
theorem dX10_setSize_9 : decode cX10_setSize 9 = .ok (.ldc2_w 480, 3) := by decide +kernel
theorem dX10_setSize_12 : decode cX10_setSize 12 = .ok (.ldc2_w 482, 3) := by decide +kernel
theorem dX10_setSize_15 : decode cX10_setSize 15 = .ok (.invokestatic 65, 3) := by decide +kernel
theorem dX10_setSize_18 : decode cX10_setSize 18 = .ok (.invokevirtual 386, 3) := by decide +kernel
theorem dX10_setSize_21 : decode cX10_setSize 21 = .ok (.invokevirtual 474, 3) := by decide +kernel
theorem dX10_setSize_24 : decode cX10_setSize 24 = .ok (.ifCond .eq 17, 3) := by decide +kernel
theorem dX10_setSize_27 : decode cX10_setSize 27 = .ok (.aload_n 0, 1) := by decide +kernel
theorem dX10_setSize_28 : decode cX10_setSize 28 = .ok (.aload_n 0, 1) := by decide +kernel
theorem dX10_setSize_29 : decode cX10_setSize 29 = .ok (.iload_n 1, 1) := by decide +kernel
theorem dX10_setSize_30 : decode cX10_setSize 30 = .ok (.iconst 0, 1) := by decide +kernel
theorem dX10_setSize_31 : decode cX10_setSize 31 = .ok (.iload_n 2, 1) := by decide +kernel
theorem dX10_setSize_32 : decode cX10_setSize 32 = .ok (.invokevirtual 361, 3) := by decide +kernel
theorem dX10_setSize_35 : decode cX10_setSize 35 = .ok (.invokevirtual 477, 3) := by decide +kernel
theorem dX10_setSize_38 : decode cX10_setSize 38 = .ok (.goto 4, 3) := by decide +kernel
theorem dX10_setSize_41 : decode cX10_setSize 41 = .ok (.iconst 0, 1) := by decide +kernel
theorem dX10_setSize_42 : decode cX10_setSize 42 = .ok (.ireturn, 1) := by decide +kernel
/-! X10_size -/
theorem dX10_size_0 : decode cX10_size 0 = .ok (.aload_n 0, 1) := by decide +kernel
theorem dX10_size_1 : decode cX10_size 1 = .ok (.iload_n 1, 1) := by decide +kernel
theorem dX10_size_2 : decode cX10_size 2 = .ok (.i2l, 1) := by decide +kernel
theorem dX10_size_3 : decode cX10_size 3 = .ok (.lconst 0, 1) := by decide +kernel
theorem dX10_size_4 : decode cX10_size 4 = .ok (.ldc2_w 376, 3) := by decide +kernel
theorem dX10_size_7 : decode cX10_size 7 = .ok (.invokestatic 65, 3) := by decide +kernel
theorem dX10_size_10 : decode cX10_size 10 = .ok (.invokevirtual 201, 3) := by decide +kernel
theorem dX10_size_13 : decode cX10_size 13 = .ok (.ifCond .ne 5, 3) := by decide +kernel
theorem dX10_size_16 : decode cX10_size 16 = .ok (.iconst 0, 1) := by decide +kernel
theorem dX10_size_17 : decode cX10_size 17 = .ok (.ireturn, 1) := by decide +kernel
theorem dX10_size_18 : decode cX10_size 18 = .ok (.iload_n 1, 1) := by decide +kernel
theorem dX10_size_19 : decode cX10_size 19 = .ok (.tableswitch 84 9 15 #[41, 47, 53, 58, 65, 72, 79], 41) := by decide +kernel
theorem dX10_size_60 : decode cX10_size 60 = .ok (.aload_n 0, 1) := by decide +kernel
theorem dX10_size_61 : decode cX10_size 61 = .ok (.iconst 0, 1) := by decide +kernel
theorem dX10_size_62 : decode cX10_size 62 = .ok (.invokevirtual 378, 3) := by decide +kernel
theorem dX10_size_65 : decode cX10_size 65 = .ok (.ireturn, 1) := by decide +kernel
theorem dX10_size_66 : decode cX10_size 66 = .ok (.aload_n 0, 1) := by decide +kernel
theorem dX10_size_67 : decode cX10_size 67 = .ok (.iconst 1, 1) := by decide +kernel
theorem dX10_size_68 : decode cX10_size 68 = .ok (.invokevirtual 378, 3) := by decide +kernel
theorem dX10_size_71 : decode cX10_size 71 = .ok (.ireturn, 1) := by decide +kernel
theorem dX10_size_72 : decode cX10_size 72 = .ok (.aload_n 0, 1) := by decide +kernel
theorem dX10_size_73 : decode cX10_size 73 = .ok (.invokevirtual 143, 3) := by decide +kernel
theorem dX10_size_76 : decode cX10_size 76 = .ok (.ireturn, 1) := by decide +kernel
theorem dX10_size_77 : decode cX10_size 77 = .ok (.aload_n 0, 1) := by decide +kernel
theorem dX10_size_78 : decode cX10_size 78 = .ok (.iconst 0, 1) := by decide +kernel
theorem dX10_size_79 : decode cX10_size 79 = .ok (.iconst 0, 1) := by decide +kernel
theorem dX10_size_80 : decode cX10_size 80 = .ok (.invokevirtual 381, 3) := by decide +kernel
theorem dX10_size_83 : decode cX10_size 83 = .ok (.ireturn, 1) := by decide +kernel
theorem dX10_size_84 : decode cX10_size 84 = .ok (.aload_n 0, 1) := by decide +kernel
theorem dX10_size_85 : decode cX10_size 85 = .ok (.iconst 1, 1) := by decide +kernel
theorem dX10_size_86 : decode cX10_size 86 = .ok (.iconst 2, 1) := by decide +kernel
theorem dX10_size_87 : decode cX10_size 87 = .ok (.invokevirtual 381, 3) := by decide +kernel
theorem dX10_size_90 : decode cX10_size 90 = .ok (.ireturn, 1) := by decide +kernel
theorem dX10_size_91 : decode cX10_size 91 = .ok (.aload_n 0, 1) := by decide +kernel
theorem dX10_size_92 : decode cX10_size 92 = .ok (.iconst 3, 1) := by decide +kernel
theorem dX10_size_93 : decode cX10_size 93 = .ok (.iconst 3, 1) := by decide +kernel
theorem dX10_size_94 : decode cX10_size 94 = .ok (.invokevirtual 381, 3) := by decide +kernel
theorem dX10_size_97 : decode cX10_size 97 = .ok (.ireturn, 1) := by decide +kernel
theorem dX10_size_98 : decode cX10_size 98 = .ok (.aload_n 0, 1) := by decide +kernel
theorem dX10_size_99 : decode cX10_size 99 = .ok (.getfield 307, 3) := by decide +kernel
theorem dX10_size_102 : decode cX10_size 102 = .ok (.ireturn, 1) := by decide +kernel
theorem dX10_size_103 : decode cX10_size 103 = .ok (.aload_n 0, 1) := by decide +kernel
theorem dX10_size_104 : decode cX10_size 104 = .ok (.getfield 7, 3) := by decide +kernel
theorem dX10_size_107 : decode cX10_size 107 = .ok (.iload_n 1, 1) := by decide +kernel
theorem dX10_size_108 : decode cX10_size 108 = .ok (.iaload, 1) := by decide +kernel
theorem dX10_size_109 : decode cX10_size 109 = .ok (.ireturn, 1) := by decide +kernel
/-! X10_takes -/
theorem dX10_takes_0 : decode cX10_takes 0 = .ok (.aload_n 0, 1) := by decide +kernel
theorem dX10_takes_1 : decode cX10_takes 1 = .ok (.getfield 217, 3) := by decide +kernel
theorem dX10_takes_4 : decode cX10_takes 4 = .ok (.ifCond .eq 5, 3) := by decide +kernel
theorem dX10_takes_7 : decode cX10_takes 7 = .ok (.iconst 0, 1) := by decide +kernel
theorem dX10_takes_8 : decode cX10_takes 8 = .ok (.ireturn, 1) := by decide +kernel
theorem dX10_takes_9 : decode cX10_takes 9 = .ok (.aload_n 0, 1) := by decide +kernel
theorem dX10_takes_10 : decode cX10_takes 10 = .ok (.invokevirtual 226, 3) := by decide +kernel
theorem dX10_takes_13 : decode cX10_takes 13 = .ok (.istore_n 2, 1) := by decide +kernel
theorem dX10_takes_14 : decode cX10_takes 14 = .ok (.iconst 0, 1) := by decide +kernel
theorem dX10_takes_15 : decode cX10_takes 15 = .ok (.istore_n 3, 1) := by decide +kernel
theorem dX10_takes_16 : decode cX10_takes 16 = .ok (.aload_n 0, 1) := by decide +kernel
theorem dX10_takes_17 : decode cX10_takes 17 = .ok (.aload_n 0, 1) := by decide +kernel
theorem dX10_takes_18 : decode cX10_takes 18 = .ok (.getfield 214, 3) := by decide +kernel
theorem dX10_takes_21 : decode cX10_takes 21 = .ok (.iload_n 3, 1) := by decide +kernel
theorem dX10_takes_22 : decode cX10_takes 22 = .ok (.iadd, 1) := by decide +kernel
theorem dX10_takes_23 : decode cX10_takes 23 = .ok (.invokevirtual 211, 3) := by decide +kernel
theorem dX10_takes_26 : decode cX10_takes 26 = .ok (.i2l, 1) := by decide +kernel
theorem dX10_takes_27 : decode cX10_takes 27 = .ok (.ldc2_w 229, 3) := by decide +kernel
theorem dX10_takes_30 : decode cX10_takes 30 = .ok (.ldc2_w 231, 3) := by decide +kernel
theorem dX10_takes_33 : decode cX10_takes 33 = .ok (.invokestatic 65, 3) := by decide +kernel
theorem dX10_takes_36 : decode cX10_takes 36 = .ok (.ifCond .eq 9, 3) := by decide +kernel
theorem dX10_takes_39 : decode cX10_takes 39 = .ok (.iinc 3 1, 3) := by decide +kernel
theorem dX10_takes_42 : decode cX10_takes 42 = .ok (.goto (-26), 3) := by decide +kernel
theorem dX10_takes_45 : decode cX10_takes 45 = .ok (.iload_n 2, 1) := by decide +kernel
theorem dX10_takes_46 : decode cX10_takes 46 = .ok (.ifCond .lt 11, 3) := by decide +kernel
theorem dX10_takes_49 : decode cX10_takes 49 = .ok (.iload_n 3, 1) := by decide +kernel
theorem dX10_takes_50 : decode cX10_takes 50 = .ok (.aload_n 1, 1) := by decide +kernel
theorem dX10_takes_51 : decode cX10_takes 51 = .ok (.invokevirtual 233, 3) := by decide +kernel
theorem dX10_takes_54 : decode cX10_takes 54 = .ok (.if_icmp .eq 5, 3) := by decide +kernel
theorem dX10_takes_57 : decode cX10_takes 57 = .ok (.iconst 0, 1) := by decide +kernel
theorem dX10_takes_58 : decode cX10_takes 58 = .ok (.ireturn, 1) := by decide +kernel
theorem dX10_takes_59 : decode cX10_takes 59 = .ok (.iconst 0, 1) := by decide +kernel
theorem dX10_takes_60 : decode cX10_takes 60 = .ok (.istore 4, 2) := by decide +kernel
theorem dX10_takes_62 : decode cX10_takes 62 = .ok (.iload 4, 2) := by decide +kernel
theorem dX10_takes_64 : decode cX10_takes 64 = .ok (.aload_n 1, 1) := by decide +kernel
theorem dX10_takes_65 : decode cX10_takes 65 = .ok (.invokevirtual 233, 3) := by decide +kernel
theorem dX10_takes_68 : decode cX10_takes 68 = .ok (.if_icmp .ge 31, 3) := by decide +kernel
theorem dX10_takes_71 : decode cX10_takes 71 = .ok (.aload_n 0, 1) := by decide +kernel
theorem dX10_takes_72 : decode cX10_takes 72 = .ok (.aload_n 0, 1) := by decide +kernel
theorem dX10_takes_73 : decode cX10_takes 73 = .ok (.getfield 214, 3) := by decide +kernel
theorem dX10_takes_76 : decode cX10_takes 76 = .ok (.iload 4, 2) := by decide +kernel
theorem dX10_takes_78 : decode cX10_takes 78 = .ok (.iadd, 1) := by decide +kernel
theorem dX10_takes_79 : decode cX10_takes 79 = .ok (.invokevirtual 211, 3) := by decide +kernel
theorem dX10_takes_82 : decode cX10_takes 82 = .ok (.aload_n 1, 1) := by decide +kernel
theorem dX10_takes_83 : decode cX10_takes 83 = .ok (.iload 4, 2) := by decide +kernel
theorem dX10_takes_85 : decode cX10_takes 85 = .ok (.invokevirtual 237, 3) := by decide +kernel
theorem dX10_takes_88 : decode cX10_takes 88 = .ok (.if_icmp .eq 5, 3) := by decide +kernel
theorem dX10_takes_91 : decode cX10_takes 91 = .ok (.iconst 0, 1) := by decide +kernel
theorem dX10_takes_92 : decode cX10_takes 92 = .ok (.ireturn, 1) := by decide +kernel
theorem dX10_takes_93 : decode cX10_takes 93 = .ok (.iinc 4 1, 3) := by decide +kernel
theorem dX10_takes_96 : decode cX10_takes 96 = .ok (.goto (-34), 3) := by decide +kernel
theorem dX10_takes_99 : decode cX10_takes 99 = .ok (.aload_n 0, 1) := by decide +kernel
theorem dX10_takes_100 : decode cX10_takes 100 = .ok (.aload_n 0, 1) := by decide +kernel
theorem dX10_takes_101 : decode cX10_takes 101 = .ok (.getfield 214, 3) := by decide +kernel
theorem dX10_takes_104 : decode cX10_takes 104 = .ok (.aload_n 1, 1) := by decide +kernel
theorem dX10_takes_105 : decode cX10_takes 105 = .ok (.invokevirtual 233, 3) := by decide +kernel
theorem dX10_takes_108 : decode cX10_takes 108 = .ok (.iadd, 1) := by decide +kernel
theorem dX10_takes_109 : decode cX10_takes 109 = .ok (.putfield 208, 3) := by decide +kernel
theorem dX10_takes_112 : decode cX10_takes 112 = .ok (.iconst 1, 1) := by decide +kernel
theorem dX10_takes_113 : decode cX10_takes 113 = .ok (.ireturn, 1) := by decide +kernel
/-! X10_tells -/
theorem dX10_tells_0 : decode cX10_tells 0 = .ok (.aload_n 0, 1) := by decide +kernel
theorem dX10_tells_1 : decode cX10_tells 1 = .ok (.getfield 43, 3) := by decide +kernel
theorem dX10_tells_4 : decode cX10_tells 4 = .ok (.bipush 6, 2) := by decide +kernel
theorem dX10_tells_6 : decode cX10_tells 6 = .ok (.aload_n 0, 1) := by decide +kernel
theorem dX10_tells_7 : decode cX10_tells 7 = .ok (.getfield 322, 3) := by decide +kernel
theorem dX10_tells_10 : decode cX10_tells 10 = .ok (.imul, 1) := by decide +kernel
theorem dX10_tells_11 : decode cX10_tells 11 = .ok (.iload_n 1, 1) := by decide +kernel
theorem dX10_tells_12 : decode cX10_tells 12 = .ok (.iadd, 1) := by decide +kernel
theorem dX10_tells_13 : decode cX10_tells 13 = .ok (.iload_n 2, 1) := by decide +kernel
theorem dX10_tells_14 : decode cX10_tells 14 = .ok (.iastore, 1) := by decide +kernel
theorem dX10_tells_15 : decode cX10_tells 15 = .ok (.return_, 1) := by decide +kernel
/-! X10_thrown -/
theorem dX10_thrown_0 : decode cX10_thrown 0 = .ok (.aload_n 0, 1) := by decide +kernel
theorem dX10_thrown_1 : decode cX10_thrown 1 = .ok (.getfield 62, 3) := by decide +kernel
theorem dX10_thrown_4 : decode cX10_thrown 4 = .ok (.ireturn, 1) := by decide +kernel
/-! X10_tick -/
theorem dX10_tick_0 : decode cX10_tick 0 = .ok (.aload_n 0, 1) := by decide +kernel
theorem dX10_tick_1 : decode cX10_tick 1 = .ok (.getfield 7, 3) := by decide +kernel
theorem dX10_tick_4 : decode cX10_tick 4 = .ok (.iconst 2, 1) := by decide +kernel
theorem dX10_tick_5 : decode cX10_tick 5 = .ok (.dup2, 1) := by decide +kernel
theorem dX10_tick_6 : decode cX10_tick 6 = .ok (.iaload, 1) := by decide +kernel
theorem dX10_tick_7 : decode cX10_tick 7 = .ok (.iconst 1, 1) := by decide +kernel
theorem dX10_tick_8 : decode cX10_tick 8 = .ok (.iadd, 1) := by decide +kernel
theorem dX10_tick_9 : decode cX10_tick 9 = .ok (.iastore, 1) := by decide +kernel
theorem dX10_tick_10 : decode cX10_tick 10 = .ok (.iconst 0, 1) := by decide +kernel
theorem dX10_tick_11 : decode cX10_tick 11 = .ok (.istore_n 1, 1) := by decide +kernel
theorem dX10_tick_12 : decode cX10_tick 12 = .ok (.iload_n 1, 1) := by decide +kernel
theorem dX10_tick_13 : decode cX10_tick 13 = .ok (.aload_n 0, 1) := by decide +kernel
theorem dX10_tick_14 : decode cX10_tick 14 = .ok (.getfield 7, 3) := by decide +kernel
theorem dX10_tick_17 : decode cX10_tick 17 = .ok (.iconst 0, 1) := by decide +kernel
theorem dX10_tick_18 : decode cX10_tick 18 = .ok (.iaload, 1) := by decide +kernel
theorem dX10_tick_19 : decode cX10_tick 19 = .ok (.if_icmp .ge 34, 3) := by decide +kernel
theorem dX10_tick_22 : decode cX10_tick 22 = .ok (.aload_n 0, 1) := by decide +kernel
theorem dX10_tick_23 : decode cX10_tick 23 = .ok (.iload_n 1, 1) := by decide +kernel
theorem dX10_tick_24 : decode cX10_tick 24 = .ok (.invokevirtual 183, 3) := by decide +kernel
theorem dX10_tick_27 : decode cX10_tick 27 = .ok (.istore_n 2, 1) := by decide +kernel
theorem dX10_tick_28 : decode cX10_tick 28 = .ok (.iload_n 2, 1) := by decide +kernel
theorem dX10_tick_29 : decode cX10_tick 29 = .ok (.iconst (-1), 1) := by decide +kernel
theorem dX10_tick_30 : decode cX10_tick 30 = .ok (.if_icmp .eq 17, 3) := by decide +kernel
theorem dX10_tick_33 : decode cX10_tick 33 = .ok (.aload_n 0, 1) := by decide +kernel
theorem dX10_tick_34 : decode cX10_tick 34 = .ok (.iload_n 2, 1) := by decide +kernel
theorem dX10_tick_35 : decode cX10_tick 35 = .ok (.invokevirtual 186, 3) := by decide +kernel
theorem dX10_tick_38 : decode cX10_tick 38 = .ok (.aload_n 0, 1) := by decide +kernel
theorem dX10_tick_39 : decode cX10_tick 39 = .ok (.iload_n 1, 1) := by decide +kernel
theorem dX10_tick_40 : decode cX10_tick 40 = .ok (.invokevirtual 183, 3) := by decide +kernel
theorem dX10_tick_43 : decode cX10_tick 43 = .ok (.istore_n 2, 1) := by decide +kernel
theorem dX10_tick_44 : decode cX10_tick 44 = .ok (.goto (-16), 3) := by decide +kernel
theorem dX10_tick_47 : decode cX10_tick 47 = .ok (.iinc 1 1, 3) := by decide +kernel
theorem dX10_tick_50 : decode cX10_tick 50 = .ok (.goto (-38), 3) := by decide +kernel
theorem dX10_tick_53 : decode cX10_tick 53 = .ok (.aload_n 0, 1) := by decide +kernel
theorem dX10_tick_54 : decode cX10_tick 54 = .ok (.invokevirtual 189, 3) := by decide +kernel
theorem dX10_tick_57 : decode cX10_tick 57 = .ok (.istore_n 1, 1) := by decide +kernel
theorem dX10_tick_58 : decode cX10_tick 58 = .ok (.iload_n 1, 1) := by decide +kernel
theorem dX10_tick_59 : decode cX10_tick 59 = .ok (.iconst (-1), 1) := by decide +kernel
theorem dX10_tick_60 : decode cX10_tick 60 = .ok (.if_icmp .eq 16, 3) := by decide +kernel
theorem dX10_tick_63 : decode cX10_tick 63 = .ok (.aload_n 0, 1) := by decide +kernel
theorem dX10_tick_64 : decode cX10_tick 64 = .ok (.iload_n 1, 1) := by decide +kernel
theorem dX10_tick_65 : decode cX10_tick 65 = .ok (.invokevirtual 192, 3) := by decide +kernel
theorem dX10_tick_68 : decode cX10_tick 68 = .ok (.aload_n 0, 1) := by decide +kernel
theorem dX10_tick_69 : decode cX10_tick 69 = .ok (.invokevirtual 189, 3) := by decide +kernel
theorem dX10_tick_72 : decode cX10_tick 72 = .ok (.istore_n 1, 1) := by decide +kernel
theorem dX10_tick_73 : decode cX10_tick 73 = .ok (.goto (-15), 3) := by decide +kernel
theorem dX10_tick_76 : decode cX10_tick 76 = .ok (.iconst 0, 1) := by decide +kernel
theorem dX10_tick_77 : decode cX10_tick 77 = .ok (.istore_n 1, 1) := by decide +kernel
theorem dX10_tick_78 : decode cX10_tick 78 = .ok (.iload_n 1, 1) := by decide +kernel
theorem dX10_tick_79 : decode cX10_tick 79 = .ok (.aload_n 0, 1) := by decide +kernel
theorem dX10_tick_80 : decode cX10_tick 80 = .ok (.getfield 7, 3) := by decide +kernel
theorem dX10_tick_83 : decode cX10_tick 83 = .ok (.iconst 1, 1) := by decide +kernel
theorem dX10_tick_84 : decode cX10_tick 84 = .ok (.iaload, 1) := by decide +kernel
theorem dX10_tick_85 : decode cX10_tick 85 = .ok (.if_icmp .ge 61, 3) := by decide +kernel
theorem dX10_tick_88 : decode cX10_tick 88 = .ok (.aload_n 0, 1) := by decide +kernel
theorem dX10_tick_89 : decode cX10_tick 89 = .ok (.iload_n 1, 1) := by decide +kernel
theorem dX10_tick_90 : decode cX10_tick 90 = .ok (.invokevirtual 91, 3) := by decide +kernel
theorem dX10_tick_93 : decode cX10_tick 93 = .ok (.ifCond .eq 11, 3) := by decide +kernel
theorem dX10_tick_96 : decode cX10_tick 96 = .ok (.aload_n 0, 1) := by decide +kernel
theorem dX10_tick_97 : decode cX10_tick 97 = .ok (.iload_n 1, 1) := by decide +kernel
theorem dX10_tick_98 : decode cX10_tick 98 = .ok (.invokevirtual 137, 3) := by decide +kernel
theorem dX10_tick_101 : decode cX10_tick 101 = .ok (.goto 4, 3) := by decide +kernel
theorem dX10_tick_104 : decode cX10_tick 104 = .ok (.iconst (-1), 1) := by decide +kernel
theorem dX10_tick_105 : decode cX10_tick 105 = .ok (.istore_n 2, 1) := by decide +kernel
theorem dX10_tick_106 : decode cX10_tick 106 = .ok (.iload_n 2, 1) := by decide +kernel
theorem dX10_tick_107 : decode cX10_tick 107 = .ok (.iconst (-1), 1) := by decide +kernel
theorem dX10_tick_108 : decode cX10_tick 108 = .ok (.if_icmp .eq 32, 3) := by decide +kernel
theorem dX10_tick_111 : decode cX10_tick 111 = .ok (.aload_n 0, 1) := by decide +kernel
theorem dX10_tick_112 : decode cX10_tick 112 = .ok (.getfield 7, 3) := by decide +kernel
theorem dX10_tick_115 : decode cX10_tick 115 = .ok (.iconst 2, 1) := by decide +kernel
theorem dX10_tick_116 : decode cX10_tick 116 = .ok (.iaload, 1) := by decide +kernel
theorem dX10_tick_117 : decode cX10_tick 117 = .ok (.aload_n 0, 1) := by decide +kernel
theorem dX10_tick_118 : decode cX10_tick 118 = .ok (.iload_n 2, 1) := by decide +kernel
theorem dX10_tick_119 : decode cX10_tick 119 = .ok (.iconst 1, 1) := by decide +kernel
theorem dX10_tick_120 : decode cX10_tick 120 = .ok (.invokevirtual 134, 3) := by decide +kernel
theorem dX10_tick_123 : decode cX10_tick 123 = .ok (.isub, 1) := by decide +kernel
theorem dX10_tick_124 : decode cX10_tick 124 = .ok (.aload_n 0, 1) := by decide +kernel
theorem dX10_tick_125 : decode cX10_tick 125 = .ok (.getfield 7, 3) := by decide +kernel
theorem dX10_tick_128 : decode cX10_tick 128 = .ok (.iconst 3, 1) := by decide +kernel
theorem dX10_tick_129 : decode cX10_tick 129 = .ok (.iaload, 1) := by decide +kernel
theorem dX10_tick_130 : decode cX10_tick 130 = .ok (.if_icmp .lt 10, 3) := by decide +kernel
theorem dX10_tick_133 : decode cX10_tick 133 = .ok (.aload_n 0, 1) := by decide +kernel
theorem dX10_tick_134 : decode cX10_tick 134 = .ok (.iload_n 1, 1) := by decide +kernel
theorem dX10_tick_135 : decode cX10_tick 135 = .ok (.iconst 3, 1) := by decide +kernel
theorem dX10_tick_136 : decode cX10_tick 136 = .ok (.iconst 1, 1) := by decide +kernel
theorem dX10_tick_137 : decode cX10_tick 137 = .ok (.invokevirtual 150, 3) := by decide +kernel
theorem dX10_tick_140 : decode cX10_tick 140 = .ok (.iinc 1 1, 3) := by decide +kernel
theorem dX10_tick_143 : decode cX10_tick 143 = .ok (.goto (-65), 3) := by decide +kernel
theorem dX10_tick_146 : decode cX10_tick 146 = .ok (.return_, 1) := by decide +kernel
/-! X10_ticks -/
theorem dX10_ticks_0 : decode cX10_ticks 0 = .ok (.iconst 0, 1) := by decide +kernel
theorem dX10_ticks_1 : decode cX10_ticks 1 = .ok (.istore_n 2, 1) := by decide +kernel
theorem dX10_ticks_2 : decode cX10_ticks 2 = .ok (.iload_n 2, 1) := by decide +kernel
theorem dX10_ticks_3 : decode cX10_ticks 3 = .ok (.iload_n 1, 1) := by decide +kernel
theorem dX10_ticks_4 : decode cX10_ticks 4 = .ok (.if_icmp .ge 13, 3) := by decide +kernel
theorem dX10_ticks_7 : decode cX10_ticks 7 = .ok (.aload_n 0, 1) := by decide +kernel
theorem dX10_ticks_8 : decode cX10_ticks 8 = .ok (.invokevirtual 195, 3) := by decide +kernel
theorem dX10_ticks_11 : decode cX10_ticks 11 = .ok (.iinc 2 1, 3) := by decide +kernel
theorem dX10_ticks_14 : decode cX10_ticks 14 = .ok (.goto (-12), 3) := by decide +kernel
theorem dX10_ticks_17 : decode cX10_ticks 17 = .ok (.return_, 1) := by decide +kernel
/-! X10_topOf -/
theorem dX10_topOf_0 : decode cX10_topOf 0 = .ok (.sipush 1200, 3) := by decide +kernel
theorem dX10_topOf_3 : decode cX10_topOf 3 = .ok (.istore_n 2, 1) := by decide +kernel
theorem dX10_topOf_4 : decode cX10_topOf 4 = .ok (.iload_n 2, 1) := by decide +kernel
theorem dX10_topOf_5 : decode cX10_topOf 5 = .ok (.ifCond .le 21, 3) := by decide +kernel
theorem dX10_topOf_8 : decode cX10_topOf 8 = .ok (.aload_n 0, 1) := by decide +kernel
theorem dX10_topOf_9 : decode cX10_topOf 9 = .ok (.iload_n 1, 1) := by decide +kernel
theorem dX10_topOf_10 : decode cX10_topOf 10 = .ok (.iload_n 2, 1) := by decide +kernel
theorem dX10_topOf_11 : decode cX10_topOf 11 = .ok (.iconst 1, 1) := by decide +kernel
theorem dX10_topOf_12 : decode cX10_topOf 12 = .ok (.isub, 1) := by decide +kernel
theorem dX10_topOf_13 : decode cX10_topOf 13 = .ok (.invokevirtual 153, 3) := by decide +kernel
theorem dX10_topOf_16 : decode cX10_topOf 16 = .ok (.iconst (-1), 1) := by decide +kernel
theorem dX10_topOf_17 : decode cX10_topOf 17 = .ok (.if_icmp .ne 9, 3) := by decide +kernel
theorem dX10_topOf_20 : decode cX10_topOf 20 = .ok (.iinc 2 (-1), 3) := by decide +kernel
theorem dX10_topOf_23 : decode cX10_topOf 23 = .ok (.goto (-19), 3) := by decide +kernel
theorem dX10_topOf_26 : decode cX10_topOf 26 = .ok (.iload_n 2, 1) := by decide +kernel
theorem dX10_topOf_27 : decode cX10_topOf 27 = .ok (.ireturn, 1) := by decide +kernel
/-! X10_tried -/
theorem dX10_tried_0 : decode cX10_tried 0 = .ok (.iload_n 1, 1) := by decide +kernel
theorem dX10_tried_1 : decode cX10_tried 1 = .ok (.ifCond .eq 16, 3) := by decide +kernel
theorem dX10_tried_4 : decode cX10_tried 4 = .ok (.aload_n 0, 1) := by decide +kernel
theorem dX10_tried_5 : decode cX10_tried 5 = .ok (.getfield 7, 3) := by decide +kernel
theorem dX10_tried_8 : decode cX10_tried 8 = .ok (.iconst 0, 1) := by decide +kernel
theorem dX10_tried_9 : decode cX10_tried 9 = .ok (.aload_n 0, 1) := by decide +kernel
theorem dX10_tried_10 : decode cX10_tried 10 = .ok (.getfield 16, 3) := by decide +kernel
theorem dX10_tried_13 : decode cX10_tried 13 = .ok (.iconst 0, 1) := by decide +kernel
theorem dX10_tried_14 : decode cX10_tried 14 = .ok (.invokestatic 290, 3) := by decide +kernel
theorem dX10_tried_17 : decode cX10_tried 17 = .ok (.iload_n 1, 1) := by decide +kernel
theorem dX10_tried_18 : decode cX10_tried 18 = .ok (.ireturn, 1) := by decide +kernel
/-! X10_tries -/
theorem dX10_tries_0 : decode cX10_tries 0 = .ok (.aload_n 0, 1) := by decide +kernel
theorem dX10_tries_1 : decode cX10_tries 1 = .ok (.getfield 7, 3) := by decide +kernel
theorem dX10_tries_4 : decode cX10_tries 4 = .ok (.iconst 0, 1) := by decide +kernel
theorem dX10_tries_5 : decode cX10_tries 5 = .ok (.aload_n 0, 1) := by decide +kernel
theorem dX10_tries_6 : decode cX10_tries 6 = .ok (.getfield 19, 3) := by decide +kernel
theorem dX10_tries_9 : decode cX10_tries 9 = .ok (.iconst 0, 1) := by decide +kernel
theorem dX10_tries_10 : decode cX10_tries 10 = .ok (.invokestatic 290, 3) := by decide +kernel
theorem dX10_tries_13 : decode cX10_tries 13 = .ok (.return_, 1) := by decide +kernel
/-! X10_trueShare -/
theorem dX10_trueShare_0 : decode cX10_trueShare 0 = .ok (.aload_n 0, 1) := by decide +kernel
theorem dX10_trueShare_1 : decode cX10_trueShare 1 = .ok (.iconst 0, 1) := by decide +kernel
theorem dX10_trueShare_2 : decode cX10_trueShare 2 = .ok (.putfield 62, 3) := by decide +kernel
theorem dX10_trueShare_5 : decode cX10_trueShare 5 = .ok (.aload_n 0, 1) := by decide +kernel
theorem dX10_trueShare_6 : decode cX10_trueShare 6 = .ok (.iconst 1, 1) := by decide +kernel
theorem dX10_trueShare_7 : decode cX10_trueShare 7 = .ok (.iconst 2, 1) := by decide +kernel
theorem dX10_trueShare_8 : decode cX10_trueShare 8 = .ok (.invokevirtual 381, 3) := by decide +kernel
theorem dX10_trueShare_11 : decode cX10_trueShare 11 = .ok (.istore_n 1, 1) := by decide +kernel
theorem dX10_trueShare_12 : decode cX10_trueShare 12 = .ok (.iload_n 1, 1) := by decide +kernel
theorem dX10_trueShare_13 : decode cX10_trueShare 13 = .ok (.ifCond .ne 7, 3) := by decide +kernel
theorem dX10_trueShare_16 : decode cX10_trueShare 16 = .ok (.fconst 0, 1) := by decide +kernel
theorem dX10_trueShare_17 : decode cX10_trueShare 17 = .ok (.goto 13, 3) := by decide +kernel
theorem dX10_trueShare_20 : decode cX10_trueShare 20 = .ok (.aload_n 0, 1) := by decide +kernel
theorem dX10_trueShare_21 : decode cX10_trueShare 21 = .ok (.iconst 1, 1) := by decide +kernel
theorem dX10_trueShare_22 : decode cX10_trueShare 22 = .ok (.iconst 1, 1) := by decide +kernel
theorem dX10_trueShare_23 : decode cX10_trueShare 23 = .ok (.invokevirtual 381, 3) := by decide +kernel
theorem dX10_trueShare_26 : decode cX10_trueShare 26 = .ok (.i2f, 1) := by decide +kernel
theorem dX10_trueShare_27 : decode cX10_trueShare 27 = .ok (.iload_n 1, 1) := by decide +kernel
theorem dX10_trueShare_28 : decode cX10_trueShare 28 = .ok (.i2f, 1) := by decide +kernel
theorem dX10_trueShare_29 : decode cX10_trueShare 29 = .ok (.fdiv, 1) := by decide +kernel
theorem dX10_trueShare_30 : decode cX10_trueShare 30 = .ok (.freturn, 1) := by decide +kernel
/-! X10_truncate -/
theorem dX10_truncate_0 : decode cX10_truncate 0 = .ok (.aload_n 0, 1) := by decide +kernel
theorem dX10_truncate_1 : decode cX10_truncate 1 = .ok (.iload_n 1, 1) := by decide +kernel
theorem dX10_truncate_2 : decode cX10_truncate 2 = .ok (.i2l, 1) := by decide +kernel
theorem dX10_truncate_3 : decode cX10_truncate 3 = .ok (.lconst 0, 1) := by decide +kernel
theorem dX10_truncate_4 : decode cX10_truncate 4 = .ok (.aload_n 0, 1) := by decide +kernel
theorem dX10_truncate_5 : decode cX10_truncate 5 = .ok (.getfield 198, 3) := by decide +kernel
theorem dX10_truncate_8 : decode cX10_truncate 8 = .ok (.i2l, 1) := by decide +kernel
theorem dX10_truncate_9 : decode cX10_truncate 9 = .ok (.invokestatic 65, 3) := by decide +kernel
theorem dX10_truncate_12 : decode cX10_truncate 12 = .ok (.invokevirtual 201, 3) := by decide +kernel
theorem dX10_truncate_15 : decode cX10_truncate 15 = .ok (.ifCond .ne 5, 3) := by decide +kernel
theorem dX10_truncate_18 : decode cX10_truncate 18 = .ok (.iconst 0, 1) := by decide +kernel
theorem dX10_truncate_19 : decode cX10_truncate 19 = .ok (.ireturn, 1) := by decide +kernel
theorem dX10_truncate_20 : decode cX10_truncate 20 = .ok (.aload_n 0, 1) := by decide +kernel
theorem dX10_truncate_21 : decode cX10_truncate 21 = .ok (.iload_n 1, 1) := by decide +kernel
theorem dX10_truncate_22 : decode cX10_truncate 22 = .ok (.putfield 198, 3) := by decide +kernel
theorem dX10_truncate_25 : decode cX10_truncate 25 = .ok (.iload_n 1, 1) := by decide +kernel
theorem dX10_truncate_26 : decode cX10_truncate 26 = .ok (.ireturn, 1) := by decide +kernel
/-! X10_truth -/
theorem dX10_truth_0 : decode cX10_truth 0 = .ok (.iload_n 0, 1) := by decide +kernel
theorem dX10_truth_1 : decode cX10_truth 1 = .ok (.ifCond .eq 7, 3) := by decide +kernel
theorem dX10_truth_4 : decode cX10_truth 4 = .ok (.iconst 1, 1) := by decide +kernel
theorem dX10_truth_5 : decode cX10_truth 5 = .ok (.goto 4, 3) := by decide +kernel
theorem dX10_truth_8 : decode cX10_truth 8 = .ok (.iconst 0, 1) := by decide +kernel
theorem dX10_truth_9 : decode cX10_truth 9 = .ok (.ireturn, 1) := by decide +kernel
/-! X10_undo -/
theorem dX10_undo_0 : decode cX10_undo 0 = .ok (.aload_n 0, 1) := by decide +kernel
theorem dX10_undo_1 : decode cX10_undo 1 = .ok (.iconst 0, 1) := by decide +kernel
theorem dX10_undo_2 : decode cX10_undo 2 = .ok (.putfield 62, 3) := by decide +kernel
theorem dX10_undo_5 : decode cX10_undo 5 = .ok (.aload_n 0, 1) := by decide +kernel
theorem dX10_undo_6 : decode cX10_undo 6 = .ok (.getfield 307, 3) := by decide +kernel
theorem dX10_undo_9 : decode cX10_undo 9 = .ok (.ifCond .ne 5, 3) := by decide +kernel
theorem dX10_undo_12 : decode cX10_undo 12 = .ok (.iconst (-1), 1) := by decide +kernel
theorem dX10_undo_13 : decode cX10_undo 13 = .ok (.ireturn, 1) := by decide +kernel
theorem dX10_undo_14 : decode cX10_undo 14 = .ok (.aload_n 0, 1) := by decide +kernel
theorem dX10_undo_15 : decode cX10_undo 15 = .ok (.dup, 1) := by decide +kernel
theorem dX10_undo_16 : decode cX10_undo 16 = .ok (.getfield 307, 3) := by decide +kernel
theorem dX10_undo_19 : decode cX10_undo 19 = .ok (.iconst 1, 1) := by decide +kernel
theorem dX10_undo_20 : decode cX10_undo 20 = .ok (.isub, 1) := by decide +kernel
theorem dX10_undo_21 : decode cX10_undo 21 = .ok (.putfield 307, 3) := by decide +kernel
theorem dX10_undo_24 : decode cX10_undo 24 = .ok (.aload_n 0, 1) := by decide +kernel
theorem dX10_undo_25 : decode cX10_undo 25 = .ok (.getfield 23, 3) := by decide +kernel
theorem dX10_undo_28 : decode cX10_undo 28 = .ok (.sipush 16816, 3) := by decide +kernel
theorem dX10_undo_31 : decode cX10_undo 31 = .ok (.aload_n 0, 1) := by decide +kernel
theorem dX10_undo_32 : decode cX10_undo 32 = .ok (.getfield 307, 3) := by decide +kernel
theorem dX10_undo_35 : decode cX10_undo 35 = .ok (.imul, 1) := by decide +kernel
theorem dX10_undo_36 : decode cX10_undo 36 = .ok (.aload_n 0, 1) := by decide +kernel
theorem dX10_undo_37 : decode cX10_undo 37 = .ok (.getfield 7, 3) := by decide +kernel
theorem dX10_undo_40 : decode cX10_undo 40 = .ok (.iconst 0, 1) := by decide +kernel
theorem dX10_undo_41 : decode cX10_undo 41 = .ok (.invokestatic 290, 3) := by decide +kernel
theorem dX10_undo_44 : decode cX10_undo 44 = .ok (.aload_n 0, 1) := by decide +kernel
theorem dX10_undo_45 : decode cX10_undo 45 = .ok (.getfield 307, 3) := by decide +kernel
theorem dX10_undo_48 : decode cX10_undo 48 = .ok (.ireturn, 1) := by decide +kernel
/-! X10_wholeDelay -/
theorem dX10_wholeDelay_0 : decode cX10_wholeDelay 0 = .ok (.aload_n 0, 1) := by decide +kernel
theorem dX10_wholeDelay_1 : decode cX10_wholeDelay 1 = .ok (.iconst 0, 1) := by decide +kernel
theorem dX10_wholeDelay_2 : decode cX10_wholeDelay 2 = .ok (.putfield 62, 3) := by decide +kernel
theorem dX10_wholeDelay_5 : decode cX10_wholeDelay 5 = .ok (.aload_n 0, 1) := by decide +kernel
theorem dX10_wholeDelay_6 : decode cX10_wholeDelay 6 = .ok (.aload_n 0, 1) := by decide +kernel
theorem dX10_wholeDelay_7 : decode cX10_wholeDelay 7 = .ok (.getfield 7, 3) := by decide +kernel
theorem dX10_wholeDelay_10 : decode cX10_wholeDelay 10 = .ok (.iconst 0, 1) := by decide +kernel
theorem dX10_wholeDelay_11 : decode cX10_wholeDelay 11 = .ok (.iaload, 1) := by decide +kernel
theorem dX10_wholeDelay_12 : decode cX10_wholeDelay 12 = .ok (.invokevirtual 120, 3) := by decide +kernel
theorem dX10_wholeDelay_15 : decode cX10_wholeDelay 15 = .ok (.ireturn, 1) := by decide +kernel
/-! X10_writeHeap -/
theorem dX10_writeHeap_0 : decode cX10_writeHeap 0 = .ok (.aload_n 0, 1) := by decide +kernel
theorem dX10_writeHeap_1 : decode cX10_writeHeap 1 = .ok (.aload_n 0, 1) := by decide +kernel
theorem dX10_writeHeap_2 : decode cX10_writeHeap 2 = .ok (.iload_n 1, 1) := by decide +kernel
theorem dX10_writeHeap_3 : decode cX10_writeHeap 3 = .ok (.invokevirtual 342, 3) := by decide +kernel
theorem dX10_writeHeap_6 : decode cX10_writeHeap 6 = .ok (.invokevirtual 201, 3) := by decide +kernel
theorem dX10_writeHeap_9 : decode cX10_writeHeap 9 = .ok (.ifCond .ne 5, 3) := by decide +kernel
theorem dX10_writeHeap_12 : decode cX10_writeHeap 12 = .ok (.iconst 0, 1) := by decide +kernel
theorem dX10_writeHeap_13 : decode cX10_writeHeap 13 = .ok (.ireturn, 1) := by decide +kernel
theorem dX10_writeHeap_14 : decode cX10_writeHeap 14 = .ok (.aload_n 0, 1) := by decide +kernel
theorem dX10_writeHeap_15 : decode cX10_writeHeap 15 = .ok (.iconst 0, 1) := by decide +kernel
theorem dX10_writeHeap_16 : decode cX10_writeHeap 16 = .ok (.putfield 496, 3) := by decide +kernel
theorem dX10_writeHeap_19 : decode cX10_writeHeap 19 = .ok (.aload_n 0, 1) := by decide +kernel
theorem dX10_writeHeap_20 : decode cX10_writeHeap 20 = .ok (.iload_n 1, 1) := by decide +kernel
theorem dX10_writeHeap_21 : decode cX10_writeHeap 21 = .ok (.invokevirtual 137, 3) := by decide +kernel
theorem dX10_writeHeap_24 : decode cX10_writeHeap 24 = .ok (.istore_n 2, 1) := by decide +kernel
theorem dX10_writeHeap_25 : decode cX10_writeHeap 25 = .ok (.iload_n 2, 1) := by decide +kernel
theorem dX10_writeHeap_26 : decode cX10_writeHeap 26 = .ok (.iconst (-1), 1) := by decide +kernel
theorem dX10_writeHeap_27 : decode cX10_writeHeap 27 = .ok (.if_icmp .ne 12, 3) := by decide +kernel
theorem dX10_writeHeap_30 : decode cX10_writeHeap 30 = .ok (.aload_n 0, 1) := by decide +kernel
theorem dX10_writeHeap_31 : decode cX10_writeHeap 31 = .ok (.bipush 120, 2) := by decide +kernel
theorem dX10_writeHeap_33 : decode cX10_writeHeap 33 = .ok (.invokevirtual 499, 3) := by decide +kernel
theorem dX10_writeHeap_36 : decode cX10_writeHeap 36 = .ok (.goto 8, 3) := by decide +kernel
theorem dX10_writeHeap_39 : decode cX10_writeHeap 39 = .ok (.aload_n 0, 1) := by decide +kernel
theorem dX10_writeHeap_40 : decode cX10_writeHeap 40 = .ok (.iload_n 2, 1) := by decide +kernel
theorem dX10_writeHeap_41 : decode cX10_writeHeap 41 = .ok (.invokevirtual 508, 3) := by decide +kernel
theorem dX10_writeHeap_44 : decode cX10_writeHeap 44 = .ok (.aload_n 0, 1) := by decide +kernel
theorem dX10_writeHeap_45 : decode cX10_writeHeap 45 = .ok (.getfield 496, 3) := by decide +kernel
theorem dX10_writeHeap_48 : decode cX10_writeHeap 48 = .ok (.ireturn, 1) := by decide +kernel
/-! X10_writePath -/
theorem dX10_writePath_0 : decode cX10_writePath 0 = .ok (.aload_n 0, 1) := by decide +kernel
theorem dX10_writePath_1 : decode cX10_writePath 1 = .ok (.iconst 0, 1) := by decide +kernel
theorem dX10_writePath_2 : decode cX10_writePath 2 = .ok (.putfield 62, 3) := by decide +kernel
theorem dX10_writePath_5 : decode cX10_writePath 5 = .ok (.aload_n 0, 1) := by decide +kernel
theorem dX10_writePath_6 : decode cX10_writePath 6 = .ok (.iconst 0, 1) := by decide +kernel
theorem dX10_writePath_7 : decode cX10_writePath 7 = .ok (.putfield 496, 3) := by decide +kernel
theorem dX10_writePath_10 : decode cX10_writePath 10 = .ok (.iconst 0, 1) := by decide +kernel
theorem dX10_writePath_11 : decode cX10_writePath 11 = .ok (.istore_n 1, 1) := by decide +kernel
theorem dX10_writePath_12 : decode cX10_writePath 12 = .ok (.iload_n 1, 1) := by decide +kernel
theorem dX10_writePath_13 : decode cX10_writePath 13 = .ok (.aload_n 0, 1) := by decide +kernel
theorem dX10_writePath_14 : decode cX10_writePath 14 = .ok (.getfield 7, 3) := by decide +kernel
theorem dX10_writePath_17 : decode cX10_writePath 17 = .ok (.iconst 0, 1) := by decide +kernel
theorem dX10_writePath_18 : decode cX10_writePath 18 = .ok (.iaload, 1) := by decide +kernel
theorem dX10_writePath_19 : decode cX10_writePath 19 = .ok (.if_icmp .ge 44, 3) := by decide +kernel
theorem dX10_writePath_22 : decode cX10_writePath 22 = .ok (.iload_n 1, 1) := by decide +kernel
theorem dX10_writePath_23 : decode cX10_writePath 23 = .ok (.ifCond .le 9, 3) := by decide +kernel
theorem dX10_writePath_26 : decode cX10_writePath 26 = .ok (.aload_n 0, 1) := by decide +kernel
theorem dX10_writePath_27 : decode cX10_writePath 27 = .ok (.bipush 62, 2) := by decide +kernel
theorem dX10_writePath_29 : decode cX10_writePath 29 = .ok (.invokevirtual 499, 3) := by decide +kernel
theorem dX10_writePath_32 : decode cX10_writePath 32 = .ok (.aload_n 0, 1) := by decide +kernel
theorem dX10_writePath_33 : decode cX10_writePath 33 = .ok (.aload_n 0, 1) := by decide +kernel
theorem dX10_writePath_34 : decode cX10_writePath 34 = .ok (.iload_n 1, 1) := by decide +kernel
theorem dX10_writePath_35 : decode cX10_writePath 35 = .ok (.iconst 0, 1) := by decide +kernel
theorem dX10_writePath_36 : decode cX10_writePath 36 = .ok (.invokevirtual 73, 3) := by decide +kernel
theorem dX10_writePath_39 : decode cX10_writePath 39 = .ok (.invokevirtual 505, 3) := by decide +kernel
theorem dX10_writePath_42 : decode cX10_writePath 42 = .ok (.aload_n 0, 1) := by decide +kernel
theorem dX10_writePath_43 : decode cX10_writePath 43 = .ok (.bipush 42, 2) := by decide +kernel
theorem dX10_writePath_45 : decode cX10_writePath 45 = .ok (.invokevirtual 499, 3) := by decide +kernel
theorem dX10_writePath_48 : decode cX10_writePath 48 = .ok (.aload_n 0, 1) := by decide +kernel
theorem dX10_writePath_49 : decode cX10_writePath 49 = .ok (.aload_n 0, 1) := by decide +kernel
theorem dX10_writePath_50 : decode cX10_writePath 50 = .ok (.iload_n 1, 1) := by decide +kernel
theorem dX10_writePath_51 : decode cX10_writePath 51 = .ok (.invokevirtual 390, 3) := by decide +kernel
theorem dX10_writePath_54 : decode cX10_writePath 54 = .ok (.invokevirtual 505, 3) := by decide +kernel
theorem dX10_writePath_57 : decode cX10_writePath 57 = .ok (.iinc 1 1, 3) := by decide +kernel
theorem dX10_writePath_60 : decode cX10_writePath 60 = .ok (.goto (-48), 3) := by decide +kernel
theorem dX10_writePath_63 : decode cX10_writePath 63 = .ok (.aload_n 0, 1) := by decide +kernel
theorem dX10_writePath_64 : decode cX10_writePath 64 = .ok (.getfield 496, 3) := by decide +kernel
theorem dX10_writePath_67 : decode cX10_writePath 67 = .ok (.ireturn, 1) := by decide +kernel
/-! X10_writes -/
theorem dX10_writes_0 : decode cX10_writes 0 = .ok (.aload_n 0, 1) := by decide +kernel
theorem dX10_writes_1 : decode cX10_writes 1 = .ok (.getfield 52, 3) := by decide +kernel
theorem dX10_writes_4 : decode cX10_writes 4 = .ok (.aload_n 0, 1) := by decide +kernel
theorem dX10_writes_5 : decode cX10_writes 5 = .ok (.getfield 496, 3) := by decide +kernel
theorem dX10_writes_8 : decode cX10_writes 8 = .ok (.iload_n 1, 1) := by decide +kernel
theorem dX10_writes_9 : decode cX10_writes 9 = .ok (.iastore, 1) := by decide +kernel
theorem dX10_writes_10 : decode cX10_writes 10 = .ok (.aload_n 0, 1) := by decide +kernel
theorem dX10_writes_11 : decode cX10_writes 11 = .ok (.dup, 1) := by decide +kernel
theorem dX10_writes_12 : decode cX10_writes 12 = .ok (.getfield 496, 3) := by decide +kernel
theorem dX10_writes_15 : decode cX10_writes 15 = .ok (.iconst 1, 1) := by decide +kernel
theorem dX10_writes_16 : decode cX10_writes 16 = .ok (.iadd, 1) := by decide +kernel
theorem dX10_writes_17 : decode cX10_writes 17 = .ok (.putfield 496, 3) := by decide +kernel
theorem dX10_writes_20 : decode cX10_writes 20 = .ok (.return_, 1) := by decide +kernel
/-! X10_writesNumber -/
theorem dX10_writesNumber_0 : decode cX10_writesNumber 0 = .ok (.iconst 1, 1) := by decide +kernel
theorem dX10_writesNumber_1 : decode cX10_writesNumber 1 = .ok (.istore_n 2, 1) := by decide +kernel
theorem dX10_writesNumber_2 : decode cX10_writesNumber 2 = .ok (.iload_n 1, 1) := by decide +kernel
theorem dX10_writesNumber_3 : decode cX10_writesNumber 3 = .ok (.iload_n 2, 1) := by decide +kernel
theorem dX10_writesNumber_4 : decode cX10_writesNumber 4 = .ok (.idiv, 1) := by decide +kernel
theorem dX10_writesNumber_5 : decode cX10_writesNumber 5 = .ok (.bipush 9, 2) := by decide +kernel
theorem dX10_writesNumber_7 : decode cX10_writesNumber 7 = .ok (.if_icmp .le 11, 3) := by decide +kernel
theorem dX10_writesNumber_10 : decode cX10_writesNumber 10 = .ok (.iload_n 2, 1) := by decide +kernel
theorem dX10_writesNumber_11 : decode cX10_writesNumber 11 = .ok (.bipush 10, 2) := by decide +kernel
theorem dX10_writesNumber_13 : decode cX10_writesNumber 13 = .ok (.imul, 1) := by decide +kernel
theorem dX10_writesNumber_14 : decode cX10_writesNumber 14 = .ok (.istore_n 2, 1) := by decide +kernel
theorem dX10_writesNumber_15 : decode cX10_writesNumber 15 = .ok (.goto (-13), 3) := by decide +kernel
theorem dX10_writesNumber_18 : decode cX10_writesNumber 18 = .ok (.iload_n 2, 1) := by decide +kernel
theorem dX10_writesNumber_19 : decode cX10_writesNumber 19 = .ok (.ifCond .le 24, 3) := by decide +kernel
theorem dX10_writesNumber_22 : decode cX10_writesNumber 22 = .ok (.aload_n 0, 1) := by decide +kernel
theorem dX10_writesNumber_23 : decode cX10_writesNumber 23 = .ok (.bipush 48, 2) := by decide +kernel
theorem dX10_writesNumber_25 : decode cX10_writesNumber 25 = .ok (.iload_n 1, 1) := by decide +kernel
theorem dX10_writesNumber_26 : decode cX10_writesNumber 26 = .ok (.iload_n 2, 1) := by decide +kernel
theorem dX10_writesNumber_27 : decode cX10_writesNumber 27 = .ok (.idiv, 1) := by decide +kernel
theorem dX10_writesNumber_28 : decode cX10_writesNumber 28 = .ok (.bipush 10, 2) := by decide +kernel
theorem dX10_writesNumber_30 : decode cX10_writesNumber 30 = .ok (.irem, 1) := by decide +kernel
theorem dX10_writesNumber_31 : decode cX10_writesNumber 31 = .ok (.iadd, 1) := by decide +kernel
theorem dX10_writesNumber_32 : decode cX10_writesNumber 32 = .ok (.invokevirtual 499, 3) := by decide +kernel
theorem dX10_writesNumber_35 : decode cX10_writesNumber 35 = .ok (.iload_n 2, 1) := by decide +kernel
theorem dX10_writesNumber_36 : decode cX10_writesNumber 36 = .ok (.bipush 10, 2) := by decide +kernel
theorem dX10_writesNumber_38 : decode cX10_writesNumber 38 = .ok (.idiv, 1) := by decide +kernel
theorem dX10_writesNumber_39 : decode cX10_writesNumber 39 = .ok (.istore_n 2, 1) := by decide +kernel
theorem dX10_writesNumber_40 : decode cX10_writesNumber 40 = .ok (.goto (-22), 3) := by decide +kernel
theorem dX10_writesNumber_43 : decode cX10_writesNumber 43 = .ok (.return_, 1) := by decide +kernel
/-! X10_writesRows -/
theorem dX10_writesRows_0 : decode cX10_writesRows 0 = .ok (.iconst 0, 1) := by decide +kernel
theorem dX10_writesRows_1 : decode cX10_writesRows 1 = .ok (.istore_n 2, 1) := by decide +kernel
theorem dX10_writesRows_2 : decode cX10_writesRows 2 = .ok (.iload_n 2, 1) := by decide +kernel
theorem dX10_writesRows_3 : decode cX10_writesRows 3 = .ok (.sipush 1200, 3) := by decide +kernel
theorem dX10_writesRows_6 : decode cX10_writesRows 6 = .ok (.if_icmp .ge 79, 3) := by decide +kernel
theorem dX10_writesRows_9 : decode cX10_writesRows 9 = .ok (.aload_n 0, 1) := by decide +kernel
theorem dX10_writesRows_10 : decode cX10_writesRows 10 = .ok (.iload_n 1, 1) := by decide +kernel
theorem dX10_writesRows_11 : decode cX10_writesRows 11 = .ok (.iload_n 2, 1) := by decide +kernel
theorem dX10_writesRows_12 : decode cX10_writesRows 12 = .ok (.invokevirtual 502, 3) := by decide +kernel
theorem dX10_writesRows_15 : decode cX10_writesRows 15 = .ok (.ifCond .ne 6, 3) := by decide +kernel
theorem dX10_writesRows_18 : decode cX10_writesRows 18 = .ok (.goto 61, 3) := by decide +kernel
theorem dX10_writesRows_21 : decode cX10_writesRows 21 = .ok (.aload_n 0, 1) := by decide +kernel
theorem dX10_writesRows_22 : decode cX10_writesRows 22 = .ok (.getfield 496, 3) := by decide +kernel
theorem dX10_writesRows_25 : decode cX10_writesRows 25 = .ok (.ifCond .le 9, 3) := by decide +kernel
theorem dX10_writesRows_28 : decode cX10_writesRows 28 = .ok (.aload_n 0, 1) := by decide +kernel
theorem dX10_writesRows_29 : decode cX10_writesRows 29 = .ok (.bipush 44, 2) := by decide +kernel
theorem dX10_writesRows_31 : decode cX10_writesRows 31 = .ok (.invokevirtual 499, 3) := by decide +kernel
theorem dX10_writesRows_34 : decode cX10_writesRows 34 = .ok (.iload_n 2, 1) := by decide +kernel
theorem dX10_writesRows_35 : decode cX10_writesRows 35 = .ok (.istore_n 3, 1) := by decide +kernel
theorem dX10_writesRows_36 : decode cX10_writesRows 36 = .ok (.iload_n 3, 1) := by decide +kernel
theorem dX10_writesRows_37 : decode cX10_writesRows 37 = .ok (.iconst 1, 1) := by decide +kernel
theorem dX10_writesRows_38 : decode cX10_writesRows 38 = .ok (.iadd, 1) := by decide +kernel
theorem dX10_writesRows_39 : decode cX10_writesRows 39 = .ok (.sipush 1200, 3) := by decide +kernel
theorem dX10_writesRows_42 : decode cX10_writesRows 42 = .ok (.if_icmp .ge 21, 3) := by decide +kernel
theorem dX10_writesRows_45 : decode cX10_writesRows 45 = .ok (.aload_n 0, 1) := by decide +kernel
theorem dX10_writesRows_46 : decode cX10_writesRows 46 = .ok (.iload_n 1, 1) := by decide +kernel
theorem dX10_writesRows_47 : decode cX10_writesRows 47 = .ok (.iload_n 3, 1) := by decide +kernel
theorem dX10_writesRows_48 : decode cX10_writesRows 48 = .ok (.iconst 1, 1) := by decide +kernel
theorem dX10_writesRows_49 : decode cX10_writesRows 49 = .ok (.iadd, 1) := by decide +kernel
theorem dX10_writesRows_50 : decode cX10_writesRows 50 = .ok (.invokevirtual 153, 3) := by decide +kernel
theorem dX10_writesRows_53 : decode cX10_writesRows 53 = .ok (.iconst (-1), 1) := by decide +kernel
theorem dX10_writesRows_54 : decode cX10_writesRows 54 = .ok (.if_icmp .eq 9, 3) := by decide +kernel
theorem dX10_writesRows_57 : decode cX10_writesRows 57 = .ok (.iinc 3 1, 3) := by decide +kernel
theorem dX10_writesRows_60 : decode cX10_writesRows 60 = .ok (.goto (-24), 3) := by decide +kernel
theorem dX10_writesRows_63 : decode cX10_writesRows 63 = .ok (.aload_n 0, 1) := by decide +kernel
theorem dX10_writesRows_64 : decode cX10_writesRows 64 = .ok (.iload_n 2, 1) := by decide +kernel
theorem dX10_writesRows_65 : decode cX10_writesRows 65 = .ok (.invokevirtual 505, 3) := by decide +kernel
theorem dX10_writesRows_68 : decode cX10_writesRows 68 = .ok (.aload_n 0, 1) := by decide +kernel
theorem dX10_writesRows_69 : decode cX10_writesRows 69 = .ok (.bipush 45, 2) := by decide +kernel
theorem dX10_writesRows_71 : decode cX10_writesRows 71 = .ok (.invokevirtual 499, 3) := by decide +kernel
theorem dX10_writesRows_74 : decode cX10_writesRows 74 = .ok (.aload_n 0, 1) := by decide +kernel
theorem dX10_writesRows_75 : decode cX10_writesRows 75 = .ok (.iload_n 3, 1) := by decide +kernel
theorem dX10_writesRows_76 : decode cX10_writesRows 76 = .ok (.invokevirtual 505, 3) := by decide +kernel
theorem dX10_writesRows_79 : decode cX10_writesRows 79 = .ok (.iinc 2 1, 3) := by decide +kernel
theorem dX10_writesRows_82 : decode cX10_writesRows 82 = .ok (.goto (-80), 3) := by decide +kernel
theorem dX10_writesRows_85 : decode cX10_writesRows 85 = .ok (.aload_n 0, 1) := by decide +kernel
theorem dX10_writesRows_86 : decode cX10_writesRows 86 = .ok (.bipush 47, 2) := by decide +kernel
theorem dX10_writesRows_88 : decode cX10_writesRows 88 = .ok (.invokevirtual 499, 3) := by decide +kernel
theorem dX10_writesRows_91 : decode cX10_writesRows 91 = .ok (.aload_n 0, 1) := by decide +kernel
theorem dX10_writesRows_92 : decode cX10_writesRows 92 = .ok (.iload_n 1, 1) := by decide +kernel
theorem dX10_writesRows_93 : decode cX10_writesRows 93 = .ok (.iconst 2, 1) := by decide +kernel
theorem dX10_writesRows_94 : decode cX10_writesRows 94 = .ok (.invokevirtual 134, 3) := by decide +kernel
theorem dX10_writesRows_97 : decode cX10_writesRows 97 = .ok (.iconst (-1), 1) := by decide +kernel
theorem dX10_writesRows_98 : decode cX10_writesRows 98 = .ok (.if_icmp .ne 12, 3) := by decide +kernel
theorem dX10_writesRows_101 : decode cX10_writesRows 101 = .ok (.aload_n 0, 1) := by decide +kernel
theorem dX10_writesRows_102 : decode cX10_writesRows 102 = .ok (.bipush 63, 2) := by decide +kernel
theorem dX10_writesRows_104 : decode cX10_writesRows 104 = .ok (.invokevirtual 499, 3) := by decide +kernel
theorem dX10_writesRows_107 : decode cX10_writesRows 107 = .ok (.goto 13, 3) := by decide +kernel
theorem dX10_writesRows_110 : decode cX10_writesRows 110 = .ok (.aload_n 0, 1) := by decide +kernel
theorem dX10_writesRows_111 : decode cX10_writesRows 111 = .ok (.aload_n 0, 1) := by decide +kernel
theorem dX10_writesRows_112 : decode cX10_writesRows 112 = .ok (.iload_n 1, 1) := by decide +kernel
theorem dX10_writesRows_113 : decode cX10_writesRows 113 = .ok (.iconst 2, 1) := by decide +kernel
theorem dX10_writesRows_114 : decode cX10_writesRows 114 = .ok (.invokevirtual 134, 3) := by decide +kernel
theorem dX10_writesRows_117 : decode cX10_writesRows 117 = .ok (.invokevirtual 505, 3) := by decide +kernel
theorem dX10_writesRows_120 : decode cX10_writesRows 120 = .ok (.return_, 1) := by decide +kernel
