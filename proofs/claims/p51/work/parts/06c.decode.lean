/-! X8_init -/
theorem dX8_init_0 : decode cX8_init 0 = .ok (.aload_n 0, 1) := by decide +kernel
theorem dX8_init_1 : decode cX8_init 1 = .ok (.invokespecial 3, 3) := by decide +kernel
theorem dX8_init_4 : decode cX8_init 4 = .ok (.aload_n 0, 1) := by decide +kernel
theorem dX8_init_5 : decode cX8_init 5 = .ok (.sipush 2048, 3) := by decide +kernel
theorem dX8_init_8 : decode cX8_init 8 = .ok (.newarray .byte, 2) := by decide +kernel
theorem dX8_init_10 : decode cX8_init 10 = .ok (.putfield 11, 3) := by decide +kernel
theorem dX8_init_13 : decode cX8_init 13 = .ok (.aload_n 0, 1) := by decide +kernel
theorem dX8_init_14 : decode cX8_init 14 = .ok (.iconst 0, 1) := by decide +kernel
theorem dX8_init_15 : decode cX8_init 15 = .ok (.putfield 15, 3) := by decide +kernel
theorem dX8_init_18 : decode cX8_init 18 = .ok (.return_, 1) := by decide +kernel
/-! X9_account -/
theorem dX9_account_0 : decode cX9_account 0 = .ok (.iload_n 1, 1) := by decide +kernel
theorem dX9_account_1 : decode cX9_account 1 = .ok (.iconst 0, 1) := by decide +kernel
theorem dX9_account_2 : decode cX9_account 2 = .ok (.bipush 11, 2) := by decide +kernel
theorem dX9_account_4 : decode cX9_account 4 = .ok (.invokestatic 76, 3) := by decide +kernel
theorem dX9_account_7 : decode cX9_account 7 = .ok (.aload_n 0, 1) := by decide +kernel
theorem dX9_account_8 : decode cX9_account 8 = .ok (.getfield 30, 3) := by decide +kernel
theorem dX9_account_11 : decode cX9_account 11 = .ok (.getfield 341, 3) := by decide +kernel
theorem dX9_account_14 : decode cX9_account 14 = .ok (.iload_n 1, 1) := by decide +kernel
theorem dX9_account_15 : decode cX9_account 15 = .ok (.invokevirtual 345, 3) := by decide +kernel
theorem dX9_account_18 : decode cX9_account 18 = .ok (.ireturn, 1) := by decide +kernel
/-! X9_again -/
theorem dX9_again_0 : decode cX9_again 0 = .ok (.aload_n 0, 1) := by decide +kernel
theorem dX9_again_1 : decode cX9_again 1 = .ok (.iload_n 1, 1) := by decide +kernel
theorem dX9_again_2 : decode cX9_again 2 = .ok (.invokevirtual 245, 3) := by decide +kernel
theorem dX9_again_5 : decode cX9_again 5 = .ok (.astore_n 2, 1) := by decide +kernel
theorem dX9_again_6 : decode cX9_again 6 = .ok (.aload_n 2, 1) := by decide +kernel
theorem dX9_again_7 : decode cX9_again 7 = .ok (.getfield 155, 3) := by decide +kernel
theorem dX9_again_10 : decode cX9_again 10 = .ok (.ifCond .eq 6, 3) := by decide +kernel
theorem dX9_again_13 : decode cX9_again 13 = .ok (.bipush (-2), 2) := by decide +kernel
theorem dX9_again_15 : decode cX9_again 15 = .ok (.ireturn, 1) := by decide +kernel
theorem dX9_again_16 : decode cX9_again 16 = .ok (.aload_n 0, 1) := by decide +kernel
theorem dX9_again_17 : decode cX9_again 17 = .ok (.invokevirtual 122, 3) := by decide +kernel
theorem dX9_again_20 : decode cX9_again 20 = .ok (.aload_n 0, 1) := by decide +kernel
theorem dX9_again_21 : decode cX9_again 21 = .ok (.getfield 30, 3) := by decide +kernel
theorem dX9_again_24 : decode cX9_again 24 = .ok (.iload_n 1, 1) := by decide +kernel
theorem dX9_again_25 : decode cX9_again 25 = .ok (.iconst 0, 1) := by decide +kernel
theorem dX9_again_26 : decode cX9_again 26 = .ok (.invokevirtual 160, 3) := by decide +kernel
theorem dX9_again_29 : decode cX9_again 29 = .ok (.aload_n 2, 1) := by decide +kernel
theorem dX9_again_30 : decode cX9_again 30 = .ok (.getfield 256, 3) := by decide +kernel
theorem dX9_again_33 : decode cX9_again 33 = .ok (.ireturn, 1) := by decide +kernel
/-! X9_append -/
theorem dX9_append_0 : decode cX9_append 0 = .ok (.aload_n 0, 1) := by decide +kernel
theorem dX9_append_1 : decode cX9_append 1 = .ok (.getfield 10, 3) := by decide +kernel
theorem dX9_append_4 : decode cX9_append 4 = .ok (.invokevirtual 58, 3) := by decide +kernel
theorem dX9_append_7 : decode cX9_append 7 = .ok (.ifCond .ne 13, 3) := by decide +kernel
theorem dX9_append_10 : decode cX9_append 10 = .ok (.new 62, 3) := by decide +kernel
theorem dX9_append_13 : decode cX9_append 13 = .ok (.dup, 1) := by decide +kernel
theorem dX9_append_14 : decode cX9_append 14 = .ok (.ldc 64, 2) := by decide +kernel
theorem dX9_append_16 : decode cX9_append 16 = .ok (.invokespecial 66, 3) := by decide +kernel
theorem dX9_append_19 : decode cX9_append 19 = .ok (.athrow, 1) := by decide +kernel
theorem dX9_append_20 : decode cX9_append 20 = .ok (.aload_n 0, 1) := by decide +kernel
theorem dX9_append_21 : decode cX9_append 21 = .ok (.getfield 10, 3) := by decide +kernel
theorem dX9_append_24 : decode cX9_append 24 = .ok (.iload_n 1, 1) := by decide +kernel
theorem dX9_append_25 : decode cX9_append 25 = .ok (.invokevirtual 69, 3) := by decide +kernel
theorem dX9_append_28 : decode cX9_append 28 = .ok (.aload_n 0, 1) := by decide +kernel
theorem dX9_append_29 : decode cX9_append 29 = .ok (.getfield 10, 3) := by decide +kernel
theorem dX9_append_32 : decode cX9_append 32 = .ok (.iload_n 2, 1) := by decide +kernel
theorem dX9_append_33 : decode cX9_append 33 = .ok (.invokevirtual 69, 3) := by decide +kernel
theorem dX9_append_36 : decode cX9_append 36 = .ok (.aload_n 0, 1) := by decide +kernel
theorem dX9_append_37 : decode cX9_append 37 = .ok (.getfield 10, 3) := by decide +kernel
theorem dX9_append_40 : decode cX9_append 40 = .ok (.iload_n 3, 1) := by decide +kernel
theorem dX9_append_41 : decode cX9_append 41 = .ok (.invokevirtual 69, 3) := by decide +kernel
theorem dX9_append_44 : decode cX9_append 44 = .ok (.aload_n 0, 1) := by decide +kernel
theorem dX9_append_45 : decode cX9_append 45 = .ok (.getfield 10, 3) := by decide +kernel
theorem dX9_append_48 : decode cX9_append 48 = .ok (.iload 4, 2) := by decide +kernel
theorem dX9_append_50 : decode cX9_append 50 = .ok (.invokevirtual 69, 3) := by decide +kernel
theorem dX9_append_53 : decode cX9_append 53 = .ok (.aload_n 0, 1) := by decide +kernel
theorem dX9_append_54 : decode cX9_append 54 = .ok (.getfield 10, 3) := by decide +kernel
theorem dX9_append_57 : decode cX9_append 57 = .ok (.iload 5, 2) := by decide +kernel
theorem dX9_append_59 : decode cX9_append 59 = .ok (.invokevirtual 69, 3) := by decide +kernel
theorem dX9_append_62 : decode cX9_append 62 = .ok (.aload_n 0, 1) := by decide +kernel
theorem dX9_append_63 : decode cX9_append 63 = .ok (.getfield 10, 3) := by decide +kernel
theorem dX9_append_66 : decode cX9_append 66 = .ok (.getfield 73, 3) := by decide +kernel
theorem dX9_append_69 : decode cX9_append 69 = .ok (.ireturn, 1) := by decide +kernel
/-! X9_copyInto -/
theorem dX9_copyInto_0 : decode cX9_copyInto 0 = .ok (.aload_n 1, 1) := by decide +kernel
theorem dX9_copyInto_1 : decode cX9_copyInto 1 = .ok (.ifnonnull 13, 3) := by decide +kernel
theorem dX9_copyInto_4 : decode cX9_copyInto 4 = .ok (.new 27, 3) := by decide +kernel
theorem dX9_copyInto_7 : decode cX9_copyInto 7 = .ok (.dup, 1) := by decide +kernel
theorem dX9_copyInto_8 : decode cX9_copyInto 8 = .ok (.invokespecial 29, 3) := by decide +kernel
theorem dX9_copyInto_11 : decode cX9_copyInto 11 = .ok (.goto 4, 3) := by decide +kernel
theorem dX9_copyInto_14 : decode cX9_copyInto 14 = .ok (.aload_n 1, 1) := by decide +kernel
theorem dX9_copyInto_15 : decode cX9_copyInto 15 = .ok (.astore_n 2, 1) := by decide +kernel
theorem dX9_copyInto_16 : decode cX9_copyInto 16 = .ok (.aload_n 2, 1) := by decide +kernel
theorem dX9_copyInto_17 : decode cX9_copyInto 17 = .ok (.aload_n 0, 1) := by decide +kernel
theorem dX9_copyInto_18 : decode cX9_copyInto 18 = .ok (.getfield 30, 3) := by decide +kernel
theorem dX9_copyInto_21 : decode cX9_copyInto 21 = .ok (.invokevirtual 437, 3) := by decide +kernel
theorem dX9_copyInto_24 : decode cX9_copyInto 24 = .ok (.aload_n 2, 1) := by decide +kernel
theorem dX9_copyInto_25 : decode cX9_copyInto 25 = .ok (.areturn, 1) := by decide +kernel
/-! X9_cutsOf -/
theorem dX9_cutsOf_0 : decode cX9_cutsOf 0 = .ok (.iload_n 0, 1) := by decide +kernel
theorem dX9_cutsOf_1 : decode cX9_cutsOf 1 = .ok (.iload_n 1, 1) := by decide +kernel
theorem dX9_cutsOf_2 : decode cX9_cutsOf 2 = .ok (.bipush 20, 2) := by decide +kernel
theorem dX9_cutsOf_4 : decode cX9_cutsOf 4 = .ok (.isub, 1) := by decide +kernel
theorem dX9_cutsOf_5 : decode cX9_cutsOf 5 = .ok (.isub, 1) := by decide +kernel
theorem dX9_cutsOf_6 : decode cX9_cutsOf 6 = .ok (.istore_n 2, 1) := by decide +kernel
theorem dX9_cutsOf_7 : decode cX9_cutsOf 7 = .ok (.iload_n 2, 1) := by decide +kernel
theorem dX9_cutsOf_8 : decode cX9_cutsOf 8 = .ok (.ifCond .gt 5, 3) := by decide +kernel
theorem dX9_cutsOf_11 : decode cX9_cutsOf 11 = .ok (.iconst 0, 1) := by decide +kernel
theorem dX9_cutsOf_12 : decode cX9_cutsOf 12 = .ok (.ireturn, 1) := by decide +kernel
theorem dX9_cutsOf_13 : decode cX9_cutsOf 13 = .ok (.iload_n 1, 1) := by decide +kernel
theorem dX9_cutsOf_14 : decode cX9_cutsOf 14 = .ok (.invokestatic 380, 3) := by decide +kernel
theorem dX9_cutsOf_17 : decode cX9_cutsOf 17 = .ok (.iconst 1, 1) := by decide +kernel
theorem dX9_cutsOf_18 : decode cX9_cutsOf 18 = .ok (.invokestatic 452, 3) := by decide +kernel
theorem dX9_cutsOf_21 : decode cX9_cutsOf 21 = .ok (.istore_n 3, 1) := by decide +kernel
theorem dX9_cutsOf_22 : decode cX9_cutsOf 22 = .ok (.iload_n 2, 1) := by decide +kernel
theorem dX9_cutsOf_23 : decode cX9_cutsOf 23 = .ok (.iload_n 3, 1) := by decide +kernel
theorem dX9_cutsOf_24 : decode cX9_cutsOf 24 = .ok (.iadd, 1) := by decide +kernel
theorem dX9_cutsOf_25 : decode cX9_cutsOf 25 = .ok (.iconst 1, 1) := by decide +kernel
theorem dX9_cutsOf_26 : decode cX9_cutsOf 26 = .ok (.isub, 1) := by decide +kernel
theorem dX9_cutsOf_27 : decode cX9_cutsOf 27 = .ok (.iload_n 3, 1) := by decide +kernel
theorem dX9_cutsOf_28 : decode cX9_cutsOf 28 = .ok (.idiv, 1) := by decide +kernel
theorem dX9_cutsOf_29 : decode cX9_cutsOf 29 = .ok (.ireturn, 1) := by decide +kernel
/-! X9_datagram -/
theorem dX9_datagram_0 : decode cX9_datagram 0 = .ok (.aload_n 0, 1) := by decide +kernel
theorem dX9_datagram_1 : decode cX9_datagram 1 = .ok (.iload_n 1, 1) := by decide +kernel
theorem dX9_datagram_2 : decode cX9_datagram 2 = .ok (.invokevirtual 245, 3) := by decide +kernel
theorem dX9_datagram_5 : decode cX9_datagram 5 = .ok (.astore_n 3, 1) := by decide +kernel
theorem dX9_datagram_6 : decode cX9_datagram 6 = .ok (.iload_n 2, 1) := by decide +kernel
theorem dX9_datagram_7 : decode cX9_datagram 7 = .ok (.iconst 0, 1) := by decide +kernel
theorem dX9_datagram_8 : decode cX9_datagram 8 = .ok (.bipush 8, 2) := by decide +kernel
theorem dX9_datagram_10 : decode cX9_datagram 10 = .ok (.invokestatic 76, 3) := by decide +kernel
theorem dX9_datagram_13 : decode cX9_datagram 13 = .ok (.iload_n 2, 1) := by decide +kernel
theorem dX9_datagram_14 : decode cX9_datagram 14 = .ok (.tableswitch 94 0 7 #[46, 51, 56, 69, 74, 79, 84, 89], 46) := by decide +kernel
theorem dX9_datagram_60 : decode cX9_datagram 60 = .ok (.aload_n 3, 1) := by decide +kernel
theorem dX9_datagram_61 : decode cX9_datagram 61 = .ok (.getfield 248, 3) := by decide +kernel
theorem dX9_datagram_64 : decode cX9_datagram 64 = .ok (.ireturn, 1) := by decide +kernel
theorem dX9_datagram_65 : decode cX9_datagram 65 = .ok (.aload_n 3, 1) := by decide +kernel
theorem dX9_datagram_66 : decode cX9_datagram 66 = .ok (.getfield 249, 3) := by decide +kernel
theorem dX9_datagram_69 : decode cX9_datagram 69 = .ok (.ireturn, 1) := by decide +kernel
theorem dX9_datagram_70 : decode cX9_datagram 70 = .ok (.aload_n 3, 1) := by decide +kernel
theorem dX9_datagram_71 : decode cX9_datagram 71 = .ok (.getfield 252, 3) := by decide +kernel
theorem dX9_datagram_74 : decode cX9_datagram 74 = .ok (.ifCond .eq 7, 3) := by decide +kernel
theorem dX9_datagram_77 : decode cX9_datagram 77 = .ok (.iconst 1, 1) := by decide +kernel
theorem dX9_datagram_78 : decode cX9_datagram 78 = .ok (.goto 4, 3) := by decide +kernel
theorem dX9_datagram_81 : decode cX9_datagram 81 = .ok (.iconst 0, 1) := by decide +kernel
theorem dX9_datagram_82 : decode cX9_datagram 82 = .ok (.ireturn, 1) := by decide +kernel
theorem dX9_datagram_83 : decode cX9_datagram 83 = .ok (.aload_n 3, 1) := by decide +kernel
theorem dX9_datagram_84 : decode cX9_datagram 84 = .ok (.getfield 256, 3) := by decide +kernel
theorem dX9_datagram_87 : decode cX9_datagram 87 = .ok (.ireturn, 1) := by decide +kernel
theorem dX9_datagram_88 : decode cX9_datagram 88 = .ok (.aload_n 3, 1) := by decide +kernel
theorem dX9_datagram_89 : decode cX9_datagram 89 = .ok (.getfield 259, 3) := by decide +kernel
theorem dX9_datagram_92 : decode cX9_datagram 92 = .ok (.ireturn, 1) := by decide +kernel
theorem dX9_datagram_93 : decode cX9_datagram 93 = .ok (.aload_n 3, 1) := by decide +kernel
theorem dX9_datagram_94 : decode cX9_datagram 94 = .ok (.getfield 155, 3) := by decide +kernel
theorem dX9_datagram_97 : decode cX9_datagram 97 = .ok (.ireturn, 1) := by decide +kernel
theorem dX9_datagram_98 : decode cX9_datagram 98 = .ok (.aload_n 3, 1) := by decide +kernel
theorem dX9_datagram_99 : decode cX9_datagram 99 = .ok (.getfield 262, 3) := by decide +kernel
theorem dX9_datagram_102 : decode cX9_datagram 102 = .ok (.ireturn, 1) := by decide +kernel
theorem dX9_datagram_103 : decode cX9_datagram 103 = .ok (.aload_n 3, 1) := by decide +kernel
theorem dX9_datagram_104 : decode cX9_datagram 104 = .ok (.getfield 265, 3) := by decide +kernel
theorem dX9_datagram_107 : decode cX9_datagram 107 = .ok (.ireturn, 1) := by decide +kernel
theorem dX9_datagram_108 : decode cX9_datagram 108 = .ok (.aload_n 0, 1) := by decide +kernel
theorem dX9_datagram_109 : decode cX9_datagram 109 = .ok (.getfield 30, 3) := by decide +kernel
theorem dX9_datagram_112 : decode cX9_datagram 112 = .ok (.getfield 194, 3) := by decide +kernel
theorem dX9_datagram_115 : decode cX9_datagram 115 = .ok (.iload_n 1, 1) := by decide +kernel
theorem dX9_datagram_116 : decode cX9_datagram 116 = .ok (.invokevirtual 268, 3) := by decide +kernel
theorem dX9_datagram_119 : decode cX9_datagram 119 = .ok (.ireturn, 1) := by decide +kernel
/-! X9_endIn -/
theorem dX9_endIn_0 : decode cX9_endIn 0 = .ok (.aload_n 0, 1) := by decide +kernel
theorem dX9_endIn_1 : decode cX9_endIn 1 = .ok (.iload_n 1, 1) := by decide +kernel
theorem dX9_endIn_2 : decode cX9_endIn 2 = .ok (.invokevirtual 245, 3) := by decide +kernel
theorem dX9_endIn_5 : decode cX9_endIn 5 = .ok (.pop, 1) := by decide +kernel
theorem dX9_endIn_6 : decode cX9_endIn 6 = .ok (.aload_n 0, 1) := by decide +kernel
theorem dX9_endIn_7 : decode cX9_endIn 7 = .ok (.iconst 1, 1) := by decide +kernel
theorem dX9_endIn_8 : decode cX9_endIn 8 = .ok (.iload_n 1, 1) := by decide +kernel
theorem dX9_endIn_9 : decode cX9_endIn 9 = .ok (.invokevirtual 393, 3) := by decide +kernel
theorem dX9_endIn_12 : decode cX9_endIn 12 = .ok (.ireturn, 1) := by decide +kernel
/-! X9_fills -/
theorem dX9_fills_0 : decode cX9_fills 0 = .ok (.aload_n 0, 1) := by decide +kernel
theorem dX9_fills_1 : decode cX9_fills 1 = .ok (.iload_n 1, 1) := by decide +kernel
theorem dX9_fills_2 : decode cX9_fills 2 = .ok (.invokevirtual 245, 3) := by decide +kernel
theorem dX9_fills_5 : decode cX9_fills 5 = .ok (.pop, 1) := by decide +kernel
theorem dX9_fills_6 : decode cX9_fills 6 = .ok (.iload_n 2, 1) := by decide +kernel
theorem dX9_fills_7 : decode cX9_fills 7 = .ok (.iconst 0, 1) := by decide +kernel
theorem dX9_fills_8 : decode cX9_fills 8 = .ok (.sipush 1000, 3) := by decide +kernel
theorem dX9_fills_11 : decode cX9_fills 11 = .ok (.invokestatic 76, 3) := by decide +kernel
theorem dX9_fills_14 : decode cX9_fills 14 = .ok (.iload_n 3, 1) := by decide +kernel
theorem dX9_fills_15 : decode cX9_fills 15 = .ok (.iconst 1, 1) := by decide +kernel
theorem dX9_fills_16 : decode cX9_fills 16 = .ok (.sipush 1000, 3) := by decide +kernel
theorem dX9_fills_19 : decode cX9_fills 19 = .ok (.invokestatic 76, 3) := by decide +kernel
theorem dX9_fills_22 : decode cX9_fills 22 = .ok (.aload_n 0, 1) := by decide +kernel
theorem dX9_fills_23 : decode cX9_fills 23 = .ok (.getfield 30, 3) := by decide +kernel
theorem dX9_fills_26 : decode cX9_fills 26 = .ok (.iload_n 1, 1) := by decide +kernel
theorem dX9_fills_27 : decode cX9_fills 27 = .ok (.invokevirtual 305, 3) := by decide +kernel
theorem dX9_fills_30 : decode cX9_fills 30 = .ok (.astore 4, 2) := by decide +kernel
theorem dX9_fills_32 : decode cX9_fills 32 = .ok (.aload 4, 2) := by decide +kernel
theorem dX9_fills_34 : decode cX9_fills 34 = .ok (.ifnull 29, 3) := by decide +kernel
theorem dX9_fills_37 : decode cX9_fills 37 = .ok (.aload 4, 2) := by decide +kernel
theorem dX9_fills_39 : decode cX9_fills 39 = .ok (.iconst 0, 1) := by decide +kernel
theorem dX9_fills_40 : decode cX9_fills 40 = .ok (.iconst 0, 1) := by decide +kernel
theorem dX9_fills_41 : decode cX9_fills 41 = .ok (.invokevirtual 390, 3) := by decide +kernel
theorem dX9_fills_44 : decode cX9_fills 44 = .ok (.ifCond .le 19, 3) := by decide +kernel
theorem dX9_fills_47 : decode cX9_fills 47 = .ok (.aload 4, 2) := by decide +kernel
theorem dX9_fills_49 : decode cX9_fills 49 = .ok (.iload_n 2, 1) := by decide +kernel
theorem dX9_fills_50 : decode cX9_fills 50 = .ok (.iload_n 2, 1) := by decide +kernel
theorem dX9_fills_51 : decode cX9_fills 51 = .ok (.iload_n 3, 1) := by decide +kernel
theorem dX9_fills_52 : decode cX9_fills 52 = .ok (.iadd, 1) := by decide +kernel
theorem dX9_fills_53 : decode cX9_fills 53 = .ok (.invokevirtual 390, 3) := by decide +kernel
theorem dX9_fills_56 : decode cX9_fills 56 = .ok (.ifCond .ne 7, 3) := by decide +kernel
theorem dX9_fills_59 : decode cX9_fills 59 = .ok (.iconst 1, 1) := by decide +kernel
theorem dX9_fills_60 : decode cX9_fills 60 = .ok (.goto 4, 3) := by decide +kernel
theorem dX9_fills_63 : decode cX9_fills 63 = .ok (.iconst 0, 1) := by decide +kernel
theorem dX9_fills_64 : decode cX9_fills 64 = .ok (.ireturn, 1) := by decide +kernel
/-! X9_foretell -/
theorem dX9_foretell_0 : decode cX9_foretell 0 = .ok (.aload_n 0, 1) := by decide +kernel
theorem dX9_foretell_1 : decode cX9_foretell 1 = .ok (.aload_n 0, 1) := by decide +kernel
theorem dX9_foretell_2 : decode cX9_foretell 2 = .ok (.aload_n 0, 1) := by decide +kernel
theorem dX9_foretell_3 : decode cX9_foretell 3 = .ok (.getfield 45, 3) := by decide +kernel
theorem dX9_foretell_6 : decode cX9_foretell 6 = .ok (.invokevirtual 396, 3) := by decide +kernel
theorem dX9_foretell_9 : decode cX9_foretell 9 = .ok (.putfield 45, 3) := by decide +kernel
theorem dX9_foretell_12 : decode cX9_foretell 12 = .ok (.iconst 0, 1) := by decide +kernel
theorem dX9_foretell_13 : decode cX9_foretell 13 = .ok (.istore_n 3, 1) := by decide +kernel
theorem dX9_foretell_14 : decode cX9_foretell 14 = .ok (.iload_n 3, 1) := by decide +kernel
theorem dX9_foretell_15 : decode cX9_foretell 15 = .ok (.sipush 600, 3) := by decide +kernel
theorem dX9_foretell_18 : decode cX9_foretell 18 = .ok (.if_icmp .gt 42, 3) := by decide +kernel
theorem dX9_foretell_21 : decode cX9_foretell 21 = .ok (.aload_n 0, 1) := by decide +kernel
theorem dX9_foretell_22 : decode cX9_foretell 22 = .ok (.getfield 45, 3) := by decide +kernel
theorem dX9_foretell_25 : decode cX9_foretell 25 = .ok (.iload_n 1, 1) := by decide +kernel
theorem dX9_foretell_26 : decode cX9_foretell 26 = .ok (.iload_n 2, 1) := by decide +kernel
theorem dX9_foretell_27 : decode cX9_foretell 27 = .ok (.invokestatic 407, 3) := by decide +kernel
theorem dX9_foretell_30 : decode cX9_foretell 30 = .ok (.ifCond .eq 5, 3) := by decide +kernel
theorem dX9_foretell_33 : decode cX9_foretell 33 = .ok (.iload_n 3, 1) := by decide +kernel
theorem dX9_foretell_34 : decode cX9_foretell 34 = .ok (.ireturn, 1) := by decide +kernel
theorem dX9_foretell_35 : decode cX9_foretell 35 = .ok (.aload_n 0, 1) := by decide +kernel
theorem dX9_foretell_36 : decode cX9_foretell 36 = .ok (.getfield 45, 3) := by decide +kernel
theorem dX9_foretell_39 : decode cX9_foretell 39 = .ok (.invokevirtual 404, 3) := by decide +kernel
theorem dX9_foretell_42 : decode cX9_foretell 42 = .ok (.ifCond .eq 5, 3) := by decide +kernel
theorem dX9_foretell_45 : decode cX9_foretell 45 = .ok (.iconst (-1), 1) := by decide +kernel
theorem dX9_foretell_46 : decode cX9_foretell 46 = .ok (.ireturn, 1) := by decide +kernel
theorem dX9_foretell_47 : decode cX9_foretell 47 = .ok (.aload_n 0, 1) := by decide +kernel
theorem dX9_foretell_48 : decode cX9_foretell 48 = .ok (.getfield 45, 3) := by decide +kernel
theorem dX9_foretell_51 : decode cX9_foretell 51 = .ok (.invokevirtual 148, 3) := by decide +kernel
theorem dX9_foretell_54 : decode cX9_foretell 54 = .ok (.iinc 3 1, 3) := by decide +kernel
theorem dX9_foretell_57 : decode cX9_foretell 57 = .ok (.goto (-43), 3) := by decide +kernel
theorem dX9_foretell_60 : decode cX9_foretell 60 = .ok (.iconst (-1), 1) := by decide +kernel
theorem dX9_foretell_61 : decode cX9_foretell 61 = .ok (.ireturn, 1) := by decide +kernel
/-! X9_forge -/
theorem dX9_forge_0 : decode cX9_forge 0 = .ok (.aload_n 0, 1) := by decide +kernel
theorem dX9_forge_1 : decode cX9_forge 1 = .ok (.iload_n 1, 1) := by decide +kernel
theorem dX9_forge_2 : decode cX9_forge 2 = .ok (.invokevirtual 245, 3) := by decide +kernel
theorem dX9_forge_5 : decode cX9_forge 5 = .ok (.pop, 1) := by decide +kernel
theorem dX9_forge_6 : decode cX9_forge 6 = .ok (.iload_n 2, 1) := by decide +kernel
theorem dX9_forge_7 : decode cX9_forge 7 = .ok (.iconst 0, 1) := by decide +kernel
theorem dX9_forge_8 : decode cX9_forge 8 = .ok (.sipush 992, 3) := by decide +kernel
theorem dX9_forge_11 : decode cX9_forge 11 = .ok (.invokestatic 76, 3) := by decide +kernel
theorem dX9_forge_14 : decode cX9_forge 14 = .ok (.iload_n 2, 1) := by decide +kernel
theorem dX9_forge_15 : decode cX9_forge 15 = .ok (.bipush 8, 2) := by decide +kernel
theorem dX9_forge_17 : decode cX9_forge 17 = .ok (.irem, 1) := by decide +kernel
theorem dX9_forge_18 : decode cX9_forge 18 = .ok (.ifCond .eq 14, 3) := by decide +kernel
theorem dX9_forge_21 : decode cX9_forge 21 = .ok (.new 83, 3) := by decide +kernel
theorem dX9_forge_24 : decode cX9_forge 24 = .ok (.dup, 1) := by decide +kernel
theorem dX9_forge_25 : decode cX9_forge 25 = .ok (.ldc_w 417, 3) := by decide +kernel
theorem dX9_forge_28 : decode cX9_forge 28 = .ok (.invokespecial 87, 3) := by decide +kernel
theorem dX9_forge_31 : decode cX9_forge 31 = .ok (.athrow, 1) := by decide +kernel
theorem dX9_forge_32 : decode cX9_forge 32 = .ok (.iload_n 3, 1) := by decide +kernel
theorem dX9_forge_33 : decode cX9_forge 33 = .ok (.iconst 1, 1) := by decide +kernel
theorem dX9_forge_34 : decode cX9_forge 34 = .ok (.sipush 200, 3) := by decide +kernel
theorem dX9_forge_37 : decode cX9_forge 37 = .ok (.invokestatic 76, 3) := by decide +kernel
theorem dX9_forge_40 : decode cX9_forge 40 = .ok (.iload 4, 2) := by decide +kernel
theorem dX9_forge_42 : decode cX9_forge 42 = .ok (.iconst 0, 1) := by decide +kernel
theorem dX9_forge_43 : decode cX9_forge 43 = .ok (.sipush 255, 3) := by decide +kernel
theorem dX9_forge_46 : decode cX9_forge 46 = .ok (.invokestatic 76, 3) := by decide +kernel
theorem dX9_forge_49 : decode cX9_forge 49 = .ok (.aload_n 0, 1) := by decide +kernel
theorem dX9_forge_50 : decode cX9_forge 50 = .ok (.invokevirtual 122, 3) := by decide +kernel
theorem dX9_forge_53 : decode cX9_forge 53 = .ok (.aload_n 0, 1) := by decide +kernel
theorem dX9_forge_54 : decode cX9_forge 54 = .ok (.getfield 30, 3) := by decide +kernel
theorem dX9_forge_57 : decode cX9_forge 57 = .ok (.iload_n 1, 1) := by decide +kernel
theorem dX9_forge_58 : decode cX9_forge 58 = .ok (.iload_n 2, 1) := by decide +kernel
theorem dX9_forge_59 : decode cX9_forge 59 = .ok (.iload_n 3, 1) := by decide +kernel
theorem dX9_forge_60 : decode cX9_forge 60 = .ok (.iload 4, 2) := by decide +kernel
theorem dX9_forge_62 : decode cX9_forge 62 = .ok (.iload 5, 2) := by decide +kernel
theorem dX9_forge_64 : decode cX9_forge 64 = .ok (.ifCond .ne 7, 3) := by decide +kernel
theorem dX9_forge_67 : decode cX9_forge 67 = .ok (.iconst 1, 1) := by decide +kernel
theorem dX9_forge_68 : decode cX9_forge 68 = .ok (.goto 4, 3) := by decide +kernel
theorem dX9_forge_71 : decode cX9_forge 71 = .ok (.iconst 0, 1) := by decide +kernel
theorem dX9_forge_72 : decode cX9_forge 72 = .ok (.invokevirtual 134, 3) := by decide +kernel
theorem dX9_forge_75 : decode cX9_forge 75 = .ok (.pop, 1) := by decide +kernel
theorem dX9_forge_76 : decode cX9_forge 76 = .ok (.aload_n 0, 1) := by decide +kernel
theorem dX9_forge_77 : decode cX9_forge 77 = .ok (.getfield 30, 3) := by decide +kernel
theorem dX9_forge_80 : decode cX9_forge 80 = .ok (.iload_n 1, 1) := by decide +kernel
theorem dX9_forge_81 : decode cX9_forge 81 = .ok (.invokevirtual 305, 3) := by decide +kernel
theorem dX9_forge_84 : decode cX9_forge 84 = .ok (.astore 6, 2) := by decide +kernel
theorem dX9_forge_86 : decode cX9_forge 86 = .ok (.aload 6, 2) := by decide +kernel
theorem dX9_forge_88 : decode cX9_forge 88 = .ok (.ifnonnull 7, 3) := by decide +kernel
theorem dX9_forge_91 : decode cX9_forge 91 = .ok (.iconst 0, 1) := by decide +kernel
theorem dX9_forge_92 : decode cX9_forge 92 = .ok (.goto 8, 3) := by decide +kernel
theorem dX9_forge_95 : decode cX9_forge 95 = .ok (.aload 6, 2) := by decide +kernel
theorem dX9_forge_97 : decode cX9_forge 97 = .ok (.getfield 317, 3) := by decide +kernel
theorem dX9_forge_100 : decode cX9_forge 100 = .ok (.ireturn, 1) := by decide +kernel
/-! X9_forget -/
theorem dX9_forget_0 : decode cX9_forget 0 = .ok (.aload_n 0, 1) := by decide +kernel
theorem dX9_forget_1 : decode cX9_forget 1 = .ok (.invokevirtual 122, 3) := by decide +kernel
theorem dX9_forget_4 : decode cX9_forget 4 = .ok (.aload_n 0, 1) := by decide +kernel
theorem dX9_forget_5 : decode cX9_forget 5 = .ok (.getfield 30, 3) := by decide +kernel
theorem dX9_forget_8 : decode cX9_forget 8 = .ok (.invokevirtual 55, 3) := by decide +kernel
theorem dX9_forget_11 : decode cX9_forget 11 = .ok (.aload_n 0, 1) := by decide +kernel
theorem dX9_forget_12 : decode cX9_forget 12 = .ok (.getfield 30, 3) := by decide +kernel
theorem dX9_forget_15 : decode cX9_forget 15 = .ok (.getfield 185, 3) := by decide +kernel
theorem dX9_forget_18 : decode cX9_forget 18 = .ok (.ireturn, 1) := by decide +kernel
/-! X9_fullOf -/
theorem dX9_fullOf_0 : decode cX9_fullOf 0 = .ok (.iload_n 0, 1) := by decide +kernel
theorem dX9_fullOf_1 : decode cX9_fullOf 1 = .ok (.bipush 20, 2) := by decide +kernel
theorem dX9_fullOf_3 : decode cX9_fullOf 3 = .ok (.isub, 1) := by decide +kernel
theorem dX9_fullOf_4 : decode cX9_fullOf 4 = .ok (.bipush 8, 2) := by decide +kernel
theorem dX9_fullOf_6 : decode cX9_fullOf 6 = .ok (.idiv, 1) := by decide +kernel
theorem dX9_fullOf_7 : decode cX9_fullOf 7 = .ok (.bipush 8, 2) := by decide +kernel
theorem dX9_fullOf_9 : decode cX9_fullOf 9 = .ok (.imul, 1) := by decide +kernel
theorem dX9_fullOf_10 : decode cX9_fullOf 10 = .ok (.bipush 8, 2) := by decide +kernel
theorem dX9_fullOf_12 : decode cX9_fullOf 12 = .ok (.invokestatic 452, 3) := by decide +kernel
theorem dX9_fullOf_15 : decode cX9_fullOf 15 = .ok (.ireturn, 1) := by decide +kernel
/-! X9_gap -/
theorem dX9_gap_0 : decode cX9_gap 0 = .ok (.aload_n 0, 1) := by decide +kernel
theorem dX9_gap_1 : decode cX9_gap 1 = .ok (.getfield 30, 3) := by decide +kernel
theorem dX9_gap_4 : decode cX9_gap 4 = .ok (.getfield 341, 3) := by decide +kernel
theorem dX9_gap_7 : decode cX9_gap 7 = .ok (.astore_n 1, 1) := by decide +kernel
theorem dX9_gap_8 : decode cX9_gap 8 = .ok (.aload_n 1, 1) := by decide +kernel
theorem dX9_gap_9 : decode cX9_gap 9 = .ok (.getfield 349, 3) := by decide +kernel
theorem dX9_gap_12 : decode cX9_gap 12 = .ok (.aload_n 1, 1) := by decide +kernel
theorem dX9_gap_13 : decode cX9_gap 13 = .ok (.getfield 350, 3) := by decide +kernel
theorem dX9_gap_16 : decode cX9_gap 16 = .ok (.aload_n 1, 1) := by decide +kernel
theorem dX9_gap_17 : decode cX9_gap 17 = .ok (.getfield 351, 3) := by decide +kernel
theorem dX9_gap_20 : decode cX9_gap 20 = .ok (.iadd, 1) := by decide +kernel
theorem dX9_gap_21 : decode cX9_gap 21 = .ok (.aload_n 0, 1) := by decide +kernel
theorem dX9_gap_22 : decode cX9_gap 22 = .ok (.getfield 30, 3) := by decide +kernel
theorem dX9_gap_25 : decode cX9_gap 25 = .ok (.getfield 194, 3) := by decide +kernel
theorem dX9_gap_28 : decode cX9_gap 28 = .ok (.getfield 198, 3) := by decide +kernel
theorem dX9_gap_31 : decode cX9_gap 31 = .ok (.iadd, 1) := by decide +kernel
theorem dX9_gap_32 : decode cX9_gap 32 = .ok (.aload_n 1, 1) := by decide +kernel
theorem dX9_gap_33 : decode cX9_gap 33 = .ok (.getfield 354, 3) := by decide +kernel
theorem dX9_gap_36 : decode cX9_gap 36 = .ok (.iadd, 1) := by decide +kernel
theorem dX9_gap_37 : decode cX9_gap 37 = .ok (.isub, 1) := by decide +kernel
theorem dX9_gap_38 : decode cX9_gap 38 = .ok (.ireturn, 1) := by decide +kernel
/-! X9_handedBy -/
theorem dX9_handedBy_0 : decode cX9_handedBy 0 = .ok (.iload_n 1, 1) := by decide +kernel
theorem dX9_handedBy_1 : decode cX9_handedBy 1 = .ok (.iconst 1, 1) := by decide +kernel
theorem dX9_handedBy_2 : decode cX9_handedBy 2 = .ok (.sipush 200, 3) := by decide +kernel
theorem dX9_handedBy_5 : decode cX9_handedBy 5 = .ok (.invokestatic 76, 3) := by decide +kernel
theorem dX9_handedBy_8 : decode cX9_handedBy 8 = .ok (.iload_n 2, 1) := by decide +kernel
theorem dX9_handedBy_9 : decode cX9_handedBy 9 = .ok (.iconst 0, 1) := by decide +kernel
theorem dX9_handedBy_10 : decode cX9_handedBy 10 = .ok (.iconst 2, 1) := by decide +kernel
theorem dX9_handedBy_11 : decode cX9_handedBy 11 = .ok (.invokestatic 76, 3) := by decide +kernel
theorem dX9_handedBy_14 : decode cX9_handedBy 14 = .ok (.aload_n 0, 1) := by decide +kernel
theorem dX9_handedBy_15 : decode cX9_handedBy 15 = .ok (.aload_n 0, 1) := by decide +kernel
theorem dX9_handedBy_16 : decode cX9_handedBy 16 = .ok (.aload_n 0, 1) := by decide +kernel
theorem dX9_handedBy_17 : decode cX9_handedBy 17 = .ok (.getfield 45, 3) := by decide +kernel
theorem dX9_handedBy_20 : decode cX9_handedBy 20 = .ok (.invokevirtual 396, 3) := by decide +kernel
theorem dX9_handedBy_23 : decode cX9_handedBy 23 = .ok (.putfield 45, 3) := by decide +kernel
theorem dX9_handedBy_26 : decode cX9_handedBy 26 = .ok (.aload_n 0, 1) := by decide +kernel
theorem dX9_handedBy_27 : decode cX9_handedBy 27 = .ok (.getfield 45, 3) := by decide +kernel
theorem dX9_handedBy_30 : decode cX9_handedBy 30 = .ok (.iload_n 1, 1) := by decide +kernel
theorem dX9_handedBy_31 : decode cX9_handedBy 31 = .ok (.putfield 116, 3) := by decide +kernel
theorem dX9_handedBy_34 : decode cX9_handedBy 34 = .ok (.aload_n 0, 1) := by decide +kernel
theorem dX9_handedBy_35 : decode cX9_handedBy 35 = .ok (.getfield 45, 3) := by decide +kernel
theorem dX9_handedBy_38 : decode cX9_handedBy 38 = .ok (.iload_n 2, 1) := by decide +kernel
theorem dX9_handedBy_39 : decode cX9_handedBy 39 = .ok (.putfield 119, 3) := by decide +kernel
theorem dX9_handedBy_42 : decode cX9_handedBy 42 = .ok (.aload_n 0, 1) := by decide +kernel
theorem dX9_handedBy_43 : decode cX9_handedBy 43 = .ok (.getfield 45, 3) := by decide +kernel
theorem dX9_handedBy_46 : decode cX9_handedBy 46 = .ok (.sipush 600, 3) := by decide +kernel
theorem dX9_handedBy_49 : decode cX9_handedBy 49 = .ok (.invokestatic 400, 3) := by decide +kernel
theorem dX9_handedBy_52 : decode cX9_handedBy 52 = .ok (.aload_n 0, 1) := by decide +kernel
theorem dX9_handedBy_53 : decode cX9_handedBy 53 = .ok (.getfield 45, 3) := by decide +kernel
theorem dX9_handedBy_56 : decode cX9_handedBy 56 = .ok (.invokevirtual 218, 3) := by decide +kernel
theorem dX9_handedBy_59 : decode cX9_handedBy 59 = .ok (.ireturn, 1) := by decide +kernel
/-! X9_handedIn -/
theorem dX9_handedIn_0 : decode cX9_handedIn 0 = .ok (.aload_n 0, 1) := by decide +kernel
theorem dX9_handedIn_1 : decode cX9_handedIn 1 = .ok (.iload_n 1, 1) := by decide +kernel
theorem dX9_handedIn_2 : decode cX9_handedIn 2 = .ok (.invokevirtual 245, 3) := by decide +kernel
theorem dX9_handedIn_5 : decode cX9_handedIn 5 = .ok (.pop, 1) := by decide +kernel
theorem dX9_handedIn_6 : decode cX9_handedIn 6 = .ok (.aload_n 0, 1) := by decide +kernel
theorem dX9_handedIn_7 : decode cX9_handedIn 7 = .ok (.iconst 0, 1) := by decide +kernel
theorem dX9_handedIn_8 : decode cX9_handedIn 8 = .ok (.iload_n 1, 1) := by decide +kernel
theorem dX9_handedIn_9 : decode cX9_handedIn 9 = .ok (.invokevirtual 393, 3) := by decide +kernel
theorem dX9_handedIn_12 : decode cX9_handedIn 12 = .ok (.ireturn, 1) := by decide +kernel
/-! X9_hasCome -/
theorem dX9_hasCome_0 : decode cX9_hasCome 0 = .ok (.iload_n 1, 1) := by decide +kernel
theorem dX9_hasCome_1 : decode cX9_hasCome 1 = .ok (.iconst 2, 1) := by decide +kernel
theorem dX9_hasCome_2 : decode cX9_hasCome 2 = .ok (.if_icmp .ne 8, 3) := by decide +kernel
theorem dX9_hasCome_5 : decode cX9_hasCome 5 = .ok (.aload_n 0, 1) := by decide +kernel
theorem dX9_hasCome_6 : decode cX9_hasCome 6 = .ok (.invokevirtual 404, 3) := by decide +kernel
theorem dX9_hasCome_9 : decode cX9_hasCome 9 = .ok (.ireturn, 1) := by decide +kernel
theorem dX9_hasCome_10 : decode cX9_hasCome 10 = .ok (.aload_n 0, 1) := by decide +kernel
theorem dX9_hasCome_11 : decode cX9_hasCome 11 = .ok (.iload_n 2, 1) := by decide +kernel
theorem dX9_hasCome_12 : decode cX9_hasCome 12 = .ok (.invokevirtual 151, 3) := by decide +kernel
theorem dX9_hasCome_15 : decode cX9_hasCome 15 = .ok (.astore_n 3, 1) := by decide +kernel
theorem dX9_hasCome_16 : decode cX9_hasCome 16 = .ok (.aload_n 3, 1) := by decide +kernel
theorem dX9_hasCome_17 : decode cX9_hasCome 17 = .ok (.ifnonnull 5, 3) := by decide +kernel
theorem dX9_hasCome_20 : decode cX9_hasCome 20 = .ok (.iconst 0, 1) := by decide +kernel
theorem dX9_hasCome_21 : decode cX9_hasCome 21 = .ok (.ireturn, 1) := by decide +kernel
theorem dX9_hasCome_22 : decode cX9_hasCome 22 = .ok (.iload_n 1, 1) := by decide +kernel
theorem dX9_hasCome_23 : decode cX9_hasCome 23 = .ok (.ifCond .ne 10, 3) := by decide +kernel
theorem dX9_hasCome_26 : decode cX9_hasCome 26 = .ok (.aload_n 3, 1) := by decide +kernel
theorem dX9_hasCome_27 : decode cX9_hasCome 27 = .ok (.invokevirtual 411, 3) := by decide +kernel
theorem dX9_hasCome_30 : decode cX9_hasCome 30 = .ok (.goto 15, 3) := by decide +kernel
theorem dX9_hasCome_33 : decode cX9_hasCome 33 = .ok (.aload_n 3, 1) := by decide +kernel
theorem dX9_hasCome_34 : decode cX9_hasCome 34 = .ok (.getfield 155, 3) := by decide +kernel
theorem dX9_hasCome_37 : decode cX9_hasCome 37 = .ok (.ifCond .eq 7, 3) := by decide +kernel
theorem dX9_hasCome_40 : decode cX9_hasCome 40 = .ok (.iconst 1, 1) := by decide +kernel
theorem dX9_hasCome_41 : decode cX9_hasCome 41 = .ok (.goto 4, 3) := by decide +kernel
theorem dX9_hasCome_44 : decode cX9_hasCome 44 = .ok (.iconst 0, 1) := by decide +kernel
theorem dX9_hasCome_45 : decode cX9_hasCome 45 = .ok (.ireturn, 1) := by decide +kernel
/-! X9_heap -/
theorem dX9_heap_0 : decode cX9_heap 0 = .ok (.aload_n 0, 1) := by decide +kernel
theorem dX9_heap_1 : decode cX9_heap 1 = .ok (.iload_n 1, 1) := by decide +kernel
theorem dX9_heap_2 : decode cX9_heap 2 = .ok (.invokevirtual 245, 3) := by decide +kernel
theorem dX9_heap_5 : decode cX9_heap 5 = .ok (.pop, 1) := by decide +kernel
theorem dX9_heap_6 : decode cX9_heap 6 = .ok (.iload_n 2, 1) := by decide +kernel
theorem dX9_heap_7 : decode cX9_heap 7 = .ok (.iconst 0, 1) := by decide +kernel
theorem dX9_heap_8 : decode cX9_heap 8 = .ok (.bipush 6, 2) := by decide +kernel
theorem dX9_heap_10 : decode cX9_heap 10 = .ok (.invokestatic 76, 3) := by decide +kernel
theorem dX9_heap_13 : decode cX9_heap 13 = .ok (.aload_n 0, 1) := by decide +kernel
theorem dX9_heap_14 : decode cX9_heap 14 = .ok (.getfield 30, 3) := by decide +kernel
theorem dX9_heap_17 : decode cX9_heap 17 = .ok (.iload_n 1, 1) := by decide +kernel
theorem dX9_heap_18 : decode cX9_heap 18 = .ok (.invokevirtual 305, 3) := by decide +kernel
theorem dX9_heap_21 : decode cX9_heap 21 = .ok (.astore_n 3, 1) := by decide +kernel
theorem dX9_heap_22 : decode cX9_heap 22 = .ok (.aload_n 3, 1) := by decide +kernel
theorem dX9_heap_23 : decode cX9_heap 23 = .ok (.ifnonnull 5, 3) := by decide +kernel
theorem dX9_heap_26 : decode cX9_heap 26 = .ok (.iconst (-1), 1) := by decide +kernel
theorem dX9_heap_27 : decode cX9_heap 27 = .ok (.ireturn, 1) := by decide +kernel
theorem dX9_heap_28 : decode cX9_heap 28 = .ok (.iload_n 2, 1) := by decide +kernel
theorem dX9_heap_29 : decode cX9_heap 29 = .ok (.tableswitch 69 0 5 #[39, 44, 49, 54, 59, 64], 39) := by decide +kernel
theorem dX9_heap_68 : decode cX9_heap 68 = .ok (.aload_n 3, 1) := by decide +kernel
theorem dX9_heap_69 : decode cX9_heap 69 = .ok (.getfield 309, 3) := by decide +kernel
theorem dX9_heap_72 : decode cX9_heap 72 = .ok (.ireturn, 1) := by decide +kernel
theorem dX9_heap_73 : decode cX9_heap 73 = .ok (.aload_n 3, 1) := by decide +kernel
theorem dX9_heap_74 : decode cX9_heap 74 = .ok (.getfield 314, 3) := by decide +kernel
theorem dX9_heap_77 : decode cX9_heap 77 = .ok (.ireturn, 1) := by decide +kernel
theorem dX9_heap_78 : decode cX9_heap 78 = .ok (.aload_n 3, 1) := by decide +kernel
theorem dX9_heap_79 : decode cX9_heap 79 = .ok (.getfield 317, 3) := by decide +kernel
theorem dX9_heap_82 : decode cX9_heap 82 = .ok (.ireturn, 1) := by decide +kernel
theorem dX9_heap_83 : decode cX9_heap 83 = .ok (.aload_n 3, 1) := by decide +kernel
theorem dX9_heap_84 : decode cX9_heap 84 = .ok (.invokevirtual 320, 3) := by decide +kernel
theorem dX9_heap_87 : decode cX9_heap 87 = .ok (.ireturn, 1) := by decide +kernel
theorem dX9_heap_88 : decode cX9_heap 88 = .ok (.aload_n 3, 1) := by decide +kernel
theorem dX9_heap_89 : decode cX9_heap 89 = .ok (.getfield 323, 3) := by decide +kernel
theorem dX9_heap_92 : decode cX9_heap 92 = .ok (.ireturn, 1) := by decide +kernel
theorem dX9_heap_93 : decode cX9_heap 93 = .ok (.aload_n 3, 1) := by decide +kernel
theorem dX9_heap_94 : decode cX9_heap 94 = .ok (.getfield 326, 3) := by decide +kernel
theorem dX9_heap_97 : decode cX9_heap 97 = .ok (.ireturn, 1) := by decide +kernel
theorem dX9_heap_98 : decode cX9_heap 98 = .ok (.aload_n 3, 1) := by decide +kernel
theorem dX9_heap_99 : decode cX9_heap 99 = .ok (.getfield 329, 3) := by decide +kernel
theorem dX9_heap_102 : decode cX9_heap 102 = .ok (.ireturn, 1) := by decide +kernel
/-! X9_heapByte -/
theorem dX9_heapByte_0 : decode cX9_heapByte 0 = .ok (.aload_n 0, 1) := by decide +kernel
theorem dX9_heapByte_1 : decode cX9_heapByte 1 = .ok (.iload_n 1, 1) := by decide +kernel
theorem dX9_heapByte_2 : decode cX9_heapByte 2 = .ok (.invokevirtual 245, 3) := by decide +kernel
theorem dX9_heapByte_5 : decode cX9_heapByte 5 = .ok (.pop, 1) := by decide +kernel
theorem dX9_heapByte_6 : decode cX9_heapByte 6 = .ok (.aload_n 0, 1) := by decide +kernel
theorem dX9_heapByte_7 : decode cX9_heapByte 7 = .ok (.getfield 30, 3) := by decide +kernel
theorem dX9_heapByte_10 : decode cX9_heapByte 10 = .ok (.iload_n 1, 1) := by decide +kernel
theorem dX9_heapByte_11 : decode cX9_heapByte 11 = .ok (.invokevirtual 305, 3) := by decide +kernel
theorem dX9_heapByte_14 : decode cX9_heapByte 14 = .ok (.astore_n 3, 1) := by decide +kernel
theorem dX9_heapByte_15 : decode cX9_heapByte 15 = .ok (.aload_n 3, 1) := by decide +kernel
theorem dX9_heapByte_16 : decode cX9_heapByte 16 = .ok (.ifnonnull 7, 3) := by decide +kernel
theorem dX9_heapByte_19 : decode cX9_heapByte 19 = .ok (.iconst (-1), 1) := by decide +kernel
theorem dX9_heapByte_20 : decode cX9_heapByte 20 = .ok (.goto 8, 3) := by decide +kernel
theorem dX9_heapByte_23 : decode cX9_heapByte 23 = .ok (.aload_n 3, 1) := by decide +kernel
theorem dX9_heapByte_24 : decode cX9_heapByte 24 = .ok (.iload_n 2, 1) := by decide +kernel
theorem dX9_heapByte_25 : decode cX9_heapByte 25 = .ok (.invokevirtual 338, 3) := by decide +kernel
theorem dX9_heapByte_28 : decode cX9_heapByte 28 = .ok (.ireturn, 1) := by decide +kernel
/-! X9_hole -/
theorem dX9_hole_0 : decode cX9_hole 0 = .ok (.aload_n 0, 1) := by decide +kernel
theorem dX9_hole_1 : decode cX9_hole 1 = .ok (.iload_n 1, 1) := by decide +kernel
theorem dX9_hole_2 : decode cX9_hole 2 = .ok (.invokevirtual 245, 3) := by decide +kernel
theorem dX9_hole_5 : decode cX9_hole 5 = .ok (.pop, 1) := by decide +kernel
theorem dX9_hole_6 : decode cX9_hole 6 = .ok (.iload_n 3, 1) := by decide +kernel
theorem dX9_hole_7 : decode cX9_hole 7 = .ok (.iconst 0, 1) := by decide +kernel
theorem dX9_hole_8 : decode cX9_hole 8 = .ok (.iconst 1, 1) := by decide +kernel
theorem dX9_hole_9 : decode cX9_hole 9 = .ok (.invokestatic 76, 3) := by decide +kernel
theorem dX9_hole_12 : decode cX9_hole 12 = .ok (.aload_n 0, 1) := by decide +kernel
theorem dX9_hole_13 : decode cX9_hole 13 = .ok (.getfield 30, 3) := by decide +kernel
theorem dX9_hole_16 : decode cX9_hole 16 = .ok (.iload_n 1, 1) := by decide +kernel
theorem dX9_hole_17 : decode cX9_hole 17 = .ok (.invokevirtual 305, 3) := by decide +kernel
theorem dX9_hole_20 : decode cX9_hole 20 = .ok (.astore 4, 2) := by decide +kernel
theorem dX9_hole_22 : decode cX9_hole 22 = .ok (.aload 4, 2) := by decide +kernel
theorem dX9_hole_24 : decode cX9_hole 24 = .ok (.ifnonnull 5, 3) := by decide +kernel
theorem dX9_hole_27 : decode cX9_hole 27 = .ok (.iconst (-1), 1) := by decide +kernel
theorem dX9_hole_28 : decode cX9_hole 28 = .ok (.ireturn, 1) := by decide +kernel
theorem dX9_hole_29 : decode cX9_hole 29 = .ok (.aload 4, 2) := by decide +kernel
theorem dX9_hole_31 : decode cX9_hole 31 = .ok (.iload_n 2, 1) := by decide +kernel
theorem dX9_hole_32 : decode cX9_hole 32 = .ok (.invokevirtual 332, 3) := by decide +kernel
theorem dX9_hole_35 : decode cX9_hole 35 = .ok (.istore 5, 2) := by decide +kernel
theorem dX9_hole_37 : decode cX9_hole 37 = .ok (.iload_n 3, 1) := by decide +kernel
theorem dX9_hole_38 : decode cX9_hole 38 = .ok (.ifCond .eq 9, 3) := by decide +kernel
theorem dX9_hole_41 : decode cX9_hole 41 = .ok (.iload 5, 2) := by decide +kernel
theorem dX9_hole_43 : decode cX9_hole 43 = .ok (.iconst (-1), 1) := by decide +kernel
theorem dX9_hole_44 : decode cX9_hole 44 = .ok (.if_icmp .ne 8, 3) := by decide +kernel
theorem dX9_hole_47 : decode cX9_hole 47 = .ok (.iload 5, 2) := by decide +kernel
theorem dX9_hole_49 : decode cX9_hole 49 = .ok (.goto 10, 3) := by decide +kernel
theorem dX9_hole_52 : decode cX9_hole 52 = .ok (.aload 4, 2) := by decide +kernel
theorem dX9_hole_54 : decode cX9_hole 54 = .ok (.iload 5, 2) := by decide +kernel
theorem dX9_hole_56 : decode cX9_hole 56 = .ok (.invokevirtual 335, 3) := by decide +kernel
theorem dX9_hole_59 : decode cX9_hole 59 = .ok (.ireturn, 1) := by decide +kernel
/-! X9_init -/
theorem dX9_init_0 : decode cX9_init 0 = .ok (.aload_n 0, 1) := by decide +kernel
theorem dX9_init_1 : decode cX9_init 1 = .ok (.invokespecial 1, 3) := by decide +kernel
theorem dX9_init_4 : decode cX9_init 4 = .ok (.aload_n 0, 1) := by decide +kernel
theorem dX9_init_5 : decode cX9_init 5 = .ok (.new 7, 3) := by decide +kernel
theorem dX9_init_8 : decode cX9_init 8 = .ok (.dup, 1) := by decide +kernel
theorem dX9_init_9 : decode cX9_init 9 = .ok (.invokespecial 9, 3) := by decide +kernel
theorem dX9_init_12 : decode cX9_init 12 = .ok (.putfield 10, 3) := by decide +kernel
theorem dX9_init_15 : decode cX9_init 15 = .ok (.aload_n 0, 1) := by decide +kernel
theorem dX9_init_16 : decode cX9_init 16 = .ok (.new 16, 3) := by decide +kernel
theorem dX9_init_19 : decode cX9_init 19 = .ok (.dup, 1) := by decide +kernel
theorem dX9_init_20 : decode cX9_init 20 = .ok (.invokespecial 18, 3) := by decide +kernel
theorem dX9_init_23 : decode cX9_init 23 = .ok (.putfield 19, 3) := by decide +kernel
theorem dX9_init_26 : decode cX9_init 26 = .ok (.aload_n 0, 1) := by decide +kernel
theorem dX9_init_27 : decode cX9_init 27 = .ok (.sipush 1001, 3) := by decide +kernel
theorem dX9_init_30 : decode cX9_init 30 = .ok (.newarray .int, 2) := by decide +kernel
theorem dX9_init_32 : decode cX9_init 32 = .ok (.putfield 23, 3) := by decide +kernel
theorem dX9_init_35 : decode cX9_init 35 = .ok (.aload_n 0, 1) := by decide +kernel
theorem dX9_init_36 : decode cX9_init 36 = .ok (.new 27, 3) := by decide +kernel
theorem dX9_init_39 : decode cX9_init 39 = .ok (.dup, 1) := by decide +kernel
theorem dX9_init_40 : decode cX9_init 40 = .ok (.invokespecial 29, 3) := by decide +kernel
theorem dX9_init_43 : decode cX9_init 43 = .ok (.putfield 30, 3) := by decide +kernel
theorem dX9_init_46 : decode cX9_init 46 = .ok (.aload_n 0, 1) := by decide +kernel
theorem dX9_init_47 : decode cX9_init 47 = .ok (.bipush 8, 2) := by decide +kernel
theorem dX9_init_49 : decode cX9_init 49 = .ok (.anewarray 27, 3) := by decide +kernel
theorem dX9_init_52 : decode cX9_init 52 = .ok (.putfield 34, 3) := by decide +kernel
theorem dX9_init_55 : decode cX9_init 55 = .ok (.aload_n 0, 1) := by decide +kernel
theorem dX9_init_56 : decode cX9_init 56 = .ok (.iconst 0, 1) := by decide +kernel
theorem dX9_init_57 : decode cX9_init 57 = .ok (.putfield 38, 3) := by decide +kernel
theorem dX9_init_60 : decode cX9_init 60 = .ok (.aload_n 0, 1) := by decide +kernel
theorem dX9_init_61 : decode cX9_init 61 = .ok (.iconst 0, 1) := by decide +kernel
theorem dX9_init_62 : decode cX9_init 62 = .ok (.putfield 42, 3) := by decide +kernel
theorem dX9_init_65 : decode cX9_init 65 = .ok (.aload_n 0, 1) := by decide +kernel
theorem dX9_init_66 : decode cX9_init 66 = .ok (.aconst_null, 1) := by decide +kernel
theorem dX9_init_67 : decode cX9_init 67 = .ok (.putfield 45, 3) := by decide +kernel
theorem dX9_init_70 : decode cX9_init 70 = .ok (.aload_n 0, 1) := by decide +kernel
theorem dX9_init_71 : decode cX9_init 71 = .ok (.aconst_null, 1) := by decide +kernel
theorem dX9_init_72 : decode cX9_init 72 = .ok (.putfield 48, 3) := by decide +kernel
theorem dX9_init_75 : decode cX9_init 75 = .ok (.aload_n 0, 1) := by decide +kernel
theorem dX9_init_76 : decode cX9_init 76 = .ok (.getfield 30, 3) := by decide +kernel
theorem dX9_init_79 : decode cX9_init 79 = .ok (.sipush 576, 3) := by decide +kernel
theorem dX9_init_82 : decode cX9_init 82 = .ok (.iconst 1, 1) := by decide +kernel
theorem dX9_init_83 : decode cX9_init 83 = .ok (.iconst 0, 1) := by decide +kernel
theorem dX9_init_84 : decode cX9_init 84 = .ok (.invokevirtual 51, 3) := by decide +kernel
theorem dX9_init_87 : decode cX9_init 87 = .ok (.aload_n 0, 1) := by decide +kernel
theorem dX9_init_88 : decode cX9_init 88 = .ok (.getfield 30, 3) := by decide +kernel
theorem dX9_init_91 : decode cX9_init 91 = .ok (.invokevirtual 55, 3) := by decide +kernel
theorem dX9_init_94 : decode cX9_init 94 = .ok (.return_, 1) := by decide +kernel
/-! X9_isEveryTold -/
theorem dX9_isEveryTold_0 : decode cX9_isEveryTold 0 = .ok (.aload_n 0, 1) := by decide +kernel
theorem dX9_isEveryTold_1 : decode cX9_isEveryTold 1 = .ok (.getfield 30, 3) := by decide +kernel
theorem dX9_isEveryTold_4 : decode cX9_isEveryTold 4 = .ok (.iload_n 1, 1) := by decide +kernel
theorem dX9_isEveryTold_5 : decode cX9_isEveryTold 5 = .ok (.invokevirtual 164, 3) := by decide +kernel
theorem dX9_isEveryTold_8 : decode cX9_isEveryTold 8 = .ok (.astore_n 3, 1) := by decide +kernel
theorem dX9_isEveryTold_9 : decode cX9_isEveryTold 9 = .ok (.aload_n 3, 1) := by decide +kernel
theorem dX9_isEveryTold_10 : decode cX9_isEveryTold 10 = .ok (.ifnonnull 5, 3) := by decide +kernel
theorem dX9_isEveryTold_13 : decode cX9_isEveryTold 13 = .ok (.iconst 0, 1) := by decide +kernel
theorem dX9_isEveryTold_14 : decode cX9_isEveryTold 14 = .ok (.ireturn, 1) := by decide +kernel
theorem dX9_isEveryTold_15 : decode cX9_isEveryTold 15 = .ok (.aload_n 3, 1) := by decide +kernel
theorem dX9_isEveryTold_16 : decode cX9_isEveryTold 16 = .ok (.iload_n 2, 1) := by decide +kernel
theorem dX9_isEveryTold_17 : decode cX9_isEveryTold 17 = .ok (.putfield 173, 3) := by decide +kernel
theorem dX9_isEveryTold_20 : decode cX9_isEveryTold 20 = .ok (.iconst 1, 1) := by decide +kernel
theorem dX9_isEveryTold_21 : decode cX9_isEveryTold 21 = .ok (.ireturn, 1) := by decide +kernel
/-! X9_isOrderDone -/
theorem dX9_isOrderDone_0 : decode cX9_isOrderDone 0 = .ok (.aload_n 0, 1) := by decide +kernel
theorem dX9_isOrderDone_1 : decode cX9_isOrderDone 1 = .ok (.getfield 10, 3) := by decide +kernel
theorem dX9_isOrderDone_4 : decode cX9_isOrderDone 4 = .ok (.iload_n 1, 1) := by decide +kernel
theorem dX9_isOrderDone_5 : decode cX9_isOrderDone 5 = .ok (.iconst 0, 1) := by decide +kernel
theorem dX9_isOrderDone_6 : decode cX9_isOrderDone 6 = .ok (.invokevirtual 101, 3) := by decide +kernel
theorem dX9_isOrderDone_9 : decode cX9_isOrderDone 9 = .ok (.istore_n 2, 1) := by decide +kernel
theorem dX9_isOrderDone_10 : decode cX9_isOrderDone 10 = .ok (.aload_n 0, 1) := by decide +kernel
theorem dX9_isOrderDone_11 : decode cX9_isOrderDone 11 = .ok (.getfield 10, 3) := by decide +kernel
theorem dX9_isOrderDone_14 : decode cX9_isOrderDone 14 = .ok (.iload_n 1, 1) := by decide +kernel
theorem dX9_isOrderDone_15 : decode cX9_isOrderDone 15 = .ok (.iconst 1, 1) := by decide +kernel
theorem dX9_isOrderDone_16 : decode cX9_isOrderDone 16 = .ok (.invokevirtual 101, 3) := by decide +kernel
theorem dX9_isOrderDone_19 : decode cX9_isOrderDone 19 = .ok (.istore_n 3, 1) := by decide +kernel
theorem dX9_isOrderDone_20 : decode cX9_isOrderDone 20 = .ok (.aload_n 0, 1) := by decide +kernel
theorem dX9_isOrderDone_21 : decode cX9_isOrderDone 21 = .ok (.getfield 10, 3) := by decide +kernel
theorem dX9_isOrderDone_24 : decode cX9_isOrderDone 24 = .ok (.iload_n 1, 1) := by decide +kernel
theorem dX9_isOrderDone_25 : decode cX9_isOrderDone 25 = .ok (.invokevirtual 97, 3) := by decide +kernel
theorem dX9_isOrderDone_28 : decode cX9_isOrderDone 28 = .ok (.tableswitch 186 3 9 #[44, 71, 77, 87, 131, 138, 145], 44) := by decide +kernel
theorem dX9_isOrderDone_72 : decode cX9_isOrderDone 72 = .ok (.aload_n 0, 1) := by decide +kernel
theorem dX9_isOrderDone_73 : decode cX9_isOrderDone 73 = .ok (.getfield 30, 3) := by decide +kernel
theorem dX9_isOrderDone_76 : decode cX9_isOrderDone 76 = .ok (.iload_n 2, 1) := by decide +kernel
theorem dX9_isOrderDone_77 : decode cX9_isOrderDone 77 = .ok (.iload_n 3, 1) := by decide +kernel
theorem dX9_isOrderDone_78 : decode cX9_isOrderDone 78 = .ok (.aload_n 0, 1) := by decide +kernel
theorem dX9_isOrderDone_79 : decode cX9_isOrderDone 79 = .ok (.getfield 10, 3) := by decide +kernel
theorem dX9_isOrderDone_82 : decode cX9_isOrderDone 82 = .ok (.iload_n 1, 1) := by decide +kernel
theorem dX9_isOrderDone_83 : decode cX9_isOrderDone 83 = .ok (.invokevirtual 105, 3) := by decide +kernel
theorem dX9_isOrderDone_86 : decode cX9_isOrderDone 86 = .ok (.invokevirtual 109, 3) := by decide +kernel
theorem dX9_isOrderDone_89 : decode cX9_isOrderDone 89 = .ok (.iconst (-1), 1) := by decide +kernel
theorem dX9_isOrderDone_90 : decode cX9_isOrderDone 90 = .ok (.if_icmp .eq 7, 3) := by decide +kernel
theorem dX9_isOrderDone_93 : decode cX9_isOrderDone 93 = .ok (.iconst 1, 1) := by decide +kernel
theorem dX9_isOrderDone_94 : decode cX9_isOrderDone 94 = .ok (.goto 4, 3) := by decide +kernel
theorem dX9_isOrderDone_97 : decode cX9_isOrderDone 97 = .ok (.iconst 0, 1) := by decide +kernel
theorem dX9_isOrderDone_98 : decode cX9_isOrderDone 98 = .ok (.ireturn, 1) := by decide +kernel
theorem dX9_isOrderDone_99 : decode cX9_isOrderDone 99 = .ok (.aload_n 0, 1) := by decide +kernel
theorem dX9_isOrderDone_100 : decode cX9_isOrderDone 100 = .ok (.iload_n 2, 1) := by decide +kernel
theorem dX9_isOrderDone_101 : decode cX9_isOrderDone 101 = .ok (.invokevirtual 128, 3) := by decide +kernel
theorem dX9_isOrderDone_104 : decode cX9_isOrderDone 104 = .ok (.ireturn, 1) := by decide +kernel
theorem dX9_isOrderDone_105 : decode cX9_isOrderDone 105 = .ok (.aload_n 0, 1) := by decide +kernel
theorem dX9_isOrderDone_106 : decode cX9_isOrderDone 106 = .ok (.getfield 30, 3) := by decide +kernel
theorem dX9_isOrderDone_109 : decode cX9_isOrderDone 109 = .ok (.iload_n 2, 1) := by decide +kernel
theorem dX9_isOrderDone_110 : decode cX9_isOrderDone 110 = .ok (.invokevirtual 131, 3) := by decide +kernel
theorem dX9_isOrderDone_113 : decode cX9_isOrderDone 113 = .ok (.iconst 1, 1) := by decide +kernel
theorem dX9_isOrderDone_114 : decode cX9_isOrderDone 114 = .ok (.ireturn, 1) := by decide +kernel
theorem dX9_isOrderDone_115 : decode cX9_isOrderDone 115 = .ok (.aload_n 0, 1) := by decide +kernel
theorem dX9_isOrderDone_116 : decode cX9_isOrderDone 116 = .ok (.getfield 30, 3) := by decide +kernel
theorem dX9_isOrderDone_119 : decode cX9_isOrderDone 119 = .ok (.iload_n 2, 1) := by decide +kernel
theorem dX9_isOrderDone_120 : decode cX9_isOrderDone 120 = .ok (.iload_n 3, 1) := by decide +kernel
theorem dX9_isOrderDone_121 : decode cX9_isOrderDone 121 = .ok (.aload_n 0, 1) := by decide +kernel
theorem dX9_isOrderDone_122 : decode cX9_isOrderDone 122 = .ok (.getfield 10, 3) := by decide +kernel
theorem dX9_isOrderDone_125 : decode cX9_isOrderDone 125 = .ok (.iload_n 1, 1) := by decide +kernel
theorem dX9_isOrderDone_126 : decode cX9_isOrderDone 126 = .ok (.iconst 2, 1) := by decide +kernel
theorem dX9_isOrderDone_127 : decode cX9_isOrderDone 127 = .ok (.invokevirtual 101, 3) := by decide +kernel
theorem dX9_isOrderDone_130 : decode cX9_isOrderDone 130 = .ok (.aload_n 0, 1) := by decide +kernel
theorem dX9_isOrderDone_131 : decode cX9_isOrderDone 131 = .ok (.getfield 10, 3) := by decide +kernel
theorem dX9_isOrderDone_134 : decode cX9_isOrderDone 134 = .ok (.iload_n 1, 1) := by decide +kernel
theorem dX9_isOrderDone_135 : decode cX9_isOrderDone 135 = .ok (.iconst 3, 1) := by decide +kernel
theorem dX9_isOrderDone_136 : decode cX9_isOrderDone 136 = .ok (.invokevirtual 101, 3) := by decide +kernel
theorem dX9_isOrderDone_139 : decode cX9_isOrderDone 139 = .ok (.aload_n 0, 1) := by decide +kernel
theorem dX9_isOrderDone_140 : decode cX9_isOrderDone 140 = .ok (.getfield 10, 3) := by decide +kernel
theorem dX9_isOrderDone_143 : decode cX9_isOrderDone 143 = .ok (.iload_n 1, 1) := by decide +kernel
theorem dX9_isOrderDone_144 : decode cX9_isOrderDone 144 = .ok (.invokevirtual 105, 3) := by decide +kernel
theorem dX9_isOrderDone_147 : decode cX9_isOrderDone 147 = .ok (.ifCond .ne 7, 3) := by decide +kernel
theorem dX9_isOrderDone_150 : decode cX9_isOrderDone 150 = .ok (.iconst 1, 1) := by decide +kernel
theorem dX9_isOrderDone_151 : decode cX9_isOrderDone 151 = .ok (.goto 4, 3) := by decide +kernel
theorem dX9_isOrderDone_154 : decode cX9_isOrderDone 154 = .ok (.iconst 0, 1) := by decide +kernel
theorem dX9_isOrderDone_155 : decode cX9_isOrderDone 155 = .ok (.invokevirtual 134, 3) := by decide +kernel
theorem dX9_isOrderDone_158 : decode cX9_isOrderDone 158 = .ok (.ireturn, 1) := by decide +kernel
theorem dX9_isOrderDone_159 : decode cX9_isOrderDone 159 = .ok (.aload_n 0, 1) := by decide +kernel
theorem dX9_isOrderDone_160 : decode cX9_isOrderDone 160 = .ok (.iload_n 2, 1) := by decide +kernel
theorem dX9_isOrderDone_161 : decode cX9_isOrderDone 161 = .ok (.iload_n 3, 1) := by decide +kernel
theorem dX9_isOrderDone_162 : decode cX9_isOrderDone 162 = .ok (.invokevirtual 138, 3) := by decide +kernel
theorem dX9_isOrderDone_165 : decode cX9_isOrderDone 165 = .ok (.ireturn, 1) := by decide +kernel
theorem dX9_isOrderDone_166 : decode cX9_isOrderDone 166 = .ok (.aload_n 0, 1) := by decide +kernel
theorem dX9_isOrderDone_167 : decode cX9_isOrderDone 167 = .ok (.iload_n 2, 1) := by decide +kernel
theorem dX9_isOrderDone_168 : decode cX9_isOrderDone 168 = .ok (.iload_n 3, 1) := by decide +kernel
theorem dX9_isOrderDone_169 : decode cX9_isOrderDone 169 = .ok (.invokevirtual 142, 3) := by decide +kernel
theorem dX9_isOrderDone_172 : decode cX9_isOrderDone 172 = .ok (.ireturn, 1) := by decide +kernel
theorem dX9_isOrderDone_173 : decode cX9_isOrderDone 173 = .ok (.aload_n 0, 1) := by decide +kernel
theorem dX9_isOrderDone_174 : decode cX9_isOrderDone 174 = .ok (.getfield 30, 3) := by decide +kernel
theorem dX9_isOrderDone_177 : decode cX9_isOrderDone 177 = .ok (.getfield 145, 3) := by decide +kernel
theorem dX9_isOrderDone_180 : decode cX9_isOrderDone 180 = .ok (.iload_n 2, 1) := by decide +kernel
theorem dX9_isOrderDone_181 : decode cX9_isOrderDone 181 = .ok (.iadd, 1) := by decide +kernel
theorem dX9_isOrderDone_182 : decode cX9_isOrderDone 182 = .ok (.sipush 9999, 3) := by decide +kernel
theorem dX9_isOrderDone_185 : decode cX9_isOrderDone 185 = .ok (.if_icmp .le 5, 3) := by decide +kernel
theorem dX9_isOrderDone_188 : decode cX9_isOrderDone 188 = .ok (.iconst 0, 1) := by decide +kernel
theorem dX9_isOrderDone_189 : decode cX9_isOrderDone 189 = .ok (.ireturn, 1) := by decide +kernel
theorem dX9_isOrderDone_190 : decode cX9_isOrderDone 190 = .ok (.iconst 0, 1) := by decide +kernel
theorem dX9_isOrderDone_191 : decode cX9_isOrderDone 191 = .ok (.istore 4, 2) := by decide +kernel
theorem dX9_isOrderDone_193 : decode cX9_isOrderDone 193 = .ok (.iload 4, 2) := by decide +kernel
theorem dX9_isOrderDone_195 : decode cX9_isOrderDone 195 = .ok (.iload_n 2, 1) := by decide +kernel
theorem dX9_isOrderDone_196 : decode cX9_isOrderDone 196 = .ok (.if_icmp .ge 16, 3) := by decide +kernel
theorem dX9_isOrderDone_199 : decode cX9_isOrderDone 199 = .ok (.aload_n 0, 1) := by decide +kernel
theorem dX9_isOrderDone_200 : decode cX9_isOrderDone 200 = .ok (.getfield 30, 3) := by decide +kernel
theorem dX9_isOrderDone_203 : decode cX9_isOrderDone 203 = .ok (.invokevirtual 148, 3) := by decide +kernel
theorem dX9_isOrderDone_206 : decode cX9_isOrderDone 206 = .ok (.iinc 4 1, 3) := by decide +kernel
theorem dX9_isOrderDone_209 : decode cX9_isOrderDone 209 = .ok (.goto (-16), 3) := by decide +kernel
theorem dX9_isOrderDone_212 : decode cX9_isOrderDone 212 = .ok (.iconst 1, 1) := by decide +kernel
theorem dX9_isOrderDone_213 : decode cX9_isOrderDone 213 = .ok (.ireturn, 1) := by decide +kernel
theorem dX9_isOrderDone_214 : decode cX9_isOrderDone 214 = .ok (.iconst 0, 1) := by decide +kernel
theorem dX9_isOrderDone_215 : decode cX9_isOrderDone 215 = .ok (.ireturn, 1) := by decide +kernel
/-! X9_isSentAgain -/
theorem dX9_isSentAgain_0 : decode cX9_isSentAgain 0 = .ok (.aload_n 0, 1) := by decide +kernel
theorem dX9_isSentAgain_1 : decode cX9_isSentAgain 1 = .ok (.getfield 30, 3) := by decide +kernel
theorem dX9_isSentAgain_4 : decode cX9_isSentAgain 4 = .ok (.iload_n 1, 1) := by decide +kernel
theorem dX9_isSentAgain_5 : decode cX9_isSentAgain 5 = .ok (.invokevirtual 151, 3) := by decide +kernel
theorem dX9_isSentAgain_8 : decode cX9_isSentAgain 8 = .ok (.astore_n 2, 1) := by decide +kernel
theorem dX9_isSentAgain_9 : decode cX9_isSentAgain 9 = .ok (.aload_n 2, 1) := by decide +kernel
theorem dX9_isSentAgain_10 : decode cX9_isSentAgain 10 = .ok (.ifnull 10, 3) := by decide +kernel
theorem dX9_isSentAgain_13 : decode cX9_isSentAgain 13 = .ok (.aload_n 2, 1) := by decide +kernel
theorem dX9_isSentAgain_14 : decode cX9_isSentAgain 14 = .ok (.getfield 155, 3) := by decide +kernel
theorem dX9_isSentAgain_17 : decode cX9_isSentAgain 17 = .ok (.ifCond .eq 5, 3) := by decide +kernel
theorem dX9_isSentAgain_20 : decode cX9_isSentAgain 20 = .ok (.iconst 0, 1) := by decide +kernel
theorem dX9_isSentAgain_21 : decode cX9_isSentAgain 21 = .ok (.ireturn, 1) := by decide +kernel
theorem dX9_isSentAgain_22 : decode cX9_isSentAgain 22 = .ok (.aload_n 0, 1) := by decide +kernel
theorem dX9_isSentAgain_23 : decode cX9_isSentAgain 23 = .ok (.getfield 30, 3) := by decide +kernel
theorem dX9_isSentAgain_26 : decode cX9_isSentAgain 26 = .ok (.iload_n 1, 1) := by decide +kernel
theorem dX9_isSentAgain_27 : decode cX9_isSentAgain 27 = .ok (.iconst 0, 1) := by decide +kernel
theorem dX9_isSentAgain_28 : decode cX9_isSentAgain 28 = .ok (.invokevirtual 160, 3) := by decide +kernel
theorem dX9_isSentAgain_31 : decode cX9_isSentAgain 31 = .ok (.iconst 1, 1) := by decide +kernel
theorem dX9_isSentAgain_32 : decode cX9_isSentAgain 32 = .ok (.ireturn, 1) := by decide +kernel
/-! X9_isSized -/
theorem dX9_isSized_0 : decode cX9_isSized 0 = .ok (.aload_n 0, 1) := by decide +kernel
theorem dX9_isSized_1 : decode cX9_isSized 1 = .ok (.getfield 30, 3) := by decide +kernel
theorem dX9_isSized_4 : decode cX9_isSized 4 = .ok (.iload_n 1, 1) := by decide +kernel
theorem dX9_isSized_5 : decode cX9_isSized 5 = .ok (.invokevirtual 164, 3) := by decide +kernel
theorem dX9_isSized_8 : decode cX9_isSized 8 = .ok (.astore_n 3, 1) := by decide +kernel
theorem dX9_isSized_9 : decode cX9_isSized 9 = .ok (.aload_n 3, 1) := by decide +kernel
theorem dX9_isSized_10 : decode cX9_isSized 10 = .ok (.ifnonnull 5, 3) := by decide +kernel
theorem dX9_isSized_13 : decode cX9_isSized 13 = .ok (.iconst 0, 1) := by decide +kernel
theorem dX9_isSized_14 : decode cX9_isSized 14 = .ok (.ireturn, 1) := by decide +kernel
theorem dX9_isSized_15 : decode cX9_isSized 15 = .ok (.aload_n 3, 1) := by decide +kernel
theorem dX9_isSized_16 : decode cX9_isSized 16 = .ok (.iload_n 2, 1) := by decide +kernel
theorem dX9_isSized_17 : decode cX9_isSized 17 = .ok (.putfield 168, 3) := by decide +kernel
theorem dX9_isSized_20 : decode cX9_isSized 20 = .ok (.iconst 1, 1) := by decide +kernel
theorem dX9_isSized_21 : decode cX9_isSized 21 = .ok (.ireturn, 1) := by decide +kernel
/-! X9_link -/
theorem dX9_link_0 : decode cX9_link 0 = .ok (.aload_n 0, 1) := by decide +kernel
theorem dX9_link_1 : decode cX9_link 1 = .ok (.iload_n 1, 1) := by decide +kernel
theorem dX9_link_2 : decode cX9_link 2 = .ok (.invokevirtual 221, 3) := by decide +kernel
theorem dX9_link_5 : decode cX9_link 5 = .ok (.astore_n 3, 1) := by decide +kernel
theorem dX9_link_6 : decode cX9_link 6 = .ok (.iload_n 2, 1) := by decide +kernel
theorem dX9_link_7 : decode cX9_link 7 = .ok (.iconst 0, 1) := by decide +kernel
theorem dX9_link_8 : decode cX9_link 8 = .ok (.bipush 8, 2) := by decide +kernel
theorem dX9_link_10 : decode cX9_link 10 = .ok (.invokestatic 76, 3) := by decide +kernel
theorem dX9_link_13 : decode cX9_link 13 = .ok (.iload_n 2, 1) := by decide +kernel
theorem dX9_link_14 : decode cX9_link 14 = .ok (.tableswitch 93 0 7 #[46, 51, 56, 61, 66, 78, 83, 88], 46) := by decide +kernel
theorem dX9_link_60 : decode cX9_link 60 = .ok (.aload_n 3, 1) := by decide +kernel
theorem dX9_link_61 : decode cX9_link 61 = .ok (.getfield 168, 3) := by decide +kernel
theorem dX9_link_64 : decode cX9_link 64 = .ok (.ireturn, 1) := by decide +kernel
theorem dX9_link_65 : decode cX9_link 65 = .ok (.aload_n 3, 1) := by decide +kernel
theorem dX9_link_66 : decode cX9_link 66 = .ok (.getfield 224, 3) := by decide +kernel
theorem dX9_link_69 : decode cX9_link 69 = .ok (.ireturn, 1) := by decide +kernel
theorem dX9_link_70 : decode cX9_link 70 = .ok (.aload_n 3, 1) := by decide +kernel
theorem dX9_link_71 : decode cX9_link 71 = .ok (.getfield 173, 3) := by decide +kernel
theorem dX9_link_74 : decode cX9_link 74 = .ok (.ireturn, 1) := by decide +kernel
theorem dX9_link_75 : decode cX9_link 75 = .ok (.aload_n 3, 1) := by decide +kernel
theorem dX9_link_76 : decode cX9_link 76 = .ok (.getfield 227, 3) := by decide +kernel
theorem dX9_link_79 : decode cX9_link 79 = .ok (.ireturn, 1) := by decide +kernel
theorem dX9_link_80 : decode cX9_link 80 = .ok (.aload_n 0, 1) := by decide +kernel
theorem dX9_link_81 : decode cX9_link 81 = .ok (.getfield 30, 3) := by decide +kernel
theorem dX9_link_84 : decode cX9_link 84 = .ok (.getfield 194, 3) := by decide +kernel
theorem dX9_link_87 : decode cX9_link 87 = .ok (.iload_n 1, 1) := by decide +kernel
theorem dX9_link_88 : decode cX9_link 88 = .ok (.invokevirtual 230, 3) := by decide +kernel
theorem dX9_link_91 : decode cX9_link 91 = .ok (.ireturn, 1) := by decide +kernel
theorem dX9_link_92 : decode cX9_link 92 = .ok (.aload_n 3, 1) := by decide +kernel
theorem dX9_link_93 : decode cX9_link 93 = .ok (.getfield 233, 3) := by decide +kernel
theorem dX9_link_96 : decode cX9_link 96 = .ok (.ireturn, 1) := by decide +kernel
theorem dX9_link_97 : decode cX9_link 97 = .ok (.aload_n 3, 1) := by decide +kernel
theorem dX9_link_98 : decode cX9_link 98 = .ok (.getfield 236, 3) := by decide +kernel
theorem dX9_link_101 : decode cX9_link 101 = .ok (.ireturn, 1) := by decide +kernel
theorem dX9_link_102 : decode cX9_link 102 = .ok (.aload_n 3, 1) := by decide +kernel
theorem dX9_link_103 : decode cX9_link 103 = .ok (.getfield 239, 3) := by decide +kernel
theorem dX9_link_106 : decode cX9_link 106 = .ok (.ireturn, 1) := by decide +kernel
theorem dX9_link_107 : decode cX9_link 107 = .ok (.aload_n 3, 1) := by decide +kernel
theorem dX9_link_108 : decode cX9_link 108 = .ok (.getfield 242, 3) := by decide +kernel
theorem dX9_link_111 : decode cX9_link 111 = .ok (.ireturn, 1) := by decide +kernel
/-! X9_missing -/
theorem dX9_missing_0 : decode cX9_missing 0 = .ok (.aload_n 0, 1) := by decide +kernel
theorem dX9_missing_1 : decode cX9_missing 1 = .ok (.iload_n 1, 1) := by decide +kernel
theorem dX9_missing_2 : decode cX9_missing 2 = .ok (.invokevirtual 245, 3) := by decide +kernel
theorem dX9_missing_5 : decode cX9_missing 5 = .ok (.pop, 1) := by decide +kernel
theorem dX9_missing_6 : decode cX9_missing 6 = .ok (.aload_n 0, 1) := by decide +kernel
theorem dX9_missing_7 : decode cX9_missing 7 = .ok (.getfield 30, 3) := by decide +kernel
theorem dX9_missing_10 : decode cX9_missing 10 = .ok (.iload_n 1, 1) := by decide +kernel
theorem dX9_missing_11 : decode cX9_missing 11 = .ok (.invokevirtual 305, 3) := by decide +kernel
theorem dX9_missing_14 : decode cX9_missing 14 = .ok (.astore_n 2, 1) := by decide +kernel
theorem dX9_missing_15 : decode cX9_missing 15 = .ok (.aload_n 2, 1) := by decide +kernel
theorem dX9_missing_16 : decode cX9_missing 16 = .ok (.ifnonnull 7, 3) := by decide +kernel
theorem dX9_missing_19 : decode cX9_missing 19 = .ok (.iconst (-1), 1) := by decide +kernel
theorem dX9_missing_20 : decode cX9_missing 20 = .ok (.goto 9, 3) := by decide +kernel
theorem dX9_missing_23 : decode cX9_missing 23 = .ok (.aload_n 2, 1) := by decide +kernel
theorem dX9_missing_24 : decode cX9_missing 24 = .ok (.iconst 0, 1) := by decide +kernel
theorem dX9_missing_25 : decode cX9_missing 25 = .ok (.iconst 0, 1) := by decide +kernel
theorem dX9_missing_26 : decode cX9_missing 26 = .ok (.invokevirtual 390, 3) := by decide +kernel
theorem dX9_missing_29 : decode cX9_missing 29 = .ok (.ireturn, 1) := by decide +kernel
/-! X9_needDatagram -/
theorem dX9_needDatagram_0 : decode cX9_needDatagram 0 = .ok (.aload_n 0, 1) := by decide +kernel
theorem dX9_needDatagram_1 : decode cX9_needDatagram 1 = .ok (.getfield 30, 3) := by decide +kernel
theorem dX9_needDatagram_4 : decode cX9_needDatagram 4 = .ok (.iload_n 1, 1) := by decide +kernel
theorem dX9_needDatagram_5 : decode cX9_needDatagram 5 = .ok (.invokevirtual 151, 3) := by decide +kernel
theorem dX9_needDatagram_8 : decode cX9_needDatagram 8 = .ok (.astore_n 2, 1) := by decide +kernel
theorem dX9_needDatagram_9 : decode cX9_needDatagram 9 = .ok (.aload_n 2, 1) := by decide +kernel
theorem dX9_needDatagram_10 : decode cX9_needDatagram 10 = .ok (.ifnonnull 14, 3) := by decide +kernel
theorem dX9_needDatagram_13 : decode cX9_needDatagram 13 = .ok (.new 277, 3) := by decide +kernel
theorem dX9_needDatagram_16 : decode cX9_needDatagram 16 = .ok (.dup, 1) := by decide +kernel
theorem dX9_needDatagram_17 : decode cX9_needDatagram 17 = .ok (.ldc_w 448, 3) := by decide +kernel
theorem dX9_needDatagram_20 : decode cX9_needDatagram 20 = .ok (.invokespecial 281, 3) := by decide +kernel
theorem dX9_needDatagram_23 : decode cX9_needDatagram 23 = .ok (.athrow, 1) := by decide +kernel
theorem dX9_needDatagram_24 : decode cX9_needDatagram 24 = .ok (.aload_n 2, 1) := by decide +kernel
theorem dX9_needDatagram_25 : decode cX9_needDatagram 25 = .ok (.areturn, 1) := by decide +kernel
/-! X9_needLink -/
theorem dX9_needLink_0 : decode cX9_needLink 0 = .ok (.aload_n 0, 1) := by decide +kernel
theorem dX9_needLink_1 : decode cX9_needLink 1 = .ok (.getfield 30, 3) := by decide +kernel
theorem dX9_needLink_4 : decode cX9_needLink 4 = .ok (.iload_n 1, 1) := by decide +kernel
theorem dX9_needLink_5 : decode cX9_needLink 5 = .ok (.invokevirtual 164, 3) := by decide +kernel
theorem dX9_needLink_8 : decode cX9_needLink 8 = .ok (.astore_n 2, 1) := by decide +kernel
theorem dX9_needLink_9 : decode cX9_needLink 9 = .ok (.aload_n 2, 1) := by decide +kernel
theorem dX9_needLink_10 : decode cX9_needLink 10 = .ok (.ifnonnull 14, 3) := by decide +kernel
theorem dX9_needLink_13 : decode cX9_needLink 13 = .ok (.new 277, 3) := by decide +kernel
theorem dX9_needLink_16 : decode cX9_needLink 16 = .ok (.dup, 1) := by decide +kernel
theorem dX9_needLink_17 : decode cX9_needLink 17 = .ok (.ldc_w 446, 3) := by decide +kernel
theorem dX9_needLink_20 : decode cX9_needLink 20 = .ok (.invokespecial 281, 3) := by decide +kernel
theorem dX9_needLink_23 : decode cX9_needLink 23 = .ok (.athrow, 1) := by decide +kernel
theorem dX9_needLink_24 : decode cX9_needLink 24 = .ok (.aload_n 2, 1) := by decide +kernel
theorem dX9_needLink_25 : decode cX9_needLink 25 = .ok (.areturn, 1) := by decide +kernel
/-! X9_needRange -/
theorem dX9_needRange_0 : decode cX9_needRange 0 = .ok (.iload_n 0, 1) := by decide +kernel
theorem dX9_needRange_1 : decode cX9_needRange 1 = .ok (.iload_n 1, 1) := by decide +kernel
theorem dX9_needRange_2 : decode cX9_needRange 2 = .ok (.if_icmp .lt 8, 3) := by decide +kernel
theorem dX9_needRange_5 : decode cX9_needRange 5 = .ok (.iload_n 0, 1) := by decide +kernel
theorem dX9_needRange_6 : decode cX9_needRange 6 = .ok (.iload_n 2, 1) := by decide +kernel
theorem dX9_needRange_7 : decode cX9_needRange 7 = .ok (.if_icmp .le 14, 3) := by decide +kernel
theorem dX9_needRange_10 : decode cX9_needRange 10 = .ok (.new 83, 3) := by decide +kernel
theorem dX9_needRange_13 : decode cX9_needRange 13 = .ok (.dup, 1) := by decide +kernel
theorem dX9_needRange_14 : decode cX9_needRange 14 = .ok (.ldc_w 450, 3) := by decide +kernel
theorem dX9_needRange_17 : decode cX9_needRange 17 = .ok (.invokespecial 87, 3) := by decide +kernel
theorem dX9_needRange_20 : decode cX9_needRange 20 = .ok (.athrow, 1) := by decide +kernel
theorem dX9_needRange_21 : decode cX9_needRange 21 = .ok (.return_, 1) := by decide +kernel
/-! X9_packet -/
theorem dX9_packet_0 : decode cX9_packet 0 = .ok (.aload_n 0, 1) := by decide +kernel
theorem dX9_packet_1 : decode cX9_packet 1 = .ok (.getfield 30, 3) := by decide +kernel
theorem dX9_packet_4 : decode cX9_packet 4 = .ok (.getfield 194, 3) := by decide +kernel
theorem dX9_packet_7 : decode cX9_packet 7 = .ok (.iload_n 1, 1) := by decide +kernel
theorem dX9_packet_8 : decode cX9_packet 8 = .ok (.invokevirtual 274, 3) := by decide +kernel
theorem dX9_packet_11 : decode cX9_packet 11 = .ok (.istore_n 3, 1) := by decide +kernel
theorem dX9_packet_12 : decode cX9_packet 12 = .ok (.iload_n 3, 1) := by decide +kernel
theorem dX9_packet_13 : decode cX9_packet 13 = .ok (.iconst (-1), 1) := by decide +kernel
theorem dX9_packet_14 : decode cX9_packet 14 = .ok (.if_icmp .ne 14, 3) := by decide +kernel
theorem dX9_packet_17 : decode cX9_packet 17 = .ok (.new 277, 3) := by decide +kernel
theorem dX9_packet_20 : decode cX9_packet 20 = .ok (.dup, 1) := by decide +kernel
theorem dX9_packet_21 : decode cX9_packet 21 = .ok (.ldc_w 279, 3) := by decide +kernel
theorem dX9_packet_24 : decode cX9_packet 24 = .ok (.invokespecial 281, 3) := by decide +kernel
theorem dX9_packet_27 : decode cX9_packet 27 = .ok (.athrow, 1) := by decide +kernel
theorem dX9_packet_28 : decode cX9_packet 28 = .ok (.iload_n 2, 1) := by decide +kernel
theorem dX9_packet_29 : decode cX9_packet 29 = .ok (.iconst 0, 1) := by decide +kernel
theorem dX9_packet_30 : decode cX9_packet 30 = .ok (.bipush 6, 2) := by decide +kernel
theorem dX9_packet_32 : decode cX9_packet 32 = .ok (.invokestatic 76, 3) := by decide +kernel
theorem dX9_packet_35 : decode cX9_packet 35 = .ok (.iload_n 2, 1) := by decide +kernel
theorem dX9_packet_36 : decode cX9_packet 36 = .ok (.tableswitch 132 0 5 #[40, 55, 70, 85, 100, 115], 40) := by decide +kernel
theorem dX9_packet_76 : decode cX9_packet 76 = .ok (.aload_n 0, 1) := by decide +kernel
theorem dX9_packet_77 : decode cX9_packet 77 = .ok (.getfield 30, 3) := by decide +kernel
theorem dX9_packet_80 : decode cX9_packet 80 = .ok (.getfield 194, 3) := by decide +kernel
theorem dX9_packet_83 : decode cX9_packet 83 = .ok (.getfield 282, 3) := by decide +kernel
theorem dX9_packet_86 : decode cX9_packet 86 = .ok (.iload_n 3, 1) := by decide +kernel
theorem dX9_packet_87 : decode cX9_packet 87 = .ok (.invokestatic 285, 3) := by decide +kernel
theorem dX9_packet_90 : decode cX9_packet 90 = .ok (.ireturn, 1) := by decide +kernel
theorem dX9_packet_91 : decode cX9_packet 91 = .ok (.aload_n 0, 1) := by decide +kernel
theorem dX9_packet_92 : decode cX9_packet 92 = .ok (.getfield 30, 3) := by decide +kernel
theorem dX9_packet_95 : decode cX9_packet 95 = .ok (.getfield 194, 3) := by decide +kernel
theorem dX9_packet_98 : decode cX9_packet 98 = .ok (.getfield 289, 3) := by decide +kernel
theorem dX9_packet_101 : decode cX9_packet 101 = .ok (.iload_n 3, 1) := by decide +kernel
theorem dX9_packet_102 : decode cX9_packet 102 = .ok (.invokestatic 285, 3) := by decide +kernel
theorem dX9_packet_105 : decode cX9_packet 105 = .ok (.ireturn, 1) := by decide +kernel
theorem dX9_packet_106 : decode cX9_packet 106 = .ok (.aload_n 0, 1) := by decide +kernel
theorem dX9_packet_107 : decode cX9_packet 107 = .ok (.getfield 30, 3) := by decide +kernel
theorem dX9_packet_110 : decode cX9_packet 110 = .ok (.getfield 194, 3) := by decide +kernel
theorem dX9_packet_113 : decode cX9_packet 113 = .ok (.getfield 292, 3) := by decide +kernel
theorem dX9_packet_116 : decode cX9_packet 116 = .ok (.iload_n 3, 1) := by decide +kernel
theorem dX9_packet_117 : decode cX9_packet 117 = .ok (.invokestatic 285, 3) := by decide +kernel
theorem dX9_packet_120 : decode cX9_packet 120 = .ok (.ireturn, 1) := by decide +kernel
theorem dX9_packet_121 : decode cX9_packet 121 = .ok (.aload_n 0, 1) := by decide +kernel
theorem dX9_packet_122 : decode cX9_packet 122 = .ok (.getfield 30, 3) := by decide +kernel
theorem dX9_packet_125 : decode cX9_packet 125 = .ok (.getfield 194, 3) := by decide +kernel
theorem dX9_packet_128 : decode cX9_packet 128 = .ok (.getfield 295, 3) := by decide +kernel
theorem dX9_packet_131 : decode cX9_packet 131 = .ok (.iload_n 3, 1) := by decide +kernel
theorem dX9_packet_132 : decode cX9_packet 132 = .ok (.invokestatic 285, 3) := by decide +kernel
theorem dX9_packet_135 : decode cX9_packet 135 = .ok (.ireturn, 1) := by decide +kernel
theorem dX9_packet_136 : decode cX9_packet 136 = .ok (.aload_n 0, 1) := by decide +kernel
theorem dX9_packet_137 : decode cX9_packet 137 = .ok (.getfield 30, 3) := by decide +kernel
theorem dX9_packet_140 : decode cX9_packet 140 = .ok (.getfield 194, 3) := by decide +kernel
theorem dX9_packet_143 : decode cX9_packet 143 = .ok (.getfield 298, 3) := by decide +kernel
theorem dX9_packet_146 : decode cX9_packet 146 = .ok (.iload_n 3, 1) := by decide +kernel
theorem dX9_packet_147 : decode cX9_packet 147 = .ok (.invokestatic 285, 3) := by decide +kernel
theorem dX9_packet_150 : decode cX9_packet 150 = .ok (.ireturn, 1) := by decide +kernel
theorem dX9_packet_151 : decode cX9_packet 151 = .ok (.aload_n 0, 1) := by decide +kernel
theorem dX9_packet_152 : decode cX9_packet 152 = .ok (.getfield 30, 3) := by decide +kernel
theorem dX9_packet_155 : decode cX9_packet 155 = .ok (.iload_n 3, 1) := by decide +kernel
theorem dX9_packet_156 : decode cX9_packet 156 = .ok (.invokevirtual 300, 3) := by decide +kernel
theorem dX9_packet_159 : decode cX9_packet 159 = .ok (.ifCond .eq 7, 3) := by decide +kernel
theorem dX9_packet_162 : decode cX9_packet 162 = .ok (.iconst 1, 1) := by decide +kernel
theorem dX9_packet_163 : decode cX9_packet 163 = .ok (.goto 4, 3) := by decide +kernel
theorem dX9_packet_166 : decode cX9_packet 166 = .ok (.iconst 0, 1) := by decide +kernel
theorem dX9_packet_167 : decode cX9_packet 167 = .ok (.ireturn, 1) := by decide +kernel
theorem dX9_packet_168 : decode cX9_packet 168 = .ok (.aload_n 0, 1) := by decide +kernel
theorem dX9_packet_169 : decode cX9_packet 169 = .ok (.getfield 30, 3) := by decide +kernel
theorem dX9_packet_172 : decode cX9_packet 172 = .ok (.aload_n 0, 1) := by decide +kernel
theorem dX9_packet_173 : decode cX9_packet 173 = .ok (.getfield 30, 3) := by decide +kernel
theorem dX9_packet_176 : decode cX9_packet 176 = .ok (.getfield 194, 3) := by decide +kernel
theorem dX9_packet_179 : decode cX9_packet 179 = .ok (.getfield 292, 3) := by decide +kernel
theorem dX9_packet_182 : decode cX9_packet 182 = .ok (.iload_n 3, 1) := by decide +kernel
theorem dX9_packet_183 : decode cX9_packet 183 = .ok (.invokestatic 285, 3) := by decide +kernel
theorem dX9_packet_186 : decode cX9_packet 186 = .ok (.invokevirtual 303, 3) := by decide +kernel
theorem dX9_packet_189 : decode cX9_packet 189 = .ok (.ifCond .eq 7, 3) := by decide +kernel
theorem dX9_packet_192 : decode cX9_packet 192 = .ok (.iconst 1, 1) := by decide +kernel
theorem dX9_packet_193 : decode cX9_packet 193 = .ok (.goto 4, 3) := by decide +kernel
theorem dX9_packet_196 : decode cX9_packet 196 = .ok (.iconst 0, 1) := by decide +kernel
theorem dX9_packet_197 : decode cX9_packet 197 = .ok (.ireturn, 1) := by decide +kernel
/-! X9_pass -/
theorem dX9_pass_0 : decode cX9_pass 0 = .ok (.iload_n 1, 1) := by decide +kernel
theorem dX9_pass_1 : decode cX9_pass 1 = .ok (.iconst 1, 1) := by decide +kernel
theorem dX9_pass_2 : decode cX9_pass 2 = .ok (.sipush 500, 3) := by decide +kernel
theorem dX9_pass_5 : decode cX9_pass 5 = .ok (.invokestatic 76, 3) := by decide +kernel
theorem dX9_pass_8 : decode cX9_pass 8 = .ok (.aload_n 0, 1) := by decide +kernel
theorem dX9_pass_9 : decode cX9_pass 9 = .ok (.getfield 30, 3) := by decide +kernel
theorem dX9_pass_12 : decode cX9_pass 12 = .ok (.getfield 145, 3) := by decide +kernel
theorem dX9_pass_15 : decode cX9_pass 15 = .ok (.iload_n 1, 1) := by decide +kernel
theorem dX9_pass_16 : decode cX9_pass 16 = .ok (.iadd, 1) := by decide +kernel
theorem dX9_pass_17 : decode cX9_pass 17 = .ok (.sipush 9999, 3) := by decide +kernel
theorem dX9_pass_20 : decode cX9_pass 20 = .ok (.if_icmp .le 6, 3) := by decide +kernel
theorem dX9_pass_23 : decode cX9_pass 23 = .ok (.bipush (-3), 2) := by decide +kernel
theorem dX9_pass_25 : decode cX9_pass 25 = .ok (.ireturn, 1) := by decide +kernel
theorem dX9_pass_26 : decode cX9_pass 26 = .ok (.aload_n 0, 1) := by decide +kernel
theorem dX9_pass_27 : decode cX9_pass 27 = .ok (.invokevirtual 122, 3) := by decide +kernel
theorem dX9_pass_30 : decode cX9_pass 30 = .ok (.aload_n 0, 1) := by decide +kernel
theorem dX9_pass_31 : decode cX9_pass 31 = .ok (.getfield 30, 3) := by decide +kernel
theorem dX9_pass_34 : decode cX9_pass 34 = .ok (.invokevirtual 218, 3) := by decide +kernel
theorem dX9_pass_37 : decode cX9_pass 37 = .ok (.istore_n 2, 1) := by decide +kernel
theorem dX9_pass_38 : decode cX9_pass 38 = .ok (.iconst 0, 1) := by decide +kernel
theorem dX9_pass_39 : decode cX9_pass 39 = .ok (.istore_n 3, 1) := by decide +kernel
theorem dX9_pass_40 : decode cX9_pass 40 = .ok (.iload_n 3, 1) := by decide +kernel
theorem dX9_pass_41 : decode cX9_pass 41 = .ok (.iload_n 1, 1) := by decide +kernel
theorem dX9_pass_42 : decode cX9_pass 42 = .ok (.if_icmp .ge 16, 3) := by decide +kernel
theorem dX9_pass_45 : decode cX9_pass 45 = .ok (.aload_n 0, 1) := by decide +kernel
theorem dX9_pass_46 : decode cX9_pass 46 = .ok (.getfield 30, 3) := by decide +kernel
theorem dX9_pass_49 : decode cX9_pass 49 = .ok (.invokevirtual 148, 3) := by decide +kernel
theorem dX9_pass_52 : decode cX9_pass 52 = .ok (.iinc 3 1, 3) := by decide +kernel
theorem dX9_pass_55 : decode cX9_pass 55 = .ok (.goto (-15), 3) := by decide +kernel
theorem dX9_pass_58 : decode cX9_pass 58 = .ok (.aload_n 0, 1) := by decide +kernel
theorem dX9_pass_59 : decode cX9_pass 59 = .ok (.getfield 30, 3) := by decide +kernel
theorem dX9_pass_62 : decode cX9_pass 62 = .ok (.invokevirtual 218, 3) := by decide +kernel
theorem dX9_pass_65 : decode cX9_pass 65 = .ok (.iload_n 2, 1) := by decide +kernel
theorem dX9_pass_66 : decode cX9_pass 66 = .ok (.isub, 1) := by decide +kernel
theorem dX9_pass_67 : decode cX9_pass 67 = .ok (.ireturn, 1) := by decide +kernel
/-! X9_pathIn -/
theorem dX9_pathIn_0 : decode cX9_pathIn 0 = .ok (.iload_n 1, 1) := by decide +kernel
theorem dX9_pathIn_1 : decode cX9_pathIn 1 = .ok (.iconst 0, 1) := by decide +kernel
theorem dX9_pathIn_2 : decode cX9_pathIn 2 = .ok (.sipush 600, 3) := by decide +kernel
theorem dX9_pathIn_5 : decode cX9_pathIn 5 = .ok (.invokestatic 76, 3) := by decide +kernel
theorem dX9_pathIn_8 : decode cX9_pathIn 8 = .ok (.aload_n 0, 1) := by decide +kernel
theorem dX9_pathIn_9 : decode cX9_pathIn 9 = .ok (.aload_n 0, 1) := by decide +kernel
theorem dX9_pathIn_10 : decode cX9_pathIn 10 = .ok (.aload_n 0, 1) := by decide +kernel
theorem dX9_pathIn_11 : decode cX9_pathIn 11 = .ok (.getfield 45, 3) := by decide +kernel
theorem dX9_pathIn_14 : decode cX9_pathIn 14 = .ok (.invokevirtual 396, 3) := by decide +kernel
theorem dX9_pathIn_17 : decode cX9_pathIn 17 = .ok (.putfield 45, 3) := by decide +kernel
theorem dX9_pathIn_20 : decode cX9_pathIn 20 = .ok (.aload_n 0, 1) := by decide +kernel
theorem dX9_pathIn_21 : decode cX9_pathIn 21 = .ok (.getfield 45, 3) := by decide +kernel
theorem dX9_pathIn_24 : decode cX9_pathIn 24 = .ok (.iload_n 1, 1) := by decide +kernel
theorem dX9_pathIn_25 : decode cX9_pathIn 25 = .ok (.invokestatic 400, 3) := by decide +kernel
theorem dX9_pathIn_28 : decode cX9_pathIn 28 = .ok (.aload_n 0, 1) := by decide +kernel
theorem dX9_pathIn_29 : decode cX9_pathIn 29 = .ok (.getfield 45, 3) := by decide +kernel
theorem dX9_pathIn_32 : decode cX9_pathIn 32 = .ok (.getfield 185, 3) := by decide +kernel
theorem dX9_pathIn_35 : decode cX9_pathIn 35 = .ok (.ireturn, 1) := by decide +kernel
/-! X9_placeOf -/
theorem dX9_placeOf_0 : decode cX9_placeOf 0 = .ok (.aload_n 0, 1) := by decide +kernel
theorem dX9_placeOf_1 : decode cX9_placeOf 1 = .ok (.getfield 38, 3) := by decide +kernel
theorem dX9_placeOf_4 : decode cX9_placeOf 4 = .ok (.iload_n 1, 1) := by decide +kernel
theorem dX9_placeOf_5 : decode cX9_placeOf 5 = .ok (.iadd, 1) := by decide +kernel
theorem dX9_placeOf_6 : decode cX9_placeOf 6 = .ok (.bipush 8, 2) := by decide +kernel
theorem dX9_placeOf_8 : decode cX9_placeOf 8 = .ok (.invokestatic 443, 3) := by decide +kernel
theorem dX9_placeOf_11 : decode cX9_placeOf 11 = .ok (.ireturn, 1) := by decide +kernel
/-! X9_probe -/
theorem dX9_probe_0 : decode cX9_probe 0 = .ok (.iload_n 1, 1) := by decide +kernel
theorem dX9_probe_1 : decode cX9_probe 1 = .ok (.bipush 28, 2) := by decide +kernel
theorem dX9_probe_3 : decode cX9_probe 3 = .ok (.sipush 1500, 3) := by decide +kernel
theorem dX9_probe_6 : decode cX9_probe 6 = .ok (.invokestatic 76, 3) := by decide +kernel
theorem dX9_probe_9 : decode cX9_probe 9 = .ok (.aload_n 0, 1) := by decide +kernel
theorem dX9_probe_10 : decode cX9_probe 10 = .ok (.invokevirtual 122, 3) := by decide +kernel
theorem dX9_probe_13 : decode cX9_probe 13 = .ok (.aload_n 0, 1) := by decide +kernel
theorem dX9_probe_14 : decode cX9_probe 14 = .ok (.getfield 30, 3) := by decide +kernel
theorem dX9_probe_17 : decode cX9_probe 17 = .ok (.iload_n 1, 1) := by decide +kernel
theorem dX9_probe_18 : decode cX9_probe 18 = .ok (.invokevirtual 131, 3) := by decide +kernel
theorem dX9_probe_21 : decode cX9_probe 21 = .ok (.aload_n 0, 1) := by decide +kernel
theorem dX9_probe_22 : decode cX9_probe 22 = .ok (.getfield 30, 3) := by decide +kernel
theorem dX9_probe_25 : decode cX9_probe 25 = .ok (.getfield 194, 3) := by decide +kernel
theorem dX9_probe_28 : decode cX9_probe 28 = .ok (.getfield 198, 3) := by decide +kernel
theorem dX9_probe_31 : decode cX9_probe 31 = .ok (.ireturn, 1) := by decide +kernel
/-! X9_quietIn -/
theorem dX9_quietIn_0 : decode cX9_quietIn 0 = .ok (.aload_n 0, 1) := by decide +kernel
theorem dX9_quietIn_1 : decode cX9_quietIn 1 = .ok (.iconst 2, 1) := by decide +kernel
theorem dX9_quietIn_2 : decode cX9_quietIn 2 = .ok (.iconst (-1), 1) := by decide +kernel
theorem dX9_quietIn_3 : decode cX9_quietIn 3 = .ok (.invokevirtual 393, 3) := by decide +kernel
theorem dX9_quietIn_6 : decode cX9_quietIn 6 = .ok (.ireturn, 1) := by decide +kernel
/-! X9_readText -/
theorem dX9_readText_0 : decode cX9_readText 0 = .ok (.aload_n 0, 1) := by decide +kernel
theorem dX9_readText_1 : decode cX9_readText 1 = .ok (.getfield 10, 3) := by decide +kernel
theorem dX9_readText_4 : decode cX9_readText 4 = .ok (.iconst 0, 1) := by decide +kernel
theorem dX9_readText_5 : decode cX9_readText 5 = .ok (.invokevirtual 79, 3) := by decide +kernel
theorem dX9_readText_8 : decode cX9_readText 8 = .ok (.ifCond .ne 13, 3) := by decide +kernel
theorem dX9_readText_11 : decode cX9_readText 11 = .ok (.new 83, 3) := by decide +kernel
theorem dX9_readText_14 : decode cX9_readText 14 = .ok (.dup, 1) := by decide +kernel
theorem dX9_readText_15 : decode cX9_readText 15 = .ok (.ldc 85, 2) := by decide +kernel
theorem dX9_readText_17 : decode cX9_readText 17 = .ok (.invokespecial 87, 3) := by decide +kernel
theorem dX9_readText_20 : decode cX9_readText 20 = .ok (.athrow, 1) := by decide +kernel
theorem dX9_readText_21 : decode cX9_readText 21 = .ok (.aload_n 0, 1) := by decide +kernel
theorem dX9_readText_22 : decode cX9_readText 22 = .ok (.getfield 30, 3) := by decide +kernel
theorem dX9_readText_25 : decode cX9_readText 25 = .ok (.invokevirtual 88, 3) := by decide +kernel
theorem dX9_readText_28 : decode cX9_readText 28 = .ok (.iconst 0, 1) := by decide +kernel
theorem dX9_readText_29 : decode cX9_readText 29 = .ok (.istore_n 1, 1) := by decide +kernel
theorem dX9_readText_30 : decode cX9_readText 30 = .ok (.iload_n 1, 1) := by decide +kernel
theorem dX9_readText_31 : decode cX9_readText 31 = .ok (.aload_n 0, 1) := by decide +kernel
theorem dX9_readText_32 : decode cX9_readText 32 = .ok (.getfield 10, 3) := by decide +kernel
theorem dX9_readText_35 : decode cX9_readText 35 = .ok (.getfield 91, 3) := by decide +kernel
theorem dX9_readText_38 : decode cX9_readText 38 = .ok (.if_icmp .ge 14, 3) := by decide +kernel
theorem dX9_readText_41 : decode cX9_readText 41 = .ok (.aload_n 0, 1) := by decide +kernel
theorem dX9_readText_42 : decode cX9_readText 42 = .ok (.iload_n 1, 1) := by decide +kernel
theorem dX9_readText_43 : decode cX9_readText 43 = .ok (.invokevirtual 94, 3) := by decide +kernel
theorem dX9_readText_46 : decode cX9_readText 46 = .ok (.iinc 1 1, 3) := by decide +kernel
theorem dX9_readText_49 : decode cX9_readText 49 = .ok (.goto (-19), 3) := by decide +kernel
theorem dX9_readText_52 : decode cX9_readText 52 = .ok (.aload_n 0, 1) := by decide +kernel
theorem dX9_readText_53 : decode cX9_readText 53 = .ok (.getfield 30, 3) := by decide +kernel
theorem dX9_readText_56 : decode cX9_readText 56 = .ok (.invokevirtual 55, 3) := by decide +kernel
theorem dX9_readText_59 : decode cX9_readText 59 = .ok (.iconst 0, 1) := by decide +kernel
theorem dX9_readText_60 : decode cX9_readText 60 = .ok (.istore_n 1, 1) := by decide +kernel
theorem dX9_readText_61 : decode cX9_readText 61 = .ok (.iload_n 1, 1) := by decide +kernel
theorem dX9_readText_62 : decode cX9_readText 62 = .ok (.aload_n 0, 1) := by decide +kernel
theorem dX9_readText_63 : decode cX9_readText 63 = .ok (.getfield 10, 3) := by decide +kernel
theorem dX9_readText_66 : decode cX9_readText 66 = .ok (.getfield 91, 3) := by decide +kernel
theorem dX9_readText_69 : decode cX9_readText 69 = .ok (.if_icmp .ge 55, 3) := by decide +kernel
theorem dX9_readText_72 : decode cX9_readText 72 = .ok (.aload_n 0, 1) := by decide +kernel
theorem dX9_readText_73 : decode cX9_readText 73 = .ok (.getfield 10, 3) := by decide +kernel
theorem dX9_readText_76 : decode cX9_readText 76 = .ok (.iload_n 1, 1) := by decide +kernel
theorem dX9_readText_77 : decode cX9_readText 77 = .ok (.invokevirtual 97, 3) := by decide +kernel
theorem dX9_readText_80 : decode cX9_readText 80 = .ok (.iconst 3, 1) := by decide +kernel
theorem dX9_readText_81 : decode cX9_readText 81 = .ok (.if_icmp .ne 37, 3) := by decide +kernel
theorem dX9_readText_84 : decode cX9_readText 84 = .ok (.aload_n 0, 1) := by decide +kernel
theorem dX9_readText_85 : decode cX9_readText 85 = .ok (.getfield 30, 3) := by decide +kernel
theorem dX9_readText_88 : decode cX9_readText 88 = .ok (.aload_n 0, 1) := by decide +kernel
theorem dX9_readText_89 : decode cX9_readText 89 = .ok (.getfield 10, 3) := by decide +kernel
theorem dX9_readText_92 : decode cX9_readText 92 = .ok (.iload_n 1, 1) := by decide +kernel
theorem dX9_readText_93 : decode cX9_readText 93 = .ok (.iconst 0, 1) := by decide +kernel
theorem dX9_readText_94 : decode cX9_readText 94 = .ok (.invokevirtual 101, 3) := by decide +kernel
theorem dX9_readText_97 : decode cX9_readText 97 = .ok (.aload_n 0, 1) := by decide +kernel
theorem dX9_readText_98 : decode cX9_readText 98 = .ok (.getfield 10, 3) := by decide +kernel
theorem dX9_readText_101 : decode cX9_readText 101 = .ok (.iload_n 1, 1) := by decide +kernel
theorem dX9_readText_102 : decode cX9_readText 102 = .ok (.iconst 1, 1) := by decide +kernel
theorem dX9_readText_103 : decode cX9_readText 103 = .ok (.invokevirtual 101, 3) := by decide +kernel
theorem dX9_readText_106 : decode cX9_readText 106 = .ok (.aload_n 0, 1) := by decide +kernel
theorem dX9_readText_107 : decode cX9_readText 107 = .ok (.getfield 10, 3) := by decide +kernel
theorem dX9_readText_110 : decode cX9_readText 110 = .ok (.iload_n 1, 1) := by decide +kernel
theorem dX9_readText_111 : decode cX9_readText 111 = .ok (.invokevirtual 105, 3) := by decide +kernel
theorem dX9_readText_114 : decode cX9_readText 114 = .ok (.invokevirtual 109, 3) := by decide +kernel
theorem dX9_readText_117 : decode cX9_readText 117 = .ok (.pop, 1) := by decide +kernel
theorem dX9_readText_118 : decode cX9_readText 118 = .ok (.iinc 1 1, 3) := by decide +kernel
theorem dX9_readText_121 : decode cX9_readText 121 = .ok (.goto (-60), 3) := by decide +kernel
theorem dX9_readText_124 : decode cX9_readText 124 = .ok (.aload_n 0, 1) := by decide +kernel
theorem dX9_readText_125 : decode cX9_readText 125 = .ok (.iconst 0, 1) := by decide +kernel
theorem dX9_readText_126 : decode cX9_readText 126 = .ok (.putfield 42, 3) := by decide +kernel
theorem dX9_readText_129 : decode cX9_readText 129 = .ok (.aload_n 0, 1) := by decide +kernel
theorem dX9_readText_130 : decode cX9_readText 130 = .ok (.getfield 30, 3) := by decide +kernel
theorem dX9_readText_133 : decode cX9_readText 133 = .ok (.getfield 113, 3) := by decide +kernel
theorem dX9_readText_136 : decode cX9_readText 136 = .ok (.ireturn, 1) := by decide +kernel
/-! X9_remember -/
theorem dX9_remember_0 : decode cX9_remember 0 = .ok (.aload_n 0, 1) := by decide +kernel
theorem dX9_remember_1 : decode cX9_remember 1 = .ok (.getfield 42, 3) := by decide +kernel
theorem dX9_remember_4 : decode cX9_remember 4 = .ok (.bipush 8, 2) := by decide +kernel
theorem dX9_remember_6 : decode cX9_remember 6 = .ok (.if_icmp .ne 22, 3) := by decide +kernel
theorem dX9_remember_9 : decode cX9_remember 9 = .ok (.aload_n 0, 1) := by decide +kernel
theorem dX9_remember_10 : decode cX9_remember 10 = .ok (.aload_n 0, 1) := by decide +kernel
theorem dX9_remember_11 : decode cX9_remember 11 = .ok (.iconst 1, 1) := by decide +kernel
theorem dX9_remember_12 : decode cX9_remember 12 = .ok (.invokevirtual 434, 3) := by decide +kernel
theorem dX9_remember_15 : decode cX9_remember 15 = .ok (.putfield 38, 3) := by decide +kernel
theorem dX9_remember_18 : decode cX9_remember 18 = .ok (.aload_n 0, 1) := by decide +kernel
theorem dX9_remember_19 : decode cX9_remember 19 = .ok (.dup, 1) := by decide +kernel
theorem dX9_remember_20 : decode cX9_remember 20 = .ok (.getfield 42, 3) := by decide +kernel
theorem dX9_remember_23 : decode cX9_remember 23 = .ok (.iconst 1, 1) := by decide +kernel
theorem dX9_remember_24 : decode cX9_remember 24 = .ok (.isub, 1) := by decide +kernel
theorem dX9_remember_25 : decode cX9_remember 25 = .ok (.putfield 42, 3) := by decide +kernel
theorem dX9_remember_28 : decode cX9_remember 28 = .ok (.aload_n 0, 1) := by decide +kernel
theorem dX9_remember_29 : decode cX9_remember 29 = .ok (.aload_n 0, 1) := by decide +kernel
theorem dX9_remember_30 : decode cX9_remember 30 = .ok (.getfield 42, 3) := by decide +kernel
theorem dX9_remember_33 : decode cX9_remember 33 = .ok (.invokevirtual 434, 3) := by decide +kernel
theorem dX9_remember_36 : decode cX9_remember 36 = .ok (.istore_n 1, 1) := by decide +kernel
theorem dX9_remember_37 : decode cX9_remember 37 = .ok (.aload_n 0, 1) := by decide +kernel
theorem dX9_remember_38 : decode cX9_remember 38 = .ok (.getfield 34, 3) := by decide +kernel
theorem dX9_remember_41 : decode cX9_remember 41 = .ok (.iload_n 1, 1) := by decide +kernel
theorem dX9_remember_42 : decode cX9_remember 42 = .ok (.aload_n 0, 1) := by decide +kernel
theorem dX9_remember_43 : decode cX9_remember 43 = .ok (.aload_n 0, 1) := by decide +kernel
theorem dX9_remember_44 : decode cX9_remember 44 = .ok (.getfield 34, 3) := by decide +kernel
theorem dX9_remember_47 : decode cX9_remember 47 = .ok (.iload_n 1, 1) := by decide +kernel
theorem dX9_remember_48 : decode cX9_remember 48 = .ok (.aaload, 1) := by decide +kernel
theorem dX9_remember_49 : decode cX9_remember 49 = .ok (.invokevirtual 396, 3) := by decide +kernel
theorem dX9_remember_52 : decode cX9_remember 52 = .ok (.aastore, 1) := by decide +kernel
theorem dX9_remember_53 : decode cX9_remember 53 = .ok (.aload_n 0, 1) := by decide +kernel
theorem dX9_remember_54 : decode cX9_remember 54 = .ok (.dup, 1) := by decide +kernel
theorem dX9_remember_55 : decode cX9_remember 55 = .ok (.getfield 42, 3) := by decide +kernel
theorem dX9_remember_58 : decode cX9_remember 58 = .ok (.iconst 1, 1) := by decide +kernel
theorem dX9_remember_59 : decode cX9_remember 59 = .ok (.iadd, 1) := by decide +kernel
theorem dX9_remember_60 : decode cX9_remember 60 = .ok (.putfield 42, 3) := by decide +kernel
theorem dX9_remember_63 : decode cX9_remember 63 = .ok (.return_, 1) := by decide +kernel
/-! X9_restore -/
theorem dX9_restore_0 : decode cX9_restore 0 = .ok (.aload_n 0, 1) := by decide +kernel
theorem dX9_restore_1 : decode cX9_restore 1 = .ok (.getfield 48, 3) := by decide +kernel
theorem dX9_restore_4 : decode cX9_restore 4 = .ok (.ifnonnull 14, 3) := by decide +kernel
theorem dX9_restore_7 : decode cX9_restore 7 = .ok (.new 62, 3) := by decide +kernel
theorem dX9_restore_10 : decode cX9_restore 10 = .ok (.dup, 1) := by decide +kernel
theorem dX9_restore_11 : decode cX9_restore 11 = .ok (.ldc_w 441, 3) := by decide +kernel
theorem dX9_restore_14 : decode cX9_restore 14 = .ok (.invokespecial 66, 3) := by decide +kernel
theorem dX9_restore_17 : decode cX9_restore 17 = .ok (.athrow, 1) := by decide +kernel
theorem dX9_restore_18 : decode cX9_restore 18 = .ok (.aload_n 0, 1) := by decide +kernel
theorem dX9_restore_19 : decode cX9_restore 19 = .ok (.getfield 30, 3) := by decide +kernel
theorem dX9_restore_22 : decode cX9_restore 22 = .ok (.aload_n 0, 1) := by decide +kernel
theorem dX9_restore_23 : decode cX9_restore 23 = .ok (.getfield 48, 3) := by decide +kernel
theorem dX9_restore_26 : decode cX9_restore 26 = .ok (.invokevirtual 437, 3) := by decide +kernel
theorem dX9_restore_29 : decode cX9_restore 29 = .ok (.aload_n 0, 1) := by decide +kernel
theorem dX9_restore_30 : decode cX9_restore 30 = .ok (.iconst 0, 1) := by decide +kernel
theorem dX9_restore_31 : decode cX9_restore 31 = .ok (.putfield 42, 3) := by decide +kernel
theorem dX9_restore_34 : decode cX9_restore 34 = .ok (.aload_n 0, 1) := by decide +kernel
theorem dX9_restore_35 : decode cX9_restore 35 = .ok (.getfield 30, 3) := by decide +kernel
theorem dX9_restore_38 : decode cX9_restore 38 = .ok (.getfield 145, 3) := by decide +kernel
theorem dX9_restore_41 : decode cX9_restore 41 = .ok (.ireturn, 1) := by decide +kernel
/-! X9_runOrders -/
theorem dX9_runOrders_0 : decode cX9_runOrders 0 = .ok (.aload_n 0, 1) := by decide +kernel
theorem dX9_runOrders_1 : decode cX9_runOrders 1 = .ok (.getfield 10, 3) := by decide +kernel
theorem dX9_runOrders_4 : decode cX9_runOrders 4 = .ok (.iconst 1, 1) := by decide +kernel
theorem dX9_runOrders_5 : decode cX9_runOrders 5 = .ok (.invokevirtual 79, 3) := by decide +kernel
theorem dX9_runOrders_8 : decode cX9_runOrders 8 = .ok (.ifCond .ne 13, 3) := by decide +kernel
theorem dX9_runOrders_11 : decode cX9_runOrders 11 = .ok (.new 83, 3) := by decide +kernel
theorem dX9_runOrders_14 : decode cX9_runOrders 14 = .ok (.dup, 1) := by decide +kernel
theorem dX9_runOrders_15 : decode cX9_runOrders 15 = .ok (.ldc 85, 2) := by decide +kernel
theorem dX9_runOrders_17 : decode cX9_runOrders 17 = .ok (.invokespecial 87, 3) := by decide +kernel
theorem dX9_runOrders_20 : decode cX9_runOrders 20 = .ok (.athrow, 1) := by decide +kernel
theorem dX9_runOrders_21 : decode cX9_runOrders 21 = .ok (.aload_n 0, 1) := by decide +kernel
theorem dX9_runOrders_22 : decode cX9_runOrders 22 = .ok (.invokevirtual 122, 3) := by decide +kernel
theorem dX9_runOrders_25 : decode cX9_runOrders 25 = .ok (.iconst 0, 1) := by decide +kernel
theorem dX9_runOrders_26 : decode cX9_runOrders 26 = .ok (.istore_n 1, 1) := by decide +kernel
theorem dX9_runOrders_27 : decode cX9_runOrders 27 = .ok (.iload_n 1, 1) := by decide +kernel
theorem dX9_runOrders_28 : decode cX9_runOrders 28 = .ok (.aload_n 0, 1) := by decide +kernel
theorem dX9_runOrders_29 : decode cX9_runOrders 29 = .ok (.getfield 10, 3) := by decide +kernel
theorem dX9_runOrders_32 : decode cX9_runOrders 32 = .ok (.getfield 91, 3) := by decide +kernel
theorem dX9_runOrders_35 : decode cX9_runOrders 35 = .ok (.if_icmp .ge 17, 3) := by decide +kernel
theorem dX9_runOrders_38 : decode cX9_runOrders 38 = .ok (.aload_n 0, 1) := by decide +kernel
theorem dX9_runOrders_39 : decode cX9_runOrders 39 = .ok (.iload_n 1, 1) := by decide +kernel
theorem dX9_runOrders_40 : decode cX9_runOrders 40 = .ok (.invokevirtual 125, 3) := by decide +kernel
theorem dX9_runOrders_43 : decode cX9_runOrders 43 = .ok (.ifCond .eq 9, 3) := by decide +kernel
theorem dX9_runOrders_46 : decode cX9_runOrders 46 = .ok (.iinc 1 1, 3) := by decide +kernel
theorem dX9_runOrders_49 : decode cX9_runOrders 49 = .ok (.goto (-22), 3) := by decide +kernel
theorem dX9_runOrders_52 : decode cX9_runOrders 52 = .ok (.iload_n 1, 1) := by decide +kernel
theorem dX9_runOrders_53 : decode cX9_runOrders 53 = .ok (.ireturn, 1) := by decide +kernel
/-! X9_runTrial -/
theorem dX9_runTrial_0 : decode cX9_runTrial 0 = .ok (.iconst 0, 1) := by decide +kernel
theorem dX9_runTrial_1 : decode cX9_runTrial 1 = .ok (.istore_n 2, 1) := by decide +kernel
theorem dX9_runTrial_2 : decode cX9_runTrial 2 = .ok (.iload_n 2, 1) := by decide +kernel
theorem dX9_runTrial_3 : decode cX9_runTrial 3 = .ok (.iload_n 1, 1) := by decide +kernel
theorem dX9_runTrial_4 : decode cX9_runTrial 4 = .ok (.if_icmp .ge 20, 3) := by decide +kernel
theorem dX9_runTrial_7 : decode cX9_runTrial 7 = .ok (.aload_n 0, 1) := by decide +kernel
theorem dX9_runTrial_8 : decode cX9_runTrial 8 = .ok (.invokevirtual 404, 3) := by decide +kernel
theorem dX9_runTrial_11 : decode cX9_runTrial 11 = .ok (.ifCond .ne 13, 3) := by decide +kernel
theorem dX9_runTrial_14 : decode cX9_runTrial 14 = .ok (.aload_n 0, 1) := by decide +kernel
theorem dX9_runTrial_15 : decode cX9_runTrial 15 = .ok (.invokevirtual 148, 3) := by decide +kernel
theorem dX9_runTrial_18 : decode cX9_runTrial 18 = .ok (.iinc 2 1, 3) := by decide +kernel
theorem dX9_runTrial_21 : decode cX9_runTrial 21 = .ok (.goto (-19), 3) := by decide +kernel
theorem dX9_runTrial_24 : decode cX9_runTrial 24 = .ok (.return_, 1) := by decide +kernel
/-! X9_save -/
theorem dX9_save_0 : decode cX9_save 0 = .ok (.aload_n 0, 1) := by decide +kernel
theorem dX9_save_1 : decode cX9_save 1 = .ok (.aload_n 0, 1) := by decide +kernel
theorem dX9_save_2 : decode cX9_save 2 = .ok (.aload_n 0, 1) := by decide +kernel
theorem dX9_save_3 : decode cX9_save 3 = .ok (.getfield 48, 3) := by decide +kernel
theorem dX9_save_6 : decode cX9_save 6 = .ok (.invokevirtual 396, 3) := by decide +kernel
theorem dX9_save_9 : decode cX9_save 9 = .ok (.putfield 48, 3) := by decide +kernel
theorem dX9_save_12 : decode cX9_save 12 = .ok (.aload_n 0, 1) := by decide +kernel
theorem dX9_save_13 : decode cX9_save 13 = .ok (.getfield 30, 3) := by decide +kernel
theorem dX9_save_16 : decode cX9_save 16 = .ok (.getfield 145, 3) := by decide +kernel
theorem dX9_save_19 : decode cX9_save 19 = .ok (.ireturn, 1) := by decide +kernel
/-! X9_send -/
theorem dX9_send_0 : decode cX9_send 0 = .ok (.iload_n 1, 1) := by decide +kernel
theorem dX9_send_1 : decode cX9_send 1 = .ok (.iconst 1, 1) := by decide +kernel
theorem dX9_send_2 : decode cX9_send 2 = .ok (.sipush 1000, 3) := by decide +kernel
theorem dX9_send_5 : decode cX9_send 5 = .ok (.invokestatic 76, 3) := by decide +kernel
theorem dX9_send_8 : decode cX9_send 8 = .ok (.iload_n 2, 1) := by decide +kernel
theorem dX9_send_9 : decode cX9_send 9 = .ok (.iconst 0, 1) := by decide +kernel
theorem dX9_send_10 : decode cX9_send 10 = .ok (.sipush 255, 3) := by decide +kernel
theorem dX9_send_13 : decode cX9_send 13 = .ok (.invokestatic 76, 3) := by decide +kernel
theorem dX9_send_16 : decode cX9_send 16 = .ok (.aload_n 0, 1) := by decide +kernel
theorem dX9_send_17 : decode cX9_send 17 = .ok (.getfield 30, 3) := by decide +kernel
theorem dX9_send_20 : decode cX9_send 20 = .ok (.getfield 113, 3) := by decide +kernel
theorem dX9_send_23 : decode cX9_send 23 = .ok (.bipush 40, 2) := by decide +kernel
theorem dX9_send_25 : decode cX9_send 25 = .ok (.if_icmp .lt 5, 3) := by decide +kernel
theorem dX9_send_28 : decode cX9_send 28 = .ok (.iconst (-1), 1) := by decide +kernel
theorem dX9_send_29 : decode cX9_send 29 = .ok (.ireturn, 1) := by decide +kernel
theorem dX9_send_30 : decode cX9_send 30 = .ok (.aload_n 0, 1) := by decide +kernel
theorem dX9_send_31 : decode cX9_send 31 = .ok (.invokevirtual 122, 3) := by decide +kernel
theorem dX9_send_34 : decode cX9_send 34 = .ok (.aload_n 0, 1) := by decide +kernel
theorem dX9_send_35 : decode cX9_send 35 = .ok (.getfield 30, 3) := by decide +kernel
theorem dX9_send_38 : decode cX9_send 38 = .ok (.iload_n 1, 1) := by decide +kernel
theorem dX9_send_39 : decode cX9_send 39 = .ok (.iload_n 2, 1) := by decide +kernel
theorem dX9_send_40 : decode cX9_send 40 = .ok (.iload_n 3, 1) := by decide +kernel
theorem dX9_send_41 : decode cX9_send 41 = .ok (.invokevirtual 109, 3) := by decide +kernel
theorem dX9_send_44 : decode cX9_send 44 = .ok (.ireturn, 1) := by decide +kernel
/-! X9_setEvery -/
theorem dX9_setEvery_0 : decode cX9_setEvery 0 = .ok (.aload_n 0, 1) := by decide +kernel
theorem dX9_setEvery_1 : decode cX9_setEvery 1 = .ok (.iload_n 1, 1) := by decide +kernel
theorem dX9_setEvery_2 : decode cX9_setEvery 2 = .ok (.invokevirtual 221, 3) := by decide +kernel
theorem dX9_setEvery_5 : decode cX9_setEvery 5 = .ok (.astore_n 3, 1) := by decide +kernel
theorem dX9_setEvery_6 : decode cX9_setEvery 6 = .ok (.iload_n 2, 1) := by decide +kernel
theorem dX9_setEvery_7 : decode cX9_setEvery 7 = .ok (.iconst 0, 1) := by decide +kernel
theorem dX9_setEvery_8 : decode cX9_setEvery 8 = .ok (.bipush 99, 2) := by decide +kernel
theorem dX9_setEvery_10 : decode cX9_setEvery 10 = .ok (.invokestatic 76, 3) := by decide +kernel
theorem dX9_setEvery_13 : decode cX9_setEvery 13 = .ok (.aload_n 0, 1) := by decide +kernel
theorem dX9_setEvery_14 : decode cX9_setEvery 14 = .ok (.invokevirtual 122, 3) := by decide +kernel
theorem dX9_setEvery_17 : decode cX9_setEvery 17 = .ok (.aload_n 3, 1) := by decide +kernel
theorem dX9_setEvery_18 : decode cX9_setEvery 18 = .ok (.getfield 173, 3) := by decide +kernel
theorem dX9_setEvery_21 : decode cX9_setEvery 21 = .ok (.istore 4, 2) := by decide +kernel
theorem dX9_setEvery_23 : decode cX9_setEvery 23 = .ok (.aload_n 3, 1) := by decide +kernel
theorem dX9_setEvery_24 : decode cX9_setEvery 24 = .ok (.iload_n 2, 1) := by decide +kernel
theorem dX9_setEvery_25 : decode cX9_setEvery 25 = .ok (.putfield 173, 3) := by decide +kernel
theorem dX9_setEvery_28 : decode cX9_setEvery 28 = .ok (.iload 4, 2) := by decide +kernel
theorem dX9_setEvery_30 : decode cX9_setEvery 30 = .ok (.ireturn, 1) := by decide +kernel
/-! X9_setIn -/
theorem dX9_setIn_0 : decode cX9_setIn 0 = .ok (.iload_n 1, 1) := by decide +kernel
theorem dX9_setIn_1 : decode cX9_setIn 1 = .ok (.ifCond .lt 13, 3) := by decide +kernel
theorem dX9_setIn_4 : decode cX9_setIn 4 = .ok (.iload_n 1, 1) := by decide +kernel
theorem dX9_setIn_5 : decode cX9_setIn 5 = .ok (.aload_n 0, 1) := by decide +kernel
theorem dX9_setIn_6 : decode cX9_setIn 6 = .ok (.arraylength, 1) := by decide +kernel
theorem dX9_setIn_7 : decode cX9_setIn 7 = .ok (.if_icmp .ge 7, 3) := by decide +kernel
theorem dX9_setIn_10 : decode cX9_setIn 10 = .ok (.aload_n 0, 1) := by decide +kernel
theorem dX9_setIn_11 : decode cX9_setIn 11 = .ok (.iload_n 1, 1) := by decide +kernel
theorem dX9_setIn_12 : decode cX9_setIn 12 = .ok (.iload_n 2, 1) := by decide +kernel
theorem dX9_setIn_13 : decode cX9_setIn 13 = .ok (.iastore, 1) := by decide +kernel
theorem dX9_setIn_14 : decode cX9_setIn 14 = .ok (.return_, 1) := by decide +kernel
/-! X9_setLife -/
theorem dX9_setLife_0 : decode cX9_setLife 0 = .ok (.iload_n 1, 1) := by decide +kernel
theorem dX9_setLife_1 : decode cX9_setLife 1 = .ok (.iconst 1, 1) := by decide +kernel
theorem dX9_setLife_2 : decode cX9_setLife 2 = .ok (.sipush 200, 3) := by decide +kernel
theorem dX9_setLife_5 : decode cX9_setLife 5 = .ok (.invokestatic 76, 3) := by decide +kernel
theorem dX9_setLife_8 : decode cX9_setLife 8 = .ok (.aload_n 0, 1) := by decide +kernel
theorem dX9_setLife_9 : decode cX9_setLife 9 = .ok (.invokevirtual 122, 3) := by decide +kernel
theorem dX9_setLife_12 : decode cX9_setLife 12 = .ok (.aload_n 0, 1) := by decide +kernel
theorem dX9_setLife_13 : decode cX9_setLife 13 = .ok (.getfield 30, 3) := by decide +kernel
theorem dX9_setLife_16 : decode cX9_setLife 16 = .ok (.getfield 116, 3) := by decide +kernel
theorem dX9_setLife_19 : decode cX9_setLife 19 = .ok (.istore_n 2, 1) := by decide +kernel
theorem dX9_setLife_20 : decode cX9_setLife 20 = .ok (.aload_n 0, 1) := by decide +kernel
theorem dX9_setLife_21 : decode cX9_setLife 21 = .ok (.getfield 30, 3) := by decide +kernel
theorem dX9_setLife_24 : decode cX9_setLife 24 = .ok (.iload_n 1, 1) := by decide +kernel
theorem dX9_setLife_25 : decode cX9_setLife 25 = .ok (.putfield 116, 3) := by decide +kernel
theorem dX9_setLife_28 : decode cX9_setLife 28 = .ok (.iload_n 2, 1) := by decide +kernel
theorem dX9_setLife_29 : decode cX9_setLife 29 = .ok (.ireturn, 1) := by decide +kernel
/-! X9_setPolicy -/
theorem dX9_setPolicy_0 : decode cX9_setPolicy 0 = .ok (.iload_n 1, 1) := by decide +kernel
theorem dX9_setPolicy_1 : decode cX9_setPolicy 1 = .ok (.iconst 0, 1) := by decide +kernel
theorem dX9_setPolicy_2 : decode cX9_setPolicy 2 = .ok (.iconst 2, 1) := by decide +kernel
theorem dX9_setPolicy_3 : decode cX9_setPolicy 3 = .ok (.invokestatic 76, 3) := by decide +kernel
theorem dX9_setPolicy_6 : decode cX9_setPolicy 6 = .ok (.aload_n 0, 1) := by decide +kernel
theorem dX9_setPolicy_7 : decode cX9_setPolicy 7 = .ok (.invokevirtual 122, 3) := by decide +kernel
theorem dX9_setPolicy_10 : decode cX9_setPolicy 10 = .ok (.aload_n 0, 1) := by decide +kernel
theorem dX9_setPolicy_11 : decode cX9_setPolicy 11 = .ok (.getfield 30, 3) := by decide +kernel
theorem dX9_setPolicy_14 : decode cX9_setPolicy 14 = .ok (.getfield 119, 3) := by decide +kernel
theorem dX9_setPolicy_17 : decode cX9_setPolicy 17 = .ok (.istore_n 2, 1) := by decide +kernel
theorem dX9_setPolicy_18 : decode cX9_setPolicy 18 = .ok (.aload_n 0, 1) := by decide +kernel
theorem dX9_setPolicy_19 : decode cX9_setPolicy 19 = .ok (.getfield 30, 3) := by decide +kernel
theorem dX9_setPolicy_22 : decode cX9_setPolicy 22 = .ok (.iload_n 1, 1) := by decide +kernel
theorem dX9_setPolicy_23 : decode cX9_setPolicy 23 = .ok (.putfield 119, 3) := by decide +kernel
theorem dX9_setPolicy_26 : decode cX9_setPolicy 26 = .ok (.iload_n 2, 1) := by decide +kernel
theorem dX9_setPolicy_27 : decode cX9_setPolicy 27 = .ok (.ireturn, 1) := by decide +kernel
/-! X9_setSize -/
theorem dX9_setSize_0 : decode cX9_setSize 0 = .ok (.aload_n 0, 1) := by decide +kernel
theorem dX9_setSize_1 : decode cX9_setSize 1 = .ok (.iload_n 1, 1) := by decide +kernel
theorem dX9_setSize_2 : decode cX9_setSize 2 = .ok (.invokevirtual 221, 3) := by decide +kernel
theorem dX9_setSize_5 : decode cX9_setSize 5 = .ok (.astore_n 3, 1) := by decide +kernel
theorem dX9_setSize_6 : decode cX9_setSize 6 = .ok (.iload_n 2, 1) := by decide +kernel
theorem dX9_setSize_7 : decode cX9_setSize 7 = .ok (.bipush 28, 2) := by decide +kernel
theorem dX9_setSize_9 : decode cX9_setSize 9 = .ok (.sipush 1500, 3) := by decide +kernel
theorem dX9_setSize_12 : decode cX9_setSize 12 = .ok (.invokestatic 76, 3) := by decide +kernel
theorem dX9_setSize_15 : decode cX9_setSize 15 = .ok (.aload_n 0, 1) := by decide +kernel
theorem dX9_setSize_16 : decode cX9_setSize 16 = .ok (.invokevirtual 122, 3) := by decide +kernel
theorem dX9_setSize_19 : decode cX9_setSize 19 = .ok (.aload_n 3, 1) := by decide +kernel
theorem dX9_setSize_20 : decode cX9_setSize 20 = .ok (.getfield 168, 3) := by decide +kernel
theorem dX9_setSize_23 : decode cX9_setSize 23 = .ok (.istore 4, 2) := by decide +kernel
theorem dX9_setSize_25 : decode cX9_setSize 25 = .ok (.aload_n 3, 1) := by decide +kernel
theorem dX9_setSize_26 : decode cX9_setSize 26 = .ok (.iload_n 2, 1) := by decide +kernel
theorem dX9_setSize_27 : decode cX9_setSize 27 = .ok (.putfield 168, 3) := by decide +kernel
theorem dX9_setSize_30 : decode cX9_setSize 30 = .ok (.iload 4, 2) := by decide +kernel
theorem dX9_setSize_32 : decode cX9_setSize 32 = .ok (.ireturn, 1) := by decide +kernel
/-! X9_size -/
theorem dX9_size_0 : decode cX9_size 0 = .ok (.iload_n 1, 1) := by decide +kernel
theorem dX9_size_1 : decode cX9_size 1 = .ok (.iconst 0, 1) := by decide +kernel
theorem dX9_size_2 : decode cX9_size 2 = .ok (.bipush 15, 2) := by decide +kernel
theorem dX9_size_4 : decode cX9_size 4 = .ok (.invokestatic 76, 3) := by decide +kernel
theorem dX9_size_7 : decode cX9_size 7 = .ok (.iload_n 1, 1) := by decide +kernel
theorem dX9_size_8 : decode cX9_size 8 = .ok (.tableswitch 218 0 14 #[76, 84, 92, 100, 108, 116, 124, 132, 140, 151, 173, 184, 192, 201, 209], 76) := by decide +kernel
theorem dX9_size_84 : decode cX9_size 84 = .ok (.aload_n 0, 1) := by decide +kernel
theorem dX9_size_85 : decode cX9_size 85 = .ok (.getfield 30, 3) := by decide +kernel
theorem dX9_size_88 : decode cX9_size 88 = .ok (.getfield 182, 3) := by decide +kernel
theorem dX9_size_91 : decode cX9_size 91 = .ok (.ireturn, 1) := by decide +kernel
theorem dX9_size_92 : decode cX9_size 92 = .ok (.aload_n 0, 1) := by decide +kernel
theorem dX9_size_93 : decode cX9_size 93 = .ok (.getfield 30, 3) := by decide +kernel
theorem dX9_size_96 : decode cX9_size 96 = .ok (.getfield 113, 3) := by decide +kernel
theorem dX9_size_99 : decode cX9_size 99 = .ok (.ireturn, 1) := by decide +kernel
theorem dX9_size_100 : decode cX9_size 100 = .ok (.aload_n 0, 1) := by decide +kernel
theorem dX9_size_101 : decode cX9_size 101 = .ok (.getfield 30, 3) := by decide +kernel
theorem dX9_size_104 : decode cX9_size 104 = .ok (.getfield 145, 3) := by decide +kernel
theorem dX9_size_107 : decode cX9_size 107 = .ok (.ireturn, 1) := by decide +kernel
theorem dX9_size_108 : decode cX9_size 108 = .ok (.aload_n 0, 1) := by decide +kernel
theorem dX9_size_109 : decode cX9_size 109 = .ok (.getfield 30, 3) := by decide +kernel
theorem dX9_size_112 : decode cX9_size 112 = .ok (.getfield 116, 3) := by decide +kernel
theorem dX9_size_115 : decode cX9_size 115 = .ok (.ireturn, 1) := by decide +kernel
theorem dX9_size_116 : decode cX9_size 116 = .ok (.aload_n 0, 1) := by decide +kernel
theorem dX9_size_117 : decode cX9_size 117 = .ok (.getfield 30, 3) := by decide +kernel
theorem dX9_size_120 : decode cX9_size 120 = .ok (.getfield 119, 3) := by decide +kernel
theorem dX9_size_123 : decode cX9_size 123 = .ok (.ireturn, 1) := by decide +kernel
theorem dX9_size_124 : decode cX9_size 124 = .ok (.aload_n 0, 1) := by decide +kernel
theorem dX9_size_125 : decode cX9_size 125 = .ok (.getfield 30, 3) := by decide +kernel
theorem dX9_size_128 : decode cX9_size 128 = .ok (.getfield 185, 3) := by decide +kernel
theorem dX9_size_131 : decode cX9_size 131 = .ok (.ireturn, 1) := by decide +kernel
theorem dX9_size_132 : decode cX9_size 132 = .ok (.aload_n 0, 1) := by decide +kernel
theorem dX9_size_133 : decode cX9_size 133 = .ok (.getfield 30, 3) := by decide +kernel
theorem dX9_size_136 : decode cX9_size 136 = .ok (.getfield 188, 3) := by decide +kernel
theorem dX9_size_139 : decode cX9_size 139 = .ok (.ireturn, 1) := by decide +kernel
theorem dX9_size_140 : decode cX9_size 140 = .ok (.aload_n 0, 1) := by decide +kernel
theorem dX9_size_141 : decode cX9_size 141 = .ok (.getfield 30, 3) := by decide +kernel
theorem dX9_size_144 : decode cX9_size 144 = .ok (.getfield 191, 3) := by decide +kernel
theorem dX9_size_147 : decode cX9_size 147 = .ok (.ireturn, 1) := by decide +kernel
theorem dX9_size_148 : decode cX9_size 148 = .ok (.aload_n 0, 1) := by decide +kernel
theorem dX9_size_149 : decode cX9_size 149 = .ok (.getfield 30, 3) := by decide +kernel
theorem dX9_size_152 : decode cX9_size 152 = .ok (.getfield 194, 3) := by decide +kernel
theorem dX9_size_155 : decode cX9_size 155 = .ok (.getfield 198, 3) := by decide +kernel
theorem dX9_size_158 : decode cX9_size 158 = .ok (.ireturn, 1) := by decide +kernel
theorem dX9_size_159 : decode cX9_size 159 = .ok (.aload_n 0, 1) := by decide +kernel
theorem dX9_size_160 : decode cX9_size 160 = .ok (.getfield 30, 3) := by decide +kernel
theorem dX9_size_163 : decode cX9_size 163 = .ok (.getfield 201, 3) := by decide +kernel
theorem dX9_size_166 : decode cX9_size 166 = .ok (.getfield 205, 3) := by decide +kernel
theorem dX9_size_169 : decode cX9_size 169 = .ok (.aload_n 0, 1) := by decide +kernel
theorem dX9_size_170 : decode cX9_size 170 = .ok (.getfield 30, 3) := by decide +kernel
theorem dX9_size_173 : decode cX9_size 173 = .ok (.getfield 201, 3) := by decide +kernel
theorem dX9_size_176 : decode cX9_size 176 = .ok (.invokevirtual 208, 3) := by decide +kernel
theorem dX9_size_179 : decode cX9_size 179 = .ok (.isub, 1) := by decide +kernel
theorem dX9_size_180 : decode cX9_size 180 = .ok (.ireturn, 1) := by decide +kernel
theorem dX9_size_181 : decode cX9_size 181 = .ok (.aload_n 0, 1) := by decide +kernel
theorem dX9_size_182 : decode cX9_size 182 = .ok (.getfield 30, 3) := by decide +kernel
theorem dX9_size_185 : decode cX9_size 185 = .ok (.getfield 201, 3) := by decide +kernel
theorem dX9_size_188 : decode cX9_size 188 = .ok (.invokevirtual 208, 3) := by decide +kernel
theorem dX9_size_191 : decode cX9_size 191 = .ok (.ireturn, 1) := by decide +kernel
theorem dX9_size_192 : decode cX9_size 192 = .ok (.aload_n 0, 1) := by decide +kernel
theorem dX9_size_193 : decode cX9_size 193 = .ok (.getfield 30, 3) := by decide +kernel
theorem dX9_size_196 : decode cX9_size 196 = .ok (.invokevirtual 212, 3) := by decide +kernel
theorem dX9_size_199 : decode cX9_size 199 = .ok (.ireturn, 1) := by decide +kernel
theorem dX9_size_200 : decode cX9_size 200 = .ok (.aload_n 0, 1) := by decide +kernel
theorem dX9_size_201 : decode cX9_size 201 = .ok (.getfield 30, 3) := by decide +kernel
theorem dX9_size_204 : decode cX9_size 204 = .ok (.iconst 0, 1) := by decide +kernel
theorem dX9_size_205 : decode cX9_size 205 = .ok (.invokevirtual 215, 3) := by decide +kernel
theorem dX9_size_208 : decode cX9_size 208 = .ok (.ireturn, 1) := by decide +kernel
theorem dX9_size_209 : decode cX9_size 209 = .ok (.aload_n 0, 1) := by decide +kernel
theorem dX9_size_210 : decode cX9_size 210 = .ok (.getfield 30, 3) := by decide +kernel
theorem dX9_size_213 : decode cX9_size 213 = .ok (.invokevirtual 218, 3) := by decide +kernel
theorem dX9_size_216 : decode cX9_size 216 = .ok (.ireturn, 1) := by decide +kernel
theorem dX9_size_217 : decode cX9_size 217 = .ok (.aload_n 0, 1) := by decide +kernel
theorem dX9_size_218 : decode cX9_size 218 = .ok (.getfield 30, 3) := by decide +kernel
theorem dX9_size_221 : decode cX9_size 221 = .ok (.iconst 3, 1) := by decide +kernel
theorem dX9_size_222 : decode cX9_size 222 = .ok (.invokevirtual 215, 3) := by decide +kernel
theorem dX9_size_225 : decode cX9_size 225 = .ok (.ireturn, 1) := by decide +kernel
theorem dX9_size_226 : decode cX9_size 226 = .ok (.aload_n 0, 1) := by decide +kernel
theorem dX9_size_227 : decode cX9_size 227 = .ok (.getfield 42, 3) := by decide +kernel
theorem dX9_size_230 : decode cX9_size 230 = .ok (.ireturn, 1) := by decide +kernel
/-! X9_tellStatement -/
theorem dX9_tellStatement_0 : decode cX9_tellStatement 0 = .ok (.aload_n 0, 1) := by decide +kernel
theorem dX9_tellStatement_1 : decode cX9_tellStatement 1 = .ok (.getfield 10, 3) := by decide +kernel
theorem dX9_tellStatement_4 : decode cX9_tellStatement 4 = .ok (.iload_n 1, 1) := by decide +kernel
theorem dX9_tellStatement_5 : decode cX9_tellStatement 5 = .ok (.invokevirtual 97, 3) := by decide +kernel
theorem dX9_tellStatement_8 : decode cX9_tellStatement 8 = .ok (.tableswitch 103 0 2 #[28, 65, 84], 28) := by decide +kernel
theorem dX9_tellStatement_36 : decode cX9_tellStatement 36 = .ok (.aload_n 0, 1) := by decide +kernel
theorem dX9_tellStatement_37 : decode cX9_tellStatement 37 = .ok (.getfield 30, 3) := by decide +kernel
theorem dX9_tellStatement_40 : decode cX9_tellStatement 40 = .ok (.aload_n 0, 1) := by decide +kernel
theorem dX9_tellStatement_41 : decode cX9_tellStatement 41 = .ok (.getfield 10, 3) := by decide +kernel
theorem dX9_tellStatement_44 : decode cX9_tellStatement 44 = .ok (.iload_n 1, 1) := by decide +kernel
theorem dX9_tellStatement_45 : decode cX9_tellStatement 45 = .ok (.iconst 0, 1) := by decide +kernel
theorem dX9_tellStatement_46 : decode cX9_tellStatement 46 = .ok (.invokevirtual 101, 3) := by decide +kernel
theorem dX9_tellStatement_49 : decode cX9_tellStatement 49 = .ok (.aload_n 0, 1) := by decide +kernel
theorem dX9_tellStatement_50 : decode cX9_tellStatement 50 = .ok (.getfield 10, 3) := by decide +kernel
theorem dX9_tellStatement_53 : decode cX9_tellStatement 53 = .ok (.iload_n 1, 1) := by decide +kernel
theorem dX9_tellStatement_54 : decode cX9_tellStatement 54 = .ok (.iconst 1, 1) := by decide +kernel
theorem dX9_tellStatement_55 : decode cX9_tellStatement 55 = .ok (.invokevirtual 101, 3) := by decide +kernel
theorem dX9_tellStatement_58 : decode cX9_tellStatement 58 = .ok (.aload_n 0, 1) := by decide +kernel
theorem dX9_tellStatement_59 : decode cX9_tellStatement 59 = .ok (.getfield 10, 3) := by decide +kernel
theorem dX9_tellStatement_62 : decode cX9_tellStatement 62 = .ok (.iload_n 1, 1) := by decide +kernel
theorem dX9_tellStatement_63 : decode cX9_tellStatement 63 = .ok (.iconst 2, 1) := by decide +kernel
theorem dX9_tellStatement_64 : decode cX9_tellStatement 64 = .ok (.invokevirtual 101, 3) := by decide +kernel
theorem dX9_tellStatement_67 : decode cX9_tellStatement 67 = .ok (.invokevirtual 51, 3) := by decide +kernel
theorem dX9_tellStatement_70 : decode cX9_tellStatement 70 = .ok (.goto 41, 3) := by decide +kernel
theorem dX9_tellStatement_73 : decode cX9_tellStatement 73 = .ok (.aload_n 0, 1) := by decide +kernel
theorem dX9_tellStatement_74 : decode cX9_tellStatement 74 = .ok (.getfield 30, 3) := by decide +kernel
theorem dX9_tellStatement_77 : decode cX9_tellStatement 77 = .ok (.aload_n 0, 1) := by decide +kernel
theorem dX9_tellStatement_78 : decode cX9_tellStatement 78 = .ok (.getfield 10, 3) := by decide +kernel
theorem dX9_tellStatement_81 : decode cX9_tellStatement 81 = .ok (.iload_n 1, 1) := by decide +kernel
theorem dX9_tellStatement_82 : decode cX9_tellStatement 82 = .ok (.iconst 0, 1) := by decide +kernel
theorem dX9_tellStatement_83 : decode cX9_tellStatement 83 = .ok (.invokevirtual 101, 3) := by decide +kernel
theorem dX9_tellStatement_86 : decode cX9_tellStatement 86 = .ok (.putfield 116, 3) := by decide +kernel
theorem dX9_tellStatement_89 : decode cX9_tellStatement 89 = .ok (.goto 22, 3) := by decide +kernel
theorem dX9_tellStatement_92 : decode cX9_tellStatement 92 = .ok (.aload_n 0, 1) := by decide +kernel
theorem dX9_tellStatement_93 : decode cX9_tellStatement 93 = .ok (.getfield 30, 3) := by decide +kernel
theorem dX9_tellStatement_96 : decode cX9_tellStatement 96 = .ok (.aload_n 0, 1) := by decide +kernel
theorem dX9_tellStatement_97 : decode cX9_tellStatement 97 = .ok (.getfield 10, 3) := by decide +kernel
theorem dX9_tellStatement_100 : decode cX9_tellStatement 100 = .ok (.iload_n 1, 1) := by decide +kernel
theorem dX9_tellStatement_101 : decode cX9_tellStatement 101 = .ok (.iconst 0, 1) := by decide +kernel
theorem dX9_tellStatement_102 : decode cX9_tellStatement 102 = .ok (.invokevirtual 101, 3) := by decide +kernel
theorem dX9_tellStatement_105 : decode cX9_tellStatement 105 = .ok (.putfield 119, 3) := by decide +kernel
theorem dX9_tellStatement_108 : decode cX9_tellStatement 108 = .ok (.goto 3, 3) := by decide +kernel
theorem dX9_tellStatement_111 : decode cX9_tellStatement 111 = .ok (.return_, 1) := by decide +kernel
/-! X9_trueShare -/
theorem dX9_trueShare_0 : decode cX9_trueShare 0 = .ok (.aload_n 0, 1) := by decide +kernel
theorem dX9_trueShare_1 : decode cX9_trueShare 1 = .ok (.getfield 30, 3) := by decide +kernel
theorem dX9_trueShare_4 : decode cX9_trueShare 4 = .ok (.invokevirtual 218, 3) := by decide +kernel
theorem dX9_trueShare_7 : decode cX9_trueShare 7 = .ok (.istore_n 1, 1) := by decide +kernel
theorem dX9_trueShare_8 : decode cX9_trueShare 8 = .ok (.iload_n 1, 1) := by decide +kernel
theorem dX9_trueShare_9 : decode cX9_trueShare 9 = .ok (.ifCond .ne 7, 3) := by decide +kernel
theorem dX9_trueShare_12 : decode cX9_trueShare 12 = .ok (.fconst 0, 1) := by decide +kernel
theorem dX9_trueShare_13 : decode cX9_trueShare 13 = .ok (.goto 15, 3) := by decide +kernel
theorem dX9_trueShare_16 : decode cX9_trueShare 16 = .ok (.aload_n 0, 1) := by decide +kernel
theorem dX9_trueShare_17 : decode cX9_trueShare 17 = .ok (.getfield 30, 3) := by decide +kernel
theorem dX9_trueShare_20 : decode cX9_trueShare 20 = .ok (.iconst 1, 1) := by decide +kernel
theorem dX9_trueShare_21 : decode cX9_trueShare 21 = .ok (.invokevirtual 215, 3) := by decide +kernel
theorem dX9_trueShare_24 : decode cX9_trueShare 24 = .ok (.i2f, 1) := by decide +kernel
theorem dX9_trueShare_25 : decode cX9_trueShare 25 = .ok (.iload_n 1, 1) := by decide +kernel
theorem dX9_trueShare_26 : decode cX9_trueShare 26 = .ok (.i2f, 1) := by decide +kernel
theorem dX9_trueShare_27 : decode cX9_trueShare 27 = .ok (.fdiv, 1) := by decide +kernel
theorem dX9_trueShare_28 : decode cX9_trueShare 28 = .ok (.freturn, 1) := by decide +kernel
/-! X9_truncate -/
theorem dX9_truncate_0 : decode cX9_truncate 0 = .ok (.iload_n 1, 1) := by decide +kernel
theorem dX9_truncate_1 : decode cX9_truncate 1 = .ok (.iconst 0, 1) := by decide +kernel
theorem dX9_truncate_2 : decode cX9_truncate 2 = .ok (.aload_n 0, 1) := by decide +kernel
theorem dX9_truncate_3 : decode cX9_truncate 3 = .ok (.getfield 10, 3) := by decide +kernel
theorem dX9_truncate_6 : decode cX9_truncate 6 = .ok (.getfield 73, 3) := by decide +kernel
theorem dX9_truncate_9 : decode cX9_truncate 9 = .ok (.invokestatic 76, 3) := by decide +kernel
theorem dX9_truncate_12 : decode cX9_truncate 12 = .ok (.aload_n 0, 1) := by decide +kernel
theorem dX9_truncate_13 : decode cX9_truncate 13 = .ok (.getfield 10, 3) := by decide +kernel
theorem dX9_truncate_16 : decode cX9_truncate 16 = .ok (.iload_n 1, 1) := by decide +kernel
theorem dX9_truncate_17 : decode cX9_truncate 17 = .ok (.putfield 73, 3) := by decide +kernel
theorem dX9_truncate_20 : decode cX9_truncate 20 = .ok (.iload_n 1, 1) := by decide +kernel
theorem dX9_truncate_21 : decode cX9_truncate 21 = .ok (.ireturn, 1) := by decide +kernel
/-! X9_undo -/
theorem dX9_undo_0 : decode cX9_undo 0 = .ok (.aload_n 0, 1) := by decide +kernel
theorem dX9_undo_1 : decode cX9_undo 1 = .ok (.getfield 42, 3) := by decide +kernel
theorem dX9_undo_4 : decode cX9_undo 4 = .ok (.ifCond .ne 5, 3) := by decide +kernel
theorem dX9_undo_7 : decode cX9_undo 7 = .ok (.iconst (-1), 1) := by decide +kernel
theorem dX9_undo_8 : decode cX9_undo 8 = .ok (.ireturn, 1) := by decide +kernel
theorem dX9_undo_9 : decode cX9_undo 9 = .ok (.aload_n 0, 1) := by decide +kernel
theorem dX9_undo_10 : decode cX9_undo 10 = .ok (.getfield 34, 3) := by decide +kernel
theorem dX9_undo_13 : decode cX9_undo 13 = .ok (.aload_n 0, 1) := by decide +kernel
theorem dX9_undo_14 : decode cX9_undo 14 = .ok (.aload_n 0, 1) := by decide +kernel
theorem dX9_undo_15 : decode cX9_undo 15 = .ok (.getfield 42, 3) := by decide +kernel
theorem dX9_undo_18 : decode cX9_undo 18 = .ok (.iconst 1, 1) := by decide +kernel
theorem dX9_undo_19 : decode cX9_undo 19 = .ok (.isub, 1) := by decide +kernel
theorem dX9_undo_20 : decode cX9_undo 20 = .ok (.invokevirtual 434, 3) := by decide +kernel
theorem dX9_undo_23 : decode cX9_undo 23 = .ok (.aaload, 1) := by decide +kernel
theorem dX9_undo_24 : decode cX9_undo 24 = .ok (.astore_n 1, 1) := by decide +kernel
theorem dX9_undo_25 : decode cX9_undo 25 = .ok (.aload_n 1, 1) := by decide +kernel
theorem dX9_undo_26 : decode cX9_undo 26 = .ok (.ifnonnull 5, 3) := by decide +kernel
theorem dX9_undo_29 : decode cX9_undo 29 = .ok (.iconst (-1), 1) := by decide +kernel
theorem dX9_undo_30 : decode cX9_undo 30 = .ok (.ireturn, 1) := by decide +kernel
theorem dX9_undo_31 : decode cX9_undo 31 = .ok (.aload_n 0, 1) := by decide +kernel
theorem dX9_undo_32 : decode cX9_undo 32 = .ok (.getfield 30, 3) := by decide +kernel
theorem dX9_undo_35 : decode cX9_undo 35 = .ok (.aload_n 1, 1) := by decide +kernel
theorem dX9_undo_36 : decode cX9_undo 36 = .ok (.invokevirtual 437, 3) := by decide +kernel
theorem dX9_undo_39 : decode cX9_undo 39 = .ok (.aload_n 0, 1) := by decide +kernel
theorem dX9_undo_40 : decode cX9_undo 40 = .ok (.dup, 1) := by decide +kernel
theorem dX9_undo_41 : decode cX9_undo 41 = .ok (.getfield 42, 3) := by decide +kernel
theorem dX9_undo_44 : decode cX9_undo 44 = .ok (.iconst 1, 1) := by decide +kernel
theorem dX9_undo_45 : decode cX9_undo 45 = .ok (.isub, 1) := by decide +kernel
theorem dX9_undo_46 : decode cX9_undo 46 = .ok (.putfield 42, 3) := by decide +kernel
theorem dX9_undo_49 : decode cX9_undo 49 = .ok (.aload_n 0, 1) := by decide +kernel
theorem dX9_undo_50 : decode cX9_undo 50 = .ok (.getfield 42, 3) := by decide +kernel
theorem dX9_undo_53 : decode cX9_undo 53 = .ok (.ireturn, 1) := by decide +kernel
/-! X9_valueIn -/
theorem dX9_valueIn_0 : decode cX9_valueIn 0 = .ok (.iload_n 1, 1) := by decide +kernel
theorem dX9_valueIn_1 : decode cX9_valueIn 1 = .ok (.ifCond .lt 15, 3) := by decide +kernel
theorem dX9_valueIn_4 : decode cX9_valueIn 4 = .ok (.iload_n 1, 1) := by decide +kernel
theorem dX9_valueIn_5 : decode cX9_valueIn 5 = .ok (.aload_n 0, 1) := by decide +kernel
theorem dX9_valueIn_6 : decode cX9_valueIn 6 = .ok (.arraylength, 1) := by decide +kernel
theorem dX9_valueIn_7 : decode cX9_valueIn 7 = .ok (.if_icmp .ge 9, 3) := by decide +kernel
theorem dX9_valueIn_10 : decode cX9_valueIn 10 = .ok (.aload_n 0, 1) := by decide +kernel
theorem dX9_valueIn_11 : decode cX9_valueIn 11 = .ok (.iload_n 1, 1) := by decide +kernel
theorem dX9_valueIn_12 : decode cX9_valueIn 12 = .ok (.iaload, 1) := by decide +kernel
theorem dX9_valueIn_13 : decode cX9_valueIn 13 = .ok (.goto 4, 3) := by decide +kernel
theorem dX9_valueIn_16 : decode cX9_valueIn 16 = .ok (.iconst (-1), 1) := by decide +kernel
theorem dX9_valueIn_17 : decode cX9_valueIn 17 = .ok (.ireturn, 1) := by decide +kernel
