def RL : String := "FragmentPathLaw"
abbrev cL_account : ByteArray := method_15_code
def yL_account : MethodName := ⟨RL, "account", "(LFragmentPath;I[J)I"⟩
theorem hd_L_account : yL_account.cls ≠ "java/lang/invoke/MethodHandle" ∧ yL_account.cls ≠ "java/lang/invoke/VarHandle" ∧ (parseMethodDescriptor yL_account.desc).map (fun d => d.parameters.length) = some 3 := by decide +kernel
abbrev cL_again : ByteArray := method_26_code
def yL_again : MethodName := ⟨RL, "again", "(LFragmentPath;I[J)I"⟩
theorem hd_L_again : yL_again.cls ≠ "java/lang/invoke/MethodHandle" ∧ yL_again.cls ≠ "java/lang/invoke/VarHandle" ∧ (parseMethodDescriptor yL_again.desc).map (fun d => d.parameters.length) = some 3 := by decide +kernel
abbrev cL_append : ByteArray := method_3_code
def yL_append : MethodName := ⟨RL, "append", "(LFragmentPath;IIIII[J)I"⟩
theorem hd_L_append : yL_append.cls ≠ "java/lang/invoke/MethodHandle" ∧ yL_append.cls ≠ "java/lang/invoke/VarHandle" ∧ (parseMethodDescriptor yL_append.desc).map (fun d => d.parameters.length) = some 7 := by decide +kernel
abbrev cL_bestLong : ByteArray := method_18_code
def yL_bestLong : MethodName := ⟨RL, "bestLong", "(LFragmentPath;I[J)I"⟩
theorem hd_L_bestLong : yL_bestLong.cls ≠ "java/lang/invoke/MethodHandle" ∧ yL_bestLong.cls ≠ "java/lang/invoke/VarHandle" ∧ (parseMethodDescriptor yL_bestLong.desc).map (fun d => d.parameters.length) = some 3 := by decide +kernel
abbrev cL_burden : ByteArray := method_17_code
def yL_burden : MethodName := ⟨RL, "burden", "(LFragmentPath;I[J)I"⟩
theorem hd_L_burden : yL_burden.cls ≠ "java/lang/invoke/MethodHandle" ∧ yL_burden.cls ≠ "java/lang/invoke/VarHandle" ∧ (parseMethodDescriptor yL_burden.desc).map (fun d => d.parameters.length) = some 3 := by decide +kernel
abbrev cL_datagram : ByteArray := method_9_code
def yL_datagram : MethodName := ⟨RL, "datagram", "(LFragmentPath;II[J)I"⟩
theorem hd_L_datagram : yL_datagram.cls ≠ "java/lang/invoke/MethodHandle" ∧ yL_datagram.cls ≠ "java/lang/invoke/VarHandle" ∧ (parseMethodDescriptor yL_datagram.desc).map (fun d => d.parameters.length) = some 4 := by decide +kernel
abbrev cL_endIn : ByteArray := method_22_code
def yL_endIn : MethodName := ⟨RL, "endIn", "(LFragmentPath;I[J)I"⟩
theorem hd_L_endIn : yL_endIn.cls ≠ "java/lang/invoke/MethodHandle" ∧ yL_endIn.cls ≠ "java/lang/invoke/VarHandle" ∧ (parseMethodDescriptor yL_endIn.desc).map (fun d => d.parameters.length) = some 3 := by decide +kernel
abbrev cL_fills : ByteArray := method_20_code
def yL_fills : MethodName := ⟨RL, "fills", "(LFragmentPath;III[J)I"⟩
theorem hd_L_fills : yL_fills.cls ≠ "java/lang/invoke/MethodHandle" ∧ yL_fills.cls ≠ "java/lang/invoke/VarHandle" ∧ (parseMethodDescriptor yL_fills.desc).map (fun d => d.parameters.length) = some 5 := by decide +kernel
abbrev cL_forge : ByteArray := method_28_code
def yL_forge : MethodName := ⟨RL, "forge", "(LFragmentPath;IIIIZ[J)I"⟩
theorem hd_L_forge : yL_forge.cls ≠ "java/lang/invoke/MethodHandle" ∧ yL_forge.cls ≠ "java/lang/invoke/VarHandle" ∧ (parseMethodDescriptor yL_forge.desc).map (fun d => d.parameters.length) = some 7 := by decide +kernel
abbrev cL_handedBy : ByteArray := method_24_code
def yL_handedBy : MethodName := ⟨RL, "handedBy", "(LFragmentPath;II[J)I"⟩
theorem hd_L_handedBy : yL_handedBy.cls ≠ "java/lang/invoke/MethodHandle" ∧ yL_handedBy.cls ≠ "java/lang/invoke/VarHandle" ∧ (parseMethodDescriptor yL_handedBy.desc).map (fun d => d.parameters.length) = some 4 := by decide +kernel
abbrev cL_handedIn : ByteArray := method_21_code
def yL_handedIn : MethodName := ⟨RL, "handedIn", "(LFragmentPath;I[J)I"⟩
theorem hd_L_handedIn : yL_handedIn.cls ≠ "java/lang/invoke/MethodHandle" ∧ yL_handedIn.cls ≠ "java/lang/invoke/VarHandle" ∧ (parseMethodDescriptor yL_handedIn.desc).map (fun d => d.parameters.length) = some 3 := by decide +kernel
abbrev cL_heap : ByteArray := method_12_code
def yL_heap : MethodName := ⟨RL, "heap", "(LFragmentPath;II[J)I"⟩
theorem hd_L_heap : yL_heap.cls ≠ "java/lang/invoke/MethodHandle" ∧ yL_heap.cls ≠ "java/lang/invoke/VarHandle" ∧ (parseMethodDescriptor yL_heap.desc).map (fun d => d.parameters.length) = some 4 := by decide +kernel
abbrev cL_heapByte : ByteArray := method_14_code
def yL_heapByte : MethodName := ⟨RL, "heapByte", "(LFragmentPath;II[J)I"⟩
theorem hd_L_heapByte : yL_heapByte.cls ≠ "java/lang/invoke/MethodHandle" ∧ yL_heapByte.cls ≠ "java/lang/invoke/VarHandle" ∧ (parseMethodDescriptor yL_heapByte.desc).map (fun d => d.parameters.length) = some 4 := by decide +kernel
abbrev cL_hole : ByteArray := method_13_code
def yL_hole : MethodName := ⟨RL, "hole", "(LFragmentPath;III[J)I"⟩
theorem hd_L_hole : yL_hole.cls ≠ "java/lang/invoke/MethodHandle" ∧ yL_hole.cls ≠ "java/lang/invoke/VarHandle" ∧ (parseMethodDescriptor yL_hole.desc).map (fun d => d.parameters.length) = some 5 := by decide +kernel
abbrev cL_link : ByteArray := method_8_code
def yL_link : MethodName := ⟨RL, "link", "(LFragmentPath;II[J)I"⟩
theorem hd_L_link : yL_link.cls ≠ "java/lang/invoke/MethodHandle" ∧ yL_link.cls ≠ "java/lang/invoke/VarHandle" ∧ (parseMethodDescriptor yL_link.desc).map (fun d => d.parameters.length) = some 4 := by decide +kernel
abbrev cL_missing : ByteArray := method_19_code
def yL_missing : MethodName := ⟨RL, "missing", "(LFragmentPath;I[J)I"⟩
theorem hd_L_missing : yL_missing.cls ≠ "java/lang/invoke/MethodHandle" ∧ yL_missing.cls ≠ "java/lang/invoke/VarHandle" ∧ (parseMethodDescriptor yL_missing.desc).map (fun d => d.parameters.length) = some 3 := by decide +kernel
abbrev cL_ownByte : ByteArray := method_10_code
def yL_ownByte : MethodName := ⟨RL, "ownByte", "(LFragmentPath;II[J)I"⟩
theorem hd_L_ownByte : yL_ownByte.cls ≠ "java/lang/invoke/MethodHandle" ∧ yL_ownByte.cls ≠ "java/lang/invoke/VarHandle" ∧ (parseMethodDescriptor yL_ownByte.desc).map (fun d => d.parameters.length) = some 4 := by decide +kernel
abbrev cL_packet : ByteArray := method_11_code
def yL_packet : MethodName := ⟨RL, "packet", "(LFragmentPath;II[J)I"⟩
theorem hd_L_packet : yL_packet.cls ≠ "java/lang/invoke/MethodHandle" ∧ yL_packet.cls ≠ "java/lang/invoke/VarHandle" ∧ (parseMethodDescriptor yL_packet.desc).map (fun d => d.parameters.length) = some 4 := by decide +kernel
abbrev cL_pass : ByteArray := method_33_code
def yL_pass : MethodName := ⟨RL, "pass", "(LFragmentPath;I[J)I"⟩
theorem hd_L_pass : yL_pass.cls ≠ "java/lang/invoke/MethodHandle" ∧ yL_pass.cls ≠ "java/lang/invoke/VarHandle" ∧ (parseMethodDescriptor yL_pass.desc).map (fun d => d.parameters.length) = some 3 := by decide +kernel
abbrev cL_pathIn : ByteArray := method_23_code
def yL_pathIn : MethodName := ⟨RL, "pathIn", "(LFragmentPath;I[J)I"⟩
theorem hd_L_pathIn : yL_pathIn.cls ≠ "java/lang/invoke/MethodHandle" ∧ yL_pathIn.cls ≠ "java/lang/invoke/VarHandle" ∧ (parseMethodDescriptor yL_pathIn.desc).map (fun d => d.parameters.length) = some 3 := by decide +kernel
abbrev cL_pieces : ByteArray := method_16_code
def yL_pieces : MethodName := ⟨RL, "pieces", "(LFragmentPath;II[J)I"⟩
theorem hd_L_pieces : yL_pieces.cls ≠ "java/lang/invoke/MethodHandle" ∧ yL_pieces.cls ≠ "java/lang/invoke/VarHandle" ∧ (parseMethodDescriptor yL_pieces.desc).map (fun d => d.parameters.length) = some 4 := by decide +kernel
abbrev cL_probe : ByteArray := method_27_code
def yL_probe : MethodName := ⟨RL, "probe", "(LFragmentPath;I[J)I"⟩
theorem hd_L_probe : yL_probe.cls ≠ "java/lang/invoke/MethodHandle" ∧ yL_probe.cls ≠ "java/lang/invoke/VarHandle" ∧ (parseMethodDescriptor yL_probe.desc).map (fun d => d.parameters.length) = some 3 := by decide +kernel
abbrev cL_readText : ByteArray := method_5_code
def yL_readText : MethodName := ⟨RL, "readText", "(LFragmentPath;[J)I"⟩
theorem hd_L_readText : yL_readText.cls ≠ "java/lang/invoke/MethodHandle" ∧ yL_readText.cls ≠ "java/lang/invoke/VarHandle" ∧ (parseMethodDescriptor yL_readText.desc).map (fun d => d.parameters.length) = some 2 := by decide +kernel
abbrev cL_restore : ByteArray := method_35_code
def yL_restore : MethodName := ⟨RL, "restore", "(LFragmentPath;[J)I"⟩
theorem hd_L_restore : yL_restore.cls ≠ "java/lang/invoke/MethodHandle" ∧ yL_restore.cls ≠ "java/lang/invoke/VarHandle" ∧ (parseMethodDescriptor yL_restore.desc).map (fun d => d.parameters.length) = some 2 := by decide +kernel
abbrev cL_runOrders : ByteArray := method_6_code
def yL_runOrders : MethodName := ⟨RL, "runOrders", "(LFragmentPath;[J)I"⟩
theorem hd_L_runOrders : yL_runOrders.cls ≠ "java/lang/invoke/MethodHandle" ∧ yL_runOrders.cls ≠ "java/lang/invoke/VarHandle" ∧ (parseMethodDescriptor yL_runOrders.desc).map (fun d => d.parameters.length) = some 2 := by decide +kernel
abbrev cL_send : ByteArray := method_25_code
def yL_send : MethodName := ⟨RL, "send", "(LFragmentPath;IIZ[J)I"⟩
theorem hd_L_send : yL_send.cls ≠ "java/lang/invoke/MethodHandle" ∧ yL_send.cls ≠ "java/lang/invoke/VarHandle" ∧ (parseMethodDescriptor yL_send.desc).map (fun d => d.parameters.length) = some 5 := by decide +kernel
abbrev cL_setEvery : ByteArray := method_30_code
def yL_setEvery : MethodName := ⟨RL, "setEvery", "(LFragmentPath;II[J)I"⟩
theorem hd_L_setEvery : yL_setEvery.cls ≠ "java/lang/invoke/MethodHandle" ∧ yL_setEvery.cls ≠ "java/lang/invoke/VarHandle" ∧ (parseMethodDescriptor yL_setEvery.desc).map (fun d => d.parameters.length) = some 4 := by decide +kernel
abbrev cL_setLife : ByteArray := method_31_code
def yL_setLife : MethodName := ⟨RL, "setLife", "(LFragmentPath;I[J)I"⟩
theorem hd_L_setLife : yL_setLife.cls ≠ "java/lang/invoke/MethodHandle" ∧ yL_setLife.cls ≠ "java/lang/invoke/VarHandle" ∧ (parseMethodDescriptor yL_setLife.desc).map (fun d => d.parameters.length) = some 3 := by decide +kernel
abbrev cL_setPolicy : ByteArray := method_32_code
def yL_setPolicy : MethodName := ⟨RL, "setPolicy", "(LFragmentPath;I[J)I"⟩
theorem hd_L_setPolicy : yL_setPolicy.cls ≠ "java/lang/invoke/MethodHandle" ∧ yL_setPolicy.cls ≠ "java/lang/invoke/VarHandle" ∧ (parseMethodDescriptor yL_setPolicy.desc).map (fun d => d.parameters.length) = some 3 := by decide +kernel
abbrev cL_setSize : ByteArray := method_29_code
def yL_setSize : MethodName := ⟨RL, "setSize", "(LFragmentPath;II[J)I"⟩
theorem hd_L_setSize : yL_setSize.cls ≠ "java/lang/invoke/MethodHandle" ∧ yL_setSize.cls ≠ "java/lang/invoke/VarHandle" ∧ (parseMethodDescriptor yL_setSize.desc).map (fun d => d.parameters.length) = some 4 := by decide +kernel
abbrev cL_size : ByteArray := method_7_code
def yL_size : MethodName := ⟨RL, "size", "(LFragmentPath;I[J)I"⟩
theorem hd_L_size : yL_size.cls ≠ "java/lang/invoke/MethodHandle" ∧ yL_size.cls ≠ "java/lang/invoke/VarHandle" ∧ (parseMethodDescriptor yL_size.desc).map (fun d => d.parameters.length) = some 3 := by decide +kernel
abbrev cL_truncate : ByteArray := method_4_code
def yL_truncate : MethodName := ⟨RL, "truncate", "(LFragmentPath;I[J)I"⟩
theorem hd_L_truncate : yL_truncate.cls ≠ "java/lang/invoke/MethodHandle" ∧ yL_truncate.cls ≠ "java/lang/invoke/VarHandle" ∧ (parseMethodDescriptor yL_truncate.desc).map (fun d => d.parameters.length) = some 3 := by decide +kernel
abbrev cL_writeHeap : ByteArray := method_34_code
def yL_writeHeap : MethodName := ⟨RL, "writeHeap", "(LFragmentPath;I[J)I"⟩
theorem hd_L_writeHeap : yL_writeHeap.cls ≠ "java/lang/invoke/MethodHandle" ∧ yL_writeHeap.cls ≠ "java/lang/invoke/VarHandle" ∧ (parseMethodDescriptor yL_writeHeap.desc).map (fun d => d.parameters.length) = some 3 := by decide +kernel
/-! L_account -/
theorem dL_account_0 : decode cL_account 0 = .ok (.aload_n 2, 1) := by decide +kernel
theorem dL_account_1 : decode cL_account 1 = .ok (.iconst 0, 1) := by decide +kernel
theorem dL_account_2 : decode cL_account 2 = .ok (.aload_n 0, 1) := by decide +kernel
theorem dL_account_3 : decode cL_account 3 = .ok (.iload_n 1, 1) := by decide +kernel
theorem dL_account_4 : decode cL_account 4 = .ok (.invokevirtual 56, 3) := by decide +kernel
theorem dL_account_7 : decode cL_account 7 = .ok (.i2l, 1) := by decide +kernel
theorem dL_account_8 : decode cL_account 8 = .ok (.lastore, 1) := by decide +kernel
theorem dL_account_9 : decode cL_account 9 = .ok (.goto 6, 3) := by decide +kernel
theorem dL_account_12 : decode cL_account 12 = .ok (.astore_n 3, 1) := by decide +kernel
theorem dL_account_13 : decode cL_account 13 = .ok (.iconst 1, 1) := by decide +kernel
theorem dL_account_14 : decode cL_account 14 = .ok (.ireturn, 1) := by decide +kernel
theorem dL_account_15 : decode cL_account 15 = .ok (.iconst 0, 1) := by decide +kernel
theorem dL_account_16 : decode cL_account 16 = .ok (.ireturn, 1) := by decide +kernel
/-! L_again -/
theorem dL_again_0 : decode cL_again 0 = .ok (.aload_n 2, 1) := by decide +kernel
theorem dL_again_1 : decode cL_again 1 = .ok (.iconst 0, 1) := by decide +kernel
theorem dL_again_2 : decode cL_again 2 = .ok (.aload_n 0, 1) := by decide +kernel
theorem dL_again_3 : decode cL_again 3 = .ok (.iload_n 1, 1) := by decide +kernel
theorem dL_again_4 : decode cL_again 4 = .ok (.invokevirtual 91, 3) := by decide +kernel
theorem dL_again_7 : decode cL_again 7 = .ok (.i2l, 1) := by decide +kernel
theorem dL_again_8 : decode cL_again 8 = .ok (.lastore, 1) := by decide +kernel
theorem dL_again_9 : decode cL_again 9 = .ok (.goto 6, 3) := by decide +kernel
theorem dL_again_12 : decode cL_again 12 = .ok (.astore_n 3, 1) := by decide +kernel
theorem dL_again_13 : decode cL_again 13 = .ok (.iconst 1, 1) := by decide +kernel
theorem dL_again_14 : decode cL_again 14 = .ok (.ireturn, 1) := by decide +kernel
theorem dL_again_15 : decode cL_again 15 = .ok (.iconst 0, 1) := by decide +kernel
theorem dL_again_16 : decode cL_again 16 = .ok (.ireturn, 1) := by decide +kernel
/-! L_append -/
theorem dL_append_0 : decode cL_append 0 = .ok (.aload 6, 2) := by decide +kernel
theorem dL_append_2 : decode cL_append 2 = .ok (.iconst 0, 1) := by decide +kernel
theorem dL_append_3 : decode cL_append 3 = .ok (.aload_n 0, 1) := by decide +kernel
theorem dL_append_4 : decode cL_append 4 = .ok (.iload_n 1, 1) := by decide +kernel
theorem dL_append_5 : decode cL_append 5 = .ok (.iload_n 2, 1) := by decide +kernel
theorem dL_append_6 : decode cL_append 6 = .ok (.iload_n 3, 1) := by decide +kernel
theorem dL_append_7 : decode cL_append 7 = .ok (.iload 4, 2) := by decide +kernel
theorem dL_append_9 : decode cL_append 9 = .ok (.iload 5, 2) := by decide +kernel
theorem dL_append_11 : decode cL_append 11 = .ok (.invokevirtual 7, 3) := by decide +kernel
theorem dL_append_14 : decode cL_append 14 = .ok (.i2l, 1) := by decide +kernel
theorem dL_append_15 : decode cL_append 15 = .ok (.lastore, 1) := by decide +kernel
theorem dL_append_16 : decode cL_append 16 = .ok (.goto 7, 3) := by decide +kernel
theorem dL_append_19 : decode cL_append 19 = .ok (.astore 7, 2) := by decide +kernel
theorem dL_append_21 : decode cL_append 21 = .ok (.iconst 1, 1) := by decide +kernel
theorem dL_append_22 : decode cL_append 22 = .ok (.ireturn, 1) := by decide +kernel
theorem dL_append_23 : decode cL_append 23 = .ok (.iconst 0, 1) := by decide +kernel
theorem dL_append_24 : decode cL_append 24 = .ok (.ireturn, 1) := by decide +kernel
/-! L_bestLong -/
theorem dL_bestLong_0 : decode cL_bestLong 0 = .ok (.aload_n 2, 1) := by decide +kernel
theorem dL_bestLong_1 : decode cL_bestLong 1 = .ok (.iconst 0, 1) := by decide +kernel
theorem dL_bestLong_2 : decode cL_bestLong 2 = .ok (.aload_n 0, 1) := by decide +kernel
theorem dL_bestLong_3 : decode cL_bestLong 3 = .ok (.iload_n 1, 1) := by decide +kernel
theorem dL_bestLong_4 : decode cL_bestLong 4 = .ok (.invokevirtual 65, 3) := by decide +kernel
theorem dL_bestLong_7 : decode cL_bestLong 7 = .ok (.i2l, 1) := by decide +kernel
theorem dL_bestLong_8 : decode cL_bestLong 8 = .ok (.lastore, 1) := by decide +kernel
theorem dL_bestLong_9 : decode cL_bestLong 9 = .ok (.goto 6, 3) := by decide +kernel
theorem dL_bestLong_12 : decode cL_bestLong 12 = .ok (.astore_n 3, 1) := by decide +kernel
theorem dL_bestLong_13 : decode cL_bestLong 13 = .ok (.iconst 1, 1) := by decide +kernel
theorem dL_bestLong_14 : decode cL_bestLong 14 = .ok (.ireturn, 1) := by decide +kernel
theorem dL_bestLong_15 : decode cL_bestLong 15 = .ok (.iconst 0, 1) := by decide +kernel
theorem dL_bestLong_16 : decode cL_bestLong 16 = .ok (.ireturn, 1) := by decide +kernel
/-! L_burden -/
theorem dL_burden_0 : decode cL_burden 0 = .ok (.aload_n 2, 1) := by decide +kernel
theorem dL_burden_1 : decode cL_burden 1 = .ok (.iconst 0, 1) := by decide +kernel
theorem dL_burden_2 : decode cL_burden 2 = .ok (.aload_n 0, 1) := by decide +kernel
theorem dL_burden_3 : decode cL_burden 3 = .ok (.iload_n 1, 1) := by decide +kernel
theorem dL_burden_4 : decode cL_burden 4 = .ok (.invokevirtual 62, 3) := by decide +kernel
theorem dL_burden_7 : decode cL_burden 7 = .ok (.i2l, 1) := by decide +kernel
theorem dL_burden_8 : decode cL_burden 8 = .ok (.lastore, 1) := by decide +kernel
theorem dL_burden_9 : decode cL_burden 9 = .ok (.goto 6, 3) := by decide +kernel
theorem dL_burden_12 : decode cL_burden 12 = .ok (.astore_n 3, 1) := by decide +kernel
theorem dL_burden_13 : decode cL_burden 13 = .ok (.iconst 1, 1) := by decide +kernel
theorem dL_burden_14 : decode cL_burden 14 = .ok (.ireturn, 1) := by decide +kernel
theorem dL_burden_15 : decode cL_burden 15 = .ok (.iconst 0, 1) := by decide +kernel
theorem dL_burden_16 : decode cL_burden 16 = .ok (.ireturn, 1) := by decide +kernel
/-! L_datagram -/
theorem dL_datagram_0 : decode cL_datagram 0 = .ok (.aload_n 3, 1) := by decide +kernel
theorem dL_datagram_1 : decode cL_datagram 1 = .ok (.iconst 0, 1) := by decide +kernel
theorem dL_datagram_2 : decode cL_datagram 2 = .ok (.aload_n 0, 1) := by decide +kernel
theorem dL_datagram_3 : decode cL_datagram 3 = .ok (.iload_n 1, 1) := by decide +kernel
theorem dL_datagram_4 : decode cL_datagram 4 = .ok (.iload_n 2, 1) := by decide +kernel
theorem dL_datagram_5 : decode cL_datagram 5 = .ok (.invokevirtual 37, 3) := by decide +kernel
theorem dL_datagram_8 : decode cL_datagram 8 = .ok (.i2l, 1) := by decide +kernel
theorem dL_datagram_9 : decode cL_datagram 9 = .ok (.lastore, 1) := by decide +kernel
theorem dL_datagram_10 : decode cL_datagram 10 = .ok (.goto 11, 3) := by decide +kernel
theorem dL_datagram_13 : decode cL_datagram 13 = .ok (.astore 4, 2) := by decide +kernel
theorem dL_datagram_15 : decode cL_datagram 15 = .ok (.iconst 1, 1) := by decide +kernel
theorem dL_datagram_16 : decode cL_datagram 16 = .ok (.ireturn, 1) := by decide +kernel
theorem dL_datagram_17 : decode cL_datagram 17 = .ok (.astore 4, 2) := by decide +kernel
theorem dL_datagram_19 : decode cL_datagram 19 = .ok (.iconst 2, 1) := by decide +kernel
theorem dL_datagram_20 : decode cL_datagram 20 = .ok (.ireturn, 1) := by decide +kernel
theorem dL_datagram_21 : decode cL_datagram 21 = .ok (.iconst 0, 1) := by decide +kernel
theorem dL_datagram_22 : decode cL_datagram 22 = .ok (.ireturn, 1) := by decide +kernel
/-! L_endIn -/
theorem dL_endIn_0 : decode cL_endIn 0 = .ok (.aload_n 2, 1) := by decide +kernel
theorem dL_endIn_1 : decode cL_endIn 1 = .ok (.iconst 0, 1) := by decide +kernel
theorem dL_endIn_2 : decode cL_endIn 2 = .ok (.aload_n 0, 1) := by decide +kernel
theorem dL_endIn_3 : decode cL_endIn 3 = .ok (.iload_n 1, 1) := by decide +kernel
theorem dL_endIn_4 : decode cL_endIn 4 = .ok (.invokevirtual 78, 3) := by decide +kernel
theorem dL_endIn_7 : decode cL_endIn 7 = .ok (.i2l, 1) := by decide +kernel
theorem dL_endIn_8 : decode cL_endIn 8 = .ok (.lastore, 1) := by decide +kernel
theorem dL_endIn_9 : decode cL_endIn 9 = .ok (.goto 6, 3) := by decide +kernel
theorem dL_endIn_12 : decode cL_endIn 12 = .ok (.astore_n 3, 1) := by decide +kernel
theorem dL_endIn_13 : decode cL_endIn 13 = .ok (.iconst 1, 1) := by decide +kernel
theorem dL_endIn_14 : decode cL_endIn 14 = .ok (.ireturn, 1) := by decide +kernel
theorem dL_endIn_15 : decode cL_endIn 15 = .ok (.iconst 0, 1) := by decide +kernel
theorem dL_endIn_16 : decode cL_endIn 16 = .ok (.ireturn, 1) := by decide +kernel
/-! L_fills -/
theorem dL_fills_0 : decode cL_fills 0 = .ok (.aload 4, 2) := by decide +kernel
theorem dL_fills_2 : decode cL_fills 2 = .ok (.iconst 0, 1) := by decide +kernel
theorem dL_fills_3 : decode cL_fills 3 = .ok (.aload_n 0, 1) := by decide +kernel
theorem dL_fills_4 : decode cL_fills 4 = .ok (.iload_n 1, 1) := by decide +kernel
theorem dL_fills_5 : decode cL_fills 5 = .ok (.iload_n 2, 1) := by decide +kernel
theorem dL_fills_6 : decode cL_fills 6 = .ok (.iload_n 3, 1) := by decide +kernel
theorem dL_fills_7 : decode cL_fills 7 = .ok (.invokevirtual 71, 3) := by decide +kernel
theorem dL_fills_10 : decode cL_fills 10 = .ok (.ifCond .eq 7, 3) := by decide +kernel
theorem dL_fills_13 : decode cL_fills 13 = .ok (.lconst 1, 1) := by decide +kernel
theorem dL_fills_14 : decode cL_fills 14 = .ok (.goto 4, 3) := by decide +kernel
theorem dL_fills_17 : decode cL_fills 17 = .ok (.lconst 0, 1) := by decide +kernel
theorem dL_fills_18 : decode cL_fills 18 = .ok (.lastore, 1) := by decide +kernel
theorem dL_fills_19 : decode cL_fills 19 = .ok (.goto 11, 3) := by decide +kernel
theorem dL_fills_22 : decode cL_fills 22 = .ok (.astore 5, 2) := by decide +kernel
theorem dL_fills_24 : decode cL_fills 24 = .ok (.iconst 1, 1) := by decide +kernel
theorem dL_fills_25 : decode cL_fills 25 = .ok (.ireturn, 1) := by decide +kernel
theorem dL_fills_26 : decode cL_fills 26 = .ok (.astore 5, 2) := by decide +kernel
theorem dL_fills_28 : decode cL_fills 28 = .ok (.iconst 2, 1) := by decide +kernel
theorem dL_fills_29 : decode cL_fills 29 = .ok (.ireturn, 1) := by decide +kernel
theorem dL_fills_30 : decode cL_fills 30 = .ok (.iconst 0, 1) := by decide +kernel
theorem dL_fills_31 : decode cL_fills 31 = .ok (.ireturn, 1) := by decide +kernel
/-! L_forge -/
theorem dL_forge_0 : decode cL_forge 0 = .ok (.aload 6, 2) := by decide +kernel
theorem dL_forge_2 : decode cL_forge 2 = .ok (.iconst 0, 1) := by decide +kernel
theorem dL_forge_3 : decode cL_forge 3 = .ok (.aload_n 0, 1) := by decide +kernel
theorem dL_forge_4 : decode cL_forge 4 = .ok (.iload_n 1, 1) := by decide +kernel
theorem dL_forge_5 : decode cL_forge 5 = .ok (.iload_n 2, 1) := by decide +kernel
theorem dL_forge_6 : decode cL_forge 6 = .ok (.iload_n 3, 1) := by decide +kernel
theorem dL_forge_7 : decode cL_forge 7 = .ok (.iload 4, 2) := by decide +kernel
theorem dL_forge_9 : decode cL_forge 9 = .ok (.iload 5, 2) := by decide +kernel
theorem dL_forge_11 : decode cL_forge 11 = .ok (.invokevirtual 97, 3) := by decide +kernel
theorem dL_forge_14 : decode cL_forge 14 = .ok (.i2l, 1) := by decide +kernel
theorem dL_forge_15 : decode cL_forge 15 = .ok (.lastore, 1) := by decide +kernel
theorem dL_forge_16 : decode cL_forge 16 = .ok (.goto 11, 3) := by decide +kernel
theorem dL_forge_19 : decode cL_forge 19 = .ok (.astore 7, 2) := by decide +kernel
theorem dL_forge_21 : decode cL_forge 21 = .ok (.iconst 1, 1) := by decide +kernel
theorem dL_forge_22 : decode cL_forge 22 = .ok (.ireturn, 1) := by decide +kernel
theorem dL_forge_23 : decode cL_forge 23 = .ok (.astore 7, 2) := by decide +kernel
theorem dL_forge_25 : decode cL_forge 25 = .ok (.iconst 2, 1) := by decide +kernel
theorem dL_forge_26 : decode cL_forge 26 = .ok (.ireturn, 1) := by decide +kernel
theorem dL_forge_27 : decode cL_forge 27 = .ok (.iconst 0, 1) := by decide +kernel
theorem dL_forge_28 : decode cL_forge 28 = .ok (.ireturn, 1) := by decide +kernel
/-! L_handedBy -/
theorem dL_handedBy_0 : decode cL_handedBy 0 = .ok (.aload_n 3, 1) := by decide +kernel
theorem dL_handedBy_1 : decode cL_handedBy 1 = .ok (.iconst 0, 1) := by decide +kernel
theorem dL_handedBy_2 : decode cL_handedBy 2 = .ok (.aload_n 0, 1) := by decide +kernel
theorem dL_handedBy_3 : decode cL_handedBy 3 = .ok (.iload_n 1, 1) := by decide +kernel
theorem dL_handedBy_4 : decode cL_handedBy 4 = .ok (.iload_n 2, 1) := by decide +kernel
theorem dL_handedBy_5 : decode cL_handedBy 5 = .ok (.invokevirtual 84, 3) := by decide +kernel
theorem dL_handedBy_8 : decode cL_handedBy 8 = .ok (.i2l, 1) := by decide +kernel
theorem dL_handedBy_9 : decode cL_handedBy 9 = .ok (.lastore, 1) := by decide +kernel
theorem dL_handedBy_10 : decode cL_handedBy 10 = .ok (.goto 7, 3) := by decide +kernel
theorem dL_handedBy_13 : decode cL_handedBy 13 = .ok (.astore 4, 2) := by decide +kernel
theorem dL_handedBy_15 : decode cL_handedBy 15 = .ok (.iconst 1, 1) := by decide +kernel
theorem dL_handedBy_16 : decode cL_handedBy 16 = .ok (.ireturn, 1) := by decide +kernel
theorem dL_handedBy_17 : decode cL_handedBy 17 = .ok (.iconst 0, 1) := by decide +kernel
theorem dL_handedBy_18 : decode cL_handedBy 18 = .ok (.ireturn, 1) := by decide +kernel
/-! L_handedIn -/
theorem dL_handedIn_0 : decode cL_handedIn 0 = .ok (.aload_n 2, 1) := by decide +kernel
theorem dL_handedIn_1 : decode cL_handedIn 1 = .ok (.iconst 0, 1) := by decide +kernel
theorem dL_handedIn_2 : decode cL_handedIn 2 = .ok (.aload_n 0, 1) := by decide +kernel
theorem dL_handedIn_3 : decode cL_handedIn 3 = .ok (.iload_n 1, 1) := by decide +kernel
theorem dL_handedIn_4 : decode cL_handedIn 4 = .ok (.invokevirtual 75, 3) := by decide +kernel
theorem dL_handedIn_7 : decode cL_handedIn 7 = .ok (.i2l, 1) := by decide +kernel
theorem dL_handedIn_8 : decode cL_handedIn 8 = .ok (.lastore, 1) := by decide +kernel
theorem dL_handedIn_9 : decode cL_handedIn 9 = .ok (.goto 6, 3) := by decide +kernel
theorem dL_handedIn_12 : decode cL_handedIn 12 = .ok (.astore_n 3, 1) := by decide +kernel
theorem dL_handedIn_13 : decode cL_handedIn 13 = .ok (.iconst 1, 1) := by decide +kernel
theorem dL_handedIn_14 : decode cL_handedIn 14 = .ok (.ireturn, 1) := by decide +kernel
theorem dL_handedIn_15 : decode cL_handedIn 15 = .ok (.iconst 0, 1) := by decide +kernel
theorem dL_handedIn_16 : decode cL_handedIn 16 = .ok (.ireturn, 1) := by decide +kernel
/-! L_heap -/
theorem dL_heap_0 : decode cL_heap 0 = .ok (.aload_n 3, 1) := by decide +kernel
theorem dL_heap_1 : decode cL_heap 1 = .ok (.iconst 0, 1) := by decide +kernel
theorem dL_heap_2 : decode cL_heap 2 = .ok (.aload_n 0, 1) := by decide +kernel
theorem dL_heap_3 : decode cL_heap 3 = .ok (.iload_n 1, 1) := by decide +kernel
theorem dL_heap_4 : decode cL_heap 4 = .ok (.iload_n 2, 1) := by decide +kernel
theorem dL_heap_5 : decode cL_heap 5 = .ok (.invokevirtual 46, 3) := by decide +kernel
theorem dL_heap_8 : decode cL_heap 8 = .ok (.i2l, 1) := by decide +kernel
theorem dL_heap_9 : decode cL_heap 9 = .ok (.lastore, 1) := by decide +kernel
theorem dL_heap_10 : decode cL_heap 10 = .ok (.goto 11, 3) := by decide +kernel
theorem dL_heap_13 : decode cL_heap 13 = .ok (.astore 4, 2) := by decide +kernel
theorem dL_heap_15 : decode cL_heap 15 = .ok (.iconst 1, 1) := by decide +kernel
theorem dL_heap_16 : decode cL_heap 16 = .ok (.ireturn, 1) := by decide +kernel
theorem dL_heap_17 : decode cL_heap 17 = .ok (.astore 4, 2) := by decide +kernel
theorem dL_heap_19 : decode cL_heap 19 = .ok (.iconst 2, 1) := by decide +kernel
theorem dL_heap_20 : decode cL_heap 20 = .ok (.ireturn, 1) := by decide +kernel
theorem dL_heap_21 : decode cL_heap 21 = .ok (.iconst 0, 1) := by decide +kernel
theorem dL_heap_22 : decode cL_heap 22 = .ok (.ireturn, 1) := by decide +kernel
/-! L_heapByte -/
theorem dL_heapByte_0 : decode cL_heapByte 0 = .ok (.aload_n 3, 1) := by decide +kernel
theorem dL_heapByte_1 : decode cL_heapByte 1 = .ok (.iconst 0, 1) := by decide +kernel
theorem dL_heapByte_2 : decode cL_heapByte 2 = .ok (.aload_n 0, 1) := by decide +kernel
theorem dL_heapByte_3 : decode cL_heapByte 3 = .ok (.iload_n 1, 1) := by decide +kernel
theorem dL_heapByte_4 : decode cL_heapByte 4 = .ok (.iload_n 2, 1) := by decide +kernel
theorem dL_heapByte_5 : decode cL_heapByte 5 = .ok (.invokevirtual 53, 3) := by decide +kernel
theorem dL_heapByte_8 : decode cL_heapByte 8 = .ok (.i2l, 1) := by decide +kernel
theorem dL_heapByte_9 : decode cL_heapByte 9 = .ok (.lastore, 1) := by decide +kernel
theorem dL_heapByte_10 : decode cL_heapByte 10 = .ok (.goto 7, 3) := by decide +kernel
theorem dL_heapByte_13 : decode cL_heapByte 13 = .ok (.astore 4, 2) := by decide +kernel
theorem dL_heapByte_15 : decode cL_heapByte 15 = .ok (.iconst 1, 1) := by decide +kernel
theorem dL_heapByte_16 : decode cL_heapByte 16 = .ok (.ireturn, 1) := by decide +kernel
theorem dL_heapByte_17 : decode cL_heapByte 17 = .ok (.iconst 0, 1) := by decide +kernel
theorem dL_heapByte_18 : decode cL_heapByte 18 = .ok (.ireturn, 1) := by decide +kernel
/-! L_hole -/
theorem dL_hole_0 : decode cL_hole 0 = .ok (.aload 4, 2) := by decide +kernel
theorem dL_hole_2 : decode cL_hole 2 = .ok (.iconst 0, 1) := by decide +kernel
theorem dL_hole_3 : decode cL_hole 3 = .ok (.aload_n 0, 1) := by decide +kernel
theorem dL_hole_4 : decode cL_hole 4 = .ok (.iload_n 1, 1) := by decide +kernel
theorem dL_hole_5 : decode cL_hole 5 = .ok (.iload_n 2, 1) := by decide +kernel
theorem dL_hole_6 : decode cL_hole 6 = .ok (.iload_n 3, 1) := by decide +kernel
theorem dL_hole_7 : decode cL_hole 7 = .ok (.invokevirtual 49, 3) := by decide +kernel
theorem dL_hole_10 : decode cL_hole 10 = .ok (.i2l, 1) := by decide +kernel
theorem dL_hole_11 : decode cL_hole 11 = .ok (.lastore, 1) := by decide +kernel
theorem dL_hole_12 : decode cL_hole 12 = .ok (.goto 11, 3) := by decide +kernel
theorem dL_hole_15 : decode cL_hole 15 = .ok (.astore 5, 2) := by decide +kernel
theorem dL_hole_17 : decode cL_hole 17 = .ok (.iconst 1, 1) := by decide +kernel
theorem dL_hole_18 : decode cL_hole 18 = .ok (.ireturn, 1) := by decide +kernel
theorem dL_hole_19 : decode cL_hole 19 = .ok (.astore 5, 2) := by decide +kernel
theorem dL_hole_21 : decode cL_hole 21 = .ok (.iconst 2, 1) := by decide +kernel
theorem dL_hole_22 : decode cL_hole 22 = .ok (.ireturn, 1) := by decide +kernel
theorem dL_hole_23 : decode cL_hole 23 = .ok (.iconst 0, 1) := by decide +kernel
theorem dL_hole_24 : decode cL_hole 24 = .ok (.ireturn, 1) := by decide +kernel
/-! L_link -/
theorem dL_link_0 : decode cL_link 0 = .ok (.aload_n 3, 1) := by decide +kernel
theorem dL_link_1 : decode cL_link 1 = .ok (.iconst 0, 1) := by decide +kernel
theorem dL_link_2 : decode cL_link 2 = .ok (.aload_n 0, 1) := by decide +kernel
theorem dL_link_3 : decode cL_link 3 = .ok (.iload_n 1, 1) := by decide +kernel
theorem dL_link_4 : decode cL_link 4 = .ok (.iload_n 2, 1) := by decide +kernel
theorem dL_link_5 : decode cL_link 5 = .ok (.invokevirtual 31, 3) := by decide +kernel
theorem dL_link_8 : decode cL_link 8 = .ok (.i2l, 1) := by decide +kernel
theorem dL_link_9 : decode cL_link 9 = .ok (.lastore, 1) := by decide +kernel
theorem dL_link_10 : decode cL_link 10 = .ok (.goto 11, 3) := by decide +kernel
theorem dL_link_13 : decode cL_link 13 = .ok (.astore 4, 2) := by decide +kernel
theorem dL_link_15 : decode cL_link 15 = .ok (.iconst 1, 1) := by decide +kernel
theorem dL_link_16 : decode cL_link 16 = .ok (.ireturn, 1) := by decide +kernel
theorem dL_link_17 : decode cL_link 17 = .ok (.astore 4, 2) := by decide +kernel
theorem dL_link_19 : decode cL_link 19 = .ok (.iconst 2, 1) := by decide +kernel
theorem dL_link_20 : decode cL_link 20 = .ok (.ireturn, 1) := by decide +kernel
theorem dL_link_21 : decode cL_link 21 = .ok (.iconst 0, 1) := by decide +kernel
theorem dL_link_22 : decode cL_link 22 = .ok (.ireturn, 1) := by decide +kernel
/-! L_missing -/
theorem dL_missing_0 : decode cL_missing 0 = .ok (.aload_n 2, 1) := by decide +kernel
theorem dL_missing_1 : decode cL_missing 1 = .ok (.iconst 0, 1) := by decide +kernel
theorem dL_missing_2 : decode cL_missing 2 = .ok (.aload_n 0, 1) := by decide +kernel
theorem dL_missing_3 : decode cL_missing 3 = .ok (.iload_n 1, 1) := by decide +kernel
theorem dL_missing_4 : decode cL_missing 4 = .ok (.invokevirtual 68, 3) := by decide +kernel
theorem dL_missing_7 : decode cL_missing 7 = .ok (.i2l, 1) := by decide +kernel
theorem dL_missing_8 : decode cL_missing 8 = .ok (.lastore, 1) := by decide +kernel
theorem dL_missing_9 : decode cL_missing 9 = .ok (.goto 6, 3) := by decide +kernel
theorem dL_missing_12 : decode cL_missing 12 = .ok (.astore_n 3, 1) := by decide +kernel
theorem dL_missing_13 : decode cL_missing 13 = .ok (.iconst 1, 1) := by decide +kernel
theorem dL_missing_14 : decode cL_missing 14 = .ok (.ireturn, 1) := by decide +kernel
theorem dL_missing_15 : decode cL_missing 15 = .ok (.iconst 0, 1) := by decide +kernel
theorem dL_missing_16 : decode cL_missing 16 = .ok (.ireturn, 1) := by decide +kernel
/-! L_ownByte -/
theorem dL_ownByte_0 : decode cL_ownByte 0 = .ok (.aload_n 3, 1) := by decide +kernel
theorem dL_ownByte_1 : decode cL_ownByte 1 = .ok (.iconst 0, 1) := by decide +kernel
theorem dL_ownByte_2 : decode cL_ownByte 2 = .ok (.aload_n 0, 1) := by decide +kernel
theorem dL_ownByte_3 : decode cL_ownByte 3 = .ok (.iload_n 1, 1) := by decide +kernel
theorem dL_ownByte_4 : decode cL_ownByte 4 = .ok (.iload_n 2, 1) := by decide +kernel
theorem dL_ownByte_5 : decode cL_ownByte 5 = .ok (.invokevirtual 40, 3) := by decide +kernel
theorem dL_ownByte_8 : decode cL_ownByte 8 = .ok (.i2l, 1) := by decide +kernel
theorem dL_ownByte_9 : decode cL_ownByte 9 = .ok (.lastore, 1) := by decide +kernel
theorem dL_ownByte_10 : decode cL_ownByte 10 = .ok (.goto 7, 3) := by decide +kernel
theorem dL_ownByte_13 : decode cL_ownByte 13 = .ok (.astore 4, 2) := by decide +kernel
theorem dL_ownByte_15 : decode cL_ownByte 15 = .ok (.iconst 1, 1) := by decide +kernel
theorem dL_ownByte_16 : decode cL_ownByte 16 = .ok (.ireturn, 1) := by decide +kernel
theorem dL_ownByte_17 : decode cL_ownByte 17 = .ok (.iconst 0, 1) := by decide +kernel
theorem dL_ownByte_18 : decode cL_ownByte 18 = .ok (.ireturn, 1) := by decide +kernel
/-! L_packet -/
theorem dL_packet_0 : decode cL_packet 0 = .ok (.aload_n 3, 1) := by decide +kernel
theorem dL_packet_1 : decode cL_packet 1 = .ok (.iconst 0, 1) := by decide +kernel
theorem dL_packet_2 : decode cL_packet 2 = .ok (.aload_n 0, 1) := by decide +kernel
theorem dL_packet_3 : decode cL_packet 3 = .ok (.iload_n 1, 1) := by decide +kernel
theorem dL_packet_4 : decode cL_packet 4 = .ok (.iload_n 2, 1) := by decide +kernel
theorem dL_packet_5 : decode cL_packet 5 = .ok (.invokevirtual 43, 3) := by decide +kernel
theorem dL_packet_8 : decode cL_packet 8 = .ok (.i2l, 1) := by decide +kernel
theorem dL_packet_9 : decode cL_packet 9 = .ok (.lastore, 1) := by decide +kernel
theorem dL_packet_10 : decode cL_packet 10 = .ok (.goto 11, 3) := by decide +kernel
theorem dL_packet_13 : decode cL_packet 13 = .ok (.astore 4, 2) := by decide +kernel
theorem dL_packet_15 : decode cL_packet 15 = .ok (.iconst 1, 1) := by decide +kernel
theorem dL_packet_16 : decode cL_packet 16 = .ok (.ireturn, 1) := by decide +kernel
theorem dL_packet_17 : decode cL_packet 17 = .ok (.astore 4, 2) := by decide +kernel
theorem dL_packet_19 : decode cL_packet 19 = .ok (.iconst 2, 1) := by decide +kernel
theorem dL_packet_20 : decode cL_packet 20 = .ok (.ireturn, 1) := by decide +kernel
theorem dL_packet_21 : decode cL_packet 21 = .ok (.iconst 0, 1) := by decide +kernel
theorem dL_packet_22 : decode cL_packet 22 = .ok (.ireturn, 1) := by decide +kernel
/-! L_pass -/
theorem dL_pass_0 : decode cL_pass 0 = .ok (.aload_n 2, 1) := by decide +kernel
theorem dL_pass_1 : decode cL_pass 1 = .ok (.iconst 0, 1) := by decide +kernel
theorem dL_pass_2 : decode cL_pass 2 = .ok (.aload_n 0, 1) := by decide +kernel
theorem dL_pass_3 : decode cL_pass 3 = .ok (.iload_n 1, 1) := by decide +kernel
theorem dL_pass_4 : decode cL_pass 4 = .ok (.invokevirtual 113, 3) := by decide +kernel
theorem dL_pass_7 : decode cL_pass 7 = .ok (.i2l, 1) := by decide +kernel
theorem dL_pass_8 : decode cL_pass 8 = .ok (.lastore, 1) := by decide +kernel
theorem dL_pass_9 : decode cL_pass 9 = .ok (.goto 6, 3) := by decide +kernel
theorem dL_pass_12 : decode cL_pass 12 = .ok (.astore_n 3, 1) := by decide +kernel
theorem dL_pass_13 : decode cL_pass 13 = .ok (.iconst 1, 1) := by decide +kernel
theorem dL_pass_14 : decode cL_pass 14 = .ok (.ireturn, 1) := by decide +kernel
theorem dL_pass_15 : decode cL_pass 15 = .ok (.iconst 0, 1) := by decide +kernel
theorem dL_pass_16 : decode cL_pass 16 = .ok (.ireturn, 1) := by decide +kernel
/-! L_pathIn -/
theorem dL_pathIn_0 : decode cL_pathIn 0 = .ok (.aload_n 2, 1) := by decide +kernel
theorem dL_pathIn_1 : decode cL_pathIn 1 = .ok (.iconst 0, 1) := by decide +kernel
theorem dL_pathIn_2 : decode cL_pathIn 2 = .ok (.aload_n 0, 1) := by decide +kernel
theorem dL_pathIn_3 : decode cL_pathIn 3 = .ok (.iload_n 1, 1) := by decide +kernel
theorem dL_pathIn_4 : decode cL_pathIn 4 = .ok (.invokevirtual 81, 3) := by decide +kernel
theorem dL_pathIn_7 : decode cL_pathIn 7 = .ok (.i2l, 1) := by decide +kernel
theorem dL_pathIn_8 : decode cL_pathIn 8 = .ok (.lastore, 1) := by decide +kernel
theorem dL_pathIn_9 : decode cL_pathIn 9 = .ok (.goto 6, 3) := by decide +kernel
theorem dL_pathIn_12 : decode cL_pathIn 12 = .ok (.astore_n 3, 1) := by decide +kernel
theorem dL_pathIn_13 : decode cL_pathIn 13 = .ok (.iconst 1, 1) := by decide +kernel
theorem dL_pathIn_14 : decode cL_pathIn 14 = .ok (.ireturn, 1) := by decide +kernel
theorem dL_pathIn_15 : decode cL_pathIn 15 = .ok (.iconst 0, 1) := by decide +kernel
theorem dL_pathIn_16 : decode cL_pathIn 16 = .ok (.ireturn, 1) := by decide +kernel
/-! L_pieces -/
theorem dL_pieces_0 : decode cL_pieces 0 = .ok (.aload_n 3, 1) := by decide +kernel
theorem dL_pieces_1 : decode cL_pieces 1 = .ok (.iconst 0, 1) := by decide +kernel
theorem dL_pieces_2 : decode cL_pieces 2 = .ok (.aload_n 0, 1) := by decide +kernel
theorem dL_pieces_3 : decode cL_pieces 3 = .ok (.iload_n 1, 1) := by decide +kernel
theorem dL_pieces_4 : decode cL_pieces 4 = .ok (.iload_n 2, 1) := by decide +kernel
theorem dL_pieces_5 : decode cL_pieces 5 = .ok (.invokevirtual 59, 3) := by decide +kernel
theorem dL_pieces_8 : decode cL_pieces 8 = .ok (.i2l, 1) := by decide +kernel
theorem dL_pieces_9 : decode cL_pieces 9 = .ok (.lastore, 1) := by decide +kernel
theorem dL_pieces_10 : decode cL_pieces 10 = .ok (.goto 11, 3) := by decide +kernel
theorem dL_pieces_13 : decode cL_pieces 13 = .ok (.astore 4, 2) := by decide +kernel
theorem dL_pieces_15 : decode cL_pieces 15 = .ok (.iconst 1, 1) := by decide +kernel
theorem dL_pieces_16 : decode cL_pieces 16 = .ok (.ireturn, 1) := by decide +kernel
theorem dL_pieces_17 : decode cL_pieces 17 = .ok (.astore 4, 2) := by decide +kernel
theorem dL_pieces_19 : decode cL_pieces 19 = .ok (.iconst 2, 1) := by decide +kernel
theorem dL_pieces_20 : decode cL_pieces 20 = .ok (.ireturn, 1) := by decide +kernel
theorem dL_pieces_21 : decode cL_pieces 21 = .ok (.iconst 0, 1) := by decide +kernel
theorem dL_pieces_22 : decode cL_pieces 22 = .ok (.ireturn, 1) := by decide +kernel
/-! L_probe -/
theorem dL_probe_0 : decode cL_probe 0 = .ok (.aload_n 2, 1) := by decide +kernel
theorem dL_probe_1 : decode cL_probe 1 = .ok (.iconst 0, 1) := by decide +kernel
theorem dL_probe_2 : decode cL_probe 2 = .ok (.aload_n 0, 1) := by decide +kernel
theorem dL_probe_3 : decode cL_probe 3 = .ok (.iload_n 1, 1) := by decide +kernel
theorem dL_probe_4 : decode cL_probe 4 = .ok (.invokevirtual 94, 3) := by decide +kernel
theorem dL_probe_7 : decode cL_probe 7 = .ok (.i2l, 1) := by decide +kernel
theorem dL_probe_8 : decode cL_probe 8 = .ok (.lastore, 1) := by decide +kernel
theorem dL_probe_9 : decode cL_probe 9 = .ok (.goto 6, 3) := by decide +kernel
theorem dL_probe_12 : decode cL_probe 12 = .ok (.astore_n 3, 1) := by decide +kernel
theorem dL_probe_13 : decode cL_probe 13 = .ok (.iconst 1, 1) := by decide +kernel
theorem dL_probe_14 : decode cL_probe 14 = .ok (.ireturn, 1) := by decide +kernel
theorem dL_probe_15 : decode cL_probe 15 = .ok (.iconst 0, 1) := by decide +kernel
theorem dL_probe_16 : decode cL_probe 16 = .ok (.ireturn, 1) := by decide +kernel
/-! L_readText -/
theorem dL_readText_0 : decode cL_readText 0 = .ok (.aload_n 1, 1) := by decide +kernel
theorem dL_readText_1 : decode cL_readText 1 = .ok (.iconst 0, 1) := by decide +kernel
theorem dL_readText_2 : decode cL_readText 2 = .ok (.aload_n 0, 1) := by decide +kernel
theorem dL_readText_3 : decode cL_readText 3 = .ok (.invokevirtual 21, 3) := by decide +kernel
theorem dL_readText_6 : decode cL_readText 6 = .ok (.i2l, 1) := by decide +kernel
theorem dL_readText_7 : decode cL_readText 7 = .ok (.lastore, 1) := by decide +kernel
theorem dL_readText_8 : decode cL_readText 8 = .ok (.goto 6, 3) := by decide +kernel
theorem dL_readText_11 : decode cL_readText 11 = .ok (.astore_n 2, 1) := by decide +kernel
theorem dL_readText_12 : decode cL_readText 12 = .ok (.iconst 1, 1) := by decide +kernel
theorem dL_readText_13 : decode cL_readText 13 = .ok (.ireturn, 1) := by decide +kernel
theorem dL_readText_14 : decode cL_readText 14 = .ok (.iconst 0, 1) := by decide +kernel
theorem dL_readText_15 : decode cL_readText 15 = .ok (.ireturn, 1) := by decide +kernel
/-! L_restore -/
theorem dL_restore_0 : decode cL_restore 0 = .ok (.aload_n 1, 1) := by decide +kernel
theorem dL_restore_1 : decode cL_restore 1 = .ok (.iconst 0, 1) := by decide +kernel
theorem dL_restore_2 : decode cL_restore 2 = .ok (.aload_n 0, 1) := by decide +kernel
theorem dL_restore_3 : decode cL_restore 3 = .ok (.invokevirtual 119, 3) := by decide +kernel
theorem dL_restore_6 : decode cL_restore 6 = .ok (.i2l, 1) := by decide +kernel
theorem dL_restore_7 : decode cL_restore 7 = .ok (.lastore, 1) := by decide +kernel
theorem dL_restore_8 : decode cL_restore 8 = .ok (.goto 6, 3) := by decide +kernel
theorem dL_restore_11 : decode cL_restore 11 = .ok (.astore_n 2, 1) := by decide +kernel
theorem dL_restore_12 : decode cL_restore 12 = .ok (.iconst 1, 1) := by decide +kernel
theorem dL_restore_13 : decode cL_restore 13 = .ok (.ireturn, 1) := by decide +kernel
theorem dL_restore_14 : decode cL_restore 14 = .ok (.iconst 0, 1) := by decide +kernel
theorem dL_restore_15 : decode cL_restore 15 = .ok (.ireturn, 1) := by decide +kernel
/-! L_runOrders -/
theorem dL_runOrders_0 : decode cL_runOrders 0 = .ok (.aload_n 1, 1) := by decide +kernel
theorem dL_runOrders_1 : decode cL_runOrders 1 = .ok (.iconst 0, 1) := by decide +kernel
theorem dL_runOrders_2 : decode cL_runOrders 2 = .ok (.aload_n 0, 1) := by decide +kernel
theorem dL_runOrders_3 : decode cL_runOrders 3 = .ok (.invokevirtual 25, 3) := by decide +kernel
theorem dL_runOrders_6 : decode cL_runOrders 6 = .ok (.i2l, 1) := by decide +kernel
theorem dL_runOrders_7 : decode cL_runOrders 7 = .ok (.lastore, 1) := by decide +kernel
theorem dL_runOrders_8 : decode cL_runOrders 8 = .ok (.goto 6, 3) := by decide +kernel
theorem dL_runOrders_11 : decode cL_runOrders 11 = .ok (.astore_n 2, 1) := by decide +kernel
theorem dL_runOrders_12 : decode cL_runOrders 12 = .ok (.iconst 1, 1) := by decide +kernel
theorem dL_runOrders_13 : decode cL_runOrders 13 = .ok (.ireturn, 1) := by decide +kernel
theorem dL_runOrders_14 : decode cL_runOrders 14 = .ok (.iconst 0, 1) := by decide +kernel
theorem dL_runOrders_15 : decode cL_runOrders 15 = .ok (.ireturn, 1) := by decide +kernel
/-! L_send -/
theorem dL_send_0 : decode cL_send 0 = .ok (.aload 4, 2) := by decide +kernel
theorem dL_send_2 : decode cL_send 2 = .ok (.iconst 0, 1) := by decide +kernel
theorem dL_send_3 : decode cL_send 3 = .ok (.aload_n 0, 1) := by decide +kernel
theorem dL_send_4 : decode cL_send 4 = .ok (.iload_n 1, 1) := by decide +kernel
theorem dL_send_5 : decode cL_send 5 = .ok (.iload_n 2, 1) := by decide +kernel
theorem dL_send_6 : decode cL_send 6 = .ok (.iload_n 3, 1) := by decide +kernel
theorem dL_send_7 : decode cL_send 7 = .ok (.invokevirtual 87, 3) := by decide +kernel
theorem dL_send_10 : decode cL_send 10 = .ok (.i2l, 1) := by decide +kernel
theorem dL_send_11 : decode cL_send 11 = .ok (.lastore, 1) := by decide +kernel
theorem dL_send_12 : decode cL_send 12 = .ok (.goto 7, 3) := by decide +kernel
theorem dL_send_15 : decode cL_send 15 = .ok (.astore 5, 2) := by decide +kernel
theorem dL_send_17 : decode cL_send 17 = .ok (.iconst 1, 1) := by decide +kernel
theorem dL_send_18 : decode cL_send 18 = .ok (.ireturn, 1) := by decide +kernel
theorem dL_send_19 : decode cL_send 19 = .ok (.iconst 0, 1) := by decide +kernel
theorem dL_send_20 : decode cL_send 20 = .ok (.ireturn, 1) := by decide +kernel
/-! L_setEvery -/
theorem dL_setEvery_0 : decode cL_setEvery 0 = .ok (.aload_n 3, 1) := by decide +kernel
theorem dL_setEvery_1 : decode cL_setEvery 1 = .ok (.iconst 0, 1) := by decide +kernel
theorem dL_setEvery_2 : decode cL_setEvery 2 = .ok (.aload_n 0, 1) := by decide +kernel
theorem dL_setEvery_3 : decode cL_setEvery 3 = .ok (.iload_n 1, 1) := by decide +kernel
theorem dL_setEvery_4 : decode cL_setEvery 4 = .ok (.iload_n 2, 1) := by decide +kernel
theorem dL_setEvery_5 : decode cL_setEvery 5 = .ok (.invokevirtual 104, 3) := by decide +kernel
theorem dL_setEvery_8 : decode cL_setEvery 8 = .ok (.i2l, 1) := by decide +kernel
theorem dL_setEvery_9 : decode cL_setEvery 9 = .ok (.lastore, 1) := by decide +kernel
theorem dL_setEvery_10 : decode cL_setEvery 10 = .ok (.goto 11, 3) := by decide +kernel
theorem dL_setEvery_13 : decode cL_setEvery 13 = .ok (.astore 4, 2) := by decide +kernel
theorem dL_setEvery_15 : decode cL_setEvery 15 = .ok (.iconst 1, 1) := by decide +kernel
theorem dL_setEvery_16 : decode cL_setEvery 16 = .ok (.ireturn, 1) := by decide +kernel
theorem dL_setEvery_17 : decode cL_setEvery 17 = .ok (.astore 4, 2) := by decide +kernel
theorem dL_setEvery_19 : decode cL_setEvery 19 = .ok (.iconst 2, 1) := by decide +kernel
theorem dL_setEvery_20 : decode cL_setEvery 20 = .ok (.ireturn, 1) := by decide +kernel
theorem dL_setEvery_21 : decode cL_setEvery 21 = .ok (.iconst 0, 1) := by decide +kernel
theorem dL_setEvery_22 : decode cL_setEvery 22 = .ok (.ireturn, 1) := by decide +kernel
/-! L_setLife -/
theorem dL_setLife_0 : decode cL_setLife 0 = .ok (.aload_n 2, 1) := by decide +kernel
theorem dL_setLife_1 : decode cL_setLife 1 = .ok (.iconst 0, 1) := by decide +kernel
theorem dL_setLife_2 : decode cL_setLife 2 = .ok (.aload_n 0, 1) := by decide +kernel
theorem dL_setLife_3 : decode cL_setLife 3 = .ok (.iload_n 1, 1) := by decide +kernel
theorem dL_setLife_4 : decode cL_setLife 4 = .ok (.invokevirtual 107, 3) := by decide +kernel
theorem dL_setLife_7 : decode cL_setLife 7 = .ok (.i2l, 1) := by decide +kernel
theorem dL_setLife_8 : decode cL_setLife 8 = .ok (.lastore, 1) := by decide +kernel
theorem dL_setLife_9 : decode cL_setLife 9 = .ok (.goto 6, 3) := by decide +kernel
theorem dL_setLife_12 : decode cL_setLife 12 = .ok (.astore_n 3, 1) := by decide +kernel
theorem dL_setLife_13 : decode cL_setLife 13 = .ok (.iconst 1, 1) := by decide +kernel
theorem dL_setLife_14 : decode cL_setLife 14 = .ok (.ireturn, 1) := by decide +kernel
theorem dL_setLife_15 : decode cL_setLife 15 = .ok (.iconst 0, 1) := by decide +kernel
theorem dL_setLife_16 : decode cL_setLife 16 = .ok (.ireturn, 1) := by decide +kernel
/-! L_setPolicy -/
theorem dL_setPolicy_0 : decode cL_setPolicy 0 = .ok (.aload_n 2, 1) := by decide +kernel
theorem dL_setPolicy_1 : decode cL_setPolicy 1 = .ok (.iconst 0, 1) := by decide +kernel
theorem dL_setPolicy_2 : decode cL_setPolicy 2 = .ok (.aload_n 0, 1) := by decide +kernel
theorem dL_setPolicy_3 : decode cL_setPolicy 3 = .ok (.iload_n 1, 1) := by decide +kernel
theorem dL_setPolicy_4 : decode cL_setPolicy 4 = .ok (.invokevirtual 110, 3) := by decide +kernel
theorem dL_setPolicy_7 : decode cL_setPolicy 7 = .ok (.i2l, 1) := by decide +kernel
theorem dL_setPolicy_8 : decode cL_setPolicy 8 = .ok (.lastore, 1) := by decide +kernel
theorem dL_setPolicy_9 : decode cL_setPolicy 9 = .ok (.goto 6, 3) := by decide +kernel
theorem dL_setPolicy_12 : decode cL_setPolicy 12 = .ok (.astore_n 3, 1) := by decide +kernel
theorem dL_setPolicy_13 : decode cL_setPolicy 13 = .ok (.iconst 1, 1) := by decide +kernel
theorem dL_setPolicy_14 : decode cL_setPolicy 14 = .ok (.ireturn, 1) := by decide +kernel
theorem dL_setPolicy_15 : decode cL_setPolicy 15 = .ok (.iconst 0, 1) := by decide +kernel
theorem dL_setPolicy_16 : decode cL_setPolicy 16 = .ok (.ireturn, 1) := by decide +kernel
/-! L_setSize -/
theorem dL_setSize_0 : decode cL_setSize 0 = .ok (.aload_n 3, 1) := by decide +kernel
theorem dL_setSize_1 : decode cL_setSize 1 = .ok (.iconst 0, 1) := by decide +kernel
theorem dL_setSize_2 : decode cL_setSize 2 = .ok (.aload_n 0, 1) := by decide +kernel
theorem dL_setSize_3 : decode cL_setSize 3 = .ok (.iload_n 1, 1) := by decide +kernel
theorem dL_setSize_4 : decode cL_setSize 4 = .ok (.iload_n 2, 1) := by decide +kernel
theorem dL_setSize_5 : decode cL_setSize 5 = .ok (.invokevirtual 101, 3) := by decide +kernel
theorem dL_setSize_8 : decode cL_setSize 8 = .ok (.i2l, 1) := by decide +kernel
theorem dL_setSize_9 : decode cL_setSize 9 = .ok (.lastore, 1) := by decide +kernel
theorem dL_setSize_10 : decode cL_setSize 10 = .ok (.goto 11, 3) := by decide +kernel
theorem dL_setSize_13 : decode cL_setSize 13 = .ok (.astore 4, 2) := by decide +kernel
theorem dL_setSize_15 : decode cL_setSize 15 = .ok (.iconst 1, 1) := by decide +kernel
theorem dL_setSize_16 : decode cL_setSize 16 = .ok (.ireturn, 1) := by decide +kernel
theorem dL_setSize_17 : decode cL_setSize 17 = .ok (.astore 4, 2) := by decide +kernel
theorem dL_setSize_19 : decode cL_setSize 19 = .ok (.iconst 2, 1) := by decide +kernel
theorem dL_setSize_20 : decode cL_setSize 20 = .ok (.ireturn, 1) := by decide +kernel
theorem dL_setSize_21 : decode cL_setSize 21 = .ok (.iconst 0, 1) := by decide +kernel
theorem dL_setSize_22 : decode cL_setSize 22 = .ok (.ireturn, 1) := by decide +kernel
/-! L_size -/
theorem dL_size_0 : decode cL_size 0 = .ok (.aload_n 2, 1) := by decide +kernel
theorem dL_size_1 : decode cL_size 1 = .ok (.iconst 0, 1) := by decide +kernel
theorem dL_size_2 : decode cL_size 2 = .ok (.aload_n 0, 1) := by decide +kernel
theorem dL_size_3 : decode cL_size 3 = .ok (.iload_n 1, 1) := by decide +kernel
theorem dL_size_4 : decode cL_size 4 = .ok (.invokevirtual 28, 3) := by decide +kernel
theorem dL_size_7 : decode cL_size 7 = .ok (.i2l, 1) := by decide +kernel
theorem dL_size_8 : decode cL_size 8 = .ok (.lastore, 1) := by decide +kernel
theorem dL_size_9 : decode cL_size 9 = .ok (.goto 6, 3) := by decide +kernel
theorem dL_size_12 : decode cL_size 12 = .ok (.astore_n 3, 1) := by decide +kernel
theorem dL_size_13 : decode cL_size 13 = .ok (.iconst 1, 1) := by decide +kernel
theorem dL_size_14 : decode cL_size 14 = .ok (.ireturn, 1) := by decide +kernel
theorem dL_size_15 : decode cL_size 15 = .ok (.iconst 0, 1) := by decide +kernel
theorem dL_size_16 : decode cL_size 16 = .ok (.ireturn, 1) := by decide +kernel
/-! L_truncate -/
theorem dL_truncate_0 : decode cL_truncate 0 = .ok (.aload_n 2, 1) := by decide +kernel
theorem dL_truncate_1 : decode cL_truncate 1 = .ok (.iconst 0, 1) := by decide +kernel
theorem dL_truncate_2 : decode cL_truncate 2 = .ok (.aload_n 0, 1) := by decide +kernel
theorem dL_truncate_3 : decode cL_truncate 3 = .ok (.iload_n 1, 1) := by decide +kernel
theorem dL_truncate_4 : decode cL_truncate 4 = .ok (.invokevirtual 15, 3) := by decide +kernel
theorem dL_truncate_7 : decode cL_truncate 7 = .ok (.i2l, 1) := by decide +kernel
theorem dL_truncate_8 : decode cL_truncate 8 = .ok (.lastore, 1) := by decide +kernel
theorem dL_truncate_9 : decode cL_truncate 9 = .ok (.goto 6, 3) := by decide +kernel
theorem dL_truncate_12 : decode cL_truncate 12 = .ok (.astore_n 3, 1) := by decide +kernel
theorem dL_truncate_13 : decode cL_truncate 13 = .ok (.iconst 1, 1) := by decide +kernel
theorem dL_truncate_14 : decode cL_truncate 14 = .ok (.ireturn, 1) := by decide +kernel
theorem dL_truncate_15 : decode cL_truncate 15 = .ok (.iconst 0, 1) := by decide +kernel
theorem dL_truncate_16 : decode cL_truncate 16 = .ok (.ireturn, 1) := by decide +kernel
/-! L_writeHeap -/
theorem dL_writeHeap_0 : decode cL_writeHeap 0 = .ok (.aload_n 2, 1) := by decide +kernel
theorem dL_writeHeap_1 : decode cL_writeHeap 1 = .ok (.iconst 0, 1) := by decide +kernel
theorem dL_writeHeap_2 : decode cL_writeHeap 2 = .ok (.aload_n 0, 1) := by decide +kernel
theorem dL_writeHeap_3 : decode cL_writeHeap 3 = .ok (.iload_n 1, 1) := by decide +kernel
theorem dL_writeHeap_4 : decode cL_writeHeap 4 = .ok (.invokevirtual 116, 3) := by decide +kernel
theorem dL_writeHeap_7 : decode cL_writeHeap 7 = .ok (.i2l, 1) := by decide +kernel
theorem dL_writeHeap_8 : decode cL_writeHeap 8 = .ok (.lastore, 1) := by decide +kernel
theorem dL_writeHeap_9 : decode cL_writeHeap 9 = .ok (.goto 6, 3) := by decide +kernel
theorem dL_writeHeap_12 : decode cL_writeHeap 12 = .ok (.astore_n 3, 1) := by decide +kernel
theorem dL_writeHeap_13 : decode cL_writeHeap 13 = .ok (.iconst 1, 1) := by decide +kernel
theorem dL_writeHeap_14 : decode cL_writeHeap 14 = .ok (.ireturn, 1) := by decide +kernel
theorem dL_writeHeap_15 : decode cL_writeHeap 15 = .ok (.iconst 0, 1) := by decide +kernel
theorem dL_writeHeap_16 : decode cL_writeHeap 16 = .ok (.ireturn, 1) := by decide +kernel
