/-! J0_length_8abf5 -/
theorem dJ0_length_8abf5_0 : decode cJ0_length_8abf5 0 = .ok (.aload_n 0, 1) := by decide +kernel
theorem dJ0_length_8abf5_1 : decode cJ0_length_8abf5 1 = .ok (.getfield 9, 3) := by decide +kernel
theorem dJ0_length_8abf5_4 : decode cJ0_length_8abf5 4 = .ok (.arraylength, 1) := by decide +kernel
theorem dJ0_length_8abf5_5 : decode cJ0_length_8abf5 5 = .ok (.aload_n 0, 1) := by decide +kernel
theorem dJ0_length_8abf5_6 : decode cJ0_length_8abf5 6 = .ok (.invokevirtual 335, 3) := by decide +kernel
theorem dJ0_length_8abf5_9 : decode cJ0_length_8abf5 9 = .ok (.ishr, 1) := by decide +kernel
theorem dJ0_length_8abf5_10 : decode cJ0_length_8abf5 10 = .ok (.ireturn, 1) := by decide +kernel
/-! J0_coder_7d493 -/
theorem dJ0_coder_7d493_0 : decode cJ0_coder_7d493 0 = .ok (.getstatic 38, 3) := by decide +kernel
theorem dJ0_coder_7d493_3 : decode cJ0_coder_7d493 3 = .ok (.ifCond .eq 10, 3) := by decide +kernel
theorem dJ0_coder_7d493_6 : decode cJ0_coder_7d493 6 = .ok (.aload_n 0, 1) := by decide +kernel
theorem dJ0_coder_7d493_7 : decode cJ0_coder_7d493 7 = .ok (.getfield 15, 3) := by decide +kernel
theorem dJ0_coder_7d493_10 : decode cJ0_coder_7d493 10 = .ok (.goto 4, 3) := by decide +kernel
theorem dJ0_coder_7d493_13 : decode cJ0_coder_7d493 13 = .ok (.iconst 1, 1) := by decide +kernel
theorem dJ0_coder_7d493_14 : decode cJ0_coder_7d493 14 = .ok (.ireturn, 1) := by decide +kernel
/-! J0_charAt_5068e -/
theorem dJ0_charAt_5068e_0 : decode cJ0_charAt_5068e 0 = .ok (.aload_n 0, 1) := by decide +kernel
theorem dJ0_charAt_5068e_1 : decode cJ0_charAt_5068e 1 = .ok (.invokevirtual 492, 3) := by decide +kernel
theorem dJ0_charAt_5068e_4 : decode cJ0_charAt_5068e 4 = .ok (.ifCond .eq 12, 3) := by decide +kernel
theorem dJ0_charAt_5068e_7 : decode cJ0_charAt_5068e 7 = .ok (.aload_n 0, 1) := by decide +kernel
theorem dJ0_charAt_5068e_8 : decode cJ0_charAt_5068e 8 = .ok (.getfield 9, 3) := by decide +kernel
theorem dJ0_charAt_5068e_11 : decode cJ0_charAt_5068e 11 = .ok (.iload_n 1, 1) := by decide +kernel
theorem dJ0_charAt_5068e_12 : decode cJ0_charAt_5068e 12 = .ok (.invokestatic 495, 3) := by decide +kernel
theorem dJ0_charAt_5068e_15 : decode cJ0_charAt_5068e 15 = .ok (.ireturn, 1) := by decide +kernel
theorem dJ0_charAt_5068e_16 : decode cJ0_charAt_5068e 16 = .ok (.aload_n 0, 1) := by decide +kernel
theorem dJ0_charAt_5068e_17 : decode cJ0_charAt_5068e 17 = .ok (.getfield 9, 3) := by decide +kernel
theorem dJ0_charAt_5068e_20 : decode cJ0_charAt_5068e 20 = .ok (.iload_n 1, 1) := by decide +kernel
theorem dJ0_charAt_5068e_21 : decode cJ0_charAt_5068e 21 = .ok (.invokestatic 498, 3) := by decide +kernel
theorem dJ0_charAt_5068e_24 : decode cJ0_charAt_5068e 24 = .ok (.ireturn, 1) := by decide +kernel
/-! J0_isLatin1_aae02 -/
theorem dJ0_isLatin1_aae02_0 : decode cJ0_isLatin1_aae02 0 = .ok (.getstatic 38, 3) := by decide +kernel
theorem dJ0_isLatin1_aae02_3 : decode cJ0_isLatin1_aae02 3 = .ok (.ifCond .eq 14, 3) := by decide +kernel
theorem dJ0_isLatin1_aae02_6 : decode cJ0_isLatin1_aae02 6 = .ok (.aload_n 0, 1) := by decide +kernel
theorem dJ0_isLatin1_aae02_7 : decode cJ0_isLatin1_aae02 7 = .ok (.getfield 15, 3) := by decide +kernel
theorem dJ0_isLatin1_aae02_10 : decode cJ0_isLatin1_aae02 10 = .ok (.ifCond .ne 7, 3) := by decide +kernel
theorem dJ0_isLatin1_aae02_13 : decode cJ0_isLatin1_aae02 13 = .ok (.iconst 1, 1) := by decide +kernel
theorem dJ0_isLatin1_aae02_14 : decode cJ0_isLatin1_aae02 14 = .ok (.goto 4, 3) := by decide +kernel
theorem dJ0_isLatin1_aae02_17 : decode cJ0_isLatin1_aae02 17 = .ok (.iconst 0, 1) := by decide +kernel
theorem dJ0_isLatin1_aae02_18 : decode cJ0_isLatin1_aae02 18 = .ok (.ireturn, 1) := by decide +kernel
/-! J1_charAt_3b067 -/
theorem dJ1_charAt_3b067_0 : decode cJ1_charAt_3b067 0 = .ok (.iload_n 1, 1) := by decide +kernel
theorem dJ1_charAt_3b067_1 : decode cJ1_charAt_3b067 1 = .ok (.aload_n 0, 1) := by decide +kernel
theorem dJ1_charAt_3b067_2 : decode cJ1_charAt_3b067 2 = .ok (.arraylength, 1) := by decide +kernel
theorem dJ1_charAt_3b067_3 : decode cJ1_charAt_3b067 3 = .ok (.invokestatic 9, 3) := by decide +kernel
theorem dJ1_charAt_3b067_6 : decode cJ1_charAt_3b067 6 = .ok (.aload_n 0, 1) := by decide +kernel
theorem dJ1_charAt_3b067_7 : decode cJ1_charAt_3b067 7 = .ok (.iload_n 1, 1) := by decide +kernel
theorem dJ1_charAt_3b067_8 : decode cJ1_charAt_3b067 8 = .ok (.baload, 1) := by decide +kernel
theorem dJ1_charAt_3b067_9 : decode cJ1_charAt_3b067 9 = .ok (.sipush 255, 3) := by decide +kernel
theorem dJ1_charAt_3b067_12 : decode cJ1_charAt_3b067 12 = .ok (.iand, 1) := by decide +kernel
theorem dJ1_charAt_3b067_13 : decode cJ1_charAt_3b067 13 = .ok (.i2c, 1) := by decide +kernel
theorem dJ1_charAt_3b067_14 : decode cJ1_charAt_3b067 14 = .ok (.ireturn, 1) := by decide +kernel
/-! J0_checkIndex_df160 -/
theorem dJ0_checkIndex_df160_0 : decode cJ0_checkIndex_df160 0 = .ok (.iload_n 0, 1) := by decide +kernel
theorem dJ0_checkIndex_df160_1 : decode cJ0_checkIndex_df160 1 = .ok (.iload_n 1, 1) := by decide +kernel
theorem dJ0_checkIndex_df160_2 : decode cJ0_checkIndex_df160 2 = .ok (.getstatic 1053, 3) := by decide +kernel
theorem dJ0_checkIndex_df160_5 : decode cJ0_checkIndex_df160 5 = .ok (.invokestatic 1059, 3) := by decide +kernel
theorem dJ0_checkIndex_df160_8 : decode cJ0_checkIndex_df160 8 = .ok (.pop, 1) := by decide +kernel
theorem dJ0_checkIndex_df160_9 : decode cJ0_checkIndex_df160 9 = .ok (.return_, 1) := by decide +kernel
/-! J3_checkIndex_8e157 -/
theorem dJ3_checkIndex_8e157_0 : decode cJ3_checkIndex_8e157 0 = .ok (.iload_n 0, 1) := by decide +kernel
theorem dJ3_checkIndex_8e157_1 : decode cJ3_checkIndex_8e157 1 = .ok (.ifCond .lt 8, 3) := by decide +kernel
theorem dJ3_checkIndex_8e157_4 : decode cJ3_checkIndex_8e157 4 = .ok (.iload_n 0, 1) := by decide +kernel
theorem dJ3_checkIndex_8e157_5 : decode cJ3_checkIndex_8e157 5 = .ok (.iload_n 1, 1) := by decide +kernel
theorem dJ3_checkIndex_8e157_6 : decode cJ3_checkIndex_8e157 6 = .ok (.if_icmp .lt 10, 3) := by decide +kernel
theorem dJ3_checkIndex_8e157_9 : decode cJ3_checkIndex_8e157 9 = .ok (.aload_n 2, 1) := by decide +kernel
theorem dJ3_checkIndex_8e157_10 : decode cJ3_checkIndex_8e157 10 = .ok (.iload_n 0, 1) := by decide +kernel
theorem dJ3_checkIndex_8e157_11 : decode cJ3_checkIndex_8e157 11 = .ok (.iload_n 1, 1) := by decide +kernel
theorem dJ3_checkIndex_8e157_12 : decode cJ3_checkIndex_8e157 12 = .ok (.invokestatic 95, 3) := by decide +kernel
theorem dJ3_checkIndex_8e157_15 : decode cJ3_checkIndex_8e157 15 = .ok (.athrow, 1) := by decide +kernel
theorem dJ3_checkIndex_8e157_16 : decode cJ3_checkIndex_8e157 16 = .ok (.iload_n 0, 1) := by decide +kernel
theorem dJ3_checkIndex_8e157_17 : decode cJ3_checkIndex_8e157 17 = .ok (.ireturn, 1) := by decide +kernel
theorem hd_J0_length_8abf5 : yJ0_length_8abf5.cls ≠ "java/lang/invoke/MethodHandle" ∧ yJ0_length_8abf5.cls ≠ "java/lang/invoke/VarHandle" ∧ (parseMethodDescriptor yJ0_length_8abf5.desc).map (fun d => d.parameters.length) = some 0 := by decide +kernel
theorem hd_J0_coder_7d493 : yJ0_coder_7d493.cls ≠ "java/lang/invoke/MethodHandle" ∧ yJ0_coder_7d493.cls ≠ "java/lang/invoke/VarHandle" ∧ (parseMethodDescriptor yJ0_coder_7d493.desc).map (fun d => d.parameters.length) = some 0 := by decide +kernel
theorem hd_J0_charAt_5068e : yJ0_charAt_5068e.cls ≠ "java/lang/invoke/MethodHandle" ∧ yJ0_charAt_5068e.cls ≠ "java/lang/invoke/VarHandle" ∧ (parseMethodDescriptor yJ0_charAt_5068e.desc).map (fun d => d.parameters.length) = some 1 := by decide +kernel
theorem hd_J0_isLatin1_aae02 : yJ0_isLatin1_aae02.cls ≠ "java/lang/invoke/MethodHandle" ∧ yJ0_isLatin1_aae02.cls ≠ "java/lang/invoke/VarHandle" ∧ (parseMethodDescriptor yJ0_isLatin1_aae02.desc).map (fun d => d.parameters.length) = some 0 := by decide +kernel
theorem hd_J1_charAt_3b067 : yJ1_charAt_3b067.cls ≠ "java/lang/invoke/MethodHandle" ∧ yJ1_charAt_3b067.cls ≠ "java/lang/invoke/VarHandle" ∧ (parseMethodDescriptor yJ1_charAt_3b067.desc).map (fun d => d.parameters.length) = some 2 := by decide +kernel
theorem hd_J0_checkIndex_df160 : yJ0_checkIndex_df160.cls ≠ "java/lang/invoke/MethodHandle" ∧ yJ0_checkIndex_df160.cls ≠ "java/lang/invoke/VarHandle" ∧ (parseMethodDescriptor yJ0_checkIndex_df160.desc).map (fun d => d.parameters.length) = some 2 := by decide +kernel
theorem hd_J3_checkIndex_8e157 : yJ3_checkIndex_8e157.cls ≠ "java/lang/invoke/MethodHandle" ∧ yJ3_checkIndex_8e157.cls ≠ "java/lang/invoke/VarHandle" ∧ (parseMethodDescriptor yJ3_checkIndex_8e157.desc).map (fun d => d.parameters.length) = some 3 := by decide +kernel
def ksZl : List (List Int) := [[108, 105, 110, 107], [108, 105, 102, 101], [112, 111, 108, 105, 99, 121], [115, 101, 110, 100], [97, 103, 97, 105, 110], [112, 114, 111, 98, 101], [102, 111, 114, 103, 101], [115, 105, 122, 101], [101, 118, 101, 114, 121], [112, 97, 115, 115], [102, 105, 114, 109], [109, 111, 114, 101], [], [59], [108, 105, 110, 107, 32], [59, 115, 101, 110, 100, 32], [32, 102, 105, 114, 109], [59, 108, 105, 102, 101, 32], [59, 112, 111, 108, 105, 99, 121, 32], [112, 114, 111, 98, 101, 32, 53, 48, 59, 112, 97, 115, 115, 32, 51, 59, 115, 105, 122, 101, 32, 48, 32, 52, 48, 59]]
def ksZ (i : Nat) : List Int := ksZl.getD i []
theorem ksB_map : ksBl = ksZl.map (fun l => l.map iI) := by decide +kernel
theorem getD_map0 (l : List Int) (j : Nat) : (l.map iI).getD j 0 = iI (l.getD j 0) := by
  rw [List.getD_eq_getElem?_getD, List.getD_eq_getElem?_getD, List.getElem?_map]
  cases l[j]? <;> rfl
theorem ksB_at (i j : Nat) : (ksBl.getD i []).getD j 0 = iI ((ksZ i).getD j 0) := by
  have e : ksBl.getD i [] = (ksZ i).map iI := by
    rw [ksB_map]
    unfold ksZ
    rw [List.getD_eq_getElem?_getD, List.getD_eq_getElem?_getD, List.getElem?_map]
    cases ksZl[i]? <;> rfl
  rw [e, getD_map0]
theorem ksB_len (i : Nat) : (ksBl.getD i []).length = (ksZ i).length := by
  have e : ksBl.getD i [] = (ksZ i).map iI := by
    rw [ksB_map]
    unfold ksZ
    rw [List.getD_eq_getElem?_getD, List.getD_eq_getElem?_getD, List.getElem?_map]
    cases ksZl[i]? <;> rfl
  rw [e, List.length_map]
theorem ksZ_in (i j : Nat) : 0 ≤ (ksZ i).getD j 0 ∧ (ksZ i).getD j 0 ≤ 127 := by
  have h : ∀ l ∈ ksZl, ∀ x ∈ l, 0 ≤ x ∧ x ≤ 127 := by decide +kernel
  by_cases q : i < ksZl.length
  · by_cases r : j < (ksZ i).length
    · have h1 : ksZ i ∈ ksZl := by unfold ksZ; rw [List.getD_eq_getElem?_getD, List.getElem?_eq_getElem q]; exact List.getElem_mem q
      have h2 : (ksZ i).getD j 0 ∈ ksZ i := by rw [List.getD_eq_getElem?_getD, List.getElem?_eq_getElem r]; exact List.getElem_mem r
      exact h _ h1 _ h2
    · rw [List.getD_eq_getElem?_getD, List.getElem?_eq_none (by omega)]; decide
  · have e : ksZ i = [] := by unfold ksZ; rw [List.getD_eq_getElem?_getD, List.getElem?_eq_none (by omega)]; rfl
    rw [e]; exact (by decide : (0 : Int) ≤ 0 ∧ (0 : Int) ≤ 127)
theorem Ke.num {K : Nat → Nat} {A : Nat → Prop} {U : State} (h : Ke K A U) : va_T .int (K 100) 10 (fun j => .int (iI (numL.getD j 0))) A U U.heap := h.2.2.2.2.2.2.1
theorem Ke.lst {K : Nat → Nat} {A : Nat → Prop} {U : State} (h : Ke K A U) : va_T .int (K 101) 40 (fun j => .int (iI (lstL.getD j 0))) A U U.heap := h.2.2.2.2.2.2.2.1
theorem Ke.grt {K : Nat → Nat} {A : Nat → Prop} {U : State} (h : Ke K A U) : va_T .int (K 102) 40 (fun j => .int (iI (grtL.getD j 0))) A U U.heap := h.2.2.2.2.2.2.2.2.1
theorem Ke.one {K : Nat → Nat} {A : Nat → Prop} {U : State} (h : Ke K A U) : va_T .byte (K 103) 100 (fun j => .int (iI ((48 + j % 10 : Nat) : Int))) A U U.heap := h.2.2.2.2.2.2.2.2.2.2.2.1
theorem Ke.ten {K : Nat → Nat} {A : Nat → Prop} {U : State} (h : Ke K A U) : va_T .byte (K 104) 100 (fun j => .int (iI ((48 + j / 10 : Nat) : Int))) A U U.heap := h.2.2.2.2.2.2.2.2.2.2.2.2.1
theorem i2c_lo {c : Int} (h0 : 0 ≤ c) (h1 : c < 65536) : ((iI c).toUInt32 % 65536).toInt32 = iI c := by
  obtain ⟨n, rfl⟩ := Int.eq_ofNat_of_zero_le h0
  have h2 : n < 65536 := by omega
  have h3 : ∀ k : Nat, k < 65536 → ((nI k).toUInt32 % 65536).toInt32 = nI k := fun k hk => by
    apply Int32.toBitVec_inj.mp
    apply BitVec.eq_of_toNat_eq
    show (((nI k).toBitVec) % 65536#32).toNat = (nI k).toBitVec.toNat
    rw [BitVec.toNat_umod, pk_tn (by omega)]
    exact Nat.mod_eq_of_lt hk
  rw [iI_nI]
  exact h3 n h2
set_option maxHeartbeats 4000000 in
set_option maxRecDepth 100000 in
theorem k_chk3 (l : Launch) (D : va_G) (τ : Nat → ClassId) (sz : Nat) (i n f : Nat) (hi : i < n) (hn : n < 2147483648) : Met l yJ3_checkIndex_8e157 (Cond.code yJ3_checkIndex_8e157 cJ3_checkIndex_8e157 3 (some .int) :: wALL) { frames := 0, cells := 0, slots := 0, locals := 0 } (Pw D τ (bl []) sz [.int (iI ((i : Nat) : Int)), .int (iI ((n : Nat) : Int)), .ref f]) (va_Qi (fun (r : Int32) (_ : Unit) => r = iI ((i : Nat) : Int)) (Bb D (va_A (bl []) sz) (fun (_ : Unit) => [])) (va_A (bl []) sz)) 0 0 (va_A (bl []) sz) := by
  refine bodyWF (by decide +kernel) (Nat.le_of_ble_eq_true rfl) (fun p e s m below meth c ls B hr hlk hin hsz Y hl => ?_)
  have hl : lv_has ls 3 [(0, .int (iI ((i : Nat) : Int))), (1, .int (iI ((n : Nat) : Int))), (2, .ref f)] := hl
  have B : CallFix p m c cJ3_checkIndex_8e157 3 s _ wALL RJ3 := B
  generalize va_A (bl []) sz = A at Y ⊢
  refine lv_iload_n B.1 B.2.1 dJ3_checkIndex_8e157_0 rfl (lv_at hl 0 rfl) ?_
  refine lv_if_lt (tgt := 9) B.1 B.2.1 dJ3_checkIndex_8e157_1 (by decide) (fun h => absurd h (mt (iI_lt0 (a := ((i : Nat) : Int)) (by omega) (by omega)).mp (by omega))) (fun _ => ?_)
  refine lv_iload_n B.1 B.2.1 dJ3_checkIndex_8e157_4 rfl (lv_at hl 0 rfl) ?_
  refine lv_iload_n B.1 B.2.1 dJ3_checkIndex_8e157_5 rfl (lv_at hl 1 rfl) ?_
  refine lv_icmp_lt (tgt := 16) B.1 B.2.1 dJ3_checkIndex_8e157_6 (by decide) (fun _ => ?_) (fun h => absurd ((iI_lt (a := ((i : Nat) : Int)) (b := ((n : Nat) : Int)) (by omega) (by omega) (by omega) (by omega)).mpr (by omega)) h) 
  refine lv_iload_n B.1 B.2.1 dJ3_checkIndex_8e157_16 rfl (lv_at hl 0 rfl) ?_
  exact eI B hr hlk Y () rfl [] (by decide) rfl (Nat.le_of_ble_eq_true rfl) (Nat.le_of_ble_eq_true rfl) dJ3_checkIndex_8e157_17

set_option maxHeartbeats 4000000 in
set_option maxRecDepth 100000 in
theorem k_chk3n (l : Launch) (D : va_G) (τ : Nat → ClassId) (sz : Nat) (i n : Nat) (hi : i < n) (hn : n < 2147483648) : Met l yJ3_checkIndex_8e157 (Cond.code yJ3_checkIndex_8e157 cJ3_checkIndex_8e157 3 (some .int) :: wALL) { frames := 0, cells := 0, slots := 0, locals := 0 } (Pw D τ (bl []) sz [.int (iI ((i : Nat) : Int)), .int (iI ((n : Nat) : Int)), .null]) (va_Qi (fun (r : Int32) (_ : Unit) => r = iI ((i : Nat) : Int)) (Bb D (va_A (bl []) sz) (fun (_ : Unit) => [])) (va_A (bl []) sz)) 0 0 (va_A (bl []) sz) := by
  refine bodyWF (by decide +kernel) (Nat.le_of_ble_eq_true rfl) (fun p e s m below meth c ls B hr hlk hin hsz Y hl => ?_)
  have hl : lv_has ls 3 [(0, .int (iI ((i : Nat) : Int))), (1, .int (iI ((n : Nat) : Int))), (2, .null)] := hl
  have B : CallFix p m c cJ3_checkIndex_8e157 3 s _ wALL RJ3 := B
  generalize va_A (bl []) sz = A at Y ⊢
  refine lv_iload_n B.1 B.2.1 dJ3_checkIndex_8e157_0 rfl (lv_at hl 0 rfl) ?_
  refine lv_if_lt (tgt := 9) B.1 B.2.1 dJ3_checkIndex_8e157_1 (by decide) (fun h => absurd h (mt (iI_lt0 (a := ((i : Nat) : Int)) (by omega) (by omega)).mp (by omega))) (fun _ => ?_)
  refine lv_iload_n B.1 B.2.1 dJ3_checkIndex_8e157_4 rfl (lv_at hl 0 rfl) ?_
  refine lv_iload_n B.1 B.2.1 dJ3_checkIndex_8e157_5 rfl (lv_at hl 1 rfl) ?_
  refine lv_icmp_lt (tgt := 16) B.1 B.2.1 dJ3_checkIndex_8e157_6 (by decide) (fun _ => ?_) (fun h => absurd ((iI_lt (a := ((i : Nat) : Int)) (b := ((n : Nat) : Int)) (by omega) (by omega) (by omega) (by omega)).mpr (by omega)) h) 
  refine lv_iload_n B.1 B.2.1 dJ3_checkIndex_8e157_16 rfl (lv_at hl 0 rfl) ?_
  exact eI B hr hlk Y () rfl [] (by decide) rfl (Nat.le_of_ble_eq_true rfl) (Nat.le_of_ble_eq_true rfl) dJ3_checkIndex_8e157_17

set_option maxHeartbeats 4000000 in
set_option maxRecDepth 100000 in
theorem k_chk0 (l : Launch) (D : va_G) (τ : Nat → ClassId) (sz : Nat) (K : Nat → Nat) (i n : Nat) (hi : i < n) (hn : n < 2147483648) : Met l yJ0_checkIndex_df160 (Cond.code yJ0_checkIndex_df160 cJ0_checkIndex_df160 2 none :: wALL) { frames := 1, cells := 0, slots := 0, locals := 22 } (PwE (Ke K) D τ (bl []) sz [.int (iI ((i : Nat) : Int)), .int (iI ((n : Nat) : Int))]) (va_Qv (fun (_ : Unit) => True) (Bb D (va_A (bl []) sz) (fun (_ : Unit) => [])) (va_A (bl []) sz)) 0 0 (va_A (bl []) sz) := by
  refine bodyE (by decide +kernel) (Nat.le_of_ble_eq_true rfl) (fun p e s m below meth c ls B hr hlk hin hsz Y hE hl => ?_)
  have hl : lv_has ls 2 [(0, .int (iI ((i : Nat) : Int))), (1, .int (iI ((n : Nat) : Int)))] := hl
  have B : CallFix p m c cJ0_checkIndex_df160 2 s _ wALL RJ0 := B
  generalize va_A (bl []) sz = A at Y hE ⊢
  by_cases hk6 : K 106 = 0
  · refine lv_iload_n B.1 B.2.1 dJ0_checkIndex_df160_0 rfl (lv_at hl 0 rfl) ?_
    refine lv_iload_n B.1 B.2.1 dJ0_checkIndex_df160_1 rfl (lv_at hl 1 rfl) ?_
    refine va_gets B.1 B.2.1 (hE.fmN hk6) Y.2.2.2.1 B.2.2.2.1 (B.2.2.2.2 _ q_724) (fun _ h => h) dJ0_checkIndex_df160_2 ?_
    refine qI (Cs := []) (Rs := []) Y [] [] (by decide) rfl (cS (As := [.int (iI ((i : Nat) : Int)), .int (iI ((n : Nat) : Int)), .null]) (rest := []) B Y [] (by decide) rfl (k_chk3n l D τ _ i n (by omega) (by omega)) q_726 q_727 q_19 q_728 rfl rfl hd_J3_checkIndex_8e157 ⟨(Nat.le_of_ble_eq_true rfl), (Nat.le_of_ble_eq_true rfl)⟩ rfl hl.1 rfl (Nat.le_of_ble_eq_true rfl) dJ0_checkIndex_df160_5 ⟨(Nat.le_of_ble_eq_true rfl), (Nat.le_of_ble_eq_true rfl)⟩) (fun r u H locs hw Y => ?_)
    subst hw
    have Y : Wd D τ s A s.heap (bl []) _ _ := Y
    refine lv_pop B.1 B.2.1 dJ0_checkIndex_df160_8 rfl ?_
    exact eV B hr hlk Y () trivial [] (by decide) rfl (Nat.le_of_ble_eq_true rfl) (Nat.le_of_ble_eq_true rfl) dJ0_checkIndex_df160_9
  · refine lv_iload_n B.1 B.2.1 dJ0_checkIndex_df160_0 rfl (lv_at hl 0 rfl) ?_
    refine lv_iload_n B.1 B.2.1 dJ0_checkIndex_df160_1 rfl (lv_at hl 1 rfl) ?_
    refine va_gets B.1 B.2.1 (hE.fmR hk6) Y.2.2.2.1 B.2.2.2.1 (B.2.2.2.2 _ q_724) (fun _ h => h) dJ0_checkIndex_df160_2 ?_
    refine qI (Cs := []) (Rs := []) Y [] [] (by decide) rfl (cS (As := [.int (iI ((i : Nat) : Int)), .int (iI ((n : Nat) : Int)), .ref (K 105)]) (rest := []) B Y [] (by decide) rfl (k_chk3 l D τ _ i n (K 105) (by omega) (by omega)) q_726 q_727 q_19 q_728 rfl rfl hd_J3_checkIndex_8e157 ⟨(Nat.le_of_ble_eq_true rfl), (Nat.le_of_ble_eq_true rfl)⟩ rfl hl.1 rfl (Nat.le_of_ble_eq_true rfl) dJ0_checkIndex_df160_5 ⟨(Nat.le_of_ble_eq_true rfl), (Nat.le_of_ble_eq_true rfl)⟩) (fun r u H locs hw Y => ?_)
    subst hw
    have Y : Wd D τ s A s.heap (bl []) _ _ := Y
    refine lv_pop B.1 B.2.1 dJ0_checkIndex_df160_8 rfl ?_
    exact eV B hr hlk Y () trivial [] (by decide) rfl (Nat.le_of_ble_eq_true rfl) (Nat.le_of_ble_eq_true rfl) dJ0_checkIndex_df160_9

