set_option maxHeartbeats 4000000 in
set_option maxRecDepth 100000 in
theorem k_in (l : Launch) (D : va_G) (τ : Nat → ClassId) (sz : Nat) (x b d : Int32) : Met l yX10_in (Cond.code yX10_in cX10_in 6 (some .boolean) :: wALL) { frames := 0, cells := 0, slots := 0, locals := 0 } (Pw D τ [] sz [.long (Int32.toInt64 x), .long (Int32.toInt64 b), .long (Int32.toInt64 d)]) (va_Qi (fun (r : Int32) (_ : Unit) => (¬ x < b ∧ ¬ d < x → r = 1) ∧ (x < b ∨ d < x → r = 0)) (Bw D (va_A [] sz) (fun (_ : Unit) => [])) (va_A [] sz)) 0 0 (va_A [] sz) := by
  refine bodyW (by decide) (Nat.le_of_ble_eq_true rfl) (fun p e s m below meth c ls B hr hlk hin hsz Y hl => ?_)
  have hl : lv_has ls 6 [(0, .long (Int32.toInt64 x)), (2, .long (Int32.toInt64 b)), (4, .long (Int32.toInt64 d))] := hl
  have B : CallFix p m c cX10_in 6 s _ wALL RX10 := B
  generalize va_A [] sz = A at Y ⊢
  refine lv_lload_n B.1 B.2.1 dX10_in_0 rfl (lv_at hl 0 rfl) ?_
  refine lv_lload_n B.1 B.2.1 dX10_in_1 rfl (lv_at hl 1 rfl) ?_
  refine t_lcmp B.1 B.2.1 dX10_in_2 (fun z1 z1a z1b z1c => ?_)
  refine lv_if_lt (tgt := 17) B.1 B.2.1 dX10_in_3 (by decide) (fun c2 => ?_) (fun c2 => ?_)
  · refine lv_iconst (v := 0) B.1 B.2.1 dX10_in_17 (by decide) ?_
    exact endZ B hr hlk Y (by decide) () ⟨fun h => absurd (z1a.mp c2) h.1, fun _ => rfl⟩ [] (by decide) rfl (Nat.le_of_ble_eq_true rfl) (Nat.le_of_ble_eq_true rfl) dX10_in_18
  · refine lv_lload_n B.1 B.2.1 dX10_in_6 rfl (lv_at hl 0 rfl) ?_
    refine lv_lload B.1 B.2.1 dX10_in_7 (lv_at hl 2 rfl) ?_
    refine t_lcmp B.1 B.2.1 dX10_in_9 (fun z3 z3a z3b z3c => ?_)
    refine lv_if_gt (tgt := 17) B.1 B.2.1 dX10_in_10 (by decide) (fun c4 => ?_) (fun c4 => ?_)
    · refine lv_iconst (v := 0) B.1 B.2.1 dX10_in_17 (by decide) ?_
      exact endZ B hr hlk Y (by decide) () ⟨fun h => absurd (z3b.mp c4) h.2, fun _ => rfl⟩ [] (by decide) rfl (Nat.le_of_ble_eq_true rfl) (Nat.le_of_ble_eq_true rfl) dX10_in_18
    · refine lv_iconst (v := 1) B.1 B.2.1 dX10_in_13 (by decide) ?_
      refine lv_goto (tgt := 18) B.1 B.2.1 dX10_in_14 (by decide) ?_
      exact endZ B hr hlk Y (by decide) () ⟨fun _ => rfl, fun h => absurd h (not_or.mpr ⟨fun q => c2 (z1a.mpr q), fun q => c4 (z3b.mpr q)⟩)⟩ [] (by decide) rfl (Nat.le_of_ble_eq_true rfl) (Nat.le_of_ble_eq_true rfl) dX10_in_18

set_option maxHeartbeats 4000000 in
set_option maxRecDepth 100000 in
theorem k_truth0 (l : Launch) (D : va_G) (τ : Nat → ClassId) (sz : Nat) : Met l yX10_truth (Cond.code yX10_truth cX10_truth 1 (some .int) :: wALL) { frames := 0, cells := 0, slots := 0, locals := 0 } (Pw D τ [] sz [.int 0]) (va_Qi (fun (r : Int32) (_ : Unit) => r = 0) (Bw D (va_A [] sz) (fun (_ : Unit) => [])) (va_A [] sz)) 0 0 (va_A [] sz) := by
  refine bodyW (by decide) (Nat.le_of_ble_eq_true rfl) (fun p e s m below meth c ls B hr hlk hin hsz Y hl => ?_)
  have hl : lv_has ls 1 [(0, .int 0)] := hl
  have B : CallFix p m c cX10_truth 1 s _ wALL RX10 := B
  generalize va_A [] sz = A at Y ⊢
  refine lv_iload_n B.1 B.2.1 dX10_truth_0 rfl (lv_at hl 0 rfl) ?_
  refine lv_if_eq (tgt := 8) B.1 B.2.1 dX10_truth_1 (by decide) (fun _ => ?_) (fun h => absurd (by decide) h)
  refine lv_iconst (v := 0) B.1 B.2.1 dX10_truth_8 (by decide) ?_
  exact endI B hr hlk Y () rfl [] (by decide) rfl (Nat.le_of_ble_eq_true rfl) (Nat.le_of_ble_eq_true rfl) dX10_truth_9

set_option maxHeartbeats 4000000 in
set_option maxRecDepth 100000 in
theorem k_truth1 (l : Launch) (D : va_G) (τ : Nat → ClassId) (sz : Nat) : Met l yX10_truth (Cond.code yX10_truth cX10_truth 1 (some .int) :: wALL) { frames := 0, cells := 0, slots := 0, locals := 0 } (Pw D τ [] sz [.int 1]) (va_Qi (fun (r : Int32) (_ : Unit) => r = 1) (Bw D (va_A [] sz) (fun (_ : Unit) => [])) (va_A [] sz)) 0 0 (va_A [] sz) := by
  refine bodyW (by decide) (Nat.le_of_ble_eq_true rfl) (fun p e s m below meth c ls B hr hlk hin hsz Y hl => ?_)
  have hl : lv_has ls 1 [(0, .int 1)] := hl
  have B : CallFix p m c cX10_truth 1 s _ wALL RX10 := B
  generalize va_A [] sz = A at Y ⊢
  refine lv_iload_n B.1 B.2.1 dX10_truth_0 rfl (lv_at hl 0 rfl) ?_
  refine lv_if_eq (tgt := 8) B.1 B.2.1 dX10_truth_1 (by decide) (fun h => absurd h (by decide)) (fun _ => ?_)
  refine lv_iconst (v := 1) B.1 B.2.1 dX10_truth_4 (by decide) ?_
  refine lv_goto (tgt := 9) B.1 B.2.1 dX10_truth_5 (by decide) ?_
  exact endI B hr hlk Y () rfl [] (by decide) rfl (Nat.le_of_ble_eq_true rfl) (Nat.le_of_ble_eq_true rfl) dX10_truth_9

set_option maxHeartbeats 4000000 in
set_option maxRecDepth 100000 in
theorem k_truthx (l : Launch) (D : va_G) (τ : Nat → ClassId) (sz : Nat) (b : Int32) : Met l yX10_truth (Cond.code yX10_truth cX10_truth 1 (some .int) :: wALL) { frames := 0, cells := 0, slots := 0, locals := 0 } (Pw D τ [] sz [.int b]) (va_Qi (fun (r : Int32) (_ : Unit) => True) (Bw D (va_A [] sz) (fun (_ : Unit) => [])) (va_A [] sz)) 0 0 (va_A [] sz) := by
  refine bodyW (by decide) (Nat.le_of_ble_eq_true rfl) (fun p e s m below meth c ls B hr hlk hin hsz Y hl => ?_)
  have hl : lv_has ls 1 [(0, .int b)] := hl
  have B : CallFix p m c cX10_truth 1 s _ wALL RX10 := B
  generalize va_A [] sz = A at Y ⊢
  refine lv_iload_n B.1 B.2.1 dX10_truth_0 rfl (lv_at hl 0 rfl) ?_
  refine lv_if_eq (tgt := 8) B.1 B.2.1 dX10_truth_1 (by decide) (fun c1 => ?_) (fun c1 => ?_)
  · refine lv_iconst (v := 0) B.1 B.2.1 dX10_truth_8 (by decide) ?_
    exact endI B hr hlk Y () trivial [] (by decide) rfl (Nat.le_of_ble_eq_true rfl) (Nat.le_of_ble_eq_true rfl) dX10_truth_9
  · refine lv_iconst (v := 1) B.1 B.2.1 dX10_truth_4 (by decide) ?_
    refine lv_goto (tgt := 9) B.1 B.2.1 dX10_truth_5 (by decide) ?_
    exact endI B hr hlk Y () trivial [] (by decide) rfl (Nat.le_of_ble_eq_true rfl) (Nat.le_of_ble_eq_true rfl) dX10_truth_9

set_option maxHeartbeats 4000000 in
set_option maxRecDepth 100000 in
theorem k_thrown (l : Launch) (D : va_G) (τ : Nat → ClassId) (sz : Nat) (mo e0 e1 e2 e3 e4 e5 e6 e7 e8 e9 e10 e11 e12 : Nat) (i0 i1 i2 i3 i4 i5 i6 i7 i8 i9 i10 i11 i12 i13 i14 i15 i16 : Int32) : Met l yX10_thrown (Cond.code yX10_thrown cX10_thrown 1 (some .int) :: wALL) { frames := 0, cells := 0, slots := 0, locals := 0 } (Pw D τ [(mo, .inr (10, [.ref e0, .ref e1, .ref e2, .ref e3, .ref e4, .int i0, .int i1, .int i2, .ref e5, .int i3, .int i4, .int i5, .int i6, .int i7, .int i8, .int i9, .int i10, .int i11, .int i12, .ref e6, .ref e7, .ref e8, .ref e9, .int i13, .ref e10, .ref e11, .int i14, .int i15, .ref e12, .int i16]))] sz [.ref mo]) (va_Qi (fun (r : Int32) (_ : Unit) => r = i1) (Bw D (va_A [(mo, .inr (10, [.ref e0, .ref e1, .ref e2, .ref e3, .ref e4, .int i0, .int i1, .int i2, .ref e5, .int i3, .int i4, .int i5, .int i6, .int i7, .int i8, .int i9, .int i10, .int i11, .int i12, .ref e6, .ref e7, .ref e8, .ref e9, .int i13, .ref e10, .ref e11, .int i14, .int i15, .ref e12, .int i16]))] sz) (fun (_ : Unit) => [])) (va_A [(mo, .inr (10, [.ref e0, .ref e1, .ref e2, .ref e3, .ref e4, .int i0, .int i1, .int i2, .ref e5, .int i3, .int i4, .int i5, .int i6, .int i7, .int i8, .int i9, .int i10, .int i11, .int i12, .ref e6, .ref e7, .ref e8, .ref e9, .int i13, .ref e10, .ref e11, .int i14, .int i15, .ref e12, .int i16]))] sz)) 0 0 (va_A [(mo, .inr (10, [.ref e0, .ref e1, .ref e2, .ref e3, .ref e4, .int i0, .int i1, .int i2, .ref e5, .int i3, .int i4, .int i5, .int i6, .int i7, .int i8, .int i9, .int i10, .int i11, .int i12, .ref e6, .ref e7, .ref e8, .ref e9, .int i13, .ref e10, .ref e11, .int i14, .int i15, .ref e12, .int i16]))] sz) := by
  refine bodyW (by decide) (Nat.le_of_ble_eq_true rfl) (fun p e s m below meth c ls B hr hlk hin hsz Y hl => ?_)
  have hl : lv_has ls 1 [(0, .ref mo)] := hl
  have B : CallFix p m c cX10_thrown 1 s _ wALL RX10 := B
  generalize va_A [(mo, .inr (10, [.ref e0, .ref e1, .ref e2, .ref e3, .ref e4, .int i0, .int i1, .int i2, .ref e5, .int i3, .int i4, .int i5, .int i6, .int i7, .int i8, .int i9, .int i10, .int i11, .int i12, .ref e6, .ref e7, .ref e8, .ref e9, .int i13, .ref e10, .ref e11, .int i14, .int i15, .ref e12, .int i16]))] sz = A at Y ⊢
  refine lv_aload_n B.1 B.2.1 dX10_thrown_0 rfl (lv_at hl 0 rfl) ?_
  refine gf_X10_62 B Y 0 rfl rfl dX10_thrown_1 ?_
  exact endI B hr hlk Y () rfl [] (by decide) rfl (Nat.le_of_ble_eq_true rfl) (Nat.le_of_ble_eq_true rfl) dX10_thrown_4

set_option maxHeartbeats 4000000 in
set_option maxRecDepth 100000 in
theorem k_passes0 (l : Launch) (D : va_G) (τ : Nat → ClassId) (sz : Nat) (mo e0 e1 e2 e3 e4 e5 e6 e7 e8 e9 e10 e11 e12 : Nat) (i0 i1 i2 i3 i4 i5 i6 i7 i8 i9 i10 i11 i12 i13 i14 i15 i16 : Int32) : Met l yX10_passes (Cond.code yX10_passes cX10_passes 2 (some .boolean) :: wALL) { frames := 0, cells := 0, slots := 0, locals := 0 } (Pw D τ [(mo, .inr (10, [.ref e0, .ref e1, .ref e2, .ref e3, .ref e4, .int i0, .int i1, .int i2, .ref e5, .int i3, .int i4, .int i5, .int i6, .int i7, .int i8, .int i9, .int i10, .int i11, .int i12, .ref e6, .ref e7, .ref e8, .ref e9, .int i13, .ref e10, .ref e11, .int i14, .int i15, .ref e12, .int i16]))] sz [.ref mo, .int 0]) (va_Qi (fun (r : Int32) (_ : Unit) => r = 0) (Bw D (va_A [(mo, .inr (10, [.ref e0, .ref e1, .ref e2, .ref e3, .ref e4, .int i0, .int i1, .int i2, .ref e5, .int i3, .int i4, .int i5, .int i6, .int i7, .int i8, .int i9, .int i10, .int i11, .int i12, .ref e6, .ref e7, .ref e8, .ref e9, .int i13, .ref e10, .ref e11, .int i14, .int i15, .ref e12, .int i16]))] sz) (fun (_ : Unit) => [(mo, .inr (10, [.ref e0, .ref e1, .ref e2, .ref e3, .ref e4, .int i0, .int 1, .int i2, .ref e5, .int i3, .int i4, .int i5, .int i6, .int i7, .int i8, .int i9, .int i10, .int i11, .int i12, .ref e6, .ref e7, .ref e8, .ref e9, .int i13, .ref e10, .ref e11, .int i14, .int i15, .ref e12, .int i16]))])) (va_A [(mo, .inr (10, [.ref e0, .ref e1, .ref e2, .ref e3, .ref e4, .int i0, .int i1, .int i2, .ref e5, .int i3, .int i4, .int i5, .int i6, .int i7, .int i8, .int i9, .int i10, .int i11, .int i12, .ref e6, .ref e7, .ref e8, .ref e9, .int i13, .ref e10, .ref e11, .int i14, .int i15, .ref e12, .int i16]))] sz)) 0 0 (va_A [(mo, .inr (10, [.ref e0, .ref e1, .ref e2, .ref e3, .ref e4, .int i0, .int i1, .int i2, .ref e5, .int i3, .int i4, .int i5, .int i6, .int i7, .int i8, .int i9, .int i10, .int i11, .int i12, .ref e6, .ref e7, .ref e8, .ref e9, .int i13, .ref e10, .ref e11, .int i14, .int i15, .ref e12, .int i16]))] sz) := by
  refine bodyW (by decide) (Nat.le_of_ble_eq_true rfl) (fun p e s m below meth c ls B hr hlk hin hsz Y hl => ?_)
  have hl : lv_has ls 2 [(0, .ref mo), (1, .int 0)] := hl
  have B : CallFix p m c cX10_passes 2 s _ wALL RX10 := B
  generalize va_A [(mo, .inr (10, [.ref e0, .ref e1, .ref e2, .ref e3, .ref e4, .int i0, .int i1, .int i2, .ref e5, .int i3, .int i4, .int i5, .int i6, .int i7, .int i8, .int i9, .int i10, .int i11, .int i12, .ref e6, .ref e7, .ref e8, .ref e9, .int i13, .ref e10, .ref e11, .int i14, .int i15, .ref e12, .int i16]))] sz = A at Y ⊢
  refine lv_aload_n B.1 B.2.1 dX10_passes_0 rfl (lv_at hl 0 rfl) ?_
  refine lv_iload_n B.1 B.2.1 dX10_passes_1 rfl (lv_at hl 1 rfl) ?_
  refine lv_if_eq (tgt := 9) B.1 B.2.1 dX10_passes_2 (by decide) (fun _ => ?_) (fun h => absurd (by decide) h)
  refine lv_iconst (v := 1) B.1 B.2.1 dX10_passes_9 (by decide) ?_
  refine pf_X10_62 (ws' := [(mo, .inr (10, [.ref e0, .ref e1, .ref e2, .ref e3, .ref e4, .int i0, .int 1, .int i2, .ref e5, .int i3, .int i4, .int i5, .int i6, .int i7, .int i8, .int i9, .int i10, .int i11, .int i12, .ref e6, .ref e7, .ref e8, .ref e9, .int i13, .ref e10, .ref e11, .int i14, .int i15, .ref e12, .int i16]))]) B Y 0 rfl (Nat.le_of_ble_eq_true rfl) rfl dX10_passes_10 (fun H locs Y => ?_)
  refine lv_iload_n B.1 B.2.1 dX10_passes_13 rfl (lv_at hl 1 rfl) ?_
  exact endZ B hr hlk Y (by decide) () rfl [0] (by decide) rfl (Nat.le_of_ble_eq_true rfl) (Nat.le_of_ble_eq_true rfl) dX10_passes_14

set_option maxHeartbeats 4000000 in
set_option maxRecDepth 100000 in
theorem k_passes1 (l : Launch) (D : va_G) (τ : Nat → ClassId) (sz : Nat) (mo e0 e1 e2 e3 e4 e5 e6 e7 e8 e9 e10 e11 e12 : Nat) (i0 i1 i2 i3 i4 i5 i6 i7 i8 i9 i10 i11 i12 i13 i14 i15 i16 : Int32) : Met l yX10_passes (Cond.code yX10_passes cX10_passes 2 (some .boolean) :: wALL) { frames := 0, cells := 0, slots := 0, locals := 0 } (Pw D τ [(mo, .inr (10, [.ref e0, .ref e1, .ref e2, .ref e3, .ref e4, .int i0, .int i1, .int i2, .ref e5, .int i3, .int i4, .int i5, .int i6, .int i7, .int i8, .int i9, .int i10, .int i11, .int i12, .ref e6, .ref e7, .ref e8, .ref e9, .int i13, .ref e10, .ref e11, .int i14, .int i15, .ref e12, .int i16]))] sz [.ref mo, .int 1]) (va_Qi (fun (r : Int32) (_ : Unit) => r = 1) (Bw D (va_A [(mo, .inr (10, [.ref e0, .ref e1, .ref e2, .ref e3, .ref e4, .int i0, .int i1, .int i2, .ref e5, .int i3, .int i4, .int i5, .int i6, .int i7, .int i8, .int i9, .int i10, .int i11, .int i12, .ref e6, .ref e7, .ref e8, .ref e9, .int i13, .ref e10, .ref e11, .int i14, .int i15, .ref e12, .int i16]))] sz) (fun (_ : Unit) => [(mo, .inr (10, [.ref e0, .ref e1, .ref e2, .ref e3, .ref e4, .int i0, .int 0, .int i2, .ref e5, .int i3, .int i4, .int i5, .int i6, .int i7, .int i8, .int i9, .int i10, .int i11, .int i12, .ref e6, .ref e7, .ref e8, .ref e9, .int i13, .ref e10, .ref e11, .int i14, .int i15, .ref e12, .int i16]))])) (va_A [(mo, .inr (10, [.ref e0, .ref e1, .ref e2, .ref e3, .ref e4, .int i0, .int i1, .int i2, .ref e5, .int i3, .int i4, .int i5, .int i6, .int i7, .int i8, .int i9, .int i10, .int i11, .int i12, .ref e6, .ref e7, .ref e8, .ref e9, .int i13, .ref e10, .ref e11, .int i14, .int i15, .ref e12, .int i16]))] sz)) 0 0 (va_A [(mo, .inr (10, [.ref e0, .ref e1, .ref e2, .ref e3, .ref e4, .int i0, .int i1, .int i2, .ref e5, .int i3, .int i4, .int i5, .int i6, .int i7, .int i8, .int i9, .int i10, .int i11, .int i12, .ref e6, .ref e7, .ref e8, .ref e9, .int i13, .ref e10, .ref e11, .int i14, .int i15, .ref e12, .int i16]))] sz) := by
  refine bodyW (by decide) (Nat.le_of_ble_eq_true rfl) (fun p e s m below meth c ls B hr hlk hin hsz Y hl => ?_)
  have hl : lv_has ls 2 [(0, .ref mo), (1, .int 1)] := hl
  have B : CallFix p m c cX10_passes 2 s _ wALL RX10 := B
  generalize va_A [(mo, .inr (10, [.ref e0, .ref e1, .ref e2, .ref e3, .ref e4, .int i0, .int i1, .int i2, .ref e5, .int i3, .int i4, .int i5, .int i6, .int i7, .int i8, .int i9, .int i10, .int i11, .int i12, .ref e6, .ref e7, .ref e8, .ref e9, .int i13, .ref e10, .ref e11, .int i14, .int i15, .ref e12, .int i16]))] sz = A at Y ⊢
  refine lv_aload_n B.1 B.2.1 dX10_passes_0 rfl (lv_at hl 0 rfl) ?_
  refine lv_iload_n B.1 B.2.1 dX10_passes_1 rfl (lv_at hl 1 rfl) ?_
  refine lv_if_eq (tgt := 9) B.1 B.2.1 dX10_passes_2 (by decide) (fun h => absurd h (by decide)) (fun _ => ?_)
  refine lv_iconst (v := 0) B.1 B.2.1 dX10_passes_5 (by decide) ?_
  refine lv_goto (tgt := 10) B.1 B.2.1 dX10_passes_6 (by decide) ?_
  refine pf_X10_62 (ws' := [(mo, .inr (10, [.ref e0, .ref e1, .ref e2, .ref e3, .ref e4, .int i0, .int 0, .int i2, .ref e5, .int i3, .int i4, .int i5, .int i6, .int i7, .int i8, .int i9, .int i10, .int i11, .int i12, .ref e6, .ref e7, .ref e8, .ref e9, .int i13, .ref e10, .ref e11, .int i14, .int i15, .ref e12, .int i16]))]) B Y 0 rfl (Nat.le_of_ble_eq_true rfl) rfl dX10_passes_10 (fun H locs Y => ?_)
  refine lv_iload_n B.1 B.2.1 dX10_passes_13 rfl (lv_at hl 1 rfl) ?_
  exact endZ B hr hlk Y (by decide) () rfl [0] (by decide) rfl (Nat.le_of_ble_eq_true rfl) (Nat.le_of_ble_eq_true rfl) dX10_passes_14

set_option maxHeartbeats 4000000 in
set_option maxRecDepth 100000 in
theorem k_passesBoth0 (l : Launch) (D : va_G) (τ : Nat → ClassId) (sz : Nat) (mo e0 e1 e2 e3 e4 e5 e6 e7 e8 e9 e10 e11 e12 : Nat) (i0 i1 i2 i3 i4 i5 i6 i7 i8 i9 i10 i11 i12 i13 i14 i15 i16 : Int32) (b : Int32) : Met l yX10_passesBoth (Cond.code yX10_passesBoth cX10_passesBoth 3 (some .boolean) :: wALL) { frames := 0, cells := 0, slots := 0, locals := 0 } (Pw D τ [(mo, .inr (10, [.ref e0, .ref e1, .ref e2, .ref e3, .ref e4, .int i0, .int i1, .int i2, .ref e5, .int i3, .int i4, .int i5, .int i6, .int i7, .int i8, .int i9, .int i10, .int i11, .int i12, .ref e6, .ref e7, .ref e8, .ref e9, .int i13, .ref e10, .ref e11, .int i14, .int i15, .ref e12, .int i16]))] sz [.ref mo, .int 0, .int b]) (va_Qi (fun (r : Int32) (_ : Unit) => r = 0) (Bw D (va_A [(mo, .inr (10, [.ref e0, .ref e1, .ref e2, .ref e3, .ref e4, .int i0, .int i1, .int i2, .ref e5, .int i3, .int i4, .int i5, .int i6, .int i7, .int i8, .int i9, .int i10, .int i11, .int i12, .ref e6, .ref e7, .ref e8, .ref e9, .int i13, .ref e10, .ref e11, .int i14, .int i15, .ref e12, .int i16]))] sz) (fun (_ : Unit) => [(mo, .inr (10, [.ref e0, .ref e1, .ref e2, .ref e3, .ref e4, .int i0, .int 1, .int i2, .ref e5, .int i3, .int i4, .int i5, .int i6, .int i7, .int i8, .int i9, .int i10, .int i11, .int i12, .ref e6, .ref e7, .ref e8, .ref e9, .int i13, .ref e10, .ref e11, .int i14, .int i15, .ref e12, .int i16]))])) (va_A [(mo, .inr (10, [.ref e0, .ref e1, .ref e2, .ref e3, .ref e4, .int i0, .int i1, .int i2, .ref e5, .int i3, .int i4, .int i5, .int i6, .int i7, .int i8, .int i9, .int i10, .int i11, .int i12, .ref e6, .ref e7, .ref e8, .ref e9, .int i13, .ref e10, .ref e11, .int i14, .int i15, .ref e12, .int i16]))] sz)) 0 0 (va_A [(mo, .inr (10, [.ref e0, .ref e1, .ref e2, .ref e3, .ref e4, .int i0, .int i1, .int i2, .ref e5, .int i3, .int i4, .int i5, .int i6, .int i7, .int i8, .int i9, .int i10, .int i11, .int i12, .ref e6, .ref e7, .ref e8, .ref e9, .int i13, .ref e10, .ref e11, .int i14, .int i15, .ref e12, .int i16]))] sz) := by
  refine bodyW (by decide) (Nat.le_of_ble_eq_true rfl) (fun p e s m below meth c ls B hr hlk hin hsz Y hl => ?_)
  have hl : lv_has ls 3 [(0, .ref mo), (1, .int 0), (2, .int b)] := hl
  have B : CallFix p m c cX10_passesBoth 3 s _ wALL RX10 := B
  generalize va_A [(mo, .inr (10, [.ref e0, .ref e1, .ref e2, .ref e3, .ref e4, .int i0, .int i1, .int i2, .ref e5, .int i3, .int i4, .int i5, .int i6, .int i7, .int i8, .int i9, .int i10, .int i11, .int i12, .ref e6, .ref e7, .ref e8, .ref e9, .int i13, .ref e10, .ref e11, .int i14, .int i15, .ref e12, .int i16]))] sz = A at Y ⊢
  refine lv_aload_n B.1 B.2.1 dX10_passesBoth_0 rfl (lv_at hl 0 rfl) ?_
  refine lv_iload_n B.1 B.2.1 dX10_passesBoth_1 rfl (lv_at hl 1 rfl) ?_
  refine lv_if_ne (tgt := 9) B.1 B.2.1 dX10_passesBoth_2 (by decide) (fun h => absurd (by decide) h) (fun _ => ?_)
  refine lv_iconst (v := 1) B.1 B.2.1 dX10_passesBoth_5 (by decide) ?_
  refine lv_goto (tgt := 18) B.1 B.2.1 dX10_passesBoth_6 (by decide) ?_
  refine pf_X10_62 (ws' := [(mo, .inr (10, [.ref e0, .ref e1, .ref e2, .ref e3, .ref e4, .int i0, .int 1, .int i2, .ref e5, .int i3, .int i4, .int i5, .int i6, .int i7, .int i8, .int i9, .int i10, .int i11, .int i12, .ref e6, .ref e7, .ref e8, .ref e9, .int i13, .ref e10, .ref e11, .int i14, .int i15, .ref e12, .int i16]))]) B Y 0 rfl (Nat.le_of_ble_eq_true rfl) rfl dX10_passesBoth_18 (fun H locs Y => ?_)
  refine lv_aload_n B.1 B.2.1 dX10_passesBoth_21 rfl (lv_at hl 0 rfl) ?_
  refine gf_X10_62 B Y 0 rfl rfl dX10_passesBoth_22 ?_
  refine lv_if_ne (tgt := 32) B.1 B.2.1 dX10_passesBoth_25 (by decide) (fun _ => ?_) (fun h => absurd h (by decide))
  refine lv_iconst (v := 0) B.1 B.2.1 dX10_passesBoth_32 (by decide) ?_
  exact endZ B hr hlk Y (by decide) () rfl [0] (by decide) rfl (Nat.le_of_ble_eq_true rfl) (Nat.le_of_ble_eq_true rfl) dX10_passesBoth_33

set_option maxHeartbeats 4000000 in
set_option maxRecDepth 100000 in
theorem k_passesBoth10 (l : Launch) (D : va_G) (τ : Nat → ClassId) (sz : Nat) (mo e0 e1 e2 e3 e4 e5 e6 e7 e8 e9 e10 e11 e12 : Nat) (i0 i1 i2 i3 i4 i5 i6 i7 i8 i9 i10 i11 i12 i13 i14 i15 i16 : Int32) : Met l yX10_passesBoth (Cond.code yX10_passesBoth cX10_passesBoth 3 (some .boolean) :: wALL) { frames := 0, cells := 0, slots := 0, locals := 0 } (Pw D τ [(mo, .inr (10, [.ref e0, .ref e1, .ref e2, .ref e3, .ref e4, .int i0, .int i1, .int i2, .ref e5, .int i3, .int i4, .int i5, .int i6, .int i7, .int i8, .int i9, .int i10, .int i11, .int i12, .ref e6, .ref e7, .ref e8, .ref e9, .int i13, .ref e10, .ref e11, .int i14, .int i15, .ref e12, .int i16]))] sz [.ref mo, .int 1, .int 0]) (va_Qi (fun (r : Int32) (_ : Unit) => r = 0) (Bw D (va_A [(mo, .inr (10, [.ref e0, .ref e1, .ref e2, .ref e3, .ref e4, .int i0, .int i1, .int i2, .ref e5, .int i3, .int i4, .int i5, .int i6, .int i7, .int i8, .int i9, .int i10, .int i11, .int i12, .ref e6, .ref e7, .ref e8, .ref e9, .int i13, .ref e10, .ref e11, .int i14, .int i15, .ref e12, .int i16]))] sz) (fun (_ : Unit) => [(mo, .inr (10, [.ref e0, .ref e1, .ref e2, .ref e3, .ref e4, .int i0, .int 2, .int i2, .ref e5, .int i3, .int i4, .int i5, .int i6, .int i7, .int i8, .int i9, .int i10, .int i11, .int i12, .ref e6, .ref e7, .ref e8, .ref e9, .int i13, .ref e10, .ref e11, .int i14, .int i15, .ref e12, .int i16]))])) (va_A [(mo, .inr (10, [.ref e0, .ref e1, .ref e2, .ref e3, .ref e4, .int i0, .int i1, .int i2, .ref e5, .int i3, .int i4, .int i5, .int i6, .int i7, .int i8, .int i9, .int i10, .int i11, .int i12, .ref e6, .ref e7, .ref e8, .ref e9, .int i13, .ref e10, .ref e11, .int i14, .int i15, .ref e12, .int i16]))] sz)) 0 0 (va_A [(mo, .inr (10, [.ref e0, .ref e1, .ref e2, .ref e3, .ref e4, .int i0, .int i1, .int i2, .ref e5, .int i3, .int i4, .int i5, .int i6, .int i7, .int i8, .int i9, .int i10, .int i11, .int i12, .ref e6, .ref e7, .ref e8, .ref e9, .int i13, .ref e10, .ref e11, .int i14, .int i15, .ref e12, .int i16]))] sz) := by
  refine bodyW (by decide) (Nat.le_of_ble_eq_true rfl) (fun p e s m below meth c ls B hr hlk hin hsz Y hl => ?_)
  have hl : lv_has ls 3 [(0, .ref mo), (1, .int 1), (2, .int 0)] := hl
  have B : CallFix p m c cX10_passesBoth 3 s _ wALL RX10 := B
  generalize va_A [(mo, .inr (10, [.ref e0, .ref e1, .ref e2, .ref e3, .ref e4, .int i0, .int i1, .int i2, .ref e5, .int i3, .int i4, .int i5, .int i6, .int i7, .int i8, .int i9, .int i10, .int i11, .int i12, .ref e6, .ref e7, .ref e8, .ref e9, .int i13, .ref e10, .ref e11, .int i14, .int i15, .ref e12, .int i16]))] sz = A at Y ⊢
  refine lv_aload_n B.1 B.2.1 dX10_passesBoth_0 rfl (lv_at hl 0 rfl) ?_
  refine lv_iload_n B.1 B.2.1 dX10_passesBoth_1 rfl (lv_at hl 1 rfl) ?_
  refine lv_if_ne (tgt := 9) B.1 B.2.1 dX10_passesBoth_2 (by decide) (fun _ => ?_) (fun h => absurd h (by decide))
  refine lv_iload_n B.1 B.2.1 dX10_passesBoth_9 rfl (lv_at hl 2 rfl) ?_
  refine lv_if_ne (tgt := 17) B.1 B.2.1 dX10_passesBoth_10 (by decide) (fun h => absurd (by decide) h) (fun _ => ?_)
  refine lv_iconst (v := 2) B.1 B.2.1 dX10_passesBoth_13 (by decide) ?_
  refine lv_goto (tgt := 18) B.1 B.2.1 dX10_passesBoth_14 (by decide) ?_
  refine pf_X10_62 (ws' := [(mo, .inr (10, [.ref e0, .ref e1, .ref e2, .ref e3, .ref e4, .int i0, .int 2, .int i2, .ref e5, .int i3, .int i4, .int i5, .int i6, .int i7, .int i8, .int i9, .int i10, .int i11, .int i12, .ref e6, .ref e7, .ref e8, .ref e9, .int i13, .ref e10, .ref e11, .int i14, .int i15, .ref e12, .int i16]))]) B Y 0 rfl (Nat.le_of_ble_eq_true rfl) rfl dX10_passesBoth_18 (fun H locs Y => ?_)
  refine lv_aload_n B.1 B.2.1 dX10_passesBoth_21 rfl (lv_at hl 0 rfl) ?_
  refine gf_X10_62 B Y 0 rfl rfl dX10_passesBoth_22 ?_
  refine lv_if_ne (tgt := 32) B.1 B.2.1 dX10_passesBoth_25 (by decide) (fun _ => ?_) (fun h => absurd h (by decide))
  refine lv_iconst (v := 0) B.1 B.2.1 dX10_passesBoth_32 (by decide) ?_
  exact endZ B hr hlk Y (by decide) () rfl [0] (by decide) rfl (Nat.le_of_ble_eq_true rfl) (Nat.le_of_ble_eq_true rfl) dX10_passesBoth_33

set_option maxHeartbeats 4000000 in
set_option maxRecDepth 100000 in
theorem k_passesBoth11 (l : Launch) (D : va_G) (τ : Nat → ClassId) (sz : Nat) (mo e0 e1 e2 e3 e4 e5 e6 e7 e8 e9 e10 e11 e12 : Nat) (i0 i1 i2 i3 i4 i5 i6 i7 i8 i9 i10 i11 i12 i13 i14 i15 i16 : Int32) : Met l yX10_passesBoth (Cond.code yX10_passesBoth cX10_passesBoth 3 (some .boolean) :: wALL) { frames := 0, cells := 0, slots := 0, locals := 0 } (Pw D τ [(mo, .inr (10, [.ref e0, .ref e1, .ref e2, .ref e3, .ref e4, .int i0, .int i1, .int i2, .ref e5, .int i3, .int i4, .int i5, .int i6, .int i7, .int i8, .int i9, .int i10, .int i11, .int i12, .ref e6, .ref e7, .ref e8, .ref e9, .int i13, .ref e10, .ref e11, .int i14, .int i15, .ref e12, .int i16]))] sz [.ref mo, .int 1, .int 1]) (va_Qi (fun (r : Int32) (_ : Unit) => r = 1) (Bw D (va_A [(mo, .inr (10, [.ref e0, .ref e1, .ref e2, .ref e3, .ref e4, .int i0, .int i1, .int i2, .ref e5, .int i3, .int i4, .int i5, .int i6, .int i7, .int i8, .int i9, .int i10, .int i11, .int i12, .ref e6, .ref e7, .ref e8, .ref e9, .int i13, .ref e10, .ref e11, .int i14, .int i15, .ref e12, .int i16]))] sz) (fun (_ : Unit) => [(mo, .inr (10, [.ref e0, .ref e1, .ref e2, .ref e3, .ref e4, .int i0, .int 0, .int i2, .ref e5, .int i3, .int i4, .int i5, .int i6, .int i7, .int i8, .int i9, .int i10, .int i11, .int i12, .ref e6, .ref e7, .ref e8, .ref e9, .int i13, .ref e10, .ref e11, .int i14, .int i15, .ref e12, .int i16]))])) (va_A [(mo, .inr (10, [.ref e0, .ref e1, .ref e2, .ref e3, .ref e4, .int i0, .int i1, .int i2, .ref e5, .int i3, .int i4, .int i5, .int i6, .int i7, .int i8, .int i9, .int i10, .int i11, .int i12, .ref e6, .ref e7, .ref e8, .ref e9, .int i13, .ref e10, .ref e11, .int i14, .int i15, .ref e12, .int i16]))] sz)) 0 0 (va_A [(mo, .inr (10, [.ref e0, .ref e1, .ref e2, .ref e3, .ref e4, .int i0, .int i1, .int i2, .ref e5, .int i3, .int i4, .int i5, .int i6, .int i7, .int i8, .int i9, .int i10, .int i11, .int i12, .ref e6, .ref e7, .ref e8, .ref e9, .int i13, .ref e10, .ref e11, .int i14, .int i15, .ref e12, .int i16]))] sz) := by
  refine bodyW (by decide) (Nat.le_of_ble_eq_true rfl) (fun p e s m below meth c ls B hr hlk hin hsz Y hl => ?_)
  have hl : lv_has ls 3 [(0, .ref mo), (1, .int 1), (2, .int 1)] := hl
  have B : CallFix p m c cX10_passesBoth 3 s _ wALL RX10 := B
  generalize va_A [(mo, .inr (10, [.ref e0, .ref e1, .ref e2, .ref e3, .ref e4, .int i0, .int i1, .int i2, .ref e5, .int i3, .int i4, .int i5, .int i6, .int i7, .int i8, .int i9, .int i10, .int i11, .int i12, .ref e6, .ref e7, .ref e8, .ref e9, .int i13, .ref e10, .ref e11, .int i14, .int i15, .ref e12, .int i16]))] sz = A at Y ⊢
  refine lv_aload_n B.1 B.2.1 dX10_passesBoth_0 rfl (lv_at hl 0 rfl) ?_
  refine lv_iload_n B.1 B.2.1 dX10_passesBoth_1 rfl (lv_at hl 1 rfl) ?_
  refine lv_if_ne (tgt := 9) B.1 B.2.1 dX10_passesBoth_2 (by decide) (fun _ => ?_) (fun h => absurd h (by decide))
  refine lv_iload_n B.1 B.2.1 dX10_passesBoth_9 rfl (lv_at hl 2 rfl) ?_
  refine lv_if_ne (tgt := 17) B.1 B.2.1 dX10_passesBoth_10 (by decide) (fun _ => ?_) (fun h => absurd h (by decide))
  refine lv_iconst (v := 0) B.1 B.2.1 dX10_passesBoth_17 (by decide) ?_
  refine pf_X10_62 (ws' := [(mo, .inr (10, [.ref e0, .ref e1, .ref e2, .ref e3, .ref e4, .int i0, .int 0, .int i2, .ref e5, .int i3, .int i4, .int i5, .int i6, .int i7, .int i8, .int i9, .int i10, .int i11, .int i12, .ref e6, .ref e7, .ref e8, .ref e9, .int i13, .ref e10, .ref e11, .int i14, .int i15, .ref e12, .int i16]))]) B Y 0 rfl (Nat.le_of_ble_eq_true rfl) rfl dX10_passesBoth_18 (fun H locs Y => ?_)
  refine lv_aload_n B.1 B.2.1 dX10_passesBoth_21 rfl (lv_at hl 0 rfl) ?_
  refine gf_X10_62 B Y 0 rfl rfl dX10_passesBoth_22 ?_
  refine lv_if_ne (tgt := 32) B.1 B.2.1 dX10_passesBoth_25 (by decide) (fun h => absurd (by decide) h) (fun _ => ?_)
  refine lv_iconst (v := 1) B.1 B.2.1 dX10_passesBoth_28 (by decide) ?_
  refine lv_goto (tgt := 33) B.1 B.2.1 dX10_passesBoth_29 (by decide) ?_
  exact endZ B hr hlk Y (by decide) () rfl [0] (by decide) rfl (Nat.le_of_ble_eq_true rfl) (Nat.le_of_ble_eq_true rfl) dX10_passesBoth_33

set_option maxHeartbeats 4000000 in
set_option maxRecDepth 100000 in
theorem lp_copies {p : Program} {l : Launch} {e : Env} {s : State} {m : MethodId} {args : Array Value} {below : List Frame} {meth : Method} {c : Code} {Q : State → Prop} {D : va_G} {τ : Nat → ClassId} {A : Nat → Prop} {H0 : Heap} {a b nb : Nat} {f g : Nat → Int32} (hn : 16816 ≤ nb) (hnb : nb < 2 ^ 31) (B : CallFix p m c cX10_copies 5 s args wALL RX10)
    (kx : ∀ (H : Heap) (locs : List Loc) (ls : Array Slot), lv_has ls 5 [(4, .int (nI 16816)), (0, .ref a), (1, .int 0), (2, .ref b), (3, .int 0)] → Wd D τ s A H0 [(a, .inl (τ 0, 16816, .inl (f))), (b, .inl (τ 0, nb, .inl (fil f g 16816)))] H locs → W p l e ({ frames := 0, cells := 0, slots := 0, locals := 0 } : Room) s m args below meth c H locs 0 0 Q (F0 m 29 ls [])) :
    ∀ (k i : Nat) (H : Heap) (locs : List Loc) (ls : Array Slot), i + k = 16816 → lv_has ls 5 [(4, .int (nI i)), (0, .ref a), (1, .int 0), (2, .ref b), (3, .int 0)] → Wd D τ s A H0 [(a, .inl (τ 0, 16816, .inl (f))), (b, .inl (τ 0, nb, .inl (fil f g i)))] H locs → W p l e ({ frames := 0, cells := 0, slots := 0, locals := 0 } : Room) s m args below meth c H locs 0 0 Q (F0 m 3 ls []) := by
  intro k
  induction k with
  | zero =>
    intro i H locs ls hi hl Y
    have hi : i = 16816 := by omega
    rw [hi] at hl Y
    refine lv_iload B.1 B.2.1 dX10_copies_3 (lv_at hl 0 rfl) ?_
    refine lv_sipush (v := 16816) B.1 B.2.1 dX10_copies_5 (by decide) ?_
    refine lv_icmp_ge (tgt := 29) B.1 B.2.1 dX10_copies_8 (by decide) (fun _ => ?_) (fun h => absurd (by decide) h)
    exact kx H locs ls (lv_sub hl [0, 1, 2, 3, 4] rfl) Y
  | succ k ih =>
    intro i H locs ls hi hl Y
    have hlt : i < 16816 := by omega
    refine lv_iload B.1 B.2.1 dX10_copies_3 (lv_at hl 0 rfl) ?_
    refine lv_sipush (v := 16816) B.1 B.2.1 dX10_copies_5 (by decide) ?_
    refine lv_icmp_ge (tgt := 29) B.1 B.2.1 dX10_copies_8 (by decide) (fun h => absurd h (nI_ge hlt (by decide))) (fun _ => ?_)
    refine lv_aload_n B.1 B.2.1 dX10_copies_11 rfl (lv_at hl 3 rfl) ?_
    refine lv_iload_n B.1 B.2.1 dX10_copies_12 rfl (lv_at hl 4 rfl) ?_
    refine lv_iload B.1 B.2.1 dX10_copies_13 (lv_at hl 0 rfl) ?_
    refine lv_iadd B.1 B.2.1 dX10_copies_15 ?_
    refine lv_cv (v := (nI i)) (Int32.zero_add _) ?_
    refine lv_aload_n B.1 B.2.1 dX10_copies_16 rfl (lv_at hl 1 rfl) ?_
    refine lv_iload_n B.1 B.2.1 dX10_copies_17 rfl (lv_at hl 2 rfl) ?_
    refine lv_iload B.1 B.2.1 dX10_copies_18 (lv_at hl 0 rfl) ?_
    refine lv_iadd B.1 B.2.1 dX10_copies_20 ?_
    refine lv_cv (v := (nI i)) (Int32.zero_add _) ?_
    refine t_iald (v := (f i)) (j := i) B Y 0 rfl (nI_pos (Nat.lt_trans hlt (by decide))) (nI_clamp (Nat.lt_trans hlt (by decide))) hlt rfl dX10_copies_21 ?_
    refine t_iast (j := i) (g := fil f g (i + 1)) (ws' := [(a, .inl (τ 0, 16816, .inl (f))), (b, .inl (τ 0, nb, .inl (fil f g (i + 1))))]) B Y 1 rfl (nI_pos (Nat.lt_trans hlt (by decide))) (nI_clamp (Nat.lt_trans hlt (by decide))) (Nat.lt_of_lt_of_le hlt hn) (fil_s _ _ _ _ rfl) rfl dX10_copies_22 (fun H locs Y => ?_)
    refine lv_iinc (v := (nI (i + 1))) (lv' := [(4, .int (nI (i + 1))), (0, .ref a), (1, .int 0), (2, .ref b), (3, .int 0)]) B.1 B.2.1 dX10_copies_23 hl (k := 0) rfl (nI_1 i) (by decide) rfl (fun ls hl => ?_)
    refine lv_goto (tgt := 3) B.1 B.2.1 dX10_copies_26 (by decide) ?_
    exact ih (i + 1) H locs ls (by omega) (lv_sub hl [0, 1, 2, 3, 4] rfl) Y

set_option maxHeartbeats 4000000 in
set_option maxRecDepth 100000 in
theorem k_copies (l : Launch) (D : va_G) (τ : Nat → ClassId) (sz : Nat) (a b nb : Nat) (f g : Nat → Int32) (hn : 16816 ≤ nb) (hnb : nb < 2 ^ 31) : Met l yX10_copies (Cond.code yX10_copies cX10_copies 5 none :: wALL) { frames := 0, cells := 0, slots := 0, locals := 0 } (Pw D τ [(a, .inl (τ 0, 16816, .inl (f))), (b, .inl (τ 0, nb, .inl (g)))] sz [.ref a, .int 0, .ref b, .int 0]) (va_Qv (fun (u : Nat → Int32) => True) (Bw D (va_A [(a, .inl (τ 0, 16816, .inl (f))), (b, .inl (τ 0, nb, .inl (g)))] sz) (fun (u : Nat → Int32) => [(a, .inl (τ 0, 16816, .inl (f))), (b, .inl (τ 0, nb, .inl (u)))])) (va_A [(a, .inl (τ 0, 16816, .inl (f))), (b, .inl (τ 0, nb, .inl (g)))] sz)) 0 0 (va_A [(a, .inl (τ 0, 16816, .inl (f))), (b, .inl (τ 0, nb, .inl (g)))] sz) := by
  refine bodyW (by decide) (Nat.le_of_ble_eq_true rfl) (fun p e s m below meth c ls B hr hlk hin hsz Y hl => ?_)
  have hl : lv_has ls 5 [(0, .ref a), (1, .int 0), (2, .ref b), (3, .int 0)] := hl
  have B : CallFix p m c cX10_copies 5 s _ wALL RX10 := B
  generalize va_A [(a, .inl (τ 0, 16816, .inl (f))), (b, .inl (τ 0, nb, .inl (g)))] sz = A at Y ⊢
  refine lv_iconst (v := 0) B.1 B.2.1 dX10_copies_0 (by decide) ?_
  refine lv_istore (lv' := [(4, .int 0), (0, .ref a), (1, .int 0), (2, .ref b), (3, .int 0)]) B.1 B.2.1 dX10_copies_1 hl (by decide) rfl (fun ls hl => ?_)
  rw [← fil_0 f g] at Y
  refine lp_copies hn hnb B (fun H locs ls hl Y => ?_) 16816 0 _ _ _ (by omega) (lv_sub hl [0, 1, 2, 3, 4] rfl) Y
  exact endV B hr hlk Y (fil f g 16816) trivial [0, 1] (by decide) rfl (Nat.le_of_ble_eq_true rfl) (Nat.le_of_ble_eq_true rfl) dX10_copies_29

set_option maxHeartbeats 4000000 in
set_option maxRecDepth 100000 in
theorem lp_clears {p : Program} {l : Launch} {e : Env} {s : State} {m : MethodId} {args : Array Value} {below : List Frame} {meth : Method} {c : Code} {Q : State → Prop} {D : va_G} {τ : Nat → ClassId} {A : Nat → Prop} {H0 : Heap} {mo e0 e1 e2 e3 e4 e5 e6 e7 e8 e9 e10 e11 e12 : Nat} {i0 i1 i2 i3 i4 i5 i6 i7 i8 i9 i10 i11 i12 i13 i14 i15 i16 : Int32} {f : Nat → Int32} (B : CallFix p m c cX10_clears 2 s args wALL RX10)
    (kx : ∀ (H : Heap) (locs : List Loc) (ls : Array Slot), lv_has ls 2 [(1, .int (nI 16816)), (0, .ref mo)] → Wd D τ s A H0 [(mo, .inr (10, [.ref e0, .ref e1, .ref e2, .ref e3, .ref e4, .int i0, .int i1, .int i2, .ref e5, .int i3, .int i4, .int i5, .int i6, .int i7, .int i8, .int i9, .int i10, .int i11, .int i12, .ref e6, .ref e7, .ref e8, .ref e9, .int i13, .ref e10, .ref e11, .int i14, .int i15, .ref e12, .int i16])), (e0, .inl (τ 0, 16816, .inl (fil (fun _ => 0) f 16816)))] H locs → W p l e ({ frames := 0, cells := 0, slots := 0, locals := 0 } : Room) s m args below meth c H locs 0 0 Q (F0 m 22 ls [])) :
    ∀ (k i : Nat) (H : Heap) (locs : List Loc) (ls : Array Slot), i + k = 16816 → lv_has ls 2 [(1, .int (nI i)), (0, .ref mo)] → Wd D τ s A H0 [(mo, .inr (10, [.ref e0, .ref e1, .ref e2, .ref e3, .ref e4, .int i0, .int i1, .int i2, .ref e5, .int i3, .int i4, .int i5, .int i6, .int i7, .int i8, .int i9, .int i10, .int i11, .int i12, .ref e6, .ref e7, .ref e8, .ref e9, .int i13, .ref e10, .ref e11, .int i14, .int i15, .ref e12, .int i16])), (e0, .inl (τ 0, 16816, .inl (fil (fun _ => 0) f i)))] H locs → W p l e ({ frames := 0, cells := 0, slots := 0, locals := 0 } : Room) s m args below meth c H locs 0 0 Q (F0 m 2 ls []) := by
  intro k
  induction k with
  | zero =>
    intro i H locs ls hi hl Y
    have hi : i = 16816 := by omega
    rw [hi] at hl Y
    refine lv_iload_n B.1 B.2.1 dX10_clears_2 rfl (lv_at hl 0 rfl) ?_
    refine lv_sipush (v := 16816) B.1 B.2.1 dX10_clears_3 (by decide) ?_
    refine lv_icmp_ge (tgt := 22) B.1 B.2.1 dX10_clears_6 (by decide) (fun _ => ?_) (fun h => absurd (by decide) h)
    exact kx H locs ls (lv_sub hl [0, 1] rfl) Y
  | succ k ih =>
    intro i H locs ls hi hl Y
    have hlt : i < 16816 := by omega
    refine lv_iload_n B.1 B.2.1 dX10_clears_2 rfl (lv_at hl 0 rfl) ?_
    refine lv_sipush (v := 16816) B.1 B.2.1 dX10_clears_3 (by decide) ?_
    refine lv_icmp_ge (tgt := 22) B.1 B.2.1 dX10_clears_6 (by decide) (fun h => absurd h (nI_ge hlt (by decide))) (fun _ => ?_)
    refine lv_aload_n B.1 B.2.1 dX10_clears_9 rfl (lv_at hl 1 rfl) ?_
    refine gf_X10_7 B Y 0 rfl rfl dX10_clears_10 ?_
    refine lv_iload_n B.1 B.2.1 dX10_clears_13 rfl (lv_at hl 0 rfl) ?_
    refine lv_iconst (v := 0) B.1 B.2.1 dX10_clears_14 (by decide) ?_
    refine t_iast (j := i) (g := fil (fun _ => 0) f (i + 1)) (ws' := [(mo, .inr (10, [.ref e0, .ref e1, .ref e2, .ref e3, .ref e4, .int i0, .int i1, .int i2, .ref e5, .int i3, .int i4, .int i5, .int i6, .int i7, .int i8, .int i9, .int i10, .int i11, .int i12, .ref e6, .ref e7, .ref e8, .ref e9, .int i13, .ref e10, .ref e11, .int i14, .int i15, .ref e12, .int i16])), (e0, .inl (τ 0, 16816, .inl (fil (fun _ => 0) f (i + 1))))]) B Y 1 rfl (nI_pos (Nat.lt_trans hlt (by decide))) (nI_clamp (Nat.lt_trans hlt (by decide))) hlt (fil_s _ _ _ _ rfl) rfl dX10_clears_15 (fun H locs Y => ?_)
    refine lv_iinc (v := (nI (i + 1))) (lv' := [(1, .int (nI (i + 1))), (0, .ref mo)]) B.1 B.2.1 dX10_clears_16 hl (k := 0) rfl (nI_1 i) (by decide) rfl (fun ls hl => ?_)
    refine lv_goto (tgt := 2) B.1 B.2.1 dX10_clears_19 (by decide) ?_
    exact ih (i + 1) H locs ls (by omega) (lv_sub hl [0, 1] rfl) Y

set_option maxHeartbeats 4000000 in
set_option maxRecDepth 100000 in
theorem k_clearsG (l : Launch) (D : va_G) (τ : Nat → ClassId) (sz : Nat) (mo e0 e1 e2 e3 e4 e5 e6 e7 e8 e9 e10 e11 e12 : Nat) (i0 i1 i2 i3 i4 i5 i6 i7 i8 i9 i10 i11 i12 i13 i14 i15 i16 : Int32) (f : Nat → Int32) : Met l yX10_clears (Cond.code yX10_clears cX10_clears 2 none :: wALL) { frames := 0, cells := 0, slots := 0, locals := 0 } (Pw D τ [(mo, .inr (10, [.ref e0, .ref e1, .ref e2, .ref e3, .ref e4, .int i0, .int i1, .int i2, .ref e5, .int i3, .int i4, .int i5, .int i6, .int i7, .int i8, .int i9, .int i10, .int i11, .int i12, .ref e6, .ref e7, .ref e8, .ref e9, .int i13, .ref e10, .ref e11, .int i14, .int i15, .ref e12, .int i16])), (e0, .inl (τ 0, 16816, .inl (f)))] sz [.ref mo]) (va_Qv (fun (u : Nat → Int32) => True) (Bw D (va_A [(mo, .inr (10, [.ref e0, .ref e1, .ref e2, .ref e3, .ref e4, .int i0, .int i1, .int i2, .ref e5, .int i3, .int i4, .int i5, .int i6, .int i7, .int i8, .int i9, .int i10, .int i11, .int i12, .ref e6, .ref e7, .ref e8, .ref e9, .int i13, .ref e10, .ref e11, .int i14, .int i15, .ref e12, .int i16])), (e0, .inl (τ 0, 16816, .inl (f)))] sz) (fun (u : Nat → Int32) => [(mo, .inr (10, [.ref e0, .ref e1, .ref e2, .ref e3, .ref e4, .int i0, .int i1, .int i2, .ref e5, .int i3, .int i4, .int i5, .int i6, .int i7, .int i8, .int i9, .int i10, .int i11, .int i12, .ref e6, .ref e7, .ref e8, .ref e9, .int i13, .ref e10, .ref e11, .int i14, .int i15, .ref e12, .int i16])), (e0, .inl (τ 0, 16816, .inl (u)))])) (va_A [(mo, .inr (10, [.ref e0, .ref e1, .ref e2, .ref e3, .ref e4, .int i0, .int i1, .int i2, .ref e5, .int i3, .int i4, .int i5, .int i6, .int i7, .int i8, .int i9, .int i10, .int i11, .int i12, .ref e6, .ref e7, .ref e8, .ref e9, .int i13, .ref e10, .ref e11, .int i14, .int i15, .ref e12, .int i16])), (e0, .inl (τ 0, 16816, .inl (f)))] sz)) 0 0 (va_A [(mo, .inr (10, [.ref e0, .ref e1, .ref e2, .ref e3, .ref e4, .int i0, .int i1, .int i2, .ref e5, .int i3, .int i4, .int i5, .int i6, .int i7, .int i8, .int i9, .int i10, .int i11, .int i12, .ref e6, .ref e7, .ref e8, .ref e9, .int i13, .ref e10, .ref e11, .int i14, .int i15, .ref e12, .int i16])), (e0, .inl (τ 0, 16816, .inl (f)))] sz) := by
  refine bodyW (by decide) (Nat.le_of_ble_eq_true rfl) (fun p e s m below meth c ls B hr hlk hin hsz Y hl => ?_)
  have hl : lv_has ls 2 [(0, .ref mo)] := hl
  have B : CallFix p m c cX10_clears 2 s _ wALL RX10 := B
  generalize va_A [(mo, .inr (10, [.ref e0, .ref e1, .ref e2, .ref e3, .ref e4, .int i0, .int i1, .int i2, .ref e5, .int i3, .int i4, .int i5, .int i6, .int i7, .int i8, .int i9, .int i10, .int i11, .int i12, .ref e6, .ref e7, .ref e8, .ref e9, .int i13, .ref e10, .ref e11, .int i14, .int i15, .ref e12, .int i16])), (e0, .inl (τ 0, 16816, .inl (f)))] sz = A at Y ⊢
  refine lv_iconst (v := 0) B.1 B.2.1 dX10_clears_0 (by decide) ?_
  refine lv_istore_n (lv' := [(1, .int 0), (0, .ref mo)]) B.1 B.2.1 dX10_clears_1 rfl hl (by decide) rfl (fun ls hl => ?_)
  rw [← fil_0 (fun _ => 0) (f)] at Y
  refine lp_clears  B (fun H locs ls hl Y => ?_) 16816 0 _ _ _ (by omega) (lv_sub hl [0, 1] rfl) Y
  have hl : lv_has ls 2 [(1, .int 16816), (0, .ref mo)] := hl
  refine lv_aload_n B.1 B.2.1 dX10_clears_22 rfl (lv_at hl 1 rfl) ?_
  refine gf_X10_7 B Y 0 rfl rfl dX10_clears_23 ?_
  refine lv_iconst (v := 3) B.1 B.2.1 dX10_clears_26 (by decide) ?_
  refine lv_bipush (v := 60) B.1 B.2.1 dX10_clears_27 (by decide) ?_
  refine t_iast (j := 3) (g := upd (fil (fun _ => 0) (f) 16816) 3 60) (ws' := [(mo, .inr (10, [.ref e0, .ref e1, .ref e2, .ref e3, .ref e4, .int i0, .int i1, .int i2, .ref e5, .int i3, .int i4, .int i5, .int i6, .int i7, .int i8, .int i9, .int i10, .int i11, .int i12, .ref e6, .ref e7, .ref e8, .ref e9, .int i13, .ref e10, .ref e11, .int i14, .int i15, .ref e12, .int i16])), (e0, .inl (τ 0, 16816, .inl (upd (fil (fun _ => 0) (f) 16816) 3 60)))]) B Y 1 rfl (by decide) (by decide) (Nat.le_of_ble_eq_true rfl) rfl rfl dX10_clears_29 (fun H locs Y => ?_)
  refine lv_aload_n B.1 B.2.1 dX10_clears_30 rfl (lv_at hl 1 rfl) ?_
  refine gf_X10_7 B Y 0 rfl rfl dX10_clears_31 ?_
  refine lv_bipush (v := 6) B.1 B.2.1 dX10_clears_34 (by decide) ?_
  refine lv_bipush (v := 27) B.1 B.2.1 dX10_clears_36 (by decide) ?_
  refine t_iast (j := 6) (g := upd (upd (fil (fun _ => 0) (f) 16816) 3 60) 6 27) (ws' := [(mo, .inr (10, [.ref e0, .ref e1, .ref e2, .ref e3, .ref e4, .int i0, .int i1, .int i2, .ref e5, .int i3, .int i4, .int i5, .int i6, .int i7, .int i8, .int i9, .int i10, .int i11, .int i12, .ref e6, .ref e7, .ref e8, .ref e9, .int i13, .ref e10, .ref e11, .int i14, .int i15, .ref e12, .int i16])), (e0, .inl (τ 0, 16816, .inl (upd (upd (fil (fun _ => 0) (f) 16816) 3 60) 6 27)))]) B Y 1 rfl (by decide) (by decide) (Nat.le_of_ble_eq_true rfl) rfl rfl dX10_clears_38 (fun H locs Y => ?_)
  refine lv_aload_n B.1 B.2.1 dX10_clears_39 rfl (lv_at hl 1 rfl) ?_
  refine gf_X10_7 B Y 0 rfl rfl dX10_clears_40 ?_
  refine lv_bipush (v := 7) B.1 B.2.1 dX10_clears_43 (by decide) ?_
  refine lv_iconst (v := (-1)) B.1 B.2.1 dX10_clears_45 (by decide) ?_
  refine t_iast (j := 7) (g := upd (upd (upd (fil (fun _ => 0) (f) 16816) 3 60) 6 27) 7 (-1)) (ws' := [(mo, .inr (10, [.ref e0, .ref e1, .ref e2, .ref e3, .ref e4, .int i0, .int i1, .int i2, .ref e5, .int i3, .int i4, .int i5, .int i6, .int i7, .int i8, .int i9, .int i10, .int i11, .int i12, .ref e6, .ref e7, .ref e8, .ref e9, .int i13, .ref e10, .ref e11, .int i14, .int i15, .ref e12, .int i16])), (e0, .inl (τ 0, 16816, .inl (upd (upd (upd (fil (fun _ => 0) (f) 16816) 3 60) 6 27) 7 (-1))))]) B Y 1 rfl (by decide) (by decide) (Nat.le_of_ble_eq_true rfl) rfl rfl dX10_clears_46 (fun H locs Y => ?_)
  refine lv_iconst (v := 0) B.1 B.2.1 dX10_clears_47 (by decide) ?_
  refine lv_istore_n (lv' := [(1, .int 0), (0, .ref mo)]) B.1 B.2.1 dX10_clears_48 rfl hl (by decide) rfl (fun ls hl => ?_)
  refine lv_iload_n B.1 B.2.1 dX10_clears_49 rfl (lv_at hl 0 rfl) ?_
  refine lv_iconst (v := 4) B.1 B.2.1 dX10_clears_50 (by decide) ?_
  refine lv_icmp_ge (tgt := 77) B.1 B.2.1 dX10_clears_51 (by decide) (fun h => absurd h (by decide)) (fun _ => ?_)
  refine lv_aload_n B.1 B.2.1 dX10_clears_54 rfl (lv_at hl 1 rfl) ?_
  refine gf_X10_7 B Y 0 rfl rfl dX10_clears_55 ?_
  refine lv_sipush (v := 11992) B.1 B.2.1 dX10_clears_58 (by decide) ?_
  refine lv_sipush (v := 1206) B.1 B.2.1 dX10_clears_61 (by decide) ?_
  refine lv_iload_n B.1 B.2.1 dX10_clears_64 rfl (lv_at hl 0 rfl) ?_
  refine lv_imul B.1 B.2.1 dX10_clears_65 ?_
  refine lv_cv (v := 0) (by decide) ?_
  refine lv_iadd B.1 B.2.1 dX10_clears_66 ?_
  refine lv_cv (v := 11992) (by decide) ?_
  refine lv_iconst (v := 0) B.1 B.2.1 dX10_clears_67 (by decide) ?_
  refine lv_iadd B.1 B.2.1 dX10_clears_68 ?_
  refine lv_cv (v := 11992) (by decide) ?_
  refine lv_iconst (v := (-1)) B.1 B.2.1 dX10_clears_69 (by decide) ?_
  refine t_iast (j := 11992) (g := upd (upd (upd (upd (fil (fun _ => 0) (f) 16816) 3 60) 6 27) 7 (-1)) 11992 (-1)) (ws' := [(mo, .inr (10, [.ref e0, .ref e1, .ref e2, .ref e3, .ref e4, .int i0, .int i1, .int i2, .ref e5, .int i3, .int i4, .int i5, .int i6, .int i7, .int i8, .int i9, .int i10, .int i11, .int i12, .ref e6, .ref e7, .ref e8, .ref e9, .int i13, .ref e10, .ref e11, .int i14, .int i15, .ref e12, .int i16])), (e0, .inl (τ 0, 16816, .inl (upd (upd (upd (upd (fil (fun _ => 0) (f) 16816) 3 60) 6 27) 7 (-1)) 11992 (-1))))]) B Y 1 rfl (by decide) (by decide) (Nat.le_of_ble_eq_true rfl) rfl rfl dX10_clears_70 (fun H locs Y => ?_)
  refine lv_iinc (v := 1) (lv' := [(1, .int 1), (0, .ref mo)]) B.1 B.2.1 dX10_clears_71 hl (k := 0) rfl (by decide) (by decide) rfl (fun ls hl => ?_)
  refine lv_goto (tgt := 49) B.1 B.2.1 dX10_clears_74 (by decide) ?_
  refine lv_iload_n B.1 B.2.1 dX10_clears_49 rfl (lv_at hl 0 rfl) ?_
  refine lv_iconst (v := 4) B.1 B.2.1 dX10_clears_50 (by decide) ?_
  refine lv_icmp_ge (tgt := 77) B.1 B.2.1 dX10_clears_51 (by decide) (fun h => absurd h (by decide)) (fun _ => ?_)
  refine lv_aload_n B.1 B.2.1 dX10_clears_54 rfl (lv_at hl 1 rfl) ?_
  refine gf_X10_7 B Y 0 rfl rfl dX10_clears_55 ?_
  refine lv_sipush (v := 11992) B.1 B.2.1 dX10_clears_58 (by decide) ?_
  refine lv_sipush (v := 1206) B.1 B.2.1 dX10_clears_61 (by decide) ?_
  refine lv_iload_n B.1 B.2.1 dX10_clears_64 rfl (lv_at hl 0 rfl) ?_
  refine lv_imul B.1 B.2.1 dX10_clears_65 ?_
  refine lv_cv (v := 1206) (by decide) ?_
  refine lv_iadd B.1 B.2.1 dX10_clears_66 ?_
  refine lv_cv (v := 13198) (by decide) ?_
  refine lv_iconst (v := 0) B.1 B.2.1 dX10_clears_67 (by decide) ?_
  refine lv_iadd B.1 B.2.1 dX10_clears_68 ?_
  refine lv_cv (v := 13198) (by decide) ?_
  refine lv_iconst (v := (-1)) B.1 B.2.1 dX10_clears_69 (by decide) ?_
  refine t_iast (j := 13198) (g := upd (upd (upd (upd (upd (fil (fun _ => 0) (f) 16816) 3 60) 6 27) 7 (-1)) 11992 (-1)) 13198 (-1)) (ws' := [(mo, .inr (10, [.ref e0, .ref e1, .ref e2, .ref e3, .ref e4, .int i0, .int i1, .int i2, .ref e5, .int i3, .int i4, .int i5, .int i6, .int i7, .int i8, .int i9, .int i10, .int i11, .int i12, .ref e6, .ref e7, .ref e8, .ref e9, .int i13, .ref e10, .ref e11, .int i14, .int i15, .ref e12, .int i16])), (e0, .inl (τ 0, 16816, .inl (upd (upd (upd (upd (upd (fil (fun _ => 0) (f) 16816) 3 60) 6 27) 7 (-1)) 11992 (-1)) 13198 (-1))))]) B Y 1 rfl (by decide) (by decide) (Nat.le_of_ble_eq_true rfl) rfl rfl dX10_clears_70 (fun H locs Y => ?_)
  refine lv_iinc (v := 2) (lv' := [(1, .int 2), (0, .ref mo)]) B.1 B.2.1 dX10_clears_71 hl (k := 0) rfl (by decide) (by decide) rfl (fun ls hl => ?_)
  refine lv_goto (tgt := 49) B.1 B.2.1 dX10_clears_74 (by decide) ?_
  refine lv_iload_n B.1 B.2.1 dX10_clears_49 rfl (lv_at hl 0 rfl) ?_
  refine lv_iconst (v := 4) B.1 B.2.1 dX10_clears_50 (by decide) ?_
  refine lv_icmp_ge (tgt := 77) B.1 B.2.1 dX10_clears_51 (by decide) (fun h => absurd h (by decide)) (fun _ => ?_)
  refine lv_aload_n B.1 B.2.1 dX10_clears_54 rfl (lv_at hl 1 rfl) ?_
  refine gf_X10_7 B Y 0 rfl rfl dX10_clears_55 ?_
  refine lv_sipush (v := 11992) B.1 B.2.1 dX10_clears_58 (by decide) ?_
  refine lv_sipush (v := 1206) B.1 B.2.1 dX10_clears_61 (by decide) ?_
  refine lv_iload_n B.1 B.2.1 dX10_clears_64 rfl (lv_at hl 0 rfl) ?_
  refine lv_imul B.1 B.2.1 dX10_clears_65 ?_
  refine lv_cv (v := 2412) (by decide) ?_
  refine lv_iadd B.1 B.2.1 dX10_clears_66 ?_
  refine lv_cv (v := 14404) (by decide) ?_
  refine lv_iconst (v := 0) B.1 B.2.1 dX10_clears_67 (by decide) ?_
  refine lv_iadd B.1 B.2.1 dX10_clears_68 ?_
  refine lv_cv (v := 14404) (by decide) ?_
  refine lv_iconst (v := (-1)) B.1 B.2.1 dX10_clears_69 (by decide) ?_
  refine t_iast (j := 14404) (g := upd (upd (upd (upd (upd (upd (fil (fun _ => 0) (f) 16816) 3 60) 6 27) 7 (-1)) 11992 (-1)) 13198 (-1)) 14404 (-1)) (ws' := [(mo, .inr (10, [.ref e0, .ref e1, .ref e2, .ref e3, .ref e4, .int i0, .int i1, .int i2, .ref e5, .int i3, .int i4, .int i5, .int i6, .int i7, .int i8, .int i9, .int i10, .int i11, .int i12, .ref e6, .ref e7, .ref e8, .ref e9, .int i13, .ref e10, .ref e11, .int i14, .int i15, .ref e12, .int i16])), (e0, .inl (τ 0, 16816, .inl (upd (upd (upd (upd (upd (upd (fil (fun _ => 0) (f) 16816) 3 60) 6 27) 7 (-1)) 11992 (-1)) 13198 (-1)) 14404 (-1))))]) B Y 1 rfl (by decide) (by decide) (Nat.le_of_ble_eq_true rfl) rfl rfl dX10_clears_70 (fun H locs Y => ?_)
  refine lv_iinc (v := 3) (lv' := [(1, .int 3), (0, .ref mo)]) B.1 B.2.1 dX10_clears_71 hl (k := 0) rfl (by decide) (by decide) rfl (fun ls hl => ?_)
  refine lv_goto (tgt := 49) B.1 B.2.1 dX10_clears_74 (by decide) ?_
  refine lv_iload_n B.1 B.2.1 dX10_clears_49 rfl (lv_at hl 0 rfl) ?_
  refine lv_iconst (v := 4) B.1 B.2.1 dX10_clears_50 (by decide) ?_
  refine lv_icmp_ge (tgt := 77) B.1 B.2.1 dX10_clears_51 (by decide) (fun h => absurd h (by decide)) (fun _ => ?_)
  refine lv_aload_n B.1 B.2.1 dX10_clears_54 rfl (lv_at hl 1 rfl) ?_
  refine gf_X10_7 B Y 0 rfl rfl dX10_clears_55 ?_
  refine lv_sipush (v := 11992) B.1 B.2.1 dX10_clears_58 (by decide) ?_
  refine lv_sipush (v := 1206) B.1 B.2.1 dX10_clears_61 (by decide) ?_
  refine lv_iload_n B.1 B.2.1 dX10_clears_64 rfl (lv_at hl 0 rfl) ?_
  refine lv_imul B.1 B.2.1 dX10_clears_65 ?_
  refine lv_cv (v := 3618) (by decide) ?_
  refine lv_iadd B.1 B.2.1 dX10_clears_66 ?_
  refine lv_cv (v := 15610) (by decide) ?_
  refine lv_iconst (v := 0) B.1 B.2.1 dX10_clears_67 (by decide) ?_
  refine lv_iadd B.1 B.2.1 dX10_clears_68 ?_
  refine lv_cv (v := 15610) (by decide) ?_
  refine lv_iconst (v := (-1)) B.1 B.2.1 dX10_clears_69 (by decide) ?_
  refine t_iast (j := 15610) (g := upd (upd (upd (upd (upd (upd (upd (fil (fun _ => 0) (f) 16816) 3 60) 6 27) 7 (-1)) 11992 (-1)) 13198 (-1)) 14404 (-1)) 15610 (-1)) (ws' := [(mo, .inr (10, [.ref e0, .ref e1, .ref e2, .ref e3, .ref e4, .int i0, .int i1, .int i2, .ref e5, .int i3, .int i4, .int i5, .int i6, .int i7, .int i8, .int i9, .int i10, .int i11, .int i12, .ref e6, .ref e7, .ref e8, .ref e9, .int i13, .ref e10, .ref e11, .int i14, .int i15, .ref e12, .int i16])), (e0, .inl (τ 0, 16816, .inl (upd (upd (upd (upd (upd (upd (upd (fil (fun _ => 0) (f) 16816) 3 60) 6 27) 7 (-1)) 11992 (-1)) 13198 (-1)) 14404 (-1)) 15610 (-1))))]) B Y 1 rfl (by decide) (by decide) (Nat.le_of_ble_eq_true rfl) rfl rfl dX10_clears_70 (fun H locs Y => ?_)
  refine lv_iinc (v := 4) (lv' := [(1, .int 4), (0, .ref mo)]) B.1 B.2.1 dX10_clears_71 hl (k := 0) rfl (by decide) (by decide) rfl (fun ls hl => ?_)
  refine lv_goto (tgt := 49) B.1 B.2.1 dX10_clears_74 (by decide) ?_
  refine lv_iload_n B.1 B.2.1 dX10_clears_49 rfl (lv_at hl 0 rfl) ?_
  refine lv_iconst (v := 4) B.1 B.2.1 dX10_clears_50 (by decide) ?_
  refine lv_icmp_ge (tgt := 77) B.1 B.2.1 dX10_clears_51 (by decide) (fun _ => ?_) (fun h => absurd (by decide) h)
  exact endV B hr hlk Y (upd (upd (upd (upd (upd (upd (upd (fil (fun _ => 0) (f) 16816) 3 60) 6 27) 7 (-1)) 11992 (-1)) 13198 (-1)) 14404 (-1)) 15610 (-1)) trivial [0, 1] (by decide) rfl (Nat.le_of_ble_eq_true rfl) (Nat.le_of_ble_eq_true rfl) dX10_clears_77

set_option maxHeartbeats 4000000 in
set_option maxRecDepth 100000 in
theorem k_clearsZ (l : Launch) (D : va_G) (τ : Nat → ClassId) (sz : Nat) (mo e0 e1 e2 e3 e4 e5 e6 e7 e8 e9 e10 e11 e12 : Nat) (i0 i1 i2 i3 i4 i5 i6 i7 i8 i9 i10 i11 i12 i13 i14 i15 i16 : Int32) : Met l yX10_clears (Cond.code yX10_clears cX10_clears 2 none :: wALL) { frames := 0, cells := 0, slots := 0, locals := 0 } (Pw D τ [(mo, .inr (10, [.ref e0, .ref e1, .ref e2, .ref e3, .ref e4, .int i0, .int i1, .int i2, .ref e5, .int i3, .int i4, .int i5, .int i6, .int i7, .int i8, .int i9, .int i10, .int i11, .int i12, .ref e6, .ref e7, .ref e8, .ref e9, .int i13, .ref e10, .ref e11, .int i14, .int i15, .ref e12, .int i16])), (e0, .inl (τ 0, 16816, .inl (fun _ => 0)))] sz [.ref mo]) (va_Qv (fun (_ : Unit) => True) (Bw D (va_A [(mo, .inr (10, [.ref e0, .ref e1, .ref e2, .ref e3, .ref e4, .int i0, .int i1, .int i2, .ref e5, .int i3, .int i4, .int i5, .int i6, .int i7, .int i8, .int i9, .int i10, .int i11, .int i12, .ref e6, .ref e7, .ref e8, .ref e9, .int i13, .ref e10, .ref e11, .int i14, .int i15, .ref e12, .int i16])), (e0, .inl (τ 0, 16816, .inl (fun _ => 0)))] sz) (fun (_ : Unit) => [(mo, .inr (10, [.ref e0, .ref e1, .ref e2, .ref e3, .ref e4, .int i0, .int i1, .int i2, .ref e5, .int i3, .int i4, .int i5, .int i6, .int i7, .int i8, .int i9, .int i10, .int i11, .int i12, .ref e6, .ref e7, .ref e8, .ref e9, .int i13, .ref e10, .ref e11, .int i14, .int i15, .ref e12, .int i16])), (e0, .inl (τ 0, 16816, .inl (upd (upd (upd (upd (upd (upd (upd (fun _ => 0) 3 60) 6 27) 7 (-1)) 11992 (-1)) 13198 (-1)) 14404 (-1)) 15610 (-1))))])) (va_A [(mo, .inr (10, [.ref e0, .ref e1, .ref e2, .ref e3, .ref e4, .int i0, .int i1, .int i2, .ref e5, .int i3, .int i4, .int i5, .int i6, .int i7, .int i8, .int i9, .int i10, .int i11, .int i12, .ref e6, .ref e7, .ref e8, .ref e9, .int i13, .ref e10, .ref e11, .int i14, .int i15, .ref e12, .int i16])), (e0, .inl (τ 0, 16816, .inl (fun _ => 0)))] sz)) 0 0 (va_A [(mo, .inr (10, [.ref e0, .ref e1, .ref e2, .ref e3, .ref e4, .int i0, .int i1, .int i2, .ref e5, .int i3, .int i4, .int i5, .int i6, .int i7, .int i8, .int i9, .int i10, .int i11, .int i12, .ref e6, .ref e7, .ref e8, .ref e9, .int i13, .ref e10, .ref e11, .int i14, .int i15, .ref e12, .int i16])), (e0, .inl (τ 0, 16816, .inl (fun _ => 0)))] sz) := by
  refine bodyW (by decide) (Nat.le_of_ble_eq_true rfl) (fun p e s m below meth c ls B hr hlk hin hsz Y hl => ?_)
  have hl : lv_has ls 2 [(0, .ref mo)] := hl
  have B : CallFix p m c cX10_clears 2 s _ wALL RX10 := B
  generalize va_A [(mo, .inr (10, [.ref e0, .ref e1, .ref e2, .ref e3, .ref e4, .int i0, .int i1, .int i2, .ref e5, .int i3, .int i4, .int i5, .int i6, .int i7, .int i8, .int i9, .int i10, .int i11, .int i12, .ref e6, .ref e7, .ref e8, .ref e9, .int i13, .ref e10, .ref e11, .int i14, .int i15, .ref e12, .int i16])), (e0, .inl (τ 0, 16816, .inl (fun _ => 0)))] sz = A at Y ⊢
  refine lv_iconst (v := 0) B.1 B.2.1 dX10_clears_0 (by decide) ?_
  refine lv_istore_n (lv' := [(1, .int 0), (0, .ref mo)]) B.1 B.2.1 dX10_clears_1 rfl hl (by decide) rfl (fun ls hl => ?_)
  rw [← fil_id (fun _ => 0) 0] at Y
  refine lp_clears  B (fun H locs ls hl Y => ?_) 16816 0 _ _ _ (by omega) (lv_sub hl [0, 1] rfl) Y
  rw [fil_id (fun _ => 0) 16816] at Y
  have Y : Wd D τ s A s.heap [(mo, .inr (10, [.ref e0, .ref e1, .ref e2, .ref e3, .ref e4, .int i0, .int i1, .int i2, .ref e5, .int i3, .int i4, .int i5, .int i6, .int i7, .int i8, .int i9, .int i10, .int i11, .int i12, .ref e6, .ref e7, .ref e8, .ref e9, .int i13, .ref e10, .ref e11, .int i14, .int i15, .ref e12, .int i16])), (e0, .inl (τ 0, 16816, .inl (fun _ => 0)))] H _ := Y
  have hl : lv_has ls 2 [(1, .int 16816), (0, .ref mo)] := hl
  refine lv_aload_n B.1 B.2.1 dX10_clears_22 rfl (lv_at hl 1 rfl) ?_
  refine gf_X10_7 B Y 0 rfl rfl dX10_clears_23 ?_
  refine lv_iconst (v := 3) B.1 B.2.1 dX10_clears_26 (by decide) ?_
  refine lv_bipush (v := 60) B.1 B.2.1 dX10_clears_27 (by decide) ?_
  refine t_iast (j := 3) (g := upd (fun _ => 0) 3 60) (ws' := [(mo, .inr (10, [.ref e0, .ref e1, .ref e2, .ref e3, .ref e4, .int i0, .int i1, .int i2, .ref e5, .int i3, .int i4, .int i5, .int i6, .int i7, .int i8, .int i9, .int i10, .int i11, .int i12, .ref e6, .ref e7, .ref e8, .ref e9, .int i13, .ref e10, .ref e11, .int i14, .int i15, .ref e12, .int i16])), (e0, .inl (τ 0, 16816, .inl (upd (fun _ => 0) 3 60)))]) B Y 1 rfl (by decide) (by decide) (Nat.le_of_ble_eq_true rfl) rfl rfl dX10_clears_29 (fun H locs Y => ?_)
  refine lv_aload_n B.1 B.2.1 dX10_clears_30 rfl (lv_at hl 1 rfl) ?_
  refine gf_X10_7 B Y 0 rfl rfl dX10_clears_31 ?_
  refine lv_bipush (v := 6) B.1 B.2.1 dX10_clears_34 (by decide) ?_
  refine lv_bipush (v := 27) B.1 B.2.1 dX10_clears_36 (by decide) ?_
  refine t_iast (j := 6) (g := upd (upd (fun _ => 0) 3 60) 6 27) (ws' := [(mo, .inr (10, [.ref e0, .ref e1, .ref e2, .ref e3, .ref e4, .int i0, .int i1, .int i2, .ref e5, .int i3, .int i4, .int i5, .int i6, .int i7, .int i8, .int i9, .int i10, .int i11, .int i12, .ref e6, .ref e7, .ref e8, .ref e9, .int i13, .ref e10, .ref e11, .int i14, .int i15, .ref e12, .int i16])), (e0, .inl (τ 0, 16816, .inl (upd (upd (fun _ => 0) 3 60) 6 27)))]) B Y 1 rfl (by decide) (by decide) (Nat.le_of_ble_eq_true rfl) rfl rfl dX10_clears_38 (fun H locs Y => ?_)
  refine lv_aload_n B.1 B.2.1 dX10_clears_39 rfl (lv_at hl 1 rfl) ?_
  refine gf_X10_7 B Y 0 rfl rfl dX10_clears_40 ?_
  refine lv_bipush (v := 7) B.1 B.2.1 dX10_clears_43 (by decide) ?_
  refine lv_iconst (v := (-1)) B.1 B.2.1 dX10_clears_45 (by decide) ?_
  refine t_iast (j := 7) (g := upd (upd (upd (fun _ => 0) 3 60) 6 27) 7 (-1)) (ws' := [(mo, .inr (10, [.ref e0, .ref e1, .ref e2, .ref e3, .ref e4, .int i0, .int i1, .int i2, .ref e5, .int i3, .int i4, .int i5, .int i6, .int i7, .int i8, .int i9, .int i10, .int i11, .int i12, .ref e6, .ref e7, .ref e8, .ref e9, .int i13, .ref e10, .ref e11, .int i14, .int i15, .ref e12, .int i16])), (e0, .inl (τ 0, 16816, .inl (upd (upd (upd (fun _ => 0) 3 60) 6 27) 7 (-1))))]) B Y 1 rfl (by decide) (by decide) (Nat.le_of_ble_eq_true rfl) rfl rfl dX10_clears_46 (fun H locs Y => ?_)
  refine lv_iconst (v := 0) B.1 B.2.1 dX10_clears_47 (by decide) ?_
  refine lv_istore_n (lv' := [(1, .int 0), (0, .ref mo)]) B.1 B.2.1 dX10_clears_48 rfl hl (by decide) rfl (fun ls hl => ?_)
  refine lv_iload_n B.1 B.2.1 dX10_clears_49 rfl (lv_at hl 0 rfl) ?_
  refine lv_iconst (v := 4) B.1 B.2.1 dX10_clears_50 (by decide) ?_
  refine lv_icmp_ge (tgt := 77) B.1 B.2.1 dX10_clears_51 (by decide) (fun h => absurd h (by decide)) (fun _ => ?_)
  refine lv_aload_n B.1 B.2.1 dX10_clears_54 rfl (lv_at hl 1 rfl) ?_
  refine gf_X10_7 B Y 0 rfl rfl dX10_clears_55 ?_
  refine lv_sipush (v := 11992) B.1 B.2.1 dX10_clears_58 (by decide) ?_
  refine lv_sipush (v := 1206) B.1 B.2.1 dX10_clears_61 (by decide) ?_
  refine lv_iload_n B.1 B.2.1 dX10_clears_64 rfl (lv_at hl 0 rfl) ?_
  refine lv_imul B.1 B.2.1 dX10_clears_65 ?_
  refine lv_cv (v := 0) (by decide) ?_
  refine lv_iadd B.1 B.2.1 dX10_clears_66 ?_
  refine lv_cv (v := 11992) (by decide) ?_
  refine lv_iconst (v := 0) B.1 B.2.1 dX10_clears_67 (by decide) ?_
  refine lv_iadd B.1 B.2.1 dX10_clears_68 ?_
  refine lv_cv (v := 11992) (by decide) ?_
  refine lv_iconst (v := (-1)) B.1 B.2.1 dX10_clears_69 (by decide) ?_
  refine t_iast (j := 11992) (g := upd (upd (upd (upd (fun _ => 0) 3 60) 6 27) 7 (-1)) 11992 (-1)) (ws' := [(mo, .inr (10, [.ref e0, .ref e1, .ref e2, .ref e3, .ref e4, .int i0, .int i1, .int i2, .ref e5, .int i3, .int i4, .int i5, .int i6, .int i7, .int i8, .int i9, .int i10, .int i11, .int i12, .ref e6, .ref e7, .ref e8, .ref e9, .int i13, .ref e10, .ref e11, .int i14, .int i15, .ref e12, .int i16])), (e0, .inl (τ 0, 16816, .inl (upd (upd (upd (upd (fun _ => 0) 3 60) 6 27) 7 (-1)) 11992 (-1))))]) B Y 1 rfl (by decide) (by decide) (Nat.le_of_ble_eq_true rfl) rfl rfl dX10_clears_70 (fun H locs Y => ?_)
  refine lv_iinc (v := 1) (lv' := [(1, .int 1), (0, .ref mo)]) B.1 B.2.1 dX10_clears_71 hl (k := 0) rfl (by decide) (by decide) rfl (fun ls hl => ?_)
  refine lv_goto (tgt := 49) B.1 B.2.1 dX10_clears_74 (by decide) ?_
  refine lv_iload_n B.1 B.2.1 dX10_clears_49 rfl (lv_at hl 0 rfl) ?_
  refine lv_iconst (v := 4) B.1 B.2.1 dX10_clears_50 (by decide) ?_
  refine lv_icmp_ge (tgt := 77) B.1 B.2.1 dX10_clears_51 (by decide) (fun h => absurd h (by decide)) (fun _ => ?_)
  refine lv_aload_n B.1 B.2.1 dX10_clears_54 rfl (lv_at hl 1 rfl) ?_
  refine gf_X10_7 B Y 0 rfl rfl dX10_clears_55 ?_
  refine lv_sipush (v := 11992) B.1 B.2.1 dX10_clears_58 (by decide) ?_
  refine lv_sipush (v := 1206) B.1 B.2.1 dX10_clears_61 (by decide) ?_
  refine lv_iload_n B.1 B.2.1 dX10_clears_64 rfl (lv_at hl 0 rfl) ?_
  refine lv_imul B.1 B.2.1 dX10_clears_65 ?_
  refine lv_cv (v := 1206) (by decide) ?_
  refine lv_iadd B.1 B.2.1 dX10_clears_66 ?_
  refine lv_cv (v := 13198) (by decide) ?_
  refine lv_iconst (v := 0) B.1 B.2.1 dX10_clears_67 (by decide) ?_
  refine lv_iadd B.1 B.2.1 dX10_clears_68 ?_
  refine lv_cv (v := 13198) (by decide) ?_
  refine lv_iconst (v := (-1)) B.1 B.2.1 dX10_clears_69 (by decide) ?_
  refine t_iast (j := 13198) (g := upd (upd (upd (upd (upd (fun _ => 0) 3 60) 6 27) 7 (-1)) 11992 (-1)) 13198 (-1)) (ws' := [(mo, .inr (10, [.ref e0, .ref e1, .ref e2, .ref e3, .ref e4, .int i0, .int i1, .int i2, .ref e5, .int i3, .int i4, .int i5, .int i6, .int i7, .int i8, .int i9, .int i10, .int i11, .int i12, .ref e6, .ref e7, .ref e8, .ref e9, .int i13, .ref e10, .ref e11, .int i14, .int i15, .ref e12, .int i16])), (e0, .inl (τ 0, 16816, .inl (upd (upd (upd (upd (upd (fun _ => 0) 3 60) 6 27) 7 (-1)) 11992 (-1)) 13198 (-1))))]) B Y 1 rfl (by decide) (by decide) (Nat.le_of_ble_eq_true rfl) rfl rfl dX10_clears_70 (fun H locs Y => ?_)
  refine lv_iinc (v := 2) (lv' := [(1, .int 2), (0, .ref mo)]) B.1 B.2.1 dX10_clears_71 hl (k := 0) rfl (by decide) (by decide) rfl (fun ls hl => ?_)
  refine lv_goto (tgt := 49) B.1 B.2.1 dX10_clears_74 (by decide) ?_
  refine lv_iload_n B.1 B.2.1 dX10_clears_49 rfl (lv_at hl 0 rfl) ?_
  refine lv_iconst (v := 4) B.1 B.2.1 dX10_clears_50 (by decide) ?_
  refine lv_icmp_ge (tgt := 77) B.1 B.2.1 dX10_clears_51 (by decide) (fun h => absurd h (by decide)) (fun _ => ?_)
  refine lv_aload_n B.1 B.2.1 dX10_clears_54 rfl (lv_at hl 1 rfl) ?_
  refine gf_X10_7 B Y 0 rfl rfl dX10_clears_55 ?_
  refine lv_sipush (v := 11992) B.1 B.2.1 dX10_clears_58 (by decide) ?_
  refine lv_sipush (v := 1206) B.1 B.2.1 dX10_clears_61 (by decide) ?_
  refine lv_iload_n B.1 B.2.1 dX10_clears_64 rfl (lv_at hl 0 rfl) ?_
  refine lv_imul B.1 B.2.1 dX10_clears_65 ?_
  refine lv_cv (v := 2412) (by decide) ?_
  refine lv_iadd B.1 B.2.1 dX10_clears_66 ?_
  refine lv_cv (v := 14404) (by decide) ?_
  refine lv_iconst (v := 0) B.1 B.2.1 dX10_clears_67 (by decide) ?_
  refine lv_iadd B.1 B.2.1 dX10_clears_68 ?_
  refine lv_cv (v := 14404) (by decide) ?_
  refine lv_iconst (v := (-1)) B.1 B.2.1 dX10_clears_69 (by decide) ?_
  refine t_iast (j := 14404) (g := upd (upd (upd (upd (upd (upd (fun _ => 0) 3 60) 6 27) 7 (-1)) 11992 (-1)) 13198 (-1)) 14404 (-1)) (ws' := [(mo, .inr (10, [.ref e0, .ref e1, .ref e2, .ref e3, .ref e4, .int i0, .int i1, .int i2, .ref e5, .int i3, .int i4, .int i5, .int i6, .int i7, .int i8, .int i9, .int i10, .int i11, .int i12, .ref e6, .ref e7, .ref e8, .ref e9, .int i13, .ref e10, .ref e11, .int i14, .int i15, .ref e12, .int i16])), (e0, .inl (τ 0, 16816, .inl (upd (upd (upd (upd (upd (upd (fun _ => 0) 3 60) 6 27) 7 (-1)) 11992 (-1)) 13198 (-1)) 14404 (-1))))]) B Y 1 rfl (by decide) (by decide) (Nat.le_of_ble_eq_true rfl) rfl rfl dX10_clears_70 (fun H locs Y => ?_)
  refine lv_iinc (v := 3) (lv' := [(1, .int 3), (0, .ref mo)]) B.1 B.2.1 dX10_clears_71 hl (k := 0) rfl (by decide) (by decide) rfl (fun ls hl => ?_)
  refine lv_goto (tgt := 49) B.1 B.2.1 dX10_clears_74 (by decide) ?_
  refine lv_iload_n B.1 B.2.1 dX10_clears_49 rfl (lv_at hl 0 rfl) ?_
  refine lv_iconst (v := 4) B.1 B.2.1 dX10_clears_50 (by decide) ?_
  refine lv_icmp_ge (tgt := 77) B.1 B.2.1 dX10_clears_51 (by decide) (fun h => absurd h (by decide)) (fun _ => ?_)
  refine lv_aload_n B.1 B.2.1 dX10_clears_54 rfl (lv_at hl 1 rfl) ?_
  refine gf_X10_7 B Y 0 rfl rfl dX10_clears_55 ?_
  refine lv_sipush (v := 11992) B.1 B.2.1 dX10_clears_58 (by decide) ?_
  refine lv_sipush (v := 1206) B.1 B.2.1 dX10_clears_61 (by decide) ?_
  refine lv_iload_n B.1 B.2.1 dX10_clears_64 rfl (lv_at hl 0 rfl) ?_
  refine lv_imul B.1 B.2.1 dX10_clears_65 ?_
  refine lv_cv (v := 3618) (by decide) ?_
  refine lv_iadd B.1 B.2.1 dX10_clears_66 ?_
  refine lv_cv (v := 15610) (by decide) ?_
  refine lv_iconst (v := 0) B.1 B.2.1 dX10_clears_67 (by decide) ?_
  refine lv_iadd B.1 B.2.1 dX10_clears_68 ?_
  refine lv_cv (v := 15610) (by decide) ?_
  refine lv_iconst (v := (-1)) B.1 B.2.1 dX10_clears_69 (by decide) ?_
  refine t_iast (j := 15610) (g := upd (upd (upd (upd (upd (upd (upd (fun _ => 0) 3 60) 6 27) 7 (-1)) 11992 (-1)) 13198 (-1)) 14404 (-1)) 15610 (-1)) (ws' := [(mo, .inr (10, [.ref e0, .ref e1, .ref e2, .ref e3, .ref e4, .int i0, .int i1, .int i2, .ref e5, .int i3, .int i4, .int i5, .int i6, .int i7, .int i8, .int i9, .int i10, .int i11, .int i12, .ref e6, .ref e7, .ref e8, .ref e9, .int i13, .ref e10, .ref e11, .int i14, .int i15, .ref e12, .int i16])), (e0, .inl (τ 0, 16816, .inl (upd (upd (upd (upd (upd (upd (upd (fun _ => 0) 3 60) 6 27) 7 (-1)) 11992 (-1)) 13198 (-1)) 14404 (-1)) 15610 (-1))))]) B Y 1 rfl (by decide) (by decide) (Nat.le_of_ble_eq_true rfl) rfl rfl dX10_clears_70 (fun H locs Y => ?_)
  refine lv_iinc (v := 4) (lv' := [(1, .int 4), (0, .ref mo)]) B.1 B.2.1 dX10_clears_71 hl (k := 0) rfl (by decide) (by decide) rfl (fun ls hl => ?_)
  refine lv_goto (tgt := 49) B.1 B.2.1 dX10_clears_74 (by decide) ?_
  refine lv_iload_n B.1 B.2.1 dX10_clears_49 rfl (lv_at hl 0 rfl) ?_
  refine lv_iconst (v := 4) B.1 B.2.1 dX10_clears_50 (by decide) ?_
  refine lv_icmp_ge (tgt := 77) B.1 B.2.1 dX10_clears_51 (by decide) (fun _ => ?_) (fun h => absurd (by decide) h)
  exact endV B hr hlk Y () trivial [0, 1] (by decide) rfl (Nat.le_of_ble_eq_true rfl) (Nat.le_of_ble_eq_true rfl) dX10_clears_77

set_option maxHeartbeats 4000000 in
set_option maxRecDepth 100000 in
theorem k_ofLinkR (l : Launch) (D : va_G) (τ : Nat → ClassId) (sz : Nat) (mo e0 e1 e2 e3 e4 e5 e6 e7 e8 e9 e10 e11 e12 : Nat) (i0 i1 i2 i3 i4 i5 i6 i7 i8 i9 i10 i11 i12 i13 i14 i15 i16 : Int32) (f : Nat → Int32) (k w : Int32) (j : Nat) (h : ((24 + (8 * k)) + w) = nI j) (hj : j < 16816) : Met l yX10_ofLink (Cond.code yX10_ofLink cX10_ofLink 3 (some .int) :: wALL) { frames := 0, cells := 0, slots := 0, locals := 0 } (Pw D τ [(mo, .inr (10, [.ref e0, .ref e1, .ref e2, .ref e3, .ref e4, .int i0, .int i1, .int i2, .ref e5, .int i3, .int i4, .int i5, .int i6, .int i7, .int i8, .int i9, .int i10, .int i11, .int i12, .ref e6, .ref e7, .ref e8, .ref e9, .int i13, .ref e10, .ref e11, .int i14, .int i15, .ref e12, .int i16])), (e0, .inl (τ 0, 16816, .inl (f)))] sz [.ref mo, .int k, .int w]) (va_Qi (fun (r : Int32) (_ : Unit) => r = f j) (Bw D (va_A [(mo, .inr (10, [.ref e0, .ref e1, .ref e2, .ref e3, .ref e4, .int i0, .int i1, .int i2, .ref e5, .int i3, .int i4, .int i5, .int i6, .int i7, .int i8, .int i9, .int i10, .int i11, .int i12, .ref e6, .ref e7, .ref e8, .ref e9, .int i13, .ref e10, .ref e11, .int i14, .int i15, .ref e12, .int i16])), (e0, .inl (τ 0, 16816, .inl (f)))] sz) (fun (_ : Unit) => [(mo, .inr (10, [.ref e0, .ref e1, .ref e2, .ref e3, .ref e4, .int i0, .int i1, .int i2, .ref e5, .int i3, .int i4, .int i5, .int i6, .int i7, .int i8, .int i9, .int i10, .int i11, .int i12, .ref e6, .ref e7, .ref e8, .ref e9, .int i13, .ref e10, .ref e11, .int i14, .int i15, .ref e12, .int i16])), (e0, .inl (τ 0, 16816, .inl (f)))])) (va_A [(mo, .inr (10, [.ref e0, .ref e1, .ref e2, .ref e3, .ref e4, .int i0, .int i1, .int i2, .ref e5, .int i3, .int i4, .int i5, .int i6, .int i7, .int i8, .int i9, .int i10, .int i11, .int i12, .ref e6, .ref e7, .ref e8, .ref e9, .int i13, .ref e10, .ref e11, .int i14, .int i15, .ref e12, .int i16])), (e0, .inl (τ 0, 16816, .inl (f)))] sz)) 0 0 (va_A [(mo, .inr (10, [.ref e0, .ref e1, .ref e2, .ref e3, .ref e4, .int i0, .int i1, .int i2, .ref e5, .int i3, .int i4, .int i5, .int i6, .int i7, .int i8, .int i9, .int i10, .int i11, .int i12, .ref e6, .ref e7, .ref e8, .ref e9, .int i13, .ref e10, .ref e11, .int i14, .int i15, .ref e12, .int i16])), (e0, .inl (τ 0, 16816, .inl (f)))] sz) := by
  refine bodyW (by decide) (Nat.le_of_ble_eq_true rfl) (fun p e s m below meth c ls B hr hlk hin hsz Y hl => ?_)
  have hl : lv_has ls 3 [(0, .ref mo), (1, .int k), (2, .int w)] := hl
  have B : CallFix p m c cX10_ofLink 3 s _ wALL RX10 := B
  generalize va_A [(mo, .inr (10, [.ref e0, .ref e1, .ref e2, .ref e3, .ref e4, .int i0, .int i1, .int i2, .ref e5, .int i3, .int i4, .int i5, .int i6, .int i7, .int i8, .int i9, .int i10, .int i11, .int i12, .ref e6, .ref e7, .ref e8, .ref e9, .int i13, .ref e10, .ref e11, .int i14, .int i15, .ref e12, .int i16])), (e0, .inl (τ 0, 16816, .inl (f)))] sz = A at Y ⊢
  refine lv_aload_n B.1 B.2.1 dX10_ofLink_0 rfl (lv_at hl 0 rfl) ?_
  refine gf_X10_7 B Y 0 rfl rfl dX10_ofLink_1 ?_
  refine lv_bipush (v := 24) B.1 B.2.1 dX10_ofLink_4 (by decide) ?_
  refine lv_bipush (v := 8) B.1 B.2.1 dX10_ofLink_6 (by decide) ?_
  refine lv_iload_n B.1 B.2.1 dX10_ofLink_8 rfl (lv_at hl 1 rfl) ?_
  refine lv_imul B.1 B.2.1 dX10_ofLink_9 ?_
  refine lv_iadd B.1 B.2.1 dX10_ofLink_10 ?_
  refine lv_iload_n B.1 B.2.1 dX10_ofLink_11 rfl (lv_at hl 2 rfl) ?_
  refine lv_iadd B.1 B.2.1 dX10_ofLink_12 ?_
  refine t_iald (v := (f j)) (j := j) B Y 1 rfl (by rw [h]; exact nI_pos (Nat.lt_trans hj (by decide))) (by rw [h]; exact nI_clamp (Nat.lt_trans hj (by decide))) hj rfl dX10_ofLink_13 ?_
  exact endI B hr hlk Y () rfl [0, 1] (by decide) rfl (Nat.le_of_ble_eq_true rfl) (Nat.le_of_ble_eq_true rfl) dX10_ofLink_14

set_option maxHeartbeats 4000000 in
set_option maxRecDepth 100000 in
theorem k_ofDataR (l : Launch) (D : va_G) (τ : Nat → ClassId) (sz : Nat) (mo e0 e1 e2 e3 e4 e5 e6 e7 e8 e9 e10 e11 e12 : Nat) (i0 i1 i2 i3 i4 i5 i6 i7 i8 i9 i10 i11 i12 i13 i14 i15 i16 : Int32) (f : Nat → Int32) (k w : Int32) (j : Nat) (h : ((72 + (8 * k)) + w) = nI j) (hj : j < 16816) : Met l yX10_ofData (Cond.code yX10_ofData cX10_ofData 3 (some .int) :: wALL) { frames := 0, cells := 0, slots := 0, locals := 0 } (Pw D τ [(mo, .inr (10, [.ref e0, .ref e1, .ref e2, .ref e3, .ref e4, .int i0, .int i1, .int i2, .ref e5, .int i3, .int i4, .int i5, .int i6, .int i7, .int i8, .int i9, .int i10, .int i11, .int i12, .ref e6, .ref e7, .ref e8, .ref e9, .int i13, .ref e10, .ref e11, .int i14, .int i15, .ref e12, .int i16])), (e0, .inl (τ 0, 16816, .inl (f)))] sz [.ref mo, .int k, .int w]) (va_Qi (fun (r : Int32) (_ : Unit) => r = f j) (Bw D (va_A [(mo, .inr (10, [.ref e0, .ref e1, .ref e2, .ref e3, .ref e4, .int i0, .int i1, .int i2, .ref e5, .int i3, .int i4, .int i5, .int i6, .int i7, .int i8, .int i9, .int i10, .int i11, .int i12, .ref e6, .ref e7, .ref e8, .ref e9, .int i13, .ref e10, .ref e11, .int i14, .int i15, .ref e12, .int i16])), (e0, .inl (τ 0, 16816, .inl (f)))] sz) (fun (_ : Unit) => [(mo, .inr (10, [.ref e0, .ref e1, .ref e2, .ref e3, .ref e4, .int i0, .int i1, .int i2, .ref e5, .int i3, .int i4, .int i5, .int i6, .int i7, .int i8, .int i9, .int i10, .int i11, .int i12, .ref e6, .ref e7, .ref e8, .ref e9, .int i13, .ref e10, .ref e11, .int i14, .int i15, .ref e12, .int i16])), (e0, .inl (τ 0, 16816, .inl (f)))])) (va_A [(mo, .inr (10, [.ref e0, .ref e1, .ref e2, .ref e3, .ref e4, .int i0, .int i1, .int i2, .ref e5, .int i3, .int i4, .int i5, .int i6, .int i7, .int i8, .int i9, .int i10, .int i11, .int i12, .ref e6, .ref e7, .ref e8, .ref e9, .int i13, .ref e10, .ref e11, .int i14, .int i15, .ref e12, .int i16])), (e0, .inl (τ 0, 16816, .inl (f)))] sz)) 0 0 (va_A [(mo, .inr (10, [.ref e0, .ref e1, .ref e2, .ref e3, .ref e4, .int i0, .int i1, .int i2, .ref e5, .int i3, .int i4, .int i5, .int i6, .int i7, .int i8, .int i9, .int i10, .int i11, .int i12, .ref e6, .ref e7, .ref e8, .ref e9, .int i13, .ref e10, .ref e11, .int i14, .int i15, .ref e12, .int i16])), (e0, .inl (τ 0, 16816, .inl (f)))] sz) := by
  refine bodyW (by decide) (Nat.le_of_ble_eq_true rfl) (fun p e s m below meth c ls B hr hlk hin hsz Y hl => ?_)
  have hl : lv_has ls 3 [(0, .ref mo), (1, .int k), (2, .int w)] := hl
  have B : CallFix p m c cX10_ofData 3 s _ wALL RX10 := B
  generalize va_A [(mo, .inr (10, [.ref e0, .ref e1, .ref e2, .ref e3, .ref e4, .int i0, .int i1, .int i2, .ref e5, .int i3, .int i4, .int i5, .int i6, .int i7, .int i8, .int i9, .int i10, .int i11, .int i12, .ref e6, .ref e7, .ref e8, .ref e9, .int i13, .ref e10, .ref e11, .int i14, .int i15, .ref e12, .int i16])), (e0, .inl (τ 0, 16816, .inl (f)))] sz = A at Y ⊢
  refine lv_aload_n B.1 B.2.1 dX10_ofData_0 rfl (lv_at hl 0 rfl) ?_
  refine gf_X10_7 B Y 0 rfl rfl dX10_ofData_1 ?_
  refine lv_bipush (v := 72) B.1 B.2.1 dX10_ofData_4 (by decide) ?_
  refine lv_bipush (v := 8) B.1 B.2.1 dX10_ofData_6 (by decide) ?_
  refine lv_iload_n B.1 B.2.1 dX10_ofData_8 rfl (lv_at hl 1 rfl) ?_
  refine lv_imul B.1 B.2.1 dX10_ofData_9 ?_
  refine lv_iadd B.1 B.2.1 dX10_ofData_10 ?_
  refine lv_iload_n B.1 B.2.1 dX10_ofData_11 rfl (lv_at hl 2 rfl) ?_
  refine lv_iadd B.1 B.2.1 dX10_ofData_12 ?_
  refine t_iald (v := (f j)) (j := j) B Y 1 rfl (by rw [h]; exact nI_pos (Nat.lt_trans hj (by decide))) (by rw [h]; exact nI_clamp (Nat.lt_trans hj (by decide))) hj rfl dX10_ofData_13 ?_
  exact endI B hr hlk Y () rfl [0, 1] (by decide) rfl (Nat.le_of_ble_eq_true rfl) (Nat.le_of_ble_eq_true rfl) dX10_ofData_14

set_option maxHeartbeats 4000000 in
set_option maxRecDepth 100000 in
theorem k_ofHeapR (l : Launch) (D : va_G) (τ : Nat → ClassId) (sz : Nat) (mo e0 e1 e2 e3 e4 e5 e6 e7 e8 e9 e10 e11 e12 : Nat) (i0 i1 i2 i3 i4 i5 i6 i7 i8 i9 i10 i11 i12 i13 i14 i15 i16 : Int32) (f : Nat → Int32) (k w : Int32) (j : Nat) (h : ((11992 + (1206 * k)) + w) = nI j) (hj : j < 16816) : Met l yX10_ofHeap (Cond.code yX10_ofHeap cX10_ofHeap 3 (some .int) :: wALL) { frames := 0, cells := 0, slots := 0, locals := 0 } (Pw D τ [(mo, .inr (10, [.ref e0, .ref e1, .ref e2, .ref e3, .ref e4, .int i0, .int i1, .int i2, .ref e5, .int i3, .int i4, .int i5, .int i6, .int i7, .int i8, .int i9, .int i10, .int i11, .int i12, .ref e6, .ref e7, .ref e8, .ref e9, .int i13, .ref e10, .ref e11, .int i14, .int i15, .ref e12, .int i16])), (e0, .inl (τ 0, 16816, .inl (f)))] sz [.ref mo, .int k, .int w]) (va_Qi (fun (r : Int32) (_ : Unit) => r = f j) (Bw D (va_A [(mo, .inr (10, [.ref e0, .ref e1, .ref e2, .ref e3, .ref e4, .int i0, .int i1, .int i2, .ref e5, .int i3, .int i4, .int i5, .int i6, .int i7, .int i8, .int i9, .int i10, .int i11, .int i12, .ref e6, .ref e7, .ref e8, .ref e9, .int i13, .ref e10, .ref e11, .int i14, .int i15, .ref e12, .int i16])), (e0, .inl (τ 0, 16816, .inl (f)))] sz) (fun (_ : Unit) => [(mo, .inr (10, [.ref e0, .ref e1, .ref e2, .ref e3, .ref e4, .int i0, .int i1, .int i2, .ref e5, .int i3, .int i4, .int i5, .int i6, .int i7, .int i8, .int i9, .int i10, .int i11, .int i12, .ref e6, .ref e7, .ref e8, .ref e9, .int i13, .ref e10, .ref e11, .int i14, .int i15, .ref e12, .int i16])), (e0, .inl (τ 0, 16816, .inl (f)))])) (va_A [(mo, .inr (10, [.ref e0, .ref e1, .ref e2, .ref e3, .ref e4, .int i0, .int i1, .int i2, .ref e5, .int i3, .int i4, .int i5, .int i6, .int i7, .int i8, .int i9, .int i10, .int i11, .int i12, .ref e6, .ref e7, .ref e8, .ref e9, .int i13, .ref e10, .ref e11, .int i14, .int i15, .ref e12, .int i16])), (e0, .inl (τ 0, 16816, .inl (f)))] sz)) 0 0 (va_A [(mo, .inr (10, [.ref e0, .ref e1, .ref e2, .ref e3, .ref e4, .int i0, .int i1, .int i2, .ref e5, .int i3, .int i4, .int i5, .int i6, .int i7, .int i8, .int i9, .int i10, .int i11, .int i12, .ref e6, .ref e7, .ref e8, .ref e9, .int i13, .ref e10, .ref e11, .int i14, .int i15, .ref e12, .int i16])), (e0, .inl (τ 0, 16816, .inl (f)))] sz) := by
  refine bodyW (by decide) (Nat.le_of_ble_eq_true rfl) (fun p e s m below meth c ls B hr hlk hin hsz Y hl => ?_)
  have hl : lv_has ls 3 [(0, .ref mo), (1, .int k), (2, .int w)] := hl
  have B : CallFix p m c cX10_ofHeap 3 s _ wALL RX10 := B
  generalize va_A [(mo, .inr (10, [.ref e0, .ref e1, .ref e2, .ref e3, .ref e4, .int i0, .int i1, .int i2, .ref e5, .int i3, .int i4, .int i5, .int i6, .int i7, .int i8, .int i9, .int i10, .int i11, .int i12, .ref e6, .ref e7, .ref e8, .ref e9, .int i13, .ref e10, .ref e11, .int i14, .int i15, .ref e12, .int i16])), (e0, .inl (τ 0, 16816, .inl (f)))] sz = A at Y ⊢
  refine lv_aload_n B.1 B.2.1 dX10_ofHeap_0 rfl (lv_at hl 0 rfl) ?_
  refine gf_X10_7 B Y 0 rfl rfl dX10_ofHeap_1 ?_
  refine lv_sipush (v := 11992) B.1 B.2.1 dX10_ofHeap_4 (by decide) ?_
  refine lv_sipush (v := 1206) B.1 B.2.1 dX10_ofHeap_7 (by decide) ?_
  refine lv_iload_n B.1 B.2.1 dX10_ofHeap_10 rfl (lv_at hl 1 rfl) ?_
  refine lv_imul B.1 B.2.1 dX10_ofHeap_11 ?_
  refine lv_iadd B.1 B.2.1 dX10_ofHeap_12 ?_
  refine lv_iload_n B.1 B.2.1 dX10_ofHeap_13 rfl (lv_at hl 2 rfl) ?_
  refine lv_iadd B.1 B.2.1 dX10_ofHeap_14 ?_
  refine t_iald (v := (f j)) (j := j) B Y 1 rfl (by rw [h]; exact nI_pos (Nat.lt_trans hj (by decide))) (by rw [h]; exact nI_clamp (Nat.lt_trans hj (by decide))) hj rfl dX10_ofHeap_15 ?_
  exact endI B hr hlk Y () rfl [0, 1] (by decide) rfl (Nat.le_of_ble_eq_true rfl) (Nat.le_of_ble_eq_true rfl) dX10_ofHeap_16

set_option maxHeartbeats 4000000 in
set_option maxRecDepth 100000 in
theorem k_grows (l : Launch) (D : va_G) (τ : Nat → ClassId) (sz : Nat) (mo e0 e1 e2 e3 e4 e5 e6 e7 e8 e9 e10 e11 e12 : Nat) (i0 i1 i2 i3 i4 i5 i6 i7 i8 i9 i10 i11 i12 i13 i14 i15 i16 : Int32) (f : Nat → Int32) (k y : Int32) (j : Nat) (h : (12 + k) = nI j) (hj : j < 16816) : Met l yX10_grows (Cond.code yX10_grows cX10_grows 3 none :: wALL) { frames := 0, cells := 0, slots := 0, locals := 0 } (Pw D τ [(mo, .inr (10, [.ref e0, .ref e1, .ref e2, .ref e3, .ref e4, .int i0, .int i1, .int i2, .ref e5, .int i3, .int i4, .int i5, .int i6, .int i7, .int i8, .int i9, .int i10, .int i11, .int i12, .ref e6, .ref e7, .ref e8, .ref e9, .int i13, .ref e10, .ref e11, .int i14, .int i15, .ref e12, .int i16])), (e0, .inl (τ 0, 16816, .inl (f)))] sz [.ref mo, .int k, .int y]) (va_Qv (fun (u : Nat → Int32) => fr [j] f u) (Bw D (va_A [(mo, .inr (10, [.ref e0, .ref e1, .ref e2, .ref e3, .ref e4, .int i0, .int i1, .int i2, .ref e5, .int i3, .int i4, .int i5, .int i6, .int i7, .int i8, .int i9, .int i10, .int i11, .int i12, .ref e6, .ref e7, .ref e8, .ref e9, .int i13, .ref e10, .ref e11, .int i14, .int i15, .ref e12, .int i16])), (e0, .inl (τ 0, 16816, .inl (f)))] sz) (fun (u : Nat → Int32) => [(mo, .inr (10, [.ref e0, .ref e1, .ref e2, .ref e3, .ref e4, .int i0, .int i1, .int i2, .ref e5, .int i3, .int i4, .int i5, .int i6, .int i7, .int i8, .int i9, .int i10, .int i11, .int i12, .ref e6, .ref e7, .ref e8, .ref e9, .int i13, .ref e10, .ref e11, .int i14, .int i15, .ref e12, .int i16])), (e0, .inl (τ 0, 16816, .inl (u)))])) (va_A [(mo, .inr (10, [.ref e0, .ref e1, .ref e2, .ref e3, .ref e4, .int i0, .int i1, .int i2, .ref e5, .int i3, .int i4, .int i5, .int i6, .int i7, .int i8, .int i9, .int i10, .int i11, .int i12, .ref e6, .ref e7, .ref e8, .ref e9, .int i13, .ref e10, .ref e11, .int i14, .int i15, .ref e12, .int i16])), (e0, .inl (τ 0, 16816, .inl (f)))] sz)) 0 0 (va_A [(mo, .inr (10, [.ref e0, .ref e1, .ref e2, .ref e3, .ref e4, .int i0, .int i1, .int i2, .ref e5, .int i3, .int i4, .int i5, .int i6, .int i7, .int i8, .int i9, .int i10, .int i11, .int i12, .ref e6, .ref e7, .ref e8, .ref e9, .int i13, .ref e10, .ref e11, .int i14, .int i15, .ref e12, .int i16])), (e0, .inl (τ 0, 16816, .inl (f)))] sz) := by
  refine bodyW (by decide) (Nat.le_of_ble_eq_true rfl) (fun p e s m below meth c ls B hr hlk hin hsz Y hl => ?_)
  have hl : lv_has ls 3 [(0, .ref mo), (1, .int k), (2, .int y)] := hl
  have B : CallFix p m c cX10_grows 3 s _ wALL RX10 := B
  generalize va_A [(mo, .inr (10, [.ref e0, .ref e1, .ref e2, .ref e3, .ref e4, .int i0, .int i1, .int i2, .ref e5, .int i3, .int i4, .int i5, .int i6, .int i7, .int i8, .int i9, .int i10, .int i11, .int i12, .ref e6, .ref e7, .ref e8, .ref e9, .int i13, .ref e10, .ref e11, .int i14, .int i15, .ref e12, .int i16])), (e0, .inl (τ 0, 16816, .inl (f)))] sz = A at Y ⊢
  refine lv_aload_n B.1 B.2.1 dX10_grows_0 rfl (lv_at hl 0 rfl) ?_
  refine gf_X10_7 B Y 0 rfl rfl dX10_grows_1 ?_
  refine lv_bipush (v := 12) B.1 B.2.1 dX10_grows_4 (by decide) ?_
  refine lv_iload_n B.1 B.2.1 dX10_grows_6 rfl (lv_at hl 1 rfl) ?_
  refine lv_iadd B.1 B.2.1 dX10_grows_7 ?_
  refine lv_dup2_11 B.1 B.2.1 dX10_grows_8 rfl rfl ?_
  refine t_iald (v := (f j)) (j := j) B Y 1 rfl (by rw [h]; exact nI_pos (Nat.lt_trans hj (by decide))) (by rw [h]; exact nI_clamp (Nat.lt_trans hj (by decide))) hj rfl dX10_grows_9 ?_
  refine lv_iload_n B.1 B.2.1 dX10_grows_10 rfl (lv_at hl 2 rfl) ?_
  refine lv_iadd B.1 B.2.1 dX10_grows_11 ?_
  refine t_iast (j := j) (g := upd f j (f j + y)) (ws' := [(mo, .inr (10, [.ref e0, .ref e1, .ref e2, .ref e3, .ref e4, .int i0, .int i1, .int i2, .ref e5, .int i3, .int i4, .int i5, .int i6, .int i7, .int i8, .int i9, .int i10, .int i11, .int i12, .ref e6, .ref e7, .ref e8, .ref e9, .int i13, .ref e10, .ref e11, .int i14, .int i15, .ref e12, .int i16])), (e0, .inl (τ 0, 16816, .inl (upd f j (f j + y))))]) B Y 1 rfl (by rw [h]; exact nI_pos (Nat.lt_trans hj (by decide))) (by rw [h]; exact nI_clamp (Nat.lt_trans hj (by decide))) hj rfl rfl dX10_grows_12 (fun H locs Y => ?_)
  exact endV B hr hlk Y (upd f j (f j + y)) (fr_upd (Or.inr (by simp)) fr_rfl) [0, 1] (by decide) rfl (Nat.le_of_ble_eq_true rfl) (Nat.le_of_ble_eq_true rfl) dX10_grows_13

set_option maxHeartbeats 4000000 in
set_option maxRecDepth 100000 in
theorem k_growsLink (l : Launch) (D : va_G) (τ : Nat → ClassId) (sz : Nat) (mo e0 e1 e2 e3 e4 e5 e6 e7 e8 e9 e10 e11 e12 : Nat) (i0 i1 i2 i3 i4 i5 i6 i7 i8 i9 i10 i11 i12 i13 i14 i15 i16 : Int32) (f : Nat → Int32) (k w y : Int32) (j : Nat) (h : ((24 + (8 * k)) + w) = nI j) (hj : j < 16816) : Met l yX10_growsLink (Cond.code yX10_growsLink cX10_growsLink 4 none :: wALL) { frames := 0, cells := 0, slots := 0, locals := 0 } (Pw D τ [(mo, .inr (10, [.ref e0, .ref e1, .ref e2, .ref e3, .ref e4, .int i0, .int i1, .int i2, .ref e5, .int i3, .int i4, .int i5, .int i6, .int i7, .int i8, .int i9, .int i10, .int i11, .int i12, .ref e6, .ref e7, .ref e8, .ref e9, .int i13, .ref e10, .ref e11, .int i14, .int i15, .ref e12, .int i16])), (e0, .inl (τ 0, 16816, .inl (f)))] sz [.ref mo, .int k, .int w, .int y]) (va_Qv (fun (u : Nat → Int32) => fr [j] f u) (Bw D (va_A [(mo, .inr (10, [.ref e0, .ref e1, .ref e2, .ref e3, .ref e4, .int i0, .int i1, .int i2, .ref e5, .int i3, .int i4, .int i5, .int i6, .int i7, .int i8, .int i9, .int i10, .int i11, .int i12, .ref e6, .ref e7, .ref e8, .ref e9, .int i13, .ref e10, .ref e11, .int i14, .int i15, .ref e12, .int i16])), (e0, .inl (τ 0, 16816, .inl (f)))] sz) (fun (u : Nat → Int32) => [(mo, .inr (10, [.ref e0, .ref e1, .ref e2, .ref e3, .ref e4, .int i0, .int i1, .int i2, .ref e5, .int i3, .int i4, .int i5, .int i6, .int i7, .int i8, .int i9, .int i10, .int i11, .int i12, .ref e6, .ref e7, .ref e8, .ref e9, .int i13, .ref e10, .ref e11, .int i14, .int i15, .ref e12, .int i16])), (e0, .inl (τ 0, 16816, .inl (u)))])) (va_A [(mo, .inr (10, [.ref e0, .ref e1, .ref e2, .ref e3, .ref e4, .int i0, .int i1, .int i2, .ref e5, .int i3, .int i4, .int i5, .int i6, .int i7, .int i8, .int i9, .int i10, .int i11, .int i12, .ref e6, .ref e7, .ref e8, .ref e9, .int i13, .ref e10, .ref e11, .int i14, .int i15, .ref e12, .int i16])), (e0, .inl (τ 0, 16816, .inl (f)))] sz)) 0 0 (va_A [(mo, .inr (10, [.ref e0, .ref e1, .ref e2, .ref e3, .ref e4, .int i0, .int i1, .int i2, .ref e5, .int i3, .int i4, .int i5, .int i6, .int i7, .int i8, .int i9, .int i10, .int i11, .int i12, .ref e6, .ref e7, .ref e8, .ref e9, .int i13, .ref e10, .ref e11, .int i14, .int i15, .ref e12, .int i16])), (e0, .inl (τ 0, 16816, .inl (f)))] sz) := by
  refine bodyW (by decide) (Nat.le_of_ble_eq_true rfl) (fun p e s m below meth c ls B hr hlk hin hsz Y hl => ?_)
  have hl : lv_has ls 4 [(0, .ref mo), (1, .int k), (2, .int w), (3, .int y)] := hl
  have B : CallFix p m c cX10_growsLink 4 s _ wALL RX10 := B
  generalize va_A [(mo, .inr (10, [.ref e0, .ref e1, .ref e2, .ref e3, .ref e4, .int i0, .int i1, .int i2, .ref e5, .int i3, .int i4, .int i5, .int i6, .int i7, .int i8, .int i9, .int i10, .int i11, .int i12, .ref e6, .ref e7, .ref e8, .ref e9, .int i13, .ref e10, .ref e11, .int i14, .int i15, .ref e12, .int i16])), (e0, .inl (τ 0, 16816, .inl (f)))] sz = A at Y ⊢
  refine lv_aload_n B.1 B.2.1 dX10_growsLink_0 rfl (lv_at hl 0 rfl) ?_
  refine gf_X10_7 B Y 0 rfl rfl dX10_growsLink_1 ?_
  refine lv_bipush (v := 24) B.1 B.2.1 dX10_growsLink_4 (by decide) ?_
  refine lv_bipush (v := 8) B.1 B.2.1 dX10_growsLink_6 (by decide) ?_
  refine lv_iload_n B.1 B.2.1 dX10_growsLink_8 rfl (lv_at hl 1 rfl) ?_
  refine lv_imul B.1 B.2.1 dX10_growsLink_9 ?_
  refine lv_iadd B.1 B.2.1 dX10_growsLink_10 ?_
  refine lv_iload_n B.1 B.2.1 dX10_growsLink_11 rfl (lv_at hl 2 rfl) ?_
  refine lv_iadd B.1 B.2.1 dX10_growsLink_12 ?_
  refine lv_dup2_11 B.1 B.2.1 dX10_growsLink_13 rfl rfl ?_
  refine t_iald (v := (f j)) (j := j) B Y 1 rfl (by rw [h]; exact nI_pos (Nat.lt_trans hj (by decide))) (by rw [h]; exact nI_clamp (Nat.lt_trans hj (by decide))) hj rfl dX10_growsLink_14 ?_
  refine lv_iload_n B.1 B.2.1 dX10_growsLink_15 rfl (lv_at hl 3 rfl) ?_
  refine lv_iadd B.1 B.2.1 dX10_growsLink_16 ?_
  refine t_iast (j := j) (g := upd f j (f j + y)) (ws' := [(mo, .inr (10, [.ref e0, .ref e1, .ref e2, .ref e3, .ref e4, .int i0, .int i1, .int i2, .ref e5, .int i3, .int i4, .int i5, .int i6, .int i7, .int i8, .int i9, .int i10, .int i11, .int i12, .ref e6, .ref e7, .ref e8, .ref e9, .int i13, .ref e10, .ref e11, .int i14, .int i15, .ref e12, .int i16])), (e0, .inl (τ 0, 16816, .inl (upd f j (f j + y))))]) B Y 1 rfl (by rw [h]; exact nI_pos (Nat.lt_trans hj (by decide))) (by rw [h]; exact nI_clamp (Nat.lt_trans hj (by decide))) hj rfl rfl dX10_growsLink_17 (fun H locs Y => ?_)
  exact endV B hr hlk Y (upd f j (f j + y)) (fr_upd (Or.inr (by simp)) fr_rfl) [0, 1] (by decide) rfl (Nat.le_of_ble_eq_true rfl) (Nat.le_of_ble_eq_true rfl) dX10_growsLink_18

set_option maxHeartbeats 4000000 in
set_option maxRecDepth 100000 in
theorem k_putsData (l : Launch) (D : va_G) (τ : Nat → ClassId) (sz : Nat) (mo e0 e1 e2 e3 e4 e5 e6 e7 e8 e9 e10 e11 e12 : Nat) (i0 i1 i2 i3 i4 i5 i6 i7 i8 i9 i10 i11 i12 i13 i14 i15 i16 : Int32) (f : Nat → Int32) (k w y : Int32) (j : Nat) (h : ((72 + (8 * k)) + w) = nI j) (hj : j < 16816) : Met l yX10_putsData (Cond.code yX10_putsData cX10_putsData 4 none :: wALL) { frames := 0, cells := 0, slots := 0, locals := 0 } (Pw D τ [(mo, .inr (10, [.ref e0, .ref e1, .ref e2, .ref e3, .ref e4, .int i0, .int i1, .int i2, .ref e5, .int i3, .int i4, .int i5, .int i6, .int i7, .int i8, .int i9, .int i10, .int i11, .int i12, .ref e6, .ref e7, .ref e8, .ref e9, .int i13, .ref e10, .ref e11, .int i14, .int i15, .ref e12, .int i16])), (e0, .inl (τ 0, 16816, .inl (f)))] sz [.ref mo, .int k, .int w, .int y]) (va_Qv (fun (_ : Unit) => True) (Bw D (va_A [(mo, .inr (10, [.ref e0, .ref e1, .ref e2, .ref e3, .ref e4, .int i0, .int i1, .int i2, .ref e5, .int i3, .int i4, .int i5, .int i6, .int i7, .int i8, .int i9, .int i10, .int i11, .int i12, .ref e6, .ref e7, .ref e8, .ref e9, .int i13, .ref e10, .ref e11, .int i14, .int i15, .ref e12, .int i16])), (e0, .inl (τ 0, 16816, .inl (f)))] sz) (fun (_ : Unit) => [(mo, .inr (10, [.ref e0, .ref e1, .ref e2, .ref e3, .ref e4, .int i0, .int i1, .int i2, .ref e5, .int i3, .int i4, .int i5, .int i6, .int i7, .int i8, .int i9, .int i10, .int i11, .int i12, .ref e6, .ref e7, .ref e8, .ref e9, .int i13, .ref e10, .ref e11, .int i14, .int i15, .ref e12, .int i16])), (e0, .inl (τ 0, 16816, .inl (upd f j y)))])) (va_A [(mo, .inr (10, [.ref e0, .ref e1, .ref e2, .ref e3, .ref e4, .int i0, .int i1, .int i2, .ref e5, .int i3, .int i4, .int i5, .int i6, .int i7, .int i8, .int i9, .int i10, .int i11, .int i12, .ref e6, .ref e7, .ref e8, .ref e9, .int i13, .ref e10, .ref e11, .int i14, .int i15, .ref e12, .int i16])), (e0, .inl (τ 0, 16816, .inl (f)))] sz)) 0 0 (va_A [(mo, .inr (10, [.ref e0, .ref e1, .ref e2, .ref e3, .ref e4, .int i0, .int i1, .int i2, .ref e5, .int i3, .int i4, .int i5, .int i6, .int i7, .int i8, .int i9, .int i10, .int i11, .int i12, .ref e6, .ref e7, .ref e8, .ref e9, .int i13, .ref e10, .ref e11, .int i14, .int i15, .ref e12, .int i16])), (e0, .inl (τ 0, 16816, .inl (f)))] sz) := by
  refine bodyW (by decide) (Nat.le_of_ble_eq_true rfl) (fun p e s m below meth c ls B hr hlk hin hsz Y hl => ?_)
  have hl : lv_has ls 4 [(0, .ref mo), (1, .int k), (2, .int w), (3, .int y)] := hl
  have B : CallFix p m c cX10_putsData 4 s _ wALL RX10 := B
  generalize va_A [(mo, .inr (10, [.ref e0, .ref e1, .ref e2, .ref e3, .ref e4, .int i0, .int i1, .int i2, .ref e5, .int i3, .int i4, .int i5, .int i6, .int i7, .int i8, .int i9, .int i10, .int i11, .int i12, .ref e6, .ref e7, .ref e8, .ref e9, .int i13, .ref e10, .ref e11, .int i14, .int i15, .ref e12, .int i16])), (e0, .inl (τ 0, 16816, .inl (f)))] sz = A at Y ⊢
  refine lv_aload_n B.1 B.2.1 dX10_putsData_0 rfl (lv_at hl 0 rfl) ?_
  refine gf_X10_7 B Y 0 rfl rfl dX10_putsData_1 ?_
  refine lv_bipush (v := 72) B.1 B.2.1 dX10_putsData_4 (by decide) ?_
  refine lv_bipush (v := 8) B.1 B.2.1 dX10_putsData_6 (by decide) ?_
  refine lv_iload_n B.1 B.2.1 dX10_putsData_8 rfl (lv_at hl 1 rfl) ?_
  refine lv_imul B.1 B.2.1 dX10_putsData_9 ?_
  refine lv_iadd B.1 B.2.1 dX10_putsData_10 ?_
  refine lv_iload_n B.1 B.2.1 dX10_putsData_11 rfl (lv_at hl 2 rfl) ?_
  refine lv_iadd B.1 B.2.1 dX10_putsData_12 ?_
  refine lv_iload_n B.1 B.2.1 dX10_putsData_13 rfl (lv_at hl 3 rfl) ?_
  refine t_iast (j := j) (g := upd f j y) (ws' := [(mo, .inr (10, [.ref e0, .ref e1, .ref e2, .ref e3, .ref e4, .int i0, .int i1, .int i2, .ref e5, .int i3, .int i4, .int i5, .int i6, .int i7, .int i8, .int i9, .int i10, .int i11, .int i12, .ref e6, .ref e7, .ref e8, .ref e9, .int i13, .ref e10, .ref e11, .int i14, .int i15, .ref e12, .int i16])), (e0, .inl (τ 0, 16816, .inl (upd f j y)))]) B Y 1 rfl (by rw [h]; exact nI_pos (Nat.lt_trans hj (by decide))) (by rw [h]; exact nI_clamp (Nat.lt_trans hj (by decide))) hj rfl rfl dX10_putsData_14 (fun H locs Y => ?_)
  exact endV B hr hlk Y () trivial [0, 1] (by decide) rfl (Nat.le_of_ble_eq_true rfl) (Nat.le_of_ble_eq_true rfl) dX10_putsData_15

set_option maxHeartbeats 4000000 in
set_option maxRecDepth 100000 in
theorem k_laysLink (l : Launch) (D : va_G) (τ : Nat → ClassId) (sz : Nat) (mo e0 e1 e2 e3 e4 e5 e6 e7 e8 e9 e10 e11 e12 : Nat) (i0 i1 i2 i3 i4 i5 i6 i7 i8 i9 i10 i11 i12 i13 i14 i15 i16 : Int32) (f : Nat → Int32) (h0 : f 0 = 0) : Met l yX10_laysLink (Cond.code yX10_laysLink cX10_laysLink 5 none :: wALL) { frames := 0, cells := 0, slots := 0, locals := 0 } (Pw D τ [(mo, .inr (10, [.ref e0, .ref e1, .ref e2, .ref e3, .ref e4, .int i0, .int i1, .int i2, .ref e5, .int i3, .int i4, .int i5, .int i6, .int i7, .int i8, .int i9, .int i10, .int i11, .int i12, .ref e6, .ref e7, .ref e8, .ref e9, .int i13, .ref e10, .ref e11, .int i14, .int i15, .ref e12, .int i16])), (e0, .inl (τ 0, 16816, .inl (f)))] sz [.ref mo, .int 576, .int 1, .int 0]) (va_Qv (fun (_ : Unit) => True) (Bw D (va_A [(mo, .inr (10, [.ref e0, .ref e1, .ref e2, .ref e3, .ref e4, .int i0, .int i1, .int i2, .ref e5, .int i3, .int i4, .int i5, .int i6, .int i7, .int i8, .int i9, .int i10, .int i11, .int i12, .ref e6, .ref e7, .ref e8, .ref e9, .int i13, .ref e10, .ref e11, .int i14, .int i15, .ref e12, .int i16])), (e0, .inl (τ 0, 16816, .inl (f)))] sz) (fun (_ : Unit) => [(mo, .inr (10, [.ref e0, .ref e1, .ref e2, .ref e3, .ref e4, .int i0, .int i1, .int i2, .ref e5, .int i3, .int i4, .int i5, .int i6, .int i7, .int i8, .int i9, .int i10, .int i11, .int i12, .ref e6, .ref e7, .ref e8, .ref e9, .int i13, .ref e10, .ref e11, .int i14, .int i15, .ref e12, .int i16])), (e0, .inl (τ 0, 16816, .inl (upd (upd (upd (upd (f) 24 576) 25 1) 26 0) 0 1)))])) (va_A [(mo, .inr (10, [.ref e0, .ref e1, .ref e2, .ref e3, .ref e4, .int i0, .int i1, .int i2, .ref e5, .int i3, .int i4, .int i5, .int i6, .int i7, .int i8, .int i9, .int i10, .int i11, .int i12, .ref e6, .ref e7, .ref e8, .ref e9, .int i13, .ref e10, .ref e11, .int i14, .int i15, .ref e12, .int i16])), (e0, .inl (τ 0, 16816, .inl (f)))] sz)) 0 0 (va_A [(mo, .inr (10, [.ref e0, .ref e1, .ref e2, .ref e3, .ref e4, .int i0, .int i1, .int i2, .ref e5, .int i3, .int i4, .int i5, .int i6, .int i7, .int i8, .int i9, .int i10, .int i11, .int i12, .ref e6, .ref e7, .ref e8, .ref e9, .int i13, .ref e10, .ref e11, .int i14, .int i15, .ref e12, .int i16])), (e0, .inl (τ 0, 16816, .inl (f)))] sz) := by
  refine bodyW (by decide) (Nat.le_of_ble_eq_true rfl) (fun p e s m below meth c ls B hr hlk hin hsz Y hl => ?_)
  have hl : lv_has ls 5 [(0, .ref mo), (1, .int 576), (2, .int 1), (3, .int 0)] := hl
  have B : CallFix p m c cX10_laysLink 5 s _ wALL RX10 := B
  generalize va_A [(mo, .inr (10, [.ref e0, .ref e1, .ref e2, .ref e3, .ref e4, .int i0, .int i1, .int i2, .ref e5, .int i3, .int i4, .int i5, .int i6, .int i7, .int i8, .int i9, .int i10, .int i11, .int i12, .ref e6, .ref e7, .ref e8, .ref e9, .int i13, .ref e10, .ref e11, .int i14, .int i15, .ref e12, .int i16])), (e0, .inl (τ 0, 16816, .inl (f)))] sz = A at Y ⊢
  refine lv_bipush (v := 24) B.1 B.2.1 dX10_laysLink_0 (by decide) ?_
  refine lv_bipush (v := 8) B.1 B.2.1 dX10_laysLink_2 (by decide) ?_
  refine lv_aload_n B.1 B.2.1 dX10_laysLink_4 rfl (lv_at hl 0 rfl) ?_
  refine gf_X10_7 B Y 0 rfl rfl dX10_laysLink_5 ?_
  refine lv_iconst (v := 0) B.1 B.2.1 dX10_laysLink_8 (by decide) ?_
  refine t_iald (v := 0) (j := 0) B Y 1 rfl (by decide) (by decide) (Nat.le_of_ble_eq_true rfl) h0 dX10_laysLink_9 ?_
  refine lv_imul B.1 B.2.1 dX10_laysLink_10 ?_
  refine lv_cv (v := 0) (by decide) ?_
  refine lv_iadd B.1 B.2.1 dX10_laysLink_11 ?_
  refine lv_cv (v := 24) (by decide) ?_
  refine lv_istore (lv' := [(4, .int 24), (0, .ref mo), (1, .int 576), (2, .int 1), (3, .int 0)]) B.1 B.2.1 dX10_laysLink_12 hl (by decide) rfl (fun ls hl => ?_)
  refine lv_aload_n B.1 B.2.1 dX10_laysLink_14 rfl (lv_at hl 1 rfl) ?_
  refine gf_X10_7 B Y 0 rfl rfl dX10_laysLink_15 ?_
  refine lv_iload B.1 B.2.1 dX10_laysLink_18 (lv_at hl 0 rfl) ?_
  refine lv_iconst (v := 0) B.1 B.2.1 dX10_laysLink_20 (by decide) ?_
  refine lv_iadd B.1 B.2.1 dX10_laysLink_21 ?_
  refine lv_cv (v := 24) (by decide) ?_
  refine lv_iload_n B.1 B.2.1 dX10_laysLink_22 rfl (lv_at hl 2 rfl) ?_
  refine t_iast (j := 24) (g := upd (f) 24 576) (ws' := [(mo, .inr (10, [.ref e0, .ref e1, .ref e2, .ref e3, .ref e4, .int i0, .int i1, .int i2, .ref e5, .int i3, .int i4, .int i5, .int i6, .int i7, .int i8, .int i9, .int i10, .int i11, .int i12, .ref e6, .ref e7, .ref e8, .ref e9, .int i13, .ref e10, .ref e11, .int i14, .int i15, .ref e12, .int i16])), (e0, .inl (τ 0, 16816, .inl (upd (f) 24 576)))]) B Y 1 rfl (by decide) (by decide) (Nat.le_of_ble_eq_true rfl) rfl rfl dX10_laysLink_23 (fun H locs Y => ?_)
  refine lv_aload_n B.1 B.2.1 dX10_laysLink_24 rfl (lv_at hl 1 rfl) ?_
  refine gf_X10_7 B Y 0 rfl rfl dX10_laysLink_25 ?_
  refine lv_iload B.1 B.2.1 dX10_laysLink_28 (lv_at hl 0 rfl) ?_
  refine lv_iconst (v := 1) B.1 B.2.1 dX10_laysLink_30 (by decide) ?_
  refine lv_iadd B.1 B.2.1 dX10_laysLink_31 ?_
  refine lv_cv (v := 25) (by decide) ?_
  refine lv_iload_n B.1 B.2.1 dX10_laysLink_32 rfl (lv_at hl 3 rfl) ?_
  refine t_iast (j := 25) (g := upd (upd (f) 24 576) 25 1) (ws' := [(mo, .inr (10, [.ref e0, .ref e1, .ref e2, .ref e3, .ref e4, .int i0, .int i1, .int i2, .ref e5, .int i3, .int i4, .int i5, .int i6, .int i7, .int i8, .int i9, .int i10, .int i11, .int i12, .ref e6, .ref e7, .ref e8, .ref e9, .int i13, .ref e10, .ref e11, .int i14, .int i15, .ref e12, .int i16])), (e0, .inl (τ 0, 16816, .inl (upd (upd (f) 24 576) 25 1)))]) B Y 1 rfl (by decide) (by decide) (Nat.le_of_ble_eq_true rfl) rfl rfl dX10_laysLink_33 (fun H locs Y => ?_)
  refine lv_aload_n B.1 B.2.1 dX10_laysLink_34 rfl (lv_at hl 1 rfl) ?_
  refine gf_X10_7 B Y 0 rfl rfl dX10_laysLink_35 ?_
  refine lv_iload B.1 B.2.1 dX10_laysLink_38 (lv_at hl 0 rfl) ?_
  refine lv_iconst (v := 2) B.1 B.2.1 dX10_laysLink_40 (by decide) ?_
  refine lv_iadd B.1 B.2.1 dX10_laysLink_41 ?_
  refine lv_cv (v := 26) (by decide) ?_
  refine lv_iload_n B.1 B.2.1 dX10_laysLink_42 rfl (lv_at hl 4 rfl) ?_
  refine t_iast (j := 26) (g := upd (upd (upd (f) 24 576) 25 1) 26 0) (ws' := [(mo, .inr (10, [.ref e0, .ref e1, .ref e2, .ref e3, .ref e4, .int i0, .int i1, .int i2, .ref e5, .int i3, .int i4, .int i5, .int i6, .int i7, .int i8, .int i9, .int i10, .int i11, .int i12, .ref e6, .ref e7, .ref e8, .ref e9, .int i13, .ref e10, .ref e11, .int i14, .int i15, .ref e12, .int i16])), (e0, .inl (τ 0, 16816, .inl (upd (upd (upd (f) 24 576) 25 1) 26 0)))]) B Y 1 rfl (by decide) (by decide) (Nat.le_of_ble_eq_true rfl) rfl rfl dX10_laysLink_43 (fun H locs Y => ?_)
  refine lv_aload_n B.1 B.2.1 dX10_laysLink_44 rfl (lv_at hl 1 rfl) ?_
  refine gf_X10_7 B Y 0 rfl rfl dX10_laysLink_45 ?_
  refine lv_iconst (v := 0) B.1 B.2.1 dX10_laysLink_48 (by decide) ?_
  refine lv_dup2_11 B.1 B.2.1 dX10_laysLink_49 rfl rfl ?_
  refine t_iald (v := 0) (j := 0) B Y 1 rfl (by decide) (by decide) (Nat.le_of_ble_eq_true rfl) h0 dX10_laysLink_50 ?_
  refine lv_iconst (v := 1) B.1 B.2.1 dX10_laysLink_51 (by decide) ?_
  refine lv_iadd B.1 B.2.1 dX10_laysLink_52 ?_
  refine lv_cv (v := 1) (by decide) ?_
  refine t_iast (j := 0) (g := upd (upd (upd (upd (f) 24 576) 25 1) 26 0) 0 1) (ws' := [(mo, .inr (10, [.ref e0, .ref e1, .ref e2, .ref e3, .ref e4, .int i0, .int i1, .int i2, .ref e5, .int i3, .int i4, .int i5, .int i6, .int i7, .int i8, .int i9, .int i10, .int i11, .int i12, .ref e6, .ref e7, .ref e8, .ref e9, .int i13, .ref e10, .ref e11, .int i14, .int i15, .ref e12, .int i16])), (e0, .inl (τ 0, 16816, .inl (upd (upd (upd (upd (f) 24 576) 25 1) 26 0) 0 1)))]) B Y 1 rfl (by decide) (by decide) (Nat.le_of_ble_eq_true rfl) rfl rfl dX10_laysLink_53 (fun H locs Y => ?_)
  exact endV B hr hlk Y () trivial [0, 1] (by decide) rfl (Nat.le_of_ble_eq_true rfl) (Nat.le_of_ble_eq_true rfl) dX10_laysLink_54
