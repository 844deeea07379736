set_option maxHeartbeats 4000000 in
set_option maxRecDepth 100000 in
theorem k_valueIn (l : Launch) (D : va_G) (τ : Nat → ClassId) (sz : Nat) (a n : Nat) (f : Nat → Int32) (hn : n < 2 ^ 31) (i : Int32) (j : Nat) (hi : i = nI j) (hj : j < n) : Met l yX9_valueIn (Cond.code yX9_valueIn cX9_valueIn 2 (some .int) :: wALL) { frames := 0, cells := 0, slots := 0, locals := 0 } (Pw D τ [(a, .inl (τ 0, n, .inl (f)))] sz [.ref a, .int i]) (va_Qi (fun (r : Int32) (_ : Unit) => r = f j) (Bw D (va_A [(a, .inl (τ 0, n, .inl (f)))] sz) (fun (_ : Unit) => [(a, .inl (τ 0, n, .inl (f)))])) (va_A [(a, .inl (τ 0, n, .inl (f)))] sz)) 0 0 (va_A [(a, .inl (τ 0, n, .inl (f)))] sz) := by
  refine bodyW (by decide) (Nat.le_of_ble_eq_true rfl) (fun p e s m below meth c ls B hr hlk hin hsz Y hl => ?_)
  have hl : lv_has ls 2 [(0, .ref a), (1, .int i)] := hl
  have B : CallFix p m c cX9_valueIn 2 s _ wALL RX9 := B
  generalize va_A [(a, .inl (τ 0, n, .inl (f)))] sz = A at Y ⊢
  refine lv_iload_n B.1 B.2.1 dX9_valueIn_0 rfl (lv_at hl 1 rfl) ?_
  refine lv_if_lt (tgt := 16) B.1 B.2.1 dX9_valueIn_1 (by decide) (fun h => absurd h (by rw [hi]; exact nI_pos (Nat.lt_trans hj hn))) (fun _ => ?_)
  refine lv_iload_n B.1 B.2.1 dX9_valueIn_4 rfl (lv_at hl 1 rfl) ?_
  refine lv_aload_n B.1 B.2.1 dX9_valueIn_5 rfl (lv_at hl 0 rfl) ?_
  refine t_alen (v := (nI n)) B Y 0 rfl 0 rfl rfl dX9_valueIn_6 ?_
  refine lv_icmp_ge (tgt := 16) B.1 B.2.1 dX9_valueIn_7 (by decide) (fun h => absurd h (by rw [hi]; exact nI_ge hj hn)) (fun _ => ?_)
  refine lv_aload_n B.1 B.2.1 dX9_valueIn_10 rfl (lv_at hl 0 rfl) ?_
  refine lv_iload_n B.1 B.2.1 dX9_valueIn_11 rfl (lv_at hl 1 rfl) ?_
  refine t_iald (v := (f j)) (j := j) B Y 0 rfl (by rw [hi]; exact nI_pos (Nat.lt_trans hj hn)) (by rw [hi]; exact nI_clamp (Nat.lt_trans hj hn)) hj rfl dX9_valueIn_12 ?_
  refine lv_goto (tgt := 17) B.1 B.2.1 dX9_valueIn_13 (by decide) ?_
  exact endI B hr hlk Y () rfl [0] (by decide) rfl (Nat.le_of_ble_eq_true rfl) (Nat.le_of_ble_eq_true rfl) dX9_valueIn_17

set_option maxHeartbeats 4000000 in
set_option maxRecDepth 100000 in
theorem k_valueInN (l : Launch) (D : va_G) (τ : Nat → ClassId) (sz : Nat) (a n : Nat) (f : Nat → Int32) (hn : n < 2 ^ 31) (i : Int32) (hi : i < 0 ∨ nI n ≤ i) : Met l yX9_valueIn (Cond.code yX9_valueIn cX9_valueIn 2 (some .int) :: wALL) { frames := 0, cells := 0, slots := 0, locals := 0 } (Pw D τ [(a, .inl (τ 0, n, .inl (f)))] sz [.ref a, .int i]) (va_Qi (fun (r : Int32) (_ : Unit) => r = (-1)) (Bw D (va_A [(a, .inl (τ 0, n, .inl (f)))] sz) (fun (_ : Unit) => [(a, .inl (τ 0, n, .inl (f)))])) (va_A [(a, .inl (τ 0, n, .inl (f)))] sz)) 0 0 (va_A [(a, .inl (τ 0, n, .inl (f)))] sz) := by
  refine bodyW (by decide) (Nat.le_of_ble_eq_true rfl) (fun p e s m below meth c ls B hr hlk hin hsz Y hl => ?_)
  have hl : lv_has ls 2 [(0, .ref a), (1, .int i)] := hl
  have B : CallFix p m c cX9_valueIn 2 s _ wALL RX9 := B
  generalize va_A [(a, .inl (τ 0, n, .inl (f)))] sz = A at Y ⊢
  refine lv_iload_n B.1 B.2.1 dX9_valueIn_0 rfl (lv_at hl 1 rfl) ?_
  refine lv_if_lt (tgt := 16) B.1 B.2.1 dX9_valueIn_1 (by decide) (fun c1 => ?_) (fun c1 => ?_)
  · refine lv_iconst (v := (-1)) B.1 B.2.1 dX9_valueIn_16 (by decide) ?_
    exact endI B hr hlk Y () rfl [0] (by decide) rfl (Nat.le_of_ble_eq_true rfl) (Nat.le_of_ble_eq_true rfl) dX9_valueIn_17
  · refine lv_iload_n B.1 B.2.1 dX9_valueIn_4 rfl (lv_at hl 1 rfl) ?_
    refine lv_aload_n B.1 B.2.1 dX9_valueIn_5 rfl (lv_at hl 0 rfl) ?_
    refine t_alen (v := (nI n)) B Y 0 rfl 0 rfl rfl dX9_valueIn_6 ?_
    refine lv_icmp_ge (tgt := 16) B.1 B.2.1 dX9_valueIn_7 (by decide) (fun _ => ?_) (fun h => absurd (hi.resolve_left c1) h)
    refine lv_iconst (v := (-1)) B.1 B.2.1 dX9_valueIn_16 (by decide) ?_
    exact endI B hr hlk Y () rfl [0] (by decide) rfl (Nat.le_of_ble_eq_true rfl) (Nat.le_of_ble_eq_true rfl) dX9_valueIn_17

set_option maxHeartbeats 4000000 in
set_option maxRecDepth 100000 in
theorem k_setIn (l : Launch) (D : va_G) (τ : Nat → ClassId) (sz : Nat) (a n : Nat) (f : Nat → Int32) (hn : n < 2 ^ 31) (i v : Int32) (j : Nat) (hi : i = nI j) (hj : j < n) : Met l yX9_setIn (Cond.code yX9_setIn cX9_setIn 3 none :: wALL) { frames := 0, cells := 0, slots := 0, locals := 0 } (Pw D τ [(a, .inl (τ 0, n, .inl (f)))] sz [.ref a, .int i, .int v]) (va_Qv (fun (_ : Unit) => True) (Bw D (va_A [(a, .inl (τ 0, n, .inl (f)))] sz) (fun (_ : Unit) => [(a, .inl (τ 0, n, .inl (upd f j v)))])) (va_A [(a, .inl (τ 0, n, .inl (f)))] sz)) 0 0 (va_A [(a, .inl (τ 0, n, .inl (f)))] sz) := by
  refine bodyW (by decide) (Nat.le_of_ble_eq_true rfl) (fun p e s m below meth c ls B hr hlk hin hsz Y hl => ?_)
  have hl : lv_has ls 3 [(0, .ref a), (1, .int i), (2, .int v)] := hl
  have B : CallFix p m c cX9_setIn 3 s _ wALL RX9 := B
  generalize va_A [(a, .inl (τ 0, n, .inl (f)))] sz = A at Y ⊢
  refine lv_iload_n B.1 B.2.1 dX9_setIn_0 rfl (lv_at hl 1 rfl) ?_
  refine lv_if_lt (tgt := 14) B.1 B.2.1 dX9_setIn_1 (by decide) (fun h => absurd h (by rw [hi]; exact nI_pos (Nat.lt_trans hj hn))) (fun _ => ?_)
  refine lv_iload_n B.1 B.2.1 dX9_setIn_4 rfl (lv_at hl 1 rfl) ?_
  refine lv_aload_n B.1 B.2.1 dX9_setIn_5 rfl (lv_at hl 0 rfl) ?_
  refine t_alen (v := (nI n)) B Y 0 rfl 0 rfl rfl dX9_setIn_6 ?_
  refine lv_icmp_ge (tgt := 14) B.1 B.2.1 dX9_setIn_7 (by decide) (fun h => absurd h (by rw [hi]; exact nI_ge hj hn)) (fun _ => ?_)
  refine lv_aload_n B.1 B.2.1 dX9_setIn_10 rfl (lv_at hl 0 rfl) ?_
  refine lv_iload_n B.1 B.2.1 dX9_setIn_11 rfl (lv_at hl 1 rfl) ?_
  refine lv_iload_n B.1 B.2.1 dX9_setIn_12 rfl (lv_at hl 2 rfl) ?_
  refine t_iast (j := j) (g := upd f j v) (ws' := [(a, .inl (τ 0, n, .inl (upd f j v)))]) B Y 0 rfl (by rw [hi]; exact nI_pos (Nat.lt_trans hj hn)) (by rw [hi]; exact nI_clamp (Nat.lt_trans hj hn)) hj rfl rfl dX9_setIn_13 (fun H locs Y => ?_)
  exact endV B hr hlk Y () trivial [0] (by decide) rfl (Nat.le_of_ble_eq_true rfl) (Nat.le_of_ble_eq_true rfl) dX9_setIn_14

set_option maxHeartbeats 4000000 in
set_option maxRecDepth 100000 in
theorem k_needRange (l : Launch) (hl0 : l.stackTraces = false) (D : va_G) (τ : Nat → ClassId) (sz : Nat) (a b d : Int32) : vx_Met l yX9_needRange (Cond.code yX9_needRange cX9_needRange 3 none :: wALL) { frames := 6, cells := 1, slots := 6, locals := 140 } (PwX D τ [] sz [.int a, .int b, .int d]) (va_Qv (fun (_ : Unit) => ¬ a < b ∧ ¬ d < a) (Bw D (va_A [] sz) (fun (_ : Unit) => [])) (va_A [] sz)) (XQ (fun E => E = "java/lang/IllegalArgumentException" ∧ (a < b ∨ d < a)) (va_A [] sz)) 1 6 (va_A [] sz) := by
  refine bodyX (by decide) (Nat.le_of_ble_eq_true rfl) (fun p e s m below meth c ls B hr hlk ht hsz Y hT hl => ?_)
  have hl : lv_has ls 3 [(0, .int a), (1, .int b), (2, .int d)] := hl
  have B : CallFix p m c cX9_needRange 3 s _ wALL RX9 := B
  generalize va_A [] sz = A at Y hT ⊢
  refine lv_iload_n B.1 B.2.1 dX9_needRange_0 rfl (lv_at hl 0 rfl) ?_
  refine lv_iload_n B.1 B.2.1 dX9_needRange_1 rfl (lv_at hl 1 rfl) ?_
  refine lv_icmp_lt (tgt := 10) B.1 B.2.1 dX9_needRange_2 (by decide) (fun c1 => ?_) (fun c1 => ?_)
  · exact t_throwW (names := ["java/lang/RuntimeException", "java/lang/Exception"]) (text := "a number is out of its range") B hl0 Y hT (by decide) (by decide) q_931 q_17 (by decide +kernel) th1_X9_87 th2_X9_87 th3_X9_87 hl.1 dX9_needRange_10 dX9_needRange_13 dX9_needRange_14 dX9_needRange_17 dX9_needRange_20 ht hlk (Nat.le_of_ble_eq_true rfl) (Nat.le_of_ble_eq_true rfl) (Nat.le_of_ble_eq_true rfl) (Nat.le_of_ble_eq_true rfl) ⟨rfl, Or.inl c1⟩ (Nat.le_of_ble_eq_true rfl) (Nat.le_of_ble_eq_true rfl)
  · refine lv_iload_n B.1 B.2.1 dX9_needRange_5 rfl (lv_at hl 0 rfl) ?_
    refine lv_iload_n B.1 B.2.1 dX9_needRange_6 rfl (lv_at hl 2 rfl) ?_
    refine lv_icmp_le (tgt := 21) B.1 B.2.1 dX9_needRange_7 (by decide) (fun c2 => ?_) (fun c2 => ?_)
    · exact vx_ret (endV B hr hlk Y () ⟨c1, fa_le_nlt c2⟩ [] (by decide) rfl (Nat.le_of_ble_eq_true rfl) (Nat.le_of_ble_eq_true rfl) dX9_needRange_21)
    · exact t_throwW (names := ["java/lang/RuntimeException", "java/lang/Exception"]) (text := "a number is out of its range") B hl0 Y hT (by decide) (by decide) q_931 q_17 (by decide +kernel) th1_X9_87 th2_X9_87 th3_X9_87 hl.1 dX9_needRange_10 dX9_needRange_13 dX9_needRange_14 dX9_needRange_17 dX9_needRange_20 ht hlk (Nat.le_of_ble_eq_true rfl) (Nat.le_of_ble_eq_true rfl) (Nat.le_of_ble_eq_true rfl) (Nat.le_of_ble_eq_true rfl) ⟨rfl, Or.inr (fa_nle c2)⟩ (Nat.le_of_ble_eq_true rfl) (Nat.le_of_ble_eq_true rfl)

set_option maxHeartbeats 4000000 in
set_option maxRecDepth 100000 in
theorem k_datagramAt (l : Launch) (D : va_G) (τ : Nat → ClassId) (sz : Nat) (st : Nat) (x0 x1 x2 x3 x4 x5 x6 : Int32) (r8 r9 r10 r11 r12 r13 : Nat) (k : Int32) : Met l yX7_datagramAt (Cond.code yX7_datagramAt cX7_datagramAt 2 (some (.object "FragmentPath$Datagram")) :: wALL) { frames := 0, cells := 0, slots := 0, locals := 0 } (Pw D τ [(st, .inr (7, [.int x0, .int x1, .int x2, .int x3, .int x4, .int x5, .int x6, .int 0, .ref r8, .ref r9, .ref r10, .ref r11, .ref r12, .ref r13]))] sz [.ref st, .int k]) (va_Qq (fun (r : Option Nat) (_ : Unit) => r = none) (Bw D (va_A [(st, .inr (7, [.int x0, .int x1, .int x2, .int x3, .int x4, .int x5, .int x6, .int 0, .ref r8, .ref r9, .ref r10, .ref r11, .ref r12, .ref r13]))] sz) (fun (_ : Unit) => [(st, .inr (7, [.int x0, .int x1, .int x2, .int x3, .int x4, .int x5, .int x6, .int 0, .ref r8, .ref r9, .ref r10, .ref r11, .ref r12, .ref r13]))])) (va_A [(st, .inr (7, [.int x0, .int x1, .int x2, .int x3, .int x4, .int x5, .int x6, .int 0, .ref r8, .ref r9, .ref r10, .ref r11, .ref r12, .ref r13]))] sz)) 0 0 (va_A [(st, .inr (7, [.int x0, .int x1, .int x2, .int x3, .int x4, .int x5, .int x6, .int 0, .ref r8, .ref r9, .ref r10, .ref r11, .ref r12, .ref r13]))] sz) := by
  refine bodyW (by decide) (Nat.le_of_ble_eq_true rfl) (fun p e s m below meth c ls B hr hlk hin hsz Y hl => ?_)
  have hl : lv_has ls 2 [(0, .ref st), (1, .int k)] := hl
  have B : CallFix p m c cX7_datagramAt 2 s _ wALL RX7 := B
  generalize va_A [(st, .inr (7, [.int x0, .int x1, .int x2, .int x3, .int x4, .int x5, .int x6, .int 0, .ref r8, .ref r9, .ref r10, .ref r11, .ref r12, .ref r13]))] sz = A at Y ⊢
  refine lv_iload_n B.1 B.2.1 dX7_datagramAt_0 rfl (lv_at hl 1 rfl) ?_
  refine lv_if_lt (tgt := 27) B.1 B.2.1 dX7_datagramAt_1 (by decide) (fun c1 => ?_) (fun c1 => ?_)
  · refine lv_null B.1 B.2.1 dX7_datagramAt_27 ?_
    exact endQ (r := none) B hr hlk Y () rfl [0] (by decide) rfl (Nat.le_of_ble_eq_true rfl) (Nat.le_of_ble_eq_true rfl) dX7_datagramAt_28
  · refine lv_iload_n B.1 B.2.1 dX7_datagramAt_4 rfl (lv_at hl 1 rfl) ?_
    refine lv_aload_n B.1 B.2.1 dX7_datagramAt_5 rfl (lv_at hl 0 rfl) ?_
    refine gf_X7_33 B Y 0 rfl rfl dX7_datagramAt_6 ?_
    refine lv_icmp_ge (tgt := 27) B.1 B.2.1 dX7_datagramAt_9 (by decide) (fun _ => ?_) (fun h => absurd (i_nlt c1) h)
    refine lv_null B.1 B.2.1 dX7_datagramAt_27 ?_
    exact endQ (r := none) B hr hlk Y () rfl [0] (by decide) rfl (Nat.le_of_ble_eq_true rfl) (Nat.le_of_ble_eq_true rfl) dX7_datagramAt_28

set_option maxHeartbeats 4000000 in
set_option maxRecDepth 100000 in
theorem k_heapCount (l : Launch) (D : va_G) (τ : Nat → ClassId) (sz : Nat) (st : Nat) (x0 x1 x2 x3 x4 x5 x6 x7 : Int32) (r8 r9 r10 r11 r12 r13 : Nat) (fH : Nat → Option Nat) (p0 v0 p1 v1 p2 v2 p3 v3 : Nat) (hf : fH 0 = some p0 ∧ fH 1 = some p1 ∧ fH 2 = some p2 ∧ fH 3 = some p3) : Met l yX7_heapCount (Cond.code yX7_heapCount cX7_heapCount 3 (some .int) :: wALL) { frames := 0, cells := 0, slots := 0, locals := 0 } (Pw D τ [(st, .inr (7, [.int x0, .int x1, .int x2, .int x3, .int x4, .int x5, .int x6, .int x7, .ref r8, .ref r9, .ref r10, .ref r11, .ref r12, .ref r13])), (r10, .inl (τ 5, 4, .inr (.inr (.inr (.inr (fH)))))), (p0, .inr (2, [.int (-1), .int 0, .int (-1), .int 0, .int 0, .int 0, .int 0, .ref v0])), (p1, .inr (2, [.int (-1), .int 0, .int (-1), .int 0, .int 0, .int 0, .int 0, .ref v1])), (p2, .inr (2, [.int (-1), .int 0, .int (-1), .int 0, .int 0, .int 0, .int 0, .ref v2])), (p3, .inr (2, [.int (-1), .int 0, .int (-1), .int 0, .int 0, .int 0, .int 0, .ref v3]))] sz [.ref st]) (va_Qi (fun (r : Int32) (_ : Unit) => r = 0) (Bw D (va_A [(st, .inr (7, [.int x0, .int x1, .int x2, .int x3, .int x4, .int x5, .int x6, .int x7, .ref r8, .ref r9, .ref r10, .ref r11, .ref r12, .ref r13])), (r10, .inl (τ 5, 4, .inr (.inr (.inr (.inr (fH)))))), (p0, .inr (2, [.int (-1), .int 0, .int (-1), .int 0, .int 0, .int 0, .int 0, .ref v0])), (p1, .inr (2, [.int (-1), .int 0, .int (-1), .int 0, .int 0, .int 0, .int 0, .ref v1])), (p2, .inr (2, [.int (-1), .int 0, .int (-1), .int 0, .int 0, .int 0, .int 0, .ref v2])), (p3, .inr (2, [.int (-1), .int 0, .int (-1), .int 0, .int 0, .int 0, .int 0, .ref v3]))] sz) (fun (_ : Unit) => [(st, .inr (7, [.int x0, .int x1, .int x2, .int x3, .int x4, .int x5, .int x6, .int x7, .ref r8, .ref r9, .ref r10, .ref r11, .ref r12, .ref r13])), (r10, .inl (τ 5, 4, .inr (.inr (.inr (.inr (fH)))))), (p0, .inr (2, [.int (-1), .int 0, .int (-1), .int 0, .int 0, .int 0, .int 0, .ref v0])), (p1, .inr (2, [.int (-1), .int 0, .int (-1), .int 0, .int 0, .int 0, .int 0, .ref v1])), (p2, .inr (2, [.int (-1), .int 0, .int (-1), .int 0, .int 0, .int 0, .int 0, .ref v2])), (p3, .inr (2, [.int (-1), .int 0, .int (-1), .int 0, .int 0, .int 0, .int 0, .ref v3]))])) (va_A [(st, .inr (7, [.int x0, .int x1, .int x2, .int x3, .int x4, .int x5, .int x6, .int x7, .ref r8, .ref r9, .ref r10, .ref r11, .ref r12, .ref r13])), (r10, .inl (τ 5, 4, .inr (.inr (.inr (.inr (fH)))))), (p0, .inr (2, [.int (-1), .int 0, .int (-1), .int 0, .int 0, .int 0, .int 0, .ref v0])), (p1, .inr (2, [.int (-1), .int 0, .int (-1), .int 0, .int 0, .int 0, .int 0, .ref v1])), (p2, .inr (2, [.int (-1), .int 0, .int (-1), .int 0, .int 0, .int 0, .int 0, .ref v2])), (p3, .inr (2, [.int (-1), .int 0, .int (-1), .int 0, .int 0, .int 0, .int 0, .ref v3]))] sz)) 0 0 (va_A [(st, .inr (7, [.int x0, .int x1, .int x2, .int x3, .int x4, .int x5, .int x6, .int x7, .ref r8, .ref r9, .ref r10, .ref r11, .ref r12, .ref r13])), (r10, .inl (τ 5, 4, .inr (.inr (.inr (.inr (fH)))))), (p0, .inr (2, [.int (-1), .int 0, .int (-1), .int 0, .int 0, .int 0, .int 0, .ref v0])), (p1, .inr (2, [.int (-1), .int 0, .int (-1), .int 0, .int 0, .int 0, .int 0, .ref v1])), (p2, .inr (2, [.int (-1), .int 0, .int (-1), .int 0, .int 0, .int 0, .int 0, .ref v2])), (p3, .inr (2, [.int (-1), .int 0, .int (-1), .int 0, .int 0, .int 0, .int 0, .ref v3]))] sz) := by
  refine bodyW (by decide) (Nat.le_of_ble_eq_true rfl) (fun p e s m below meth c ls B hr hlk hin hsz Y hl => ?_)
  have hl : lv_has ls 3 [(0, .ref st)] := hl
  have B : CallFix p m c cX7_heapCount 3 s _ wALL RX7 := B
  generalize va_A [(st, .inr (7, [.int x0, .int x1, .int x2, .int x3, .int x4, .int x5, .int x6, .int x7, .ref r8, .ref r9, .ref r10, .ref r11, .ref r12, .ref r13])), (r10, .inl (τ 5, 4, .inr (.inr (.inr (.inr (fH)))))), (p0, .inr (2, [.int (-1), .int 0, .int (-1), .int 0, .int 0, .int 0, .int 0, .ref v0])), (p1, .inr (2, [.int (-1), .int 0, .int (-1), .int 0, .int 0, .int 0, .int 0, .ref v1])), (p2, .inr (2, [.int (-1), .int 0, .int (-1), .int 0, .int 0, .int 0, .int 0, .ref v2])), (p3, .inr (2, [.int (-1), .int 0, .int (-1), .int 0, .int 0, .int 0, .int 0, .ref v3]))] sz = A at Y ⊢
  refine lv_iconst (v := 0) B.1 B.2.1 dX7_heapCount_0 (by decide) ?_
  refine lv_istore_n (lv' := [(1, .int 0), (0, .ref st)]) B.1 B.2.1 dX7_heapCount_1 rfl hl (by decide) rfl (fun ls hl => ?_)
  refine lv_iconst (v := 0) B.1 B.2.1 dX7_heapCount_2 (by decide) ?_
  refine lv_istore_n (lv' := [(2, .int 0), (1, .int 0), (0, .ref st)]) B.1 B.2.1 dX7_heapCount_3 rfl hl (by decide) rfl (fun ls hl => ?_)
  refine lv_iload_n B.1 B.2.1 dX7_heapCount_4 rfl (lv_at hl 0 rfl) ?_
  refine lv_iconst (v := 4) B.1 B.2.1 dX7_heapCount_5 (by decide) ?_
  refine lv_icmp_ge (tgt := 31) B.1 B.2.1 dX7_heapCount_6 (by decide) (fun h => absurd h (by decide)) (fun _ => ?_)
  refine lv_aload_n B.1 B.2.1 dX7_heapCount_9 rfl (lv_at hl 2 rfl) ?_
  refine gf_X7_50 B Y 0 rfl rfl dX7_heapCount_10 ?_
  refine lv_iload_n B.1 B.2.1 dX7_heapCount_13 rfl (lv_at hl 0 rfl) ?_
  refine t_aald (j := 0) (r := some p0) B Y 1 rfl 5 rfl (by decide) (by decide) (Nat.le_of_ble_eq_true rfl) hf.1 dX7_heapCount_14 ?_
  show W _ _ _ _ _ _ _ _ _ _ _ _ _ _ _ (F0 m _ ls (.ref p0 :: []))
  refine gf_X7_78 B Y 2 rfl rfl dX7_heapCount_15 ?_
  refine lv_iconst (v := (-1)) B.1 B.2.1 dX7_heapCount_18 (by decide) ?_
  refine lv_icmp_eq (tgt := 25) B.1 B.2.1 dX7_heapCount_19 (by decide) (fun _ => ?_) (fun h => absurd (by decide) h)
  refine lv_iinc (v := 1) (lv' := [(2, .int 1), (1, .int 0), (0, .ref st)]) B.1 B.2.1 dX7_heapCount_25 hl (k := 0) rfl (by decide) (by decide) rfl (fun ls hl => ?_)
  refine lv_goto (tgt := 4) B.1 B.2.1 dX7_heapCount_28 (by decide) ?_
  refine lv_iload_n B.1 B.2.1 dX7_heapCount_4 rfl (lv_at hl 0 rfl) ?_
  refine lv_iconst (v := 4) B.1 B.2.1 dX7_heapCount_5 (by decide) ?_
  refine lv_icmp_ge (tgt := 31) B.1 B.2.1 dX7_heapCount_6 (by decide) (fun h => absurd h (by decide)) (fun _ => ?_)
  refine lv_aload_n B.1 B.2.1 dX7_heapCount_9 rfl (lv_at hl 2 rfl) ?_
  refine gf_X7_50 B Y 0 rfl rfl dX7_heapCount_10 ?_
  refine lv_iload_n B.1 B.2.1 dX7_heapCount_13 rfl (lv_at hl 0 rfl) ?_
  refine t_aald (j := 1) (r := some p1) B Y 1 rfl 5 rfl (by decide) (by decide) (Nat.le_of_ble_eq_true rfl) hf.2.1 dX7_heapCount_14 ?_
  show W _ _ _ _ _ _ _ _ _ _ _ _ _ _ _ (F0 m _ ls (.ref p1 :: []))
  refine gf_X7_78 B Y 3 rfl rfl dX7_heapCount_15 ?_
  refine lv_iconst (v := (-1)) B.1 B.2.1 dX7_heapCount_18 (by decide) ?_
  refine lv_icmp_eq (tgt := 25) B.1 B.2.1 dX7_heapCount_19 (by decide) (fun _ => ?_) (fun h => absurd (by decide) h)
  refine lv_iinc (v := 2) (lv' := [(2, .int 2), (1, .int 0), (0, .ref st)]) B.1 B.2.1 dX7_heapCount_25 hl (k := 0) rfl (by decide) (by decide) rfl (fun ls hl => ?_)
  refine lv_goto (tgt := 4) B.1 B.2.1 dX7_heapCount_28 (by decide) ?_
  refine lv_iload_n B.1 B.2.1 dX7_heapCount_4 rfl (lv_at hl 0 rfl) ?_
  refine lv_iconst (v := 4) B.1 B.2.1 dX7_heapCount_5 (by decide) ?_
  refine lv_icmp_ge (tgt := 31) B.1 B.2.1 dX7_heapCount_6 (by decide) (fun h => absurd h (by decide)) (fun _ => ?_)
  refine lv_aload_n B.1 B.2.1 dX7_heapCount_9 rfl (lv_at hl 2 rfl) ?_
  refine gf_X7_50 B Y 0 rfl rfl dX7_heapCount_10 ?_
  refine lv_iload_n B.1 B.2.1 dX7_heapCount_13 rfl (lv_at hl 0 rfl) ?_
  refine t_aald (j := 2) (r := some p2) B Y 1 rfl 5 rfl (by decide) (by decide) (Nat.le_of_ble_eq_true rfl) hf.2.2.1 dX7_heapCount_14 ?_
  show W _ _ _ _ _ _ _ _ _ _ _ _ _ _ _ (F0 m _ ls (.ref p2 :: []))
  refine gf_X7_78 B Y 4 rfl rfl dX7_heapCount_15 ?_
  refine lv_iconst (v := (-1)) B.1 B.2.1 dX7_heapCount_18 (by decide) ?_
  refine lv_icmp_eq (tgt := 25) B.1 B.2.1 dX7_heapCount_19 (by decide) (fun _ => ?_) (fun h => absurd (by decide) h)
  refine lv_iinc (v := 3) (lv' := [(2, .int 3), (1, .int 0), (0, .ref st)]) B.1 B.2.1 dX7_heapCount_25 hl (k := 0) rfl (by decide) (by decide) rfl (fun ls hl => ?_)
  refine lv_goto (tgt := 4) B.1 B.2.1 dX7_heapCount_28 (by decide) ?_
  refine lv_iload_n B.1 B.2.1 dX7_heapCount_4 rfl (lv_at hl 0 rfl) ?_
  refine lv_iconst (v := 4) B.1 B.2.1 dX7_heapCount_5 (by decide) ?_
  refine lv_icmp_ge (tgt := 31) B.1 B.2.1 dX7_heapCount_6 (by decide) (fun h => absurd h (by decide)) (fun _ => ?_)
  refine lv_aload_n B.1 B.2.1 dX7_heapCount_9 rfl (lv_at hl 2 rfl) ?_
  refine gf_X7_50 B Y 0 rfl rfl dX7_heapCount_10 ?_
  refine lv_iload_n B.1 B.2.1 dX7_heapCount_13 rfl (lv_at hl 0 rfl) ?_
  refine t_aald (j := 3) (r := some p3) B Y 1 rfl 5 rfl (by decide) (by decide) (Nat.le_of_ble_eq_true rfl) hf.2.2.2 dX7_heapCount_14 ?_
  show W _ _ _ _ _ _ _ _ _ _ _ _ _ _ _ (F0 m _ ls (.ref p3 :: []))
  refine gf_X7_78 B Y 5 rfl rfl dX7_heapCount_15 ?_
  refine lv_iconst (v := (-1)) B.1 B.2.1 dX7_heapCount_18 (by decide) ?_
  refine lv_icmp_eq (tgt := 25) B.1 B.2.1 dX7_heapCount_19 (by decide) (fun _ => ?_) (fun h => absurd (by decide) h)
  refine lv_iinc (v := 4) (lv' := [(2, .int 4), (1, .int 0), (0, .ref st)]) B.1 B.2.1 dX7_heapCount_25 hl (k := 0) rfl (by decide) (by decide) rfl (fun ls hl => ?_)
  refine lv_goto (tgt := 4) B.1 B.2.1 dX7_heapCount_28 (by decide) ?_
  refine lv_iload_n B.1 B.2.1 dX7_heapCount_4 rfl (lv_at hl 0 rfl) ?_
  refine lv_iconst (v := 4) B.1 B.2.1 dX7_heapCount_5 (by decide) ?_
  refine lv_icmp_ge (tgt := 31) B.1 B.2.1 dX7_heapCount_6 (by decide) (fun _ => ?_) (fun h => absurd (by decide) h)
  refine lv_iload_n B.1 B.2.1 dX7_heapCount_31 rfl (lv_at hl 1 rfl) ?_
  exact endI B hr hlk Y () rfl [0, 1, 2, 3, 4, 5] (by decide) rfl (Nat.le_of_ble_eq_true rfl) (Nat.le_of_ble_eq_true rfl) dX7_heapCount_32

set_option maxHeartbeats 4000000 in
set_option maxRecDepth 100000 in
theorem k_fateCount (l : Launch) (D : va_G) (τ : Nat → ClassId) (sz : Nat) (st : Nat) (x0 x1 x2 x3 x4 x5 x6 : Int32) (r8 r9 r10 r11 r12 r13 : Nat) (k : Int32) : Met l yX7_fateCount (Cond.code yX7_fateCount cX7_fateCount 4 (some .int) :: wALL) { frames := 0, cells := 0, slots := 0, locals := 0 } (Pw D τ [(st, .inr (7, [.int x0, .int x1, .int x2, .int x3, .int x4, .int x5, .int x6, .int 0, .ref r8, .ref r9, .ref r10, .ref r11, .ref r12, .ref r13]))] sz [.ref st, .int k]) (va_Qi (fun (r : Int32) (_ : Unit) => r = 0) (Bw D (va_A [(st, .inr (7, [.int x0, .int x1, .int x2, .int x3, .int x4, .int x5, .int x6, .int 0, .ref r8, .ref r9, .ref r10, .ref r11, .ref r12, .ref r13]))] sz) (fun (_ : Unit) => [(st, .inr (7, [.int x0, .int x1, .int x2, .int x3, .int x4, .int x5, .int x6, .int 0, .ref r8, .ref r9, .ref r10, .ref r11, .ref r12, .ref r13]))])) (va_A [(st, .inr (7, [.int x0, .int x1, .int x2, .int x3, .int x4, .int x5, .int x6, .int 0, .ref r8, .ref r9, .ref r10, .ref r11, .ref r12, .ref r13]))] sz)) 0 0 (va_A [(st, .inr (7, [.int x0, .int x1, .int x2, .int x3, .int x4, .int x5, .int x6, .int 0, .ref r8, .ref r9, .ref r10, .ref r11, .ref r12, .ref r13]))] sz) := by
  refine bodyW (by decide) (Nat.le_of_ble_eq_true rfl) (fun p e s m below meth c ls B hr hlk hin hsz Y hl => ?_)
  have hl : lv_has ls 4 [(0, .ref st), (1, .int k)] := hl
  have B : CallFix p m c cX7_fateCount 4 s _ wALL RX7 := B
  generalize va_A [(st, .inr (7, [.int x0, .int x1, .int x2, .int x3, .int x4, .int x5, .int x6, .int 0, .ref r8, .ref r9, .ref r10, .ref r11, .ref r12, .ref r13]))] sz = A at Y ⊢
  refine lv_iconst (v := 0) B.1 B.2.1 dX7_fateCount_0 (by decide) ?_
  refine lv_istore_n (lv' := [(2, .int 0), (0, .ref st), (1, .int k)]) B.1 B.2.1 dX7_fateCount_1 rfl hl (by decide) rfl (fun ls hl => ?_)
  refine lv_iconst (v := 0) B.1 B.2.1 dX7_fateCount_2 (by decide) ?_
  refine lv_istore_n (lv' := [(3, .int 0), (2, .int 0), (0, .ref st), (1, .int k)]) B.1 B.2.1 dX7_fateCount_3 rfl hl (by decide) rfl (fun ls hl => ?_)
  refine lv_iload_n B.1 B.2.1 dX7_fateCount_4 rfl (lv_at hl 0 rfl) ?_
  refine lv_aload_n B.1 B.2.1 dX7_fateCount_5 rfl (lv_at hl 2 rfl) ?_
  refine gf_X7_33 B Y 0 rfl rfl dX7_fateCount_6 ?_
  refine lv_icmp_ge (tgt := 40) B.1 B.2.1 dX7_fateCount_9 (by decide) (fun _ => ?_) (fun h => absurd (by decide) h)
  refine lv_iload_n B.1 B.2.1 dX7_fateCount_40 rfl (lv_at hl 1 rfl) ?_
  exact endI B hr hlk Y () rfl [0] (by decide) rfl (Nat.le_of_ble_eq_true rfl) (Nat.le_of_ble_eq_true rfl) dX7_fateCount_41

set_option maxHeartbeats 4000000 in
set_option maxRecDepth 100000 in
theorem k_handedCount (l : Launch) (D : va_G) (τ : Nat → ClassId) (sz : Nat) (st : Nat) (x0 x1 x2 x3 x4 x5 x6 : Int32) (r8 r9 r10 r11 r12 r13 : Nat) : Met l yX7_handedCount (Cond.code yX7_handedCount cX7_handedCount 1 (some .int) :: wALL) { frames := 1, cells := 0, slots := 0, locals := 23 } (Pw D τ [(st, .inr (7, [.int x0, .int x1, .int x2, .int x3, .int x4, .int x5, .int x6, .int 0, .ref r8, .ref r9, .ref r10, .ref r11, .ref r12, .ref r13]))] sz [.ref st]) (va_Qi (fun (r : Int32) (_ : Unit) => r = 0) (Bw D (va_A [(st, .inr (7, [.int x0, .int x1, .int x2, .int x3, .int x4, .int x5, .int x6, .int 0, .ref r8, .ref r9, .ref r10, .ref r11, .ref r12, .ref r13]))] sz) (fun (_ : Unit) => [(st, .inr (7, [.int x0, .int x1, .int x2, .int x3, .int x4, .int x5, .int x6, .int 0, .ref r8, .ref r9, .ref r10, .ref r11, .ref r12, .ref r13]))])) (va_A [(st, .inr (7, [.int x0, .int x1, .int x2, .int x3, .int x4, .int x5, .int x6, .int 0, .ref r8, .ref r9, .ref r10, .ref r11, .ref r12, .ref r13]))] sz)) 0 0 (va_A [(st, .inr (7, [.int x0, .int x1, .int x2, .int x3, .int x4, .int x5, .int x6, .int 0, .ref r8, .ref r9, .ref r10, .ref r11, .ref r12, .ref r13]))] sz) := by
  refine bodyW (by decide) (Nat.le_of_ble_eq_true rfl) (fun p e s m below meth c ls B hr hlk hin hsz Y hl => ?_)
  have hl : lv_has ls 1 [(0, .ref st)] := hl
  have B : CallFix p m c cX7_handedCount 1 s _ wALL RX7 := B
  generalize va_A [(st, .inr (7, [.int x0, .int x1, .int x2, .int x3, .int x4, .int x5, .int x6, .int 0, .ref r8, .ref r9, .ref r10, .ref r11, .ref r12, .ref r13]))] sz = A at Y ⊢
  refine lv_aload_n B.1 B.2.1 dX7_handedCount_0 rfl (lv_at hl 0 rfl) ?_
  refine lv_iconst (v := 1) B.1 B.2.1 dX7_handedCount_1 (by decide) ?_
  refine retI (wc := [(st, .inr (7, [.int x0, .int x1, .int x2, .int x3, .int x4, .int x5, .int x6, .int 0, .ref r8, .ref r9, .ref r10, .ref r11, .ref r12, .ref r13]))]) (wr := []) Y [0] [] rfl rfl (by decide) (by decide) (rV (As := [.int 1]) (rest := []) (q0 := 0) B Y [0] (by decide) rfl (k_fateCount l D τ _ st x0 x1 x2 x3 x4 x5 x6 r8 r9 r10 r11 r12 r13 1) rfl rfl q_775 q_776 q_777 q_4 q_778 rfl rfl hd_X7_fateCount ⟨(Nat.le_of_ble_eq_true rfl), (Nat.le_of_ble_eq_true rfl)⟩ rfl hl.1 rfl (Nat.le_of_ble_eq_true rfl) dX7_handedCount_2 ⟨(Nat.le_of_ble_eq_true rfl), (Nat.le_of_ble_eq_true rfl)⟩) (fun r u H locs hw Y => ?_)
  have hw : r = 0 := hw
  subst hw
  have Y : Wd D τ s A s.heap [(st, .inr (7, [.int x0, .int x1, .int x2, .int x3, .int x4, .int x5, .int x6, .int 0, .ref r8, .ref r9, .ref r10, .ref r11, .ref r12, .ref r13]))] H _ := Y
  refine lv_aload_n B.1 B.2.1 dX7_handedCount_5 rfl (lv_at hl 0 rfl) ?_
  refine lv_iconst (v := 2) B.1 B.2.1 dX7_handedCount_6 (by decide) ?_
  refine retI (wc := [(st, .inr (7, [.int x0, .int x1, .int x2, .int x3, .int x4, .int x5, .int x6, .int 0, .ref r8, .ref r9, .ref r10, .ref r11, .ref r12, .ref r13]))]) (wr := []) Y [0] [] rfl rfl (by decide) (by decide) (rV (As := [.int 2]) (rest := [.int 0]) (q0 := 0) B Y [0] (by decide) rfl (k_fateCount l D τ _ st x0 x1 x2 x3 x4 x5 x6 r8 r9 r10 r11 r12 r13 2) rfl rfl q_775 q_776 q_777 q_4 q_778 rfl rfl hd_X7_fateCount ⟨(Nat.le_of_ble_eq_true rfl), (Nat.le_of_ble_eq_true rfl)⟩ rfl hl.1 rfl (Nat.le_of_ble_eq_true rfl) dX7_handedCount_7 ⟨(Nat.le_of_ble_eq_true rfl), (Nat.le_of_ble_eq_true rfl)⟩) (fun r u H locs hw Y => ?_)
  have hw : r = 0 := hw
  subst hw
  have Y : Wd D τ s A s.heap [(st, .inr (7, [.int x0, .int x1, .int x2, .int x3, .int x4, .int x5, .int x6, .int 0, .ref r8, .ref r9, .ref r10, .ref r11, .ref r12, .ref r13]))] H _ := Y
  refine lv_iadd B.1 B.2.1 dX7_handedCount_10 ?_
  refine lv_cv (v := 0) (by decide) ?_
  exact endI B hr hlk Y () rfl [0] (by decide) rfl (Nat.le_of_ble_eq_true rfl) (Nat.le_of_ble_eq_true rfl) dX7_handedCount_11

set_option maxHeartbeats 4000000 in
set_option maxRecDepth 100000 in
theorem k_answers (l : Launch) (D : va_G) (τ : Nat → ClassId) (sz : Nat) (h0 n0 n1 n2 : Nat) : Met l yX4_answers (Cond.code yX4_answers cX4_answers 3 (some .int) :: wALL) { frames := 0, cells := 0, slots := 0, locals := 0 } (Pw D τ [(h0, .inr (4, [.ref n0, .ref n1, .ref n2, .int 0, .int 1000000]))] sz [.ref h0]) (va_Qi (fun (r : Int32) (_ : Unit) => r = 0) (Bw D (va_A [(h0, .inr (4, [.ref n0, .ref n1, .ref n2, .int 0, .int 1000000]))] sz) (fun (_ : Unit) => [(h0, .inr (4, [.ref n0, .ref n1, .ref n2, .int 0, .int 1000000]))])) (va_A [(h0, .inr (4, [.ref n0, .ref n1, .ref n2, .int 0, .int 1000000]))] sz)) 0 0 (va_A [(h0, .inr (4, [.ref n0, .ref n1, .ref n2, .int 0, .int 1000000]))] sz) := by
  refine bodyW (by decide) (Nat.le_of_ble_eq_true rfl) (fun p e s m below meth c ls B hr hlk hin hsz Y hl => ?_)
  have hl : lv_has ls 3 [(0, .ref h0)] := hl
  have B : CallFix p m c cX4_answers 3 s _ wALL RX4 := B
  generalize va_A [(h0, .inr (4, [.ref n0, .ref n1, .ref n2, .int 0, .int 1000000]))] sz = A at Y ⊢
  refine lv_iconst (v := 0) B.1 B.2.1 dX4_answers_0 (by decide) ?_
  refine lv_istore_n (lv' := [(1, .int 0), (0, .ref h0)]) B.1 B.2.1 dX4_answers_1 rfl hl (by decide) rfl (fun ls hl => ?_)
  refine lv_iconst (v := 0) B.1 B.2.1 dX4_answers_2 (by decide) ?_
  refine lv_istore_n (lv' := [(2, .int 0), (1, .int 0), (0, .ref h0)]) B.1 B.2.1 dX4_answers_3 rfl hl (by decide) rfl (fun ls hl => ?_)
  refine lv_iload_n B.1 B.2.1 dX4_answers_4 rfl (lv_at hl 0 rfl) ?_
  refine lv_aload_n B.1 B.2.1 dX4_answers_5 rfl (lv_at hl 2 rfl) ?_
  refine gf_X4_21 B Y 0 rfl rfl dX4_answers_6 ?_
  refine lv_icmp_ge (tgt := 30) B.1 B.2.1 dX4_answers_9 (by decide) (fun _ => ?_) (fun h => absurd (by decide) h)
  refine lv_iload_n B.1 B.2.1 dX4_answers_30 rfl (lv_at hl 1 rfl) ?_
  exact endI B hr hlk Y () rfl [0] (by decide) rfl (Nat.le_of_ble_eq_true rfl) (Nat.le_of_ble_eq_true rfl) dX4_answers_31

set_option maxHeartbeats 4000000 in
set_option maxRecDepth 100000 in
theorem m_errorCode (l : Launch) (D : va_G) (τ : Nat → ClassId) (sz : Nat) (x rd q0 q1 q2 q3 q4 tx to bu st pa aL aD aH l0 d0 p0 v0 p1 v1 p2 v2 p3 v3 pk k0 k1 k2 k3 k4 k5 k6 k7 k8 k9 nt n0 n1 n2 ac : Nat) (fL fD fH : Nat → Option Nat) (hS : fL 0 = some l0 ∧ fD 0 = some d0 ∧ fH 0 = some p0 ∧ fH 1 = some p1 ∧ fH 2 = some p2 ∧ fH 3 = some p3) : Met l yX9_errorCode (Cond.code yX9_errorCode cX9_errorCode 1 (some .int) :: wALL) { frames := 0, cells := 0, slots := 0, locals := 0 } (Pw D τ [(x, .inr (9, [.ref rd, .ref tx, .ref bu, .ref st, .ref pa, .int 0, .int 0, .null, .null])), (rd, .inr (6, [.ref q0, .int 0, .int 0, .int 0, .int 0, .int (-1), .int 0, .ref q1, .ref q2, .ref q3, .ref q4]))] sz [.ref x]) (va_Qi (fun (r : Int32) (_ : Unit) => r = 0) (Bw D (va_A [(x, .inr (9, [.ref rd, .ref tx, .ref bu, .ref st, .ref pa, .int 0, .int 0, .null, .null])), (rd, .inr (6, [.ref q0, .int 0, .int 0, .int 0, .int 0, .int (-1), .int 0, .ref q1, .ref q2, .ref q3, .ref q4]))] sz) (fun (_ : Unit) => [])) (va_A [(x, .inr (9, [.ref rd, .ref tx, .ref bu, .ref st, .ref pa, .int 0, .int 0, .null, .null])), (rd, .inr (6, [.ref q0, .int 0, .int 0, .int 0, .int 0, .int (-1), .int 0, .ref q1, .ref q2, .ref q3, .ref q4]))] sz)) 0 0 (va_A [(x, .inr (9, [.ref rd, .ref tx, .ref bu, .ref st, .ref pa, .int 0, .int 0, .null, .null])), (rd, .inr (6, [.ref q0, .int 0, .int 0, .int 0, .int 0, .int (-1), .int 0, .ref q1, .ref q2, .ref q3, .ref q4]))] sz) := by
  refine bodyW (by decide) (Nat.le_of_ble_eq_true rfl) (fun p e s m below meth c ls B hr hlk hin hsz Y hl => ?_)
  have hl : lv_has ls 1 [(0, .ref x)] := hl
  have B : CallFix p m c cX9_errorCode 1 s _ wALL RX9 := B
  generalize va_A [(x, .inr (9, [.ref rd, .ref tx, .ref bu, .ref st, .ref pa, .int 0, .int 0, .null, .null])), (rd, .inr (6, [.ref q0, .int 0, .int 0, .int 0, .int 0, .int (-1), .int 0, .ref q1, .ref q2, .ref q3, .ref q4]))] sz = A at Y ⊢
  refine lv_aload_n B.1 B.2.1 dX9_errorCode_0 rfl (lv_at hl 0 rfl) ?_
  refine gf_X9_10 B Y 0 rfl rfl dX9_errorCode_1 ?_
  refine gf_X9_176 B Y 1 rfl rfl dX9_errorCode_4 ?_
  exact endI B hr hlk Y () rfl [] (by decide) rfl (Nat.le_of_ble_eq_true rfl) (Nat.le_of_ble_eq_true rfl) dX9_errorCode_7

set_option maxHeartbeats 4000000 in
set_option maxRecDepth 100000 in
theorem m_errorPosition (l : Launch) (D : va_G) (τ : Nat → ClassId) (sz : Nat) (x rd q0 q1 q2 q3 q4 tx to bu st pa aL aD aH l0 d0 p0 v0 p1 v1 p2 v2 p3 v3 pk k0 k1 k2 k3 k4 k5 k6 k7 k8 k9 nt n0 n1 n2 ac : Nat) (fL fD fH : Nat → Option Nat) (hS : fL 0 = some l0 ∧ fD 0 = some d0 ∧ fH 0 = some p0 ∧ fH 1 = some p1 ∧ fH 2 = some p2 ∧ fH 3 = some p3) : Met l yX9_errorPosition (Cond.code yX9_errorPosition cX9_errorPosition 1 (some .int) :: wALL) { frames := 0, cells := 0, slots := 0, locals := 0 } (Pw D τ [(x, .inr (9, [.ref rd, .ref tx, .ref bu, .ref st, .ref pa, .int 0, .int 0, .null, .null])), (rd, .inr (6, [.ref q0, .int 0, .int 0, .int 0, .int 0, .int (-1), .int 0, .ref q1, .ref q2, .ref q3, .ref q4]))] sz [.ref x]) (va_Qi (fun (r : Int32) (_ : Unit) => r = (-1)) (Bw D (va_A [(x, .inr (9, [.ref rd, .ref tx, .ref bu, .ref st, .ref pa, .int 0, .int 0, .null, .null])), (rd, .inr (6, [.ref q0, .int 0, .int 0, .int 0, .int 0, .int (-1), .int 0, .ref q1, .ref q2, .ref q3, .ref q4]))] sz) (fun (_ : Unit) => [])) (va_A [(x, .inr (9, [.ref rd, .ref tx, .ref bu, .ref st, .ref pa, .int 0, .int 0, .null, .null])), (rd, .inr (6, [.ref q0, .int 0, .int 0, .int 0, .int 0, .int (-1), .int 0, .ref q1, .ref q2, .ref q3, .ref q4]))] sz)) 0 0 (va_A [(x, .inr (9, [.ref rd, .ref tx, .ref bu, .ref st, .ref pa, .int 0, .int 0, .null, .null])), (rd, .inr (6, [.ref q0, .int 0, .int 0, .int 0, .int 0, .int (-1), .int 0, .ref q1, .ref q2, .ref q3, .ref q4]))] sz) := by
  refine bodyW (by decide) (Nat.le_of_ble_eq_true rfl) (fun p e s m below meth c ls B hr hlk hin hsz Y hl => ?_)
  have hl : lv_has ls 1 [(0, .ref x)] := hl
  have B : CallFix p m c cX9_errorPosition 1 s _ wALL RX9 := B
  generalize va_A [(x, .inr (9, [.ref rd, .ref tx, .ref bu, .ref st, .ref pa, .int 0, .int 0, .null, .null])), (rd, .inr (6, [.ref q0, .int 0, .int 0, .int 0, .int 0, .int (-1), .int 0, .ref q1, .ref q2, .ref q3, .ref q4]))] sz = A at Y ⊢
  refine lv_aload_n B.1 B.2.1 dX9_errorPosition_0 rfl (lv_at hl 0 rfl) ?_
  refine gf_X9_10 B Y 0 rfl rfl dX9_errorPosition_1 ?_
  refine gf_X9_179 B Y 1 rfl rfl dX9_errorPosition_4 ?_
  exact endI B hr hlk Y () rfl [] (by decide) rfl (Nat.le_of_ble_eq_true rfl) (Nat.le_of_ble_eq_true rfl) dX9_errorPosition_7
