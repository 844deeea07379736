/-! how many bytes each piece but the last has, how many are cut off -/
def fullI (z : Int) : Int := (z - 20) / 8 * 8
def cutsI (b z : Int) : Int := if b - (z - 20) ≤ 0 then 0 else (b - (z - 20) + (z - 20) / 8 * 8 - 1) / ((z - 20) / 8 * 8)
theorem iI_z {z : Int} (h : z = 0 ∨ z = 1) : narrow .boolean (.int (iI z)) = .int (iI z) ∧ fits .boolean (.int (iI z)) = true := by rcases h with rfl | rfl <;> exact ⟨by decide, by decide⟩
set_option maxHeartbeats 4000000 in
set_option maxRecDepth 100000 in
theorem k_valueIn (l : Launch) (D : va_G) (τ : Nat → ClassId) (sz : Nat) (a n j : Nat) (f : Nat → Int32) (hj : j < n) (hn : n < 2147483648) : Met l yX9_valueIn (Cond.code yX9_valueIn cX9_valueIn 2 (some .int) :: wALL) { frames := 0, cells := 0, slots := 0, locals := 0 } (Pw D τ (bl [[(a, .inl (τ 0, n, .inl (f)))]]) sz [.ref a, .int (iI ((j : Nat) : Int))]) (va_Qi (fun (r : Int32) (_ : Unit) => r = f j) (Bb D (va_A (bl [[(a, .inl (τ 0, n, .inl (f)))]]) sz) (fun (_ : Unit) => [[(a, .inl (τ 0, n, .inl (f)))]])) (va_A (bl [[(a, .inl (τ 0, n, .inl (f)))]]) sz)) 0 0 (va_A (bl [[(a, .inl (τ 0, n, .inl (f)))]]) sz) := by
  refine bodyW (by decide) (Nat.le_of_ble_eq_true rfl) (fun p e s m below meth c ls B hr hlk hin hsz Y hl => ?_)
  have hl : lv_has ls 2 [(0, .ref a), (1, .int (iI ((j : Nat) : Int)))] := hl
  have B : CallFix p m c cX9_valueIn 2 s _ wALL RX9 := B
  generalize va_A (bl [[(a, .inl (τ 0, n, .inl (f)))]]) sz = A at Y ⊢
  refine lv_iload_n B.1 B.2.1 dX9_valueIn_0 rfl (lv_at hl 1 rfl) ?_
  refine lv_if_lt (tgt := 16) B.1 B.2.1 dX9_valueIn_1 (by decide) (fun h => absurd h (mt (iI_lt0 (a := ((j : Nat) : Int)) (by omega) (by omega)).mp (by omega))) (fun _ => ?_)
  refine lv_iload_n B.1 B.2.1 dX9_valueIn_4 rfl (lv_at hl 1 rfl) ?_
  refine lv_aload_n B.1 B.2.1 dX9_valueIn_5 rfl (lv_at hl 0 rfl) ?_
  refine b_alen (v := (iI ((n : Nat) : Int))) B Y 0 rfl 0 rfl (iI_nat _) dX9_valueIn_6 ?_
  refine lv_icmp_ge (tgt := 16) B.1 B.2.1 dX9_valueIn_7 (by decide) (fun h => absurd h (mt (iI_le (a := ((n : Nat) : Int)) (b := ((j : Nat) : Int)) (by omega) (by omega) (by omega) (by omega)).mp (by omega))) (fun _ => ?_)
  refine lv_aload_n B.1 B.2.1 dX9_valueIn_10 rfl (lv_at hl 0 rfl) ?_
  refine lv_iload_n B.1 B.2.1 dX9_valueIn_11 rfl (lv_at hl 1 rfl) ?_
  refine b_iald (j := j) (v := ((f) j)) B Y 0 rfl (iI_pos (by omega)) (iI_clamp (by omega)) (by omega) rfl dX9_valueIn_12 ?_
  refine lv_goto (tgt := 17) B.1 B.2.1 dX9_valueIn_13 (by decide) ?_
  exact eI B hr hlk Y () rfl [0] (by decide) rfl (Nat.le_of_ble_eq_true rfl) (Nat.le_of_ble_eq_true rfl) dX9_valueIn_17

set_option maxHeartbeats 4000000 in
set_option maxRecDepth 100000 in
theorem k_setIn (l : Launch) (D : va_G) (τ : Nat → ClassId) (sz : Nat) (a n j : Nat) (f : Nat → Int32) (x : Int32) (hj : j < n) (hn : n < 2147483648) : Met l yX9_setIn (Cond.code yX9_setIn cX9_setIn 3 none :: wALL) { frames := 0, cells := 0, slots := 0, locals := 0 } (Pw D τ (bl [[(a, .inl (τ 0, n, .inl (f)))]]) sz [.ref a, .int (iI ((j : Nat) : Int)), .int x]) (va_Qv (fun (_ : Unit) => True) (Bb D (va_A (bl [[(a, .inl (τ 0, n, .inl (f)))]]) sz) (fun (_ : Unit) => [[(a, .inl (τ 0, n, .inl (upd (f) j x)))]])) (va_A (bl [[(a, .inl (τ 0, n, .inl (f)))]]) sz)) 0 0 (va_A (bl [[(a, .inl (τ 0, n, .inl (f)))]]) sz) := by
  refine bodyW (by decide) (Nat.le_of_ble_eq_true rfl) (fun p e s m below meth c ls B hr hlk hin hsz Y hl => ?_)
  have hl : lv_has ls 3 [(0, .ref a), (1, .int (iI ((j : Nat) : Int))), (2, .int x)] := hl
  have B : CallFix p m c cX9_setIn 3 s _ wALL RX9 := B
  generalize va_A (bl [[(a, .inl (τ 0, n, .inl (f)))]]) sz = A at Y ⊢
  refine lv_iload_n B.1 B.2.1 dX9_setIn_0 rfl (lv_at hl 1 rfl) ?_
  refine lv_if_lt (tgt := 14) B.1 B.2.1 dX9_setIn_1 (by decide) (fun h => absurd h (mt (iI_lt0 (a := ((j : Nat) : Int)) (by omega) (by omega)).mp (by omega))) (fun _ => ?_)
  refine lv_iload_n B.1 B.2.1 dX9_setIn_4 rfl (lv_at hl 1 rfl) ?_
  refine lv_aload_n B.1 B.2.1 dX9_setIn_5 rfl (lv_at hl 0 rfl) ?_
  refine b_alen (v := (iI ((n : Nat) : Int))) B Y 0 rfl 0 rfl (iI_nat _) dX9_setIn_6 ?_
  refine lv_icmp_ge (tgt := 14) B.1 B.2.1 dX9_setIn_7 (by decide) (fun h => absurd h (mt (iI_le (a := ((n : Nat) : Int)) (b := ((j : Nat) : Int)) (by omega) (by omega) (by omega) (by omega)).mp (by omega))) (fun _ => ?_)
  refine lv_aload_n B.1 B.2.1 dX9_setIn_10 rfl (lv_at hl 0 rfl) ?_
  refine lv_iload_n B.1 B.2.1 dX9_setIn_11 rfl (lv_at hl 1 rfl) ?_
  refine lv_iload_n B.1 B.2.1 dX9_setIn_12 rfl (lv_at hl 2 rfl) ?_
  refine b_iast (j := j) (g := upd (f) j x) (B' := [[(a, .inl (τ 0, n, .inl (upd (f) j x)))]]) B Y 0 rfl (iI_pos (by omega)) (iI_clamp (by omega)) (by omega) rfl rfl dX9_setIn_13 (fun H locs Y => ?_)
  exact eV B hr hlk Y () trivial [0] (by decide) rfl (Nat.le_of_ble_eq_true rfl) (Nat.le_of_ble_eq_true rfl) dX9_setIn_14

set_option maxHeartbeats 4000000 in
set_option maxRecDepth 100000 in
theorem k_needRange (l : Launch) (D : va_G) (τ : Nat → ClassId) (sz : Nat) (v lo hi : Int) (h1 : lo ≤ v) (h2 : v ≤ hi) (h3 : -2147483648 ≤ lo) (h4 : hi < 2147483648) : Met l yX9_needRange (Cond.code yX9_needRange cX9_needRange 3 none :: wALL) { frames := 0, cells := 0, slots := 0, locals := 0 } (Pw D τ (bl []) sz [.int (iI (v)), .int (iI (lo)), .int (iI (hi))]) (va_Qv (fun (_ : Unit) => True) (Bb D (va_A (bl []) sz) (fun (_ : Unit) => [])) (va_A (bl []) sz)) 0 0 (va_A (bl []) sz) := by
  refine bodyW (by decide) (Nat.le_of_ble_eq_true rfl) (fun p e s m below meth c ls B hr hlk hin hsz Y hl => ?_)
  have hl : lv_has ls 3 [(0, .int (iI (v))), (1, .int (iI (lo))), (2, .int (iI (hi)))] := hl
  have B : CallFix p m c cX9_needRange 3 s _ wALL RX9 := B
  generalize va_A (bl []) sz = A at Y ⊢
  refine lv_iload_n B.1 B.2.1 dX9_needRange_0 rfl (lv_at hl 0 rfl) ?_
  refine lv_iload_n B.1 B.2.1 dX9_needRange_1 rfl (lv_at hl 1 rfl) ?_
  refine lv_icmp_lt (tgt := 10) B.1 B.2.1 dX9_needRange_2 (by decide) (fun h => absurd h (mt (iI_lt (a := v) (b := lo) (by omega) (by omega) (by omega) (by omega)).mp (by omega))) (fun _ => ?_)
  refine lv_iload_n B.1 B.2.1 dX9_needRange_5 rfl (lv_at hl 0 rfl) ?_
  refine lv_iload_n B.1 B.2.1 dX9_needRange_6 rfl (lv_at hl 2 rfl) ?_
  refine lv_icmp_le (tgt := 21) B.1 B.2.1 dX9_needRange_7 (by decide) (fun _ => ?_) (fun h => absurd ((iI_le (a := v) (b := hi) (by omega) (by omega) (by omega) (by omega)).mpr (by omega)) h) 
  exact eV B hr hlk Y () trivial [] (by decide) rfl (Nat.le_of_ble_eq_true rfl) (Nat.le_of_ble_eq_true rfl) dX9_needRange_21

set_option maxHeartbeats 4000000 in
set_option maxRecDepth 100000 in
theorem k_fullOf (l : Launch) (D : va_G) (τ : Nat → ClassId) (sz : Nat) (z : Int) (h1 : 28 ≤ z) (h2 : z ≤ 1500) : Met l yX9_fullOf (Cond.code yX9_fullOf cX9_fullOf 1 (some .int) :: wALL) { frames := 1, cells := 0, slots := 0, locals := 60 } (Pw D τ (bl []) sz [.int (iI (z))]) (va_Qi (fun (r : Int32) (_ : Unit) => r = iI (fullI z)) (Bb D (va_A (bl []) sz) (fun (_ : Unit) => [])) (va_A (bl []) sz)) 0 0 (va_A (bl []) sz) := by
  refine bodyW (by decide) (Nat.le_of_ble_eq_true rfl) (fun p e s m below meth c ls B hr hlk hin hsz Y hl => ?_)
  have hl : lv_has ls 1 [(0, .int (iI (z)))] := hl
  have B : CallFix p m c cX9_fullOf 1 s _ wALL RX9 := B
  generalize va_A (bl []) sz = A at Y ⊢
  refine lv_iload_n B.1 B.2.1 dX9_fullOf_0 rfl (lv_at hl 0 rfl) ?_
  refine lv_bipush (v := (iI (20))) B.1 B.2.1 dX9_fullOf_1 (by decide) ?_
  refine lv_isub B.1 B.2.1 dX9_fullOf_3 ?_
  refine lv_cv (v := (iI (z - 20))) (iI_sub _ _) ?_
  refine lv_bipush (v := (iI (8))) B.1 B.2.1 dX9_fullOf_4 (by decide) ?_
  refine lv_idiv B.1 B.2.1 dX9_fullOf_6 (by decide) ?_
  refine lv_cv (v := (iI ((z - 20) / 8))) (iI_div (by omega) (by omega) (by omega) (by omega)) ?_
  refine lv_bipush (v := (iI (8))) B.1 B.2.1 dX9_fullOf_7 (by decide) ?_
  refine lv_imul B.1 B.2.1 dX9_fullOf_9 ?_
  refine lv_cv (v := (iI (((z - 20) / 8) * 8))) (iI_mul _ _) ?_
  refine lv_bipush (v := (iI (8))) B.1 B.2.1 dX9_fullOf_10 (by decide) ?_
  refine t_mmax (v := (iI ((z - 20) / 8 * 8))) B q_909 q_629 q_1 q_630 hl.1 (Nat.le_of_ble_eq_true rfl) (Nat.le_of_ble_eq_true rfl) (Nat.le_of_ble_eq_true rfl) (Nat.le_of_ble_eq_true rfl) (if_neg (mt (iI_lt (a := (z - 20) / 8 * 8) (b := 8) (by omega) (by omega) (by omega) (by omega)).mp (by omega))) dX9_fullOf_12 ?_
  exact eI B hr hlk Y () rfl [] (by decide) rfl (Nat.le_of_ble_eq_true rfl) (Nat.le_of_ble_eq_true rfl) dX9_fullOf_15

set_option maxHeartbeats 4000000 in
set_option maxRecDepth 100000 in
theorem k_cutsOf (l : Launch) (D : va_G) (τ : Nat → ClassId) (sz : Nat) (b z : Int) (h0 : -20 ≤ b) (h3 : b ≤ 100000) (h1 : 28 ≤ z) (h2 : z ≤ 1500) : Met l yX9_cutsOf (Cond.code yX9_cutsOf cX9_cutsOf 4 (some .int) :: wALL) { frames := 2, cells := 0, slots := 0, locals := 80 } (Pw D τ (bl []) sz [.int (iI (b)), .int (iI (z))]) (va_Qi (fun (r : Int32) (_ : Unit) => r = iI (cutsI b z)) (Bb D (va_A (bl []) sz) (fun (_ : Unit) => [])) (va_A (bl []) sz)) 0 0 (va_A (bl []) sz) := by
  refine bodyW (by decide) (Nat.le_of_ble_eq_true rfl) (fun p e s m below meth c ls B hr hlk hin hsz Y hl => ?_)
  have hl : lv_has ls 4 [(0, .int (iI (b))), (1, .int (iI (z)))] := hl
  have B : CallFix p m c cX9_cutsOf 4 s _ wALL RX9 := B
  generalize va_A (bl []) sz = A at Y ⊢
  refine lv_iload_n B.1 B.2.1 dX9_cutsOf_0 rfl (lv_at hl 0 rfl) ?_
  refine lv_iload_n B.1 B.2.1 dX9_cutsOf_1 rfl (lv_at hl 1 rfl) ?_
  refine lv_bipush (v := (iI (20))) B.1 B.2.1 dX9_cutsOf_2 (by decide) ?_
  refine lv_isub B.1 B.2.1 dX9_cutsOf_4 ?_
  refine lv_cv (v := (iI (z - 20))) (iI_sub _ _) ?_
  refine lv_isub B.1 B.2.1 dX9_cutsOf_5 ?_
  refine lv_cv (v := (iI (b - (z - 20)))) (iI_sub _ _) ?_
  refine lv_istore_n (lv' := [(2, .int (iI (b - (z - 20)))), (0, .int (iI (b))), (1, .int (iI (z)))]) B.1 B.2.1 dX9_cutsOf_6 rfl hl (by decide) rfl (fun ls hl => ?_)
  refine lv_iload_n B.1 B.2.1 dX9_cutsOf_7 rfl (lv_at hl 0 rfl) ?_
  refine lv_if_gt (tgt := 13) B.1 B.2.1 dX9_cutsOf_8 (by decide) (fun c1 => ?_) (fun c1 => ?_)
  · have c1 := (iI_gt0 (a := b - (z - 20)) (by omega) (by omega)).mp c1
    refine lv_iload_n B.1 B.2.1 dX9_cutsOf_13 rfl (lv_at hl 2 rfl) ?_
    refine qI (Cs := []) (Rs := []) Y [] [] (by decide) rfl (cS (As := [.int (iI (z))]) (rest := []) B Y [] (by decide) rfl (k_fullOf l D τ _ (z) (by omega) (by omega)) q_913 q_907 q_2 q_908 rfl rfl hd_X9_fullOf ⟨(Nat.le_of_ble_eq_true rfl), (Nat.le_of_ble_eq_true rfl)⟩ rfl hl.1 rfl (Nat.le_of_ble_eq_true rfl) dX9_cutsOf_14 ⟨(Nat.le_of_ble_eq_true rfl), (Nat.le_of_ble_eq_true rfl)⟩) (fun r u H locs hw Y => ?_)
    obtain rfl := hw
    have Y : Wd D τ s A s.heap (bl []) _ _ := Y
    refine lv_iconst (v := (iI (1))) B.1 B.2.1 dX9_cutsOf_17 (by decide) ?_
    refine t_mmax (v := (iI ((z - 20) / 8 * 8))) B q_909 q_629 q_1 q_630 hl.1 (Nat.le_of_ble_eq_true rfl) (Nat.le_of_ble_eq_true rfl) (Nat.le_of_ble_eq_true rfl) (Nat.le_of_ble_eq_true rfl) (if_neg (mt (iI_lt (a := (z - 20) / 8 * 8) (b := 1) (by omega) (by omega) (by omega) (by omega)).mp (by omega))) dX9_cutsOf_18 ?_
    refine lv_istore_n (lv' := [(3, .int (iI ((z - 20) / 8 * 8))), (2, .int (iI (b - (z - 20)))), (0, .int (iI (b))), (1, .int (iI (z)))]) B.1 B.2.1 dX9_cutsOf_21 rfl hl (by decide) rfl (fun ls hl => ?_)
    refine lv_iload_n B.1 B.2.1 dX9_cutsOf_22 rfl (lv_at hl 1 rfl) ?_
    refine lv_iload_n B.1 B.2.1 dX9_cutsOf_23 rfl (lv_at hl 0 rfl) ?_
    refine lv_iadd B.1 B.2.1 dX9_cutsOf_24 ?_
    refine lv_cv (v := (iI ((b - (z - 20)) + ((z - 20) / 8 * 8)))) (iI_add _ _) ?_
    refine lv_iconst (v := (iI (1))) B.1 B.2.1 dX9_cutsOf_25 (by decide) ?_
    refine lv_isub B.1 B.2.1 dX9_cutsOf_26 ?_
    refine lv_cv (v := (iI (((b - (z - 20)) + ((z - 20) / 8 * 8)) - 1))) (iI_sub _ _) ?_
    refine lv_iload_n B.1 B.2.1 dX9_cutsOf_27 rfl (lv_at hl 0 rfl) ?_
    refine lv_idiv B.1 B.2.1 dX9_cutsOf_28 (iI_ne0 (by omega) (by omega) (by omega)) ?_
    refine lv_cv (v := (iI ((b - (z - 20) + (z - 20) / 8 * 8 - 1) / ((z - 20) / 8 * 8)))) (iI_div (by omega) (by omega) (by omega) (by omega)) ?_
    exact eI B hr hlk Y () (by unfold cutsI; rw [if_neg (by omega)]) [] (by decide) rfl (Nat.le_of_ble_eq_true rfl) (Nat.le_of_ble_eq_true rfl) dX9_cutsOf_29
  · have c1 := mt (iI_gt0 (a := b - (z - 20)) (by omega) (by omega)).mpr c1
    refine lv_iconst (v := (iI (0))) B.1 B.2.1 dX9_cutsOf_11 (by decide) ?_
    exact eI B hr hlk Y () (by unfold cutsI; rw [if_pos (by omega)]) [] (by decide) rfl (Nat.le_of_ble_eq_true rfl) (Nat.le_of_ble_eq_true rfl) dX9_cutsOf_12

set_option maxHeartbeats 4000000 in
set_option maxRecDepth 100000 in
theorem k_X0_copyFrom (l : Launch) (D : va_G) (τ : Nat → ClassId) (sz : Nat) (a b : Nat) (k h : Nat → Int) : Met l yX0_copyFrom (Cond.code yX0_copyFrom cX0_copyFrom 2 none :: wALL) { frames := 0, cells := 0, slots := 0, locals := 0 } (Pw D τ (bl [[(a, .inr (2, [.int (iI (k 0)), .int (iI (k 1)), .int (iI (k 2)), .int (iI (k 3)), .int (iI (k 4)), .int (iI (k 5)), .int (iI (k 6)), .int (iI (k 7)), .int (iI (k 8)), .int (iI (k 9)), .int (iI (k 10)), .int (iI (k 11)), .int (iI (k 12))]))], [(b, .inr (2, [.int (iI (h 0)), .int (iI (h 1)), .int (iI (h 2)), .int (iI (h 3)), .int (iI (h 4)), .int (iI (h 5)), .int (iI (h 6)), .int (iI (h 7)), .int (iI (h 8)), .int (iI (h 9)), .int (iI (h 10)), .int (iI (h 11)), .int (iI (h 12))]))]]) sz [.ref a, .ref b]) (va_Qv (fun (_ : Unit) => True) (Bb D (va_A (bl [[(a, .inr (2, [.int (iI (k 0)), .int (iI (k 1)), .int (iI (k 2)), .int (iI (k 3)), .int (iI (k 4)), .int (iI (k 5)), .int (iI (k 6)), .int (iI (k 7)), .int (iI (k 8)), .int (iI (k 9)), .int (iI (k 10)), .int (iI (k 11)), .int (iI (k 12))]))], [(b, .inr (2, [.int (iI (h 0)), .int (iI (h 1)), .int (iI (h 2)), .int (iI (h 3)), .int (iI (h 4)), .int (iI (h 5)), .int (iI (h 6)), .int (iI (h 7)), .int (iI (h 8)), .int (iI (h 9)), .int (iI (h 10)), .int (iI (h 11)), .int (iI (h 12))]))]]) sz) (fun (_ : Unit) => [[(a, .inr (2, [.int (iI (h 0)), .int (iI (h 1)), .int (iI (h 2)), .int (iI (h 3)), .int (iI (h 4)), .int (iI (h 5)), .int (iI (h 6)), .int (iI (h 7)), .int (iI (h 8)), .int (iI (h 9)), .int (iI (h 10)), .int (iI (h 11)), .int (iI (h 12))]))], [(b, .inr (2, [.int (iI (h 0)), .int (iI (h 1)), .int (iI (h 2)), .int (iI (h 3)), .int (iI (h 4)), .int (iI (h 5)), .int (iI (h 6)), .int (iI (h 7)), .int (iI (h 8)), .int (iI (h 9)), .int (iI (h 10)), .int (iI (h 11)), .int (iI (h 12))]))]])) (va_A (bl [[(a, .inr (2, [.int (iI (k 0)), .int (iI (k 1)), .int (iI (k 2)), .int (iI (k 3)), .int (iI (k 4)), .int (iI (k 5)), .int (iI (k 6)), .int (iI (k 7)), .int (iI (k 8)), .int (iI (k 9)), .int (iI (k 10)), .int (iI (k 11)), .int (iI (k 12))]))], [(b, .inr (2, [.int (iI (h 0)), .int (iI (h 1)), .int (iI (h 2)), .int (iI (h 3)), .int (iI (h 4)), .int (iI (h 5)), .int (iI (h 6)), .int (iI (h 7)), .int (iI (h 8)), .int (iI (h 9)), .int (iI (h 10)), .int (iI (h 11)), .int (iI (h 12))]))]]) sz)) 0 0 (va_A (bl [[(a, .inr (2, [.int (iI (k 0)), .int (iI (k 1)), .int (iI (k 2)), .int (iI (k 3)), .int (iI (k 4)), .int (iI (k 5)), .int (iI (k 6)), .int (iI (k 7)), .int (iI (k 8)), .int (iI (k 9)), .int (iI (k 10)), .int (iI (k 11)), .int (iI (k 12))]))], [(b, .inr (2, [.int (iI (h 0)), .int (iI (h 1)), .int (iI (h 2)), .int (iI (h 3)), .int (iI (h 4)), .int (iI (h 5)), .int (iI (h 6)), .int (iI (h 7)), .int (iI (h 8)), .int (iI (h 9)), .int (iI (h 10)), .int (iI (h 11)), .int (iI (h 12))]))]]) sz) := by
  refine bodyW (by decide) (Nat.le_of_ble_eq_true rfl) (fun p e s m below meth c ls B hr hlk hin hsz Y hl => ?_)
  have hl : lv_has ls 2 [(0, .ref a), (1, .ref b)] := hl
  have B : CallFix p m c cX0_copyFrom 2 s _ wALL RX0 := B
  generalize va_A (bl [[(a, .inr (2, [.int (iI (k 0)), .int (iI (k 1)), .int (iI (k 2)), .int (iI (k 3)), .int (iI (k 4)), .int (iI (k 5)), .int (iI (k 6)), .int (iI (k 7)), .int (iI (k 8)), .int (iI (k 9)), .int (iI (k 10)), .int (iI (k 11)), .int (iI (k 12))]))], [(b, .inr (2, [.int (iI (h 0)), .int (iI (h 1)), .int (iI (h 2)), .int (iI (h 3)), .int (iI (h 4)), .int (iI (h 5)), .int (iI (h 6)), .int (iI (h 7)), .int (iI (h 8)), .int (iI (h 9)), .int (iI (h 10)), .int (iI (h 11)), .int (iI (h 12))]))]]) sz = A at Y ⊢
  refine lv_aload_n B.1 B.2.1 dX0_copyFrom_0 rfl (lv_at hl 0 rfl) ?_
  refine lv_aload_n B.1 B.2.1 dX0_copyFrom_1 rfl (lv_at hl 1 rfl) ?_
  refine gf_X0_7 B Y 1 rfl rfl dX0_copyFrom_2 ?_
  refine pf_X0_7 (B' := [[(a, .inr (2, [.int (iI (h 0)), .int (iI (k 1)), .int (iI (k 2)), .int (iI (k 3)), .int (iI (k 4)), .int (iI (k 5)), .int (iI (k 6)), .int (iI (k 7)), .int (iI (k 8)), .int (iI (k 9)), .int (iI (k 10)), .int (iI (k 11)), .int (iI (k 12))]))], [(b, .inr (2, [.int (iI (h 0)), .int (iI (h 1)), .int (iI (h 2)), .int (iI (h 3)), .int (iI (h 4)), .int (iI (h 5)), .int (iI (h 6)), .int (iI (h 7)), .int (iI (h 8)), .int (iI (h 9)), .int (iI (h 10)), .int (iI (h 11)), .int (iI (h 12))]))]]) B Y 0 rfl (Nat.le_of_ble_eq_true rfl) rfl dX0_copyFrom_5 (fun H locs Y => ?_)
  refine lv_aload_n B.1 B.2.1 dX0_copyFrom_8 rfl (lv_at hl 0 rfl) ?_
  refine lv_aload_n B.1 B.2.1 dX0_copyFrom_9 rfl (lv_at hl 1 rfl) ?_
  refine gf_X0_13 B Y 1 rfl rfl dX0_copyFrom_10 ?_
  refine pf_X0_13 (B' := [[(a, .inr (2, [.int (iI (h 0)), .int (iI (h 1)), .int (iI (k 2)), .int (iI (k 3)), .int (iI (k 4)), .int (iI (k 5)), .int (iI (k 6)), .int (iI (k 7)), .int (iI (k 8)), .int (iI (k 9)), .int (iI (k 10)), .int (iI (k 11)), .int (iI (k 12))]))], [(b, .inr (2, [.int (iI (h 0)), .int (iI (h 1)), .int (iI (h 2)), .int (iI (h 3)), .int (iI (h 4)), .int (iI (h 5)), .int (iI (h 6)), .int (iI (h 7)), .int (iI (h 8)), .int (iI (h 9)), .int (iI (h 10)), .int (iI (h 11)), .int (iI (h 12))]))]]) B Y 0 rfl (Nat.le_of_ble_eq_true rfl) rfl dX0_copyFrom_13 (fun H locs Y => ?_)
  refine lv_aload_n B.1 B.2.1 dX0_copyFrom_16 rfl (lv_at hl 0 rfl) ?_
  refine lv_aload_n B.1 B.2.1 dX0_copyFrom_17 rfl (lv_at hl 1 rfl) ?_
  refine gf_X0_16 B Y 1 rfl rfl dX0_copyFrom_18 ?_
  refine pf_X0_16 (B' := [[(a, .inr (2, [.int (iI (h 0)), .int (iI (h 1)), .int (iI (h 2)), .int (iI (k 3)), .int (iI (k 4)), .int (iI (k 5)), .int (iI (k 6)), .int (iI (k 7)), .int (iI (k 8)), .int (iI (k 9)), .int (iI (k 10)), .int (iI (k 11)), .int (iI (k 12))]))], [(b, .inr (2, [.int (iI (h 0)), .int (iI (h 1)), .int (iI (h 2)), .int (iI (h 3)), .int (iI (h 4)), .int (iI (h 5)), .int (iI (h 6)), .int (iI (h 7)), .int (iI (h 8)), .int (iI (h 9)), .int (iI (h 10)), .int (iI (h 11)), .int (iI (h 12))]))]]) B Y 0 rfl (Nat.le_of_ble_eq_true rfl) rfl dX0_copyFrom_21 (fun H locs Y => ?_)
  refine lv_aload_n B.1 B.2.1 dX0_copyFrom_24 rfl (lv_at hl 0 rfl) ?_
  refine lv_aload_n B.1 B.2.1 dX0_copyFrom_25 rfl (lv_at hl 1 rfl) ?_
  refine gf_X0_19 B Y 1 rfl rfl dX0_copyFrom_26 ?_
  refine pf_X0_19 (B' := [[(a, .inr (2, [.int (iI (h 0)), .int (iI (h 1)), .int (iI (h 2)), .int (iI (h 3)), .int (iI (k 4)), .int (iI (k 5)), .int (iI (k 6)), .int (iI (k 7)), .int (iI (k 8)), .int (iI (k 9)), .int (iI (k 10)), .int (iI (k 11)), .int (iI (k 12))]))], [(b, .inr (2, [.int (iI (h 0)), .int (iI (h 1)), .int (iI (h 2)), .int (iI (h 3)), .int (iI (h 4)), .int (iI (h 5)), .int (iI (h 6)), .int (iI (h 7)), .int (iI (h 8)), .int (iI (h 9)), .int (iI (h 10)), .int (iI (h 11)), .int (iI (h 12))]))]]) B Y 0 rfl (Nat.le_of_ble_eq_true rfl) rfl dX0_copyFrom_29 (fun H locs Y => ?_)
  refine lv_aload_n B.1 B.2.1 dX0_copyFrom_32 rfl (lv_at hl 0 rfl) ?_
  refine lv_aload_n B.1 B.2.1 dX0_copyFrom_33 rfl (lv_at hl 1 rfl) ?_
  refine gf_X0_22 B Y 1 rfl rfl dX0_copyFrom_34 ?_
  refine pf_X0_22 (B' := [[(a, .inr (2, [.int (iI (h 0)), .int (iI (h 1)), .int (iI (h 2)), .int (iI (h 3)), .int (iI (h 4)), .int (iI (k 5)), .int (iI (k 6)), .int (iI (k 7)), .int (iI (k 8)), .int (iI (k 9)), .int (iI (k 10)), .int (iI (k 11)), .int (iI (k 12))]))], [(b, .inr (2, [.int (iI (h 0)), .int (iI (h 1)), .int (iI (h 2)), .int (iI (h 3)), .int (iI (h 4)), .int (iI (h 5)), .int (iI (h 6)), .int (iI (h 7)), .int (iI (h 8)), .int (iI (h 9)), .int (iI (h 10)), .int (iI (h 11)), .int (iI (h 12))]))]]) B Y 0 rfl (Nat.le_of_ble_eq_true rfl) rfl dX0_copyFrom_37 (fun H locs Y => ?_)
  refine lv_aload_n B.1 B.2.1 dX0_copyFrom_40 rfl (lv_at hl 0 rfl) ?_
  refine lv_aload_n B.1 B.2.1 dX0_copyFrom_41 rfl (lv_at hl 1 rfl) ?_
  refine gf_X0_25 B Y 1 rfl rfl dX0_copyFrom_42 ?_
  refine pf_X0_25 (B' := [[(a, .inr (2, [.int (iI (h 0)), .int (iI (h 1)), .int (iI (h 2)), .int (iI (h 3)), .int (iI (h 4)), .int (iI (h 5)), .int (iI (k 6)), .int (iI (k 7)), .int (iI (k 8)), .int (iI (k 9)), .int (iI (k 10)), .int (iI (k 11)), .int (iI (k 12))]))], [(b, .inr (2, [.int (iI (h 0)), .int (iI (h 1)), .int (iI (h 2)), .int (iI (h 3)), .int (iI (h 4)), .int (iI (h 5)), .int (iI (h 6)), .int (iI (h 7)), .int (iI (h 8)), .int (iI (h 9)), .int (iI (h 10)), .int (iI (h 11)), .int (iI (h 12))]))]]) B Y 0 rfl (Nat.le_of_ble_eq_true rfl) rfl dX0_copyFrom_45 (fun H locs Y => ?_)
  refine lv_aload_n B.1 B.2.1 dX0_copyFrom_48 rfl (lv_at hl 0 rfl) ?_
  refine lv_aload_n B.1 B.2.1 dX0_copyFrom_49 rfl (lv_at hl 1 rfl) ?_
  refine gf_X0_28 B Y 1 rfl rfl dX0_copyFrom_50 ?_
  refine pf_X0_28 (B' := [[(a, .inr (2, [.int (iI (h 0)), .int (iI (h 1)), .int (iI (h 2)), .int (iI (h 3)), .int (iI (h 4)), .int (iI (h 5)), .int (iI (h 6)), .int (iI (k 7)), .int (iI (k 8)), .int (iI (k 9)), .int (iI (k 10)), .int (iI (k 11)), .int (iI (k 12))]))], [(b, .inr (2, [.int (iI (h 0)), .int (iI (h 1)), .int (iI (h 2)), .int (iI (h 3)), .int (iI (h 4)), .int (iI (h 5)), .int (iI (h 6)), .int (iI (h 7)), .int (iI (h 8)), .int (iI (h 9)), .int (iI (h 10)), .int (iI (h 11)), .int (iI (h 12))]))]]) B Y 0 rfl (Nat.le_of_ble_eq_true rfl) rfl dX0_copyFrom_53 (fun H locs Y => ?_)
  refine lv_aload_n B.1 B.2.1 dX0_copyFrom_56 rfl (lv_at hl 0 rfl) ?_
  refine lv_aload_n B.1 B.2.1 dX0_copyFrom_57 rfl (lv_at hl 1 rfl) ?_
  refine gf_X0_31 B Y 1 rfl rfl dX0_copyFrom_58 ?_
  refine pf_X0_31 (B' := [[(a, .inr (2, [.int (iI (h 0)), .int (iI (h 1)), .int (iI (h 2)), .int (iI (h 3)), .int (iI (h 4)), .int (iI (h 5)), .int (iI (h 6)), .int (iI (h 7)), .int (iI (k 8)), .int (iI (k 9)), .int (iI (k 10)), .int (iI (k 11)), .int (iI (k 12))]))], [(b, .inr (2, [.int (iI (h 0)), .int (iI (h 1)), .int (iI (h 2)), .int (iI (h 3)), .int (iI (h 4)), .int (iI (h 5)), .int (iI (h 6)), .int (iI (h 7)), .int (iI (h 8)), .int (iI (h 9)), .int (iI (h 10)), .int (iI (h 11)), .int (iI (h 12))]))]]) B Y 0 rfl (Nat.le_of_ble_eq_true rfl) rfl dX0_copyFrom_61 (fun H locs Y => ?_)
  refine lv_aload_n B.1 B.2.1 dX0_copyFrom_64 rfl (lv_at hl 0 rfl) ?_
  refine lv_aload_n B.1 B.2.1 dX0_copyFrom_65 rfl (lv_at hl 1 rfl) ?_
  refine gf_X0_34 B Y 1 rfl rfl dX0_copyFrom_66 ?_
  refine pf_X0_34 (B' := [[(a, .inr (2, [.int (iI (h 0)), .int (iI (h 1)), .int (iI (h 2)), .int (iI (h 3)), .int (iI (h 4)), .int (iI (h 5)), .int (iI (h 6)), .int (iI (h 7)), .int (iI (h 8)), .int (iI (k 9)), .int (iI (k 10)), .int (iI (k 11)), .int (iI (k 12))]))], [(b, .inr (2, [.int (iI (h 0)), .int (iI (h 1)), .int (iI (h 2)), .int (iI (h 3)), .int (iI (h 4)), .int (iI (h 5)), .int (iI (h 6)), .int (iI (h 7)), .int (iI (h 8)), .int (iI (h 9)), .int (iI (h 10)), .int (iI (h 11)), .int (iI (h 12))]))]]) B Y 0 rfl (Nat.le_of_ble_eq_true rfl) rfl dX0_copyFrom_69 (fun H locs Y => ?_)
  refine lv_aload_n B.1 B.2.1 dX0_copyFrom_72 rfl (lv_at hl 0 rfl) ?_
  refine lv_aload_n B.1 B.2.1 dX0_copyFrom_73 rfl (lv_at hl 1 rfl) ?_
  refine gf_X0_37 B Y 1 rfl rfl dX0_copyFrom_74 ?_
  refine pf_X0_37 (B' := [[(a, .inr (2, [.int (iI (h 0)), .int (iI (h 1)), .int (iI (h 2)), .int (iI (h 3)), .int (iI (h 4)), .int (iI (h 5)), .int (iI (h 6)), .int (iI (h 7)), .int (iI (h 8)), .int (iI (h 9)), .int (iI (k 10)), .int (iI (k 11)), .int (iI (k 12))]))], [(b, .inr (2, [.int (iI (h 0)), .int (iI (h 1)), .int (iI (h 2)), .int (iI (h 3)), .int (iI (h 4)), .int (iI (h 5)), .int (iI (h 6)), .int (iI (h 7)), .int (iI (h 8)), .int (iI (h 9)), .int (iI (h 10)), .int (iI (h 11)), .int (iI (h 12))]))]]) B Y 0 rfl (Nat.le_of_ble_eq_true rfl) rfl dX0_copyFrom_77 (fun H locs Y => ?_)
  refine lv_aload_n B.1 B.2.1 dX0_copyFrom_80 rfl (lv_at hl 0 rfl) ?_
  refine lv_aload_n B.1 B.2.1 dX0_copyFrom_81 rfl (lv_at hl 1 rfl) ?_
  refine gf_X0_40 B Y 1 rfl rfl dX0_copyFrom_82 ?_
  refine pf_X0_40 (B' := [[(a, .inr (2, [.int (iI (h 0)), .int (iI (h 1)), .int (iI (h 2)), .int (iI (h 3)), .int (iI (h 4)), .int (iI (h 5)), .int (iI (h 6)), .int (iI (h 7)), .int (iI (h 8)), .int (iI (h 9)), .int (iI (h 10)), .int (iI (k 11)), .int (iI (k 12))]))], [(b, .inr (2, [.int (iI (h 0)), .int (iI (h 1)), .int (iI (h 2)), .int (iI (h 3)), .int (iI (h 4)), .int (iI (h 5)), .int (iI (h 6)), .int (iI (h 7)), .int (iI (h 8)), .int (iI (h 9)), .int (iI (h 10)), .int (iI (h 11)), .int (iI (h 12))]))]]) B Y 0 rfl (Nat.le_of_ble_eq_true rfl) rfl dX0_copyFrom_85 (fun H locs Y => ?_)
  refine lv_aload_n B.1 B.2.1 dX0_copyFrom_88 rfl (lv_at hl 0 rfl) ?_
  refine lv_aload_n B.1 B.2.1 dX0_copyFrom_89 rfl (lv_at hl 1 rfl) ?_
  refine gf_X0_43 B Y 1 rfl rfl dX0_copyFrom_90 ?_
  refine pf_X0_43 (B' := [[(a, .inr (2, [.int (iI (h 0)), .int (iI (h 1)), .int (iI (h 2)), .int (iI (h 3)), .int (iI (h 4)), .int (iI (h 5)), .int (iI (h 6)), .int (iI (h 7)), .int (iI (h 8)), .int (iI (h 9)), .int (iI (h 10)), .int (iI (h 11)), .int (iI (k 12))]))], [(b, .inr (2, [.int (iI (h 0)), .int (iI (h 1)), .int (iI (h 2)), .int (iI (h 3)), .int (iI (h 4)), .int (iI (h 5)), .int (iI (h 6)), .int (iI (h 7)), .int (iI (h 8)), .int (iI (h 9)), .int (iI (h 10)), .int (iI (h 11)), .int (iI (h 12))]))]]) B Y 0 rfl (Nat.le_of_ble_eq_true rfl) rfl dX0_copyFrom_93 (fun H locs Y => ?_)
  refine lv_aload_n B.1 B.2.1 dX0_copyFrom_96 rfl (lv_at hl 0 rfl) ?_
  refine lv_aload_n B.1 B.2.1 dX0_copyFrom_97 rfl (lv_at hl 1 rfl) ?_
  refine gf_X0_46 B Y 1 rfl rfl dX0_copyFrom_98 ?_
  refine pf_X0_46 (B' := [[(a, .inr (2, [.int (iI (h 0)), .int (iI (h 1)), .int (iI (h 2)), .int (iI (h 3)), .int (iI (h 4)), .int (iI (h 5)), .int (iI (h 6)), .int (iI (h 7)), .int (iI (h 8)), .int (iI (h 9)), .int (iI (h 10)), .int (iI (h 11)), .int (iI (h 12))]))], [(b, .inr (2, [.int (iI (h 0)), .int (iI (h 1)), .int (iI (h 2)), .int (iI (h 3)), .int (iI (h 4)), .int (iI (h 5)), .int (iI (h 6)), .int (iI (h 7)), .int (iI (h 8)), .int (iI (h 9)), .int (iI (h 10)), .int (iI (h 11)), .int (iI (h 12))]))]]) B Y 0 rfl (Nat.le_of_ble_eq_true rfl) rfl dX0_copyFrom_101 (fun H locs Y => ?_)
  exact eV B hr hlk Y () trivial [0, 1] (by decide) rfl (Nat.le_of_ble_eq_true rfl) (Nat.le_of_ble_eq_true rfl) dX0_copyFrom_104

set_option maxHeartbeats 4000000 in
set_option maxRecDepth 100000 in
theorem k_X3_copyFrom (l : Launch) (D : va_G) (τ : Nat → ClassId) (sz : Nat) (a b : Nat) (k h : Nat → Int) : Met l yX3_copyFrom (Cond.code yX3_copyFrom cX3_copyFrom 2 none :: wALL) { frames := 0, cells := 0, slots := 0, locals := 0 } (Pw D τ (bl [[(a, .inr (5, [.int (iI (k 0)), .int (iI (k 1)), .int (iI (k 2)), .int (iI (k 3)), .int (iI (k 4)), .int (iI (k 5)), .int (iI (k 6)), .int (iI (k 7))]))], [(b, .inr (5, [.int (iI (h 0)), .int (iI (h 1)), .int (iI (h 2)), .int (iI (h 3)), .int (iI (h 4)), .int (iI (h 5)), .int (iI (h 6)), .int (iI (h 7))]))]]) sz [.ref a, .ref b]) (va_Qv (fun (_ : Unit) => True) (Bb D (va_A (bl [[(a, .inr (5, [.int (iI (k 0)), .int (iI (k 1)), .int (iI (k 2)), .int (iI (k 3)), .int (iI (k 4)), .int (iI (k 5)), .int (iI (k 6)), .int (iI (k 7))]))], [(b, .inr (5, [.int (iI (h 0)), .int (iI (h 1)), .int (iI (h 2)), .int (iI (h 3)), .int (iI (h 4)), .int (iI (h 5)), .int (iI (h 6)), .int (iI (h 7))]))]]) sz) (fun (_ : Unit) => [[(a, .inr (5, [.int (iI (h 0)), .int (iI (h 1)), .int (iI (h 2)), .int (iI (h 3)), .int (iI (h 4)), .int (iI (h 5)), .int (iI (h 6)), .int (iI (h 7))]))], [(b, .inr (5, [.int (iI (h 0)), .int (iI (h 1)), .int (iI (h 2)), .int (iI (h 3)), .int (iI (h 4)), .int (iI (h 5)), .int (iI (h 6)), .int (iI (h 7))]))]])) (va_A (bl [[(a, .inr (5, [.int (iI (k 0)), .int (iI (k 1)), .int (iI (k 2)), .int (iI (k 3)), .int (iI (k 4)), .int (iI (k 5)), .int (iI (k 6)), .int (iI (k 7))]))], [(b, .inr (5, [.int (iI (h 0)), .int (iI (h 1)), .int (iI (h 2)), .int (iI (h 3)), .int (iI (h 4)), .int (iI (h 5)), .int (iI (h 6)), .int (iI (h 7))]))]]) sz)) 0 0 (va_A (bl [[(a, .inr (5, [.int (iI (k 0)), .int (iI (k 1)), .int (iI (k 2)), .int (iI (k 3)), .int (iI (k 4)), .int (iI (k 5)), .int (iI (k 6)), .int (iI (k 7))]))], [(b, .inr (5, [.int (iI (h 0)), .int (iI (h 1)), .int (iI (h 2)), .int (iI (h 3)), .int (iI (h 4)), .int (iI (h 5)), .int (iI (h 6)), .int (iI (h 7))]))]]) sz) := by
  refine bodyW (by decide) (Nat.le_of_ble_eq_true rfl) (fun p e s m below meth c ls B hr hlk hin hsz Y hl => ?_)
  have hl : lv_has ls 2 [(0, .ref a), (1, .ref b)] := hl
  have B : CallFix p m c cX3_copyFrom 2 s _ wALL RX3 := B
  generalize va_A (bl [[(a, .inr (5, [.int (iI (k 0)), .int (iI (k 1)), .int (iI (k 2)), .int (iI (k 3)), .int (iI (k 4)), .int (iI (k 5)), .int (iI (k 6)), .int (iI (k 7))]))], [(b, .inr (5, [.int (iI (h 0)), .int (iI (h 1)), .int (iI (h 2)), .int (iI (h 3)), .int (iI (h 4)), .int (iI (h 5)), .int (iI (h 6)), .int (iI (h 7))]))]]) sz = A at Y ⊢
  refine lv_aload_n B.1 B.2.1 dX3_copyFrom_0 rfl (lv_at hl 0 rfl) ?_
  refine lv_aload_n B.1 B.2.1 dX3_copyFrom_1 rfl (lv_at hl 1 rfl) ?_
  refine gf_X3_7 B Y 1 rfl rfl dX3_copyFrom_2 ?_
  refine pf_X3_7 (B' := [[(a, .inr (5, [.int (iI (h 0)), .int (iI (k 1)), .int (iI (k 2)), .int (iI (k 3)), .int (iI (k 4)), .int (iI (k 5)), .int (iI (k 6)), .int (iI (k 7))]))], [(b, .inr (5, [.int (iI (h 0)), .int (iI (h 1)), .int (iI (h 2)), .int (iI (h 3)), .int (iI (h 4)), .int (iI (h 5)), .int (iI (h 6)), .int (iI (h 7))]))]]) B Y 0 rfl (Nat.le_of_ble_eq_true rfl) rfl dX3_copyFrom_5 (fun H locs Y => ?_)
  refine lv_aload_n B.1 B.2.1 dX3_copyFrom_8 rfl (lv_at hl 0 rfl) ?_
  refine lv_aload_n B.1 B.2.1 dX3_copyFrom_9 rfl (lv_at hl 1 rfl) ?_
  refine gf_X3_13 B Y 1 rfl rfl dX3_copyFrom_10 ?_
  refine pf_X3_13 (B' := [[(a, .inr (5, [.int (iI (h 0)), .int (iI (h 1)), .int (iI (k 2)), .int (iI (k 3)), .int (iI (k 4)), .int (iI (k 5)), .int (iI (k 6)), .int (iI (k 7))]))], [(b, .inr (5, [.int (iI (h 0)), .int (iI (h 1)), .int (iI (h 2)), .int (iI (h 3)), .int (iI (h 4)), .int (iI (h 5)), .int (iI (h 6)), .int (iI (h 7))]))]]) B Y 0 rfl (Nat.le_of_ble_eq_true rfl) rfl dX3_copyFrom_13 (fun H locs Y => ?_)
  refine lv_aload_n B.1 B.2.1 dX3_copyFrom_16 rfl (lv_at hl 0 rfl) ?_
  refine lv_aload_n B.1 B.2.1 dX3_copyFrom_17 rfl (lv_at hl 1 rfl) ?_
  refine gf_X3_16 B Y 1 rfl rfl dX3_copyFrom_18 ?_
  refine pf_X3_16 (B' := [[(a, .inr (5, [.int (iI (h 0)), .int (iI (h 1)), .int (iI (h 2)), .int (iI (k 3)), .int (iI (k 4)), .int (iI (k 5)), .int (iI (k 6)), .int (iI (k 7))]))], [(b, .inr (5, [.int (iI (h 0)), .int (iI (h 1)), .int (iI (h 2)), .int (iI (h 3)), .int (iI (h 4)), .int (iI (h 5)), .int (iI (h 6)), .int (iI (h 7))]))]]) B Y 0 rfl (Nat.le_of_ble_eq_true rfl) rfl dX3_copyFrom_21 (fun H locs Y => ?_)
  refine lv_aload_n B.1 B.2.1 dX3_copyFrom_24 rfl (lv_at hl 0 rfl) ?_
  refine lv_aload_n B.1 B.2.1 dX3_copyFrom_25 rfl (lv_at hl 1 rfl) ?_
  refine gf_X3_19 B Y 1 rfl rfl dX3_copyFrom_26 ?_
  refine pf_X3_19 (B' := [[(a, .inr (5, [.int (iI (h 0)), .int (iI (h 1)), .int (iI (h 2)), .int (iI (h 3)), .int (iI (k 4)), .int (iI (k 5)), .int (iI (k 6)), .int (iI (k 7))]))], [(b, .inr (5, [.int (iI (h 0)), .int (iI (h 1)), .int (iI (h 2)), .int (iI (h 3)), .int (iI (h 4)), .int (iI (h 5)), .int (iI (h 6)), .int (iI (h 7))]))]]) B Y 0 rfl (Nat.le_of_ble_eq_true rfl) rfl dX3_copyFrom_29 (fun H locs Y => ?_)
  refine lv_aload_n B.1 B.2.1 dX3_copyFrom_32 rfl (lv_at hl 0 rfl) ?_
  refine lv_aload_n B.1 B.2.1 dX3_copyFrom_33 rfl (lv_at hl 1 rfl) ?_
  refine gf_X3_22 B Y 1 rfl rfl dX3_copyFrom_34 ?_
  refine pf_X3_22 (B' := [[(a, .inr (5, [.int (iI (h 0)), .int (iI (h 1)), .int (iI (h 2)), .int (iI (h 3)), .int (iI (h 4)), .int (iI (k 5)), .int (iI (k 6)), .int (iI (k 7))]))], [(b, .inr (5, [.int (iI (h 0)), .int (iI (h 1)), .int (iI (h 2)), .int (iI (h 3)), .int (iI (h 4)), .int (iI (h 5)), .int (iI (h 6)), .int (iI (h 7))]))]]) B Y 0 rfl (Nat.le_of_ble_eq_true rfl) rfl dX3_copyFrom_37 (fun H locs Y => ?_)
  refine lv_aload_n B.1 B.2.1 dX3_copyFrom_40 rfl (lv_at hl 0 rfl) ?_
  refine lv_aload_n B.1 B.2.1 dX3_copyFrom_41 rfl (lv_at hl 1 rfl) ?_
  refine gf_X3_25 B Y 1 rfl rfl dX3_copyFrom_42 ?_
  refine pf_X3_25 (B' := [[(a, .inr (5, [.int (iI (h 0)), .int (iI (h 1)), .int (iI (h 2)), .int (iI (h 3)), .int (iI (h 4)), .int (iI (h 5)), .int (iI (k 6)), .int (iI (k 7))]))], [(b, .inr (5, [.int (iI (h 0)), .int (iI (h 1)), .int (iI (h 2)), .int (iI (h 3)), .int (iI (h 4)), .int (iI (h 5)), .int (iI (h 6)), .int (iI (h 7))]))]]) B Y 0 rfl (Nat.le_of_ble_eq_true rfl) rfl dX3_copyFrom_45 (fun H locs Y => ?_)
  refine lv_aload_n B.1 B.2.1 dX3_copyFrom_48 rfl (lv_at hl 0 rfl) ?_
  refine lv_aload_n B.1 B.2.1 dX3_copyFrom_49 rfl (lv_at hl 1 rfl) ?_
  refine gf_X3_28 B Y 1 rfl rfl dX3_copyFrom_50 ?_
  refine pf_X3_28 (B' := [[(a, .inr (5, [.int (iI (h 0)), .int (iI (h 1)), .int (iI (h 2)), .int (iI (h 3)), .int (iI (h 4)), .int (iI (h 5)), .int (iI (h 6)), .int (iI (k 7))]))], [(b, .inr (5, [.int (iI (h 0)), .int (iI (h 1)), .int (iI (h 2)), .int (iI (h 3)), .int (iI (h 4)), .int (iI (h 5)), .int (iI (h 6)), .int (iI (h 7))]))]]) B Y 0 rfl (Nat.le_of_ble_eq_true rfl) rfl dX3_copyFrom_53 (fun H locs Y => ?_)
  refine lv_aload_n B.1 B.2.1 dX3_copyFrom_56 rfl (lv_at hl 0 rfl) ?_
  refine lv_aload_n B.1 B.2.1 dX3_copyFrom_57 rfl (lv_at hl 1 rfl) ?_
  refine gf_X3_31 B Y 1 rfl rfl dX3_copyFrom_58 ?_
  refine pf_X3_31 (B' := [[(a, .inr (5, [.int (iI (h 0)), .int (iI (h 1)), .int (iI (h 2)), .int (iI (h 3)), .int (iI (h 4)), .int (iI (h 5)), .int (iI (h 6)), .int (iI (h 7))]))], [(b, .inr (5, [.int (iI (h 0)), .int (iI (h 1)), .int (iI (h 2)), .int (iI (h 3)), .int (iI (h 4)), .int (iI (h 5)), .int (iI (h 6)), .int (iI (h 7))]))]]) B Y 0 rfl (Nat.le_of_ble_eq_true rfl) rfl dX3_copyFrom_61 (fun H locs Y => ?_)
  exact eV B hr hlk Y () trivial [0, 1] (by decide) rfl (Nat.le_of_ble_eq_true rfl) (Nat.le_of_ble_eq_true rfl) dX3_copyFrom_64

set_option maxHeartbeats 4000000 in
set_option maxRecDepth 100000 in
theorem k_X1_copyFrom (l : Launch) (D : va_G) (τ : Nat → ClassId) (sz : Nat) (a b : Nat) (k h : Nat → Int) (h2 : h 2 = 0 ∨ h 2 = 1) : Met l yX1_copyFrom (Cond.code yX1_copyFrom cX1_copyFrom 2 none :: wALL) { frames := 0, cells := 0, slots := 0, locals := 0 } (Pw D τ (bl [[(a, .inr (3, [.int (iI (k 0)), .int (iI (k 1)), .int (iI (k 2)), .int (iI (k 3)), .int (iI (k 4)), .int (iI (k 5)), .int (iI (k 6)), .int (iI (k 7))]))], [(b, .inr (3, [.int (iI (h 0)), .int (iI (h 1)), .int (iI (h 2)), .int (iI (h 3)), .int (iI (h 4)), .int (iI (h 5)), .int (iI (h 6)), .int (iI (h 7))]))]]) sz [.ref a, .ref b]) (va_Qv (fun (_ : Unit) => True) (Bb D (va_A (bl [[(a, .inr (3, [.int (iI (k 0)), .int (iI (k 1)), .int (iI (k 2)), .int (iI (k 3)), .int (iI (k 4)), .int (iI (k 5)), .int (iI (k 6)), .int (iI (k 7))]))], [(b, .inr (3, [.int (iI (h 0)), .int (iI (h 1)), .int (iI (h 2)), .int (iI (h 3)), .int (iI (h 4)), .int (iI (h 5)), .int (iI (h 6)), .int (iI (h 7))]))]]) sz) (fun (_ : Unit) => [[(a, .inr (3, [.int (iI (h 0)), .int (iI (h 1)), .int (iI (h 2)), .int (iI (h 3)), .int (iI (h 4)), .int (iI (h 5)), .int (iI (h 6)), .int (iI (h 7))]))], [(b, .inr (3, [.int (iI (h 0)), .int (iI (h 1)), .int (iI (h 2)), .int (iI (h 3)), .int (iI (h 4)), .int (iI (h 5)), .int (iI (h 6)), .int (iI (h 7))]))]])) (va_A (bl [[(a, .inr (3, [.int (iI (k 0)), .int (iI (k 1)), .int (iI (k 2)), .int (iI (k 3)), .int (iI (k 4)), .int (iI (k 5)), .int (iI (k 6)), .int (iI (k 7))]))], [(b, .inr (3, [.int (iI (h 0)), .int (iI (h 1)), .int (iI (h 2)), .int (iI (h 3)), .int (iI (h 4)), .int (iI (h 5)), .int (iI (h 6)), .int (iI (h 7))]))]]) sz)) 0 0 (va_A (bl [[(a, .inr (3, [.int (iI (k 0)), .int (iI (k 1)), .int (iI (k 2)), .int (iI (k 3)), .int (iI (k 4)), .int (iI (k 5)), .int (iI (k 6)), .int (iI (k 7))]))], [(b, .inr (3, [.int (iI (h 0)), .int (iI (h 1)), .int (iI (h 2)), .int (iI (h 3)), .int (iI (h 4)), .int (iI (h 5)), .int (iI (h 6)), .int (iI (h 7))]))]]) sz) := by
  refine bodyW (by decide) (Nat.le_of_ble_eq_true rfl) (fun p e s m below meth c ls B hr hlk hin hsz Y hl => ?_)
  have hl : lv_has ls 2 [(0, .ref a), (1, .ref b)] := hl
  have B : CallFix p m c cX1_copyFrom 2 s _ wALL RX1 := B
  generalize va_A (bl [[(a, .inr (3, [.int (iI (k 0)), .int (iI (k 1)), .int (iI (k 2)), .int (iI (k 3)), .int (iI (k 4)), .int (iI (k 5)), .int (iI (k 6)), .int (iI (k 7))]))], [(b, .inr (3, [.int (iI (h 0)), .int (iI (h 1)), .int (iI (h 2)), .int (iI (h 3)), .int (iI (h 4)), .int (iI (h 5)), .int (iI (h 6)), .int (iI (h 7))]))]]) sz = A at Y ⊢
  refine lv_aload_n B.1 B.2.1 dX1_copyFrom_0 rfl (lv_at hl 0 rfl) ?_
  refine lv_aload_n B.1 B.2.1 dX1_copyFrom_1 rfl (lv_at hl 1 rfl) ?_
  refine gf_X1_9 B Y 1 rfl rfl dX1_copyFrom_2 ?_
  refine pf_X1_9 (B' := [[(a, .inr (3, [.int (iI (h 0)), .int (iI (k 1)), .int (iI (k 2)), .int (iI (k 3)), .int (iI (k 4)), .int (iI (k 5)), .int (iI (k 6)), .int (iI (k 7))]))], [(b, .inr (3, [.int (iI (h 0)), .int (iI (h 1)), .int (iI (h 2)), .int (iI (h 3)), .int (iI (h 4)), .int (iI (h 5)), .int (iI (h 6)), .int (iI (h 7))]))]]) B Y 0 rfl (Nat.le_of_ble_eq_true rfl) rfl dX1_copyFrom_5 (fun H locs Y => ?_)
  refine lv_aload_n B.1 B.2.1 dX1_copyFrom_8 rfl (lv_at hl 0 rfl) ?_
  refine lv_aload_n B.1 B.2.1 dX1_copyFrom_9 rfl (lv_at hl 1 rfl) ?_
  refine gf_X1_15 B Y 1 rfl rfl dX1_copyFrom_10 ?_
  refine pf_X1_15 (B' := [[(a, .inr (3, [.int (iI (h 0)), .int (iI (h 1)), .int (iI (k 2)), .int (iI (k 3)), .int (iI (k 4)), .int (iI (k 5)), .int (iI (k 6)), .int (iI (k 7))]))], [(b, .inr (3, [.int (iI (h 0)), .int (iI (h 1)), .int (iI (h 2)), .int (iI (h 3)), .int (iI (h 4)), .int (iI (h 5)), .int (iI (h 6)), .int (iI (h 7))]))]]) B Y 0 rfl (Nat.le_of_ble_eq_true rfl) rfl dX1_copyFrom_13 (fun H locs Y => ?_)
  refine lv_aload_n B.1 B.2.1 dX1_copyFrom_16 rfl (lv_at hl 0 rfl) ?_
  refine lv_aload_n B.1 B.2.1 dX1_copyFrom_17 rfl (lv_at hl 1 rfl) ?_
  refine gf_X1_18 B Y 1 rfl rfl dX1_copyFrom_18 ?_
  refine pf_X1_18 (B' := [[(a, .inr (3, [.int (iI (h 0)), .int (iI (h 1)), .int (iI (h 2)), .int (iI (k 3)), .int (iI (k 4)), .int (iI (k 5)), .int (iI (k 6)), .int (iI (k 7))]))], [(b, .inr (3, [.int (iI (h 0)), .int (iI (h 1)), .int (iI (h 2)), .int (iI (h 3)), .int (iI (h 4)), .int (iI (h 5)), .int (iI (h 6)), .int (iI (h 7))]))]]) B Y (iI_z h2).1 (iI_z h2).2 0 rfl (Nat.le_of_ble_eq_true rfl) rfl dX1_copyFrom_21 (fun H locs Y => ?_)
  refine lv_aload_n B.1 B.2.1 dX1_copyFrom_24 rfl (lv_at hl 0 rfl) ?_
  refine lv_aload_n B.1 B.2.1 dX1_copyFrom_25 rfl (lv_at hl 1 rfl) ?_
  refine gf_X1_22 B Y 1 rfl rfl dX1_copyFrom_26 ?_
  refine pf_X1_22 (B' := [[(a, .inr (3, [.int (iI (h 0)), .int (iI (h 1)), .int (iI (h 2)), .int (iI (h 3)), .int (iI (k 4)), .int (iI (k 5)), .int (iI (k 6)), .int (iI (k 7))]))], [(b, .inr (3, [.int (iI (h 0)), .int (iI (h 1)), .int (iI (h 2)), .int (iI (h 3)), .int (iI (h 4)), .int (iI (h 5)), .int (iI (h 6)), .int (iI (h 7))]))]]) B Y 0 rfl (Nat.le_of_ble_eq_true rfl) rfl dX1_copyFrom_29 (fun H locs Y => ?_)
  refine lv_aload_n B.1 B.2.1 dX1_copyFrom_32 rfl (lv_at hl 0 rfl) ?_
  refine lv_aload_n B.1 B.2.1 dX1_copyFrom_33 rfl (lv_at hl 1 rfl) ?_
  refine gf_X1_25 B Y 1 rfl rfl dX1_copyFrom_34 ?_
  refine pf_X1_25 (B' := [[(a, .inr (3, [.int (iI (h 0)), .int (iI (h 1)), .int (iI (h 2)), .int (iI (h 3)), .int (iI (h 4)), .int (iI (k 5)), .int (iI (k 6)), .int (iI (k 7))]))], [(b, .inr (3, [.int (iI (h 0)), .int (iI (h 1)), .int (iI (h 2)), .int (iI (h 3)), .int (iI (h 4)), .int (iI (h 5)), .int (iI (h 6)), .int (iI (h 7))]))]]) B Y 0 rfl (Nat.le_of_ble_eq_true rfl) rfl dX1_copyFrom_37 (fun H locs Y => ?_)
  refine lv_aload_n B.1 B.2.1 dX1_copyFrom_40 rfl (lv_at hl 0 rfl) ?_
  refine lv_aload_n B.1 B.2.1 dX1_copyFrom_41 rfl (lv_at hl 1 rfl) ?_
  refine gf_X1_28 B Y 1 rfl rfl dX1_copyFrom_42 ?_
  refine pf_X1_28 (B' := [[(a, .inr (3, [.int (iI (h 0)), .int (iI (h 1)), .int (iI (h 2)), .int (iI (h 3)), .int (iI (h 4)), .int (iI (h 5)), .int (iI (k 6)), .int (iI (k 7))]))], [(b, .inr (3, [.int (iI (h 0)), .int (iI (h 1)), .int (iI (h 2)), .int (iI (h 3)), .int (iI (h 4)), .int (iI (h 5)), .int (iI (h 6)), .int (iI (h 7))]))]]) B Y 0 rfl (Nat.le_of_ble_eq_true rfl) rfl dX1_copyFrom_45 (fun H locs Y => ?_)
  refine lv_aload_n B.1 B.2.1 dX1_copyFrom_48 rfl (lv_at hl 0 rfl) ?_
  refine lv_aload_n B.1 B.2.1 dX1_copyFrom_49 rfl (lv_at hl 1 rfl) ?_
  refine gf_X1_31 B Y 1 rfl rfl dX1_copyFrom_50 ?_
  refine pf_X1_31 (B' := [[(a, .inr (3, [.int (iI (h 0)), .int (iI (h 1)), .int (iI (h 2)), .int (iI (h 3)), .int (iI (h 4)), .int (iI (h 5)), .int (iI (h 6)), .int (iI (k 7))]))], [(b, .inr (3, [.int (iI (h 0)), .int (iI (h 1)), .int (iI (h 2)), .int (iI (h 3)), .int (iI (h 4)), .int (iI (h 5)), .int (iI (h 6)), .int (iI (h 7))]))]]) B Y 0 rfl (Nat.le_of_ble_eq_true rfl) rfl dX1_copyFrom_53 (fun H locs Y => ?_)
  refine lv_aload_n B.1 B.2.1 dX1_copyFrom_56 rfl (lv_at hl 0 rfl) ?_
  refine lv_aload_n B.1 B.2.1 dX1_copyFrom_57 rfl (lv_at hl 1 rfl) ?_
  refine gf_X1_34 B Y 1 rfl rfl dX1_copyFrom_58 ?_
  refine pf_X1_34 (B' := [[(a, .inr (3, [.int (iI (h 0)), .int (iI (h 1)), .int (iI (h 2)), .int (iI (h 3)), .int (iI (h 4)), .int (iI (h 5)), .int (iI (h 6)), .int (iI (h 7))]))], [(b, .inr (3, [.int (iI (h 0)), .int (iI (h 1)), .int (iI (h 2)), .int (iI (h 3)), .int (iI (h 4)), .int (iI (h 5)), .int (iI (h 6)), .int (iI (h 7))]))]]) B Y 0 rfl (Nat.le_of_ble_eq_true rfl) rfl dX1_copyFrom_61 (fun H locs Y => ?_)
  exact eV B hr hlk Y () trivial [0, 1] (by decide) rfl (Nat.le_of_ble_eq_true rfl) (Nat.le_of_ble_eq_true rfl) dX1_copyFrom_64

set_option maxHeartbeats 4000000 in
set_option maxRecDepth 100000 in
theorem k_X3_begin (l : Launch) (D : va_G) (τ : Nat → ClassId) (sz : Nat) (a : Nat) (k : Nat → Int) (x y z : Int) : Met l yX3_begin (Cond.code yX3_begin cX3_begin 4 none :: wALL) { frames := 0, cells := 0, slots := 0, locals := 0 } (Pw D τ (bl [[(a, .inr (5, [.int (iI (k 0)), .int (iI (k 1)), .int (iI (k 2)), .int (iI (k 3)), .int (iI (k 4)), .int (iI (k 5)), .int (iI (k 6)), .int (iI (k 7))]))]]) sz [.ref a, .int (iI (x)), .int (iI (y)), .int (iI (z))]) (va_Qv (fun (_ : Unit) => True) (Bb D (va_A (bl [[(a, .inr (5, [.int (iI (k 0)), .int (iI (k 1)), .int (iI (k 2)), .int (iI (k 3)), .int (iI (k 4)), .int (iI (k 5)), .int (iI (k 6)), .int (iI (k 7))]))]]) sz) (fun (_ : Unit) => [[(a, .inr (5, [.int (iI (x)), .int (iI (y)), .int (iI (z)), .int (iI (0)), .int (iI (0)), .int (iI (0)), .int (iI (0)), .int (iI (0))]))]])) (va_A (bl [[(a, .inr (5, [.int (iI (k 0)), .int (iI (k 1)), .int (iI (k 2)), .int (iI (k 3)), .int (iI (k 4)), .int (iI (k 5)), .int (iI (k 6)), .int (iI (k 7))]))]]) sz)) 0 0 (va_A (bl [[(a, .inr (5, [.int (iI (k 0)), .int (iI (k 1)), .int (iI (k 2)), .int (iI (k 3)), .int (iI (k 4)), .int (iI (k 5)), .int (iI (k 6)), .int (iI (k 7))]))]]) sz) := by
  refine bodyW (by decide) (Nat.le_of_ble_eq_true rfl) (fun p e s m below meth c ls B hr hlk hin hsz Y hl => ?_)
  have hl : lv_has ls 4 [(0, .ref a), (1, .int (iI (x))), (2, .int (iI (y))), (3, .int (iI (z)))] := hl
  have B : CallFix p m c cX3_begin 4 s _ wALL RX3 := B
  generalize va_A (bl [[(a, .inr (5, [.int (iI (k 0)), .int (iI (k 1)), .int (iI (k 2)), .int (iI (k 3)), .int (iI (k 4)), .int (iI (k 5)), .int (iI (k 6)), .int (iI (k 7))]))]]) sz = A at Y ⊢
  refine lv_aload_n B.1 B.2.1 dX3_begin_0 rfl (lv_at hl 0 rfl) ?_
  refine lv_iload_n B.1 B.2.1 dX3_begin_1 rfl (lv_at hl 1 rfl) ?_
  refine pf_X3_7 (B' := [[(a, .inr (5, [.int (iI (x)), .int (iI (k 1)), .int (iI (k 2)), .int (iI (k 3)), .int (iI (k 4)), .int (iI (k 5)), .int (iI (k 6)), .int (iI (k 7))]))]]) B Y 0 rfl (Nat.le_of_ble_eq_true rfl) rfl dX3_begin_2 (fun H locs Y => ?_)
  refine lv_aload_n B.1 B.2.1 dX3_begin_5 rfl (lv_at hl 0 rfl) ?_
  refine lv_iload_n B.1 B.2.1 dX3_begin_6 rfl (lv_at hl 2 rfl) ?_
  refine pf_X3_13 (B' := [[(a, .inr (5, [.int (iI (x)), .int (iI (y)), .int (iI (k 2)), .int (iI (k 3)), .int (iI (k 4)), .int (iI (k 5)), .int (iI (k 6)), .int (iI (k 7))]))]]) B Y 0 rfl (Nat.le_of_ble_eq_true rfl) rfl dX3_begin_7 (fun H locs Y => ?_)
  refine lv_aload_n B.1 B.2.1 dX3_begin_10 rfl (lv_at hl 0 rfl) ?_
  refine lv_iload_n B.1 B.2.1 dX3_begin_11 rfl (lv_at hl 3 rfl) ?_
  refine pf_X3_16 (B' := [[(a, .inr (5, [.int (iI (x)), .int (iI (y)), .int (iI (z)), .int (iI (k 3)), .int (iI (k 4)), .int (iI (k 5)), .int (iI (k 6)), .int (iI (k 7))]))]]) B Y 0 rfl (Nat.le_of_ble_eq_true rfl) rfl dX3_begin_12 (fun H locs Y => ?_)
  refine lv_aload_n B.1 B.2.1 dX3_begin_15 rfl (lv_at hl 0 rfl) ?_
  refine lv_iconst (v := (iI (0))) B.1 B.2.1 dX3_begin_16 (by decide) ?_
  refine pf_X3_19 (B' := [[(a, .inr (5, [.int (iI (x)), .int (iI (y)), .int (iI (z)), .int (iI (0)), .int (iI (k 4)), .int (iI (k 5)), .int (iI (k 6)), .int (iI (k 7))]))]]) B Y 0 rfl (Nat.le_of_ble_eq_true rfl) rfl dX3_begin_17 (fun H locs Y => ?_)
  refine lv_aload_n B.1 B.2.1 dX3_begin_20 rfl (lv_at hl 0 rfl) ?_
  refine lv_iconst (v := (iI (0))) B.1 B.2.1 dX3_begin_21 (by decide) ?_
  refine pf_X3_22 (B' := [[(a, .inr (5, [.int (iI (x)), .int (iI (y)), .int (iI (z)), .int (iI (0)), .int (iI (0)), .int (iI (k 5)), .int (iI (k 6)), .int (iI (k 7))]))]]) B Y 0 rfl (Nat.le_of_ble_eq_true rfl) rfl dX3_begin_22 (fun H locs Y => ?_)
  refine lv_aload_n B.1 B.2.1 dX3_begin_25 rfl (lv_at hl 0 rfl) ?_
  refine lv_iconst (v := (iI (0))) B.1 B.2.1 dX3_begin_26 (by decide) ?_
  refine pf_X3_25 (B' := [[(a, .inr (5, [.int (iI (x)), .int (iI (y)), .int (iI (z)), .int (iI (0)), .int (iI (0)), .int (iI (0)), .int (iI (k 6)), .int (iI (k 7))]))]]) B Y 0 rfl (Nat.le_of_ble_eq_true rfl) rfl dX3_begin_27 (fun H locs Y => ?_)
  refine lv_aload_n B.1 B.2.1 dX3_begin_30 rfl (lv_at hl 0 rfl) ?_
  refine lv_iconst (v := (iI (0))) B.1 B.2.1 dX3_begin_31 (by decide) ?_
  refine pf_X3_28 (B' := [[(a, .inr (5, [.int (iI (x)), .int (iI (y)), .int (iI (z)), .int (iI (0)), .int (iI (0)), .int (iI (0)), .int (iI (0)), .int (iI (k 7))]))]]) B Y 0 rfl (Nat.le_of_ble_eq_true rfl) rfl dX3_begin_32 (fun H locs Y => ?_)
  refine lv_aload_n B.1 B.2.1 dX3_begin_35 rfl (lv_at hl 0 rfl) ?_
  refine lv_iconst (v := (iI (0))) B.1 B.2.1 dX3_begin_36 (by decide) ?_
  refine pf_X3_31 (B' := [[(a, .inr (5, [.int (iI (x)), .int (iI (y)), .int (iI (z)), .int (iI (0)), .int (iI (0)), .int (iI (0)), .int (iI (0)), .int (iI (0))]))]]) B Y 0 rfl (Nat.le_of_ble_eq_true rfl) rfl dX3_begin_37 (fun H locs Y => ?_)
  exact eV B hr hlk Y () trivial [0] (by decide) rfl (Nat.le_of_ble_eq_true rfl) (Nat.le_of_ble_eq_true rfl) dX3_begin_40

set_option maxHeartbeats 4000000 in
set_option maxRecDepth 100000 in
theorem k_X1_begin (l : Launch) (D : va_G) (τ : Nat → ClassId) (sz : Nat) (a : Nat) (k : Nat → Int) (x y z t : Int) (h2 : z = 0 ∨ z = 1) : Met l yX1_begin (Cond.code yX1_begin cX1_begin 5 none :: wALL) { frames := 0, cells := 0, slots := 0, locals := 0 } (Pw D τ (bl [[(a, .inr (3, [.int (iI (k 0)), .int (iI (k 1)), .int (iI (k 2)), .int (iI (k 3)), .int (iI (k 4)), .int (iI (k 5)), .int (iI (k 6)), .int (iI (k 7))]))]]) sz [.ref a, .int (iI (x)), .int (iI (y)), .int (iI (z)), .int (iI (t))]) (va_Qv (fun (_ : Unit) => True) (Bb D (va_A (bl [[(a, .inr (3, [.int (iI (k 0)), .int (iI (k 1)), .int (iI (k 2)), .int (iI (k 3)), .int (iI (k 4)), .int (iI (k 5)), .int (iI (k 6)), .int (iI (k 7))]))]]) sz) (fun (_ : Unit) => [[(a, .inr (3, [.int (iI (x)), .int (iI (y)), .int (iI (z)), .int (iI (0)), .int (iI (t)), .int (iI (0)), .int (iI (-1)), .int (iI (0))]))]])) (va_A (bl [[(a, .inr (3, [.int (iI (k 0)), .int (iI (k 1)), .int (iI (k 2)), .int (iI (k 3)), .int (iI (k 4)), .int (iI (k 5)), .int (iI (k 6)), .int (iI (k 7))]))]]) sz)) 0 0 (va_A (bl [[(a, .inr (3, [.int (iI (k 0)), .int (iI (k 1)), .int (iI (k 2)), .int (iI (k 3)), .int (iI (k 4)), .int (iI (k 5)), .int (iI (k 6)), .int (iI (k 7))]))]]) sz) := by
  refine bodyW (by decide) (Nat.le_of_ble_eq_true rfl) (fun p e s m below meth c ls B hr hlk hin hsz Y hl => ?_)
  have hl : lv_has ls 5 [(0, .ref a), (1, .int (iI (x))), (2, .int (iI (y))), (3, .int (iI (z))), (4, .int (iI (t)))] := hl
  have B : CallFix p m c cX1_begin 5 s _ wALL RX1 := B
  generalize va_A (bl [[(a, .inr (3, [.int (iI (k 0)), .int (iI (k 1)), .int (iI (k 2)), .int (iI (k 3)), .int (iI (k 4)), .int (iI (k 5)), .int (iI (k 6)), .int (iI (k 7))]))]]) sz = A at Y ⊢
  refine lv_aload_n B.1 B.2.1 dX1_begin_0 rfl (lv_at hl 0 rfl) ?_
  refine lv_iload_n B.1 B.2.1 dX1_begin_1 rfl (lv_at hl 1 rfl) ?_
  refine pf_X1_9 (B' := [[(a, .inr (3, [.int (iI (x)), .int (iI (k 1)), .int (iI (k 2)), .int (iI (k 3)), .int (iI (k 4)), .int (iI (k 5)), .int (iI (k 6)), .int (iI (k 7))]))]]) B Y 0 rfl (Nat.le_of_ble_eq_true rfl) rfl dX1_begin_2 (fun H locs Y => ?_)
  refine lv_aload_n B.1 B.2.1 dX1_begin_5 rfl (lv_at hl 0 rfl) ?_
  refine lv_iload_n B.1 B.2.1 dX1_begin_6 rfl (lv_at hl 2 rfl) ?_
  refine pf_X1_15 (B' := [[(a, .inr (3, [.int (iI (x)), .int (iI (y)), .int (iI (k 2)), .int (iI (k 3)), .int (iI (k 4)), .int (iI (k 5)), .int (iI (k 6)), .int (iI (k 7))]))]]) B Y 0 rfl (Nat.le_of_ble_eq_true rfl) rfl dX1_begin_7 (fun H locs Y => ?_)
  refine lv_aload_n B.1 B.2.1 dX1_begin_10 rfl (lv_at hl 0 rfl) ?_
  refine lv_iload_n B.1 B.2.1 dX1_begin_11 rfl (lv_at hl 3 rfl) ?_
  refine pf_X1_18 (B' := [[(a, .inr (3, [.int (iI (x)), .int (iI (y)), .int (iI (z)), .int (iI (k 3)), .int (iI (k 4)), .int (iI (k 5)), .int (iI (k 6)), .int (iI (k 7))]))]]) B Y (iI_z h2).1 (iI_z h2).2 0 rfl (Nat.le_of_ble_eq_true rfl) rfl dX1_begin_12 (fun H locs Y => ?_)
  refine lv_aload_n B.1 B.2.1 dX1_begin_15 rfl (lv_at hl 0 rfl) ?_
  refine lv_iconst (v := (iI (0))) B.1 B.2.1 dX1_begin_16 (by decide) ?_
  refine pf_X1_22 (B' := [[(a, .inr (3, [.int (iI (x)), .int (iI (y)), .int (iI (z)), .int (iI (0)), .int (iI (k 4)), .int (iI (k 5)), .int (iI (k 6)), .int (iI (k 7))]))]]) B Y 0 rfl (Nat.le_of_ble_eq_true rfl) rfl dX1_begin_17 (fun H locs Y => ?_)
  refine lv_aload_n B.1 B.2.1 dX1_begin_20 rfl (lv_at hl 0 rfl) ?_
  refine lv_iload B.1 B.2.1 dX1_begin_21 (lv_at hl 4 rfl) ?_
  refine pf_X1_25 (B' := [[(a, .inr (3, [.int (iI (x)), .int (iI (y)), .int (iI (z)), .int (iI (0)), .int (iI (t)), .int (iI (k 5)), .int (iI (k 6)), .int (iI (k 7))]))]]) B Y 0 rfl (Nat.le_of_ble_eq_true rfl) rfl dX1_begin_23 (fun H locs Y => ?_)
  refine lv_aload_n B.1 B.2.1 dX1_begin_26 rfl (lv_at hl 0 rfl) ?_
  refine lv_iconst (v := (iI (0))) B.1 B.2.1 dX1_begin_27 (by decide) ?_
  refine pf_X1_28 (B' := [[(a, .inr (3, [.int (iI (x)), .int (iI (y)), .int (iI (z)), .int (iI (0)), .int (iI (t)), .int (iI (0)), .int (iI (k 6)), .int (iI (k 7))]))]]) B Y 0 rfl (Nat.le_of_ble_eq_true rfl) rfl dX1_begin_28 (fun H locs Y => ?_)
  refine lv_aload_n B.1 B.2.1 dX1_begin_31 rfl (lv_at hl 0 rfl) ?_
  refine lv_iconst (v := (iI (-1))) B.1 B.2.1 dX1_begin_32 (by decide) ?_
  refine pf_X1_31 (B' := [[(a, .inr (3, [.int (iI (x)), .int (iI (y)), .int (iI (z)), .int (iI (0)), .int (iI (t)), .int (iI (0)), .int (iI (-1)), .int (iI (k 7))]))]]) B Y 0 rfl (Nat.le_of_ble_eq_true rfl) rfl dX1_begin_33 (fun H locs Y => ?_)
  refine lv_aload_n B.1 B.2.1 dX1_begin_36 rfl (lv_at hl 0 rfl) ?_
  refine lv_iconst (v := (iI (0))) B.1 B.2.1 dX1_begin_37 (by decide) ?_
  refine pf_X1_34 (B' := [[(a, .inr (3, [.int (iI (x)), .int (iI (y)), .int (iI (z)), .int (iI (0)), .int (iI (t)), .int (iI (0)), .int (iI (-1)), .int (iI (0))]))]]) B Y 0 rfl (Nat.le_of_ble_eq_true rfl) rfl dX1_begin_38 (fun H locs Y => ?_)
  exact eV B hr hlk Y () trivial [0] (by decide) rfl (Nat.le_of_ble_eq_true rfl) (Nat.le_of_ble_eq_true rfl) dX1_begin_41

set_option maxHeartbeats 4000000 in
set_option maxRecDepth 100000 in
theorem k_X1_close (l : Launch) (D : va_G) (τ : Nat → ClassId) (sz : Nat) (a : Nat) (k : Nat → Int) (x y z : Int) : Met l yX1_close (Cond.code yX1_close cX1_close 4 none :: wALL) { frames := 0, cells := 0, slots := 0, locals := 0 } (Pw D τ (bl [[(a, .inr (3, [.int (iI (k 0)), .int (iI (k 1)), .int (iI (k 2)), .int (iI (k 3)), .int (iI (k 4)), .int (iI (k 5)), .int (iI (k 6)), .int (iI (k 7))]))]]) sz [.ref a, .int (iI (x)), .int (iI (y)), .int (iI (z))]) (va_Qv (fun (_ : Unit) => True) (Bb D (va_A (bl [[(a, .inr (3, [.int (iI (k 0)), .int (iI (k 1)), .int (iI (k 2)), .int (iI (k 3)), .int (iI (k 4)), .int (iI (k 5)), .int (iI (k 6)), .int (iI (k 7))]))]]) sz) (fun (_ : Unit) => [[(a, .inr (3, [.int (iI (k 0)), .int (iI (k 1)), .int (iI (k 2)), .int (iI (k 3)), .int (iI (k 4)), .int (iI (x)), .int (iI (y)), .int (iI (z))]))]])) (va_A (bl [[(a, .inr (3, [.int (iI (k 0)), .int (iI (k 1)), .int (iI (k 2)), .int (iI (k 3)), .int (iI (k 4)), .int (iI (k 5)), .int (iI (k 6)), .int (iI (k 7))]))]]) sz)) 0 0 (va_A (bl [[(a, .inr (3, [.int (iI (k 0)), .int (iI (k 1)), .int (iI (k 2)), .int (iI (k 3)), .int (iI (k 4)), .int (iI (k 5)), .int (iI (k 6)), .int (iI (k 7))]))]]) sz) := by
  refine bodyW (by decide) (Nat.le_of_ble_eq_true rfl) (fun p e s m below meth c ls B hr hlk hin hsz Y hl => ?_)
  have hl : lv_has ls 4 [(0, .ref a), (1, .int (iI (x))), (2, .int (iI (y))), (3, .int (iI (z)))] := hl
  have B : CallFix p m c cX1_close 4 s _ wALL RX1 := B
  generalize va_A (bl [[(a, .inr (3, [.int (iI (k 0)), .int (iI (k 1)), .int (iI (k 2)), .int (iI (k 3)), .int (iI (k 4)), .int (iI (k 5)), .int (iI (k 6)), .int (iI (k 7))]))]]) sz = A at Y ⊢
  refine lv_aload_n B.1 B.2.1 dX1_close_0 rfl (lv_at hl 0 rfl) ?_
  refine lv_iload_n B.1 B.2.1 dX1_close_1 rfl (lv_at hl 1 rfl) ?_
  refine pf_X1_28 (B' := [[(a, .inr (3, [.int (iI (k 0)), .int (iI (k 1)), .int (iI (k 2)), .int (iI (k 3)), .int (iI (k 4)), .int (iI (x)), .int (iI (k 6)), .int (iI (k 7))]))]]) B Y 0 rfl (Nat.le_of_ble_eq_true rfl) rfl dX1_close_2 (fun H locs Y => ?_)
  refine lv_aload_n B.1 B.2.1 dX1_close_5 rfl (lv_at hl 0 rfl) ?_
  refine lv_iload_n B.1 B.2.1 dX1_close_6 rfl (lv_at hl 2 rfl) ?_
  refine pf_X1_31 (B' := [[(a, .inr (3, [.int (iI (k 0)), .int (iI (k 1)), .int (iI (k 2)), .int (iI (k 3)), .int (iI (k 4)), .int (iI (x)), .int (iI (y)), .int (iI (k 7))]))]]) B Y 0 rfl (Nat.le_of_ble_eq_true rfl) rfl dX1_close_7 (fun H locs Y => ?_)
  refine lv_aload_n B.1 B.2.1 dX1_close_10 rfl (lv_at hl 0 rfl) ?_
  refine lv_iload_n B.1 B.2.1 dX1_close_11 rfl (lv_at hl 3 rfl) ?_
  refine pf_X1_34 (B' := [[(a, .inr (3, [.int (iI (k 0)), .int (iI (k 1)), .int (iI (k 2)), .int (iI (k 3)), .int (iI (k 4)), .int (iI (x)), .int (iI (y)), .int (iI (z))]))]]) B Y 0 rfl (Nat.le_of_ble_eq_true rfl) rfl dX1_close_12 (fun H locs Y => ?_)
  exact eV B hr hlk Y () trivial [0] (by decide) rfl (Nat.le_of_ble_eq_true rfl) (Nat.le_of_ble_eq_true rfl) dX1_close_15

set_option maxHeartbeats 4000000 in
set_option maxRecDepth 100000 in
theorem k_X0_clear (l : Launch) (D : va_G) (τ : Nat → ClassId) (sz : Nat) (a : Nat) (k : Nat → Int) : Met l yX0_clear (Cond.code yX0_clear cX0_clear 1 none :: wALL) { frames := 0, cells := 0, slots := 0, locals := 0 } (Pw D τ (bl [[(a, .inr (2, [.int (iI (k 0)), .int (iI (k 1)), .int (iI (k 2)), .int (iI (k 3)), .int (iI (k 4)), .int (iI (k 5)), .int (iI (k 6)), .int (iI (k 7)), .int (iI (k 8)), .int (iI (k 9)), .int (iI (k 10)), .int (iI (k 11)), .int (iI (k 12))]))]]) sz [.ref a]) (va_Qv (fun (_ : Unit) => True) (Bb D (va_A (bl [[(a, .inr (2, [.int (iI (k 0)), .int (iI (k 1)), .int (iI (k 2)), .int (iI (k 3)), .int (iI (k 4)), .int (iI (k 5)), .int (iI (k 6)), .int (iI (k 7)), .int (iI (k 8)), .int (iI (k 9)), .int (iI (k 10)), .int (iI (k 11)), .int (iI (k 12))]))]]) sz) (fun (_ : Unit) => [[(a, .inr (2, [.int (iI (0)), .int (iI (0)), .int (iI (0)), .int (iI (0)), .int (iI (0)), .int (iI (0)), .int (iI (0)), .int (iI (0)), .int (iI (0)), .int (iI (0)), .int (iI (0)), .int (iI (0)), .int (iI (0))]))]])) (va_A (bl [[(a, .inr (2, [.int (iI (k 0)), .int (iI (k 1)), .int (iI (k 2)), .int (iI (k 3)), .int (iI (k 4)), .int (iI (k 5)), .int (iI (k 6)), .int (iI (k 7)), .int (iI (k 8)), .int (iI (k 9)), .int (iI (k 10)), .int (iI (k 11)), .int (iI (k 12))]))]]) sz)) 0 0 (va_A (bl [[(a, .inr (2, [.int (iI (k 0)), .int (iI (k 1)), .int (iI (k 2)), .int (iI (k 3)), .int (iI (k 4)), .int (iI (k 5)), .int (iI (k 6)), .int (iI (k 7)), .int (iI (k 8)), .int (iI (k 9)), .int (iI (k 10)), .int (iI (k 11)), .int (iI (k 12))]))]]) sz) := by
  refine bodyW (by decide) (Nat.le_of_ble_eq_true rfl) (fun p e s m below meth c ls B hr hlk hin hsz Y hl => ?_)
  have hl : lv_has ls 1 [(0, .ref a)] := hl
  have B : CallFix p m c cX0_clear 1 s _ wALL RX0 := B
  generalize va_A (bl [[(a, .inr (2, [.int (iI (k 0)), .int (iI (k 1)), .int (iI (k 2)), .int (iI (k 3)), .int (iI (k 4)), .int (iI (k 5)), .int (iI (k 6)), .int (iI (k 7)), .int (iI (k 8)), .int (iI (k 9)), .int (iI (k 10)), .int (iI (k 11)), .int (iI (k 12))]))]]) sz = A at Y ⊢
  refine lv_aload_n B.1 B.2.1 dX0_clear_0 rfl (lv_at hl 0 rfl) ?_
  refine lv_iconst (v := (iI (0))) B.1 B.2.1 dX0_clear_1 (by decide) ?_
  refine pf_X0_7 (B' := [[(a, .inr (2, [.int (iI (0)), .int (iI (k 1)), .int (iI (k 2)), .int (iI (k 3)), .int (iI (k 4)), .int (iI (k 5)), .int (iI (k 6)), .int (iI (k 7)), .int (iI (k 8)), .int (iI (k 9)), .int (iI (k 10)), .int (iI (k 11)), .int (iI (k 12))]))]]) B Y 0 rfl (Nat.le_of_ble_eq_true rfl) rfl dX0_clear_2 (fun H locs Y => ?_)
  refine lv_aload_n B.1 B.2.1 dX0_clear_5 rfl (lv_at hl 0 rfl) ?_
  refine lv_iconst (v := (iI (0))) B.1 B.2.1 dX0_clear_6 (by decide) ?_
  refine pf_X0_13 (B' := [[(a, .inr (2, [.int (iI (0)), .int (iI (0)), .int (iI (k 2)), .int (iI (k 3)), .int (iI (k 4)), .int (iI (k 5)), .int (iI (k 6)), .int (iI (k 7)), .int (iI (k 8)), .int (iI (k 9)), .int (iI (k 10)), .int (iI (k 11)), .int (iI (k 12))]))]]) B Y 0 rfl (Nat.le_of_ble_eq_true rfl) rfl dX0_clear_7 (fun H locs Y => ?_)
  refine lv_aload_n B.1 B.2.1 dX0_clear_10 rfl (lv_at hl 0 rfl) ?_
  refine lv_iconst (v := (iI (0))) B.1 B.2.1 dX0_clear_11 (by decide) ?_
  refine pf_X0_16 (B' := [[(a, .inr (2, [.int (iI (0)), .int (iI (0)), .int (iI (0)), .int (iI (k 3)), .int (iI (k 4)), .int (iI (k 5)), .int (iI (k 6)), .int (iI (k 7)), .int (iI (k 8)), .int (iI (k 9)), .int (iI (k 10)), .int (iI (k 11)), .int (iI (k 12))]))]]) B Y 0 rfl (Nat.le_of_ble_eq_true rfl) rfl dX0_clear_12 (fun H locs Y => ?_)
  refine lv_aload_n B.1 B.2.1 dX0_clear_15 rfl (lv_at hl 0 rfl) ?_
  refine lv_iconst (v := (iI (0))) B.1 B.2.1 dX0_clear_16 (by decide) ?_
  refine pf_X0_19 (B' := [[(a, .inr (2, [.int (iI (0)), .int (iI (0)), .int (iI (0)), .int (iI (0)), .int (iI (k 4)), .int (iI (k 5)), .int (iI (k 6)), .int (iI (k 7)), .int (iI (k 8)), .int (iI (k 9)), .int (iI (k 10)), .int (iI (k 11)), .int (iI (k 12))]))]]) B Y 0 rfl (Nat.le_of_ble_eq_true rfl) rfl dX0_clear_17 (fun H locs Y => ?_)
  refine lv_aload_n B.1 B.2.1 dX0_clear_20 rfl (lv_at hl 0 rfl) ?_
  refine lv_iconst (v := (iI (0))) B.1 B.2.1 dX0_clear_21 (by decide) ?_
  refine pf_X0_22 (B' := [[(a, .inr (2, [.int (iI (0)), .int (iI (0)), .int (iI (0)), .int (iI (0)), .int (iI (0)), .int (iI (k 5)), .int (iI (k 6)), .int (iI (k 7)), .int (iI (k 8)), .int (iI (k 9)), .int (iI (k 10)), .int (iI (k 11)), .int (iI (k 12))]))]]) B Y 0 rfl (Nat.le_of_ble_eq_true rfl) rfl dX0_clear_22 (fun H locs Y => ?_)
  refine lv_aload_n B.1 B.2.1 dX0_clear_25 rfl (lv_at hl 0 rfl) ?_
  refine lv_iconst (v := (iI (0))) B.1 B.2.1 dX0_clear_26 (by decide) ?_
  refine pf_X0_25 (B' := [[(a, .inr (2, [.int (iI (0)), .int (iI (0)), .int (iI (0)), .int (iI (0)), .int (iI (0)), .int (iI (0)), .int (iI (k 6)), .int (iI (k 7)), .int (iI (k 8)), .int (iI (k 9)), .int (iI (k 10)), .int (iI (k 11)), .int (iI (k 12))]))]]) B Y 0 rfl (Nat.le_of_ble_eq_true rfl) rfl dX0_clear_27 (fun H locs Y => ?_)
  refine lv_aload_n B.1 B.2.1 dX0_clear_30 rfl (lv_at hl 0 rfl) ?_
  refine lv_iconst (v := (iI (0))) B.1 B.2.1 dX0_clear_31 (by decide) ?_
  refine pf_X0_28 (B' := [[(a, .inr (2, [.int (iI (0)), .int (iI (0)), .int (iI (0)), .int (iI (0)), .int (iI (0)), .int (iI (0)), .int (iI (0)), .int (iI (k 7)), .int (iI (k 8)), .int (iI (k 9)), .int (iI (k 10)), .int (iI (k 11)), .int (iI (k 12))]))]]) B Y 0 rfl (Nat.le_of_ble_eq_true rfl) rfl dX0_clear_32 (fun H locs Y => ?_)
  refine lv_aload_n B.1 B.2.1 dX0_clear_35 rfl (lv_at hl 0 rfl) ?_
  refine lv_iconst (v := (iI (0))) B.1 B.2.1 dX0_clear_36 (by decide) ?_
  refine pf_X0_31 (B' := [[(a, .inr (2, [.int (iI (0)), .int (iI (0)), .int (iI (0)), .int (iI (0)), .int (iI (0)), .int (iI (0)), .int (iI (0)), .int (iI (0)), .int (iI (k 8)), .int (iI (k 9)), .int (iI (k 10)), .int (iI (k 11)), .int (iI (k 12))]))]]) B Y 0 rfl (Nat.le_of_ble_eq_true rfl) rfl dX0_clear_37 (fun H locs Y => ?_)
  refine lv_aload_n B.1 B.2.1 dX0_clear_40 rfl (lv_at hl 0 rfl) ?_
  refine lv_iconst (v := (iI (0))) B.1 B.2.1 dX0_clear_41 (by decide) ?_
  refine pf_X0_34 (B' := [[(a, .inr (2, [.int (iI (0)), .int (iI (0)), .int (iI (0)), .int (iI (0)), .int (iI (0)), .int (iI (0)), .int (iI (0)), .int (iI (0)), .int (iI (0)), .int (iI (k 9)), .int (iI (k 10)), .int (iI (k 11)), .int (iI (k 12))]))]]) B Y 0 rfl (Nat.le_of_ble_eq_true rfl) rfl dX0_clear_42 (fun H locs Y => ?_)
  refine lv_aload_n B.1 B.2.1 dX0_clear_45 rfl (lv_at hl 0 rfl) ?_
  refine lv_iconst (v := (iI (0))) B.1 B.2.1 dX0_clear_46 (by decide) ?_
  refine pf_X0_37 (B' := [[(a, .inr (2, [.int (iI (0)), .int (iI (0)), .int (iI (0)), .int (iI (0)), .int (iI (0)), .int (iI (0)), .int (iI (0)), .int (iI (0)), .int (iI (0)), .int (iI (0)), .int (iI (k 10)), .int (iI (k 11)), .int (iI (k 12))]))]]) B Y 0 rfl (Nat.le_of_ble_eq_true rfl) rfl dX0_clear_47 (fun H locs Y => ?_)
  refine lv_aload_n B.1 B.2.1 dX0_clear_50 rfl (lv_at hl 0 rfl) ?_
  refine lv_iconst (v := (iI (0))) B.1 B.2.1 dX0_clear_51 (by decide) ?_
  refine pf_X0_40 (B' := [[(a, .inr (2, [.int (iI (0)), .int (iI (0)), .int (iI (0)), .int (iI (0)), .int (iI (0)), .int (iI (0)), .int (iI (0)), .int (iI (0)), .int (iI (0)), .int (iI (0)), .int (iI (0)), .int (iI (k 11)), .int (iI (k 12))]))]]) B Y 0 rfl (Nat.le_of_ble_eq_true rfl) rfl dX0_clear_52 (fun H locs Y => ?_)
  refine lv_aload_n B.1 B.2.1 dX0_clear_55 rfl (lv_at hl 0 rfl) ?_
  refine lv_iconst (v := (iI (0))) B.1 B.2.1 dX0_clear_56 (by decide) ?_
  refine pf_X0_43 (B' := [[(a, .inr (2, [.int (iI (0)), .int (iI (0)), .int (iI (0)), .int (iI (0)), .int (iI (0)), .int (iI (0)), .int (iI (0)), .int (iI (0)), .int (iI (0)), .int (iI (0)), .int (iI (0)), .int (iI (0)), .int (iI (k 12))]))]]) B Y 0 rfl (Nat.le_of_ble_eq_true rfl) rfl dX0_clear_57 (fun H locs Y => ?_)
  refine lv_aload_n B.1 B.2.1 dX0_clear_60 rfl (lv_at hl 0 rfl) ?_
  refine lv_iconst (v := (iI (0))) B.1 B.2.1 dX0_clear_61 (by decide) ?_
  refine pf_X0_46 (B' := [[(a, .inr (2, [.int (iI (0)), .int (iI (0)), .int (iI (0)), .int (iI (0)), .int (iI (0)), .int (iI (0)), .int (iI (0)), .int (iI (0)), .int (iI (0)), .int (iI (0)), .int (iI (0)), .int (iI (0)), .int (iI (0))]))]]) B Y 0 rfl (Nat.le_of_ble_eq_true rfl) rfl dX0_clear_62 (fun H locs Y => ?_)
  exact eV B hr hlk Y () trivial [0] (by decide) rfl (Nat.le_of_ble_eq_true rfl) (Nat.le_of_ble_eq_true rfl) dX0_clear_65

set_option maxHeartbeats 4000000 in
set_option maxRecDepth 100000 in
theorem k_X0_numberOf (l : Launch) (D : va_G) (τ : Nat → ClassId) (sz : Nat) (a n : Nat) (k : Nat → Int) (hn : n ≤ 11) : Met l yX0_numberOf (Cond.code yX0_numberOf cX0_numberOf 2 (some .int) :: wALL) { frames := 0, cells := 0, slots := 0, locals := 0 } (Pw D τ (bl [[(a, .inr (2, [.int (iI (k 0)), .int (iI (k 1)), .int (iI (k 2)), .int (iI (k 3)), .int (iI (k 4)), .int (iI (k 5)), .int (iI (k 6)), .int (iI (k 7)), .int (iI (k 8)), .int (iI (k 9)), .int (iI (k 10)), .int (iI (k 11)), .int (iI (k 12))]))]]) sz [.ref a, .int (iI ((n : Nat) : Int))]) (va_Qi (fun (r : Int32) (_ : Unit) => r = iI (k n)) (Bb D (va_A (bl [[(a, .inr (2, [.int (iI (k 0)), .int (iI (k 1)), .int (iI (k 2)), .int (iI (k 3)), .int (iI (k 4)), .int (iI (k 5)), .int (iI (k 6)), .int (iI (k 7)), .int (iI (k 8)), .int (iI (k 9)), .int (iI (k 10)), .int (iI (k 11)), .int (iI (k 12))]))]]) sz) (fun (_ : Unit) => [[(a, .inr (2, [.int (iI (k 0)), .int (iI (k 1)), .int (iI (k 2)), .int (iI (k 3)), .int (iI (k 4)), .int (iI (k 5)), .int (iI (k 6)), .int (iI (k 7)), .int (iI (k 8)), .int (iI (k 9)), .int (iI (k 10)), .int (iI (k 11)), .int (iI (k 12))]))]])) (va_A (bl [[(a, .inr (2, [.int (iI (k 0)), .int (iI (k 1)), .int (iI (k 2)), .int (iI (k 3)), .int (iI (k 4)), .int (iI (k 5)), .int (iI (k 6)), .int (iI (k 7)), .int (iI (k 8)), .int (iI (k 9)), .int (iI (k 10)), .int (iI (k 11)), .int (iI (k 12))]))]]) sz)) 0 0 (va_A (bl [[(a, .inr (2, [.int (iI (k 0)), .int (iI (k 1)), .int (iI (k 2)), .int (iI (k 3)), .int (iI (k 4)), .int (iI (k 5)), .int (iI (k 6)), .int (iI (k 7)), .int (iI (k 8)), .int (iI (k 9)), .int (iI (k 10)), .int (iI (k 11)), .int (iI (k 12))]))]]) sz) := by
  refine bodyW (by decide) (Nat.le_of_ble_eq_true rfl) (fun p e s m below meth c ls B hr hlk hin hsz Y hl => ?_)
  have hl : lv_has ls 2 [(0, .ref a), (1, .int (iI ((n : Nat) : Int)))] := hl
  have B : CallFix p m c cX0_numberOf 2 s _ wALL RX0 := B
  generalize va_A (bl [[(a, .inr (2, [.int (iI (k 0)), .int (iI (k 1)), .int (iI (k 2)), .int (iI (k 3)), .int (iI (k 4)), .int (iI (k 5)), .int (iI (k 6)), .int (iI (k 7)), .int (iI (k 8)), .int (iI (k 9)), .int (iI (k 10)), .int (iI (k 11)), .int (iI (k 12))]))]]) sz = A at Y ⊢
  rcases (show n = 0 ∨ n = 1 ∨ n = 2 ∨ n = 3 ∨ n = 4 ∨ n = 5 ∨ n = 6 ∨ n = 7 ∨ n = 8 ∨ n = 9 ∨ n = 10 ∨ n = 11 by omega) with rfl | rfl | rfl | rfl | rfl | rfl | rfl | rfl | rfl | rfl | rfl | rfl
  · have hl : lv_has ls 2 [(0, .ref a), (1, .int (iI (0)))] := hl
    refine lv_iload_n B.1 B.2.1 dX0_numberOf_0 rfl (lv_at hl 1 rfl) ?_
    refine lv_tableIn (off := 59) (tgt := 60) B.1 B.2.1 dX0_numberOf_1 (by decide) (by decide) rfl (by decide) ?_
    refine lv_aload_n B.1 B.2.1 dX0_numberOf_60 rfl (lv_at hl 0 rfl) ?_
    refine gf_X0_7 B Y 0 rfl rfl dX0_numberOf_61 ?_
    exact eI B hr hlk Y () rfl [0] (by decide) rfl (Nat.le_of_ble_eq_true rfl) (Nat.le_of_ble_eq_true rfl) dX0_numberOf_64
  · have hl : lv_has ls 2 [(0, .ref a), (1, .int (iI (1)))] := hl
    refine lv_iload_n B.1 B.2.1 dX0_numberOf_0 rfl (lv_at hl 1 rfl) ?_
    refine lv_tableIn (off := 64) (tgt := 65) B.1 B.2.1 dX0_numberOf_1 (by decide) (by decide) rfl (by decide) ?_
    refine lv_aload_n B.1 B.2.1 dX0_numberOf_65 rfl (lv_at hl 0 rfl) ?_
    refine gf_X0_13 B Y 0 rfl rfl dX0_numberOf_66 ?_
    exact eI B hr hlk Y () rfl [0] (by decide) rfl (Nat.le_of_ble_eq_true rfl) (Nat.le_of_ble_eq_true rfl) dX0_numberOf_69
  · have hl : lv_has ls 2 [(0, .ref a), (1, .int (iI (2)))] := hl
    refine lv_iload_n B.1 B.2.1 dX0_numberOf_0 rfl (lv_at hl 1 rfl) ?_
    refine lv_tableIn (off := 69) (tgt := 70) B.1 B.2.1 dX0_numberOf_1 (by decide) (by decide) rfl (by decide) ?_
    refine lv_aload_n B.1 B.2.1 dX0_numberOf_70 rfl (lv_at hl 0 rfl) ?_
    refine gf_X0_16 B Y 0 rfl rfl dX0_numberOf_71 ?_
    exact eI B hr hlk Y () rfl [0] (by decide) rfl (Nat.le_of_ble_eq_true rfl) (Nat.le_of_ble_eq_true rfl) dX0_numberOf_74
  · have hl : lv_has ls 2 [(0, .ref a), (1, .int (iI (3)))] := hl
    refine lv_iload_n B.1 B.2.1 dX0_numberOf_0 rfl (lv_at hl 1 rfl) ?_
    refine lv_tableIn (off := 74) (tgt := 75) B.1 B.2.1 dX0_numberOf_1 (by decide) (by decide) rfl (by decide) ?_
    refine lv_aload_n B.1 B.2.1 dX0_numberOf_75 rfl (lv_at hl 0 rfl) ?_
    refine gf_X0_19 B Y 0 rfl rfl dX0_numberOf_76 ?_
    exact eI B hr hlk Y () rfl [0] (by decide) rfl (Nat.le_of_ble_eq_true rfl) (Nat.le_of_ble_eq_true rfl) dX0_numberOf_79
  · have hl : lv_has ls 2 [(0, .ref a), (1, .int (iI (4)))] := hl
    refine lv_iload_n B.1 B.2.1 dX0_numberOf_0 rfl (lv_at hl 1 rfl) ?_
    refine lv_tableIn (off := 79) (tgt := 80) B.1 B.2.1 dX0_numberOf_1 (by decide) (by decide) rfl (by decide) ?_
    refine lv_aload_n B.1 B.2.1 dX0_numberOf_80 rfl (lv_at hl 0 rfl) ?_
    refine gf_X0_22 B Y 0 rfl rfl dX0_numberOf_81 ?_
    exact eI B hr hlk Y () rfl [0] (by decide) rfl (Nat.le_of_ble_eq_true rfl) (Nat.le_of_ble_eq_true rfl) dX0_numberOf_84
  · have hl : lv_has ls 2 [(0, .ref a), (1, .int (iI (5)))] := hl
    refine lv_iload_n B.1 B.2.1 dX0_numberOf_0 rfl (lv_at hl 1 rfl) ?_
    refine lv_tableIn (off := 84) (tgt := 85) B.1 B.2.1 dX0_numberOf_1 (by decide) (by decide) rfl (by decide) ?_
    refine lv_aload_n B.1 B.2.1 dX0_numberOf_85 rfl (lv_at hl 0 rfl) ?_
    refine gf_X0_25 B Y 0 rfl rfl dX0_numberOf_86 ?_
    exact eI B hr hlk Y () rfl [0] (by decide) rfl (Nat.le_of_ble_eq_true rfl) (Nat.le_of_ble_eq_true rfl) dX0_numberOf_89
  · have hl : lv_has ls 2 [(0, .ref a), (1, .int (iI (6)))] := hl
    refine lv_iload_n B.1 B.2.1 dX0_numberOf_0 rfl (lv_at hl 1 rfl) ?_
    refine lv_tableIn (off := 89) (tgt := 90) B.1 B.2.1 dX0_numberOf_1 (by decide) (by decide) rfl (by decide) ?_
    refine lv_aload_n B.1 B.2.1 dX0_numberOf_90 rfl (lv_at hl 0 rfl) ?_
    refine gf_X0_28 B Y 0 rfl rfl dX0_numberOf_91 ?_
    exact eI B hr hlk Y () rfl [0] (by decide) rfl (Nat.le_of_ble_eq_true rfl) (Nat.le_of_ble_eq_true rfl) dX0_numberOf_94
  · have hl : lv_has ls 2 [(0, .ref a), (1, .int (iI (7)))] := hl
    refine lv_iload_n B.1 B.2.1 dX0_numberOf_0 rfl (lv_at hl 1 rfl) ?_
    refine lv_tableIn (off := 94) (tgt := 95) B.1 B.2.1 dX0_numberOf_1 (by decide) (by decide) rfl (by decide) ?_
    refine lv_aload_n B.1 B.2.1 dX0_numberOf_95 rfl (lv_at hl 0 rfl) ?_
    refine gf_X0_31 B Y 0 rfl rfl dX0_numberOf_96 ?_
    exact eI B hr hlk Y () rfl [0] (by decide) rfl (Nat.le_of_ble_eq_true rfl) (Nat.le_of_ble_eq_true rfl) dX0_numberOf_99
  · have hl : lv_has ls 2 [(0, .ref a), (1, .int (iI (8)))] := hl
    refine lv_iload_n B.1 B.2.1 dX0_numberOf_0 rfl (lv_at hl 1 rfl) ?_
    refine lv_tableIn (off := 99) (tgt := 100) B.1 B.2.1 dX0_numberOf_1 (by decide) (by decide) rfl (by decide) ?_
    refine lv_aload_n B.1 B.2.1 dX0_numberOf_100 rfl (lv_at hl 0 rfl) ?_
    refine gf_X0_34 B Y 0 rfl rfl dX0_numberOf_101 ?_
    exact eI B hr hlk Y () rfl [0] (by decide) rfl (Nat.le_of_ble_eq_true rfl) (Nat.le_of_ble_eq_true rfl) dX0_numberOf_104
  · have hl : lv_has ls 2 [(0, .ref a), (1, .int (iI (9)))] := hl
    refine lv_iload_n B.1 B.2.1 dX0_numberOf_0 rfl (lv_at hl 1 rfl) ?_
    refine lv_tableIn (off := 104) (tgt := 105) B.1 B.2.1 dX0_numberOf_1 (by decide) (by decide) rfl (by decide) ?_
    refine lv_aload_n B.1 B.2.1 dX0_numberOf_105 rfl (lv_at hl 0 rfl) ?_
    refine gf_X0_37 B Y 0 rfl rfl dX0_numberOf_106 ?_
    exact eI B hr hlk Y () rfl [0] (by decide) rfl (Nat.le_of_ble_eq_true rfl) (Nat.le_of_ble_eq_true rfl) dX0_numberOf_109
  · have hl : lv_has ls 2 [(0, .ref a), (1, .int (iI (10)))] := hl
    refine lv_iload_n B.1 B.2.1 dX0_numberOf_0 rfl (lv_at hl 1 rfl) ?_
    refine lv_tableIn (off := 109) (tgt := 110) B.1 B.2.1 dX0_numberOf_1 (by decide) (by decide) rfl (by decide) ?_
    refine lv_aload_n B.1 B.2.1 dX0_numberOf_110 rfl (lv_at hl 0 rfl) ?_
    refine gf_X0_40 B Y 0 rfl rfl dX0_numberOf_111 ?_
    exact eI B hr hlk Y () rfl [0] (by decide) rfl (Nat.le_of_ble_eq_true rfl) (Nat.le_of_ble_eq_true rfl) dX0_numberOf_114
  · have hl : lv_has ls 2 [(0, .ref a), (1, .int (iI (11)))] := hl
    refine lv_iload_n B.1 B.2.1 dX0_numberOf_0 rfl (lv_at hl 1 rfl) ?_
    refine lv_tableOut (tgt := 115) B.1 B.2.1 dX0_numberOf_1 (by decide) (by decide) ?_
    refine lv_aload_n B.1 B.2.1 dX0_numberOf_115 rfl (lv_at hl 0 rfl) ?_
    refine gf_X0_43 B Y 0 rfl rfl dX0_numberOf_116 ?_
    exact eI B hr hlk Y () rfl [0] (by decide) rfl (Nat.le_of_ble_eq_true rfl) (Nat.le_of_ble_eq_true rfl) dX0_numberOf_119

