def dgL (v : Nat) : List Int := if v < 10 then [((48 + v % 10 : Nat) : Int)] else if v < 100 then [((48 + v / 10 : Nat) : Int), ((48 + v % 10 : Nat) : Int)] else if v < 1000 then [((48 + v / 100 % 10 : Nat) : Int), ((48 + v % 100 / 10 : Nat) : Int), ((48 + v % 100 % 10 : Nat) : Int)] else [((48 + v / 100 / 10 : Nat) : Int), ((48 + v / 100 % 10 : Nat) : Int), ((48 + v % 100 / 10 : Nat) : Int), ((48 + v % 100 % 10 : Nat) : Int)]
theorem dgL_1 {v : Nat} (h : v < 10) : dgL v = [((48 + v % 10 : Nat) : Int)] := if_pos h
theorem dgL_2 {v : Nat} (h0 : ¬ v < 10) (h : v < 100) : dgL v = [((48 + v / 10 : Nat) : Int), ((48 + v % 10 : Nat) : Int)] := (if_neg h0).trans (if_pos h)
theorem dgL_3 {v : Nat} (h0 : ¬ v < 100) (h : v < 1000) : dgL v = [((48 + v / 100 % 10 : Nat) : Int), ((48 + v % 100 / 10 : Nat) : Int), ((48 + v % 100 % 10 : Nat) : Int)] := (if_neg (by omega)).trans ((if_neg h0).trans (if_pos h))
theorem dgL_4 {v : Nat} (h0 : ¬ v < 1000) : dgL v = [((48 + v / 100 / 10 : Nat) : Int), ((48 + v / 100 % 10 : Nat) : Int), ((48 + v % 100 / 10 : Nat) : Int), ((48 + v % 100 % 10 : Nat) : Int)] := (if_neg (by omega)).trans ((if_neg (by omega)).trans (if_neg h0))
theorem dgL_le (v : Nat) : 1 ≤ (dgL v).length ∧ (dgL v).length ≤ 4 := by
  unfold dgL
  (repeat' split) <;> exact ⟨by simp, by simp⟩
theorem dgL_in {v : Nat} (h : v < 10000) : ∀ x ∈ dgL v, (48 : Int) ≤ x ∧ x ≤ 57 := by
  intro x hx
  by_cases h1 : v < 10
  · rw [dgL_1 h1] at hx; simp at hx; omega
  · by_cases h2 : v < 100
    · rw [dgL_2 h1 h2] at hx; simp at hx; omega
    · by_cases h3 : v < 1000
      · rw [dgL_3 h2 h3] at hx; simp at hx; omega
      · rw [dgL_4 h3] at hx; simp at hx; omega
theorem dgL_dec {v : Nat} (h : v < 10000) : decL (dgL v) = (v : Int) := by
  by_cases h1 : v < 10
  · rw [dgL_1 h1]; show (0 : Int) * 10 + (((48 + v % 10 : Nat) : Int) - 48) = v; omega
  · by_cases h2 : v < 100
    · rw [dgL_2 h1 h2]; show ((0 : Int) * 10 + (((48 + v / 10 : Nat) : Int) - 48)) * 10 + (((48 + v % 10 : Nat) : Int) - 48) = v; omega
    · by_cases h3 : v < 1000
      · rw [dgL_3 h2 h3]; show (((0 : Int) * 10 + (((48 + v / 100 % 10 : Nat) : Int) - 48)) * 10 + (((48 + v % 100 / 10 : Nat) : Int) - 48)) * 10 + (((48 + v % 100 % 10 : Nat) : Int) - 48) = v; omega
      · rw [dgL_4 h3]; show ((((0 : Int) * 10 + (((48 + v / 100 / 10 : Nat) : Int) - 48)) * 10 + (((48 + v / 100 % 10 : Nat) : Int) - 48)) * 10 + (((48 + v % 100 / 10 : Nat) : Int) - 48)) * 10 + (((48 + v % 100 % 10 : Nat) : Int) - 48) = v; omega
/-- the digits of a number, as numbers that a statement may have -/
theorem dgL_NOk {v : Nat} {lo hi : Int} (h : v < 10000) (h1 : lo ≤ v) (h2 : (v : Int) ≤ hi) : NOk (dgL v) v lo hi := ⟨dgL_le v, dgL_in h, dgL_dec h, h1, h2⟩
theorem iI_nd {n : Nat} (h : n < 10000) : iI (-((n : Nat) : Int)) / iI 100 = iI (-((n / 100 : Nat) : Int)) := by
  apply Int32.toInt_inj.mp
  rw [Int32.toInt_div, iI_toInt (by omega) (by omega), iI_toInt (by decide) (by decide), iI_toInt (by omega) (by omega)]
  rw [Int.neg_tdiv, Int.tdiv_eq_ediv_of_nonneg (by omega)]
  rw [Int.bmod_def]
  split <;> omega
theorem cpy_1 (g fk : Nat → Int32) (d : Nat) : upd g d (fk 0) = va_cpy fk g 0 d 1 := by
  funext j
  unfold va_cpy upd
  by_cases q : j = d
  · subst q; rw [if_pos rfl, if_pos (by omega), show 0 + (j - j) = 0 by omega]
  · rw [if_neg q, if_neg (by omega)]
theorem cpy_s (g fk : Nat → Int32) (d k : Nat) : va_cpy fk (upd g (d + k) (fk k)) 0 d k = va_cpy fk g 0 d (k + 1) := by
  funext j
  unfold va_cpy upd
  by_cases q : d ≤ j ∧ j < d + k
  · rw [if_pos q, if_pos (by omega)]
  · rw [if_neg q]
    by_cases r : j = d + k
    · subst r; rw [if_pos rfl, if_pos (by omega), show 0 + (d + k - d) = k by omega]
    · rw [if_neg r, if_neg (by omega)]
set_option maxHeartbeats 4000000 in
set_option maxRecDepth 100000 in
theorem k6_size (l : Launch) (D : va_G) (τ : Nat → ClassId) (sz : Nat) (v : Nat) (hv : v < 10000) : Met l yJ6_stringSize_0f7a4 (Cond.code yJ6_stringSize_0f7a4 cJ6_stringSize_0f7a4 4 (some .int) :: wALL) { frames := 0, cells := 0, slots := 0, locals := 0 } (Pw D τ (bl []) sz [.int (iI ((v : Nat) : Int))]) (va_Qi (fun (r : Int32) (_ : Unit) => r = iI (((dgL v).length : Nat) : Int)) (Bb D (va_A (bl []) sz) (fun (_ : Unit) => [])) (va_A (bl []) sz)) 0 0 (va_A (bl []) sz) := by
  refine bodyWF (by decide +kernel) (Nat.le_of_ble_eq_true rfl) (fun p e s m below meth c ls B hr hlk hin hsz Y hl => ?_)
  have hl : lv_has ls 4 [(0, .int (iI ((v : Nat) : Int)))] := hl
  have B : CallFix p m c cJ6_stringSize_0f7a4 4 s _ wALL RJ6 := B
  generalize va_A (bl []) sz = A at Y ⊢
  refine lv_iconst (v := (iI (1))) B.1 B.2.1 dJ6_stringSize_0f7a4_0 (by decide) ?_
  refine lv_istore_n (lv' := [(1, .int (iI (1))), (0, .int (iI ((v : Nat) : Int)))]) B.1 B.2.1 dJ6_stringSize_0f7a4_1 rfl hl (by decide) rfl (fun ls hl => ?_)
  refine lv_iload_n B.1 B.2.1 dJ6_stringSize_0f7a4_2 rfl (lv_at hl 1 rfl) ?_
  refine lv_if_lt (tgt := 11) B.1 B.2.1 dJ6_stringSize_0f7a4_3 (by decide) (fun h => absurd h (mt (iI_lt0 (a := ((v : Nat) : Int)) (by omega) (by omega)).mp (by omega))) (fun _ => ?_)
  refine lv_iconst (v := (iI (0))) B.1 B.2.1 dJ6_stringSize_0f7a4_6 (by decide) ?_
  refine lv_istore_n (lv' := [(1, .int (iI (0))), (0, .int (iI ((v : Nat) : Int)))]) B.1 B.2.1 dJ6_stringSize_0f7a4_7 rfl hl (by decide) rfl (fun ls hl => ?_)
  refine lv_iload_n B.1 B.2.1 dJ6_stringSize_0f7a4_8 rfl (lv_at hl 1 rfl) ?_
  refine lv_ineg B.1 B.2.1 dJ6_stringSize_0f7a4_9 ?_
  refine lv_cv (v := (iI (-((v : Nat) : Int)))) (iI_neg _) ?_
  refine lv_istore_n (lv' := [(0, .int (iI (-((v : Nat) : Int)))), (1, .int (iI (0)))]) B.1 B.2.1 dJ6_stringSize_0f7a4_10 rfl hl (by decide) rfl (fun ls hl => ?_)
  refine lv_bipush (v := (iI (-10))) B.1 B.2.1 dJ6_stringSize_0f7a4_11 (by decide) ?_
  refine lv_istore_n (lv' := [(2, .int (iI (-10))), (0, .int (iI (-((v : Nat) : Int)))), (1, .int (iI (0)))]) B.1 B.2.1 dJ6_stringSize_0f7a4_13 rfl hl (by decide) rfl (fun ls hl => ?_)
  refine lv_iconst (v := (iI (1))) B.1 B.2.1 dJ6_stringSize_0f7a4_14 (by decide) ?_
  refine lv_istore_n (lv' := [(3, .int (iI (1))), (2, .int (iI (-10))), (0, .int (iI (-((v : Nat) : Int)))), (1, .int (iI (0)))]) B.1 B.2.1 dJ6_stringSize_0f7a4_15 rfl hl (by decide) rfl (fun ls hl => ?_)
  refine lv_iload_n B.1 B.2.1 dJ6_stringSize_0f7a4_16 rfl (lv_at hl 0 rfl) ?_
  refine lv_bipush (v := (iI (10))) B.1 B.2.1 dJ6_stringSize_0f7a4_17 (by decide) ?_
  refine lv_icmp_ge (tgt := 42) B.1 B.2.1 dJ6_stringSize_0f7a4_19 (by decide) (fun h => absurd h (by decide)) (fun _ => ?_)
  refine lv_iload_n B.1 B.2.1 dJ6_stringSize_0f7a4_22 rfl (lv_at hl 2 rfl) ?_
  refine lv_iload_n B.1 B.2.1 dJ6_stringSize_0f7a4_23 rfl (lv_at hl 1 rfl) ?_
  refine lv_icmp_le (tgt := 31) B.1 B.2.1 dJ6_stringSize_0f7a4_24 (by decide) (fun c1 => ?_) (fun c1 => ?_)
  · have c1 := (iI_le (a := -((v : Nat) : Int)) (b := (-10)) (by omega) (by omega) (by omega) (by omega)).mp c1
    refine lv_bipush (v := (iI (10))) B.1 B.2.1 dJ6_stringSize_0f7a4_31 (by decide) ?_
    refine lv_iload_n B.1 B.2.1 dJ6_stringSize_0f7a4_33 rfl (lv_at hl 1 rfl) ?_
    refine lv_imul B.1 B.2.1 dJ6_stringSize_0f7a4_34 ?_
    refine lv_cv (v := (iI (-100))) (by decide) ?_
    refine lv_istore_n (lv' := [(2, .int (iI (-100))), (3, .int (iI (1))), (0, .int (iI (-((v : Nat) : Int)))), (1, .int (iI (0)))]) B.1 B.2.1 dJ6_stringSize_0f7a4_35 rfl hl (by decide) rfl (fun ls hl => ?_)
    refine lv_iinc (v := (iI (2))) (lv' := [(3, .int (iI (2))), (2, .int (iI (-100))), (0, .int (iI (-((v : Nat) : Int)))), (1, .int (iI (0)))]) B.1 B.2.1 dJ6_stringSize_0f7a4_36 hl (k := 1) rfl (by decide) (by decide) rfl (fun ls hl => ?_)
    refine lv_goto (tgt := 16) B.1 B.2.1 dJ6_stringSize_0f7a4_39 (by decide) ?_
    refine lv_iload_n B.1 B.2.1 dJ6_stringSize_0f7a4_16 rfl (lv_at hl 0 rfl) ?_
    refine lv_bipush (v := (iI (10))) B.1 B.2.1 dJ6_stringSize_0f7a4_17 (by decide) ?_
    refine lv_icmp_ge (tgt := 42) B.1 B.2.1 dJ6_stringSize_0f7a4_19 (by decide) (fun h => absurd h (by decide)) (fun _ => ?_)
    refine lv_iload_n B.1 B.2.1 dJ6_stringSize_0f7a4_22 rfl (lv_at hl 2 rfl) ?_
    refine lv_iload_n B.1 B.2.1 dJ6_stringSize_0f7a4_23 rfl (lv_at hl 1 rfl) ?_
    refine lv_icmp_le (tgt := 31) B.1 B.2.1 dJ6_stringSize_0f7a4_24 (by decide) (fun c2 => ?_) (fun c2 => ?_)
    · have c2 := (iI_le (a := -((v : Nat) : Int)) (b := (-100)) (by omega) (by omega) (by omega) (by omega)).mp c2
      refine lv_bipush (v := (iI (10))) B.1 B.2.1 dJ6_stringSize_0f7a4_31 (by decide) ?_
      refine lv_iload_n B.1 B.2.1 dJ6_stringSize_0f7a4_33 rfl (lv_at hl 1 rfl) ?_
      refine lv_imul B.1 B.2.1 dJ6_stringSize_0f7a4_34 ?_
      refine lv_cv (v := (iI (-1000))) (by decide) ?_
      refine lv_istore_n (lv' := [(2, .int (iI (-1000))), (3, .int (iI (2))), (0, .int (iI (-((v : Nat) : Int)))), (1, .int (iI (0)))]) B.1 B.2.1 dJ6_stringSize_0f7a4_35 rfl hl (by decide) rfl (fun ls hl => ?_)
      refine lv_iinc (v := (iI (3))) (lv' := [(3, .int (iI (3))), (2, .int (iI (-1000))), (0, .int (iI (-((v : Nat) : Int)))), (1, .int (iI (0)))]) B.1 B.2.1 dJ6_stringSize_0f7a4_36 hl (k := 1) rfl (by decide) (by decide) rfl (fun ls hl => ?_)
      refine lv_goto (tgt := 16) B.1 B.2.1 dJ6_stringSize_0f7a4_39 (by decide) ?_
      refine lv_iload_n B.1 B.2.1 dJ6_stringSize_0f7a4_16 rfl (lv_at hl 0 rfl) ?_
      refine lv_bipush (v := (iI (10))) B.1 B.2.1 dJ6_stringSize_0f7a4_17 (by decide) ?_
      refine lv_icmp_ge (tgt := 42) B.1 B.2.1 dJ6_stringSize_0f7a4_19 (by decide) (fun h => absurd h (by decide)) (fun _ => ?_)
      refine lv_iload_n B.1 B.2.1 dJ6_stringSize_0f7a4_22 rfl (lv_at hl 2 rfl) ?_
      refine lv_iload_n B.1 B.2.1 dJ6_stringSize_0f7a4_23 rfl (lv_at hl 1 rfl) ?_
      refine lv_icmp_le (tgt := 31) B.1 B.2.1 dJ6_stringSize_0f7a4_24 (by decide) (fun c3 => ?_) (fun c3 => ?_)
      · have c3 := (iI_le (a := -((v : Nat) : Int)) (b := (-1000)) (by omega) (by omega) (by omega) (by omega)).mp c3
        refine lv_bipush (v := (iI (10))) B.1 B.2.1 dJ6_stringSize_0f7a4_31 (by decide) ?_
        refine lv_iload_n B.1 B.2.1 dJ6_stringSize_0f7a4_33 rfl (lv_at hl 1 rfl) ?_
        refine lv_imul B.1 B.2.1 dJ6_stringSize_0f7a4_34 ?_
        refine lv_cv (v := (iI (-10000))) (by decide) ?_
        refine lv_istore_n (lv' := [(2, .int (iI (-10000))), (3, .int (iI (3))), (0, .int (iI (-((v : Nat) : Int)))), (1, .int (iI (0)))]) B.1 B.2.1 dJ6_stringSize_0f7a4_35 rfl hl (by decide) rfl (fun ls hl => ?_)
        refine lv_iinc (v := (iI (4))) (lv' := [(3, .int (iI (4))), (2, .int (iI (-10000))), (0, .int (iI (-((v : Nat) : Int)))), (1, .int (iI (0)))]) B.1 B.2.1 dJ6_stringSize_0f7a4_36 hl (k := 1) rfl (by decide) (by decide) rfl (fun ls hl => ?_)
        refine lv_goto (tgt := 16) B.1 B.2.1 dJ6_stringSize_0f7a4_39 (by decide) ?_
        refine lv_iload_n B.1 B.2.1 dJ6_stringSize_0f7a4_16 rfl (lv_at hl 0 rfl) ?_
        refine lv_bipush (v := (iI (10))) B.1 B.2.1 dJ6_stringSize_0f7a4_17 (by decide) ?_
        refine lv_icmp_ge (tgt := 42) B.1 B.2.1 dJ6_stringSize_0f7a4_19 (by decide) (fun h => absurd h (by decide)) (fun _ => ?_)
        refine lv_iload_n B.1 B.2.1 dJ6_stringSize_0f7a4_22 rfl (lv_at hl 2 rfl) ?_
        refine lv_iload_n B.1 B.2.1 dJ6_stringSize_0f7a4_23 rfl (lv_at hl 1 rfl) ?_
        refine lv_icmp_le (tgt := 31) B.1 B.2.1 dJ6_stringSize_0f7a4_24 (by decide) (fun h => absurd h (mt (iI_le (a := -((v : Nat) : Int)) (b := (-10000)) (by omega) (by omega) (by omega) (by omega)).mp (by omega))) (fun _ => ?_)
        refine lv_iload_n B.1 B.2.1 dJ6_stringSize_0f7a4_27 rfl (lv_at hl 0 rfl) ?_
        refine lv_iload_n B.1 B.2.1 dJ6_stringSize_0f7a4_28 rfl (lv_at hl 3 rfl) ?_
        refine lv_iadd B.1 B.2.1 dJ6_stringSize_0f7a4_29 ?_
        refine lv_cv (v := (iI (4))) (by decide) ?_
        exact eI B hr hlk Y () (congrArg iI (show (4 : Int) = (((dgL v).length : Nat) : Int) by rw [dgL_4 (by omega)]; rfl)) [] (by decide) rfl (Nat.le_of_ble_eq_true rfl) (Nat.le_of_ble_eq_true rfl) dJ6_stringSize_0f7a4_30
      · have c3 := mt (iI_le (a := -((v : Nat) : Int)) (b := (-1000)) (by omega) (by omega) (by omega) (by omega)).mpr c3
        refine lv_iload_n B.1 B.2.1 dJ6_stringSize_0f7a4_27 rfl (lv_at hl 0 rfl) ?_
        refine lv_iload_n B.1 B.2.1 dJ6_stringSize_0f7a4_28 rfl (lv_at hl 3 rfl) ?_
        refine lv_iadd B.1 B.2.1 dJ6_stringSize_0f7a4_29 ?_
        refine lv_cv (v := (iI (3))) (by decide) ?_
        exact eI B hr hlk Y () (congrArg iI (show (3 : Int) = (((dgL v).length : Nat) : Int) by rw [dgL_3 (by omega) (by omega)]; rfl)) [] (by decide) rfl (Nat.le_of_ble_eq_true rfl) (Nat.le_of_ble_eq_true rfl) dJ6_stringSize_0f7a4_30
    · have c2 := mt (iI_le (a := -((v : Nat) : Int)) (b := (-100)) (by omega) (by omega) (by omega) (by omega)).mpr c2
      refine lv_iload_n B.1 B.2.1 dJ6_stringSize_0f7a4_27 rfl (lv_at hl 0 rfl) ?_
      refine lv_iload_n B.1 B.2.1 dJ6_stringSize_0f7a4_28 rfl (lv_at hl 3 rfl) ?_
      refine lv_iadd B.1 B.2.1 dJ6_stringSize_0f7a4_29 ?_
      refine lv_cv (v := (iI (2))) (by decide) ?_
      exact eI B hr hlk Y () (congrArg iI (show (2 : Int) = (((dgL v).length : Nat) : Int) by rw [dgL_2 (by omega) (by omega)]; rfl)) [] (by decide) rfl (Nat.le_of_ble_eq_true rfl) (Nat.le_of_ble_eq_true rfl) dJ6_stringSize_0f7a4_30
  · have c1 := mt (iI_le (a := -((v : Nat) : Int)) (b := (-10)) (by omega) (by omega) (by omega) (by omega)).mpr c1
    refine lv_iload_n B.1 B.2.1 dJ6_stringSize_0f7a4_27 rfl (lv_at hl 0 rfl) ?_
    refine lv_iload_n B.1 B.2.1 dJ6_stringSize_0f7a4_28 rfl (lv_at hl 3 rfl) ?_
    refine lv_iadd B.1 B.2.1 dJ6_stringSize_0f7a4_29 ?_
    refine lv_cv (v := (iI (1))) (by decide) ?_
    exact eI B hr hlk Y () (congrArg iI (show (1 : Int) = (((dgL v).length : Nat) : Int) by rw [dgL_1 (by omega)]; rfl)) [] (by decide) rfl (Nat.le_of_ble_eq_true rfl) (Nat.le_of_ble_eq_true rfl) dJ6_stringSize_0f7a4_30

set_option maxHeartbeats 4000000 in
set_option maxRecDepth 100000 in
theorem k6_getChars (l : Launch) (D : va_G) (τ : Nat → ClassId) (sz : Nat) (K : Nat → Nat) (v p0 a n : Nat) (g : Nat → Int32) (hv : v < 10000) (h1 : p0 + (dgL v).length ≤ n) (h2 : n ≤ 1002) : Met l yJ6_getChars_ba4f3 (Cond.code yJ6_getChars_ba4f3 cJ6_getChars_ba4f3 7 (some .int) :: wALL) { frames := 0, cells := 0, slots := 0, locals := 0 } (PwE (Ke K) D τ (bl [[(a, .inl (τ 1, n, .inl (g)))]]) sz [.int (iI ((v : Nat) : Int)), .int (iI (((p0 + (dgL v).length) : Nat) : Int)), .ref a]) (va_Qi (fun (r : Int32) (_ : Unit) => True) (Bb D (va_A (bl [[(a, .inl (τ 1, n, .inl (g)))]]) sz) (fun (_ : Unit) => [[(a, .inl (τ 1, n, .inl (va_cpy (fun j => iI ((dgL v).getD j 0)) g 0 p0 (dgL v).length)))]])) (va_A (bl [[(a, .inl (τ 1, n, .inl (g)))]]) sz)) 0 0 (va_A (bl [[(a, .inl (τ 1, n, .inl (g)))]]) sz) := by
  refine bodyE (by decide +kernel) (Nat.le_of_ble_eq_true rfl) (fun p e s m below meth c ls B hr hlk hin hsz Y hE hl => ?_)
  have hl : lv_has ls 7 [(0, .int (iI ((v : Nat) : Int))), (1, .int (iI (((p0 + (dgL v).length) : Nat) : Int))), (2, .ref a)] := hl
  have B : CallFix p m c cJ6_getChars_ba4f3 7 s _ wALL RJ6 := B
  generalize va_A (bl [[(a, .inl (τ 1, n, .inl (g)))]]) sz = A at Y hE ⊢
  rcases (show v < 10 ∨ (¬ v < 10 ∧ v < 100) ∨ (¬ v < 100 ∧ v < 1000) ∨ ¬ v < 1000 by omega) with hc | ⟨hc0, hc⟩ | ⟨hc0, hc⟩ | hc0
  · have hk : dgL v = _ := dgL_1 hc
    have hkl : (dgL v).length = 1 := by rw [hk]; rfl
    rw [hkl] at hl h1 B ⊢
    refine lv_iload_n B.1 B.2.1 dJ6_getChars_ba4f3_0 rfl (lv_at hl 1 rfl) ?_
    refine lv_istore (lv' := [(5, .int (iI (((p0 + 1) : Nat) : Int))), (0, .int (iI ((v : Nat) : Int))), (1, .int (iI (((p0 + 1) : Nat) : Int))), (2, .ref a)]) B.1 B.2.1 dJ6_getChars_ba4f3_1 hl (by decide) rfl (fun ls hl => ?_)
    refine lv_iload_n B.1 B.2.1 dJ6_getChars_ba4f3_3 rfl (lv_at hl 1 rfl) ?_
    refine lv_if_ge (tgt := 11) B.1 B.2.1 dJ6_getChars_ba4f3_4 (by decide) (fun _ => ?_) (fun h => absurd ((iI_ge0 (a := ((v : Nat) : Int)) (by omega) (by omega)).mpr (by omega)) h) 
    refine lv_iconst (v := (iI (0))) B.1 B.2.1 dJ6_getChars_ba4f3_11 (by decide) ?_
    refine lv_istore (lv' := [(6, .int (iI (0))), (5, .int (iI (((p0 + 1) : Nat) : Int))), (0, .int (iI ((v : Nat) : Int))), (1, .int (iI (((p0 + 1) : Nat) : Int))), (2, .ref a)]) B.1 B.2.1 dJ6_getChars_ba4f3_12 hl (by decide) rfl (fun ls hl => ?_)
    refine lv_iload B.1 B.2.1 dJ6_getChars_ba4f3_14 (lv_at hl 0 rfl) ?_
    refine lv_if_ne (tgt := 22) B.1 B.2.1 dJ6_getChars_ba4f3_16 (by decide) (fun h => absurd (by decide) h) (fun _ => ?_)
    refine lv_iload_n B.1 B.2.1 dJ6_getChars_ba4f3_19 rfl (lv_at hl 2 rfl) ?_
    refine lv_ineg B.1 B.2.1 dJ6_getChars_ba4f3_20 ?_
    refine lv_cv (v := (iI (-((v : Nat) : Int)))) (iI_neg _) ?_
    refine lv_istore_n (lv' := [(0, .int (iI (-((v : Nat) : Int)))), (6, .int (iI (0))), (5, .int (iI (((p0 + 1) : Nat) : Int))), (1, .int (iI (((p0 + 1) : Nat) : Int))), (2, .ref a)]) B.1 B.2.1 dJ6_getChars_ba4f3_21 rfl hl (by decide) rfl (fun ls hl => ?_)
    refine lv_iload_n B.1 B.2.1 dJ6_getChars_ba4f3_22 rfl (lv_at hl 0 rfl) ?_
    refine lv_bipush (v := (iI (-100))) B.1 B.2.1 dJ6_getChars_ba4f3_23 (by decide) ?_
    refine lv_icmp_gt (tgt := 72) B.1 B.2.1 dJ6_getChars_ba4f3_25 (by decide) (fun _ => ?_) (fun h => absurd ((iI_lt (a := (-100)) (b := -((v : Nat) : Int)) (by omega) (by omega) (by omega) (by omega)).mpr (by omega)) h) 
    refine lv_aload_n B.1 B.2.1 dJ6_getChars_ba4f3_72 rfl (lv_at hl 4 rfl) ?_
    refine lv_iinc (v := (iI ((p0 : Nat) : Int))) (lv' := [(5, .int (iI ((p0 : Nat) : Int))), (0, .int (iI (-((v : Nat) : Int)))), (6, .int (iI (0))), (1, .int (iI (((p0 + 1) : Nat) : Int))), (2, .ref a)]) B.1 B.2.1 dJ6_getChars_ba4f3_73 hl (k := 2) rfl (by show iI _ + iI (-1) = _; rw [iI_add]; congr 1; omega) (by decide) rfl (fun ls hl => ?_)
    refine lv_iload B.1 B.2.1 dJ6_getChars_ba4f3_76 (lv_at hl 0 rfl) ?_
    refine va_gets B.1 B.2.1 hE.2.2.2.2.2.2.2.2.2.1 Y.2.2.2.1 B.2.2.2.1 (B.2.2.2.2 _ q_1410) (fun _ h => h) dJ6_getChars_ba4f3_78 ?_
    refine lv_iload_n B.1 B.2.1 dJ6_getChars_ba4f3_81 rfl (lv_at hl 1 rfl) ?_
    refine lv_ineg B.1 B.2.1 dJ6_getChars_ba4f3_82 ?_
    refine lv_cv (v := (iI (-(-((v : Nat) : Int))))) (iI_neg _) ?_
    refine va_tb (v := .int (iI (((48 + v % 10) : Nat) : Int))) B.1 B.2.1 hE.one Y.2.2.2.1 (vin_of (iI_zpos (by omega) (by omega)) (j := v) (iI_zclamp (by omega) (by omega)) (by omega)) (by rw [show ((iI (-(-((v : Nat) : Int))))).toNatClampNeg = v from (iI_zclamp (by omega) (by omega))]) dJ6_getChars_ba4f3_83 ?_
    refine b_bast (j := p0) (g := upd (g) p0 (iI ((48 + v % 10 : Nat) : Int))) (B' := [[(a, .inl (τ 1, n, .inl (upd (g) p0 (iI ((48 + v % 10 : Nat) : Int)))))]]) B Y 0 rfl (iI_pos (by omega)) (iI_clamp (by omega)) (by omega) (by rw [nar_lo (by omega) (by omega)]) rfl dJ6_getChars_ba4f3_84 (fun H locs Y => ?_)
    refine lv_iload_n B.1 B.2.1 dJ6_getChars_ba4f3_85 rfl (lv_at hl 1 rfl) ?_
    refine lv_bipush (v := (iI (-9))) B.1 B.2.1 dJ6_getChars_ba4f3_86 (by decide) ?_
    refine lv_icmp_ge (tgt := 104) B.1 B.2.1 dJ6_getChars_ba4f3_88 (by decide) (fun _ => ?_) (fun h => absurd ((iI_le (a := (-9)) (b := -((v : Nat) : Int)) (by omega) (by omega) (by omega) (by omega)).mpr (by omega)) h) 
    refine lv_iload B.1 B.2.1 dJ6_getChars_ba4f3_104 (lv_at hl 2 rfl) ?_
    refine lv_if_eq (tgt := 118) B.1 B.2.1 dJ6_getChars_ba4f3_106 (by decide) (fun _ => ?_) (fun h => absurd (by decide) h) 
    refine lv_iload B.1 B.2.1 dJ6_getChars_ba4f3_118 (lv_at hl 0 rfl) ?_
    have hF : ∀ j : Nat, (fun j => iI ((dgL v).getD j 0)) j = iI ((dgL v).getD j 0) := fun _ => rfl
    rw [hk] at hF
    have hY : upd (g) p0 (iI ((48 + v % 10 : Nat) : Int)) = va_cpy (fun j => iI ((dgL v).getD j 0)) g 0 p0 1 := by
      rw [← cpy_1]
      simp only [hk]; rfl
    rw [hY] at Y
    exact eI B hr hlk Y () trivial [0] (by decide) rfl (Nat.le_of_ble_eq_true rfl) (Nat.le_of_ble_eq_true rfl) dJ6_getChars_ba4f3_120
  · have hk : dgL v = _ := dgL_2 hc0 hc
    have hkl : (dgL v).length = 2 := by rw [hk]; rfl
    rw [hkl] at hl h1 B ⊢
    refine lv_iload_n B.1 B.2.1 dJ6_getChars_ba4f3_0 rfl (lv_at hl 1 rfl) ?_
    refine lv_istore (lv' := [(5, .int (iI (((p0 + 2) : Nat) : Int))), (0, .int (iI ((v : Nat) : Int))), (1, .int (iI (((p0 + 2) : Nat) : Int))), (2, .ref a)]) B.1 B.2.1 dJ6_getChars_ba4f3_1 hl (by decide) rfl (fun ls hl => ?_)
    refine lv_iload_n B.1 B.2.1 dJ6_getChars_ba4f3_3 rfl (lv_at hl 1 rfl) ?_
    refine lv_if_ge (tgt := 11) B.1 B.2.1 dJ6_getChars_ba4f3_4 (by decide) (fun _ => ?_) (fun h => absurd ((iI_ge0 (a := ((v : Nat) : Int)) (by omega) (by omega)).mpr (by omega)) h) 
    refine lv_iconst (v := (iI (0))) B.1 B.2.1 dJ6_getChars_ba4f3_11 (by decide) ?_
    refine lv_istore (lv' := [(6, .int (iI (0))), (5, .int (iI (((p0 + 2) : Nat) : Int))), (0, .int (iI ((v : Nat) : Int))), (1, .int (iI (((p0 + 2) : Nat) : Int))), (2, .ref a)]) B.1 B.2.1 dJ6_getChars_ba4f3_12 hl (by decide) rfl (fun ls hl => ?_)
    refine lv_iload B.1 B.2.1 dJ6_getChars_ba4f3_14 (lv_at hl 0 rfl) ?_
    refine lv_if_ne (tgt := 22) B.1 B.2.1 dJ6_getChars_ba4f3_16 (by decide) (fun h => absurd (by decide) h) (fun _ => ?_)
    refine lv_iload_n B.1 B.2.1 dJ6_getChars_ba4f3_19 rfl (lv_at hl 2 rfl) ?_
    refine lv_ineg B.1 B.2.1 dJ6_getChars_ba4f3_20 ?_
    refine lv_cv (v := (iI (-((v : Nat) : Int)))) (iI_neg _) ?_
    refine lv_istore_n (lv' := [(0, .int (iI (-((v : Nat) : Int)))), (6, .int (iI (0))), (5, .int (iI (((p0 + 2) : Nat) : Int))), (1, .int (iI (((p0 + 2) : Nat) : Int))), (2, .ref a)]) B.1 B.2.1 dJ6_getChars_ba4f3_21 rfl hl (by decide) rfl (fun ls hl => ?_)
    refine lv_iload_n B.1 B.2.1 dJ6_getChars_ba4f3_22 rfl (lv_at hl 0 rfl) ?_
    refine lv_bipush (v := (iI (-100))) B.1 B.2.1 dJ6_getChars_ba4f3_23 (by decide) ?_
    refine lv_icmp_gt (tgt := 72) B.1 B.2.1 dJ6_getChars_ba4f3_25 (by decide) (fun _ => ?_) (fun h => absurd ((iI_lt (a := (-100)) (b := -((v : Nat) : Int)) (by omega) (by omega) (by omega) (by omega)).mpr (by omega)) h) 
    refine lv_aload_n B.1 B.2.1 dJ6_getChars_ba4f3_72 rfl (lv_at hl 4 rfl) ?_
    refine lv_iinc (v := (iI (((p0 + 1) : Nat) : Int))) (lv' := [(5, .int (iI (((p0 + 1) : Nat) : Int))), (0, .int (iI (-((v : Nat) : Int)))), (6, .int (iI (0))), (1, .int (iI (((p0 + 2) : Nat) : Int))), (2, .ref a)]) B.1 B.2.1 dJ6_getChars_ba4f3_73 hl (k := 2) rfl (by show iI _ + iI (-1) = _; rw [iI_add]; congr 1; omega) (by decide) rfl (fun ls hl => ?_)
    refine lv_iload B.1 B.2.1 dJ6_getChars_ba4f3_76 (lv_at hl 0 rfl) ?_
    refine va_gets B.1 B.2.1 hE.2.2.2.2.2.2.2.2.2.1 Y.2.2.2.1 B.2.2.2.1 (B.2.2.2.2 _ q_1410) (fun _ h => h) dJ6_getChars_ba4f3_78 ?_
    refine lv_iload_n B.1 B.2.1 dJ6_getChars_ba4f3_81 rfl (lv_at hl 1 rfl) ?_
    refine lv_ineg B.1 B.2.1 dJ6_getChars_ba4f3_82 ?_
    refine lv_cv (v := (iI (-(-((v : Nat) : Int))))) (iI_neg _) ?_
    refine va_tb (v := .int (iI (((48 + v % 10) : Nat) : Int))) B.1 B.2.1 hE.one Y.2.2.2.1 (vin_of (iI_zpos (by omega) (by omega)) (j := v) (iI_zclamp (by omega) (by omega)) (by omega)) (by rw [show ((iI (-(-((v : Nat) : Int))))).toNatClampNeg = v from (iI_zclamp (by omega) (by omega))]) dJ6_getChars_ba4f3_83 ?_
    refine b_bast (j := (p0 + 1)) (g := upd (g) (p0 + 1) (iI ((48 + v % 10 : Nat) : Int))) (B' := [[(a, .inl (τ 1, n, .inl (upd (g) (p0 + 1) (iI ((48 + v % 10 : Nat) : Int)))))]]) B Y 0 rfl (iI_pos (by omega)) (iI_clamp (by omega)) (by omega) (by rw [nar_lo (by omega) (by omega)]) rfl dJ6_getChars_ba4f3_84 (fun H locs Y => ?_)
    refine lv_iload_n B.1 B.2.1 dJ6_getChars_ba4f3_85 rfl (lv_at hl 1 rfl) ?_
    refine lv_bipush (v := (iI (-9))) B.1 B.2.1 dJ6_getChars_ba4f3_86 (by decide) ?_
    refine lv_icmp_ge (tgt := 104) B.1 B.2.1 dJ6_getChars_ba4f3_88 (by decide) (fun h => absurd h (mt (iI_le (a := (-9)) (b := -((v : Nat) : Int)) (by omega) (by omega) (by omega) (by omega)).mp (by omega))) (fun _ => ?_)
    refine lv_aload_n B.1 B.2.1 dJ6_getChars_ba4f3_91 rfl (lv_at hl 4 rfl) ?_
    refine lv_iinc (v := (iI ((p0 : Nat) : Int))) (lv' := [(5, .int (iI ((p0 : Nat) : Int))), (0, .int (iI (-((v : Nat) : Int)))), (6, .int (iI (0))), (1, .int (iI (((p0 + 2) : Nat) : Int))), (2, .ref a)]) B.1 B.2.1 dJ6_getChars_ba4f3_92 hl (k := 0) rfl (by show iI _ + iI (-1) = _; rw [iI_add]; congr 1; omega) (by decide) rfl (fun ls hl => ?_)
    refine lv_iload B.1 B.2.1 dJ6_getChars_ba4f3_95 (lv_at hl 0 rfl) ?_
    refine va_gets B.1 B.2.1 hE.2.2.2.2.2.2.2.2.2.2.1 Y.2.2.2.1 B.2.2.2.1 (B.2.2.2.2 _ q_1412) (fun _ h => h) dJ6_getChars_ba4f3_97 ?_
    refine lv_iload_n B.1 B.2.1 dJ6_getChars_ba4f3_100 rfl (lv_at hl 1 rfl) ?_
    refine lv_ineg B.1 B.2.1 dJ6_getChars_ba4f3_101 ?_
    refine lv_cv (v := (iI (-(-((v : Nat) : Int))))) (iI_neg _) ?_
    refine va_tb (v := .int (iI (((48 + v / 10) : Nat) : Int))) B.1 B.2.1 hE.ten Y.2.2.2.1 (vin_of (iI_zpos (by omega) (by omega)) (j := v) (iI_zclamp (by omega) (by omega)) (by omega)) (by rw [show ((iI (-(-((v : Nat) : Int))))).toNatClampNeg = v from (iI_zclamp (by omega) (by omega))]) dJ6_getChars_ba4f3_102 ?_
    refine b_bast (j := p0) (g := upd (upd (g) (p0 + 1) (iI ((48 + v % 10 : Nat) : Int))) p0 (iI ((48 + v / 10 : Nat) : Int))) (B' := [[(a, .inl (τ 1, n, .inl (upd (upd (g) (p0 + 1) (iI ((48 + v % 10 : Nat) : Int))) p0 (iI ((48 + v / 10 : Nat) : Int)))))]]) B Y 0 rfl (iI_pos (by omega)) (iI_clamp (by omega)) (by omega) (by rw [nar_lo (by omega) (by omega)]) rfl dJ6_getChars_ba4f3_103 (fun H locs Y => ?_)
    refine lv_iload B.1 B.2.1 dJ6_getChars_ba4f3_104 (lv_at hl 2 rfl) ?_
    refine lv_if_eq (tgt := 118) B.1 B.2.1 dJ6_getChars_ba4f3_106 (by decide) (fun _ => ?_) (fun h => absurd (by decide) h) 
    refine lv_iload B.1 B.2.1 dJ6_getChars_ba4f3_118 (lv_at hl 0 rfl) ?_
    have hF : ∀ j : Nat, (fun j => iI ((dgL v).getD j 0)) j = iI ((dgL v).getD j 0) := fun _ => rfl
    rw [hk] at hF
    have hY : upd (upd (g) (p0 + 1) (iI ((48 + v % 10 : Nat) : Int))) p0 (iI ((48 + v / 10 : Nat) : Int)) = va_cpy (fun j => iI ((dgL v).getD j 0)) g 0 p0 2 := by
      rw [← cpy_s _ _ _ 1, ← cpy_1]
      simp only [hk]; rfl
    rw [hY] at Y
    exact eI B hr hlk Y () trivial [0] (by decide) rfl (Nat.le_of_ble_eq_true rfl) (Nat.le_of_ble_eq_true rfl) dJ6_getChars_ba4f3_120
  · have hk : dgL v = _ := dgL_3 hc0 hc
    have hkl : (dgL v).length = 3 := by rw [hk]; rfl
    rw [hkl] at hl h1 B ⊢
    refine lv_iload_n B.1 B.2.1 dJ6_getChars_ba4f3_0 rfl (lv_at hl 1 rfl) ?_
    refine lv_istore (lv' := [(5, .int (iI (((p0 + 3) : Nat) : Int))), (0, .int (iI ((v : Nat) : Int))), (1, .int (iI (((p0 + 3) : Nat) : Int))), (2, .ref a)]) B.1 B.2.1 dJ6_getChars_ba4f3_1 hl (by decide) rfl (fun ls hl => ?_)
    refine lv_iload_n B.1 B.2.1 dJ6_getChars_ba4f3_3 rfl (lv_at hl 1 rfl) ?_
    refine lv_if_ge (tgt := 11) B.1 B.2.1 dJ6_getChars_ba4f3_4 (by decide) (fun _ => ?_) (fun h => absurd ((iI_ge0 (a := ((v : Nat) : Int)) (by omega) (by omega)).mpr (by omega)) h) 
    refine lv_iconst (v := (iI (0))) B.1 B.2.1 dJ6_getChars_ba4f3_11 (by decide) ?_
    refine lv_istore (lv' := [(6, .int (iI (0))), (5, .int (iI (((p0 + 3) : Nat) : Int))), (0, .int (iI ((v : Nat) : Int))), (1, .int (iI (((p0 + 3) : Nat) : Int))), (2, .ref a)]) B.1 B.2.1 dJ6_getChars_ba4f3_12 hl (by decide) rfl (fun ls hl => ?_)
    refine lv_iload B.1 B.2.1 dJ6_getChars_ba4f3_14 (lv_at hl 0 rfl) ?_
    refine lv_if_ne (tgt := 22) B.1 B.2.1 dJ6_getChars_ba4f3_16 (by decide) (fun h => absurd (by decide) h) (fun _ => ?_)
    refine lv_iload_n B.1 B.2.1 dJ6_getChars_ba4f3_19 rfl (lv_at hl 2 rfl) ?_
    refine lv_ineg B.1 B.2.1 dJ6_getChars_ba4f3_20 ?_
    refine lv_cv (v := (iI (-((v : Nat) : Int)))) (iI_neg _) ?_
    refine lv_istore_n (lv' := [(0, .int (iI (-((v : Nat) : Int)))), (6, .int (iI (0))), (5, .int (iI (((p0 + 3) : Nat) : Int))), (1, .int (iI (((p0 + 3) : Nat) : Int))), (2, .ref a)]) B.1 B.2.1 dJ6_getChars_ba4f3_21 rfl hl (by decide) rfl (fun ls hl => ?_)
    refine lv_iload_n B.1 B.2.1 dJ6_getChars_ba4f3_22 rfl (lv_at hl 0 rfl) ?_
    refine lv_bipush (v := (iI (-100))) B.1 B.2.1 dJ6_getChars_ba4f3_23 (by decide) ?_
    refine lv_icmp_gt (tgt := 72) B.1 B.2.1 dJ6_getChars_ba4f3_25 (by decide) (fun h => absurd h (mt (iI_lt (a := (-100)) (b := -((v : Nat) : Int)) (by omega) (by omega) (by omega) (by omega)).mp (by omega))) (fun _ => ?_)
    refine lv_iload_n B.1 B.2.1 dJ6_getChars_ba4f3_28 rfl (lv_at hl 0 rfl) ?_
    refine lv_bipush (v := (iI (100))) B.1 B.2.1 dJ6_getChars_ba4f3_29 (by decide) ?_
    refine lv_idiv B.1 B.2.1 dJ6_getChars_ba4f3_31 (by decide) ?_
    refine lv_cv (v := (iI (-((v / 100 : Nat) : Int)))) (iI_nd hv) ?_
    refine lv_istore_n (lv' := [(3, .int (iI (-((v / 100 : Nat) : Int)))), (0, .int (iI (-((v : Nat) : Int)))), (6, .int (iI (0))), (5, .int (iI (((p0 + 3) : Nat) : Int))), (1, .int (iI (((p0 + 3) : Nat) : Int))), (2, .ref a)]) B.1 B.2.1 dJ6_getChars_ba4f3_32 rfl hl (by decide) rfl (fun ls hl => ?_)
    refine lv_iload_n B.1 B.2.1 dJ6_getChars_ba4f3_33 rfl (lv_at hl 0 rfl) ?_
    refine lv_bipush (v := (iI (100))) B.1 B.2.1 dJ6_getChars_ba4f3_34 (by decide) ?_
    refine lv_imul B.1 B.2.1 dJ6_getChars_ba4f3_36 ?_
    refine lv_cv (v := (iI ((-((v / 100 : Nat) : Int)) * 100))) (iI_mul _ _) ?_
    refine lv_iload_n B.1 B.2.1 dJ6_getChars_ba4f3_37 rfl (lv_at hl 1 rfl) ?_
    refine lv_isub B.1 B.2.1 dJ6_getChars_ba4f3_38 ?_
    refine lv_cv (v := (iI (((v % 100) : Nat) : Int))) (by rw [iI_sub]; congr 1; omega) ?_
    refine lv_istore (lv' := [(4, .int (iI (((v % 100) : Nat) : Int))), (3, .int (iI (-((v / 100 : Nat) : Int)))), (0, .int (iI (-((v : Nat) : Int)))), (6, .int (iI (0))), (5, .int (iI (((p0 + 3) : Nat) : Int))), (1, .int (iI (((p0 + 3) : Nat) : Int))), (2, .ref a)]) B.1 B.2.1 dJ6_getChars_ba4f3_39 hl (by decide) rfl (fun ls hl => ?_)
    refine lv_iload_n B.1 B.2.1 dJ6_getChars_ba4f3_41 rfl (lv_at hl 1 rfl) ?_
    refine lv_istore_n (lv' := [(0, .int (iI (-((v / 100 : Nat) : Int)))), (4, .int (iI (((v % 100) : Nat) : Int))), (3, .int (iI (-((v / 100 : Nat) : Int)))), (6, .int (iI (0))), (5, .int (iI (((p0 + 3) : Nat) : Int))), (1, .int (iI (((p0 + 3) : Nat) : Int))), (2, .ref a)]) B.1 B.2.1 dJ6_getChars_ba4f3_42 rfl hl (by decide) rfl (fun ls hl => ?_)
    refine lv_aload_n B.1 B.2.1 dJ6_getChars_ba4f3_43 rfl (lv_at hl 6 rfl) ?_
    refine lv_iinc (v := (iI (((p0 + 2) : Nat) : Int))) (lv' := [(5, .int (iI (((p0 + 2) : Nat) : Int))), (0, .int (iI (-((v / 100 : Nat) : Int)))), (4, .int (iI (((v % 100) : Nat) : Int))), (3, .int (iI (-((v / 100 : Nat) : Int)))), (6, .int (iI (0))), (1, .int (iI (((p0 + 3) : Nat) : Int))), (2, .ref a)]) B.1 B.2.1 dJ6_getChars_ba4f3_44 hl (k := 4) rfl (by show iI _ + iI (-1) = _; rw [iI_add]; congr 1; omega) (by decide) rfl (fun ls hl => ?_)
    refine lv_iload B.1 B.2.1 dJ6_getChars_ba4f3_47 (lv_at hl 0 rfl) ?_
    refine va_gets B.1 B.2.1 hE.2.2.2.2.2.2.2.2.2.1 Y.2.2.2.1 B.2.2.2.1 (B.2.2.2.2 _ q_1410) (fun _ h => h) dJ6_getChars_ba4f3_49 ?_
    refine lv_iload B.1 B.2.1 dJ6_getChars_ba4f3_52 (lv_at hl 2 rfl) ?_
    refine va_tb (v := .int (iI (((48 + (v % 100) % 10) : Nat) : Int))) B.1 B.2.1 hE.one Y.2.2.2.1 (vin_of (iI_pos (by omega)) (j := (v % 100)) (iI_clamp (by omega)) (by omega)) (by rw [show ((iI (((v % 100) : Nat) : Int))).toNatClampNeg = (v % 100) from (iI_clamp (by omega))]) dJ6_getChars_ba4f3_54 ?_
    refine b_bast (j := (p0 + 2)) (g := upd (g) (p0 + 2) (iI ((48 + v % 100 % 10 : Nat) : Int))) (B' := [[(a, .inl (τ 1, n, .inl (upd (g) (p0 + 2) (iI ((48 + v % 100 % 10 : Nat) : Int)))))]]) B Y 0 rfl (iI_pos (by omega)) (iI_clamp (by omega)) (by omega) (by rw [nar_lo (by omega) (by omega)]) rfl dJ6_getChars_ba4f3_55 (fun H locs Y => ?_)
    refine lv_aload_n B.1 B.2.1 dJ6_getChars_ba4f3_56 rfl (lv_at hl 6 rfl) ?_
    refine lv_iinc (v := (iI (((p0 + 1) : Nat) : Int))) (lv' := [(5, .int (iI (((p0 + 1) : Nat) : Int))), (0, .int (iI (-((v / 100 : Nat) : Int)))), (4, .int (iI (((v % 100) : Nat) : Int))), (3, .int (iI (-((v / 100 : Nat) : Int)))), (6, .int (iI (0))), (1, .int (iI (((p0 + 3) : Nat) : Int))), (2, .ref a)]) B.1 B.2.1 dJ6_getChars_ba4f3_57 hl (k := 0) rfl (by show iI _ + iI (-1) = _; rw [iI_add]; congr 1; omega) (by decide) rfl (fun ls hl => ?_)
    refine lv_iload B.1 B.2.1 dJ6_getChars_ba4f3_60 (lv_at hl 0 rfl) ?_
    refine va_gets B.1 B.2.1 hE.2.2.2.2.2.2.2.2.2.2.1 Y.2.2.2.1 B.2.2.2.1 (B.2.2.2.2 _ q_1412) (fun _ h => h) dJ6_getChars_ba4f3_62 ?_
    refine lv_iload B.1 B.2.1 dJ6_getChars_ba4f3_65 (lv_at hl 2 rfl) ?_
    refine va_tb (v := .int (iI (((48 + (v % 100) / 10) : Nat) : Int))) B.1 B.2.1 hE.ten Y.2.2.2.1 (vin_of (iI_pos (by omega)) (j := (v % 100)) (iI_clamp (by omega)) (by omega)) (by rw [show ((iI (((v % 100) : Nat) : Int))).toNatClampNeg = (v % 100) from (iI_clamp (by omega))]) dJ6_getChars_ba4f3_67 ?_
    refine b_bast (j := (p0 + 1)) (g := upd (upd (g) (p0 + 2) (iI ((48 + v % 100 % 10 : Nat) : Int))) (p0 + 1) (iI ((48 + v % 100 / 10 : Nat) : Int))) (B' := [[(a, .inl (τ 1, n, .inl (upd (upd (g) (p0 + 2) (iI ((48 + v % 100 % 10 : Nat) : Int))) (p0 + 1) (iI ((48 + v % 100 / 10 : Nat) : Int)))))]]) B Y 0 rfl (iI_pos (by omega)) (iI_clamp (by omega)) (by omega) (by rw [nar_lo (by omega) (by omega)]) rfl dJ6_getChars_ba4f3_68 (fun H locs Y => ?_)
    refine lv_goto (tgt := 22) B.1 B.2.1 dJ6_getChars_ba4f3_69 (by decide) ?_
    refine lv_iload_n B.1 B.2.1 dJ6_getChars_ba4f3_22 rfl (lv_at hl 1 rfl) ?_
    refine lv_bipush (v := (iI (-100))) B.1 B.2.1 dJ6_getChars_ba4f3_23 (by decide) ?_
    refine lv_icmp_gt (tgt := 72) B.1 B.2.1 dJ6_getChars_ba4f3_25 (by decide) (fun _ => ?_) (fun h => absurd ((iI_lt (a := (-100)) (b := -((v / 100 : Nat) : Int)) (by omega) (by omega) (by omega) (by omega)).mpr (by omega)) h) 
    refine lv_aload_n B.1 B.2.1 dJ6_getChars_ba4f3_72 rfl (lv_at hl 6 rfl) ?_
    refine lv_iinc (v := (iI ((p0 : Nat) : Int))) (lv' := [(5, .int (iI ((p0 : Nat) : Int))), (0, .int (iI (-((v / 100 : Nat) : Int)))), (4, .int (iI (((v % 100) : Nat) : Int))), (3, .int (iI (-((v / 100 : Nat) : Int)))), (6, .int (iI (0))), (1, .int (iI (((p0 + 3) : Nat) : Int))), (2, .ref a)]) B.1 B.2.1 dJ6_getChars_ba4f3_73 hl (k := 0) rfl (by show iI _ + iI (-1) = _; rw [iI_add]; congr 1; omega) (by decide) rfl (fun ls hl => ?_)
    refine lv_iload B.1 B.2.1 dJ6_getChars_ba4f3_76 (lv_at hl 0 rfl) ?_
    refine va_gets B.1 B.2.1 hE.2.2.2.2.2.2.2.2.2.1 Y.2.2.2.1 B.2.2.2.1 (B.2.2.2.2 _ q_1410) (fun _ h => h) dJ6_getChars_ba4f3_78 ?_
    refine lv_iload_n B.1 B.2.1 dJ6_getChars_ba4f3_81 rfl (lv_at hl 1 rfl) ?_
    refine lv_ineg B.1 B.2.1 dJ6_getChars_ba4f3_82 ?_
    refine lv_cv (v := (iI (-(-((v / 100 : Nat) : Int))))) (iI_neg _) ?_
    refine va_tb (v := .int (iI (((48 + (v / 100) % 10) : Nat) : Int))) B.1 B.2.1 hE.one Y.2.2.2.1 (vin_of (iI_zpos (by omega) (by omega)) (j := v / 100) (iI_zclamp (by omega) (by omega)) (by omega)) (by rw [show ((iI (-(-((v / 100 : Nat) : Int))))).toNatClampNeg = v / 100 from (iI_zclamp (by omega) (by omega))]) dJ6_getChars_ba4f3_83 ?_
    refine b_bast (j := p0) (g := upd (upd (upd (g) (p0 + 2) (iI ((48 + v % 100 % 10 : Nat) : Int))) (p0 + 1) (iI ((48 + v % 100 / 10 : Nat) : Int))) p0 (iI ((48 + v / 100 % 10 : Nat) : Int))) (B' := [[(a, .inl (τ 1, n, .inl (upd (upd (upd (g) (p0 + 2) (iI ((48 + v % 100 % 10 : Nat) : Int))) (p0 + 1) (iI ((48 + v % 100 / 10 : Nat) : Int))) p0 (iI ((48 + v / 100 % 10 : Nat) : Int)))))]]) B Y 0 rfl (iI_pos (by omega)) (iI_clamp (by omega)) (by omega) (by rw [nar_lo (by omega) (by omega)]) rfl dJ6_getChars_ba4f3_84 (fun H locs Y => ?_)
    refine lv_iload_n B.1 B.2.1 dJ6_getChars_ba4f3_85 rfl (lv_at hl 1 rfl) ?_
    refine lv_bipush (v := (iI (-9))) B.1 B.2.1 dJ6_getChars_ba4f3_86 (by decide) ?_
    refine lv_icmp_ge (tgt := 104) B.1 B.2.1 dJ6_getChars_ba4f3_88 (by decide) (fun _ => ?_) (fun h => absurd ((iI_le (a := (-9)) (b := -((v / 100 : Nat) : Int)) (by omega) (by omega) (by omega) (by omega)).mpr (by omega)) h) 
    refine lv_iload B.1 B.2.1 dJ6_getChars_ba4f3_104 (lv_at hl 4 rfl) ?_
    refine lv_if_eq (tgt := 118) B.1 B.2.1 dJ6_getChars_ba4f3_106 (by decide) (fun _ => ?_) (fun h => absurd (by decide) h) 
    refine lv_iload B.1 B.2.1 dJ6_getChars_ba4f3_118 (lv_at hl 0 rfl) ?_
    have hF : ∀ j : Nat, (fun j => iI ((dgL v).getD j 0)) j = iI ((dgL v).getD j 0) := fun _ => rfl
    rw [hk] at hF
    have hY : upd (upd (upd (g) (p0 + 2) (iI ((48 + v % 100 % 10 : Nat) : Int))) (p0 + 1) (iI ((48 + v % 100 / 10 : Nat) : Int))) p0 (iI ((48 + v / 100 % 10 : Nat) : Int)) = va_cpy (fun j => iI ((dgL v).getD j 0)) g 0 p0 3 := by
      rw [← cpy_s _ _ _ 2, ← cpy_s _ _ _ 1, ← cpy_1]
      simp only [hk]; rfl
    rw [hY] at Y
    exact eI B hr hlk Y () trivial [0] (by decide) rfl (Nat.le_of_ble_eq_true rfl) (Nat.le_of_ble_eq_true rfl) dJ6_getChars_ba4f3_120
  · have hk : dgL v = _ := dgL_4 hc0
    have hkl : (dgL v).length = 4 := by rw [hk]; rfl
    rw [hkl] at hl h1 B ⊢
    refine lv_iload_n B.1 B.2.1 dJ6_getChars_ba4f3_0 rfl (lv_at hl 1 rfl) ?_
    refine lv_istore (lv' := [(5, .int (iI (((p0 + 4) : Nat) : Int))), (0, .int (iI ((v : Nat) : Int))), (1, .int (iI (((p0 + 4) : Nat) : Int))), (2, .ref a)]) B.1 B.2.1 dJ6_getChars_ba4f3_1 hl (by decide) rfl (fun ls hl => ?_)
    refine lv_iload_n B.1 B.2.1 dJ6_getChars_ba4f3_3 rfl (lv_at hl 1 rfl) ?_
    refine lv_if_ge (tgt := 11) B.1 B.2.1 dJ6_getChars_ba4f3_4 (by decide) (fun _ => ?_) (fun h => absurd ((iI_ge0 (a := ((v : Nat) : Int)) (by omega) (by omega)).mpr (by omega)) h) 
    refine lv_iconst (v := (iI (0))) B.1 B.2.1 dJ6_getChars_ba4f3_11 (by decide) ?_
    refine lv_istore (lv' := [(6, .int (iI (0))), (5, .int (iI (((p0 + 4) : Nat) : Int))), (0, .int (iI ((v : Nat) : Int))), (1, .int (iI (((p0 + 4) : Nat) : Int))), (2, .ref a)]) B.1 B.2.1 dJ6_getChars_ba4f3_12 hl (by decide) rfl (fun ls hl => ?_)
    refine lv_iload B.1 B.2.1 dJ6_getChars_ba4f3_14 (lv_at hl 0 rfl) ?_
    refine lv_if_ne (tgt := 22) B.1 B.2.1 dJ6_getChars_ba4f3_16 (by decide) (fun h => absurd (by decide) h) (fun _ => ?_)
    refine lv_iload_n B.1 B.2.1 dJ6_getChars_ba4f3_19 rfl (lv_at hl 2 rfl) ?_
    refine lv_ineg B.1 B.2.1 dJ6_getChars_ba4f3_20 ?_
    refine lv_cv (v := (iI (-((v : Nat) : Int)))) (iI_neg _) ?_
    refine lv_istore_n (lv' := [(0, .int (iI (-((v : Nat) : Int)))), (6, .int (iI (0))), (5, .int (iI (((p0 + 4) : Nat) : Int))), (1, .int (iI (((p0 + 4) : Nat) : Int))), (2, .ref a)]) B.1 B.2.1 dJ6_getChars_ba4f3_21 rfl hl (by decide) rfl (fun ls hl => ?_)
    refine lv_iload_n B.1 B.2.1 dJ6_getChars_ba4f3_22 rfl (lv_at hl 0 rfl) ?_
    refine lv_bipush (v := (iI (-100))) B.1 B.2.1 dJ6_getChars_ba4f3_23 (by decide) ?_
    refine lv_icmp_gt (tgt := 72) B.1 B.2.1 dJ6_getChars_ba4f3_25 (by decide) (fun h => absurd h (mt (iI_lt (a := (-100)) (b := -((v : Nat) : Int)) (by omega) (by omega) (by omega) (by omega)).mp (by omega))) (fun _ => ?_)
    refine lv_iload_n B.1 B.2.1 dJ6_getChars_ba4f3_28 rfl (lv_at hl 0 rfl) ?_
    refine lv_bipush (v := (iI (100))) B.1 B.2.1 dJ6_getChars_ba4f3_29 (by decide) ?_
    refine lv_idiv B.1 B.2.1 dJ6_getChars_ba4f3_31 (by decide) ?_
    refine lv_cv (v := (iI (-((v / 100 : Nat) : Int)))) (iI_nd hv) ?_
    refine lv_istore_n (lv' := [(3, .int (iI (-((v / 100 : Nat) : Int)))), (0, .int (iI (-((v : Nat) : Int)))), (6, .int (iI (0))), (5, .int (iI (((p0 + 4) : Nat) : Int))), (1, .int (iI (((p0 + 4) : Nat) : Int))), (2, .ref a)]) B.1 B.2.1 dJ6_getChars_ba4f3_32 rfl hl (by decide) rfl (fun ls hl => ?_)
    refine lv_iload_n B.1 B.2.1 dJ6_getChars_ba4f3_33 rfl (lv_at hl 0 rfl) ?_
    refine lv_bipush (v := (iI (100))) B.1 B.2.1 dJ6_getChars_ba4f3_34 (by decide) ?_
    refine lv_imul B.1 B.2.1 dJ6_getChars_ba4f3_36 ?_
    refine lv_cv (v := (iI ((-((v / 100 : Nat) : Int)) * 100))) (iI_mul _ _) ?_
    refine lv_iload_n B.1 B.2.1 dJ6_getChars_ba4f3_37 rfl (lv_at hl 1 rfl) ?_
    refine lv_isub B.1 B.2.1 dJ6_getChars_ba4f3_38 ?_
    refine lv_cv (v := (iI (((v % 100) : Nat) : Int))) (by rw [iI_sub]; congr 1; omega) ?_
    refine lv_istore (lv' := [(4, .int (iI (((v % 100) : Nat) : Int))), (3, .int (iI (-((v / 100 : Nat) : Int)))), (0, .int (iI (-((v : Nat) : Int)))), (6, .int (iI (0))), (5, .int (iI (((p0 + 4) : Nat) : Int))), (1, .int (iI (((p0 + 4) : Nat) : Int))), (2, .ref a)]) B.1 B.2.1 dJ6_getChars_ba4f3_39 hl (by decide) rfl (fun ls hl => ?_)
    refine lv_iload_n B.1 B.2.1 dJ6_getChars_ba4f3_41 rfl (lv_at hl 1 rfl) ?_
    refine lv_istore_n (lv' := [(0, .int (iI (-((v / 100 : Nat) : Int)))), (4, .int (iI (((v % 100) : Nat) : Int))), (3, .int (iI (-((v / 100 : Nat) : Int)))), (6, .int (iI (0))), (5, .int (iI (((p0 + 4) : Nat) : Int))), (1, .int (iI (((p0 + 4) : Nat) : Int))), (2, .ref a)]) B.1 B.2.1 dJ6_getChars_ba4f3_42 rfl hl (by decide) rfl (fun ls hl => ?_)
    refine lv_aload_n B.1 B.2.1 dJ6_getChars_ba4f3_43 rfl (lv_at hl 6 rfl) ?_
    refine lv_iinc (v := (iI (((p0 + 3) : Nat) : Int))) (lv' := [(5, .int (iI (((p0 + 3) : Nat) : Int))), (0, .int (iI (-((v / 100 : Nat) : Int)))), (4, .int (iI (((v % 100) : Nat) : Int))), (3, .int (iI (-((v / 100 : Nat) : Int)))), (6, .int (iI (0))), (1, .int (iI (((p0 + 4) : Nat) : Int))), (2, .ref a)]) B.1 B.2.1 dJ6_getChars_ba4f3_44 hl (k := 4) rfl (by show iI _ + iI (-1) = _; rw [iI_add]; congr 1; omega) (by decide) rfl (fun ls hl => ?_)
    refine lv_iload B.1 B.2.1 dJ6_getChars_ba4f3_47 (lv_at hl 0 rfl) ?_
    refine va_gets B.1 B.2.1 hE.2.2.2.2.2.2.2.2.2.1 Y.2.2.2.1 B.2.2.2.1 (B.2.2.2.2 _ q_1410) (fun _ h => h) dJ6_getChars_ba4f3_49 ?_
    refine lv_iload B.1 B.2.1 dJ6_getChars_ba4f3_52 (lv_at hl 2 rfl) ?_
    refine va_tb (v := .int (iI (((48 + (v % 100) % 10) : Nat) : Int))) B.1 B.2.1 hE.one Y.2.2.2.1 (vin_of (iI_pos (by omega)) (j := (v % 100)) (iI_clamp (by omega)) (by omega)) (by rw [show ((iI (((v % 100) : Nat) : Int))).toNatClampNeg = (v % 100) from (iI_clamp (by omega))]) dJ6_getChars_ba4f3_54 ?_
    refine b_bast (j := (p0 + 3)) (g := upd (g) (p0 + 3) (iI ((48 + v % 100 % 10 : Nat) : Int))) (B' := [[(a, .inl (τ 1, n, .inl (upd (g) (p0 + 3) (iI ((48 + v % 100 % 10 : Nat) : Int)))))]]) B Y 0 rfl (iI_pos (by omega)) (iI_clamp (by omega)) (by omega) (by rw [nar_lo (by omega) (by omega)]) rfl dJ6_getChars_ba4f3_55 (fun H locs Y => ?_)
    refine lv_aload_n B.1 B.2.1 dJ6_getChars_ba4f3_56 rfl (lv_at hl 6 rfl) ?_
    refine lv_iinc (v := (iI (((p0 + 2) : Nat) : Int))) (lv' := [(5, .int (iI (((p0 + 2) : Nat) : Int))), (0, .int (iI (-((v / 100 : Nat) : Int)))), (4, .int (iI (((v % 100) : Nat) : Int))), (3, .int (iI (-((v / 100 : Nat) : Int)))), (6, .int (iI (0))), (1, .int (iI (((p0 + 4) : Nat) : Int))), (2, .ref a)]) B.1 B.2.1 dJ6_getChars_ba4f3_57 hl (k := 0) rfl (by show iI _ + iI (-1) = _; rw [iI_add]; congr 1; omega) (by decide) rfl (fun ls hl => ?_)
    refine lv_iload B.1 B.2.1 dJ6_getChars_ba4f3_60 (lv_at hl 0 rfl) ?_
    refine va_gets B.1 B.2.1 hE.2.2.2.2.2.2.2.2.2.2.1 Y.2.2.2.1 B.2.2.2.1 (B.2.2.2.2 _ q_1412) (fun _ h => h) dJ6_getChars_ba4f3_62 ?_
    refine lv_iload B.1 B.2.1 dJ6_getChars_ba4f3_65 (lv_at hl 2 rfl) ?_
    refine va_tb (v := .int (iI (((48 + (v % 100) / 10) : Nat) : Int))) B.1 B.2.1 hE.ten Y.2.2.2.1 (vin_of (iI_pos (by omega)) (j := (v % 100)) (iI_clamp (by omega)) (by omega)) (by rw [show ((iI (((v % 100) : Nat) : Int))).toNatClampNeg = (v % 100) from (iI_clamp (by omega))]) dJ6_getChars_ba4f3_67 ?_
    refine b_bast (j := (p0 + 2)) (g := upd (upd (g) (p0 + 3) (iI ((48 + v % 100 % 10 : Nat) : Int))) (p0 + 2) (iI ((48 + v % 100 / 10 : Nat) : Int))) (B' := [[(a, .inl (τ 1, n, .inl (upd (upd (g) (p0 + 3) (iI ((48 + v % 100 % 10 : Nat) : Int))) (p0 + 2) (iI ((48 + v % 100 / 10 : Nat) : Int)))))]]) B Y 0 rfl (iI_pos (by omega)) (iI_clamp (by omega)) (by omega) (by rw [nar_lo (by omega) (by omega)]) rfl dJ6_getChars_ba4f3_68 (fun H locs Y => ?_)
    refine lv_goto (tgt := 22) B.1 B.2.1 dJ6_getChars_ba4f3_69 (by decide) ?_
    refine lv_iload_n B.1 B.2.1 dJ6_getChars_ba4f3_22 rfl (lv_at hl 1 rfl) ?_
    refine lv_bipush (v := (iI (-100))) B.1 B.2.1 dJ6_getChars_ba4f3_23 (by decide) ?_
    refine lv_icmp_gt (tgt := 72) B.1 B.2.1 dJ6_getChars_ba4f3_25 (by decide) (fun _ => ?_) (fun h => absurd ((iI_lt (a := (-100)) (b := -((v / 100 : Nat) : Int)) (by omega) (by omega) (by omega) (by omega)).mpr (by omega)) h) 
    refine lv_aload_n B.1 B.2.1 dJ6_getChars_ba4f3_72 rfl (lv_at hl 6 rfl) ?_
    refine lv_iinc (v := (iI (((p0 + 1) : Nat) : Int))) (lv' := [(5, .int (iI (((p0 + 1) : Nat) : Int))), (0, .int (iI (-((v / 100 : Nat) : Int)))), (4, .int (iI (((v % 100) : Nat) : Int))), (3, .int (iI (-((v / 100 : Nat) : Int)))), (6, .int (iI (0))), (1, .int (iI (((p0 + 4) : Nat) : Int))), (2, .ref a)]) B.1 B.2.1 dJ6_getChars_ba4f3_73 hl (k := 0) rfl (by show iI _ + iI (-1) = _; rw [iI_add]; congr 1; omega) (by decide) rfl (fun ls hl => ?_)
    refine lv_iload B.1 B.2.1 dJ6_getChars_ba4f3_76 (lv_at hl 0 rfl) ?_
    refine va_gets B.1 B.2.1 hE.2.2.2.2.2.2.2.2.2.1 Y.2.2.2.1 B.2.2.2.1 (B.2.2.2.2 _ q_1410) (fun _ h => h) dJ6_getChars_ba4f3_78 ?_
    refine lv_iload_n B.1 B.2.1 dJ6_getChars_ba4f3_81 rfl (lv_at hl 1 rfl) ?_
    refine lv_ineg B.1 B.2.1 dJ6_getChars_ba4f3_82 ?_
    refine lv_cv (v := (iI (-(-((v / 100 : Nat) : Int))))) (iI_neg _) ?_
    refine va_tb (v := .int (iI (((48 + (v / 100) % 10) : Nat) : Int))) B.1 B.2.1 hE.one Y.2.2.2.1 (vin_of (iI_zpos (by omega) (by omega)) (j := v / 100) (iI_zclamp (by omega) (by omega)) (by omega)) (by rw [show ((iI (-(-((v / 100 : Nat) : Int))))).toNatClampNeg = v / 100 from (iI_zclamp (by omega) (by omega))]) dJ6_getChars_ba4f3_83 ?_
    refine b_bast (j := (p0 + 1)) (g := upd (upd (upd (g) (p0 + 3) (iI ((48 + v % 100 % 10 : Nat) : Int))) (p0 + 2) (iI ((48 + v % 100 / 10 : Nat) : Int))) (p0 + 1) (iI ((48 + v / 100 % 10 : Nat) : Int))) (B' := [[(a, .inl (τ 1, n, .inl (upd (upd (upd (g) (p0 + 3) (iI ((48 + v % 100 % 10 : Nat) : Int))) (p0 + 2) (iI ((48 + v % 100 / 10 : Nat) : Int))) (p0 + 1) (iI ((48 + v / 100 % 10 : Nat) : Int)))))]]) B Y 0 rfl (iI_pos (by omega)) (iI_clamp (by omega)) (by omega) (by rw [nar_lo (by omega) (by omega)]) rfl dJ6_getChars_ba4f3_84 (fun H locs Y => ?_)
    refine lv_iload_n B.1 B.2.1 dJ6_getChars_ba4f3_85 rfl (lv_at hl 1 rfl) ?_
    refine lv_bipush (v := (iI (-9))) B.1 B.2.1 dJ6_getChars_ba4f3_86 (by decide) ?_
    refine lv_icmp_ge (tgt := 104) B.1 B.2.1 dJ6_getChars_ba4f3_88 (by decide) (fun h => absurd h (mt (iI_le (a := (-9)) (b := -((v / 100 : Nat) : Int)) (by omega) (by omega) (by omega) (by omega)).mp (by omega))) (fun _ => ?_)
    refine lv_aload_n B.1 B.2.1 dJ6_getChars_ba4f3_91 rfl (lv_at hl 6 rfl) ?_
    refine lv_iinc (v := (iI ((p0 : Nat) : Int))) (lv' := [(5, .int (iI ((p0 : Nat) : Int))), (0, .int (iI (-((v / 100 : Nat) : Int)))), (4, .int (iI (((v % 100) : Nat) : Int))), (3, .int (iI (-((v / 100 : Nat) : Int)))), (6, .int (iI (0))), (1, .int (iI (((p0 + 4) : Nat) : Int))), (2, .ref a)]) B.1 B.2.1 dJ6_getChars_ba4f3_92 hl (k := 0) rfl (by show iI _ + iI (-1) = _; rw [iI_add]; congr 1; omega) (by decide) rfl (fun ls hl => ?_)
    refine lv_iload B.1 B.2.1 dJ6_getChars_ba4f3_95 (lv_at hl 0 rfl) ?_
    refine va_gets B.1 B.2.1 hE.2.2.2.2.2.2.2.2.2.2.1 Y.2.2.2.1 B.2.2.2.1 (B.2.2.2.2 _ q_1412) (fun _ h => h) dJ6_getChars_ba4f3_97 ?_
    refine lv_iload_n B.1 B.2.1 dJ6_getChars_ba4f3_100 rfl (lv_at hl 1 rfl) ?_
    refine lv_ineg B.1 B.2.1 dJ6_getChars_ba4f3_101 ?_
    refine lv_cv (v := (iI (-(-((v / 100 : Nat) : Int))))) (iI_neg _) ?_
    refine va_tb (v := .int (iI (((48 + (v / 100) / 10) : Nat) : Int))) B.1 B.2.1 hE.ten Y.2.2.2.1 (vin_of (iI_zpos (by omega) (by omega)) (j := v / 100) (iI_zclamp (by omega) (by omega)) (by omega)) (by rw [show ((iI (-(-((v / 100 : Nat) : Int))))).toNatClampNeg = v / 100 from (iI_zclamp (by omega) (by omega))]) dJ6_getChars_ba4f3_102 ?_
    refine b_bast (j := p0) (g := upd (upd (upd (upd (g) (p0 + 3) (iI ((48 + v % 100 % 10 : Nat) : Int))) (p0 + 2) (iI ((48 + v % 100 / 10 : Nat) : Int))) (p0 + 1) (iI ((48 + v / 100 % 10 : Nat) : Int))) p0 (iI ((48 + v / 100 / 10 : Nat) : Int))) (B' := [[(a, .inl (τ 1, n, .inl (upd (upd (upd (upd (g) (p0 + 3) (iI ((48 + v % 100 % 10 : Nat) : Int))) (p0 + 2) (iI ((48 + v % 100 / 10 : Nat) : Int))) (p0 + 1) (iI ((48 + v / 100 % 10 : Nat) : Int))) p0 (iI ((48 + v / 100 / 10 : Nat) : Int)))))]]) B Y 0 rfl (iI_pos (by omega)) (iI_clamp (by omega)) (by omega) (by rw [nar_lo (by omega) (by omega)]) rfl dJ6_getChars_ba4f3_103 (fun H locs Y => ?_)
    refine lv_iload B.1 B.2.1 dJ6_getChars_ba4f3_104 (lv_at hl 4 rfl) ?_
    refine lv_if_eq (tgt := 118) B.1 B.2.1 dJ6_getChars_ba4f3_106 (by decide) (fun _ => ?_) (fun h => absurd (by decide) h) 
    refine lv_iload B.1 B.2.1 dJ6_getChars_ba4f3_118 (lv_at hl 0 rfl) ?_
    have hF : ∀ j : Nat, (fun j => iI ((dgL v).getD j 0)) j = iI ((dgL v).getD j 0) := fun _ => rfl
    rw [hk] at hF
    have hY : upd (upd (upd (upd (g) (p0 + 3) (iI ((48 + v % 100 % 10 : Nat) : Int))) (p0 + 2) (iI ((48 + v % 100 / 10 : Nat) : Int))) (p0 + 1) (iI ((48 + v / 100 % 10 : Nat) : Int))) p0 (iI ((48 + v / 100 / 10 : Nat) : Int)) = va_cpy (fun j => iI ((dgL v).getD j 0)) g 0 p0 4 := by
      rw [← cpy_s _ _ _ 3, ← cpy_s _ _ _ 2, ← cpy_s _ _ _ 1, ← cpy_1]
      simp only [hk]; rfl
    rw [hY] at Y
    exact eI B hr hlk Y () trivial [0] (by decide) rfl (Nat.le_of_ble_eq_true rfl) (Nat.le_of_ble_eq_true rfl) dJ6_getChars_ba4f3_120

