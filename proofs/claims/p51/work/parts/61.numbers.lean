theorem lst_in (j : Nat) : 0 ≤ lstL.getD j 0 ∧ lstL.getD j 0 ≤ 1500 := by
  have h : ∀ x ∈ lstL, (0 : Int) ≤ x ∧ x ≤ 1500 := by decide +kernel
  by_cases r : j < lstL.length
  · rw [List.getD_eq_getElem?_getD, List.getElem?_eq_getElem r]; exact h _ (List.getElem_mem r)
  · rw [List.getD_eq_getElem?_getD, List.getElem?_eq_none (by omega)]; decide
theorem grt_in (j : Nat) : 0 ≤ grtL.getD j 0 ∧ grtL.getD j 0 ≤ 1500 := by
  have h : ∀ x ∈ grtL, (0 : Int) ≤ x ∧ x ≤ 1500 := by decide +kernel
  by_cases r : j < grtL.length
  · rw [List.getD_eq_getElem?_getD, List.getElem?_eq_getElem r]; exact h _ (List.getElem_mem r)
  · rw [List.getD_eq_getElem?_getD, List.getElem?_eq_none (by omega)]; decide
set_option maxHeartbeats 4000000 in
set_option maxRecDepth 100000 in
theorem k_valueIn_num (l : Launch) (D : va_G) (τ : Nat → ClassId) (sz : Nat) (K : Nat → Nat) (j : Nat) (hj : j < 10) : Met l yX9_valueIn (Cond.code yX9_valueIn cX9_valueIn 2 (some .int) :: wALL) { frames := 0, cells := 0, slots := 0, locals := 0 } (PwE (Ke K) D τ (bl []) sz [.ref (K 100), .int (iI ((j : Nat) : Int))]) (va_Qi (fun (r : Int32) (_ : Unit) => r = iI (numL.getD j 0)) (Bb D (va_A (bl []) sz) (fun (_ : Unit) => [])) (va_A (bl []) sz)) 0 0 (va_A (bl []) sz) := by
  refine bodyE (by decide +kernel) (Nat.le_of_ble_eq_true rfl) (fun p e s m below meth c ls B hr hlk hin hsz Y hE hl => ?_)
  have hl : lv_has ls 2 [(0, .ref (K 100)), (1, .int (iI ((j : Nat) : Int)))] := hl
  have B : CallFix p m c cX9_valueIn 2 s _ wALL RX9 := B
  generalize va_A (bl []) sz = A at Y hE ⊢
  refine lv_iload_n B.1 B.2.1 dX9_valueIn_0 rfl (lv_at hl 1 rfl) ?_
  refine lv_if_lt (tgt := 16) B.1 B.2.1 dX9_valueIn_1 (by decide) (fun h => absurd h (mt (iI_lt0 (a := ((j : Nat) : Int)) (by omega) (by omega)).mp (by omega))) (fun _ => ?_)
  refine lv_iload_n B.1 B.2.1 dX9_valueIn_4 rfl (lv_at hl 1 rfl) ?_
  refine lv_aload_n B.1 B.2.1 dX9_valueIn_5 rfl (lv_at hl 0 rfl) ?_
  refine va_tlen (v := (iI (10))) B.1 B.2.1 hE.num Y.2.2.2.1 (by decide) dX9_valueIn_6 ?_
  refine lv_icmp_ge (tgt := 16) B.1 B.2.1 dX9_valueIn_7 (by decide) (fun h => absurd h (mt (iI_le (a := 10) (b := ((j : Nat) : Int)) (by omega) (by omega) (by omega) (by omega)).mp (by omega))) (fun _ => ?_)
  refine lv_aload_n B.1 B.2.1 dX9_valueIn_10 rfl (lv_at hl 0 rfl) ?_
  refine lv_iload_n B.1 B.2.1 dX9_valueIn_11 rfl (lv_at hl 1 rfl) ?_
  refine va_ti (v := .int (iI (numL.getD j 0))) B.1 B.2.1 hE.num Y.2.2.2.1 (vin_of (iI_pos (by omega)) (j := j) (iI_clamp (by omega)) (by omega)) (by rw [show ((iI ((j : Nat) : Int))).toNatClampNeg = j from (iI_clamp (by omega))]) dX9_valueIn_12 ?_
  refine lv_goto (tgt := 17) B.1 B.2.1 dX9_valueIn_13 (by decide) ?_
  exact eI B hr hlk Y () rfl [] (by decide) rfl (Nat.le_of_ble_eq_true rfl) (Nat.le_of_ble_eq_true rfl) dX9_valueIn_17

set_option maxHeartbeats 4000000 in
set_option maxRecDepth 100000 in
theorem k_valueIn_lst (l : Launch) (D : va_G) (τ : Nat → ClassId) (sz : Nat) (K : Nat → Nat) (j : Nat) (hj : j < 40) : Met l yX9_valueIn (Cond.code yX9_valueIn cX9_valueIn 2 (some .int) :: wALL) { frames := 0, cells := 0, slots := 0, locals := 0 } (PwE (Ke K) D τ (bl []) sz [.ref (K 101), .int (iI ((j : Nat) : Int))]) (va_Qi (fun (r : Int32) (_ : Unit) => r = iI (lstL.getD j 0)) (Bb D (va_A (bl []) sz) (fun (_ : Unit) => [])) (va_A (bl []) sz)) 0 0 (va_A (bl []) sz) := by
  refine bodyE (by decide +kernel) (Nat.le_of_ble_eq_true rfl) (fun p e s m below meth c ls B hr hlk hin hsz Y hE hl => ?_)
  have hl : lv_has ls 2 [(0, .ref (K 101)), (1, .int (iI ((j : Nat) : Int)))] := hl
  have B : CallFix p m c cX9_valueIn 2 s _ wALL RX9 := B
  generalize va_A (bl []) sz = A at Y hE ⊢
  refine lv_iload_n B.1 B.2.1 dX9_valueIn_0 rfl (lv_at hl 1 rfl) ?_
  refine lv_if_lt (tgt := 16) B.1 B.2.1 dX9_valueIn_1 (by decide) (fun h => absurd h (mt (iI_lt0 (a := ((j : Nat) : Int)) (by omega) (by omega)).mp (by omega))) (fun _ => ?_)
  refine lv_iload_n B.1 B.2.1 dX9_valueIn_4 rfl (lv_at hl 1 rfl) ?_
  refine lv_aload_n B.1 B.2.1 dX9_valueIn_5 rfl (lv_at hl 0 rfl) ?_
  refine va_tlen (v := (iI (40))) B.1 B.2.1 hE.lst Y.2.2.2.1 (by decide) dX9_valueIn_6 ?_
  refine lv_icmp_ge (tgt := 16) B.1 B.2.1 dX9_valueIn_7 (by decide) (fun h => absurd h (mt (iI_le (a := 40) (b := ((j : Nat) : Int)) (by omega) (by omega) (by omega) (by omega)).mp (by omega))) (fun _ => ?_)
  refine lv_aload_n B.1 B.2.1 dX9_valueIn_10 rfl (lv_at hl 0 rfl) ?_
  refine lv_iload_n B.1 B.2.1 dX9_valueIn_11 rfl (lv_at hl 1 rfl) ?_
  refine va_ti (v := .int (iI (lstL.getD j 0))) B.1 B.2.1 hE.lst Y.2.2.2.1 (vin_of (iI_pos (by omega)) (j := j) (iI_clamp (by omega)) (by omega)) (by rw [show ((iI ((j : Nat) : Int))).toNatClampNeg = j from (iI_clamp (by omega))]) dX9_valueIn_12 ?_
  refine lv_goto (tgt := 17) B.1 B.2.1 dX9_valueIn_13 (by decide) ?_
  exact eI B hr hlk Y () rfl [] (by decide) rfl (Nat.le_of_ble_eq_true rfl) (Nat.le_of_ble_eq_true rfl) dX9_valueIn_17

set_option maxHeartbeats 4000000 in
set_option maxRecDepth 100000 in
theorem k_valueIn_grt (l : Launch) (D : va_G) (τ : Nat → ClassId) (sz : Nat) (K : Nat → Nat) (j : Nat) (hj : j < 40) : Met l yX9_valueIn (Cond.code yX9_valueIn cX9_valueIn 2 (some .int) :: wALL) { frames := 0, cells := 0, slots := 0, locals := 0 } (PwE (Ke K) D τ (bl []) sz [.ref (K 102), .int (iI ((j : Nat) : Int))]) (va_Qi (fun (r : Int32) (_ : Unit) => r = iI (grtL.getD j 0)) (Bb D (va_A (bl []) sz) (fun (_ : Unit) => [])) (va_A (bl []) sz)) 0 0 (va_A (bl []) sz) := by
  refine bodyE (by decide +kernel) (Nat.le_of_ble_eq_true rfl) (fun p e s m below meth c ls B hr hlk hin hsz Y hE hl => ?_)
  have hl : lv_has ls 2 [(0, .ref (K 102)), (1, .int (iI ((j : Nat) : Int)))] := hl
  have B : CallFix p m c cX9_valueIn 2 s _ wALL RX9 := B
  generalize va_A (bl []) sz = A at Y hE ⊢
  refine lv_iload_n B.1 B.2.1 dX9_valueIn_0 rfl (lv_at hl 1 rfl) ?_
  refine lv_if_lt (tgt := 16) B.1 B.2.1 dX9_valueIn_1 (by decide) (fun h => absurd h (mt (iI_lt0 (a := ((j : Nat) : Int)) (by omega) (by omega)).mp (by omega))) (fun _ => ?_)
  refine lv_iload_n B.1 B.2.1 dX9_valueIn_4 rfl (lv_at hl 1 rfl) ?_
  refine lv_aload_n B.1 B.2.1 dX9_valueIn_5 rfl (lv_at hl 0 rfl) ?_
  refine va_tlen (v := (iI (40))) B.1 B.2.1 hE.grt Y.2.2.2.1 (by decide) dX9_valueIn_6 ?_
  refine lv_icmp_ge (tgt := 16) B.1 B.2.1 dX9_valueIn_7 (by decide) (fun h => absurd h (mt (iI_le (a := 40) (b := ((j : Nat) : Int)) (by omega) (by omega) (by omega) (by omega)).mp (by omega))) (fun _ => ?_)
  refine lv_aload_n B.1 B.2.1 dX9_valueIn_10 rfl (lv_at hl 0 rfl) ?_
  refine lv_iload_n B.1 B.2.1 dX9_valueIn_11 rfl (lv_at hl 1 rfl) ?_
  refine va_ti (v := .int (iI (grtL.getD j 0))) B.1 B.2.1 hE.grt Y.2.2.2.1 (vin_of (iI_pos (by omega)) (j := j) (iI_clamp (by omega)) (by omega)) (by rw [show ((iI ((j : Nat) : Int))).toNatClampNeg = j from (iI_clamp (by omega))]) dX9_valueIn_12 ?_
  refine lv_goto (tgt := 17) B.1 B.2.1 dX9_valueIn_13 (by decide) ?_
  exact eI B hr hlk Y () rfl [] (by decide) rfl (Nat.le_of_ble_eq_true rfl) (Nat.le_of_ble_eq_true rfl) dX9_valueIn_17

set_option maxHeartbeats 4000000 in
set_option maxRecDepth 100000 in
theorem k_isNumberRead (l : Launch) (D : va_G) (τ : Nat → ClassId) (sz : Nat) (K : Nat → Nat) (rd ri rk rn ro rt L cnt : Nat) (io er ea : Int) (b : Nat → Int) (hL : L ≤ 500) (hb : BOk b) (pt qe k wh : Nat) (Ds : List Int) (v0 : Int) (nu : Nat → Int) (hDs : ats b pt Ds) (hD1 : 1 ≤ Ds.length) (hD4 : Ds.length ≤ 4) (hdg : ∀ x ∈ Ds, (48 : Int) ≤ x ∧ x ≤ 57) (hDL : pt + Ds.length ≤ L) (hnd : pt + Ds.length < L → b (pt + Ds.length) < 48 ∨ 57 < b (pt + Ds.length)) (hq1 : pt + Ds.length ≤ qe) (hq2 : qe ≤ L) (hsp : ∀ j : Nat, pt + Ds.length ≤ j → j < qe → b j = 32) (hen : qe < L → b qe ≠ 32) (hv : decL Ds = v0) (hv9 : 0 ≤ v0 ∧ v0 ≤ 9999) (hk : k < 10) (hk6 : k ≠ 6) (hwh : wh < 4) (hlo : lstL.getD (4 * k + wh) 0 ≤ v0) (hhi : v0 ≤ grtL.getD (4 * k + wh) 0) (hcnt : cnt < 48) : Met l yX6_isNumberRead (Cond.code yX6_isNumberRead cX6_isNumberRead 8 (some .boolean) :: wALL) { frames := 2, cells := 0, slots := 0, locals := 40 } (PwE (Ke K) D τ (bl [[(rd, .inr (8, [.ref ri, .int (iI (((L : Nat) : Int))), .int (iI (((pt : Nat) : Int))), .int (iI (io)), .int (iI (er)), .int (iI (ea)), .int (iI (((cnt : Nat) : Int))), .ref rk, .ref rn, .ref ro, .ref rt]))], [(ri, .inl (τ 1, 500, .inl (fun j => iI ((b) j))))], [(rn, .inl (τ 0, 192, .inl (fun j => iI ((nu) j))))]]) sz [.ref rd, .int (iI ((k : Nat) : Int)), .int (iI ((wh : Nat) : Int))]) (va_Qi (fun (r : Int32) (_ : Unit) => r = 1) (Bb D (va_A (bl [[(rd, .inr (8, [.ref ri, .int (iI (((L : Nat) : Int))), .int (iI (((pt : Nat) : Int))), .int (iI (io)), .int (iI (er)), .int (iI (ea)), .int (iI (((cnt : Nat) : Int))), .ref rk, .ref rn, .ref ro, .ref rt]))], [(ri, .inl (τ 1, 500, .inl (fun j => iI ((b) j))))], [(rn, .inl (τ 0, 192, .inl (fun j => iI ((nu) j))))]]) sz) (fun (_ : Unit) => [[(rd, .inr (8, [.ref ri, .int (iI (((L : Nat) : Int))), .int (iI (((qe : Nat) : Int))), .int (iI (io)), .int (iI (er)), .int (iI (ea)), .int (iI (((cnt : Nat) : Int))), .ref rk, .ref rn, .ref ro, .ref rt]))], [(ri, .inl (τ 1, 500, .inl (fun j => iI ((b) j))))], [(rn, .inl (τ 0, 192, .inl (fun j => iI ((upz nu (4 * cnt + wh) v0) j))))]])) (va_A (bl [[(rd, .inr (8, [.ref ri, .int (iI (((L : Nat) : Int))), .int (iI (((pt : Nat) : Int))), .int (iI (io)), .int (iI (er)), .int (iI (ea)), .int (iI (((cnt : Nat) : Int))), .ref rk, .ref rn, .ref ro, .ref rt]))], [(ri, .inl (τ 1, 500, .inl (fun j => iI ((b) j))))], [(rn, .inl (τ 0, 192, .inl (fun j => iI ((nu) j))))]]) sz)) 0 0 (va_A (bl [[(rd, .inr (8, [.ref ri, .int (iI (((L : Nat) : Int))), .int (iI (((pt : Nat) : Int))), .int (iI (io)), .int (iI (er)), .int (iI (ea)), .int (iI (((cnt : Nat) : Int))), .ref rk, .ref rn, .ref ro, .ref rt]))], [(ri, .inl (τ 1, 500, .inl (fun j => iI ((b) j))))], [(rn, .inl (τ 0, 192, .inl (fun j => iI ((nu) j))))]]) sz) := by
  refine bodyE (by decide +kernel) (Nat.le_of_ble_eq_true rfl) (fun p e s m below meth c ls B hr hlk hin hsz Y hE hl => ?_)
  have hl : lv_has ls 8 [(0, .ref rd), (1, .int (iI ((k : Nat) : Int))), (2, .int (iI ((wh : Nat) : Int)))] := hl
  have B : CallFix p m c cX6_isNumberRead 8 s _ wALL RX6 := B
  generalize va_A (bl [[(rd, .inr (8, [.ref ri, .int (iI (((L : Nat) : Int))), .int (iI (((pt : Nat) : Int))), .int (iI (io)), .int (iI (er)), .int (iI (ea)), .int (iI (((cnt : Nat) : Int))), .ref rk, .ref rn, .ref ro, .ref rt]))], [(ri, .inl (τ 1, 500, .inl (fun j => iI ((b) j))))], [(rn, .inl (τ 0, 192, .inl (fun j => iI ((nu) j))))]]) sz = A at Y hE ⊢
  have hl1 := lst_in (4 * k + wh)
  have hl2 := grt_in (4 * k + wh)
  refine lv_aload_n B.1 B.2.1 dX6_isNumberRead_0 rfl (lv_at hl 0 rfl) ?_
  refine gf_X6_19 B Y 0 rfl rfl dX6_isNumberRead_1 ?_
  refine lv_istore_n (lv' := [(3, .int (iI (((pt : Nat) : Int)))), (0, .ref rd), (1, .int (iI ((k : Nat) : Int))), (2, .int (iI ((wh : Nat) : Int)))]) B.1 B.2.1 dX6_isNumberRead_4 rfl hl (by decide) rfl (fun ls hl => ?_)
  refine lv_iconst (v := (iI (0))) B.1 B.2.1 dX6_isNumberRead_5 (by decide) ?_
  refine lv_istore (lv' := [(4, .int (iI (0))), (3, .int (iI (((pt : Nat) : Int)))), (0, .ref rd), (1, .int (iI ((k : Nat) : Int))), (2, .int (iI ((wh : Nat) : Int)))]) B.1 B.2.1 dX6_isNumberRead_6 hl (by decide) rfl (fun ls hl => ?_)
  refine lv_iconst (v := (iI (0))) B.1 B.2.1 dX6_isNumberRead_8 (by decide) ?_
  refine lv_istore (lv' := [(5, .int (iI (0))), (4, .int (iI (0))), (3, .int (iI (((pt : Nat) : Int)))), (0, .ref rd), (1, .int (iI ((k : Nat) : Int))), (2, .int (iI ((wh : Nat) : Int)))]) B.1 B.2.1 dX6_isNumberRead_9 hl (by decide) rfl (fun ls hl => ?_)
  have hl : lv_has ls 8 [(0, .ref rd), (1, .int (iI ((k : Nat) : Int))), (2, .int (iI ((wh : Nat) : Int))), (3, .int (iI ((pt : Nat) : Int))), (4, .int (iI (decL (Ds.take 0)))), (5, .int (iI ((0 : Nat) : Int)))] := lv_sub hl [3, 4, 5, 2, 1, 0] rfl
  refine loopW (n := Ds.length) (P := fun (i : Nat) (H : Heap) (locs : List Loc) (ls : Array Slot) => lv_has ls 8 [(0, .ref rd), (1, .int (iI ((k : Nat) : Int))), (2, .int (iI ((wh : Nat) : Int))), (3, .int (iI ((pt : Nat) : Int))), (4, .int (iI (decL (Ds.take i)))), (5, .int (iI ((i : Nat) : Int)))] ∧ Wd D τ s A s.heap (bl [[(rd, .inr (8, [.ref ri, .int (iI (((L : Nat) : Int))), .int (iI ((((pt + i) : Nat) : Int))), .int (iI (io)), .int (iI (er)), .int (iI (ea)), .int (iI (((cnt : Nat) : Int))), .ref rk, .ref rn, .ref ro, .ref rt]))], [(ri, .inl (τ 1, 500, .inl (fun j => iI ((b) j))))], [(rn, .inl (τ 0, 192, .inl (fun j => iI ((nu) j))))]]) H locs) 0 (Nat.zero_le _) ⟨lv_sub hl [0, 1, 2, 3, 4, 5] rfl, Y.pick [0, 1, 2] (by decide) rfl⟩ (fun H locs ls hP => ?_) (fun i hlt H locs ls hP ih => ?_)
  · obtain ⟨hl, Y⟩ := hP
    have hvv : decL (Ds.take Ds.length) = v0 := by rw [List.take_length]; exact hv
    rw [hvv] at hl
    have hsg := sgI_in hb L (pt + Ds.length)
    refine lv_aload_n B.1 B.2.1 dX6_isNumberRead_11 rfl (lv_at hl 0 rfl) ?_
    refine gf_X6_19 B Y 0 rfl rfl dX6_isNumberRead_12 ?_
    refine lv_aload_n B.1 B.2.1 dX6_isNumberRead_15 rfl (lv_at hl 0 rfl) ?_
    refine gf_X6_15 B Y 0 rfl rfl dX6_isNumberRead_16 ?_
    refine lv_icmp_ge (tgt := 66) B.1 B.2.1 dX6_isNumberRead_19 (by decide) (fun c1 => ?_) (fun c1 => ?_)
    · have c1 := (iI_le (a := ((L : Nat) : Int)) (b := (((pt + Ds.length) : Nat) : Int)) (by omega) (by omega) (by omega) (by omega)).mp c1
      refine lv_iload B.1 B.2.1 dX6_isNumberRead_66 (lv_at hl 5 rfl) ?_
      refine lv_if_eq (tgt := 77) B.1 B.2.1 dX6_isNumberRead_68 (by decide) (fun h => absurd h (mt (iI_eq0 (a := ((Ds.length : Nat) : Int)) (by omega) (by omega)).mp (by omega))) (fun _ => ?_)
      refine lv_iload B.1 B.2.1 dX6_isNumberRead_71 (lv_at hl 5 rfl) ?_
      refine lv_iconst (v := (iI (4))) B.1 B.2.1 dX6_isNumberRead_73 (by decide) ?_
      refine lv_icmp_le (tgt := 84) B.1 B.2.1 dX6_isNumberRead_74 (by decide) (fun _ => ?_) (fun h => absurd ((iI_le (a := ((Ds.length : Nat) : Int)) (b := 4) (by omega) (by omega) (by omega) (by omega)).mpr (by omega)) h) 
      refine lv_iload_n B.1 B.2.1 dX6_isNumberRead_84 rfl (lv_at hl 1 rfl) ?_
      refine lv_iconst (v := (iI (4))) B.1 B.2.1 dX6_isNumberRead_85 (by decide) ?_
      refine lv_imul B.1 B.2.1 dX6_isNumberRead_86 ?_
      refine lv_cv (v := (iI (((4 * k) : Nat) : Int))) (by rw [iI_mul]; congr 1; omega) ?_
      refine lv_iload_n B.1 B.2.1 dX6_isNumberRead_87 rfl (lv_at hl 2 rfl) ?_
      refine lv_iadd B.1 B.2.1 dX6_isNumberRead_88 ?_
      refine lv_cv (v := (iI (((4 * k + wh) : Nat) : Int))) (iI_add _ _) ?_
      refine lv_istore (lv' := [(6, .int (iI (((4 * k + wh) : Nat) : Int))), (0, .ref rd), (1, .int (iI ((k : Nat) : Int))), (2, .int (iI ((wh : Nat) : Int))), (3, .int (iI ((pt : Nat) : Int))), (4, .int (iI (v0))), (5, .int (iI ((Ds.length : Nat) : Int)))]) B.1 B.2.1 dX6_isNumberRead_89 hl (by decide) rfl (fun ls hl => ?_)
      refine lv_iload_n B.1 B.2.1 dX6_isNumberRead_91 rfl (lv_at hl 2 rfl) ?_
      refine lv_bipush (v := (iI (6))) B.1 B.2.1 dX6_isNumberRead_92 (by decide) ?_
      refine lv_icmp_ne (tgt := 114) B.1 B.2.1 dX6_isNumberRead_94 (by decide) (fun _ => ?_) (fun h => absurd h (mt (iI_eq (a := ((k : Nat) : Int)) (b := 6) (by omega) (by omega) (by omega) (by omega)).mp (by omega))) 
      refine lv_iconst (v := (iI (0))) B.1 B.2.1 dX6_isNumberRead_114 (by decide) ?_
      refine lv_istore (lv' := [(7, .int (iI (0))), (6, .int (iI (((4 * k + wh) : Nat) : Int))), (0, .ref rd), (1, .int (iI ((k : Nat) : Int))), (2, .int (iI ((wh : Nat) : Int))), (3, .int (iI ((pt : Nat) : Int))), (4, .int (iI (v0))), (5, .int (iI ((Ds.length : Nat) : Int)))]) B.1 B.2.1 dX6_isNumberRead_115 hl (by decide) rfl (fun ls hl => ?_)
      refine lv_iload B.1 B.2.1 dX6_isNumberRead_117 (lv_at hl 6 rfl) ?_
      refine va_gets B.1 B.2.1 hE.2.2.2.2.1 Y.2.2.2.1 B.2.2.2.1 (B.2.2.2.2 _ q_843) (fun _ h => h) dX6_isNumberRead_119 ?_
      refine lv_iload B.1 B.2.1 dX6_isNumberRead_122 (lv_at hl 1 rfl) ?_
      refine qI (Cs := []) (Rs := [[(rd, .inr (8, [.ref ri, .int (iI (((L : Nat) : Int))), .int (iI ((((pt + Ds.length) : Nat) : Int))), .int (iI (io)), .int (iI (er)), .int (iI (ea)), .int (iI (((cnt : Nat) : Int))), .ref rk, .ref rn, .ref ro, .ref rt]))], [(ri, .inl (τ 1, 500, .inl (fun j => iI ((b) j))))], [(rn, .inl (τ 0, 192, .inl (fun j => iI ((nu) j))))]]) Y [] [0, 1, 2] (by decide) rfl (cSNE (As := [.ref (K 101), .int (iI (((4 * k + wh) : Nat) : Int))]) (rest := [.int (iI (v0))]) (Ke.ok K) hE B Y [] (by decide) rfl (k_valueIn_lst l D τ _ K (4 * k + wh) (by omega)) (Y.1.2.1 _ nw_825) q_567 q_2 q_568 rfl rfl hd_X9_valueIn ⟨(Nat.le_of_ble_eq_true rfl), (Nat.le_of_ble_eq_true rfl)⟩ rfl hl.1 rfl (Nat.le_of_ble_eq_true rfl) dX6_isNumberRead_124 ⟨(Nat.le_of_ble_eq_true rfl), (Nat.le_of_ble_eq_true rfl)⟩) (fun r u H locs hw Y => ?_)
      subst hw
      have Y : Wd D τ s A s.heap (bl [[(rd, .inr (8, [.ref ri, .int (iI (((L : Nat) : Int))), .int (iI ((((pt + Ds.length) : Nat) : Int))), .int (iI (io)), .int (iI (er)), .int (iI (ea)), .int (iI (((cnt : Nat) : Int))), .ref rk, .ref rn, .ref ro, .ref rt]))], [(ri, .inl (τ 1, 500, .inl (fun j => iI ((b) j))))], [(rn, .inl (τ 0, 192, .inl (fun j => iI ((nu) j))))]]) _ _ := Y
      refine lv_icmp_lt (tgt := 148) B.1 B.2.1 dX6_isNumberRead_127 (by decide) (fun h => absurd h (mt (iI_lt (a := v0) (b := lstL.getD (4 * k + wh) 0) (by omega) (by omega) (by omega) (by omega)).mp (by omega))) (fun _ => ?_)
      refine lv_iload B.1 B.2.1 dX6_isNumberRead_130 (lv_at hl 6 rfl) ?_
      refine va_gets B.1 B.2.1 hE.2.2.2.2.2.1 Y.2.2.2.1 B.2.2.2.1 (B.2.2.2.2 _ q_845) (fun _ h => h) dX6_isNumberRead_132 ?_
      refine lv_iload B.1 B.2.1 dX6_isNumberRead_135 (lv_at hl 1 rfl) ?_
      refine qI (Cs := []) (Rs := [[(rd, .inr (8, [.ref ri, .int (iI (((L : Nat) : Int))), .int (iI ((((pt + Ds.length) : Nat) : Int))), .int (iI (io)), .int (iI (er)), .int (iI (ea)), .int (iI (((cnt : Nat) : Int))), .ref rk, .ref rn, .ref ro, .ref rt]))], [(ri, .inl (τ 1, 500, .inl (fun j => iI ((b) j))))], [(rn, .inl (τ 0, 192, .inl (fun j => iI ((nu) j))))]]) Y [] [0, 1, 2] (by decide) rfl (cSNE (As := [.ref (K 102), .int (iI (((4 * k + wh) : Nat) : Int))]) (rest := [.int (iI (v0))]) (Ke.ok K) hE B Y [] (by decide) rfl (k_valueIn_grt l D τ _ K (4 * k + wh) (by omega)) (Y.1.2.1 _ nw_825) q_567 q_2 q_568 rfl rfl hd_X9_valueIn ⟨(Nat.le_of_ble_eq_true rfl), (Nat.le_of_ble_eq_true rfl)⟩ rfl hl.1 rfl (Nat.le_of_ble_eq_true rfl) dX6_isNumberRead_137 ⟨(Nat.le_of_ble_eq_true rfl), (Nat.le_of_ble_eq_true rfl)⟩) (fun r u H locs hw Y => ?_)
      subst hw
      have Y : Wd D τ s A s.heap (bl [[(rd, .inr (8, [.ref ri, .int (iI (((L : Nat) : Int))), .int (iI ((((pt + Ds.length) : Nat) : Int))), .int (iI (io)), .int (iI (er)), .int (iI (ea)), .int (iI (((cnt : Nat) : Int))), .ref rk, .ref rn, .ref ro, .ref rt]))], [(ri, .inl (τ 1, 500, .inl (fun j => iI ((b) j))))], [(rn, .inl (τ 0, 192, .inl (fun j => iI ((nu) j))))]]) _ _ := Y
      refine lv_icmp_gt (tgt := 148) B.1 B.2.1 dX6_isNumberRead_140 (by decide) (fun h => absurd h (mt (iI_lt (a := grtL.getD (4 * k + wh) 0) (b := v0) (by omega) (by omega) (by omega) (by omega)).mp (by omega))) (fun _ => ?_)
      refine lv_iload B.1 B.2.1 dX6_isNumberRead_143 (lv_at hl 0 rfl) ?_
      refine lv_if_eq (tgt := 155) B.1 B.2.1 dX6_isNumberRead_145 (by decide) (fun _ => ?_) (fun h => absurd (by decide) h) 
      refine lv_aload_n B.1 B.2.1 dX6_isNumberRead_155 rfl (lv_at hl 2 rfl) ?_
      refine gf_X6_39 B Y 0 rfl rfl dX6_isNumberRead_156 ?_
      refine lv_aload_n B.1 B.2.1 dX6_isNumberRead_159 rfl (lv_at hl 2 rfl) ?_
      refine gf_X6_32 B Y 0 rfl rfl dX6_isNumberRead_160 ?_
      refine lv_iconst (v := (iI (4))) B.1 B.2.1 dX6_isNumberRead_163 (by decide) ?_
      refine lv_imul B.1 B.2.1 dX6_isNumberRead_164 ?_
      refine lv_cv (v := (iI (((4 * cnt) : Nat) : Int))) (by rw [iI_mul]; congr 1; omega) ?_
      refine lv_iload_n B.1 B.2.1 dX6_isNumberRead_165 rfl (lv_at hl 4 rfl) ?_
      refine lv_iadd B.1 B.2.1 dX6_isNumberRead_166 ?_
      refine lv_cv (v := (iI (((4 * cnt + wh) : Nat) : Int))) (iI_add _ _) ?_
      refine lv_iload B.1 B.2.1 dX6_isNumberRead_167 (lv_at hl 6 rfl) ?_
      refine qV (Cs := [[(rn, .inl (τ 0, 192, .inl (fun j => iI ((nu) j))))]]) (Rs := [[(rd, .inr (8, [.ref ri, .int (iI (((L : Nat) : Int))), .int (iI ((((pt + Ds.length) : Nat) : Int))), .int (iI (io)), .int (iI (er)), .int (iI (ea)), .int (iI (((cnt : Nat) : Int))), .ref rk, .ref rn, .ref ro, .ref rt]))], [(ri, .inl (τ 1, 500, .inl (fun j => iI ((b) j))))]]) Y [2] [0, 1] (by decide) rfl (cSN (As := [.ref rn, .int (iI (((4 * cnt + wh) : Nat) : Int)), .int (iI (v0))]) (rest := []) B Y [2] (by decide) rfl (k_setIn l D τ _ rn 192 (4 * cnt + wh) (fun j => iI ((nu) j)) (iI (v0)) (by omega) (by decide)) (Y.1.2.1 _ nw_830) q_831 q_2 q_832 rfl rfl hd_X9_setIn ⟨(Nat.le_of_ble_eq_true rfl), (Nat.le_of_ble_eq_true rfl)⟩ rfl hl.1 rfl (Nat.le_of_ble_eq_true rfl) dX6_isNumberRead_169 ⟨(Nat.le_of_ble_eq_true rfl), (Nat.le_of_ble_eq_true rfl)⟩) (fun u H locs hw Y => ?_)
      rw [upz_ok] at Y
      have Y : Wd D τ s A s.heap (bl [[(rn, .inl (τ 0, 192, .inl (fun j => iI ((upz (nu) (4 * cnt + wh) (v0)) j))))], [(rd, .inr (8, [.ref ri, .int (iI (((L : Nat) : Int))), .int (iI ((((pt + Ds.length) : Nat) : Int))), .int (iI (io)), .int (iI (er)), .int (iI (ea)), .int (iI (((cnt : Nat) : Int))), .ref rk, .ref rn, .ref ro, .ref rt]))], [(ri, .inl (τ 1, 500, .inl (fun j => iI ((b) j))))]]) _ _ := Y
      refine lv_aload_n B.1 B.2.1 dX6_isNumberRead_172 rfl (lv_at hl 2 rfl) ?_
      refine qV (Cs := [[(rd, .inr (8, [.ref ri, .int (iI (((L : Nat) : Int))), .int (iI ((((pt + Ds.length) : Nat) : Int))), .int (iI (io)), .int (iI (er)), .int (iI (ea)), .int (iI (((cnt : Nat) : Int))), .ref rk, .ref rn, .ref ro, .ref rt]))], [(ri, .inl (τ 1, 500, .inl (fun j => iI ((b) j))))]]) (Rs := [[(rn, .inl (τ 0, 192, .inl (fun j => iI ((upz (nu) (4 * cnt + wh) (v0)) j))))]]) Y [1, 2] [0] (by decide) rfl (cV (As := []) (rest := []) (q0 := 1) B Y [1, 2] (by decide) rfl (k_skipSpaces l D τ _ rd ri rk rn ro rt L (io) (er) (ea) (((cnt : Nat) : Int)) b (by omega) hb (pt + Ds.length) qe hq1 hq2 hsp hen) rfl rfl q_778 q_780 qp_5 q_3 q_781 rfl rfl hd_X6_skipSpaces ⟨(Nat.le_of_ble_eq_true rfl), (Nat.le_of_ble_eq_true rfl)⟩ rfl hl.1 rfl (Nat.le_of_ble_eq_true rfl) dX6_isNumberRead_173 ⟨(Nat.le_of_ble_eq_true rfl), (Nat.le_of_ble_eq_true rfl)⟩) (fun u H locs hw Y => ?_)
      have Y : Wd D τ s A s.heap (bl [[(rd, .inr (8, [.ref ri, .int (iI (((L : Nat) : Int))), .int (iI ((qe : Nat) : Int)), .int (iI (io)), .int (iI (er)), .int (iI (ea)), .int (iI (((cnt : Nat) : Int))), .ref rk, .ref rn, .ref ro, .ref rt]))], [(ri, .inl (τ 1, 500, .inl (fun j => iI ((b) j))))], [(rn, .inl (τ 0, 192, .inl (fun j => iI ((upz (nu) (4 * cnt + wh) (v0)) j))))]]) _ _ := Y
      refine lv_iconst (v := (iI (1))) B.1 B.2.1 dX6_isNumberRead_176 (by decide) ?_
      exact eZ B hr hlk Y (by decide) () rfl [0, 1, 2] (by decide) rfl (Nat.le_of_ble_eq_true rfl) (Nat.le_of_ble_eq_true rfl) dX6_isNumberRead_177
    · have c1 := mt (iI_le (a := ((L : Nat) : Int)) (b := (((pt + Ds.length) : Nat) : Int)) (by omega) (by omega) (by omega) (by omega)).mpr c1
      have hsq : sgI b L (pt + Ds.length) = b (pt + Ds.length) := sgI_at (by omega)
      have hnd2 := hnd (by omega)
      refine lv_aload_n B.1 B.2.1 dX6_isNumberRead_22 rfl (lv_at hl 0 rfl) ?_
      refine qI (Cs := [[(rd, .inr (8, [.ref ri, .int (iI (((L : Nat) : Int))), .int (iI ((((pt + Ds.length) : Nat) : Int))), .int (iI (io)), .int (iI (er)), .int (iI (ea)), .int (iI (((cnt : Nat) : Int))), .ref rk, .ref rn, .ref ro, .ref rt]))], [(ri, .inl (τ 1, 500, .inl (fun j => iI ((b) j))))]]) (Rs := [[(rn, .inl (τ 0, 192, .inl (fun j => iI ((nu) j))))]]) Y [0, 1] [2] (by decide) rfl (cV (As := []) (rest := []) (q0 := 0) B Y [0, 1] (by decide) rfl (k_isDigit l D τ _ rd ri rk rn ro rt L (io) (er) (ea) (((cnt : Nat) : Int)) b (by omega) hb (pt + Ds.length) (by omega)) rfl rfl q_839 q_841 qp_15 q_3 q_842 rfl rfl hd_X6_isDigit ⟨(Nat.le_of_ble_eq_true rfl), (Nat.le_of_ble_eq_true rfl)⟩ rfl hl.1 rfl (Nat.le_of_ble_eq_true rfl) dX6_isNumberRead_23 ⟨(Nat.le_of_ble_eq_true rfl), (Nat.le_of_ble_eq_true rfl)⟩) (fun r u H locs hw Y => ?_)
      subst hw
      have Y : Wd D τ s A s.heap (bl [[(rd, .inr (8, [.ref ri, .int (iI (((L : Nat) : Int))), .int (iI ((((pt + Ds.length) : Nat) : Int))), .int (iI (io)), .int (iI (er)), .int (iI (ea)), .int (iI (((cnt : Nat) : Int))), .ref rk, .ref rn, .ref ro, .ref rt]))], [(ri, .inl (τ 1, 500, .inl (fun j => iI ((b) j))))], [(rn, .inl (τ 0, 192, .inl (fun j => iI ((nu) j))))]]) _ _ := Y
      refine lv_if_eq (tgt := 66) B.1 B.2.1 dX6_isNumberRead_26 (by decide) (fun _ => ?_) (fun h => absurd (by rw [if_neg (show ¬ (48 ≤ sgI b L (pt + Ds.length) ∧ sgI b L (pt + Ds.length) ≤ 57) by omega)]; rfl) h) 
      refine lv_iload B.1 B.2.1 dX6_isNumberRead_66 (lv_at hl 5 rfl) ?_
      refine lv_if_eq (tgt := 77) B.1 B.2.1 dX6_isNumberRead_68 (by decide) (fun h => absurd h (mt (iI_eq0 (a := ((Ds.length : Nat) : Int)) (by omega) (by omega)).mp (by omega))) (fun _ => ?_)
      refine lv_iload B.1 B.2.1 dX6_isNumberRead_71 (lv_at hl 5 rfl) ?_
      refine lv_iconst (v := (iI (4))) B.1 B.2.1 dX6_isNumberRead_73 (by decide) ?_
      refine lv_icmp_le (tgt := 84) B.1 B.2.1 dX6_isNumberRead_74 (by decide) (fun _ => ?_) (fun h => absurd ((iI_le (a := ((Ds.length : Nat) : Int)) (b := 4) (by omega) (by omega) (by omega) (by omega)).mpr (by omega)) h) 
      refine lv_iload_n B.1 B.2.1 dX6_isNumberRead_84 rfl (lv_at hl 1 rfl) ?_
      refine lv_iconst (v := (iI (4))) B.1 B.2.1 dX6_isNumberRead_85 (by decide) ?_
      refine lv_imul B.1 B.2.1 dX6_isNumberRead_86 ?_
      refine lv_cv (v := (iI (((4 * k) : Nat) : Int))) (by rw [iI_mul]; congr 1; omega) ?_
      refine lv_iload_n B.1 B.2.1 dX6_isNumberRead_87 rfl (lv_at hl 2 rfl) ?_
      refine lv_iadd B.1 B.2.1 dX6_isNumberRead_88 ?_
      refine lv_cv (v := (iI (((4 * k + wh) : Nat) : Int))) (iI_add _ _) ?_
      refine lv_istore (lv' := [(6, .int (iI (((4 * k + wh) : Nat) : Int))), (0, .ref rd), (1, .int (iI ((k : Nat) : Int))), (2, .int (iI ((wh : Nat) : Int))), (3, .int (iI ((pt : Nat) : Int))), (4, .int (iI (v0))), (5, .int (iI ((Ds.length : Nat) : Int)))]) B.1 B.2.1 dX6_isNumberRead_89 hl (by decide) rfl (fun ls hl => ?_)
      refine lv_iload_n B.1 B.2.1 dX6_isNumberRead_91 rfl (lv_at hl 2 rfl) ?_
      refine lv_bipush (v := (iI (6))) B.1 B.2.1 dX6_isNumberRead_92 (by decide) ?_
      refine lv_icmp_ne (tgt := 114) B.1 B.2.1 dX6_isNumberRead_94 (by decide) (fun _ => ?_) (fun h => absurd h (mt (iI_eq (a := ((k : Nat) : Int)) (b := 6) (by omega) (by omega) (by omega) (by omega)).mp (by omega))) 
      refine lv_iconst (v := (iI (0))) B.1 B.2.1 dX6_isNumberRead_114 (by decide) ?_
      refine lv_istore (lv' := [(7, .int (iI (0))), (6, .int (iI (((4 * k + wh) : Nat) : Int))), (0, .ref rd), (1, .int (iI ((k : Nat) : Int))), (2, .int (iI ((wh : Nat) : Int))), (3, .int (iI ((pt : Nat) : Int))), (4, .int (iI (v0))), (5, .int (iI ((Ds.length : Nat) : Int)))]) B.1 B.2.1 dX6_isNumberRead_115 hl (by decide) rfl (fun ls hl => ?_)
      refine lv_iload B.1 B.2.1 dX6_isNumberRead_117 (lv_at hl 6 rfl) ?_
      refine va_gets B.1 B.2.1 hE.2.2.2.2.1 Y.2.2.2.1 B.2.2.2.1 (B.2.2.2.2 _ q_843) (fun _ h => h) dX6_isNumberRead_119 ?_
      refine lv_iload B.1 B.2.1 dX6_isNumberRead_122 (lv_at hl 1 rfl) ?_
      refine qI (Cs := []) (Rs := [[(rd, .inr (8, [.ref ri, .int (iI (((L : Nat) : Int))), .int (iI ((((pt + Ds.length) : Nat) : Int))), .int (iI (io)), .int (iI (er)), .int (iI (ea)), .int (iI (((cnt : Nat) : Int))), .ref rk, .ref rn, .ref ro, .ref rt]))], [(ri, .inl (τ 1, 500, .inl (fun j => iI ((b) j))))], [(rn, .inl (τ 0, 192, .inl (fun j => iI ((nu) j))))]]) Y [] [0, 1, 2] (by decide) rfl (cSNE (As := [.ref (K 101), .int (iI (((4 * k + wh) : Nat) : Int))]) (rest := [.int (iI (v0))]) (Ke.ok K) hE B Y [] (by decide) rfl (k_valueIn_lst l D τ _ K (4 * k + wh) (by omega)) (Y.1.2.1 _ nw_825) q_567 q_2 q_568 rfl rfl hd_X9_valueIn ⟨(Nat.le_of_ble_eq_true rfl), (Nat.le_of_ble_eq_true rfl)⟩ rfl hl.1 rfl (Nat.le_of_ble_eq_true rfl) dX6_isNumberRead_124 ⟨(Nat.le_of_ble_eq_true rfl), (Nat.le_of_ble_eq_true rfl)⟩) (fun r u H locs hw Y => ?_)
      subst hw
      have Y : Wd D τ s A s.heap (bl [[(rd, .inr (8, [.ref ri, .int (iI (((L : Nat) : Int))), .int (iI ((((pt + Ds.length) : Nat) : Int))), .int (iI (io)), .int (iI (er)), .int (iI (ea)), .int (iI (((cnt : Nat) : Int))), .ref rk, .ref rn, .ref ro, .ref rt]))], [(ri, .inl (τ 1, 500, .inl (fun j => iI ((b) j))))], [(rn, .inl (τ 0, 192, .inl (fun j => iI ((nu) j))))]]) _ _ := Y
      refine lv_icmp_lt (tgt := 148) B.1 B.2.1 dX6_isNumberRead_127 (by decide) (fun h => absurd h (mt (iI_lt (a := v0) (b := lstL.getD (4 * k + wh) 0) (by omega) (by omega) (by omega) (by omega)).mp (by omega))) (fun _ => ?_)
      refine lv_iload B.1 B.2.1 dX6_isNumberRead_130 (lv_at hl 6 rfl) ?_
      refine va_gets B.1 B.2.1 hE.2.2.2.2.2.1 Y.2.2.2.1 B.2.2.2.1 (B.2.2.2.2 _ q_845) (fun _ h => h) dX6_isNumberRead_132 ?_
      refine lv_iload B.1 B.2.1 dX6_isNumberRead_135 (lv_at hl 1 rfl) ?_
      refine qI (Cs := []) (Rs := [[(rd, .inr (8, [.ref ri, .int (iI (((L : Nat) : Int))), .int (iI ((((pt + Ds.length) : Nat) : Int))), .int (iI (io)), .int (iI (er)), .int (iI (ea)), .int (iI (((cnt : Nat) : Int))), .ref rk, .ref rn, .ref ro, .ref rt]))], [(ri, .inl (τ 1, 500, .inl (fun j => iI ((b) j))))], [(rn, .inl (τ 0, 192, .inl (fun j => iI ((nu) j))))]]) Y [] [0, 1, 2] (by decide) rfl (cSNE (As := [.ref (K 102), .int (iI (((4 * k + wh) : Nat) : Int))]) (rest := [.int (iI (v0))]) (Ke.ok K) hE B Y [] (by decide) rfl (k_valueIn_grt l D τ _ K (4 * k + wh) (by omega)) (Y.1.2.1 _ nw_825) q_567 q_2 q_568 rfl rfl hd_X9_valueIn ⟨(Nat.le_of_ble_eq_true rfl), (Nat.le_of_ble_eq_true rfl)⟩ rfl hl.1 rfl (Nat.le_of_ble_eq_true rfl) dX6_isNumberRead_137 ⟨(Nat.le_of_ble_eq_true rfl), (Nat.le_of_ble_eq_true rfl)⟩) (fun r u H locs hw Y => ?_)
      subst hw
      have Y : Wd D τ s A s.heap (bl [[(rd, .inr (8, [.ref ri, .int (iI (((L : Nat) : Int))), .int (iI ((((pt + Ds.length) : Nat) : Int))), .int (iI (io)), .int (iI (er)), .int (iI (ea)), .int (iI (((cnt : Nat) : Int))), .ref rk, .ref rn, .ref ro, .ref rt]))], [(ri, .inl (τ 1, 500, .inl (fun j => iI ((b) j))))], [(rn, .inl (τ 0, 192, .inl (fun j => iI ((nu) j))))]]) _ _ := Y
      refine lv_icmp_gt (tgt := 148) B.1 B.2.1 dX6_isNumberRead_140 (by decide) (fun h => absurd h (mt (iI_lt (a := grtL.getD (4 * k + wh) 0) (b := v0) (by omega) (by omega) (by omega) (by omega)).mp (by omega))) (fun _ => ?_)
      refine lv_iload B.1 B.2.1 dX6_isNumberRead_143 (lv_at hl 0 rfl) ?_
      refine lv_if_eq (tgt := 155) B.1 B.2.1 dX6_isNumberRead_145 (by decide) (fun _ => ?_) (fun h => absurd (by decide) h) 
      refine lv_aload_n B.1 B.2.1 dX6_isNumberRead_155 rfl (lv_at hl 2 rfl) ?_
      refine gf_X6_39 B Y 0 rfl rfl dX6_isNumberRead_156 ?_
      refine lv_aload_n B.1 B.2.1 dX6_isNumberRead_159 rfl (lv_at hl 2 rfl) ?_
      refine gf_X6_32 B Y 0 rfl rfl dX6_isNumberRead_160 ?_
      refine lv_iconst (v := (iI (4))) B.1 B.2.1 dX6_isNumberRead_163 (by decide) ?_
      refine lv_imul B.1 B.2.1 dX6_isNumberRead_164 ?_
      refine lv_cv (v := (iI (((4 * cnt) : Nat) : Int))) (by rw [iI_mul]; congr 1; omega) ?_
      refine lv_iload_n B.1 B.2.1 dX6_isNumberRead_165 rfl (lv_at hl 4 rfl) ?_
      refine lv_iadd B.1 B.2.1 dX6_isNumberRead_166 ?_
      refine lv_cv (v := (iI (((4 * cnt + wh) : Nat) : Int))) (iI_add _ _) ?_
      refine lv_iload B.1 B.2.1 dX6_isNumberRead_167 (lv_at hl 6 rfl) ?_
      refine qV (Cs := [[(rn, .inl (τ 0, 192, .inl (fun j => iI ((nu) j))))]]) (Rs := [[(rd, .inr (8, [.ref ri, .int (iI (((L : Nat) : Int))), .int (iI ((((pt + Ds.length) : Nat) : Int))), .int (iI (io)), .int (iI (er)), .int (iI (ea)), .int (iI (((cnt : Nat) : Int))), .ref rk, .ref rn, .ref ro, .ref rt]))], [(ri, .inl (τ 1, 500, .inl (fun j => iI ((b) j))))]]) Y [2] [0, 1] (by decide) rfl (cSN (As := [.ref rn, .int (iI (((4 * cnt + wh) : Nat) : Int)), .int (iI (v0))]) (rest := []) B Y [2] (by decide) rfl (k_setIn l D τ _ rn 192 (4 * cnt + wh) (fun j => iI ((nu) j)) (iI (v0)) (by omega) (by decide)) (Y.1.2.1 _ nw_830) q_831 q_2 q_832 rfl rfl hd_X9_setIn ⟨(Nat.le_of_ble_eq_true rfl), (Nat.le_of_ble_eq_true rfl)⟩ rfl hl.1 rfl (Nat.le_of_ble_eq_true rfl) dX6_isNumberRead_169 ⟨(Nat.le_of_ble_eq_true rfl), (Nat.le_of_ble_eq_true rfl)⟩) (fun u H locs hw Y => ?_)
      rw [upz_ok] at Y
      have Y : Wd D τ s A s.heap (bl [[(rn, .inl (τ 0, 192, .inl (fun j => iI ((upz (nu) (4 * cnt + wh) (v0)) j))))], [(rd, .inr (8, [.ref ri, .int (iI (((L : Nat) : Int))), .int (iI ((((pt + Ds.length) : Nat) : Int))), .int (iI (io)), .int (iI (er)), .int (iI (ea)), .int (iI (((cnt : Nat) : Int))), .ref rk, .ref rn, .ref ro, .ref rt]))], [(ri, .inl (τ 1, 500, .inl (fun j => iI ((b) j))))]]) _ _ := Y
      refine lv_aload_n B.1 B.2.1 dX6_isNumberRead_172 rfl (lv_at hl 2 rfl) ?_
      refine qV (Cs := [[(rd, .inr (8, [.ref ri, .int (iI (((L : Nat) : Int))), .int (iI ((((pt + Ds.length) : Nat) : Int))), .int (iI (io)), .int (iI (er)), .int (iI (ea)), .int (iI (((cnt : Nat) : Int))), .ref rk, .ref rn, .ref ro, .ref rt]))], [(ri, .inl (τ 1, 500, .inl (fun j => iI ((b) j))))]]) (Rs := [[(rn, .inl (τ 0, 192, .inl (fun j => iI ((upz (nu) (4 * cnt + wh) (v0)) j))))]]) Y [1, 2] [0] (by decide) rfl (cV (As := []) (rest := []) (q0 := 1) B Y [1, 2] (by decide) rfl (k_skipSpaces l D τ _ rd ri rk rn ro rt L (io) (er) (ea) (((cnt : Nat) : Int)) b (by omega) hb (pt + Ds.length) qe hq1 hq2 hsp hen) rfl rfl q_778 q_780 qp_5 q_3 q_781 rfl rfl hd_X6_skipSpaces ⟨(Nat.le_of_ble_eq_true rfl), (Nat.le_of_ble_eq_true rfl)⟩ rfl hl.1 rfl (Nat.le_of_ble_eq_true rfl) dX6_isNumberRead_173 ⟨(Nat.le_of_ble_eq_true rfl), (Nat.le_of_ble_eq_true rfl)⟩) (fun u H locs hw Y => ?_)
      have Y : Wd D τ s A s.heap (bl [[(rd, .inr (8, [.ref ri, .int (iI (((L : Nat) : Int))), .int (iI ((qe : Nat) : Int)), .int (iI (io)), .int (iI (er)), .int (iI (ea)), .int (iI (((cnt : Nat) : Int))), .ref rk, .ref rn, .ref ro, .ref rt]))], [(ri, .inl (τ 1, 500, .inl (fun j => iI ((b) j))))], [(rn, .inl (τ 0, 192, .inl (fun j => iI ((upz (nu) (4 * cnt + wh) (v0)) j))))]]) _ _ := Y
      refine lv_iconst (v := (iI (1))) B.1 B.2.1 dX6_isNumberRead_176 (by decide) ?_
      exact eZ B hr hlk Y (by decide) () rfl [0, 1, 2] (by decide) rfl (Nat.le_of_ble_eq_true rfl) (Nat.le_of_ble_eq_true rfl) dX6_isNumberRead_177
  · obtain ⟨hl, Y⟩ := hP
    have hsq : sgI b L (pt + i) = b (pt + i) := sgI_at (by omega)
    have hbi := hDs i hlt
    have hdi := ats_all hDs hdg (pt + i) (by omega) (by omega)
    refine lv_aload_n B.1 B.2.1 dX6_isNumberRead_11 rfl (lv_at hl 0 rfl) ?_
    refine gf_X6_19 B Y 0 rfl rfl dX6_isNumberRead_12 ?_
    refine lv_aload_n B.1 B.2.1 dX6_isNumberRead_15 rfl (lv_at hl 0 rfl) ?_
    refine gf_X6_15 B Y 0 rfl rfl dX6_isNumberRead_16 ?_
    refine lv_icmp_ge (tgt := 66) B.1 B.2.1 dX6_isNumberRead_19 (by decide) (fun h => absurd h (mt (iI_le (a := ((L : Nat) : Int)) (b := (((pt + i) : Nat) : Int)) (by omega) (by omega) (by omega) (by omega)).mp (by omega))) (fun _ => ?_)
    refine lv_aload_n B.1 B.2.1 dX6_isNumberRead_22 rfl (lv_at hl 0 rfl) ?_
    refine qI (Cs := [[(rd, .inr (8, [.ref ri, .int (iI (((L : Nat) : Int))), .int (iI ((((pt + i) : Nat) : Int))), .int (iI (io)), .int (iI (er)), .int (iI (ea)), .int (iI (((cnt : Nat) : Int))), .ref rk, .ref rn, .ref ro, .ref rt]))], [(ri, .inl (τ 1, 500, .inl (fun j => iI ((b) j))))]]) (Rs := [[(rn, .inl (τ 0, 192, .inl (fun j => iI ((nu) j))))]]) Y [0, 1] [2] (by decide) rfl (cV (As := []) (rest := []) (q0 := 0) B Y [0, 1] (by decide) rfl (k_isDigit l D τ _ rd ri rk rn ro rt L (io) (er) (ea) (((cnt : Nat) : Int)) b (by omega) hb (pt + i) (by omega)) rfl rfl q_839 q_841 qp_15 q_3 q_842 rfl rfl hd_X6_isDigit ⟨(Nat.le_of_ble_eq_true rfl), (Nat.le_of_ble_eq_true rfl)⟩ rfl hl.1 rfl (Nat.le_of_ble_eq_true rfl) dX6_isNumberRead_23 ⟨(Nat.le_of_ble_eq_true rfl), (Nat.le_of_ble_eq_true rfl)⟩) (fun r u H locs hw Y => ?_)
    subst hw
    have Y : Wd D τ s A s.heap (bl [[(rd, .inr (8, [.ref ri, .int (iI (((L : Nat) : Int))), .int (iI ((((pt + i) : Nat) : Int))), .int (iI (io)), .int (iI (er)), .int (iI (ea)), .int (iI (((cnt : Nat) : Int))), .ref rk, .ref rn, .ref ro, .ref rt]))], [(ri, .inl (τ 1, 500, .inl (fun j => iI ((b) j))))], [(rn, .inl (τ 0, 192, .inl (fun j => iI ((nu) j))))]]) _ _ := Y
    refine lv_if_eq (tgt := 66) B.1 B.2.1 dX6_isNumberRead_26 (by decide) (fun h => absurd h (by rw [if_pos (show 48 ≤ sgI b L (pt + i) ∧ sgI b L (pt + i) ≤ 57 by omega)]; decide)) (fun _ => ?_)
    refine lv_iload B.1 B.2.1 dX6_isNumberRead_29 (lv_at hl 5 rfl) ?_
    refine lv_iconst (v := (iI (4))) B.1 B.2.1 dX6_isNumberRead_31 (by decide) ?_
    refine lv_icmp_ge (tgt := 50) B.1 B.2.1 dX6_isNumberRead_32 (by decide) (fun h => absurd h (mt (iI_le (a := 4) (b := ((i : Nat) : Int)) (by omega) (by omega) (by omega) (by omega)).mp (by omega))) (fun _ => ?_)
    refine lv_iload B.1 B.2.1 dX6_isNumberRead_35 (lv_at hl 4 rfl) ?_
    refine lv_bipush (v := (iI (10))) B.1 B.2.1 dX6_isNumberRead_37 (by decide) ?_
    refine lv_imul B.1 B.2.1 dX6_isNumberRead_39 ?_
    refine lv_cv (v := (iI ((decL (Ds.take i)) * 10))) (iI_mul _ _) ?_
    refine lv_aload_n B.1 B.2.1 dX6_isNumberRead_40 rfl (lv_at hl 0 rfl) ?_
    refine qI (Cs := [[(rd, .inr (8, [.ref ri, .int (iI (((L : Nat) : Int))), .int (iI ((((pt + i) : Nat) : Int))), .int (iI (io)), .int (iI (er)), .int (iI (ea)), .int (iI (((cnt : Nat) : Int))), .ref rk, .ref rn, .ref ro, .ref rt]))], [(ri, .inl (τ 1, 500, .inl (fun j => iI ((b) j))))]]) (Rs := [[(rn, .inl (τ 0, 192, .inl (fun j => iI ((nu) j))))]]) Y [0, 1] [2] (by decide) rfl (cV (As := []) (rest := [.int (iI ((decL (Ds.take i)) * 10))]) (q0 := 0) B Y [0, 1] (by decide) rfl (k_sign l D τ _ rd ri rk rn ro rt L  (io) (er) (ea) (((cnt : Nat) : Int)) b (by omega) hb (pt + i) (by omega)) rfl rfl q_782 q_784 qp_6 q_3 q_785 rfl rfl hd_X6_sign ⟨(Nat.le_of_ble_eq_true rfl), (Nat.le_of_ble_eq_true rfl)⟩ rfl hl.1 rfl (Nat.le_of_ble_eq_true rfl) dX6_isNumberRead_41 ⟨(Nat.le_of_ble_eq_true rfl), (Nat.le_of_ble_eq_true rfl)⟩) (fun r u H locs hw Y => ?_)
    subst hw
    have Y : Wd D τ s A s.heap (bl [[(rd, .inr (8, [.ref ri, .int (iI (((L : Nat) : Int))), .int (iI ((((pt + i) : Nat) : Int))), .int (iI (io)), .int (iI (er)), .int (iI (ea)), .int (iI (((cnt : Nat) : Int))), .ref rk, .ref rn, .ref ro, .ref rt]))], [(ri, .inl (τ 1, 500, .inl (fun j => iI ((b) j))))], [(rn, .inl (τ 0, 192, .inl (fun j => iI ((nu) j))))]]) _ _ := Y
    refine lv_iadd B.1 B.2.1 dX6_isNumberRead_44 ?_
    refine lv_cv (v := (iI (((decL (Ds.take i)) * 10) + (sgI b L (pt + i))))) (iI_add _ _) ?_
    refine lv_bipush (v := (iI (48))) B.1 B.2.1 dX6_isNumberRead_45 (by decide) ?_
    refine lv_isub B.1 B.2.1 dX6_isNumberRead_47 ?_
    refine lv_cv (v := (iI (decL (Ds.take (i + 1))))) (by rw [iI_sub]; congr 1; rw [decL_s hlt, ← hbi, hsq]; omega) ?_
    refine lv_istore (lv' := [(4, .int (iI (decL (Ds.take (i + 1))))), (0, .ref rd), (1, .int (iI ((k : Nat) : Int))), (2, .int (iI ((wh : Nat) : Int))), (3, .int (iI ((pt : Nat) : Int))), (5, .int (iI ((i : Nat) : Int)))]) B.1 B.2.1 dX6_isNumberRead_48 hl (by decide) rfl (fun ls hl => ?_)
    refine lv_iinc (v := (iI (((i + 1) : Nat) : Int))) (lv' := [(5, .int (iI (((i + 1) : Nat) : Int))), (4, .int (iI (decL (Ds.take (i + 1))))), (0, .ref rd), (1, .int (iI ((k : Nat) : Int))), (2, .int (iI ((wh : Nat) : Int))), (3, .int (iI ((pt : Nat) : Int)))]) B.1 B.2.1 dX6_isNumberRead_50 hl (k := 5) rfl (iI_inc _) (by decide) rfl (fun ls hl => ?_)
    refine lv_aload_n B.1 B.2.1 dX6_isNumberRead_53 rfl (lv_at hl 2 rfl) ?_
    refine lv_dup B.1 B.2.1 dX6_isNumberRead_54 rfl ?_
    refine gf_X6_19 B Y 0 rfl rfl dX6_isNumberRead_55 ?_
    refine lv_iconst (v := (iI (1))) B.1 B.2.1 dX6_isNumberRead_58 (by decide) ?_
    refine lv_iadd B.1 B.2.1 dX6_isNumberRead_59 ?_
    refine lv_cv (v := (iI (((pt + (i + 1)) : Nat) : Int))) (iI_inc _) ?_
    refine pf_X6_19 (B' := [[(rd, .inr (8, [.ref ri, .int (iI (((L : Nat) : Int))), .int (iI (((pt + (i + 1)) : Nat) : Int)), .int (iI (io)), .int (iI (er)), .int (iI (ea)), .int (iI (((cnt : Nat) : Int))), .ref rk, .ref rn, .ref ro, .ref rt]))], [(ri, .inl (τ 1, 500, .inl (fun j => iI ((b) j))))], [(rn, .inl (τ 0, 192, .inl (fun j => iI ((nu) j))))]]) B Y 0 rfl (Nat.le_of_ble_eq_true rfl) rfl dX6_isNumberRead_60 (fun H locs Y => ?_)
    refine lv_goto (tgt := 11) B.1 B.2.1 dX6_isNumberRead_63 (by decide) ?_
    exact ih H locs ls ⟨lv_sub hl [2, 3, 4, 5, 1, 0] rfl, Y.pick [0, 1, 2] (by decide) rfl⟩

set_option maxHeartbeats 4000000 in
set_option maxRecDepth 100000 in
theorem k_isOptionRead0 (l : Launch) (D : va_G) (τ : Nat → ClassId) (sz : Nat) (K : Nat → Nat) (rd : Nat) : Met l yX6_isOptionRead (Cond.code yX6_isOptionRead cX6_isOptionRead 3 (some .boolean) :: wALL) { frames := 5, cells := 0, slots := 0, locals := 109 } (PwE (Ke K) D τ (bl []) sz [.ref rd, .int (iI (0))]) (va_Qi (fun (r : Int32) (_ : Unit) => r = iI 0) (Bb D (va_A (bl []) sz) (fun (_ : Unit) => [])) (va_A (bl []) sz)) 0 0 (va_A (bl []) sz) := by
  refine bodyE (by decide +kernel) (Nat.le_of_ble_eq_true rfl) (fun p e s m below meth c ls B hr hlk hin hsz Y hE hl => ?_)
  have hl : lv_has ls 3 [(0, .ref rd), (1, .int (iI (0)))] := hl
  have B : CallFix p m c cX6_isOptionRead 3 s _ wALL RX6 := B
  generalize va_A (bl []) sz = A at Y hE ⊢
  refine lv_iload_n B.1 B.2.1 dX6_isOptionRead_0 rfl (lv_at hl 1 rfl) ?_
  refine lv_iconst (v := (iI (3))) B.1 B.2.1 dX6_isOptionRead_1 (by decide) ?_
  refine lv_icmp_eq (tgt := 13) B.1 B.2.1 dX6_isOptionRead_2 (by decide) (fun h => absurd h (by decide)) (fun _ => ?_)
  refine lv_iload_n B.1 B.2.1 dX6_isOptionRead_5 rfl (lv_at hl 1 rfl) ?_
  refine lv_bipush (v := (iI (6))) B.1 B.2.1 dX6_isOptionRead_6 (by decide) ?_
  refine lv_icmp_eq (tgt := 13) B.1 B.2.1 dX6_isOptionRead_8 (by decide) (fun h => absurd h (by decide)) (fun _ => ?_)
  refine lv_iconst (v := (iI (0))) B.1 B.2.1 dX6_isOptionRead_11 (by decide) ?_
  exact eZ B hr hlk Y (by decide) () rfl [] (by decide) rfl (Nat.le_of_ble_eq_true rfl) (Nat.le_of_ble_eq_true rfl) dX6_isOptionRead_12

set_option maxHeartbeats 4000000 in
set_option maxRecDepth 100000 in
theorem k_isOptionRead1 (l : Launch) (D : va_G) (τ : Nat → ClassId) (sz : Nat) (K : Nat → Nat) (rd : Nat) : Met l yX6_isOptionRead (Cond.code yX6_isOptionRead cX6_isOptionRead 3 (some .boolean) :: wALL) { frames := 5, cells := 0, slots := 0, locals := 109 } (PwE (Ke K) D τ (bl []) sz [.ref rd, .int (iI (1))]) (va_Qi (fun (r : Int32) (_ : Unit) => r = iI 0) (Bb D (va_A (bl []) sz) (fun (_ : Unit) => [])) (va_A (bl []) sz)) 0 0 (va_A (bl []) sz) := by
  refine bodyE (by decide +kernel) (Nat.le_of_ble_eq_true rfl) (fun p e s m below meth c ls B hr hlk hin hsz Y hE hl => ?_)
  have hl : lv_has ls 3 [(0, .ref rd), (1, .int (iI (1)))] := hl
  have B : CallFix p m c cX6_isOptionRead 3 s _ wALL RX6 := B
  generalize va_A (bl []) sz = A at Y hE ⊢
  refine lv_iload_n B.1 B.2.1 dX6_isOptionRead_0 rfl (lv_at hl 1 rfl) ?_
  refine lv_iconst (v := (iI (3))) B.1 B.2.1 dX6_isOptionRead_1 (by decide) ?_
  refine lv_icmp_eq (tgt := 13) B.1 B.2.1 dX6_isOptionRead_2 (by decide) (fun h => absurd h (by decide)) (fun _ => ?_)
  refine lv_iload_n B.1 B.2.1 dX6_isOptionRead_5 rfl (lv_at hl 1 rfl) ?_
  refine lv_bipush (v := (iI (6))) B.1 B.2.1 dX6_isOptionRead_6 (by decide) ?_
  refine lv_icmp_eq (tgt := 13) B.1 B.2.1 dX6_isOptionRead_8 (by decide) (fun h => absurd h (by decide)) (fun _ => ?_)
  refine lv_iconst (v := (iI (0))) B.1 B.2.1 dX6_isOptionRead_11 (by decide) ?_
  exact eZ B hr hlk Y (by decide) () rfl [] (by decide) rfl (Nat.le_of_ble_eq_true rfl) (Nat.le_of_ble_eq_true rfl) dX6_isOptionRead_12

set_option maxHeartbeats 4000000 in
set_option maxRecDepth 100000 in
theorem k_isOptionRead2 (l : Launch) (D : va_G) (τ : Nat → ClassId) (sz : Nat) (K : Nat → Nat) (rd : Nat) : Met l yX6_isOptionRead (Cond.code yX6_isOptionRead cX6_isOptionRead 3 (some .boolean) :: wALL) { frames := 5, cells := 0, slots := 0, locals := 109 } (PwE (Ke K) D τ (bl []) sz [.ref rd, .int (iI (2))]) (va_Qi (fun (r : Int32) (_ : Unit) => r = iI 0) (Bb D (va_A (bl []) sz) (fun (_ : Unit) => [])) (va_A (bl []) sz)) 0 0 (va_A (bl []) sz) := by
  refine bodyE (by decide +kernel) (Nat.le_of_ble_eq_true rfl) (fun p e s m below meth c ls B hr hlk hin hsz Y hE hl => ?_)
  have hl : lv_has ls 3 [(0, .ref rd), (1, .int (iI (2)))] := hl
  have B : CallFix p m c cX6_isOptionRead 3 s _ wALL RX6 := B
  generalize va_A (bl []) sz = A at Y hE ⊢
  refine lv_iload_n B.1 B.2.1 dX6_isOptionRead_0 rfl (lv_at hl 1 rfl) ?_
  refine lv_iconst (v := (iI (3))) B.1 B.2.1 dX6_isOptionRead_1 (by decide) ?_
  refine lv_icmp_eq (tgt := 13) B.1 B.2.1 dX6_isOptionRead_2 (by decide) (fun h => absurd h (by decide)) (fun _ => ?_)
  refine lv_iload_n B.1 B.2.1 dX6_isOptionRead_5 rfl (lv_at hl 1 rfl) ?_
  refine lv_bipush (v := (iI (6))) B.1 B.2.1 dX6_isOptionRead_6 (by decide) ?_
  refine lv_icmp_eq (tgt := 13) B.1 B.2.1 dX6_isOptionRead_8 (by decide) (fun h => absurd h (by decide)) (fun _ => ?_)
  refine lv_iconst (v := (iI (0))) B.1 B.2.1 dX6_isOptionRead_11 (by decide) ?_
  exact eZ B hr hlk Y (by decide) () rfl [] (by decide) rfl (Nat.le_of_ble_eq_true rfl) (Nat.le_of_ble_eq_true rfl) dX6_isOptionRead_12

set_option maxHeartbeats 4000000 in
set_option maxRecDepth 100000 in
theorem k_isOptionRead5 (l : Launch) (D : va_G) (τ : Nat → ClassId) (sz : Nat) (K : Nat → Nat) (rd : Nat) : Met l yX6_isOptionRead (Cond.code yX6_isOptionRead cX6_isOptionRead 3 (some .boolean) :: wALL) { frames := 5, cells := 0, slots := 0, locals := 109 } (PwE (Ke K) D τ (bl []) sz [.ref rd, .int (iI (5))]) (va_Qi (fun (r : Int32) (_ : Unit) => r = iI 0) (Bb D (va_A (bl []) sz) (fun (_ : Unit) => [])) (va_A (bl []) sz)) 0 0 (va_A (bl []) sz) := by
  refine bodyE (by decide +kernel) (Nat.le_of_ble_eq_true rfl) (fun p e s m below meth c ls B hr hlk hin hsz Y hE hl => ?_)
  have hl : lv_has ls 3 [(0, .ref rd), (1, .int (iI (5)))] := hl
  have B : CallFix p m c cX6_isOptionRead 3 s _ wALL RX6 := B
  generalize va_A (bl []) sz = A at Y hE ⊢
  refine lv_iload_n B.1 B.2.1 dX6_isOptionRead_0 rfl (lv_at hl 1 rfl) ?_
  refine lv_iconst (v := (iI (3))) B.1 B.2.1 dX6_isOptionRead_1 (by decide) ?_
  refine lv_icmp_eq (tgt := 13) B.1 B.2.1 dX6_isOptionRead_2 (by decide) (fun h => absurd h (by decide)) (fun _ => ?_)
  refine lv_iload_n B.1 B.2.1 dX6_isOptionRead_5 rfl (lv_at hl 1 rfl) ?_
  refine lv_bipush (v := (iI (6))) B.1 B.2.1 dX6_isOptionRead_6 (by decide) ?_
  refine lv_icmp_eq (tgt := 13) B.1 B.2.1 dX6_isOptionRead_8 (by decide) (fun h => absurd h (by decide)) (fun _ => ?_)
  refine lv_iconst (v := (iI (0))) B.1 B.2.1 dX6_isOptionRead_11 (by decide) ?_
  exact eZ B hr hlk Y (by decide) () rfl [] (by decide) rfl (Nat.le_of_ble_eq_true rfl) (Nat.le_of_ble_eq_true rfl) dX6_isOptionRead_12

set_option maxHeartbeats 4000000 in
set_option maxRecDepth 100000 in
theorem k_isOptionRead7 (l : Launch) (D : va_G) (τ : Nat → ClassId) (sz : Nat) (K : Nat → Nat) (rd : Nat) : Met l yX6_isOptionRead (Cond.code yX6_isOptionRead cX6_isOptionRead 3 (some .boolean) :: wALL) { frames := 5, cells := 0, slots := 0, locals := 109 } (PwE (Ke K) D τ (bl []) sz [.ref rd, .int (iI (7))]) (va_Qi (fun (r : Int32) (_ : Unit) => r = iI 0) (Bb D (va_A (bl []) sz) (fun (_ : Unit) => [])) (va_A (bl []) sz)) 0 0 (va_A (bl []) sz) := by
  refine bodyE (by decide +kernel) (Nat.le_of_ble_eq_true rfl) (fun p e s m below meth c ls B hr hlk hin hsz Y hE hl => ?_)
  have hl : lv_has ls 3 [(0, .ref rd), (1, .int (iI (7)))] := hl
  have B : CallFix p m c cX6_isOptionRead 3 s _ wALL RX6 := B
  generalize va_A (bl []) sz = A at Y hE ⊢
  refine lv_iload_n B.1 B.2.1 dX6_isOptionRead_0 rfl (lv_at hl 1 rfl) ?_
  refine lv_iconst (v := (iI (3))) B.1 B.2.1 dX6_isOptionRead_1 (by decide) ?_
  refine lv_icmp_eq (tgt := 13) B.1 B.2.1 dX6_isOptionRead_2 (by decide) (fun h => absurd h (by decide)) (fun _ => ?_)
  refine lv_iload_n B.1 B.2.1 dX6_isOptionRead_5 rfl (lv_at hl 1 rfl) ?_
  refine lv_bipush (v := (iI (6))) B.1 B.2.1 dX6_isOptionRead_6 (by decide) ?_
  refine lv_icmp_eq (tgt := 13) B.1 B.2.1 dX6_isOptionRead_8 (by decide) (fun h => absurd h (by decide)) (fun _ => ?_)
  refine lv_iconst (v := (iI (0))) B.1 B.2.1 dX6_isOptionRead_11 (by decide) ?_
  exact eZ B hr hlk Y (by decide) () rfl [] (by decide) rfl (Nat.le_of_ble_eq_true rfl) (Nat.le_of_ble_eq_true rfl) dX6_isOptionRead_12

set_option maxHeartbeats 4000000 in
set_option maxRecDepth 100000 in
theorem k_isOptionRead9 (l : Launch) (D : va_G) (τ : Nat → ClassId) (sz : Nat) (K : Nat → Nat) (rd : Nat) : Met l yX6_isOptionRead (Cond.code yX6_isOptionRead cX6_isOptionRead 3 (some .boolean) :: wALL) { frames := 5, cells := 0, slots := 0, locals := 109 } (PwE (Ke K) D τ (bl []) sz [.ref rd, .int (iI (9))]) (va_Qi (fun (r : Int32) (_ : Unit) => r = iI 0) (Bb D (va_A (bl []) sz) (fun (_ : Unit) => [])) (va_A (bl []) sz)) 0 0 (va_A (bl []) sz) := by
  refine bodyE (by decide +kernel) (Nat.le_of_ble_eq_true rfl) (fun p e s m below meth c ls B hr hlk hin hsz Y hE hl => ?_)
  have hl : lv_has ls 3 [(0, .ref rd), (1, .int (iI (9)))] := hl
  have B : CallFix p m c cX6_isOptionRead 3 s _ wALL RX6 := B
  generalize va_A (bl []) sz = A at Y hE ⊢
  refine lv_iload_n B.1 B.2.1 dX6_isOptionRead_0 rfl (lv_at hl 1 rfl) ?_
  refine lv_iconst (v := (iI (3))) B.1 B.2.1 dX6_isOptionRead_1 (by decide) ?_
  refine lv_icmp_eq (tgt := 13) B.1 B.2.1 dX6_isOptionRead_2 (by decide) (fun h => absurd h (by decide)) (fun _ => ?_)
  refine lv_iload_n B.1 B.2.1 dX6_isOptionRead_5 rfl (lv_at hl 1 rfl) ?_
  refine lv_bipush (v := (iI (6))) B.1 B.2.1 dX6_isOptionRead_6 (by decide) ?_
  refine lv_icmp_eq (tgt := 13) B.1 B.2.1 dX6_isOptionRead_8 (by decide) (fun h => absurd h (by decide)) (fun _ => ?_)
  refine lv_iconst (v := (iI (0))) B.1 B.2.1 dX6_isOptionRead_11 (by decide) ?_
  exact eZ B hr hlk Y (by decide) () rfl [] (by decide) rfl (Nat.le_of_ble_eq_true rfl) (Nat.le_of_ble_eq_true rfl) dX6_isOptionRead_12

set_option maxHeartbeats 4000000 in
set_option maxRecDepth 100000 in
theorem k_isOptionRead3_no (l : Launch) (D : va_G) (τ : Nat → ClassId) (sz : Nat) (K : Nat → Nat) (rd ri rk rn ro rt L : Nat) (io er ea cn : Int) (b : Nat → Int) (hL : L ≤ 500) (hb : BOk b) (pt : Nat) (hpL : pt ≤ L) (hne : pt < L → b pt < 97 ∨ 122 < b pt) : Met l yX6_isOptionRead (Cond.code yX6_isOptionRead cX6_isOptionRead 3 (some .boolean) :: wALL) { frames := 5, cells := 0, slots := 0, locals := 109 } (PwE (Ke K) D τ (bl [[(rd, .inr (8, [.ref ri, .int (iI (((L : Nat) : Int))), .int (iI (((pt : Nat) : Int))), .int (iI (io)), .int (iI (er)), .int (iI (ea)), .int (iI (cn)), .ref rk, .ref rn, .ref ro, .ref rt]))], [(ri, .inl (τ 1, 500, .inl (fun j => iI ((b) j))))]]) sz [.ref rd, .int (iI (3))]) (va_Qi (fun (r : Int32) (_ : Unit) => r = iI 0) (Bb D (va_A (bl [[(rd, .inr (8, [.ref ri, .int (iI (((L : Nat) : Int))), .int (iI (((pt : Nat) : Int))), .int (iI (io)), .int (iI (er)), .int (iI (ea)), .int (iI (cn)), .ref rk, .ref rn, .ref ro, .ref rt]))], [(ri, .inl (τ 1, 500, .inl (fun j => iI ((b) j))))]]) sz) (fun (_ : Unit) => [[(rd, .inr (8, [.ref ri, .int (iI (((L : Nat) : Int))), .int (iI (((pt : Nat) : Int))), .int (iI (io)), .int (iI (er)), .int (iI (ea)), .int (iI (cn)), .ref rk, .ref rn, .ref ro, .ref rt]))], [(ri, .inl (τ 1, 500, .inl (fun j => iI ((b) j))))]])) (va_A (bl [[(rd, .inr (8, [.ref ri, .int (iI (((L : Nat) : Int))), .int (iI (((pt : Nat) : Int))), .int (iI (io)), .int (iI (er)), .int (iI (ea)), .int (iI (cn)), .ref rk, .ref rn, .ref ro, .ref rt]))], [(ri, .inl (τ 1, 500, .inl (fun j => iI ((b) j))))]]) sz)) 0 0 (va_A (bl [[(rd, .inr (8, [.ref ri, .int (iI (((L : Nat) : Int))), .int (iI (((pt : Nat) : Int))), .int (iI (io)), .int (iI (er)), .int (iI (ea)), .int (iI (cn)), .ref rk, .ref rn, .ref ro, .ref rt]))], [(ri, .inl (τ 1, 500, .inl (fun j => iI ((b) j))))]]) sz) := by
  refine bodyE (by decide +kernel) (Nat.le_of_ble_eq_true rfl) (fun p e s m below meth c ls B hr hlk hin hsz Y hE hl => ?_)
  have hl : lv_has ls 3 [(0, .ref rd), (1, .int (iI (3)))] := hl
  have B : CallFix p m c cX6_isOptionRead 3 s _ wALL RX6 := B
  generalize va_A (bl [[(rd, .inr (8, [.ref ri, .int (iI (((L : Nat) : Int))), .int (iI (((pt : Nat) : Int))), .int (iI (io)), .int (iI (er)), .int (iI (ea)), .int (iI (cn)), .ref rk, .ref rn, .ref ro, .ref rt]))], [(ri, .inl (τ 1, 500, .inl (fun j => iI ((b) j))))]]) sz = A at Y hE ⊢
  refine lv_iload_n B.1 B.2.1 dX6_isOptionRead_0 rfl (lv_at hl 1 rfl) ?_
  refine lv_iconst (v := (iI (3))) B.1 B.2.1 dX6_isOptionRead_1 (by decide) ?_
  refine lv_icmp_eq (tgt := 13) B.1 B.2.1 dX6_isOptionRead_2 (by decide) (fun _ => ?_) (fun h => absurd (by decide) h) 
  refine lv_aload_n B.1 B.2.1 dX6_isOptionRead_13 rfl (lv_at hl 0 rfl) ?_
  refine gf_X6_19 B Y 0 rfl rfl dX6_isOptionRead_14 ?_
  refine lv_istore_n (lv' := [(2, .int (iI (((pt : Nat) : Int)))), (0, .ref rd), (1, .int (iI (3)))]) B.1 B.2.1 dX6_isOptionRead_17 rfl hl (by decide) rfl (fun ls hl => ?_)
  refine lv_aload_n B.1 B.2.1 dX6_isOptionRead_18 rfl (lv_at hl 1 rfl) ?_
  refine qV (Cs := [[(rd, .inr (8, [.ref ri, .int (iI (((L : Nat) : Int))), .int (iI (((pt : Nat) : Int))), .int (iI (io)), .int (iI (er)), .int (iI (ea)), .int (iI (cn)), .ref rk, .ref rn, .ref ro, .ref rt]))], [(ri, .inl (τ 1, 500, .inl (fun j => iI ((b) j))))]]) (Rs := []) Y [0, 1] [] (by decide) rfl (cV (As := []) (rest := []) (q0 := 0) B Y [0, 1] (by decide) rfl (k_skipWord l D τ _ rd ri rk rn ro rt L (io) (er) (ea) (cn) b (by omega) hb pt pt (Nat.le_refl _) hpL (fun j h1 h2 => absurd h2 (Nat.not_lt.mpr h1)) hne) rfl rfl q_794 q_796 qp_9 q_3 q_797 rfl rfl hd_X6_skipWord ⟨(Nat.le_of_ble_eq_true rfl), (Nat.le_of_ble_eq_true rfl)⟩ rfl hl.1 rfl (Nat.le_of_ble_eq_true rfl) dX6_isOptionRead_19 ⟨(Nat.le_of_ble_eq_true rfl), (Nat.le_of_ble_eq_true rfl)⟩) (fun u H locs hw Y => ?_)
  have Y : Wd D τ s A s.heap (bl [[(rd, .inr (8, [.ref ri, .int (iI (((L : Nat) : Int))), .int (iI ((pt : Nat) : Int)), .int (iI (io)), .int (iI (er)), .int (iI (ea)), .int (iI (cn)), .ref rk, .ref rn, .ref ro, .ref rt]))], [(ri, .inl (τ 1, 500, .inl (fun j => iI ((b) j))))]]) _ _ := Y
  refine lv_aload_n B.1 B.2.1 dX6_isOptionRead_22 rfl (lv_at hl 1 rfl) ?_
  refine lv_iload_n B.1 B.2.1 dX6_isOptionRead_23 rfl (lv_at hl 0 rfl) ?_
  refine lv_iload_n B.1 B.2.1 dX6_isOptionRead_24 rfl (lv_at hl 2 rfl) ?_
  refine lv_iconst (v := (iI (3))) B.1 B.2.1 dX6_isOptionRead_25 (by decide) ?_
  refine lv_icmp_ne (tgt := 34) B.1 B.2.1 dX6_isOptionRead_26 (by decide) (fun h => absurd (by decide) h) (fun _ => ?_)
  refine va_ldcS (tx := "firm") B.1 B.2.1 B.2.2.2.1 (hE.lit 10 (by decide)) dX6_isOptionRead_29 ?_
  refine lv_goto (tgt := 36) B.1 B.2.1 dX6_isOptionRead_31 (by decide) ?_
  refine qI (Cs := [[(rd, .inr (8, [.ref ri, .int (iI (((L : Nat) : Int))), .int (iI ((pt : Nat) : Int)), .int (iI (io)), .int (iI (er)), .int (iI (ea)), .int (iI (cn)), .ref rk, .ref rn, .ref ro, .ref rt]))], [(ri, .inl (τ 1, 500, .inl (fun j => iI ((b) j))))]]) (Rs := []) Y [0, 1] [] (by decide) rfl (cVE (As := [.int (iI (((pt : Nat) : Int))), .ref (K (2 * 10))]) (rest := []) (q0 := 0) (Ke.ok K) hE B Y [0, 1] (by decide) rfl (k_isWord l D τ _ K rd ri rk rn ro rt L (io) (er) (ea) (cn) b (by omega) hb pt ([]) ats_nil (by omega) 10 (by decide)) rfl rfl q_815 q_817 qp_11 q_3 q_818 rfl rfl hd_X6_isWord ⟨(Nat.le_of_ble_eq_true rfl), (Nat.le_of_ble_eq_true rfl)⟩ rfl hl.1 rfl (Nat.le_of_ble_eq_true rfl) dX6_isOptionRead_36 ⟨(Nat.le_of_ble_eq_true rfl), (Nat.le_of_ble_eq_true rfl)⟩) (fun r u H locs hw Y => ?_)
  rw [if_neg (by decide)] at hw
  have hw : r = 0 := hw
  subst hw
  have Y : Wd D τ s A s.heap (bl [[(rd, .inr (8, [.ref ri, .int (iI (((L : Nat) : Int))), .int (iI ((pt : Nat) : Int)), .int (iI (io)), .int (iI (er)), .int (iI (ea)), .int (iI (cn)), .ref rk, .ref rn, .ref ro, .ref rt]))], [(ri, .inl (τ 1, 500, .inl (fun j => iI ((b) j))))]]) _ _ := Y
  refine lv_if_eq (tgt := 48) B.1 B.2.1 dX6_isOptionRead_39 (by decide) (fun _ => ?_) (fun h => absurd (by decide) h) 
  refine lv_aload_n B.1 B.2.1 dX6_isOptionRead_48 rfl (lv_at hl 1 rfl) ?_
  refine lv_iload_n B.1 B.2.1 dX6_isOptionRead_49 rfl (lv_at hl 0 rfl) ?_
  refine pf_X6_19 (B' := [[(rd, .inr (8, [.ref ri, .int (iI (((L : Nat) : Int))), .int (iI (((pt : Nat) : Int))), .int (iI (io)), .int (iI (er)), .int (iI (ea)), .int (iI (cn)), .ref rk, .ref rn, .ref ro, .ref rt]))], [(ri, .inl (τ 1, 500, .inl (fun j => iI ((b) j))))]]) B Y 0 rfl (Nat.le_of_ble_eq_true rfl) rfl dX6_isOptionRead_50 (fun H locs Y => ?_)
  refine lv_iconst (v := (iI (0))) B.1 B.2.1 dX6_isOptionRead_53 (by decide) ?_
  exact eZ B hr hlk Y (by decide) () rfl [0, 1] (by decide) rfl (Nat.le_of_ble_eq_true rfl) (Nat.le_of_ble_eq_true rfl) dX6_isOptionRead_54

set_option maxHeartbeats 4000000 in
set_option maxRecDepth 100000 in
theorem k_isOptionRead3_yes (l : Launch) (D : va_G) (τ : Nat → ClassId) (sz : Nat) (K : Nat → Nat) (rd ri rk rn ro rt L : Nat) (io er ea cn : Int) (b : Nat → Int) (hL : L ≤ 500) (hb : BOk b) (pt : Nat) (hX : ats b pt (ksZ 10)) (hpL : pt + 4 ≤ L) (hne : pt + 4 < L → b (pt + 4) = 59) : Met l yX6_isOptionRead (Cond.code yX6_isOptionRead cX6_isOptionRead 3 (some .boolean) :: wALL) { frames := 5, cells := 0, slots := 0, locals := 109 } (PwE (Ke K) D τ (bl [[(rd, .inr (8, [.ref ri, .int (iI (((L : Nat) : Int))), .int (iI (((pt : Nat) : Int))), .int (iI (io)), .int (iI (er)), .int (iI (ea)), .int (iI (cn)), .ref rk, .ref rn, .ref ro, .ref rt]))], [(ri, .inl (τ 1, 500, .inl (fun j => iI ((b) j))))]]) sz [.ref rd, .int (iI (3))]) (va_Qi (fun (r : Int32) (_ : Unit) => r = iI 1) (Bb D (va_A (bl [[(rd, .inr (8, [.ref ri, .int (iI (((L : Nat) : Int))), .int (iI (((pt : Nat) : Int))), .int (iI (io)), .int (iI (er)), .int (iI (ea)), .int (iI (cn)), .ref rk, .ref rn, .ref ro, .ref rt]))], [(ri, .inl (τ 1, 500, .inl (fun j => iI ((b) j))))]]) sz) (fun (_ : Unit) => [[(rd, .inr (8, [.ref ri, .int (iI (((L : Nat) : Int))), .int (iI ((((pt + 4) : Nat) : Int))), .int (iI (io)), .int (iI (er)), .int (iI (ea)), .int (iI (cn)), .ref rk, .ref rn, .ref ro, .ref rt]))], [(ri, .inl (τ 1, 500, .inl (fun j => iI ((b) j))))]])) (va_A (bl [[(rd, .inr (8, [.ref ri, .int (iI (((L : Nat) : Int))), .int (iI (((pt : Nat) : Int))), .int (iI (io)), .int (iI (er)), .int (iI (ea)), .int (iI (cn)), .ref rk, .ref rn, .ref ro, .ref rt]))], [(ri, .inl (τ 1, 500, .inl (fun j => iI ((b) j))))]]) sz)) 0 0 (va_A (bl [[(rd, .inr (8, [.ref ri, .int (iI (((L : Nat) : Int))), .int (iI (((pt : Nat) : Int))), .int (iI (io)), .int (iI (er)), .int (iI (ea)), .int (iI (cn)), .ref rk, .ref rn, .ref ro, .ref rt]))], [(ri, .inl (τ 1, 500, .inl (fun j => iI ((b) j))))]]) sz) := by
  refine bodyE (by decide +kernel) (Nat.le_of_ble_eq_true rfl) (fun p e s m below meth c ls B hr hlk hin hsz Y hE hl => ?_)
  have hl : lv_has ls 3 [(0, .ref rd), (1, .int (iI (3)))] := hl
  have B : CallFix p m c cX6_isOptionRead 3 s _ wALL RX6 := B
  generalize va_A (bl [[(rd, .inr (8, [.ref ri, .int (iI (((L : Nat) : Int))), .int (iI (((pt : Nat) : Int))), .int (iI (io)), .int (iI (er)), .int (iI (ea)), .int (iI (cn)), .ref rk, .ref rn, .ref ro, .ref rt]))], [(ri, .inl (τ 1, 500, .inl (fun j => iI ((b) j))))]]) sz = A at Y hE ⊢
  have hkl : (ksZ 10).length = 4 := by decide
  have hLt : ∀ x ∈ ksZ 10, (97 : Int) ≤ x ∧ x ≤ 122 := by decide
  refine lv_iload_n B.1 B.2.1 dX6_isOptionRead_0 rfl (lv_at hl 1 rfl) ?_
  refine lv_iconst (v := (iI (3))) B.1 B.2.1 dX6_isOptionRead_1 (by decide) ?_
  refine lv_icmp_eq (tgt := 13) B.1 B.2.1 dX6_isOptionRead_2 (by decide) (fun _ => ?_) (fun h => absurd (by decide) h) 
  refine lv_aload_n B.1 B.2.1 dX6_isOptionRead_13 rfl (lv_at hl 0 rfl) ?_
  refine gf_X6_19 B Y 0 rfl rfl dX6_isOptionRead_14 ?_
  refine lv_istore_n (lv' := [(2, .int (iI (((pt : Nat) : Int)))), (0, .ref rd), (1, .int (iI (3)))]) B.1 B.2.1 dX6_isOptionRead_17 rfl hl (by decide) rfl (fun ls hl => ?_)
  refine lv_aload_n B.1 B.2.1 dX6_isOptionRead_18 rfl (lv_at hl 1 rfl) ?_
  refine qV (Cs := [[(rd, .inr (8, [.ref ri, .int (iI (((L : Nat) : Int))), .int (iI (((pt : Nat) : Int))), .int (iI (io)), .int (iI (er)), .int (iI (ea)), .int (iI (cn)), .ref rk, .ref rn, .ref ro, .ref rt]))], [(ri, .inl (τ 1, 500, .inl (fun j => iI ((b) j))))]]) (Rs := []) Y [0, 1] [] (by decide) rfl (cV (As := []) (rest := []) (q0 := 0) B Y [0, 1] (by decide) rfl (k_skipWord l D τ _ rd ri rk rn ro rt L (io) (er) (ea) (cn) b (by omega) hb pt (pt + 4) (by omega) (by omega) (fun j h1 h2 => ats_all hX hLt j h1 h2) (fun q => Or.inl (by have := hne q; omega))) rfl rfl q_794 q_796 qp_9 q_3 q_797 rfl rfl hd_X6_skipWord ⟨(Nat.le_of_ble_eq_true rfl), (Nat.le_of_ble_eq_true rfl)⟩ rfl hl.1 rfl (Nat.le_of_ble_eq_true rfl) dX6_isOptionRead_19 ⟨(Nat.le_of_ble_eq_true rfl), (Nat.le_of_ble_eq_true rfl)⟩) (fun u H locs hw Y => ?_)
  have Y : Wd D τ s A s.heap (bl [[(rd, .inr (8, [.ref ri, .int (iI (((L : Nat) : Int))), .int (iI (((pt + 4) : Nat) : Int)), .int (iI (io)), .int (iI (er)), .int (iI (ea)), .int (iI (cn)), .ref rk, .ref rn, .ref ro, .ref rt]))], [(ri, .inl (τ 1, 500, .inl (fun j => iI ((b) j))))]]) _ _ := Y
  refine lv_aload_n B.1 B.2.1 dX6_isOptionRead_22 rfl (lv_at hl 1 rfl) ?_
  refine lv_iload_n B.1 B.2.1 dX6_isOptionRead_23 rfl (lv_at hl 0 rfl) ?_
  refine lv_iload_n B.1 B.2.1 dX6_isOptionRead_24 rfl (lv_at hl 2 rfl) ?_
  refine lv_iconst (v := (iI (3))) B.1 B.2.1 dX6_isOptionRead_25 (by decide) ?_
  refine lv_icmp_ne (tgt := 34) B.1 B.2.1 dX6_isOptionRead_26 (by decide) (fun h => absurd (by decide) h) (fun _ => ?_)
  refine va_ldcS (tx := "firm") B.1 B.2.1 B.2.2.2.1 (hE.lit 10 (by decide)) dX6_isOptionRead_29 ?_
  refine lv_goto (tgt := 36) B.1 B.2.1 dX6_isOptionRead_31 (by decide) ?_
  refine qI (Cs := [[(rd, .inr (8, [.ref ri, .int (iI (((L : Nat) : Int))), .int (iI (((pt + 4) : Nat) : Int)), .int (iI (io)), .int (iI (er)), .int (iI (ea)), .int (iI (cn)), .ref rk, .ref rn, .ref ro, .ref rt]))], [(ri, .inl (τ 1, 500, .inl (fun j => iI ((b) j))))]]) (Rs := []) Y [0, 1] [] (by decide) rfl (cVE (As := [.int (iI (((pt : Nat) : Int))), .ref (K (2 * 10))]) (rest := []) (q0 := 0) (Ke.ok K) hE B Y [0, 1] (by decide) rfl (k_isWord l D τ _ K rd ri rk rn ro rt L (io) (er) (ea) (cn) b (by omega) hb pt (ksZ 10) hX (by omega) 10 (by decide)) rfl rfl q_815 q_817 qp_11 q_3 q_818 rfl rfl hd_X6_isWord ⟨(Nat.le_of_ble_eq_true rfl), (Nat.le_of_ble_eq_true rfl)⟩ rfl hl.1 rfl (Nat.le_of_ble_eq_true rfl) dX6_isOptionRead_36 ⟨(Nat.le_of_ble_eq_true rfl), (Nat.le_of_ble_eq_true rfl)⟩) (fun r u H locs hw Y => ?_)
  rw [if_pos (by decide)] at hw
  have hw : r = 1 := hw
  subst hw
  have Y : Wd D τ s A s.heap (bl [[(rd, .inr (8, [.ref ri, .int (iI (((L : Nat) : Int))), .int (iI (((pt + 4) : Nat) : Int)), .int (iI (io)), .int (iI (er)), .int (iI (ea)), .int (iI (cn)), .ref rk, .ref rn, .ref ro, .ref rt]))], [(ri, .inl (τ 1, 500, .inl (fun j => iI ((b) j))))]]) _ _ := Y
  refine lv_if_eq (tgt := 48) B.1 B.2.1 dX6_isOptionRead_39 (by decide) (fun h => absurd h (by decide)) (fun _ => ?_)
  refine lv_aload_n B.1 B.2.1 dX6_isOptionRead_42 rfl (lv_at hl 1 rfl) ?_
  refine qV (Cs := [[(rd, .inr (8, [.ref ri, .int (iI (((L : Nat) : Int))), .int (iI (((pt + 4) : Nat) : Int)), .int (iI (io)), .int (iI (er)), .int (iI (ea)), .int (iI (cn)), .ref rk, .ref rn, .ref ro, .ref rt]))], [(ri, .inl (τ 1, 500, .inl (fun j => iI ((b) j))))]]) (Rs := []) Y [0, 1] [] (by decide) rfl (cV (As := []) (rest := []) (q0 := 0) B Y [0, 1] (by decide) rfl (k_skipSpaces l D τ _ rd ri rk rn ro rt L (io) (er) (ea) (cn) b (by omega) hb (pt + 4) (pt + 4) (Nat.le_refl _) (by omega) (fun j h1 h2 => absurd h2 (Nat.not_lt.mpr h1)) (fun q => by have := hne q; omega)) rfl rfl q_778 q_780 qp_5 q_3 q_781 rfl rfl hd_X6_skipSpaces ⟨(Nat.le_of_ble_eq_true rfl), (Nat.le_of_ble_eq_true rfl)⟩ rfl hl.1 rfl (Nat.le_of_ble_eq_true rfl) dX6_isOptionRead_43 ⟨(Nat.le_of_ble_eq_true rfl), (Nat.le_of_ble_eq_true rfl)⟩) (fun u H locs hw Y => ?_)
  have Y : Wd D τ s A s.heap (bl [[(rd, .inr (8, [.ref ri, .int (iI (((L : Nat) : Int))), .int (iI (((pt + 4) : Nat) : Int)), .int (iI (io)), .int (iI (er)), .int (iI (ea)), .int (iI (cn)), .ref rk, .ref rn, .ref ro, .ref rt]))], [(ri, .inl (τ 1, 500, .inl (fun j => iI ((b) j))))]]) _ _ := Y
  refine lv_iconst (v := (iI (1))) B.1 B.2.1 dX6_isOptionRead_46 (by decide) ?_
  exact eZ B hr hlk Y (by decide) () rfl [0, 1] (by decide) rfl (Nat.le_of_ble_eq_true rfl) (Nat.le_of_ble_eq_true rfl) dX6_isOptionRead_47

set_option maxHeartbeats 4000000 in
set_option maxRecDepth 100000 in
theorem k_isAnotherDue_end (l : Launch) (D : va_G) (τ : Nat → ClassId) (sz : Nat) (rd ri rk rn ro rt L : Nat) (er ea cn : Int) (b : Nat → Int) (hL : L ≤ 500) (hb : BOk b) : Met l yX6_isAnotherDue (Cond.code yX6_isAnotherDue cX6_isAnotherDue 1 (some .boolean) :: wALL) { frames := 2, cells := 0, slots := 0, locals := 40 } (Pw D τ (bl [[(rd, .inr (8, [.ref ri, .int (iI (((L : Nat) : Int))), .int (iI (((L : Nat) : Int))), .int (iI (0)), .int (iI (er)), .int (iI (ea)), .int (iI (cn)), .ref rk, .ref rn, .ref ro, .ref rt]))], [(ri, .inl (τ 1, 500, .inl (fun j => iI ((b) j))))]]) sz [.ref rd]) (va_Qi (fun (r : Int32) (_ : Unit) => r = 0) (Bb D (va_A (bl [[(rd, .inr (8, [.ref ri, .int (iI (((L : Nat) : Int))), .int (iI (((L : Nat) : Int))), .int (iI (0)), .int (iI (er)), .int (iI (ea)), .int (iI (cn)), .ref rk, .ref rn, .ref ro, .ref rt]))], [(ri, .inl (τ 1, 500, .inl (fun j => iI ((b) j))))]]) sz) (fun (_ : Unit) => [[(rd, .inr (8, [.ref ri, .int (iI (((L : Nat) : Int))), .int (iI (((L : Nat) : Int))), .int (iI (0)), .int (iI (er)), .int (iI (ea)), .int (iI (cn)), .ref rk, .ref rn, .ref ro, .ref rt]))], [(ri, .inl (τ 1, 500, .inl (fun j => iI ((b) j))))]])) (va_A (bl [[(rd, .inr (8, [.ref ri, .int (iI (((L : Nat) : Int))), .int (iI (((L : Nat) : Int))), .int (iI (0)), .int (iI (er)), .int (iI (ea)), .int (iI (cn)), .ref rk, .ref rn, .ref ro, .ref rt]))], [(ri, .inl (τ 1, 500, .inl (fun j => iI ((b) j))))]]) sz)) 0 0 (va_A (bl [[(rd, .inr (8, [.ref ri, .int (iI (((L : Nat) : Int))), .int (iI (((L : Nat) : Int))), .int (iI (0)), .int (iI (er)), .int (iI (ea)), .int (iI (cn)), .ref rk, .ref rn, .ref ro, .ref rt]))], [(ri, .inl (τ 1, 500, .inl (fun j => iI ((b) j))))]]) sz) := by
  refine bodyW (by decide) (Nat.le_of_ble_eq_true rfl) (fun p e s m below meth c ls B hr hlk hin hsz Y hl => ?_)
  have hl : lv_has ls 1 [(0, .ref rd)] := hl
  have B : CallFix p m c cX6_isAnotherDue 1 s _ wALL RX6 := B
  generalize va_A (bl [[(rd, .inr (8, [.ref ri, .int (iI (((L : Nat) : Int))), .int (iI (((L : Nat) : Int))), .int (iI (0)), .int (iI (er)), .int (iI (ea)), .int (iI (cn)), .ref rk, .ref rn, .ref ro, .ref rt]))], [(ri, .inl (τ 1, 500, .inl (fun j => iI ((b) j))))]]) sz = A at Y ⊢
  refine lv_aload_n B.1 B.2.1 dX6_isAnotherDue_0 rfl (lv_at hl 0 rfl) ?_
  refine gf_X6_19 B Y 0 rfl rfl dX6_isAnotherDue_1 ?_
  refine lv_aload_n B.1 B.2.1 dX6_isAnotherDue_4 rfl (lv_at hl 0 rfl) ?_
  refine gf_X6_15 B Y 0 rfl rfl dX6_isAnotherDue_5 ?_
  refine lv_icmp_lt (tgt := 20) B.1 B.2.1 dX6_isAnotherDue_8 (by decide) (fun h => absurd h (mt (iI_lt (a := ((L : Nat) : Int)) (b := ((L : Nat) : Int)) (by omega) (by omega) (by omega) (by omega)).mp (by omega))) (fun _ => ?_)
  refine lv_aload_n B.1 B.2.1 dX6_isAnotherDue_11 rfl (lv_at hl 0 rfl) ?_
  refine gf_X6_22 B Y 0 rfl rfl dX6_isAnotherDue_12 ?_
  refine lv_if_ne (tgt := 20) B.1 B.2.1 dX6_isAnotherDue_15 (by decide) (fun h => absurd (by decide) h) (fun _ => ?_)
  refine lv_iconst (v := (iI (0))) B.1 B.2.1 dX6_isAnotherDue_18 (by decide) ?_
  exact eZ B hr hlk Y (by decide) () rfl [0, 1] (by decide) rfl (Nat.le_of_ble_eq_true rfl) (Nat.le_of_ble_eq_true rfl) dX6_isAnotherDue_19

set_option maxHeartbeats 4000000 in
set_option maxRecDepth 100000 in
theorem k_isAnotherDue_0 (l : Launch) (D : va_G) (τ : Nat → ClassId) (sz : Nat) (rd ri rk rn ro rt L : Nat) (er ea cn : Int) (b : Nat → Int) (hL : L ≤ 500) (hb : BOk b) (pt : Nat) (hpt : pt < L) (hsc : b pt = 59) (hmr : pt + 1 < L) (hns : b (pt + 1) ≠ 32) : Met l yX6_isAnotherDue (Cond.code yX6_isAnotherDue cX6_isAnotherDue 1 (some .boolean) :: wALL) { frames := 2, cells := 0, slots := 0, locals := 40 } (Pw D τ (bl [[(rd, .inr (8, [.ref ri, .int (iI (((L : Nat) : Int))), .int (iI (((pt : Nat) : Int))), .int (iI (0)), .int (iI (er)), .int (iI (ea)), .int (iI (cn)), .ref rk, .ref rn, .ref ro, .ref rt]))], [(ri, .inl (τ 1, 500, .inl (fun j => iI ((b) j))))]]) sz [.ref rd]) (va_Qi (fun (r : Int32) (_ : Unit) => r = 1) (Bb D (va_A (bl [[(rd, .inr (8, [.ref ri, .int (iI (((L : Nat) : Int))), .int (iI (((pt : Nat) : Int))), .int (iI (0)), .int (iI (er)), .int (iI (ea)), .int (iI (cn)), .ref rk, .ref rn, .ref ro, .ref rt]))], [(ri, .inl (τ 1, 500, .inl (fun j => iI ((b) j))))]]) sz) (fun (_ : Unit) => [[(rd, .inr (8, [.ref ri, .int (iI (((L : Nat) : Int))), .int (iI ((((pt + 1) : Nat) : Int))), .int (iI (0)), .int (iI (er)), .int (iI (ea)), .int (iI (cn)), .ref rk, .ref rn, .ref ro, .ref rt]))], [(ri, .inl (τ 1, 500, .inl (fun j => iI ((b) j))))]])) (va_A (bl [[(rd, .inr (8, [.ref ri, .int (iI (((L : Nat) : Int))), .int (iI (((pt : Nat) : Int))), .int (iI (0)), .int (iI (er)), .int (iI (ea)), .int (iI (cn)), .ref rk, .ref rn, .ref ro, .ref rt]))], [(ri, .inl (τ 1, 500, .inl (fun j => iI ((b) j))))]]) sz)) 0 0 (va_A (bl [[(rd, .inr (8, [.ref ri, .int (iI (((L : Nat) : Int))), .int (iI (((pt : Nat) : Int))), .int (iI (0)), .int (iI (er)), .int (iI (ea)), .int (iI (cn)), .ref rk, .ref rn, .ref ro, .ref rt]))], [(ri, .inl (τ 1, 500, .inl (fun j => iI ((b) j))))]]) sz) := by
  refine bodyW (by decide) (Nat.le_of_ble_eq_true rfl) (fun p e s m below meth c ls B hr hlk hin hsz Y hl => ?_)
  have hl : lv_has ls 1 [(0, .ref rd)] := hl
  have B : CallFix p m c cX6_isAnotherDue 1 s _ wALL RX6 := B
  generalize va_A (bl [[(rd, .inr (8, [.ref ri, .int (iI (((L : Nat) : Int))), .int (iI (((pt : Nat) : Int))), .int (iI (0)), .int (iI (er)), .int (iI (ea)), .int (iI (cn)), .ref rk, .ref rn, .ref ro, .ref rt]))], [(ri, .inl (τ 1, 500, .inl (fun j => iI ((b) j))))]]) sz = A at Y ⊢
  have hsq : sgI b L pt = b pt := sgI_at (by omega)
  refine lv_aload_n B.1 B.2.1 dX6_isAnotherDue_0 rfl (lv_at hl 0 rfl) ?_
  refine gf_X6_19 B Y 0 rfl rfl dX6_isAnotherDue_1 ?_
  refine lv_aload_n B.1 B.2.1 dX6_isAnotherDue_4 rfl (lv_at hl 0 rfl) ?_
  refine gf_X6_15 B Y 0 rfl rfl dX6_isAnotherDue_5 ?_
  refine lv_icmp_lt (tgt := 20) B.1 B.2.1 dX6_isAnotherDue_8 (by decide) (fun _ => ?_) (fun h => absurd ((iI_lt (a := ((pt : Nat) : Int)) (b := ((L : Nat) : Int)) (by omega) (by omega) (by omega) (by omega)).mpr (by omega)) h) 
  refine lv_aload_n B.1 B.2.1 dX6_isAnotherDue_20 rfl (lv_at hl 0 rfl) ?_
  refine qI (Cs := [[(rd, .inr (8, [.ref ri, .int (iI (((L : Nat) : Int))), .int (iI (((pt : Nat) : Int))), .int (iI (0)), .int (iI (er)), .int (iI (ea)), .int (iI (cn)), .ref rk, .ref rn, .ref ro, .ref rt]))], [(ri, .inl (τ 1, 500, .inl (fun j => iI ((b) j))))]]) (Rs := []) Y [0, 1] [] (by decide) rfl (cV (As := []) (rest := []) (q0 := 0) B Y [0, 1] (by decide) rfl (k_sign l D τ _ rd ri rk rn ro rt L  (0) (er) (ea) (cn) b (by omega) hb pt (by omega)) rfl rfl q_782 q_784 qp_6 q_3 q_785 rfl rfl hd_X6_sign ⟨(Nat.le_of_ble_eq_true rfl), (Nat.le_of_ble_eq_true rfl)⟩ rfl hl.1 rfl (Nat.le_of_ble_eq_true rfl) dX6_isAnotherDue_21 ⟨(Nat.le_of_ble_eq_true rfl), (Nat.le_of_ble_eq_true rfl)⟩) (fun r u H locs hw Y => ?_)
  subst hw
  have Y : Wd D τ s A s.heap (bl [[(rd, .inr (8, [.ref ri, .int (iI (((L : Nat) : Int))), .int (iI (((pt : Nat) : Int))), .int (iI (0)), .int (iI (er)), .int (iI (ea)), .int (iI (cn)), .ref rk, .ref rn, .ref ro, .ref rt]))], [(ri, .inl (τ 1, 500, .inl (fun j => iI ((b) j))))]]) _ _ := Y
  refine lv_bipush (v := (iI (59))) B.1 B.2.1 dX6_isAnotherDue_24 (by decide) ?_
  refine lv_icmp_eq (tgt := 39) B.1 B.2.1 dX6_isAnotherDue_26 (by decide) (fun _ => ?_) (fun h => absurd ((iI_eq (a := sgI b L pt) (b := 59) (by omega) (by omega) (by omega) (by omega)).mpr (by omega)) h) 
  refine lv_aload_n B.1 B.2.1 dX6_isAnotherDue_39 rfl (lv_at hl 0 rfl) ?_
  refine lv_dup B.1 B.2.1 dX6_isAnotherDue_40 rfl ?_
  refine gf_X6_19 B Y 0 rfl rfl dX6_isAnotherDue_41 ?_
  refine lv_iconst (v := (iI (1))) B.1 B.2.1 dX6_isAnotherDue_44 (by decide) ?_
  refine lv_iadd B.1 B.2.1 dX6_isAnotherDue_45 ?_
  refine lv_cv (v := (iI (((pt + 1) : Nat) : Int))) (iI_inc _) ?_
  refine pf_X6_19 (B' := [[(rd, .inr (8, [.ref ri, .int (iI (((L : Nat) : Int))), .int (iI (((pt + 1) : Nat) : Int)), .int (iI (0)), .int (iI (er)), .int (iI (ea)), .int (iI (cn)), .ref rk, .ref rn, .ref ro, .ref rt]))], [(ri, .inl (τ 1, 500, .inl (fun j => iI ((b) j))))]]) B Y 0 rfl (Nat.le_of_ble_eq_true rfl) rfl dX6_isAnotherDue_46 (fun H locs Y => ?_)
  refine lv_aload_n B.1 B.2.1 dX6_isAnotherDue_49 rfl (lv_at hl 0 rfl) ?_
  refine qV (Cs := [[(rd, .inr (8, [.ref ri, .int (iI (((L : Nat) : Int))), .int (iI (((pt + 1) : Nat) : Int)), .int (iI (0)), .int (iI (er)), .int (iI (ea)), .int (iI (cn)), .ref rk, .ref rn, .ref ro, .ref rt]))], [(ri, .inl (τ 1, 500, .inl (fun j => iI ((b) j))))]]) (Rs := []) Y [0, 1] [] (by decide) rfl (cV (As := []) (rest := []) (q0 := 0) B Y [0, 1] (by decide) rfl (k_skipSpaces l D τ _ rd ri rk rn ro rt L (0) (er) (ea) (cn) b (by omega) hb (pt + 1) (pt + 1) (Nat.le_refl _) (by omega) (fun j h1 h2 => absurd h2 (Nat.not_lt.mpr h1)) (fun _ => hns)) rfl rfl q_778 q_780 qp_5 q_3 q_781 rfl rfl hd_X6_skipSpaces ⟨(Nat.le_of_ble_eq_true rfl), (Nat.le_of_ble_eq_true rfl)⟩ rfl hl.1 rfl (Nat.le_of_ble_eq_true rfl) dX6_isAnotherDue_50 ⟨(Nat.le_of_ble_eq_true rfl), (Nat.le_of_ble_eq_true rfl)⟩) (fun u H locs hw Y => ?_)
  have Y : Wd D τ s A s.heap (bl [[(rd, .inr (8, [.ref ri, .int (iI (((L : Nat) : Int))), .int (iI (((pt + 1) : Nat) : Int)), .int (iI (0)), .int (iI (er)), .int (iI (ea)), .int (iI (cn)), .ref rk, .ref rn, .ref ro, .ref rt]))], [(ri, .inl (τ 1, 500, .inl (fun j => iI ((b) j))))]]) _ _ := Y
  refine lv_aload_n B.1 B.2.1 dX6_isAnotherDue_53 rfl (lv_at hl 0 rfl) ?_
  refine gf_X6_22 B Y 0 rfl rfl dX6_isAnotherDue_54 ?_
  refine lv_if_eq (tgt := 71) B.1 B.2.1 dX6_isAnotherDue_57 (by decide) (fun _ => ?_) (fun h => absurd (by decide) h) 
  refine lv_iconst (v := (iI (1))) B.1 B.2.1 dX6_isAnotherDue_71 (by decide) ?_
  refine lv_goto (tgt := 76) B.1 B.2.1 dX6_isAnotherDue_72 (by decide) ?_
  exact eZ B hr hlk Y (by decide) () rfl [0, 1] (by decide) rfl (Nat.le_of_ble_eq_true rfl) (Nat.le_of_ble_eq_true rfl) dX6_isAnotherDue_76

set_option maxHeartbeats 4000000 in
set_option maxRecDepth 100000 in
theorem k_isAnotherDue_1 (l : Launch) (D : va_G) (τ : Nat → ClassId) (sz : Nat) (rd ri rk rn ro rt L : Nat) (er ea cn : Int) (b : Nat → Int) (hL : L ≤ 500) (hb : BOk b) (pt : Nat) (hpt : pt < L) (hsc : b pt = 59) (hmr : pt + 1 < L) (hns : b (pt + 1) ≠ 32) : Met l yX6_isAnotherDue (Cond.code yX6_isAnotherDue cX6_isAnotherDue 1 (some .boolean) :: wALL) { frames := 2, cells := 0, slots := 0, locals := 40 } (Pw D τ (bl [[(rd, .inr (8, [.ref ri, .int (iI (((L : Nat) : Int))), .int (iI (((pt : Nat) : Int))), .int (iI (1)), .int (iI (er)), .int (iI (ea)), .int (iI (cn)), .ref rk, .ref rn, .ref ro, .ref rt]))], [(ri, .inl (τ 1, 500, .inl (fun j => iI ((b) j))))]]) sz [.ref rd]) (va_Qi (fun (r : Int32) (_ : Unit) => r = 1) (Bb D (va_A (bl [[(rd, .inr (8, [.ref ri, .int (iI (((L : Nat) : Int))), .int (iI (((pt : Nat) : Int))), .int (iI (1)), .int (iI (er)), .int (iI (ea)), .int (iI (cn)), .ref rk, .ref rn, .ref ro, .ref rt]))], [(ri, .inl (τ 1, 500, .inl (fun j => iI ((b) j))))]]) sz) (fun (_ : Unit) => [[(rd, .inr (8, [.ref ri, .int (iI (((L : Nat) : Int))), .int (iI ((((pt + 1) : Nat) : Int))), .int (iI (1)), .int (iI (er)), .int (iI (ea)), .int (iI (cn)), .ref rk, .ref rn, .ref ro, .ref rt]))], [(ri, .inl (τ 1, 500, .inl (fun j => iI ((b) j))))]])) (va_A (bl [[(rd, .inr (8, [.ref ri, .int (iI (((L : Nat) : Int))), .int (iI (((pt : Nat) : Int))), .int (iI (1)), .int (iI (er)), .int (iI (ea)), .int (iI (cn)), .ref rk, .ref rn, .ref ro, .ref rt]))], [(ri, .inl (τ 1, 500, .inl (fun j => iI ((b) j))))]]) sz)) 0 0 (va_A (bl [[(rd, .inr (8, [.ref ri, .int (iI (((L : Nat) : Int))), .int (iI (((pt : Nat) : Int))), .int (iI (1)), .int (iI (er)), .int (iI (ea)), .int (iI (cn)), .ref rk, .ref rn, .ref ro, .ref rt]))], [(ri, .inl (τ 1, 500, .inl (fun j => iI ((b) j))))]]) sz) := by
  refine bodyW (by decide) (Nat.le_of_ble_eq_true rfl) (fun p e s m below meth c ls B hr hlk hin hsz Y hl => ?_)
  have hl : lv_has ls 1 [(0, .ref rd)] := hl
  have B : CallFix p m c cX6_isAnotherDue 1 s _ wALL RX6 := B
  generalize va_A (bl [[(rd, .inr (8, [.ref ri, .int (iI (((L : Nat) : Int))), .int (iI (((pt : Nat) : Int))), .int (iI (1)), .int (iI (er)), .int (iI (ea)), .int (iI (cn)), .ref rk, .ref rn, .ref ro, .ref rt]))], [(ri, .inl (τ 1, 500, .inl (fun j => iI ((b) j))))]]) sz = A at Y ⊢
  have hsq : sgI b L pt = b pt := sgI_at (by omega)
  refine lv_aload_n B.1 B.2.1 dX6_isAnotherDue_0 rfl (lv_at hl 0 rfl) ?_
  refine gf_X6_19 B Y 0 rfl rfl dX6_isAnotherDue_1 ?_
  refine lv_aload_n B.1 B.2.1 dX6_isAnotherDue_4 rfl (lv_at hl 0 rfl) ?_
  refine gf_X6_15 B Y 0 rfl rfl dX6_isAnotherDue_5 ?_
  refine lv_icmp_lt (tgt := 20) B.1 B.2.1 dX6_isAnotherDue_8 (by decide) (fun _ => ?_) (fun h => absurd ((iI_lt (a := ((pt : Nat) : Int)) (b := ((L : Nat) : Int)) (by omega) (by omega) (by omega) (by omega)).mpr (by omega)) h) 
  refine lv_aload_n B.1 B.2.1 dX6_isAnotherDue_20 rfl (lv_at hl 0 rfl) ?_
  refine qI (Cs := [[(rd, .inr (8, [.ref ri, .int (iI (((L : Nat) : Int))), .int (iI (((pt : Nat) : Int))), .int (iI (1)), .int (iI (er)), .int (iI (ea)), .int (iI (cn)), .ref rk, .ref rn, .ref ro, .ref rt]))], [(ri, .inl (τ 1, 500, .inl (fun j => iI ((b) j))))]]) (Rs := []) Y [0, 1] [] (by decide) rfl (cV (As := []) (rest := []) (q0 := 0) B Y [0, 1] (by decide) rfl (k_sign l D τ _ rd ri rk rn ro rt L  (1) (er) (ea) (cn) b (by omega) hb pt (by omega)) rfl rfl q_782 q_784 qp_6 q_3 q_785 rfl rfl hd_X6_sign ⟨(Nat.le_of_ble_eq_true rfl), (Nat.le_of_ble_eq_true rfl)⟩ rfl hl.1 rfl (Nat.le_of_ble_eq_true rfl) dX6_isAnotherDue_21 ⟨(Nat.le_of_ble_eq_true rfl), (Nat.le_of_ble_eq_true rfl)⟩) (fun r u H locs hw Y => ?_)
  subst hw
  have Y : Wd D τ s A s.heap (bl [[(rd, .inr (8, [.ref ri, .int (iI (((L : Nat) : Int))), .int (iI (((pt : Nat) : Int))), .int (iI (1)), .int (iI (er)), .int (iI (ea)), .int (iI (cn)), .ref rk, .ref rn, .ref ro, .ref rt]))], [(ri, .inl (τ 1, 500, .inl (fun j => iI ((b) j))))]]) _ _ := Y
  refine lv_bipush (v := (iI (59))) B.1 B.2.1 dX6_isAnotherDue_24 (by decide) ?_
  refine lv_icmp_eq (tgt := 39) B.1 B.2.1 dX6_isAnotherDue_26 (by decide) (fun _ => ?_) (fun h => absurd ((iI_eq (a := sgI b L pt) (b := 59) (by omega) (by omega) (by omega) (by omega)).mpr (by omega)) h) 
  refine lv_aload_n B.1 B.2.1 dX6_isAnotherDue_39 rfl (lv_at hl 0 rfl) ?_
  refine lv_dup B.1 B.2.1 dX6_isAnotherDue_40 rfl ?_
  refine gf_X6_19 B Y 0 rfl rfl dX6_isAnotherDue_41 ?_
  refine lv_iconst (v := (iI (1))) B.1 B.2.1 dX6_isAnotherDue_44 (by decide) ?_
  refine lv_iadd B.1 B.2.1 dX6_isAnotherDue_45 ?_
  refine lv_cv (v := (iI (((pt + 1) : Nat) : Int))) (iI_inc _) ?_
  refine pf_X6_19 (B' := [[(rd, .inr (8, [.ref ri, .int (iI (((L : Nat) : Int))), .int (iI (((pt + 1) : Nat) : Int)), .int (iI (1)), .int (iI (er)), .int (iI (ea)), .int (iI (cn)), .ref rk, .ref rn, .ref ro, .ref rt]))], [(ri, .inl (τ 1, 500, .inl (fun j => iI ((b) j))))]]) B Y 0 rfl (Nat.le_of_ble_eq_true rfl) rfl dX6_isAnotherDue_46 (fun H locs Y => ?_)
  refine lv_aload_n B.1 B.2.1 dX6_isAnotherDue_49 rfl (lv_at hl 0 rfl) ?_
  refine qV (Cs := [[(rd, .inr (8, [.ref ri, .int (iI (((L : Nat) : Int))), .int (iI (((pt + 1) : Nat) : Int)), .int (iI (1)), .int (iI (er)), .int (iI (ea)), .int (iI (cn)), .ref rk, .ref rn, .ref ro, .ref rt]))], [(ri, .inl (τ 1, 500, .inl (fun j => iI ((b) j))))]]) (Rs := []) Y [0, 1] [] (by decide) rfl (cV (As := []) (rest := []) (q0 := 0) B Y [0, 1] (by decide) rfl (k_skipSpaces l D τ _ rd ri rk rn ro rt L (1) (er) (ea) (cn) b (by omega) hb (pt + 1) (pt + 1) (Nat.le_refl _) (by omega) (fun j h1 h2 => absurd h2 (Nat.not_lt.mpr h1)) (fun _ => hns)) rfl rfl q_778 q_780 qp_5 q_3 q_781 rfl rfl hd_X6_skipSpaces ⟨(Nat.le_of_ble_eq_true rfl), (Nat.le_of_ble_eq_true rfl)⟩ rfl hl.1 rfl (Nat.le_of_ble_eq_true rfl) dX6_isAnotherDue_50 ⟨(Nat.le_of_ble_eq_true rfl), (Nat.le_of_ble_eq_true rfl)⟩) (fun u H locs hw Y => ?_)
  have Y : Wd D τ s A s.heap (bl [[(rd, .inr (8, [.ref ri, .int (iI (((L : Nat) : Int))), .int (iI (((pt + 1) : Nat) : Int)), .int (iI (1)), .int (iI (er)), .int (iI (ea)), .int (iI (cn)), .ref rk, .ref rn, .ref ro, .ref rt]))], [(ri, .inl (τ 1, 500, .inl (fun j => iI ((b) j))))]]) _ _ := Y
  refine lv_aload_n B.1 B.2.1 dX6_isAnotherDue_53 rfl (lv_at hl 0 rfl) ?_
  refine gf_X6_22 B Y 0 rfl rfl dX6_isAnotherDue_54 ?_
  refine lv_if_eq (tgt := 71) B.1 B.2.1 dX6_isAnotherDue_57 (by decide) (fun h => absurd h (by decide)) (fun _ => ?_)
  refine lv_aload_n B.1 B.2.1 dX6_isAnotherDue_60 rfl (lv_at hl 0 rfl) ?_
  refine gf_X6_19 B Y 0 rfl rfl dX6_isAnotherDue_61 ?_
  refine lv_aload_n B.1 B.2.1 dX6_isAnotherDue_64 rfl (lv_at hl 0 rfl) ?_
  refine gf_X6_15 B Y 0 rfl rfl dX6_isAnotherDue_65 ?_
  refine lv_icmp_ge (tgt := 75) B.1 B.2.1 dX6_isAnotherDue_68 (by decide) (fun h => absurd h (mt (iI_le (a := ((L : Nat) : Int)) (b := (((pt + 1) : Nat) : Int)) (by omega) (by omega) (by omega) (by omega)).mp (by omega))) (fun _ => ?_)
  refine lv_iconst (v := (iI (1))) B.1 B.2.1 dX6_isAnotherDue_71 (by decide) ?_
  refine lv_goto (tgt := 76) B.1 B.2.1 dX6_isAnotherDue_72 (by decide) ?_
  exact eZ B hr hlk Y (by decide) () rfl [0, 1] (by decide) rfl (Nat.le_of_ble_eq_true rfl) (Nat.le_of_ble_eq_true rfl) dX6_isAnotherDue_76

set_option maxHeartbeats 4000000 in
set_option maxRecDepth 100000 in
theorem k_isAnotherDue_1l (l : Launch) (D : va_G) (τ : Nat → ClassId) (sz : Nat) (rd ri rk rn ro rt L : Nat) (er ea cn : Int) (b : Nat → Int) (hL : L ≤ 500) (hb : BOk b) (pt : Nat) (hpt : pt < L) (hsc : b pt = 59) (hlst : pt + 1 = L) : Met l yX6_isAnotherDue (Cond.code yX6_isAnotherDue cX6_isAnotherDue 1 (some .boolean) :: wALL) { frames := 2, cells := 0, slots := 0, locals := 40 } (Pw D τ (bl [[(rd, .inr (8, [.ref ri, .int (iI (((L : Nat) : Int))), .int (iI (((pt : Nat) : Int))), .int (iI (1)), .int (iI (er)), .int (iI (ea)), .int (iI (cn)), .ref rk, .ref rn, .ref ro, .ref rt]))], [(ri, .inl (τ 1, 500, .inl (fun j => iI ((b) j))))]]) sz [.ref rd]) (va_Qi (fun (r : Int32) (_ : Unit) => r = 0) (Bb D (va_A (bl [[(rd, .inr (8, [.ref ri, .int (iI (((L : Nat) : Int))), .int (iI (((pt : Nat) : Int))), .int (iI (1)), .int (iI (er)), .int (iI (ea)), .int (iI (cn)), .ref rk, .ref rn, .ref ro, .ref rt]))], [(ri, .inl (τ 1, 500, .inl (fun j => iI ((b) j))))]]) sz) (fun (_ : Unit) => [[(rd, .inr (8, [.ref ri, .int (iI (((L : Nat) : Int))), .int (iI ((((pt + 1) : Nat) : Int))), .int (iI (1)), .int (iI (er)), .int (iI (ea)), .int (iI (cn)), .ref rk, .ref rn, .ref ro, .ref rt]))], [(ri, .inl (τ 1, 500, .inl (fun j => iI ((b) j))))]])) (va_A (bl [[(rd, .inr (8, [.ref ri, .int (iI (((L : Nat) : Int))), .int (iI (((pt : Nat) : Int))), .int (iI (1)), .int (iI (er)), .int (iI (ea)), .int (iI (cn)), .ref rk, .ref rn, .ref ro, .ref rt]))], [(ri, .inl (τ 1, 500, .inl (fun j => iI ((b) j))))]]) sz)) 0 0 (va_A (bl [[(rd, .inr (8, [.ref ri, .int (iI (((L : Nat) : Int))), .int (iI (((pt : Nat) : Int))), .int (iI (1)), .int (iI (er)), .int (iI (ea)), .int (iI (cn)), .ref rk, .ref rn, .ref ro, .ref rt]))], [(ri, .inl (τ 1, 500, .inl (fun j => iI ((b) j))))]]) sz) := by
  refine bodyW (by decide) (Nat.le_of_ble_eq_true rfl) (fun p e s m below meth c ls B hr hlk hin hsz Y hl => ?_)
  have hl : lv_has ls 1 [(0, .ref rd)] := hl
  have B : CallFix p m c cX6_isAnotherDue 1 s _ wALL RX6 := B
  generalize va_A (bl [[(rd, .inr (8, [.ref ri, .int (iI (((L : Nat) : Int))), .int (iI (((pt : Nat) : Int))), .int (iI (1)), .int (iI (er)), .int (iI (ea)), .int (iI (cn)), .ref rk, .ref rn, .ref ro, .ref rt]))], [(ri, .inl (τ 1, 500, .inl (fun j => iI ((b) j))))]]) sz = A at Y ⊢
  have hsq : sgI b L pt = b pt := sgI_at (by omega)
  refine lv_aload_n B.1 B.2.1 dX6_isAnotherDue_0 rfl (lv_at hl 0 rfl) ?_
  refine gf_X6_19 B Y 0 rfl rfl dX6_isAnotherDue_1 ?_
  refine lv_aload_n B.1 B.2.1 dX6_isAnotherDue_4 rfl (lv_at hl 0 rfl) ?_
  refine gf_X6_15 B Y 0 rfl rfl dX6_isAnotherDue_5 ?_
  refine lv_icmp_lt (tgt := 20) B.1 B.2.1 dX6_isAnotherDue_8 (by decide) (fun _ => ?_) (fun h => absurd ((iI_lt (a := ((pt : Nat) : Int)) (b := ((L : Nat) : Int)) (by omega) (by omega) (by omega) (by omega)).mpr (by omega)) h) 
  refine lv_aload_n B.1 B.2.1 dX6_isAnotherDue_20 rfl (lv_at hl 0 rfl) ?_
  refine qI (Cs := [[(rd, .inr (8, [.ref ri, .int (iI (((L : Nat) : Int))), .int (iI (((pt : Nat) : Int))), .int (iI (1)), .int (iI (er)), .int (iI (ea)), .int (iI (cn)), .ref rk, .ref rn, .ref ro, .ref rt]))], [(ri, .inl (τ 1, 500, .inl (fun j => iI ((b) j))))]]) (Rs := []) Y [0, 1] [] (by decide) rfl (cV (As := []) (rest := []) (q0 := 0) B Y [0, 1] (by decide) rfl (k_sign l D τ _ rd ri rk rn ro rt L  (1) (er) (ea) (cn) b (by omega) hb pt (by omega)) rfl rfl q_782 q_784 qp_6 q_3 q_785 rfl rfl hd_X6_sign ⟨(Nat.le_of_ble_eq_true rfl), (Nat.le_of_ble_eq_true rfl)⟩ rfl hl.1 rfl (Nat.le_of_ble_eq_true rfl) dX6_isAnotherDue_21 ⟨(Nat.le_of_ble_eq_true rfl), (Nat.le_of_ble_eq_true rfl)⟩) (fun r u H locs hw Y => ?_)
  subst hw
  have Y : Wd D τ s A s.heap (bl [[(rd, .inr (8, [.ref ri, .int (iI (((L : Nat) : Int))), .int (iI (((pt : Nat) : Int))), .int (iI (1)), .int (iI (er)), .int (iI (ea)), .int (iI (cn)), .ref rk, .ref rn, .ref ro, .ref rt]))], [(ri, .inl (τ 1, 500, .inl (fun j => iI ((b) j))))]]) _ _ := Y
  refine lv_bipush (v := (iI (59))) B.1 B.2.1 dX6_isAnotherDue_24 (by decide) ?_
  refine lv_icmp_eq (tgt := 39) B.1 B.2.1 dX6_isAnotherDue_26 (by decide) (fun _ => ?_) (fun h => absurd ((iI_eq (a := sgI b L pt) (b := 59) (by omega) (by omega) (by omega) (by omega)).mpr (by omega)) h) 
  refine lv_aload_n B.1 B.2.1 dX6_isAnotherDue_39 rfl (lv_at hl 0 rfl) ?_
  refine lv_dup B.1 B.2.1 dX6_isAnotherDue_40 rfl ?_
  refine gf_X6_19 B Y 0 rfl rfl dX6_isAnotherDue_41 ?_
  refine lv_iconst (v := (iI (1))) B.1 B.2.1 dX6_isAnotherDue_44 (by decide) ?_
  refine lv_iadd B.1 B.2.1 dX6_isAnotherDue_45 ?_
  refine lv_cv (v := (iI (((pt + 1) : Nat) : Int))) (iI_inc _) ?_
  refine pf_X6_19 (B' := [[(rd, .inr (8, [.ref ri, .int (iI (((L : Nat) : Int))), .int (iI (((pt + 1) : Nat) : Int)), .int (iI (1)), .int (iI (er)), .int (iI (ea)), .int (iI (cn)), .ref rk, .ref rn, .ref ro, .ref rt]))], [(ri, .inl (τ 1, 500, .inl (fun j => iI ((b) j))))]]) B Y 0 rfl (Nat.le_of_ble_eq_true rfl) rfl dX6_isAnotherDue_46 (fun H locs Y => ?_)
  refine lv_aload_n B.1 B.2.1 dX6_isAnotherDue_49 rfl (lv_at hl 0 rfl) ?_
  refine qV (Cs := [[(rd, .inr (8, [.ref ri, .int (iI (((L : Nat) : Int))), .int (iI (((pt + 1) : Nat) : Int)), .int (iI (1)), .int (iI (er)), .int (iI (ea)), .int (iI (cn)), .ref rk, .ref rn, .ref ro, .ref rt]))], [(ri, .inl (τ 1, 500, .inl (fun j => iI ((b) j))))]]) (Rs := []) Y [0, 1] [] (by decide) rfl (cV (As := []) (rest := []) (q0 := 0) B Y [0, 1] (by decide) rfl (k_skipSpaces l D τ _ rd ri rk rn ro rt L (1) (er) (ea) (cn) b (by omega) hb (pt + 1) (pt + 1) (Nat.le_refl _) (by omega) (fun j h1 h2 => absurd h2 (Nat.not_lt.mpr h1)) (fun q => absurd q (by omega))) rfl rfl q_778 q_780 qp_5 q_3 q_781 rfl rfl hd_X6_skipSpaces ⟨(Nat.le_of_ble_eq_true rfl), (Nat.le_of_ble_eq_true rfl)⟩ rfl hl.1 rfl (Nat.le_of_ble_eq_true rfl) dX6_isAnotherDue_50 ⟨(Nat.le_of_ble_eq_true rfl), (Nat.le_of_ble_eq_true rfl)⟩) (fun u H locs hw Y => ?_)
  have Y : Wd D τ s A s.heap (bl [[(rd, .inr (8, [.ref ri, .int (iI (((L : Nat) : Int))), .int (iI (((pt + 1) : Nat) : Int)), .int (iI (1)), .int (iI (er)), .int (iI (ea)), .int (iI (cn)), .ref rk, .ref rn, .ref ro, .ref rt]))], [(ri, .inl (τ 1, 500, .inl (fun j => iI ((b) j))))]]) _ _ := Y
  refine lv_aload_n B.1 B.2.1 dX6_isAnotherDue_53 rfl (lv_at hl 0 rfl) ?_
  refine gf_X6_22 B Y 0 rfl rfl dX6_isAnotherDue_54 ?_
  refine lv_if_eq (tgt := 71) B.1 B.2.1 dX6_isAnotherDue_57 (by decide) (fun h => absurd h (by decide)) (fun _ => ?_)
  refine lv_aload_n B.1 B.2.1 dX6_isAnotherDue_60 rfl (lv_at hl 0 rfl) ?_
  refine gf_X6_19 B Y 0 rfl rfl dX6_isAnotherDue_61 ?_
  refine lv_aload_n B.1 B.2.1 dX6_isAnotherDue_64 rfl (lv_at hl 0 rfl) ?_
  refine gf_X6_15 B Y 0 rfl rfl dX6_isAnotherDue_65 ?_
  refine lv_icmp_ge (tgt := 75) B.1 B.2.1 dX6_isAnotherDue_68 (by decide) (fun _ => ?_) (fun h => absurd ((iI_le (a := ((L : Nat) : Int)) (b := (((pt + 1) : Nat) : Int)) (by omega) (by omega) (by omega) (by omega)).mpr (by omega)) h) 
  refine lv_iconst (v := (iI (0))) B.1 B.2.1 dX6_isAnotherDue_75 (by decide) ?_
  exact eZ B hr hlk Y (by decide) () rfl [0, 1] (by decide) rfl (Nat.le_of_ble_eq_true rfl) (Nat.le_of_ble_eq_true rfl) dX6_isAnotherDue_76

