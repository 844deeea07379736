set_option maxHeartbeats 4000000 in
set_option maxRecDepth 100000 in
theorem r_size (l : Launch) (D : va_G) (τ : Nat → ClassId) (sz : Nat) (mo e0 e1 e2 e3 e4 e5 e6 e7 e8 e9 e10 e11 e12 : Nat) (k : Int32) : Met l yX10_size (Cond.code yX10_size cX10_size 2 (some .int) :: wALL) { frames := 2, cells := 0, slots := 0, locals := 44 } (Pw D τ [(mo, .inr (10, [.ref e0, .ref e1, .ref e2, .ref e3, .ref e4, .int 0, .int 0, .int 0, .ref e5, .int 0, .int 0, .int 0, .int 0, .int 0, .int 0, .int 0, .int (-1), .int 0, .int 0, .ref e6, .ref e7, .ref e8, .ref e9, .int 0, .ref e10, .ref e11, .int 0, .int 0, .ref e12, .int 0])), (e0, .inl (τ 0, 16816, .inl (S0)))] sz [.ref mo, .int k]) (va_Qi (fun (r : Int32) (u : Nat → Int32) => (∀ n : Nat, n ≤ 15 → k = nI n → r = szT n ∧ u 1 = 0) ∧ (k < 0 ∨ 15 < k → u 1 = 1)) (Bw D (va_A [(mo, .inr (10, [.ref e0, .ref e1, .ref e2, .ref e3, .ref e4, .int 0, .int 0, .int 0, .ref e5, .int 0, .int 0, .int 0, .int 0, .int 0, .int 0, .int 0, .int (-1), .int 0, .int 0, .ref e6, .ref e7, .ref e8, .ref e9, .int 0, .ref e10, .ref e11, .int 0, .int 0, .ref e12, .int 0])), (e0, .inl (τ 0, 16816, .inl (S0)))] sz) (fun (u : Nat → Int32) => [(mo, .inr (10, [.ref e0, .ref e1, .ref e2, .ref e3, .ref e4, .int (u 0), .int (u 1), .int (u 2), .ref e5, .int (u 3), .int (u 4), .int (u 5), .int (u 6), .int (u 7), .int (u 8), .int (u 9), .int (u 10), .int (u 11), .int (u 12), .ref e6, .ref e7, .ref e8, .ref e9, .int (u 13), .ref e10, .ref e11, .int (u 14), .int (u 15), .ref e12, .int (u 16)]))])) (va_A [(mo, .inr (10, [.ref e0, .ref e1, .ref e2, .ref e3, .ref e4, .int 0, .int 0, .int 0, .ref e5, .int 0, .int 0, .int 0, .int 0, .int 0, .int 0, .int 0, .int (-1), .int 0, .int 0, .ref e6, .ref e7, .ref e8, .ref e9, .int 0, .ref e10, .ref e11, .int 0, .int 0, .ref e12, .int 0])), (e0, .inl (τ 0, 16816, .inl (S0)))] sz)) 0 0 (va_A [(mo, .inr (10, [.ref e0, .ref e1, .ref e2, .ref e3, .ref e4, .int 0, .int 0, .int 0, .ref e5, .int 0, .int 0, .int 0, .int 0, .int 0, .int 0, .int 0, .int (-1), .int 0, .int 0, .ref e6, .ref e7, .ref e8, .ref e9, .int 0, .ref e10, .ref e11, .int 0, .int 0, .ref e12, .int 0])), (e0, .inl (τ 0, 16816, .inl (S0)))] sz) := by
  refine bodyW (by decide) (Nat.le_of_ble_eq_true rfl) (fun p e s m below meth c ls B hr hlk hin hsz Y hl => ?_)
  have hl : lv_has ls 2 [(0, .ref mo), (1, .int k)] := hl
  have B : CallFix p m c cX10_size 2 s _ wALL RX10 := B
  generalize va_A [(mo, .inr (10, [.ref e0, .ref e1, .ref e2, .ref e3, .ref e4, .int 0, .int 0, .int 0, .ref e5, .int 0, .int 0, .int 0, .int 0, .int 0, .int 0, .int 0, .int (-1), .int 0, .int 0, .ref e6, .ref e7, .ref e8, .ref e9, .int 0, .ref e10, .ref e11, .int 0, .int 0, .ref e12, .int 0])), (e0, .inl (τ 0, 16816, .inl (S0)))] sz = A at Y ⊢
  rcases rngL k 15 (by decide) with hk | ⟨n, hn, rfl⟩
  · refine lv_aload_n B.1 B.2.1 dX10_size_0 rfl (lv_at hl 0 rfl) ?_
    refine lv_iload_n B.1 B.2.1 dX10_size_1 rfl (lv_at hl 1 rfl) ?_
    refine lv_i2l B.1 B.2.1 dX10_size_2 rfl ?_
    refine lv_lconst (v := Int32.toInt64 0) B.1 B.2.1 dX10_size_3 (by decide) ?_
    refine lv_ldc2 B.1 B.2.1 B.2.2.2.1 (B.2.2.2.2 _ q_1912) dX10_size_4 ?_
    refine t_cvL (v := Int32.toInt64 15) (by decide) ?_
    refine retI (wc := []) (wr := [(mo, .inr (10, [.ref e0, .ref e1, .ref e2, .ref e3, .ref e4, .int 0, .int 0, .int 0, .ref e5, .int 0, .int 0, .int 0, .int 0, .int 0, .int 0, .int 0, .int (-1), .int 0, .int 0, .ref e6, .ref e7, .ref e8, .ref e9, .int 0, .ref e10, .ref e11, .int 0, .int 0, .ref e12, .int 0])), (e0, .inl (τ 0, 16816, .inl (S0)))]) Y [] [0, 1] rfl rfl (by decide) (by decide) (rS (As := [.long (Int32.toInt64 k), .long (Int32.toInt64 0), .long (Int32.toInt64 15)]) (rest := [.ref mo]) B Y [] (by decide) rfl (k_in l D τ _ k 0 15) q_1593 q_1594 q_12 q_1595 rfl rfl hd_X10_in ⟨(Nat.le_of_ble_eq_true rfl), (Nat.le_of_ble_eq_true rfl)⟩ rfl hl.1 rfl (Nat.le_of_ble_eq_true rfl) dX10_size_7 ⟨(Nat.le_of_ble_eq_true rfl), (Nat.le_of_ble_eq_true rfl)⟩) (fun r u H locs hw Y => ?_)
    have hw : r = 0 := hw.2 hk
    subst hw
    have Y : Wd D τ s A s.heap [(mo, .inr (10, [.ref e0, .ref e1, .ref e2, .ref e3, .ref e4, .int 0, .int 0, .int 0, .ref e5, .int 0, .int 0, .int 0, .int 0, .int 0, .int 0, .int 0, .int (-1), .int 0, .int 0, .ref e6, .ref e7, .ref e8, .ref e9, .int 0, .ref e10, .ref e11, .int 0, .int 0, .ref e12, .int 0])), (e0, .inl (τ 0, 16816, .inl (S0)))] H _ := Y
    refine retI (wc := [(mo, .inr (10, [.ref e0, .ref e1, .ref e2, .ref e3, .ref e4, .int 0, .int 0, .int 0, .ref e5, .int 0, .int 0, .int 0, .int 0, .int 0, .int 0, .int 0, .int (-1), .int 0, .int 0, .ref e6, .ref e7, .ref e8, .ref e9, .int 0, .ref e10, .ref e11, .int 0, .int 0, .ref e12, .int 0]))]) (wr := [(e0, .inl (τ 0, 16816, .inl (S0)))]) Y [0] [1] rfl rfl (by decide) (by decide) (rV (As := [.int 0]) (rest := []) (q0 := 0) B Y [0] (by decide) rfl (k_passes0 l D τ _ mo e0 e1 e2 e3 e4 e5 e6 e7 e8 e9 e10 e11 e12 0 0 0 0 0 0 0 0 0 0 (-1) 0 0 0 0 0 0) rfl rfl q_1581 q_1583 qp_46 q_12 q_1584 rfl rfl hd_X10_passes ⟨(Nat.le_of_ble_eq_true rfl), (Nat.le_of_ble_eq_true rfl)⟩ rfl hl.1 rfl (Nat.le_of_ble_eq_true rfl) dX10_size_10 ⟨(Nat.le_of_ble_eq_true rfl), (Nat.le_of_ble_eq_true rfl)⟩) (fun r u H locs hw Y => ?_)
    have hw : r = 0 := hw
    subst hw
    have Y : Wd D τ s A s.heap [(e0, .inl (τ 0, 16816, .inl (S0))), (mo, .inr (10, [.ref e0, .ref e1, .ref e2, .ref e3, .ref e4, .int 0, .int 1, .int 0, .ref e5, .int 0, .int 0, .int 0, .int 0, .int 0, .int 0, .int 0, .int (-1), .int 0, .int 0, .ref e6, .ref e7, .ref e8, .ref e9, .int 0, .ref e10, .ref e11, .int 0, .int 0, .ref e12, .int 0]))] H _ := Y
    refine lv_if_ne (tgt := 18) B.1 B.2.1 dX10_size_13 (by decide) (fun h => absurd (by decide) h) (fun _ => ?_)
    refine lv_iconst (v := 0) B.1 B.2.1 dX10_size_16 (by decide) ?_
    exact endI B hr hlk Y (lsI [0, 1, 0, 0, 0, 0, 0, 0, 0, 0, (-1), 0, 0, 0, 0, 0, 0]) ⟨fun n hn e => absurd hk (by subst e; exact nor2 (nI_pos (by omega)) (nI_nlt (b := n) (a := 15) hn (by decide))), fun _ => rfl⟩ [1] (by decide) rfl (Nat.le_of_ble_eq_true rfl) (Nat.le_of_ble_eq_true rfl) dX10_size_17
  · rcases (show n = 0 ∨ n = 1 ∨ n = 2 ∨ n = 3 ∨ n = 4 ∨ n = 5 ∨ n = 6 ∨ n = 7 ∨ n = 8 ∨ n = 9 ∨ n = 10 ∨ n = 11 ∨ n = 12 ∨ n = 13 ∨ n = 14 ∨ n = 15 by omega) with rfl | rfl | rfl | rfl | rfl | rfl | rfl | rfl | rfl | rfl | rfl | rfl | rfl | rfl | rfl | rfl
    · have hl : lv_has ls 2 [(0, .ref mo), (1, .int 0)] := hl
      refine lv_aload_n B.1 B.2.1 dX10_size_0 rfl (lv_at hl 0 rfl) ?_
      refine lv_iload_n B.1 B.2.1 dX10_size_1 rfl (lv_at hl 1 rfl) ?_
      refine lv_i2l B.1 B.2.1 dX10_size_2 rfl ?_
      refine lv_lconst (v := Int32.toInt64 0) B.1 B.2.1 dX10_size_3 (by decide) ?_
      refine lv_ldc2 B.1 B.2.1 B.2.2.2.1 (B.2.2.2.2 _ q_1912) dX10_size_4 ?_
      refine t_cvL (v := Int32.toInt64 15) (by decide) ?_
      refine retI (wc := []) (wr := [(mo, .inr (10, [.ref e0, .ref e1, .ref e2, .ref e3, .ref e4, .int 0, .int 0, .int 0, .ref e5, .int 0, .int 0, .int 0, .int 0, .int 0, .int 0, .int 0, .int (-1), .int 0, .int 0, .ref e6, .ref e7, .ref e8, .ref e9, .int 0, .ref e10, .ref e11, .int 0, .int 0, .ref e12, .int 0])), (e0, .inl (τ 0, 16816, .inl (S0)))]) Y [] [0, 1] rfl rfl (by decide) (by decide) (rS (As := [.long (Int32.toInt64 0), .long (Int32.toInt64 0), .long (Int32.toInt64 15)]) (rest := [.ref mo]) B Y [] (by decide) rfl (k_in l D τ _ 0 0 15) q_1593 q_1594 q_12 q_1595 rfl rfl hd_X10_in ⟨(Nat.le_of_ble_eq_true rfl), (Nat.le_of_ble_eq_true rfl)⟩ rfl hl.1 rfl (Nat.le_of_ble_eq_true rfl) dX10_size_7 ⟨(Nat.le_of_ble_eq_true rfl), (Nat.le_of_ble_eq_true rfl)⟩) (fun r u H locs hw Y => ?_)
      have hw : r = 1 := hw.1 (by decide)
      subst hw
      have Y : Wd D τ s A s.heap [(mo, .inr (10, [.ref e0, .ref e1, .ref e2, .ref e3, .ref e4, .int 0, .int 0, .int 0, .ref e5, .int 0, .int 0, .int 0, .int 0, .int 0, .int 0, .int 0, .int (-1), .int 0, .int 0, .ref e6, .ref e7, .ref e8, .ref e9, .int 0, .ref e10, .ref e11, .int 0, .int 0, .ref e12, .int 0])), (e0, .inl (τ 0, 16816, .inl (S0)))] H _ := Y
      refine retI (wc := [(mo, .inr (10, [.ref e0, .ref e1, .ref e2, .ref e3, .ref e4, .int 0, .int 0, .int 0, .ref e5, .int 0, .int 0, .int 0, .int 0, .int 0, .int 0, .int 0, .int (-1), .int 0, .int 0, .ref e6, .ref e7, .ref e8, .ref e9, .int 0, .ref e10, .ref e11, .int 0, .int 0, .ref e12, .int 0]))]) (wr := [(e0, .inl (τ 0, 16816, .inl (S0)))]) Y [0] [1] rfl rfl (by decide) (by decide) (rV (As := [.int 1]) (rest := []) (q0 := 0) B Y [0] (by decide) rfl (k_passes1 l D τ _ mo e0 e1 e2 e3 e4 e5 e6 e7 e8 e9 e10 e11 e12 0 0 0 0 0 0 0 0 0 0 (-1) 0 0 0 0 0 0) rfl rfl q_1581 q_1583 qp_46 q_12 q_1584 rfl rfl hd_X10_passes ⟨(Nat.le_of_ble_eq_true rfl), (Nat.le_of_ble_eq_true rfl)⟩ rfl hl.1 rfl (Nat.le_of_ble_eq_true rfl) dX10_size_10 ⟨(Nat.le_of_ble_eq_true rfl), (Nat.le_of_ble_eq_true rfl)⟩) (fun r u H locs hw Y => ?_)
      have hw : r = 1 := hw
      subst hw
      have Y : Wd D τ s A s.heap [(e0, .inl (τ 0, 16816, .inl (S0))), (mo, .inr (10, [.ref e0, .ref e1, .ref e2, .ref e3, .ref e4, .int 0, .int 0, .int 0, .ref e5, .int 0, .int 0, .int 0, .int 0, .int 0, .int 0, .int 0, .int (-1), .int 0, .int 0, .ref e6, .ref e7, .ref e8, .ref e9, .int 0, .ref e10, .ref e11, .int 0, .int 0, .ref e12, .int 0]))] H _ := Y
      refine lv_if_ne (tgt := 18) B.1 B.2.1 dX10_size_13 (by decide) (fun _ => ?_) (fun h => absurd h (by decide))
      refine lv_iload_n B.1 B.2.1 dX10_size_18 rfl (lv_at hl 1 rfl) ?_
      refine lv_tableOut (tgt := 103) B.1 B.2.1 dX10_size_19 (by decide) (by decide) ?_
      refine lv_aload_n B.1 B.2.1 dX10_size_103 rfl (lv_at hl 0 rfl) ?_
      refine gf_X10_7 B Y 1 rfl rfl dX10_size_104 ?_
      refine lv_iload_n B.1 B.2.1 dX10_size_107 rfl (lv_at hl 1 rfl) ?_
      refine t_iald (v := 1) (j := 0) B Y 0 rfl (by decide) (by decide) (Nat.le_of_ble_eq_true rfl) rfl dX10_size_108 ?_
      exact endI B hr hlk Y (lsI [0, 0, 0, 0, 0, 0, 0, 0, 0, 0, (-1), 0, 0, 0, 0, 0, 0]) ⟨fun n hn e => by obtain rfl := nIj (a := 0) (by decide) (by omega) e; exact ⟨rfl, rfl⟩, fun h => absurd h (by decide)⟩ [1] (by decide) rfl (Nat.le_of_ble_eq_true rfl) (Nat.le_of_ble_eq_true rfl) dX10_size_109
    · have hl : lv_has ls 2 [(0, .ref mo), (1, .int 1)] := hl
      refine lv_aload_n B.1 B.2.1 dX10_size_0 rfl (lv_at hl 0 rfl) ?_
      refine lv_iload_n B.1 B.2.1 dX10_size_1 rfl (lv_at hl 1 rfl) ?_
      refine lv_i2l B.1 B.2.1 dX10_size_2 rfl ?_
      refine lv_lconst (v := Int32.toInt64 0) B.1 B.2.1 dX10_size_3 (by decide) ?_
      refine lv_ldc2 B.1 B.2.1 B.2.2.2.1 (B.2.2.2.2 _ q_1912) dX10_size_4 ?_
      refine t_cvL (v := Int32.toInt64 15) (by decide) ?_
      refine retI (wc := []) (wr := [(mo, .inr (10, [.ref e0, .ref e1, .ref e2, .ref e3, .ref e4, .int 0, .int 0, .int 0, .ref e5, .int 0, .int 0, .int 0, .int 0, .int 0, .int 0, .int 0, .int (-1), .int 0, .int 0, .ref e6, .ref e7, .ref e8, .ref e9, .int 0, .ref e10, .ref e11, .int 0, .int 0, .ref e12, .int 0])), (e0, .inl (τ 0, 16816, .inl (S0)))]) Y [] [0, 1] rfl rfl (by decide) (by decide) (rS (As := [.long (Int32.toInt64 1), .long (Int32.toInt64 0), .long (Int32.toInt64 15)]) (rest := [.ref mo]) B Y [] (by decide) rfl (k_in l D τ _ 1 0 15) q_1593 q_1594 q_12 q_1595 rfl rfl hd_X10_in ⟨(Nat.le_of_ble_eq_true rfl), (Nat.le_of_ble_eq_true rfl)⟩ rfl hl.1 rfl (Nat.le_of_ble_eq_true rfl) dX10_size_7 ⟨(Nat.le_of_ble_eq_true rfl), (Nat.le_of_ble_eq_true rfl)⟩) (fun r u H locs hw Y => ?_)
      have hw : r = 1 := hw.1 (by decide)
      subst hw
      have Y : Wd D τ s A s.heap [(mo, .inr (10, [.ref e0, .ref e1, .ref e2, .ref e3, .ref e4, .int 0, .int 0, .int 0, .ref e5, .int 0, .int 0, .int 0, .int 0, .int 0, .int 0, .int 0, .int (-1), .int 0, .int 0, .ref e6, .ref e7, .ref e8, .ref e9, .int 0, .ref e10, .ref e11, .int 0, .int 0, .ref e12, .int 0])), (e0, .inl (τ 0, 16816, .inl (S0)))] H _ := Y
      refine retI (wc := [(mo, .inr (10, [.ref e0, .ref e1, .ref e2, .ref e3, .ref e4, .int 0, .int 0, .int 0, .ref e5, .int 0, .int 0, .int 0, .int 0, .int 0, .int 0, .int 0, .int (-1), .int 0, .int 0, .ref e6, .ref e7, .ref e8, .ref e9, .int 0, .ref e10, .ref e11, .int 0, .int 0, .ref e12, .int 0]))]) (wr := [(e0, .inl (τ 0, 16816, .inl (S0)))]) Y [0] [1] rfl rfl (by decide) (by decide) (rV (As := [.int 1]) (rest := []) (q0 := 0) B Y [0] (by decide) rfl (k_passes1 l D τ _ mo e0 e1 e2 e3 e4 e5 e6 e7 e8 e9 e10 e11 e12 0 0 0 0 0 0 0 0 0 0 (-1) 0 0 0 0 0 0) rfl rfl q_1581 q_1583 qp_46 q_12 q_1584 rfl rfl hd_X10_passes ⟨(Nat.le_of_ble_eq_true rfl), (Nat.le_of_ble_eq_true rfl)⟩ rfl hl.1 rfl (Nat.le_of_ble_eq_true rfl) dX10_size_10 ⟨(Nat.le_of_ble_eq_true rfl), (Nat.le_of_ble_eq_true rfl)⟩) (fun r u H locs hw Y => ?_)
      have hw : r = 1 := hw
      subst hw
      have Y : Wd D τ s A s.heap [(e0, .inl (τ 0, 16816, .inl (S0))), (mo, .inr (10, [.ref e0, .ref e1, .ref e2, .ref e3, .ref e4, .int 0, .int 0, .int 0, .ref e5, .int 0, .int 0, .int 0, .int 0, .int 0, .int 0, .int 0, .int (-1), .int 0, .int 0, .ref e6, .ref e7, .ref e8, .ref e9, .int 0, .ref e10, .ref e11, .int 0, .int 0, .ref e12, .int 0]))] H _ := Y
      refine lv_if_ne (tgt := 18) B.1 B.2.1 dX10_size_13 (by decide) (fun _ => ?_) (fun h => absurd h (by decide))
      refine lv_iload_n B.1 B.2.1 dX10_size_18 rfl (lv_at hl 1 rfl) ?_
      refine lv_tableOut (tgt := 103) B.1 B.2.1 dX10_size_19 (by decide) (by decide) ?_
      refine lv_aload_n B.1 B.2.1 dX10_size_103 rfl (lv_at hl 0 rfl) ?_
      refine gf_X10_7 B Y 1 rfl rfl dX10_size_104 ?_
      refine lv_iload_n B.1 B.2.1 dX10_size_107 rfl (lv_at hl 1 rfl) ?_
      refine t_iald (v := 0) (j := 1) B Y 0 rfl (by decide) (by decide) (Nat.le_of_ble_eq_true rfl) rfl dX10_size_108 ?_
      exact endI B hr hlk Y (lsI [0, 0, 0, 0, 0, 0, 0, 0, 0, 0, (-1), 0, 0, 0, 0, 0, 0]) ⟨fun n hn e => by obtain rfl := nIj (a := 1) (by decide) (by omega) e; exact ⟨rfl, rfl⟩, fun h => absurd h (by decide)⟩ [1] (by decide) rfl (Nat.le_of_ble_eq_true rfl) (Nat.le_of_ble_eq_true rfl) dX10_size_109
    · have hl : lv_has ls 2 [(0, .ref mo), (1, .int 2)] := hl
      refine lv_aload_n B.1 B.2.1 dX10_size_0 rfl (lv_at hl 0 rfl) ?_
      refine lv_iload_n B.1 B.2.1 dX10_size_1 rfl (lv_at hl 1 rfl) ?_
      refine lv_i2l B.1 B.2.1 dX10_size_2 rfl ?_
      refine lv_lconst (v := Int32.toInt64 0) B.1 B.2.1 dX10_size_3 (by decide) ?_
      refine lv_ldc2 B.1 B.2.1 B.2.2.2.1 (B.2.2.2.2 _ q_1912) dX10_size_4 ?_
      refine t_cvL (v := Int32.toInt64 15) (by decide) ?_
      refine retI (wc := []) (wr := [(mo, .inr (10, [.ref e0, .ref e1, .ref e2, .ref e3, .ref e4, .int 0, .int 0, .int 0, .ref e5, .int 0, .int 0, .int 0, .int 0, .int 0, .int 0, .int 0, .int (-1), .int 0, .int 0, .ref e6, .ref e7, .ref e8, .ref e9, .int 0, .ref e10, .ref e11, .int 0, .int 0, .ref e12, .int 0])), (e0, .inl (τ 0, 16816, .inl (S0)))]) Y [] [0, 1] rfl rfl (by decide) (by decide) (rS (As := [.long (Int32.toInt64 2), .long (Int32.toInt64 0), .long (Int32.toInt64 15)]) (rest := [.ref mo]) B Y [] (by decide) rfl (k_in l D τ _ 2 0 15) q_1593 q_1594 q_12 q_1595 rfl rfl hd_X10_in ⟨(Nat.le_of_ble_eq_true rfl), (Nat.le_of_ble_eq_true rfl)⟩ rfl hl.1 rfl (Nat.le_of_ble_eq_true rfl) dX10_size_7 ⟨(Nat.le_of_ble_eq_true rfl), (Nat.le_of_ble_eq_true rfl)⟩) (fun r u H locs hw Y => ?_)
      have hw : r = 1 := hw.1 (by decide)
      subst hw
      have Y : Wd D τ s A s.heap [(mo, .inr (10, [.ref e0, .ref e1, .ref e2, .ref e3, .ref e4, .int 0, .int 0, .int 0, .ref e5, .int 0, .int 0, .int 0, .int 0, .int 0, .int 0, .int 0, .int (-1), .int 0, .int 0, .ref e6, .ref e7, .ref e8, .ref e9, .int 0, .ref e10, .ref e11, .int 0, .int 0, .ref e12, .int 0])), (e0, .inl (τ 0, 16816, .inl (S0)))] H _ := Y
      refine retI (wc := [(mo, .inr (10, [.ref e0, .ref e1, .ref e2, .ref e3, .ref e4, .int 0, .int 0, .int 0, .ref e5, .int 0, .int 0, .int 0, .int 0, .int 0, .int 0, .int 0, .int (-1), .int 0, .int 0, .ref e6, .ref e7, .ref e8, .ref e9, .int 0, .ref e10, .ref e11, .int 0, .int 0, .ref e12, .int 0]))]) (wr := [(e0, .inl (τ 0, 16816, .inl (S0)))]) Y [0] [1] rfl rfl (by decide) (by decide) (rV (As := [.int 1]) (rest := []) (q0 := 0) B Y [0] (by decide) rfl (k_passes1 l D τ _ mo e0 e1 e2 e3 e4 e5 e6 e7 e8 e9 e10 e11 e12 0 0 0 0 0 0 0 0 0 0 (-1) 0 0 0 0 0 0) rfl rfl q_1581 q_1583 qp_46 q_12 q_1584 rfl rfl hd_X10_passes ⟨(Nat.le_of_ble_eq_true rfl), (Nat.le_of_ble_eq_true rfl)⟩ rfl hl.1 rfl (Nat.le_of_ble_eq_true rfl) dX10_size_10 ⟨(Nat.le_of_ble_eq_true rfl), (Nat.le_of_ble_eq_true rfl)⟩) (fun r u H locs hw Y => ?_)
      have hw : r = 1 := hw
      subst hw
      have Y : Wd D τ s A s.heap [(e0, .inl (τ 0, 16816, .inl (S0))), (mo, .inr (10, [.ref e0, .ref e1, .ref e2, .ref e3, .ref e4, .int 0, .int 0, .int 0, .ref e5, .int 0, .int 0, .int 0, .int 0, .int 0, .int 0, .int 0, .int (-1), .int 0, .int 0, .ref e6, .ref e7, .ref e8, .ref e9, .int 0, .ref e10, .ref e11, .int 0, .int 0, .ref e12, .int 0]))] H _ := Y
      refine lv_if_ne (tgt := 18) B.1 B.2.1 dX10_size_13 (by decide) (fun _ => ?_) (fun h => absurd h (by decide))
      refine lv_iload_n B.1 B.2.1 dX10_size_18 rfl (lv_at hl 1 rfl) ?_
      refine lv_tableOut (tgt := 103) B.1 B.2.1 dX10_size_19 (by decide) (by decide) ?_
      refine lv_aload_n B.1 B.2.1 dX10_size_103 rfl (lv_at hl 0 rfl) ?_
      refine gf_X10_7 B Y 1 rfl rfl dX10_size_104 ?_
      refine lv_iload_n B.1 B.2.1 dX10_size_107 rfl (lv_at hl 1 rfl) ?_
      refine t_iald (v := 0) (j := 2) B Y 0 rfl (by decide) (by decide) (Nat.le_of_ble_eq_true rfl) rfl dX10_size_108 ?_
      exact endI B hr hlk Y (lsI [0, 0, 0, 0, 0, 0, 0, 0, 0, 0, (-1), 0, 0, 0, 0, 0, 0]) ⟨fun n hn e => by obtain rfl := nIj (a := 2) (by decide) (by omega) e; exact ⟨rfl, rfl⟩, fun h => absurd h (by decide)⟩ [1] (by decide) rfl (Nat.le_of_ble_eq_true rfl) (Nat.le_of_ble_eq_true rfl) dX10_size_109
    · have hl : lv_has ls 2 [(0, .ref mo), (1, .int 3)] := hl
      refine lv_aload_n B.1 B.2.1 dX10_size_0 rfl (lv_at hl 0 rfl) ?_
      refine lv_iload_n B.1 B.2.1 dX10_size_1 rfl (lv_at hl 1 rfl) ?_
      refine lv_i2l B.1 B.2.1 dX10_size_2 rfl ?_
      refine lv_lconst (v := Int32.toInt64 0) B.1 B.2.1 dX10_size_3 (by decide) ?_
      refine lv_ldc2 B.1 B.2.1 B.2.2.2.1 (B.2.2.2.2 _ q_1912) dX10_size_4 ?_
      refine t_cvL (v := Int32.toInt64 15) (by decide) ?_
      refine retI (wc := []) (wr := [(mo, .inr (10, [.ref e0, .ref e1, .ref e2, .ref e3, .ref e4, .int 0, .int 0, .int 0, .ref e5, .int 0, .int 0, .int 0, .int 0, .int 0, .int 0, .int 0, .int (-1), .int 0, .int 0, .ref e6, .ref e7, .ref e8, .ref e9, .int 0, .ref e10, .ref e11, .int 0, .int 0, .ref e12, .int 0])), (e0, .inl (τ 0, 16816, .inl (S0)))]) Y [] [0, 1] rfl rfl (by decide) (by decide) (rS (As := [.long (Int32.toInt64 3), .long (Int32.toInt64 0), .long (Int32.toInt64 15)]) (rest := [.ref mo]) B Y [] (by decide) rfl (k_in l D τ _ 3 0 15) q_1593 q_1594 q_12 q_1595 rfl rfl hd_X10_in ⟨(Nat.le_of_ble_eq_true rfl), (Nat.le_of_ble_eq_true rfl)⟩ rfl hl.1 rfl (Nat.le_of_ble_eq_true rfl) dX10_size_7 ⟨(Nat.le_of_ble_eq_true rfl), (Nat.le_of_ble_eq_true rfl)⟩) (fun r u H locs hw Y => ?_)
      have hw : r = 1 := hw.1 (by decide)
      subst hw
      have Y : Wd D τ s A s.heap [(mo, .inr (10, [.ref e0, .ref e1, .ref e2, .ref e3, .ref e4, .int 0, .int 0, .int 0, .ref e5, .int 0, .int 0, .int 0, .int 0, .int 0, .int 0, .int 0, .int (-1), .int 0, .int 0, .ref e6, .ref e7, .ref e8, .ref e9, .int 0, .ref e10, .ref e11, .int 0, .int 0, .ref e12, .int 0])), (e0, .inl (τ 0, 16816, .inl (S0)))] H _ := Y
      refine retI (wc := [(mo, .inr (10, [.ref e0, .ref e1, .ref e2, .ref e3, .ref e4, .int 0, .int 0, .int 0, .ref e5, .int 0, .int 0, .int 0, .int 0, .int 0, .int 0, .int 0, .int (-1), .int 0, .int 0, .ref e6, .ref e7, .ref e8, .ref e9, .int 0, .ref e10, .ref e11, .int 0, .int 0, .ref e12, .int 0]))]) (wr := [(e0, .inl (τ 0, 16816, .inl (S0)))]) Y [0] [1] rfl rfl (by decide) (by decide) (rV (As := [.int 1]) (rest := []) (q0 := 0) B Y [0] (by decide) rfl (k_passes1 l D τ _ mo e0 e1 e2 e3 e4 e5 e6 e7 e8 e9 e10 e11 e12 0 0 0 0 0 0 0 0 0 0 (-1) 0 0 0 0 0 0) rfl rfl q_1581 q_1583 qp_46 q_12 q_1584 rfl rfl hd_X10_passes ⟨(Nat.le_of_ble_eq_true rfl), (Nat.le_of_ble_eq_true rfl)⟩ rfl hl.1 rfl (Nat.le_of_ble_eq_true rfl) dX10_size_10 ⟨(Nat.le_of_ble_eq_true rfl), (Nat.le_of_ble_eq_true rfl)⟩) (fun r u H locs hw Y => ?_)
      have hw : r = 1 := hw
      subst hw
      have Y : Wd D τ s A s.heap [(e0, .inl (τ 0, 16816, .inl (S0))), (mo, .inr (10, [.ref e0, .ref e1, .ref e2, .ref e3, .ref e4, .int 0, .int 0, .int 0, .ref e5, .int 0, .int 0, .int 0, .int 0, .int 0, .int 0, .int 0, .int (-1), .int 0, .int 0, .ref e6, .ref e7, .ref e8, .ref e9, .int 0, .ref e10, .ref e11, .int 0, .int 0, .ref e12, .int 0]))] H _ := Y
      refine lv_if_ne (tgt := 18) B.1 B.2.1 dX10_size_13 (by decide) (fun _ => ?_) (fun h => absurd h (by decide))
      refine lv_iload_n B.1 B.2.1 dX10_size_18 rfl (lv_at hl 1 rfl) ?_
      refine lv_tableOut (tgt := 103) B.1 B.2.1 dX10_size_19 (by decide) (by decide) ?_
      refine lv_aload_n B.1 B.2.1 dX10_size_103 rfl (lv_at hl 0 rfl) ?_
      refine gf_X10_7 B Y 1 rfl rfl dX10_size_104 ?_
      refine lv_iload_n B.1 B.2.1 dX10_size_107 rfl (lv_at hl 1 rfl) ?_
      refine t_iald (v := 60) (j := 3) B Y 0 rfl (by decide) (by decide) (Nat.le_of_ble_eq_true rfl) rfl dX10_size_108 ?_
      exact endI B hr hlk Y (lsI [0, 0, 0, 0, 0, 0, 0, 0, 0, 0, (-1), 0, 0, 0, 0, 0, 0]) ⟨fun n hn e => by obtain rfl := nIj (a := 3) (by decide) (by omega) e; exact ⟨rfl, rfl⟩, fun h => absurd h (by decide)⟩ [1] (by decide) rfl (Nat.le_of_ble_eq_true rfl) (Nat.le_of_ble_eq_true rfl) dX10_size_109
    · have hl : lv_has ls 2 [(0, .ref mo), (1, .int 4)] := hl
      refine lv_aload_n B.1 B.2.1 dX10_size_0 rfl (lv_at hl 0 rfl) ?_
      refine lv_iload_n B.1 B.2.1 dX10_size_1 rfl (lv_at hl 1 rfl) ?_
      refine lv_i2l B.1 B.2.1 dX10_size_2 rfl ?_
      refine lv_lconst (v := Int32.toInt64 0) B.1 B.2.1 dX10_size_3 (by decide) ?_
      refine lv_ldc2 B.1 B.2.1 B.2.2.2.1 (B.2.2.2.2 _ q_1912) dX10_size_4 ?_
      refine t_cvL (v := Int32.toInt64 15) (by decide) ?_
      refine retI (wc := []) (wr := [(mo, .inr (10, [.ref e0, .ref e1, .ref e2, .ref e3, .ref e4, .int 0, .int 0, .int 0, .ref e5, .int 0, .int 0, .int 0, .int 0, .int 0, .int 0, .int 0, .int (-1), .int 0, .int 0, .ref e6, .ref e7, .ref e8, .ref e9, .int 0, .ref e10, .ref e11, .int 0, .int 0, .ref e12, .int 0])), (e0, .inl (τ 0, 16816, .inl (S0)))]) Y [] [0, 1] rfl rfl (by decide) (by decide) (rS (As := [.long (Int32.toInt64 4), .long (Int32.toInt64 0), .long (Int32.toInt64 15)]) (rest := [.ref mo]) B Y [] (by decide) rfl (k_in l D τ _ 4 0 15) q_1593 q_1594 q_12 q_1595 rfl rfl hd_X10_in ⟨(Nat.le_of_ble_eq_true rfl), (Nat.le_of_ble_eq_true rfl)⟩ rfl hl.1 rfl (Nat.le_of_ble_eq_true rfl) dX10_size_7 ⟨(Nat.le_of_ble_eq_true rfl), (Nat.le_of_ble_eq_true rfl)⟩) (fun r u H locs hw Y => ?_)
      have hw : r = 1 := hw.1 (by decide)
      subst hw
      have Y : Wd D τ s A s.heap [(mo, .inr (10, [.ref e0, .ref e1, .ref e2, .ref e3, .ref e4, .int 0, .int 0, .int 0, .ref e5, .int 0, .int 0, .int 0, .int 0, .int 0, .int 0, .int 0, .int (-1), .int 0, .int 0, .ref e6, .ref e7, .ref e8, .ref e9, .int 0, .ref e10, .ref e11, .int 0, .int 0, .ref e12, .int 0])), (e0, .inl (τ 0, 16816, .inl (S0)))] H _ := Y
      refine retI (wc := [(mo, .inr (10, [.ref e0, .ref e1, .ref e2, .ref e3, .ref e4, .int 0, .int 0, .int 0, .ref e5, .int 0, .int 0, .int 0, .int 0, .int 0, .int 0, .int 0, .int (-1), .int 0, .int 0, .ref e6, .ref e7, .ref e8, .ref e9, .int 0, .ref e10, .ref e11, .int 0, .int 0, .ref e12, .int 0]))]) (wr := [(e0, .inl (τ 0, 16816, .inl (S0)))]) Y [0] [1] rfl rfl (by decide) (by decide) (rV (As := [.int 1]) (rest := []) (q0 := 0) B Y [0] (by decide) rfl (k_passes1 l D τ _ mo e0 e1 e2 e3 e4 e5 e6 e7 e8 e9 e10 e11 e12 0 0 0 0 0 0 0 0 0 0 (-1) 0 0 0 0 0 0) rfl rfl q_1581 q_1583 qp_46 q_12 q_1584 rfl rfl hd_X10_passes ⟨(Nat.le_of_ble_eq_true rfl), (Nat.le_of_ble_eq_true rfl)⟩ rfl hl.1 rfl (Nat.le_of_ble_eq_true rfl) dX10_size_10 ⟨(Nat.le_of_ble_eq_true rfl), (Nat.le_of_ble_eq_true rfl)⟩) (fun r u H locs hw Y => ?_)
      have hw : r = 1 := hw
      subst hw
      have Y : Wd D τ s A s.heap [(e0, .inl (τ 0, 16816, .inl (S0))), (mo, .inr (10, [.ref e0, .ref e1, .ref e2, .ref e3, .ref e4, .int 0, .int 0, .int 0, .ref e5, .int 0, .int 0, .int 0, .int 0, .int 0, .int 0, .int 0, .int (-1), .int 0, .int 0, .ref e6, .ref e7, .ref e8, .ref e9, .int 0, .ref e10, .ref e11, .int 0, .int 0, .ref e12, .int 0]))] H _ := Y
      refine lv_if_ne (tgt := 18) B.1 B.2.1 dX10_size_13 (by decide) (fun _ => ?_) (fun h => absurd h (by decide))
      refine lv_iload_n B.1 B.2.1 dX10_size_18 rfl (lv_at hl 1 rfl) ?_
      refine lv_tableOut (tgt := 103) B.1 B.2.1 dX10_size_19 (by decide) (by decide) ?_
      refine lv_aload_n B.1 B.2.1 dX10_size_103 rfl (lv_at hl 0 rfl) ?_
      refine gf_X10_7 B Y 1 rfl rfl dX10_size_104 ?_
      refine lv_iload_n B.1 B.2.1 dX10_size_107 rfl (lv_at hl 1 rfl) ?_
      refine t_iald (v := 0) (j := 4) B Y 0 rfl (by decide) (by decide) (Nat.le_of_ble_eq_true rfl) rfl dX10_size_108 ?_
      exact endI B hr hlk Y (lsI [0, 0, 0, 0, 0, 0, 0, 0, 0, 0, (-1), 0, 0, 0, 0, 0, 0]) ⟨fun n hn e => by obtain rfl := nIj (a := 4) (by decide) (by omega) e; exact ⟨rfl, rfl⟩, fun h => absurd h (by decide)⟩ [1] (by decide) rfl (Nat.le_of_ble_eq_true rfl) (Nat.le_of_ble_eq_true rfl) dX10_size_109
    · have hl : lv_has ls 2 [(0, .ref mo), (1, .int 5)] := hl
      refine lv_aload_n B.1 B.2.1 dX10_size_0 rfl (lv_at hl 0 rfl) ?_
      refine lv_iload_n B.1 B.2.1 dX10_size_1 rfl (lv_at hl 1 rfl) ?_
      refine lv_i2l B.1 B.2.1 dX10_size_2 rfl ?_
      refine lv_lconst (v := Int32.toInt64 0) B.1 B.2.1 dX10_size_3 (by decide) ?_
      refine lv_ldc2 B.1 B.2.1 B.2.2.2.1 (B.2.2.2.2 _ q_1912) dX10_size_4 ?_
      refine t_cvL (v := Int32.toInt64 15) (by decide) ?_
      refine retI (wc := []) (wr := [(mo, .inr (10, [.ref e0, .ref e1, .ref e2, .ref e3, .ref e4, .int 0, .int 0, .int 0, .ref e5, .int 0, .int 0, .int 0, .int 0, .int 0, .int 0, .int 0, .int (-1), .int 0, .int 0, .ref e6, .ref e7, .ref e8, .ref e9, .int 0, .ref e10, .ref e11, .int 0, .int 0, .ref e12, .int 0])), (e0, .inl (τ 0, 16816, .inl (S0)))]) Y [] [0, 1] rfl rfl (by decide) (by decide) (rS (As := [.long (Int32.toInt64 5), .long (Int32.toInt64 0), .long (Int32.toInt64 15)]) (rest := [.ref mo]) B Y [] (by decide) rfl (k_in l D τ _ 5 0 15) q_1593 q_1594 q_12 q_1595 rfl rfl hd_X10_in ⟨(Nat.le_of_ble_eq_true rfl), (Nat.le_of_ble_eq_true rfl)⟩ rfl hl.1 rfl (Nat.le_of_ble_eq_true rfl) dX10_size_7 ⟨(Nat.le_of_ble_eq_true rfl), (Nat.le_of_ble_eq_true rfl)⟩) (fun r u H locs hw Y => ?_)
      have hw : r = 1 := hw.1 (by decide)
      subst hw
      have Y : Wd D τ s A s.heap [(mo, .inr (10, [.ref e0, .ref e1, .ref e2, .ref e3, .ref e4, .int 0, .int 0, .int 0, .ref e5, .int 0, .int 0, .int 0, .int 0, .int 0, .int 0, .int 0, .int (-1), .int 0, .int 0, .ref e6, .ref e7, .ref e8, .ref e9, .int 0, .ref e10, .ref e11, .int 0, .int 0, .ref e12, .int 0])), (e0, .inl (τ 0, 16816, .inl (S0)))] H _ := Y
      refine retI (wc := [(mo, .inr (10, [.ref e0, .ref e1, .ref e2, .ref e3, .ref e4, .int 0, .int 0, .int 0, .ref e5, .int 0, .int 0, .int 0, .int 0, .int 0, .int 0, .int 0, .int (-1), .int 0, .int 0, .ref e6, .ref e7, .ref e8, .ref e9, .int 0, .ref e10, .ref e11, .int 0, .int 0, .ref e12, .int 0]))]) (wr := [(e0, .inl (τ 0, 16816, .inl (S0)))]) Y [0] [1] rfl rfl (by decide) (by decide) (rV (As := [.int 1]) (rest := []) (q0 := 0) B Y [0] (by decide) rfl (k_passes1 l D τ _ mo e0 e1 e2 e3 e4 e5 e6 e7 e8 e9 e10 e11 e12 0 0 0 0 0 0 0 0 0 0 (-1) 0 0 0 0 0 0) rfl rfl q_1581 q_1583 qp_46 q_12 q_1584 rfl rfl hd_X10_passes ⟨(Nat.le_of_ble_eq_true rfl), (Nat.le_of_ble_eq_true rfl)⟩ rfl hl.1 rfl (Nat.le_of_ble_eq_true rfl) dX10_size_10 ⟨(Nat.le_of_ble_eq_true rfl), (Nat.le_of_ble_eq_true rfl)⟩) (fun r u H locs hw Y => ?_)
      have hw : r = 1 := hw
      subst hw
      have Y : Wd D τ s A s.heap [(e0, .inl (τ 0, 16816, .inl (S0))), (mo, .inr (10, [.ref e0, .ref e1, .ref e2, .ref e3, .ref e4, .int 0, .int 0, .int 0, .ref e5, .int 0, .int 0, .int 0, .int 0, .int 0, .int 0, .int 0, .int (-1), .int 0, .int 0, .ref e6, .ref e7, .ref e8, .ref e9, .int 0, .ref e10, .ref e11, .int 0, .int 0, .ref e12, .int 0]))] H _ := Y
      refine lv_if_ne (tgt := 18) B.1 B.2.1 dX10_size_13 (by decide) (fun _ => ?_) (fun h => absurd h (by decide))
      refine lv_iload_n B.1 B.2.1 dX10_size_18 rfl (lv_at hl 1 rfl) ?_
      refine lv_tableOut (tgt := 103) B.1 B.2.1 dX10_size_19 (by decide) (by decide) ?_
      refine lv_aload_n B.1 B.2.1 dX10_size_103 rfl (lv_at hl 0 rfl) ?_
      refine gf_X10_7 B Y 1 rfl rfl dX10_size_104 ?_
      refine lv_iload_n B.1 B.2.1 dX10_size_107 rfl (lv_at hl 1 rfl) ?_
      refine t_iald (v := 576) (j := 5) B Y 0 rfl (by decide) (by decide) (Nat.le_of_ble_eq_true rfl) rfl dX10_size_108 ?_
      exact endI B hr hlk Y (lsI [0, 0, 0, 0, 0, 0, 0, 0, 0, 0, (-1), 0, 0, 0, 0, 0, 0]) ⟨fun n hn e => by obtain rfl := nIj (a := 5) (by decide) (by omega) e; exact ⟨rfl, rfl⟩, fun h => absurd h (by decide)⟩ [1] (by decide) rfl (Nat.le_of_ble_eq_true rfl) (Nat.le_of_ble_eq_true rfl) dX10_size_109
    · have hl : lv_has ls 2 [(0, .ref mo), (1, .int 6)] := hl
      refine lv_aload_n B.1 B.2.1 dX10_size_0 rfl (lv_at hl 0 rfl) ?_
      refine lv_iload_n B.1 B.2.1 dX10_size_1 rfl (lv_at hl 1 rfl) ?_
      refine lv_i2l B.1 B.2.1 dX10_size_2 rfl ?_
      refine lv_lconst (v := Int32.toInt64 0) B.1 B.2.1 dX10_size_3 (by decide) ?_
      refine lv_ldc2 B.1 B.2.1 B.2.2.2.1 (B.2.2.2.2 _ q_1912) dX10_size_4 ?_
      refine t_cvL (v := Int32.toInt64 15) (by decide) ?_
      refine retI (wc := []) (wr := [(mo, .inr (10, [.ref e0, .ref e1, .ref e2, .ref e3, .ref e4, .int 0, .int 0, .int 0, .ref e5, .int 0, .int 0, .int 0, .int 0, .int 0, .int 0, .int 0, .int (-1), .int 0, .int 0, .ref e6, .ref e7, .ref e8, .ref e9, .int 0, .ref e10, .ref e11, .int 0, .int 0, .ref e12, .int 0])), (e0, .inl (τ 0, 16816, .inl (S0)))]) Y [] [0, 1] rfl rfl (by decide) (by decide) (rS (As := [.long (Int32.toInt64 6), .long (Int32.toInt64 0), .long (Int32.toInt64 15)]) (rest := [.ref mo]) B Y [] (by decide) rfl (k_in l D τ _ 6 0 15) q_1593 q_1594 q_12 q_1595 rfl rfl hd_X10_in ⟨(Nat.le_of_ble_eq_true rfl), (Nat.le_of_ble_eq_true rfl)⟩ rfl hl.1 rfl (Nat.le_of_ble_eq_true rfl) dX10_size_7 ⟨(Nat.le_of_ble_eq_true rfl), (Nat.le_of_ble_eq_true rfl)⟩) (fun r u H locs hw Y => ?_)
      have hw : r = 1 := hw.1 (by decide)
      subst hw
      have Y : Wd D τ s A s.heap [(mo, .inr (10, [.ref e0, .ref e1, .ref e2, .ref e3, .ref e4, .int 0, .int 0, .int 0, .ref e5, .int 0, .int 0, .int 0, .int 0, .int 0, .int 0, .int 0, .int (-1), .int 0, .int 0, .ref e6, .ref e7, .ref e8, .ref e9, .int 0, .ref e10, .ref e11, .int 0, .int 0, .ref e12, .int 0])), (e0, .inl (τ 0, 16816, .inl (S0)))] H _ := Y
      refine retI (wc := [(mo, .inr (10, [.ref e0, .ref e1, .ref e2, .ref e3, .ref e4, .int 0, .int 0, .int 0, .ref e5, .int 0, .int 0, .int 0, .int 0, .int 0, .int 0, .int 0, .int (-1), .int 0, .int 0, .ref e6, .ref e7, .ref e8, .ref e9, .int 0, .ref e10, .ref e11, .int 0, .int 0, .ref e12, .int 0]))]) (wr := [(e0, .inl (τ 0, 16816, .inl (S0)))]) Y [0] [1] rfl rfl (by decide) (by decide) (rV (As := [.int 1]) (rest := []) (q0 := 0) B Y [0] (by decide) rfl (k_passes1 l D τ _ mo e0 e1 e2 e3 e4 e5 e6 e7 e8 e9 e10 e11 e12 0 0 0 0 0 0 0 0 0 0 (-1) 0 0 0 0 0 0) rfl rfl q_1581 q_1583 qp_46 q_12 q_1584 rfl rfl hd_X10_passes ⟨(Nat.le_of_ble_eq_true rfl), (Nat.le_of_ble_eq_true rfl)⟩ rfl hl.1 rfl (Nat.le_of_ble_eq_true rfl) dX10_size_10 ⟨(Nat.le_of_ble_eq_true rfl), (Nat.le_of_ble_eq_true rfl)⟩) (fun r u H locs hw Y => ?_)
      have hw : r = 1 := hw
      subst hw
      have Y : Wd D τ s A s.heap [(e0, .inl (τ 0, 16816, .inl (S0))), (mo, .inr (10, [.ref e0, .ref e1, .ref e2, .ref e3, .ref e4, .int 0, .int 0, .int 0, .ref e5, .int 0, .int 0, .int 0, .int 0, .int 0, .int 0, .int 0, .int (-1), .int 0, .int 0, .ref e6, .ref e7, .ref e8, .ref e9, .int 0, .ref e10, .ref e11, .int 0, .int 0, .ref e12, .int 0]))] H _ := Y
      refine lv_if_ne (tgt := 18) B.1 B.2.1 dX10_size_13 (by decide) (fun _ => ?_) (fun h => absurd h (by decide))
      refine lv_iload_n B.1 B.2.1 dX10_size_18 rfl (lv_at hl 1 rfl) ?_
      refine lv_tableOut (tgt := 103) B.1 B.2.1 dX10_size_19 (by decide) (by decide) ?_
      refine lv_aload_n B.1 B.2.1 dX10_size_103 rfl (lv_at hl 0 rfl) ?_
      refine gf_X10_7 B Y 1 rfl rfl dX10_size_104 ?_
      refine lv_iload_n B.1 B.2.1 dX10_size_107 rfl (lv_at hl 1 rfl) ?_
      refine t_iald (v := 27) (j := 6) B Y 0 rfl (by decide) (by decide) (Nat.le_of_ble_eq_true rfl) rfl dX10_size_108 ?_
      exact endI B hr hlk Y (lsI [0, 0, 0, 0, 0, 0, 0, 0, 0, 0, (-1), 0, 0, 0, 0, 0, 0]) ⟨fun n hn e => by obtain rfl := nIj (a := 6) (by decide) (by omega) e; exact ⟨rfl, rfl⟩, fun h => absurd h (by decide)⟩ [1] (by decide) rfl (Nat.le_of_ble_eq_true rfl) (Nat.le_of_ble_eq_true rfl) dX10_size_109
    · have hl : lv_has ls 2 [(0, .ref mo), (1, .int 7)] := hl
      refine lv_aload_n B.1 B.2.1 dX10_size_0 rfl (lv_at hl 0 rfl) ?_
      refine lv_iload_n B.1 B.2.1 dX10_size_1 rfl (lv_at hl 1 rfl) ?_
      refine lv_i2l B.1 B.2.1 dX10_size_2 rfl ?_
      refine lv_lconst (v := Int32.toInt64 0) B.1 B.2.1 dX10_size_3 (by decide) ?_
      refine lv_ldc2 B.1 B.2.1 B.2.2.2.1 (B.2.2.2.2 _ q_1912) dX10_size_4 ?_
      refine t_cvL (v := Int32.toInt64 15) (by decide) ?_
      refine retI (wc := []) (wr := [(mo, .inr (10, [.ref e0, .ref e1, .ref e2, .ref e3, .ref e4, .int 0, .int 0, .int 0, .ref e5, .int 0, .int 0, .int 0, .int 0, .int 0, .int 0, .int 0, .int (-1), .int 0, .int 0, .ref e6, .ref e7, .ref e8, .ref e9, .int 0, .ref e10, .ref e11, .int 0, .int 0, .ref e12, .int 0])), (e0, .inl (τ 0, 16816, .inl (S0)))]) Y [] [0, 1] rfl rfl (by decide) (by decide) (rS (As := [.long (Int32.toInt64 7), .long (Int32.toInt64 0), .long (Int32.toInt64 15)]) (rest := [.ref mo]) B Y [] (by decide) rfl (k_in l D τ _ 7 0 15) q_1593 q_1594 q_12 q_1595 rfl rfl hd_X10_in ⟨(Nat.le_of_ble_eq_true rfl), (Nat.le_of_ble_eq_true rfl)⟩ rfl hl.1 rfl (Nat.le_of_ble_eq_true rfl) dX10_size_7 ⟨(Nat.le_of_ble_eq_true rfl), (Nat.le_of_ble_eq_true rfl)⟩) (fun r u H locs hw Y => ?_)
      have hw : r = 1 := hw.1 (by decide)
      subst hw
      have Y : Wd D τ s A s.heap [(mo, .inr (10, [.ref e0, .ref e1, .ref e2, .ref e3, .ref e4, .int 0, .int 0, .int 0, .ref e5, .int 0, .int 0, .int 0, .int 0, .int 0, .int 0, .int 0, .int (-1), .int 0, .int 0, .ref e6, .ref e7, .ref e8, .ref e9, .int 0, .ref e10, .ref e11, .int 0, .int 0, .ref e12, .int 0])), (e0, .inl (τ 0, 16816, .inl (S0)))] H _ := Y
      refine retI (wc := [(mo, .inr (10, [.ref e0, .ref e1, .ref e2, .ref e3, .ref e4, .int 0, .int 0, .int 0, .ref e5, .int 0, .int 0, .int 0, .int 0, .int 0, .int 0, .int 0, .int (-1), .int 0, .int 0, .ref e6, .ref e7, .ref e8, .ref e9, .int 0, .ref e10, .ref e11, .int 0, .int 0, .ref e12, .int 0]))]) (wr := [(e0, .inl (τ 0, 16816, .inl (S0)))]) Y [0] [1] rfl rfl (by decide) (by decide) (rV (As := [.int 1]) (rest := []) (q0 := 0) B Y [0] (by decide) rfl (k_passes1 l D τ _ mo e0 e1 e2 e3 e4 e5 e6 e7 e8 e9 e10 e11 e12 0 0 0 0 0 0 0 0 0 0 (-1) 0 0 0 0 0 0) rfl rfl q_1581 q_1583 qp_46 q_12 q_1584 rfl rfl hd_X10_passes ⟨(Nat.le_of_ble_eq_true rfl), (Nat.le_of_ble_eq_true rfl)⟩ rfl hl.1 rfl (Nat.le_of_ble_eq_true rfl) dX10_size_10 ⟨(Nat.le_of_ble_eq_true rfl), (Nat.le_of_ble_eq_true rfl)⟩) (fun r u H locs hw Y => ?_)
      have hw : r = 1 := hw
      subst hw
      have Y : Wd D τ s A s.heap [(e0, .inl (τ 0, 16816, .inl (S0))), (mo, .inr (10, [.ref e0, .ref e1, .ref e2, .ref e3, .ref e4, .int 0, .int 0, .int 0, .ref e5, .int 0, .int 0, .int 0, .int 0, .int 0, .int 0, .int 0, .int (-1), .int 0, .int 0, .ref e6, .ref e7, .ref e8, .ref e9, .int 0, .ref e10, .ref e11, .int 0, .int 0, .ref e12, .int 0]))] H _ := Y
      refine lv_if_ne (tgt := 18) B.1 B.2.1 dX10_size_13 (by decide) (fun _ => ?_) (fun h => absurd h (by decide))
      refine lv_iload_n B.1 B.2.1 dX10_size_18 rfl (lv_at hl 1 rfl) ?_
      refine lv_tableOut (tgt := 103) B.1 B.2.1 dX10_size_19 (by decide) (by decide) ?_
      refine lv_aload_n B.1 B.2.1 dX10_size_103 rfl (lv_at hl 0 rfl) ?_
      refine gf_X10_7 B Y 1 rfl rfl dX10_size_104 ?_
      refine lv_iload_n B.1 B.2.1 dX10_size_107 rfl (lv_at hl 1 rfl) ?_
      refine t_iald (v := (-1)) (j := 7) B Y 0 rfl (by decide) (by decide) (Nat.le_of_ble_eq_true rfl) rfl dX10_size_108 ?_
      exact endI B hr hlk Y (lsI [0, 0, 0, 0, 0, 0, 0, 0, 0, 0, (-1), 0, 0, 0, 0, 0, 0]) ⟨fun n hn e => by obtain rfl := nIj (a := 7) (by decide) (by omega) e; exact ⟨rfl, rfl⟩, fun h => absurd h (by decide)⟩ [1] (by decide) rfl (Nat.le_of_ble_eq_true rfl) (Nat.le_of_ble_eq_true rfl) dX10_size_109
    · have hl : lv_has ls 2 [(0, .ref mo), (1, .int 8)] := hl
      refine lv_aload_n B.1 B.2.1 dX10_size_0 rfl (lv_at hl 0 rfl) ?_
      refine lv_iload_n B.1 B.2.1 dX10_size_1 rfl (lv_at hl 1 rfl) ?_
      refine lv_i2l B.1 B.2.1 dX10_size_2 rfl ?_
      refine lv_lconst (v := Int32.toInt64 0) B.1 B.2.1 dX10_size_3 (by decide) ?_
      refine lv_ldc2 B.1 B.2.1 B.2.2.2.1 (B.2.2.2.2 _ q_1912) dX10_size_4 ?_
      refine t_cvL (v := Int32.toInt64 15) (by decide) ?_
      refine retI (wc := []) (wr := [(mo, .inr (10, [.ref e0, .ref e1, .ref e2, .ref e3, .ref e4, .int 0, .int 0, .int 0, .ref e5, .int 0, .int 0, .int 0, .int 0, .int 0, .int 0, .int 0, .int (-1), .int 0, .int 0, .ref e6, .ref e7, .ref e8, .ref e9, .int 0, .ref e10, .ref e11, .int 0, .int 0, .ref e12, .int 0])), (e0, .inl (τ 0, 16816, .inl (S0)))]) Y [] [0, 1] rfl rfl (by decide) (by decide) (rS (As := [.long (Int32.toInt64 8), .long (Int32.toInt64 0), .long (Int32.toInt64 15)]) (rest := [.ref mo]) B Y [] (by decide) rfl (k_in l D τ _ 8 0 15) q_1593 q_1594 q_12 q_1595 rfl rfl hd_X10_in ⟨(Nat.le_of_ble_eq_true rfl), (Nat.le_of_ble_eq_true rfl)⟩ rfl hl.1 rfl (Nat.le_of_ble_eq_true rfl) dX10_size_7 ⟨(Nat.le_of_ble_eq_true rfl), (Nat.le_of_ble_eq_true rfl)⟩) (fun r u H locs hw Y => ?_)
      have hw : r = 1 := hw.1 (by decide)
      subst hw
      have Y : Wd D τ s A s.heap [(mo, .inr (10, [.ref e0, .ref e1, .ref e2, .ref e3, .ref e4, .int 0, .int 0, .int 0, .ref e5, .int 0, .int 0, .int 0, .int 0, .int 0, .int 0, .int 0, .int (-1), .int 0, .int 0, .ref e6, .ref e7, .ref e8, .ref e9, .int 0, .ref e10, .ref e11, .int 0, .int 0, .ref e12, .int 0])), (e0, .inl (τ 0, 16816, .inl (S0)))] H _ := Y
      refine retI (wc := [(mo, .inr (10, [.ref e0, .ref e1, .ref e2, .ref e3, .ref e4, .int 0, .int 0, .int 0, .ref e5, .int 0, .int 0, .int 0, .int 0, .int 0, .int 0, .int 0, .int (-1), .int 0, .int 0, .ref e6, .ref e7, .ref e8, .ref e9, .int 0, .ref e10, .ref e11, .int 0, .int 0, .ref e12, .int 0]))]) (wr := [(e0, .inl (τ 0, 16816, .inl (S0)))]) Y [0] [1] rfl rfl (by decide) (by decide) (rV (As := [.int 1]) (rest := []) (q0 := 0) B Y [0] (by decide) rfl (k_passes1 l D τ _ mo e0 e1 e2 e3 e4 e5 e6 e7 e8 e9 e10 e11 e12 0 0 0 0 0 0 0 0 0 0 (-1) 0 0 0 0 0 0) rfl rfl q_1581 q_1583 qp_46 q_12 q_1584 rfl rfl hd_X10_passes ⟨(Nat.le_of_ble_eq_true rfl), (Nat.le_of_ble_eq_true rfl)⟩ rfl hl.1 rfl (Nat.le_of_ble_eq_true rfl) dX10_size_10 ⟨(Nat.le_of_ble_eq_true rfl), (Nat.le_of_ble_eq_true rfl)⟩) (fun r u H locs hw Y => ?_)
      have hw : r = 1 := hw
      subst hw
      have Y : Wd D τ s A s.heap [(e0, .inl (τ 0, 16816, .inl (S0))), (mo, .inr (10, [.ref e0, .ref e1, .ref e2, .ref e3, .ref e4, .int 0, .int 0, .int 0, .ref e5, .int 0, .int 0, .int 0, .int 0, .int 0, .int 0, .int 0, .int (-1), .int 0, .int 0, .ref e6, .ref e7, .ref e8, .ref e9, .int 0, .ref e10, .ref e11, .int 0, .int 0, .ref e12, .int 0]))] H _ := Y
      refine lv_if_ne (tgt := 18) B.1 B.2.1 dX10_size_13 (by decide) (fun _ => ?_) (fun h => absurd h (by decide))
      refine lv_iload_n B.1 B.2.1 dX10_size_18 rfl (lv_at hl 1 rfl) ?_
      refine lv_tableOut (tgt := 103) B.1 B.2.1 dX10_size_19 (by decide) (by decide) ?_
      refine lv_aload_n B.1 B.2.1 dX10_size_103 rfl (lv_at hl 0 rfl) ?_
      refine gf_X10_7 B Y 1 rfl rfl dX10_size_104 ?_
      refine lv_iload_n B.1 B.2.1 dX10_size_107 rfl (lv_at hl 1 rfl) ?_
      refine t_iald (v := 0) (j := 8) B Y 0 rfl (by decide) (by decide) (Nat.le_of_ble_eq_true rfl) rfl dX10_size_108 ?_
      exact endI B hr hlk Y (lsI [0, 0, 0, 0, 0, 0, 0, 0, 0, 0, (-1), 0, 0, 0, 0, 0, 0]) ⟨fun n hn e => by obtain rfl := nIj (a := 8) (by decide) (by omega) e; exact ⟨rfl, rfl⟩, fun h => absurd h (by decide)⟩ [1] (by decide) rfl (Nat.le_of_ble_eq_true rfl) (Nat.le_of_ble_eq_true rfl) dX10_size_109
    · have hl : lv_has ls 2 [(0, .ref mo), (1, .int 9)] := hl
      refine lv_aload_n B.1 B.2.1 dX10_size_0 rfl (lv_at hl 0 rfl) ?_
      refine lv_iload_n B.1 B.2.1 dX10_size_1 rfl (lv_at hl 1 rfl) ?_
      refine lv_i2l B.1 B.2.1 dX10_size_2 rfl ?_
      refine lv_lconst (v := Int32.toInt64 0) B.1 B.2.1 dX10_size_3 (by decide) ?_
      refine lv_ldc2 B.1 B.2.1 B.2.2.2.1 (B.2.2.2.2 _ q_1912) dX10_size_4 ?_
      refine t_cvL (v := Int32.toInt64 15) (by decide) ?_
      refine retI (wc := []) (wr := [(mo, .inr (10, [.ref e0, .ref e1, .ref e2, .ref e3, .ref e4, .int 0, .int 0, .int 0, .ref e5, .int 0, .int 0, .int 0, .int 0, .int 0, .int 0, .int 0, .int (-1), .int 0, .int 0, .ref e6, .ref e7, .ref e8, .ref e9, .int 0, .ref e10, .ref e11, .int 0, .int 0, .ref e12, .int 0])), (e0, .inl (τ 0, 16816, .inl (S0)))]) Y [] [0, 1] rfl rfl (by decide) (by decide) (rS (As := [.long (Int32.toInt64 9), .long (Int32.toInt64 0), .long (Int32.toInt64 15)]) (rest := [.ref mo]) B Y [] (by decide) rfl (k_in l D τ _ 9 0 15) q_1593 q_1594 q_12 q_1595 rfl rfl hd_X10_in ⟨(Nat.le_of_ble_eq_true rfl), (Nat.le_of_ble_eq_true rfl)⟩ rfl hl.1 rfl (Nat.le_of_ble_eq_true rfl) dX10_size_7 ⟨(Nat.le_of_ble_eq_true rfl), (Nat.le_of_ble_eq_true rfl)⟩) (fun r u H locs hw Y => ?_)
      have hw : r = 1 := hw.1 (by decide)
      subst hw
      have Y : Wd D τ s A s.heap [(mo, .inr (10, [.ref e0, .ref e1, .ref e2, .ref e3, .ref e4, .int 0, .int 0, .int 0, .ref e5, .int 0, .int 0, .int 0, .int 0, .int 0, .int 0, .int 0, .int (-1), .int 0, .int 0, .ref e6, .ref e7, .ref e8, .ref e9, .int 0, .ref e10, .ref e11, .int 0, .int 0, .ref e12, .int 0])), (e0, .inl (τ 0, 16816, .inl (S0)))] H _ := Y
      refine retI (wc := [(mo, .inr (10, [.ref e0, .ref e1, .ref e2, .ref e3, .ref e4, .int 0, .int 0, .int 0, .ref e5, .int 0, .int 0, .int 0, .int 0, .int 0, .int 0, .int 0, .int (-1), .int 0, .int 0, .ref e6, .ref e7, .ref e8, .ref e9, .int 0, .ref e10, .ref e11, .int 0, .int 0, .ref e12, .int 0]))]) (wr := [(e0, .inl (τ 0, 16816, .inl (S0)))]) Y [0] [1] rfl rfl (by decide) (by decide) (rV (As := [.int 1]) (rest := []) (q0 := 0) B Y [0] (by decide) rfl (k_passes1 l D τ _ mo e0 e1 e2 e3 e4 e5 e6 e7 e8 e9 e10 e11 e12 0 0 0 0 0 0 0 0 0 0 (-1) 0 0 0 0 0 0) rfl rfl q_1581 q_1583 qp_46 q_12 q_1584 rfl rfl hd_X10_passes ⟨(Nat.le_of_ble_eq_true rfl), (Nat.le_of_ble_eq_true rfl)⟩ rfl hl.1 rfl (Nat.le_of_ble_eq_true rfl) dX10_size_10 ⟨(Nat.le_of_ble_eq_true rfl), (Nat.le_of_ble_eq_true rfl)⟩) (fun r u H locs hw Y => ?_)
      have hw : r = 1 := hw
      subst hw
      have Y : Wd D τ s A s.heap [(e0, .inl (τ 0, 16816, .inl (S0))), (mo, .inr (10, [.ref e0, .ref e1, .ref e2, .ref e3, .ref e4, .int 0, .int 0, .int 0, .ref e5, .int 0, .int 0, .int 0, .int 0, .int 0, .int 0, .int 0, .int (-1), .int 0, .int 0, .ref e6, .ref e7, .ref e8, .ref e9, .int 0, .ref e10, .ref e11, .int 0, .int 0, .ref e12, .int 0]))] H _ := Y
      refine lv_if_ne (tgt := 18) B.1 B.2.1 dX10_size_13 (by decide) (fun _ => ?_) (fun h => absurd h (by decide))
      refine lv_iload_n B.1 B.2.1 dX10_size_18 rfl (lv_at hl 1 rfl) ?_
      refine lv_tableIn (off := 41) (tgt := 60) B.1 B.2.1 dX10_size_19 (by decide) (by decide) rfl (by decide) ?_
      refine lv_aload_n B.1 B.2.1 dX10_size_60 rfl (lv_at hl 0 rfl) ?_
      refine lv_iconst (v := 0) B.1 B.2.1 dX10_size_61 (by decide) ?_
      refine retI (wc := [(mo, .inr (10, [.ref e0, .ref e1, .ref e2, .ref e3, .ref e4, .int 0, .int 0, .int 0, .ref e5, .int 0, .int 0, .int 0, .int 0, .int 0, .int 0, .int 0, .int (-1), .int 0, .int 0, .ref e6, .ref e7, .ref e8, .ref e9, .int 0, .ref e10, .ref e11, .int 0, .int 0, .ref e12, .int 0])), (e0, .inl (τ 0, 16816, .inl (S0)))]) (wr := []) Y [1, 0] [] rfl rfl (by decide) (by decide) (rV (As := [.int 0]) (rest := []) (q0 := 1) B Y [1, 0] (by decide) rfl (k_newsMany l D τ _ mo e0 e1 e2 e3 e4 e5 e6 e7 e8 e9 e10 e11 e12 0 0 0 0 0 0 0 0 0 0 (-1) 0 0 0 0 0 0 (S0) (rfl) 0) rfl rfl q_1913 q_1915 qp_114 q_12 q_1916 rfl rfl hd_X10_newsMany ⟨(Nat.le_of_ble_eq_true rfl), (Nat.le_of_ble_eq_true rfl)⟩ rfl hl.1 rfl (Nat.le_of_ble_eq_true rfl) dX10_size_62 ⟨(Nat.le_of_ble_eq_true rfl), (Nat.le_of_ble_eq_true rfl)⟩) (fun r u H locs hw Y => ?_)
      have hw : r = 0 := hw
      subst hw
      have Y : Wd D τ s A s.heap [(mo, .inr (10, [.ref e0, .ref e1, .ref e2, .ref e3, .ref e4, .int 0, .int 0, .int 0, .ref e5, .int 0, .int 0, .int 0, .int 0, .int 0, .int 0, .int 0, .int (-1), .int 0, .int 0, .ref e6, .ref e7, .ref e8, .ref e9, .int 0, .ref e10, .ref e11, .int 0, .int 0, .ref e12, .int 0])), (e0, .inl (τ 0, 16816, .inl (S0)))] H _ := Y
      exact endI B hr hlk Y (lsI [0, 0, 0, 0, 0, 0, 0, 0, 0, 0, (-1), 0, 0, 0, 0, 0, 0]) ⟨fun n hn e => by obtain rfl := nIj (a := 9) (by decide) (by omega) e; exact ⟨rfl, rfl⟩, fun h => absurd h (by decide)⟩ [0] (by decide) rfl (Nat.le_of_ble_eq_true rfl) (Nat.le_of_ble_eq_true rfl) dX10_size_65
    · have hl : lv_has ls 2 [(0, .ref mo), (1, .int 10)] := hl
      refine lv_aload_n B.1 B.2.1 dX10_size_0 rfl (lv_at hl 0 rfl) ?_
      refine lv_iload_n B.1 B.2.1 dX10_size_1 rfl (lv_at hl 1 rfl) ?_
      refine lv_i2l B.1 B.2.1 dX10_size_2 rfl ?_
      refine lv_lconst (v := Int32.toInt64 0) B.1 B.2.1 dX10_size_3 (by decide) ?_
      refine lv_ldc2 B.1 B.2.1 B.2.2.2.1 (B.2.2.2.2 _ q_1912) dX10_size_4 ?_
      refine t_cvL (v := Int32.toInt64 15) (by decide) ?_
      refine retI (wc := []) (wr := [(mo, .inr (10, [.ref e0, .ref e1, .ref e2, .ref e3, .ref e4, .int 0, .int 0, .int 0, .ref e5, .int 0, .int 0, .int 0, .int 0, .int 0, .int 0, .int 0, .int (-1), .int 0, .int 0, .ref e6, .ref e7, .ref e8, .ref e9, .int 0, .ref e10, .ref e11, .int 0, .int 0, .ref e12, .int 0])), (e0, .inl (τ 0, 16816, .inl (S0)))]) Y [] [0, 1] rfl rfl (by decide) (by decide) (rS (As := [.long (Int32.toInt64 10), .long (Int32.toInt64 0), .long (Int32.toInt64 15)]) (rest := [.ref mo]) B Y [] (by decide) rfl (k_in l D τ _ 10 0 15) q_1593 q_1594 q_12 q_1595 rfl rfl hd_X10_in ⟨(Nat.le_of_ble_eq_true rfl), (Nat.le_of_ble_eq_true rfl)⟩ rfl hl.1 rfl (Nat.le_of_ble_eq_true rfl) dX10_size_7 ⟨(Nat.le_of_ble_eq_true rfl), (Nat.le_of_ble_eq_true rfl)⟩) (fun r u H locs hw Y => ?_)
      have hw : r = 1 := hw.1 (by decide)
      subst hw
      have Y : Wd D τ s A s.heap [(mo, .inr (10, [.ref e0, .ref e1, .ref e2, .ref e3, .ref e4, .int 0, .int 0, .int 0, .ref e5, .int 0, .int 0, .int 0, .int 0, .int 0, .int 0, .int 0, .int (-1), .int 0, .int 0, .ref e6, .ref e7, .ref e8, .ref e9, .int 0, .ref e10, .ref e11, .int 0, .int 0, .ref e12, .int 0])), (e0, .inl (τ 0, 16816, .inl (S0)))] H _ := Y
      refine retI (wc := [(mo, .inr (10, [.ref e0, .ref e1, .ref e2, .ref e3, .ref e4, .int 0, .int 0, .int 0, .ref e5, .int 0, .int 0, .int 0, .int 0, .int 0, .int 0, .int 0, .int (-1), .int 0, .int 0, .ref e6, .ref e7, .ref e8, .ref e9, .int 0, .ref e10, .ref e11, .int 0, .int 0, .ref e12, .int 0]))]) (wr := [(e0, .inl (τ 0, 16816, .inl (S0)))]) Y [0] [1] rfl rfl (by decide) (by decide) (rV (As := [.int 1]) (rest := []) (q0 := 0) B Y [0] (by decide) rfl (k_passes1 l D τ _ mo e0 e1 e2 e3 e4 e5 e6 e7 e8 e9 e10 e11 e12 0 0 0 0 0 0 0 0 0 0 (-1) 0 0 0 0 0 0) rfl rfl q_1581 q_1583 qp_46 q_12 q_1584 rfl rfl hd_X10_passes ⟨(Nat.le_of_ble_eq_true rfl), (Nat.le_of_ble_eq_true rfl)⟩ rfl hl.1 rfl (Nat.le_of_ble_eq_true rfl) dX10_size_10 ⟨(Nat.le_of_ble_eq_true rfl), (Nat.le_of_ble_eq_true rfl)⟩) (fun r u H locs hw Y => ?_)
      have hw : r = 1 := hw
      subst hw
      have Y : Wd D τ s A s.heap [(e0, .inl (τ 0, 16816, .inl (S0))), (mo, .inr (10, [.ref e0, .ref e1, .ref e2, .ref e3, .ref e4, .int 0, .int 0, .int 0, .ref e5, .int 0, .int 0, .int 0, .int 0, .int 0, .int 0, .int 0, .int (-1), .int 0, .int 0, .ref e6, .ref e7, .ref e8, .ref e9, .int 0, .ref e10, .ref e11, .int 0, .int 0, .ref e12, .int 0]))] H _ := Y
      refine lv_if_ne (tgt := 18) B.1 B.2.1 dX10_size_13 (by decide) (fun _ => ?_) (fun h => absurd h (by decide))
      refine lv_iload_n B.1 B.2.1 dX10_size_18 rfl (lv_at hl 1 rfl) ?_
      refine lv_tableIn (off := 47) (tgt := 66) B.1 B.2.1 dX10_size_19 (by decide) (by decide) rfl (by decide) ?_
      refine lv_aload_n B.1 B.2.1 dX10_size_66 rfl (lv_at hl 0 rfl) ?_
      refine lv_iconst (v := 1) B.1 B.2.1 dX10_size_67 (by decide) ?_
      refine retI (wc := [(mo, .inr (10, [.ref e0, .ref e1, .ref e2, .ref e3, .ref e4, .int 0, .int 0, .int 0, .ref e5, .int 0, .int 0, .int 0, .int 0, .int 0, .int 0, .int 0, .int (-1), .int 0, .int 0, .ref e6, .ref e7, .ref e8, .ref e9, .int 0, .ref e10, .ref e11, .int 0, .int 0, .ref e12, .int 0])), (e0, .inl (τ 0, 16816, .inl (S0)))]) (wr := []) Y [1, 0] [] rfl rfl (by decide) (by decide) (rV (As := [.int 1]) (rest := []) (q0 := 1) B Y [1, 0] (by decide) rfl (k_newsMany l D τ _ mo e0 e1 e2 e3 e4 e5 e6 e7 e8 e9 e10 e11 e12 0 0 0 0 0 0 0 0 0 0 (-1) 0 0 0 0 0 0 (S0) (rfl) 1) rfl rfl q_1913 q_1915 qp_114 q_12 q_1916 rfl rfl hd_X10_newsMany ⟨(Nat.le_of_ble_eq_true rfl), (Nat.le_of_ble_eq_true rfl)⟩ rfl hl.1 rfl (Nat.le_of_ble_eq_true rfl) dX10_size_68 ⟨(Nat.le_of_ble_eq_true rfl), (Nat.le_of_ble_eq_true rfl)⟩) (fun r u H locs hw Y => ?_)
      have hw : r = 0 := hw
      subst hw
      have Y : Wd D τ s A s.heap [(mo, .inr (10, [.ref e0, .ref e1, .ref e2, .ref e3, .ref e4, .int 0, .int 0, .int 0, .ref e5, .int 0, .int 0, .int 0, .int 0, .int 0, .int 0, .int 0, .int (-1), .int 0, .int 0, .ref e6, .ref e7, .ref e8, .ref e9, .int 0, .ref e10, .ref e11, .int 0, .int 0, .ref e12, .int 0])), (e0, .inl (τ 0, 16816, .inl (S0)))] H _ := Y
      exact endI B hr hlk Y (lsI [0, 0, 0, 0, 0, 0, 0, 0, 0, 0, (-1), 0, 0, 0, 0, 0, 0]) ⟨fun n hn e => by obtain rfl := nIj (a := 10) (by decide) (by omega) e; exact ⟨rfl, rfl⟩, fun h => absurd h (by decide)⟩ [0] (by decide) rfl (Nat.le_of_ble_eq_true rfl) (Nat.le_of_ble_eq_true rfl) dX10_size_71
    · have hl : lv_has ls 2 [(0, .ref mo), (1, .int 11)] := hl
      refine lv_aload_n B.1 B.2.1 dX10_size_0 rfl (lv_at hl 0 rfl) ?_
      refine lv_iload_n B.1 B.2.1 dX10_size_1 rfl (lv_at hl 1 rfl) ?_
      refine lv_i2l B.1 B.2.1 dX10_size_2 rfl ?_
      refine lv_lconst (v := Int32.toInt64 0) B.1 B.2.1 dX10_size_3 (by decide) ?_
      refine lv_ldc2 B.1 B.2.1 B.2.2.2.1 (B.2.2.2.2 _ q_1912) dX10_size_4 ?_
      refine t_cvL (v := Int32.toInt64 15) (by decide) ?_
      refine retI (wc := []) (wr := [(mo, .inr (10, [.ref e0, .ref e1, .ref e2, .ref e3, .ref e4, .int 0, .int 0, .int 0, .ref e5, .int 0, .int 0, .int 0, .int 0, .int 0, .int 0, .int 0, .int (-1), .int 0, .int 0, .ref e6, .ref e7, .ref e8, .ref e9, .int 0, .ref e10, .ref e11, .int 0, .int 0, .ref e12, .int 0])), (e0, .inl (τ 0, 16816, .inl (S0)))]) Y [] [0, 1] rfl rfl (by decide) (by decide) (rS (As := [.long (Int32.toInt64 11), .long (Int32.toInt64 0), .long (Int32.toInt64 15)]) (rest := [.ref mo]) B Y [] (by decide) rfl (k_in l D τ _ 11 0 15) q_1593 q_1594 q_12 q_1595 rfl rfl hd_X10_in ⟨(Nat.le_of_ble_eq_true rfl), (Nat.le_of_ble_eq_true rfl)⟩ rfl hl.1 rfl (Nat.le_of_ble_eq_true rfl) dX10_size_7 ⟨(Nat.le_of_ble_eq_true rfl), (Nat.le_of_ble_eq_true rfl)⟩) (fun r u H locs hw Y => ?_)
      have hw : r = 1 := hw.1 (by decide)
      subst hw
      have Y : Wd D τ s A s.heap [(mo, .inr (10, [.ref e0, .ref e1, .ref e2, .ref e3, .ref e4, .int 0, .int 0, .int 0, .ref e5, .int 0, .int 0, .int 0, .int 0, .int 0, .int 0, .int 0, .int (-1), .int 0, .int 0, .ref e6, .ref e7, .ref e8, .ref e9, .int 0, .ref e10, .ref e11, .int 0, .int 0, .ref e12, .int 0])), (e0, .inl (τ 0, 16816, .inl (S0)))] H _ := Y
      refine retI (wc := [(mo, .inr (10, [.ref e0, .ref e1, .ref e2, .ref e3, .ref e4, .int 0, .int 0, .int 0, .ref e5, .int 0, .int 0, .int 0, .int 0, .int 0, .int 0, .int 0, .int (-1), .int 0, .int 0, .ref e6, .ref e7, .ref e8, .ref e9, .int 0, .ref e10, .ref e11, .int 0, .int 0, .ref e12, .int 0]))]) (wr := [(e0, .inl (τ 0, 16816, .inl (S0)))]) Y [0] [1] rfl rfl (by decide) (by decide) (rV (As := [.int 1]) (rest := []) (q0 := 0) B Y [0] (by decide) rfl (k_passes1 l D τ _ mo e0 e1 e2 e3 e4 e5 e6 e7 e8 e9 e10 e11 e12 0 0 0 0 0 0 0 0 0 0 (-1) 0 0 0 0 0 0) rfl rfl q_1581 q_1583 qp_46 q_12 q_1584 rfl rfl hd_X10_passes ⟨(Nat.le_of_ble_eq_true rfl), (Nat.le_of_ble_eq_true rfl)⟩ rfl hl.1 rfl (Nat.le_of_ble_eq_true rfl) dX10_size_10 ⟨(Nat.le_of_ble_eq_true rfl), (Nat.le_of_ble_eq_true rfl)⟩) (fun r u H locs hw Y => ?_)
      have hw : r = 1 := hw
      subst hw
      have Y : Wd D τ s A s.heap [(e0, .inl (τ 0, 16816, .inl (S0))), (mo, .inr (10, [.ref e0, .ref e1, .ref e2, .ref e3, .ref e4, .int 0, .int 0, .int 0, .ref e5, .int 0, .int 0, .int 0, .int 0, .int 0, .int 0, .int 0, .int (-1), .int 0, .int 0, .ref e6, .ref e7, .ref e8, .ref e9, .int 0, .ref e10, .ref e11, .int 0, .int 0, .ref e12, .int 0]))] H _ := Y
      refine lv_if_ne (tgt := 18) B.1 B.2.1 dX10_size_13 (by decide) (fun _ => ?_) (fun h => absurd h (by decide))
      refine lv_iload_n B.1 B.2.1 dX10_size_18 rfl (lv_at hl 1 rfl) ?_
      refine lv_tableIn (off := 53) (tgt := 72) B.1 B.2.1 dX10_size_19 (by decide) (by decide) rfl (by decide) ?_
      refine lv_aload_n B.1 B.2.1 dX10_size_72 rfl (lv_at hl 0 rfl) ?_
      refine retI (wc := [(mo, .inr (10, [.ref e0, .ref e1, .ref e2, .ref e3, .ref e4, .int 0, .int 0, .int 0, .ref e5, .int 0, .int 0, .int 0, .int 0, .int 0, .int 0, .int 0, .int (-1), .int 0, .int 0, .ref e6, .ref e7, .ref e8, .ref e9, .int 0, .ref e10, .ref e11, .int 0, .int 0, .ref e12, .int 0])), (e0, .inl (τ 0, 16816, .inl (S0)))]) (wr := []) Y [1, 0] [] rfl rfl (by decide) (by decide) (rV (As := []) (rest := []) (q0 := 1) B Y [1, 0] (by decide) rfl (k_heaps l D τ _ mo e0 e1 e2 e3 e4 e5 e6 e7 e8 e9 e10 e11 e12 0 0 0 0 0 0 0 0 0 0 (-1) 0 0 0 0 0 0 (S0) (rfl) (rfl) (rfl) (rfl) ) rfl rfl q_1812 q_1814 qp_91 q_12 q_1815 rfl rfl hd_X10_heaps ⟨(Nat.le_of_ble_eq_true rfl), (Nat.le_of_ble_eq_true rfl)⟩ rfl hl.1 rfl (Nat.le_of_ble_eq_true rfl) dX10_size_73 ⟨(Nat.le_of_ble_eq_true rfl), (Nat.le_of_ble_eq_true rfl)⟩) (fun r u H locs hw Y => ?_)
      have hw : r = 0 := hw
      subst hw
      have Y : Wd D τ s A s.heap [(mo, .inr (10, [.ref e0, .ref e1, .ref e2, .ref e3, .ref e4, .int 0, .int 0, .int 0, .ref e5, .int 0, .int 0, .int 0, .int 0, .int 0, .int 0, .int 0, .int (-1), .int 0, .int 0, .ref e6, .ref e7, .ref e8, .ref e9, .int 0, .ref e10, .ref e11, .int 0, .int 0, .ref e12, .int 0])), (e0, .inl (τ 0, 16816, .inl (S0)))] H _ := Y
      exact endI B hr hlk Y (lsI [0, 0, 0, 0, 0, 0, 0, 0, 0, 0, (-1), 0, 0, 0, 0, 0, 0]) ⟨fun n hn e => by obtain rfl := nIj (a := 11) (by decide) (by omega) e; exact ⟨rfl, rfl⟩, fun h => absurd h (by decide)⟩ [0] (by decide) rfl (Nat.le_of_ble_eq_true rfl) (Nat.le_of_ble_eq_true rfl) dX10_size_76
    · have hl : lv_has ls 2 [(0, .ref mo), (1, .int 12)] := hl
      refine lv_aload_n B.1 B.2.1 dX10_size_0 rfl (lv_at hl 0 rfl) ?_
      refine lv_iload_n B.1 B.2.1 dX10_size_1 rfl (lv_at hl 1 rfl) ?_
      refine lv_i2l B.1 B.2.1 dX10_size_2 rfl ?_
      refine lv_lconst (v := Int32.toInt64 0) B.1 B.2.1 dX10_size_3 (by decide) ?_
      refine lv_ldc2 B.1 B.2.1 B.2.2.2.1 (B.2.2.2.2 _ q_1912) dX10_size_4 ?_
      refine t_cvL (v := Int32.toInt64 15) (by decide) ?_
      refine retI (wc := []) (wr := [(mo, .inr (10, [.ref e0, .ref e1, .ref e2, .ref e3, .ref e4, .int 0, .int 0, .int 0, .ref e5, .int 0, .int 0, .int 0, .int 0, .int 0, .int 0, .int 0, .int (-1), .int 0, .int 0, .ref e6, .ref e7, .ref e8, .ref e9, .int 0, .ref e10, .ref e11, .int 0, .int 0, .ref e12, .int 0])), (e0, .inl (τ 0, 16816, .inl (S0)))]) Y [] [0, 1] rfl rfl (by decide) (by decide) (rS (As := [.long (Int32.toInt64 12), .long (Int32.toInt64 0), .long (Int32.toInt64 15)]) (rest := [.ref mo]) B Y [] (by decide) rfl (k_in l D τ _ 12 0 15) q_1593 q_1594 q_12 q_1595 rfl rfl hd_X10_in ⟨(Nat.le_of_ble_eq_true rfl), (Nat.le_of_ble_eq_true rfl)⟩ rfl hl.1 rfl (Nat.le_of_ble_eq_true rfl) dX10_size_7 ⟨(Nat.le_of_ble_eq_true rfl), (Nat.le_of_ble_eq_true rfl)⟩) (fun r u H locs hw Y => ?_)
      have hw : r = 1 := hw.1 (by decide)
      subst hw
      have Y : Wd D τ s A s.heap [(mo, .inr (10, [.ref e0, .ref e1, .ref e2, .ref e3, .ref e4, .int 0, .int 0, .int 0, .ref e5, .int 0, .int 0, .int 0, .int 0, .int 0, .int 0, .int 0, .int (-1), .int 0, .int 0, .ref e6, .ref e7, .ref e8, .ref e9, .int 0, .ref e10, .ref e11, .int 0, .int 0, .ref e12, .int 0])), (e0, .inl (τ 0, 16816, .inl (S0)))] H _ := Y
      refine retI (wc := [(mo, .inr (10, [.ref e0, .ref e1, .ref e2, .ref e3, .ref e4, .int 0, .int 0, .int 0, .ref e5, .int 0, .int 0, .int 0, .int 0, .int 0, .int 0, .int 0, .int (-1), .int 0, .int 0, .ref e6, .ref e7, .ref e8, .ref e9, .int 0, .ref e10, .ref e11, .int 0, .int 0, .ref e12, .int 0]))]) (wr := [(e0, .inl (τ 0, 16816, .inl (S0)))]) Y [0] [1] rfl rfl (by decide) (by decide) (rV (As := [.int 1]) (rest := []) (q0 := 0) B Y [0] (by decide) rfl (k_passes1 l D τ _ mo e0 e1 e2 e3 e4 e5 e6 e7 e8 e9 e10 e11 e12 0 0 0 0 0 0 0 0 0 0 (-1) 0 0 0 0 0 0) rfl rfl q_1581 q_1583 qp_46 q_12 q_1584 rfl rfl hd_X10_passes ⟨(Nat.le_of_ble_eq_true rfl), (Nat.le_of_ble_eq_true rfl)⟩ rfl hl.1 rfl (Nat.le_of_ble_eq_true rfl) dX10_size_10 ⟨(Nat.le_of_ble_eq_true rfl), (Nat.le_of_ble_eq_true rfl)⟩) (fun r u H locs hw Y => ?_)
      have hw : r = 1 := hw
      subst hw
      have Y : Wd D τ s A s.heap [(e0, .inl (τ 0, 16816, .inl (S0))), (mo, .inr (10, [.ref e0, .ref e1, .ref e2, .ref e3, .ref e4, .int 0, .int 0, .int 0, .ref e5, .int 0, .int 0, .int 0, .int 0, .int 0, .int 0, .int 0, .int (-1), .int 0, .int 0, .ref e6, .ref e7, .ref e8, .ref e9, .int 0, .ref e10, .ref e11, .int 0, .int 0, .ref e12, .int 0]))] H _ := Y
      refine lv_if_ne (tgt := 18) B.1 B.2.1 dX10_size_13 (by decide) (fun _ => ?_) (fun h => absurd h (by decide))
      refine lv_iload_n B.1 B.2.1 dX10_size_18 rfl (lv_at hl 1 rfl) ?_
      refine lv_tableIn (off := 58) (tgt := 77) B.1 B.2.1 dX10_size_19 (by decide) (by decide) rfl (by decide) ?_
      refine lv_aload_n B.1 B.2.1 dX10_size_77 rfl (lv_at hl 0 rfl) ?_
      refine lv_iconst (v := 0) B.1 B.2.1 dX10_size_78 (by decide) ?_
      refine lv_iconst (v := 0) B.1 B.2.1 dX10_size_79 (by decide) ?_
      refine retI (wc := [(mo, .inr (10, [.ref e0, .ref e1, .ref e2, .ref e3, .ref e4, .int 0, .int 0, .int 0, .ref e5, .int 0, .int 0, .int 0, .int 0, .int 0, .int 0, .int 0, .int (-1), .int 0, .int 0, .ref e6, .ref e7, .ref e8, .ref e9, .int 0, .ref e10, .ref e11, .int 0, .int 0, .ref e12, .int 0])), (e0, .inl (τ 0, 16816, .inl (S0)))]) (wr := []) Y [1, 0] [] rfl rfl (by decide) (by decide) (rV (As := [.int 0, .int 0]) (rest := []) (q0 := 1) B Y [1, 0] (by decide) rfl (k_dataOf l D τ _ mo e0 e1 e2 e3 e4 e5 e6 e7 e8 e9 e10 e11 e12 0 0 0 0 0 0 0 0 0 0 (-1) 0 0 0 0 0 0 (S0) (rfl) 0 0) rfl rfl q_1859 q_1861 qp_102 q_12 q_1862 rfl rfl hd_X10_dataOf ⟨(Nat.le_of_ble_eq_true rfl), (Nat.le_of_ble_eq_true rfl)⟩ rfl hl.1 rfl (Nat.le_of_ble_eq_true rfl) dX10_size_80 ⟨(Nat.le_of_ble_eq_true rfl), (Nat.le_of_ble_eq_true rfl)⟩) (fun r u H locs hw Y => ?_)
      have hw : r = 0 := hw
      subst hw
      have Y : Wd D τ s A s.heap [(mo, .inr (10, [.ref e0, .ref e1, .ref e2, .ref e3, .ref e4, .int 0, .int 0, .int 0, .ref e5, .int 0, .int 0, .int 0, .int 0, .int 0, .int 0, .int 0, .int (-1), .int 0, .int 0, .ref e6, .ref e7, .ref e8, .ref e9, .int 0, .ref e10, .ref e11, .int 0, .int 0, .ref e12, .int 0])), (e0, .inl (τ 0, 16816, .inl (S0)))] H _ := Y
      exact endI B hr hlk Y (lsI [0, 0, 0, 0, 0, 0, 0, 0, 0, 0, (-1), 0, 0, 0, 0, 0, 0]) ⟨fun n hn e => by obtain rfl := nIj (a := 12) (by decide) (by omega) e; exact ⟨rfl, rfl⟩, fun h => absurd h (by decide)⟩ [0] (by decide) rfl (Nat.le_of_ble_eq_true rfl) (Nat.le_of_ble_eq_true rfl) dX10_size_83
    · have hl : lv_has ls 2 [(0, .ref mo), (1, .int 13)] := hl
      refine lv_aload_n B.1 B.2.1 dX10_size_0 rfl (lv_at hl 0 rfl) ?_
      refine lv_iload_n B.1 B.2.1 dX10_size_1 rfl (lv_at hl 1 rfl) ?_
      refine lv_i2l B.1 B.2.1 dX10_size_2 rfl ?_
      refine lv_lconst (v := Int32.toInt64 0) B.1 B.2.1 dX10_size_3 (by decide) ?_
      refine lv_ldc2 B.1 B.2.1 B.2.2.2.1 (B.2.2.2.2 _ q_1912) dX10_size_4 ?_
      refine t_cvL (v := Int32.toInt64 15) (by decide) ?_
      refine retI (wc := []) (wr := [(mo, .inr (10, [.ref e0, .ref e1, .ref e2, .ref e3, .ref e4, .int 0, .int 0, .int 0, .ref e5, .int 0, .int 0, .int 0, .int 0, .int 0, .int 0, .int 0, .int (-1), .int 0, .int 0, .ref e6, .ref e7, .ref e8, .ref e9, .int 0, .ref e10, .ref e11, .int 0, .int 0, .ref e12, .int 0])), (e0, .inl (τ 0, 16816, .inl (S0)))]) Y [] [0, 1] rfl rfl (by decide) (by decide) (rS (As := [.long (Int32.toInt64 13), .long (Int32.toInt64 0), .long (Int32.toInt64 15)]) (rest := [.ref mo]) B Y [] (by decide) rfl (k_in l D τ _ 13 0 15) q_1593 q_1594 q_12 q_1595 rfl rfl hd_X10_in ⟨(Nat.le_of_ble_eq_true rfl), (Nat.le_of_ble_eq_true rfl)⟩ rfl hl.1 rfl (Nat.le_of_ble_eq_true rfl) dX10_size_7 ⟨(Nat.le_of_ble_eq_true rfl), (Nat.le_of_ble_eq_true rfl)⟩) (fun r u H locs hw Y => ?_)
      have hw : r = 1 := hw.1 (by decide)
      subst hw
      have Y : Wd D τ s A s.heap [(mo, .inr (10, [.ref e0, .ref e1, .ref e2, .ref e3, .ref e4, .int 0, .int 0, .int 0, .ref e5, .int 0, .int 0, .int 0, .int 0, .int 0, .int 0, .int 0, .int (-1), .int 0, .int 0, .ref e6, .ref e7, .ref e8, .ref e9, .int 0, .ref e10, .ref e11, .int 0, .int 0, .ref e12, .int 0])), (e0, .inl (τ 0, 16816, .inl (S0)))] H _ := Y
      refine retI (wc := [(mo, .inr (10, [.ref e0, .ref e1, .ref e2, .ref e3, .ref e4, .int 0, .int 0, .int 0, .ref e5, .int 0, .int 0, .int 0, .int 0, .int 0, .int 0, .int 0, .int (-1), .int 0, .int 0, .ref e6, .ref e7, .ref e8, .ref e9, .int 0, .ref e10, .ref e11, .int 0, .int 0, .ref e12, .int 0]))]) (wr := [(e0, .inl (τ 0, 16816, .inl (S0)))]) Y [0] [1] rfl rfl (by decide) (by decide) (rV (As := [.int 1]) (rest := []) (q0 := 0) B Y [0] (by decide) rfl (k_passes1 l D τ _ mo e0 e1 e2 e3 e4 e5 e6 e7 e8 e9 e10 e11 e12 0 0 0 0 0 0 0 0 0 0 (-1) 0 0 0 0 0 0) rfl rfl q_1581 q_1583 qp_46 q_12 q_1584 rfl rfl hd_X10_passes ⟨(Nat.le_of_ble_eq_true rfl), (Nat.le_of_ble_eq_true rfl)⟩ rfl hl.1 rfl (Nat.le_of_ble_eq_true rfl) dX10_size_10 ⟨(Nat.le_of_ble_eq_true rfl), (Nat.le_of_ble_eq_true rfl)⟩) (fun r u H locs hw Y => ?_)
      have hw : r = 1 := hw
      subst hw
      have Y : Wd D τ s A s.heap [(e0, .inl (τ 0, 16816, .inl (S0))), (mo, .inr (10, [.ref e0, .ref e1, .ref e2, .ref e3, .ref e4, .int 0, .int 0, .int 0, .ref e5, .int 0, .int 0, .int 0, .int 0, .int 0, .int 0, .int 0, .int (-1), .int 0, .int 0, .ref e6, .ref e7, .ref e8, .ref e9, .int 0, .ref e10, .ref e11, .int 0, .int 0, .ref e12, .int 0]))] H _ := Y
      refine lv_if_ne (tgt := 18) B.1 B.2.1 dX10_size_13 (by decide) (fun _ => ?_) (fun h => absurd h (by decide))
      refine lv_iload_n B.1 B.2.1 dX10_size_18 rfl (lv_at hl 1 rfl) ?_
      refine lv_tableIn (off := 65) (tgt := 84) B.1 B.2.1 dX10_size_19 (by decide) (by decide) rfl (by decide) ?_
      refine lv_aload_n B.1 B.2.1 dX10_size_84 rfl (lv_at hl 0 rfl) ?_
      refine lv_iconst (v := 1) B.1 B.2.1 dX10_size_85 (by decide) ?_
      refine lv_iconst (v := 2) B.1 B.2.1 dX10_size_86 (by decide) ?_
      refine retI (wc := [(mo, .inr (10, [.ref e0, .ref e1, .ref e2, .ref e3, .ref e4, .int 0, .int 0, .int 0, .ref e5, .int 0, .int 0, .int 0, .int 0, .int 0, .int 0, .int 0, .int (-1), .int 0, .int 0, .ref e6, .ref e7, .ref e8, .ref e9, .int 0, .ref e10, .ref e11, .int 0, .int 0, .ref e12, .int 0])), (e0, .inl (τ 0, 16816, .inl (S0)))]) (wr := []) Y [1, 0] [] rfl rfl (by decide) (by decide) (rV (As := [.int 1, .int 2]) (rest := []) (q0 := 1) B Y [1, 0] (by decide) rfl (k_dataOf l D τ _ mo e0 e1 e2 e3 e4 e5 e6 e7 e8 e9 e10 e11 e12 0 0 0 0 0 0 0 0 0 0 (-1) 0 0 0 0 0 0 (S0) (rfl) 1 2) rfl rfl q_1859 q_1861 qp_102 q_12 q_1862 rfl rfl hd_X10_dataOf ⟨(Nat.le_of_ble_eq_true rfl), (Nat.le_of_ble_eq_true rfl)⟩ rfl hl.1 rfl (Nat.le_of_ble_eq_true rfl) dX10_size_87 ⟨(Nat.le_of_ble_eq_true rfl), (Nat.le_of_ble_eq_true rfl)⟩) (fun r u H locs hw Y => ?_)
      have hw : r = 0 := hw
      subst hw
      have Y : Wd D τ s A s.heap [(mo, .inr (10, [.ref e0, .ref e1, .ref e2, .ref e3, .ref e4, .int 0, .int 0, .int 0, .ref e5, .int 0, .int 0, .int 0, .int 0, .int 0, .int 0, .int 0, .int (-1), .int 0, .int 0, .ref e6, .ref e7, .ref e8, .ref e9, .int 0, .ref e10, .ref e11, .int 0, .int 0, .ref e12, .int 0])), (e0, .inl (τ 0, 16816, .inl (S0)))] H _ := Y
      exact endI B hr hlk Y (lsI [0, 0, 0, 0, 0, 0, 0, 0, 0, 0, (-1), 0, 0, 0, 0, 0, 0]) ⟨fun n hn e => by obtain rfl := nIj (a := 13) (by decide) (by omega) e; exact ⟨rfl, rfl⟩, fun h => absurd h (by decide)⟩ [0] (by decide) rfl (Nat.le_of_ble_eq_true rfl) (Nat.le_of_ble_eq_true rfl) dX10_size_90
    · have hl : lv_has ls 2 [(0, .ref mo), (1, .int 14)] := hl
      refine lv_aload_n B.1 B.2.1 dX10_size_0 rfl (lv_at hl 0 rfl) ?_
      refine lv_iload_n B.1 B.2.1 dX10_size_1 rfl (lv_at hl 1 rfl) ?_
      refine lv_i2l B.1 B.2.1 dX10_size_2 rfl ?_
      refine lv_lconst (v := Int32.toInt64 0) B.1 B.2.1 dX10_size_3 (by decide) ?_
      refine lv_ldc2 B.1 B.2.1 B.2.2.2.1 (B.2.2.2.2 _ q_1912) dX10_size_4 ?_
      refine t_cvL (v := Int32.toInt64 15) (by decide) ?_
      refine retI (wc := []) (wr := [(mo, .inr (10, [.ref e0, .ref e1, .ref e2, .ref e3, .ref e4, .int 0, .int 0, .int 0, .ref e5, .int 0, .int 0, .int 0, .int 0, .int 0, .int 0, .int 0, .int (-1), .int 0, .int 0, .ref e6, .ref e7, .ref e8, .ref e9, .int 0, .ref e10, .ref e11, .int 0, .int 0, .ref e12, .int 0])), (e0, .inl (τ 0, 16816, .inl (S0)))]) Y [] [0, 1] rfl rfl (by decide) (by decide) (rS (As := [.long (Int32.toInt64 14), .long (Int32.toInt64 0), .long (Int32.toInt64 15)]) (rest := [.ref mo]) B Y [] (by decide) rfl (k_in l D τ _ 14 0 15) q_1593 q_1594 q_12 q_1595 rfl rfl hd_X10_in ⟨(Nat.le_of_ble_eq_true rfl), (Nat.le_of_ble_eq_true rfl)⟩ rfl hl.1 rfl (Nat.le_of_ble_eq_true rfl) dX10_size_7 ⟨(Nat.le_of_ble_eq_true rfl), (Nat.le_of_ble_eq_true rfl)⟩) (fun r u H locs hw Y => ?_)
      have hw : r = 1 := hw.1 (by decide)
      subst hw
      have Y : Wd D τ s A s.heap [(mo, .inr (10, [.ref e0, .ref e1, .ref e2, .ref e3, .ref e4, .int 0, .int 0, .int 0, .ref e5, .int 0, .int 0, .int 0, .int 0, .int 0, .int 0, .int 0, .int (-1), .int 0, .int 0, .ref e6, .ref e7, .ref e8, .ref e9, .int 0, .ref e10, .ref e11, .int 0, .int 0, .ref e12, .int 0])), (e0, .inl (τ 0, 16816, .inl (S0)))] H _ := Y
      refine retI (wc := [(mo, .inr (10, [.ref e0, .ref e1, .ref e2, .ref e3, .ref e4, .int 0, .int 0, .int 0, .ref e5, .int 0, .int 0, .int 0, .int 0, .int 0, .int 0, .int 0, .int (-1), .int 0, .int 0, .ref e6, .ref e7, .ref e8, .ref e9, .int 0, .ref e10, .ref e11, .int 0, .int 0, .ref e12, .int 0]))]) (wr := [(e0, .inl (τ 0, 16816, .inl (S0)))]) Y [0] [1] rfl rfl (by decide) (by decide) (rV (As := [.int 1]) (rest := []) (q0 := 0) B Y [0] (by decide) rfl (k_passes1 l D τ _ mo e0 e1 e2 e3 e4 e5 e6 e7 e8 e9 e10 e11 e12 0 0 0 0 0 0 0 0 0 0 (-1) 0 0 0 0 0 0) rfl rfl q_1581 q_1583 qp_46 q_12 q_1584 rfl rfl hd_X10_passes ⟨(Nat.le_of_ble_eq_true rfl), (Nat.le_of_ble_eq_true rfl)⟩ rfl hl.1 rfl (Nat.le_of_ble_eq_true rfl) dX10_size_10 ⟨(Nat.le_of_ble_eq_true rfl), (Nat.le_of_ble_eq_true rfl)⟩) (fun r u H locs hw Y => ?_)
      have hw : r = 1 := hw
      subst hw
      have Y : Wd D τ s A s.heap [(e0, .inl (τ 0, 16816, .inl (S0))), (mo, .inr (10, [.ref e0, .ref e1, .ref e2, .ref e3, .ref e4, .int 0, .int 0, .int 0, .ref e5, .int 0, .int 0, .int 0, .int 0, .int 0, .int 0, .int 0, .int (-1), .int 0, .int 0, .ref e6, .ref e7, .ref e8, .ref e9, .int 0, .ref e10, .ref e11, .int 0, .int 0, .ref e12, .int 0]))] H _ := Y
      refine lv_if_ne (tgt := 18) B.1 B.2.1 dX10_size_13 (by decide) (fun _ => ?_) (fun h => absurd h (by decide))
      refine lv_iload_n B.1 B.2.1 dX10_size_18 rfl (lv_at hl 1 rfl) ?_
      refine lv_tableIn (off := 72) (tgt := 91) B.1 B.2.1 dX10_size_19 (by decide) (by decide) rfl (by decide) ?_
      refine lv_aload_n B.1 B.2.1 dX10_size_91 rfl (lv_at hl 0 rfl) ?_
      refine lv_iconst (v := 3) B.1 B.2.1 dX10_size_92 (by decide) ?_
      refine lv_iconst (v := 3) B.1 B.2.1 dX10_size_93 (by decide) ?_
      refine retI (wc := [(mo, .inr (10, [.ref e0, .ref e1, .ref e2, .ref e3, .ref e4, .int 0, .int 0, .int 0, .ref e5, .int 0, .int 0, .int 0, .int 0, .int 0, .int 0, .int 0, .int (-1), .int 0, .int 0, .ref e6, .ref e7, .ref e8, .ref e9, .int 0, .ref e10, .ref e11, .int 0, .int 0, .ref e12, .int 0])), (e0, .inl (τ 0, 16816, .inl (S0)))]) (wr := []) Y [1, 0] [] rfl rfl (by decide) (by decide) (rV (As := [.int 3, .int 3]) (rest := []) (q0 := 1) B Y [1, 0] (by decide) rfl (k_dataOf l D τ _ mo e0 e1 e2 e3 e4 e5 e6 e7 e8 e9 e10 e11 e12 0 0 0 0 0 0 0 0 0 0 (-1) 0 0 0 0 0 0 (S0) (rfl) 3 3) rfl rfl q_1859 q_1861 qp_102 q_12 q_1862 rfl rfl hd_X10_dataOf ⟨(Nat.le_of_ble_eq_true rfl), (Nat.le_of_ble_eq_true rfl)⟩ rfl hl.1 rfl (Nat.le_of_ble_eq_true rfl) dX10_size_94 ⟨(Nat.le_of_ble_eq_true rfl), (Nat.le_of_ble_eq_true rfl)⟩) (fun r u H locs hw Y => ?_)
      have hw : r = 0 := hw
      subst hw
      have Y : Wd D τ s A s.heap [(mo, .inr (10, [.ref e0, .ref e1, .ref e2, .ref e3, .ref e4, .int 0, .int 0, .int 0, .ref e5, .int 0, .int 0, .int 0, .int 0, .int 0, .int 0, .int 0, .int (-1), .int 0, .int 0, .ref e6, .ref e7, .ref e8, .ref e9, .int 0, .ref e10, .ref e11, .int 0, .int 0, .ref e12, .int 0])), (e0, .inl (τ 0, 16816, .inl (S0)))] H _ := Y
      exact endI B hr hlk Y (lsI [0, 0, 0, 0, 0, 0, 0, 0, 0, 0, (-1), 0, 0, 0, 0, 0, 0]) ⟨fun n hn e => by obtain rfl := nIj (a := 14) (by decide) (by omega) e; exact ⟨rfl, rfl⟩, fun h => absurd h (by decide)⟩ [0] (by decide) rfl (Nat.le_of_ble_eq_true rfl) (Nat.le_of_ble_eq_true rfl) dX10_size_97
    · have hl : lv_has ls 2 [(0, .ref mo), (1, .int 15)] := hl
      refine lv_aload_n B.1 B.2.1 dX10_size_0 rfl (lv_at hl 0 rfl) ?_
      refine lv_iload_n B.1 B.2.1 dX10_size_1 rfl (lv_at hl 1 rfl) ?_
      refine lv_i2l B.1 B.2.1 dX10_size_2 rfl ?_
      refine lv_lconst (v := Int32.toInt64 0) B.1 B.2.1 dX10_size_3 (by decide) ?_
      refine lv_ldc2 B.1 B.2.1 B.2.2.2.1 (B.2.2.2.2 _ q_1912) dX10_size_4 ?_
      refine t_cvL (v := Int32.toInt64 15) (by decide) ?_
      refine retI (wc := []) (wr := [(mo, .inr (10, [.ref e0, .ref e1, .ref e2, .ref e3, .ref e4, .int 0, .int 0, .int 0, .ref e5, .int 0, .int 0, .int 0, .int 0, .int 0, .int 0, .int 0, .int (-1), .int 0, .int 0, .ref e6, .ref e7, .ref e8, .ref e9, .int 0, .ref e10, .ref e11, .int 0, .int 0, .ref e12, .int 0])), (e0, .inl (τ 0, 16816, .inl (S0)))]) Y [] [0, 1] rfl rfl (by decide) (by decide) (rS (As := [.long (Int32.toInt64 15), .long (Int32.toInt64 0), .long (Int32.toInt64 15)]) (rest := [.ref mo]) B Y [] (by decide) rfl (k_in l D τ _ 15 0 15) q_1593 q_1594 q_12 q_1595 rfl rfl hd_X10_in ⟨(Nat.le_of_ble_eq_true rfl), (Nat.le_of_ble_eq_true rfl)⟩ rfl hl.1 rfl (Nat.le_of_ble_eq_true rfl) dX10_size_7 ⟨(Nat.le_of_ble_eq_true rfl), (Nat.le_of_ble_eq_true rfl)⟩) (fun r u H locs hw Y => ?_)
      have hw : r = 1 := hw.1 (by decide)
      subst hw
      have Y : Wd D τ s A s.heap [(mo, .inr (10, [.ref e0, .ref e1, .ref e2, .ref e3, .ref e4, .int 0, .int 0, .int 0, .ref e5, .int 0, .int 0, .int 0, .int 0, .int 0, .int 0, .int 0, .int (-1), .int 0, .int 0, .ref e6, .ref e7, .ref e8, .ref e9, .int 0, .ref e10, .ref e11, .int 0, .int 0, .ref e12, .int 0])), (e0, .inl (τ 0, 16816, .inl (S0)))] H _ := Y
      refine retI (wc := [(mo, .inr (10, [.ref e0, .ref e1, .ref e2, .ref e3, .ref e4, .int 0, .int 0, .int 0, .ref e5, .int 0, .int 0, .int 0, .int 0, .int 0, .int 0, .int 0, .int (-1), .int 0, .int 0, .ref e6, .ref e7, .ref e8, .ref e9, .int 0, .ref e10, .ref e11, .int 0, .int 0, .ref e12, .int 0]))]) (wr := [(e0, .inl (τ 0, 16816, .inl (S0)))]) Y [0] [1] rfl rfl (by decide) (by decide) (rV (As := [.int 1]) (rest := []) (q0 := 0) B Y [0] (by decide) rfl (k_passes1 l D τ _ mo e0 e1 e2 e3 e4 e5 e6 e7 e8 e9 e10 e11 e12 0 0 0 0 0 0 0 0 0 0 (-1) 0 0 0 0 0 0) rfl rfl q_1581 q_1583 qp_46 q_12 q_1584 rfl rfl hd_X10_passes ⟨(Nat.le_of_ble_eq_true rfl), (Nat.le_of_ble_eq_true rfl)⟩ rfl hl.1 rfl (Nat.le_of_ble_eq_true rfl) dX10_size_10 ⟨(Nat.le_of_ble_eq_true rfl), (Nat.le_of_ble_eq_true rfl)⟩) (fun r u H locs hw Y => ?_)
      have hw : r = 1 := hw
      subst hw
      have Y : Wd D τ s A s.heap [(e0, .inl (τ 0, 16816, .inl (S0))), (mo, .inr (10, [.ref e0, .ref e1, .ref e2, .ref e3, .ref e4, .int 0, .int 0, .int 0, .ref e5, .int 0, .int 0, .int 0, .int 0, .int 0, .int 0, .int 0, .int (-1), .int 0, .int 0, .ref e6, .ref e7, .ref e8, .ref e9, .int 0, .ref e10, .ref e11, .int 0, .int 0, .ref e12, .int 0]))] H _ := Y
      refine lv_if_ne (tgt := 18) B.1 B.2.1 dX10_size_13 (by decide) (fun _ => ?_) (fun h => absurd h (by decide))
      refine lv_iload_n B.1 B.2.1 dX10_size_18 rfl (lv_at hl 1 rfl) ?_
      refine lv_tableIn (off := 79) (tgt := 98) B.1 B.2.1 dX10_size_19 (by decide) (by decide) rfl (by decide) ?_
      refine lv_aload_n B.1 B.2.1 dX10_size_98 rfl (lv_at hl 0 rfl) ?_
      refine gf_X10_307 B Y 1 rfl rfl dX10_size_99 ?_
      exact endI B hr hlk Y (lsI [0, 0, 0, 0, 0, 0, 0, 0, 0, 0, (-1), 0, 0, 0, 0, 0, 0]) ⟨fun n hn e => by obtain rfl := nIj (a := 15) (by decide) (by omega) e; exact ⟨rfl, rfl⟩, fun h => absurd h (by decide)⟩ [1] (by decide) rfl (Nat.le_of_ble_eq_true rfl) (Nat.le_of_ble_eq_true rfl) dX10_size_102

set_option maxHeartbeats 4000000 in
set_option maxRecDepth 100000 in
theorem r_account (l : Launch) (D : va_G) (τ : Nat → ClassId) (sz : Nat) (mo e0 e1 e2 e3 e4 e5 e6 e7 e8 e9 e10 e11 e12 : Nat) (k : Int32) : Met l yX10_account (Cond.code yX10_account cX10_account 2 (some .int) :: wALL) { frames := 1, cells := 0, slots := 0, locals := 25 } (Pw D τ [(mo, .inr (10, [.ref e0, .ref e1, .ref e2, .ref e3, .ref e4, .int 0, .int 0, .int 0, .ref e5, .int 0, .int 0, .int 0, .int 0, .int 0, .int 0, .int 0, .int (-1), .int 0, .int 0, .ref e6, .ref e7, .ref e8, .ref e9, .int 0, .ref e10, .ref e11, .int 0, .int 0, .ref e12, .int 0])), (e0, .inl (τ 0, 16816, .inl (S0)))] sz [.ref mo, .int k]) (va_Qi (fun (r : Int32) (u : Nat → Int32) => (¬ k < 0 ∧ ¬ 11 < k → r = 0 ∧ u 1 = 0) ∧ (k < 0 ∨ 11 < k → u 1 = 1)) (Bw D (va_A [(mo, .inr (10, [.ref e0, .ref e1, .ref e2, .ref e3, .ref e4, .int 0, .int 0, .int 0, .ref e5, .int 0, .int 0, .int 0, .int 0, .int 0, .int 0, .int 0, .int (-1), .int 0, .int 0, .ref e6, .ref e7, .ref e8, .ref e9, .int 0, .ref e10, .ref e11, .int 0, .int 0, .ref e12, .int 0])), (e0, .inl (τ 0, 16816, .inl (S0)))] sz) (fun (u : Nat → Int32) => [(mo, .inr (10, [.ref e0, .ref e1, .ref e2, .ref e3, .ref e4, .int (u 0), .int (u 1), .int (u 2), .ref e5, .int (u 3), .int (u 4), .int (u 5), .int (u 6), .int (u 7), .int (u 8), .int (u 9), .int (u 10), .int (u 11), .int (u 12), .ref e6, .ref e7, .ref e8, .ref e9, .int (u 13), .ref e10, .ref e11, .int (u 14), .int (u 15), .ref e12, .int (u 16)]))])) (va_A [(mo, .inr (10, [.ref e0, .ref e1, .ref e2, .ref e3, .ref e4, .int 0, .int 0, .int 0, .ref e5, .int 0, .int 0, .int 0, .int 0, .int 0, .int 0, .int 0, .int (-1), .int 0, .int 0, .ref e6, .ref e7, .ref e8, .ref e9, .int 0, .ref e10, .ref e11, .int 0, .int 0, .ref e12, .int 0])), (e0, .inl (τ 0, 16816, .inl (S0)))] sz)) 0 0 (va_A [(mo, .inr (10, [.ref e0, .ref e1, .ref e2, .ref e3, .ref e4, .int 0, .int 0, .int 0, .ref e5, .int 0, .int 0, .int 0, .int 0, .int 0, .int 0, .int 0, .int (-1), .int 0, .int 0, .ref e6, .ref e7, .ref e8, .ref e9, .int 0, .ref e10, .ref e11, .int 0, .int 0, .ref e12, .int 0])), (e0, .inl (τ 0, 16816, .inl (S0)))] sz) := by
  refine bodyW (by decide) (Nat.le_of_ble_eq_true rfl) (fun p e s m below meth c ls B hr hlk hin hsz Y hl => ?_)
  have hl : lv_has ls 2 [(0, .ref mo), (1, .int k)] := hl
  have B : CallFix p m c cX10_account 2 s _ wALL RX10 := B
  generalize va_A [(mo, .inr (10, [.ref e0, .ref e1, .ref e2, .ref e3, .ref e4, .int 0, .int 0, .int 0, .ref e5, .int 0, .int 0, .int 0, .int 0, .int 0, .int 0, .int 0, .int (-1), .int 0, .int 0, .ref e6, .ref e7, .ref e8, .ref e9, .int 0, .ref e10, .ref e11, .int 0, .int 0, .ref e12, .int 0])), (e0, .inl (τ 0, 16816, .inl (S0)))] sz = A at Y ⊢
  rcases rngL k 11 (by decide) with hk | ⟨n, hn, rfl⟩
  · refine lv_aload_n B.1 B.2.1 dX10_account_0 rfl (lv_at hl 0 rfl) ?_
    refine lv_iload_n B.1 B.2.1 dX10_account_1 rfl (lv_at hl 1 rfl) ?_
    refine lv_i2l B.1 B.2.1 dX10_account_2 rfl ?_
    refine lv_lconst (v := Int32.toInt64 0) B.1 B.2.1 dX10_account_3 (by decide) ?_
    refine lv_ldc2 B.1 B.2.1 B.2.2.2.1 (B.2.2.2.2 _ q_1988) dX10_account_4 ?_
    refine t_cvL (v := Int32.toInt64 11) (by decide) ?_
    refine retI (wc := []) (wr := [(mo, .inr (10, [.ref e0, .ref e1, .ref e2, .ref e3, .ref e4, .int 0, .int 0, .int 0, .ref e5, .int 0, .int 0, .int 0, .int 0, .int 0, .int 0, .int 0, .int (-1), .int 0, .int 0, .ref e6, .ref e7, .ref e8, .ref e9, .int 0, .ref e10, .ref e11, .int 0, .int 0, .ref e12, .int 0])), (e0, .inl (τ 0, 16816, .inl (S0)))]) Y [] [0, 1] rfl rfl (by decide) (by decide) (rS (As := [.long (Int32.toInt64 k), .long (Int32.toInt64 0), .long (Int32.toInt64 11)]) (rest := [.ref mo]) B Y [] (by decide) rfl (k_in l D τ _ k 0 11) q_1593 q_1594 q_12 q_1595 rfl rfl hd_X10_in ⟨(Nat.le_of_ble_eq_true rfl), (Nat.le_of_ble_eq_true rfl)⟩ rfl hl.1 rfl (Nat.le_of_ble_eq_true rfl) dX10_account_7 ⟨(Nat.le_of_ble_eq_true rfl), (Nat.le_of_ble_eq_true rfl)⟩) (fun r u H locs hw Y => ?_)
    have hw : r = 0 := hw.2 hk
    subst hw
    have Y : Wd D τ s A s.heap [(mo, .inr (10, [.ref e0, .ref e1, .ref e2, .ref e3, .ref e4, .int 0, .int 0, .int 0, .ref e5, .int 0, .int 0, .int 0, .int 0, .int 0, .int 0, .int 0, .int (-1), .int 0, .int 0, .ref e6, .ref e7, .ref e8, .ref e9, .int 0, .ref e10, .ref e11, .int 0, .int 0, .ref e12, .int 0])), (e0, .inl (τ 0, 16816, .inl (S0)))] H _ := Y
    refine retI (wc := [(mo, .inr (10, [.ref e0, .ref e1, .ref e2, .ref e3, .ref e4, .int 0, .int 0, .int 0, .ref e5, .int 0, .int 0, .int 0, .int 0, .int 0, .int 0, .int 0, .int (-1), .int 0, .int 0, .ref e6, .ref e7, .ref e8, .ref e9, .int 0, .ref e10, .ref e11, .int 0, .int 0, .ref e12, .int 0]))]) (wr := [(e0, .inl (τ 0, 16816, .inl (S0)))]) Y [0] [1] rfl rfl (by decide) (by decide) (rV (As := [.int 0]) (rest := []) (q0 := 0) B Y [0] (by decide) rfl (k_passes0 l D τ _ mo e0 e1 e2 e3 e4 e5 e6 e7 e8 e9 e10 e11 e12 0 0 0 0 0 0 0 0 0 0 (-1) 0 0 0 0 0 0) rfl rfl q_1581 q_1583 qp_46 q_12 q_1584 rfl rfl hd_X10_passes ⟨(Nat.le_of_ble_eq_true rfl), (Nat.le_of_ble_eq_true rfl)⟩ rfl hl.1 rfl (Nat.le_of_ble_eq_true rfl) dX10_account_10 ⟨(Nat.le_of_ble_eq_true rfl), (Nat.le_of_ble_eq_true rfl)⟩) (fun r u H locs hw Y => ?_)
    have hw : r = 0 := hw
    subst hw
    have Y : Wd D τ s A s.heap [(e0, .inl (τ 0, 16816, .inl (S0))), (mo, .inr (10, [.ref e0, .ref e1, .ref e2, .ref e3, .ref e4, .int 0, .int 1, .int 0, .ref e5, .int 0, .int 0, .int 0, .int 0, .int 0, .int 0, .int 0, .int (-1), .int 0, .int 0, .ref e6, .ref e7, .ref e8, .ref e9, .int 0, .ref e10, .ref e11, .int 0, .int 0, .ref e12, .int 0]))] H _ := Y
    refine lv_if_eq (tgt := 28) B.1 B.2.1 dX10_account_13 (by decide) (fun _ => ?_) (fun h => absurd (by decide) h)
    refine lv_iconst (v := 0) B.1 B.2.1 dX10_account_28 (by decide) ?_
    exact endI B hr hlk Y (lsI [0, 1, 0, 0, 0, 0, 0, 0, 0, 0, (-1), 0, 0, 0, 0, 0, 0]) ⟨fun h => absurd hk (nor2 h.1 h.2), fun _ => rfl⟩ [1] (by decide) rfl (Nat.le_of_ble_eq_true rfl) (Nat.le_of_ble_eq_true rfl) dX10_account_29
  · rcases (show n = 0 ∨ n = 1 ∨ n = 2 ∨ n = 3 ∨ n = 4 ∨ n = 5 ∨ n = 6 ∨ n = 7 ∨ n = 8 ∨ n = 9 ∨ n = 10 ∨ n = 11 by omega) with rfl | rfl | rfl | rfl | rfl | rfl | rfl | rfl | rfl | rfl | rfl | rfl
    · have hl : lv_has ls 2 [(0, .ref mo), (1, .int 0)] := hl
      refine lv_aload_n B.1 B.2.1 dX10_account_0 rfl (lv_at hl 0 rfl) ?_
      refine lv_iload_n B.1 B.2.1 dX10_account_1 rfl (lv_at hl 1 rfl) ?_
      refine lv_i2l B.1 B.2.1 dX10_account_2 rfl ?_
      refine lv_lconst (v := Int32.toInt64 0) B.1 B.2.1 dX10_account_3 (by decide) ?_
      refine lv_ldc2 B.1 B.2.1 B.2.2.2.1 (B.2.2.2.2 _ q_1988) dX10_account_4 ?_
      refine t_cvL (v := Int32.toInt64 11) (by decide) ?_
      refine retI (wc := []) (wr := [(mo, .inr (10, [.ref e0, .ref e1, .ref e2, .ref e3, .ref e4, .int 0, .int 0, .int 0, .ref e5, .int 0, .int 0, .int 0, .int 0, .int 0, .int 0, .int 0, .int (-1), .int 0, .int 0, .ref e6, .ref e7, .ref e8, .ref e9, .int 0, .ref e10, .ref e11, .int 0, .int 0, .ref e12, .int 0])), (e0, .inl (τ 0, 16816, .inl (S0)))]) Y [] [0, 1] rfl rfl (by decide) (by decide) (rS (As := [.long (Int32.toInt64 0), .long (Int32.toInt64 0), .long (Int32.toInt64 11)]) (rest := [.ref mo]) B Y [] (by decide) rfl (k_in l D τ _ 0 0 11) q_1593 q_1594 q_12 q_1595 rfl rfl hd_X10_in ⟨(Nat.le_of_ble_eq_true rfl), (Nat.le_of_ble_eq_true rfl)⟩ rfl hl.1 rfl (Nat.le_of_ble_eq_true rfl) dX10_account_7 ⟨(Nat.le_of_ble_eq_true rfl), (Nat.le_of_ble_eq_true rfl)⟩) (fun r u H locs hw Y => ?_)
      have hw : r = 1 := hw.1 (by decide)
      subst hw
      have Y : Wd D τ s A s.heap [(mo, .inr (10, [.ref e0, .ref e1, .ref e2, .ref e3, .ref e4, .int 0, .int 0, .int 0, .ref e5, .int 0, .int 0, .int 0, .int 0, .int 0, .int 0, .int 0, .int (-1), .int 0, .int 0, .ref e6, .ref e7, .ref e8, .ref e9, .int 0, .ref e10, .ref e11, .int 0, .int 0, .ref e12, .int 0])), (e0, .inl (τ 0, 16816, .inl (S0)))] H _ := Y
      refine retI (wc := [(mo, .inr (10, [.ref e0, .ref e1, .ref e2, .ref e3, .ref e4, .int 0, .int 0, .int 0, .ref e5, .int 0, .int 0, .int 0, .int 0, .int 0, .int 0, .int 0, .int (-1), .int 0, .int 0, .ref e6, .ref e7, .ref e8, .ref e9, .int 0, .ref e10, .ref e11, .int 0, .int 0, .ref e12, .int 0]))]) (wr := [(e0, .inl (τ 0, 16816, .inl (S0)))]) Y [0] [1] rfl rfl (by decide) (by decide) (rV (As := [.int 1]) (rest := []) (q0 := 0) B Y [0] (by decide) rfl (k_passes1 l D τ _ mo e0 e1 e2 e3 e4 e5 e6 e7 e8 e9 e10 e11 e12 0 0 0 0 0 0 0 0 0 0 (-1) 0 0 0 0 0 0) rfl rfl q_1581 q_1583 qp_46 q_12 q_1584 rfl rfl hd_X10_passes ⟨(Nat.le_of_ble_eq_true rfl), (Nat.le_of_ble_eq_true rfl)⟩ rfl hl.1 rfl (Nat.le_of_ble_eq_true rfl) dX10_account_10 ⟨(Nat.le_of_ble_eq_true rfl), (Nat.le_of_ble_eq_true rfl)⟩) (fun r u H locs hw Y => ?_)
      have hw : r = 1 := hw
      subst hw
      have Y : Wd D τ s A s.heap [(e0, .inl (τ 0, 16816, .inl (S0))), (mo, .inr (10, [.ref e0, .ref e1, .ref e2, .ref e3, .ref e4, .int 0, .int 0, .int 0, .ref e5, .int 0, .int 0, .int 0, .int 0, .int 0, .int 0, .int 0, .int (-1), .int 0, .int 0, .ref e6, .ref e7, .ref e8, .ref e9, .int 0, .ref e10, .ref e11, .int 0, .int 0, .ref e12, .int 0]))] H _ := Y
      refine lv_if_eq (tgt := 28) B.1 B.2.1 dX10_account_13 (by decide) (fun h => absurd h (by decide)) (fun _ => ?_)
      refine lv_aload_n B.1 B.2.1 dX10_account_16 rfl (lv_at hl 0 rfl) ?_
      refine gf_X10_7 B Y 1 rfl rfl dX10_account_17 ?_
      refine lv_bipush (v := 12) B.1 B.2.1 dX10_account_20 (by decide) ?_
      refine lv_iload_n B.1 B.2.1 dX10_account_22 rfl (lv_at hl 1 rfl) ?_
      refine lv_iadd B.1 B.2.1 dX10_account_23 ?_
      refine lv_cv (v := 12) (by decide) ?_
      refine t_iald (v := 0) (j := 12) B Y 0 rfl (by decide) (by decide) (Nat.le_of_ble_eq_true rfl) rfl dX10_account_24 ?_
      refine lv_goto (tgt := 29) B.1 B.2.1 dX10_account_25 (by decide) ?_
      exact endI B hr hlk Y (lsI [0, 0, 0, 0, 0, 0, 0, 0, 0, 0, (-1), 0, 0, 0, 0, 0, 0]) ⟨fun _ => ⟨rfl, rfl⟩, fun h => absurd h (by decide)⟩ [1] (by decide) rfl (Nat.le_of_ble_eq_true rfl) (Nat.le_of_ble_eq_true rfl) dX10_account_29
    · have hl : lv_has ls 2 [(0, .ref mo), (1, .int 1)] := hl
      refine lv_aload_n B.1 B.2.1 dX10_account_0 rfl (lv_at hl 0 rfl) ?_
      refine lv_iload_n B.1 B.2.1 dX10_account_1 rfl (lv_at hl 1 rfl) ?_
      refine lv_i2l B.1 B.2.1 dX10_account_2 rfl ?_
      refine lv_lconst (v := Int32.toInt64 0) B.1 B.2.1 dX10_account_3 (by decide) ?_
      refine lv_ldc2 B.1 B.2.1 B.2.2.2.1 (B.2.2.2.2 _ q_1988) dX10_account_4 ?_
      refine t_cvL (v := Int32.toInt64 11) (by decide) ?_
      refine retI (wc := []) (wr := [(mo, .inr (10, [.ref e0, .ref e1, .ref e2, .ref e3, .ref e4, .int 0, .int 0, .int 0, .ref e5, .int 0, .int 0, .int 0, .int 0, .int 0, .int 0, .int 0, .int (-1), .int 0, .int 0, .ref e6, .ref e7, .ref e8, .ref e9, .int 0, .ref e10, .ref e11, .int 0, .int 0, .ref e12, .int 0])), (e0, .inl (τ 0, 16816, .inl (S0)))]) Y [] [0, 1] rfl rfl (by decide) (by decide) (rS (As := [.long (Int32.toInt64 1), .long (Int32.toInt64 0), .long (Int32.toInt64 11)]) (rest := [.ref mo]) B Y [] (by decide) rfl (k_in l D τ _ 1 0 11) q_1593 q_1594 q_12 q_1595 rfl rfl hd_X10_in ⟨(Nat.le_of_ble_eq_true rfl), (Nat.le_of_ble_eq_true rfl)⟩ rfl hl.1 rfl (Nat.le_of_ble_eq_true rfl) dX10_account_7 ⟨(Nat.le_of_ble_eq_true rfl), (Nat.le_of_ble_eq_true rfl)⟩) (fun r u H locs hw Y => ?_)
      have hw : r = 1 := hw.1 (by decide)
      subst hw
      have Y : Wd D τ s A s.heap [(mo, .inr (10, [.ref e0, .ref e1, .ref e2, .ref e3, .ref e4, .int 0, .int 0, .int 0, .ref e5, .int 0, .int 0, .int 0, .int 0, .int 0, .int 0, .int 0, .int (-1), .int 0, .int 0, .ref e6, .ref e7, .ref e8, .ref e9, .int 0, .ref e10, .ref e11, .int 0, .int 0, .ref e12, .int 0])), (e0, .inl (τ 0, 16816, .inl (S0)))] H _ := Y
      refine retI (wc := [(mo, .inr (10, [.ref e0, .ref e1, .ref e2, .ref e3, .ref e4, .int 0, .int 0, .int 0, .ref e5, .int 0, .int 0, .int 0, .int 0, .int 0, .int 0, .int 0, .int (-1), .int 0, .int 0, .ref e6, .ref e7, .ref e8, .ref e9, .int 0, .ref e10, .ref e11, .int 0, .int 0, .ref e12, .int 0]))]) (wr := [(e0, .inl (τ 0, 16816, .inl (S0)))]) Y [0] [1] rfl rfl (by decide) (by decide) (rV (As := [.int 1]) (rest := []) (q0 := 0) B Y [0] (by decide) rfl (k_passes1 l D τ _ mo e0 e1 e2 e3 e4 e5 e6 e7 e8 e9 e10 e11 e12 0 0 0 0 0 0 0 0 0 0 (-1) 0 0 0 0 0 0) rfl rfl q_1581 q_1583 qp_46 q_12 q_1584 rfl rfl hd_X10_passes ⟨(Nat.le_of_ble_eq_true rfl), (Nat.le_of_ble_eq_true rfl)⟩ rfl hl.1 rfl (Nat.le_of_ble_eq_true rfl) dX10_account_10 ⟨(Nat.le_of_ble_eq_true rfl), (Nat.le_of_ble_eq_true rfl)⟩) (fun r u H locs hw Y => ?_)
      have hw : r = 1 := hw
      subst hw
      have Y : Wd D τ s A s.heap [(e0, .inl (τ 0, 16816, .inl (S0))), (mo, .inr (10, [.ref e0, .ref e1, .ref e2, .ref e3, .ref e4, .int 0, .int 0, .int 0, .ref e5, .int 0, .int 0, .int 0, .int 0, .int 0, .int 0, .int 0, .int (-1), .int 0, .int 0, .ref e6, .ref e7, .ref e8, .ref e9, .int 0, .ref e10, .ref e11, .int 0, .int 0, .ref e12, .int 0]))] H _ := Y
      refine lv_if_eq (tgt := 28) B.1 B.2.1 dX10_account_13 (by decide) (fun h => absurd h (by decide)) (fun _ => ?_)
      refine lv_aload_n B.1 B.2.1 dX10_account_16 rfl (lv_at hl 0 rfl) ?_
      refine gf_X10_7 B Y 1 rfl rfl dX10_account_17 ?_
      refine lv_bipush (v := 12) B.1 B.2.1 dX10_account_20 (by decide) ?_
      refine lv_iload_n B.1 B.2.1 dX10_account_22 rfl (lv_at hl 1 rfl) ?_
      refine lv_iadd B.1 B.2.1 dX10_account_23 ?_
      refine lv_cv (v := 13) (by decide) ?_
      refine t_iald (v := 0) (j := 13) B Y 0 rfl (by decide) (by decide) (Nat.le_of_ble_eq_true rfl) rfl dX10_account_24 ?_
      refine lv_goto (tgt := 29) B.1 B.2.1 dX10_account_25 (by decide) ?_
      exact endI B hr hlk Y (lsI [0, 0, 0, 0, 0, 0, 0, 0, 0, 0, (-1), 0, 0, 0, 0, 0, 0]) ⟨fun _ => ⟨rfl, rfl⟩, fun h => absurd h (by decide)⟩ [1] (by decide) rfl (Nat.le_of_ble_eq_true rfl) (Nat.le_of_ble_eq_true rfl) dX10_account_29
    · have hl : lv_has ls 2 [(0, .ref mo), (1, .int 2)] := hl
      refine lv_aload_n B.1 B.2.1 dX10_account_0 rfl (lv_at hl 0 rfl) ?_
      refine lv_iload_n B.1 B.2.1 dX10_account_1 rfl (lv_at hl 1 rfl) ?_
      refine lv_i2l B.1 B.2.1 dX10_account_2 rfl ?_
      refine lv_lconst (v := Int32.toInt64 0) B.1 B.2.1 dX10_account_3 (by decide) ?_
      refine lv_ldc2 B.1 B.2.1 B.2.2.2.1 (B.2.2.2.2 _ q_1988) dX10_account_4 ?_
      refine t_cvL (v := Int32.toInt64 11) (by decide) ?_
      refine retI (wc := []) (wr := [(mo, .inr (10, [.ref e0, .ref e1, .ref e2, .ref e3, .ref e4, .int 0, .int 0, .int 0, .ref e5, .int 0, .int 0, .int 0, .int 0, .int 0, .int 0, .int 0, .int (-1), .int 0, .int 0, .ref e6, .ref e7, .ref e8, .ref e9, .int 0, .ref e10, .ref e11, .int 0, .int 0, .ref e12, .int 0])), (e0, .inl (τ 0, 16816, .inl (S0)))]) Y [] [0, 1] rfl rfl (by decide) (by decide) (rS (As := [.long (Int32.toInt64 2), .long (Int32.toInt64 0), .long (Int32.toInt64 11)]) (rest := [.ref mo]) B Y [] (by decide) rfl (k_in l D τ _ 2 0 11) q_1593 q_1594 q_12 q_1595 rfl rfl hd_X10_in ⟨(Nat.le_of_ble_eq_true rfl), (Nat.le_of_ble_eq_true rfl)⟩ rfl hl.1 rfl (Nat.le_of_ble_eq_true rfl) dX10_account_7 ⟨(Nat.le_of_ble_eq_true rfl), (Nat.le_of_ble_eq_true rfl)⟩) (fun r u H locs hw Y => ?_)
      have hw : r = 1 := hw.1 (by decide)
      subst hw
      have Y : Wd D τ s A s.heap [(mo, .inr (10, [.ref e0, .ref e1, .ref e2, .ref e3, .ref e4, .int 0, .int 0, .int 0, .ref e5, .int 0, .int 0, .int 0, .int 0, .int 0, .int 0, .int 0, .int (-1), .int 0, .int 0, .ref e6, .ref e7, .ref e8, .ref e9, .int 0, .ref e10, .ref e11, .int 0, .int 0, .ref e12, .int 0])), (e0, .inl (τ 0, 16816, .inl (S0)))] H _ := Y
      refine retI (wc := [(mo, .inr (10, [.ref e0, .ref e1, .ref e2, .ref e3, .ref e4, .int 0, .int 0, .int 0, .ref e5, .int 0, .int 0, .int 0, .int 0, .int 0, .int 0, .int 0, .int (-1), .int 0, .int 0, .ref e6, .ref e7, .ref e8, .ref e9, .int 0, .ref e10, .ref e11, .int 0, .int 0, .ref e12, .int 0]))]) (wr := [(e0, .inl (τ 0, 16816, .inl (S0)))]) Y [0] [1] rfl rfl (by decide) (by decide) (rV (As := [.int 1]) (rest := []) (q0 := 0) B Y [0] (by decide) rfl (k_passes1 l D τ _ mo e0 e1 e2 e3 e4 e5 e6 e7 e8 e9 e10 e11 e12 0 0 0 0 0 0 0 0 0 0 (-1) 0 0 0 0 0 0) rfl rfl q_1581 q_1583 qp_46 q_12 q_1584 rfl rfl hd_X10_passes ⟨(Nat.le_of_ble_eq_true rfl), (Nat.le_of_ble_eq_true rfl)⟩ rfl hl.1 rfl (Nat.le_of_ble_eq_true rfl) dX10_account_10 ⟨(Nat.le_of_ble_eq_true rfl), (Nat.le_of_ble_eq_true rfl)⟩) (fun r u H locs hw Y => ?_)
      have hw : r = 1 := hw
      subst hw
      have Y : Wd D τ s A s.heap [(e0, .inl (τ 0, 16816, .inl (S0))), (mo, .inr (10, [.ref e0, .ref e1, .ref e2, .ref e3, .ref e4, .int 0, .int 0, .int 0, .ref e5, .int 0, .int 0, .int 0, .int 0, .int 0, .int 0, .int 0, .int (-1), .int 0, .int 0, .ref e6, .ref e7, .ref e8, .ref e9, .int 0, .ref e10, .ref e11, .int 0, .int 0, .ref e12, .int 0]))] H _ := Y
      refine lv_if_eq (tgt := 28) B.1 B.2.1 dX10_account_13 (by decide) (fun h => absurd h (by decide)) (fun _ => ?_)
      refine lv_aload_n B.1 B.2.1 dX10_account_16 rfl (lv_at hl 0 rfl) ?_
      refine gf_X10_7 B Y 1 rfl rfl dX10_account_17 ?_
      refine lv_bipush (v := 12) B.1 B.2.1 dX10_account_20 (by decide) ?_
      refine lv_iload_n B.1 B.2.1 dX10_account_22 rfl (lv_at hl 1 rfl) ?_
      refine lv_iadd B.1 B.2.1 dX10_account_23 ?_
      refine lv_cv (v := 14) (by decide) ?_
      refine t_iald (v := 0) (j := 14) B Y 0 rfl (by decide) (by decide) (Nat.le_of_ble_eq_true rfl) rfl dX10_account_24 ?_
      refine lv_goto (tgt := 29) B.1 B.2.1 dX10_account_25 (by decide) ?_
      exact endI B hr hlk Y (lsI [0, 0, 0, 0, 0, 0, 0, 0, 0, 0, (-1), 0, 0, 0, 0, 0, 0]) ⟨fun _ => ⟨rfl, rfl⟩, fun h => absurd h (by decide)⟩ [1] (by decide) rfl (Nat.le_of_ble_eq_true rfl) (Nat.le_of_ble_eq_true rfl) dX10_account_29
    · have hl : lv_has ls 2 [(0, .ref mo), (1, .int 3)] := hl
      refine lv_aload_n B.1 B.2.1 dX10_account_0 rfl (lv_at hl 0 rfl) ?_
      refine lv_iload_n B.1 B.2.1 dX10_account_1 rfl (lv_at hl 1 rfl) ?_
      refine lv_i2l B.1 B.2.1 dX10_account_2 rfl ?_
      refine lv_lconst (v := Int32.toInt64 0) B.1 B.2.1 dX10_account_3 (by decide) ?_
      refine lv_ldc2 B.1 B.2.1 B.2.2.2.1 (B.2.2.2.2 _ q_1988) dX10_account_4 ?_
      refine t_cvL (v := Int32.toInt64 11) (by decide) ?_
      refine retI (wc := []) (wr := [(mo, .inr (10, [.ref e0, .ref e1, .ref e2, .ref e3, .ref e4, .int 0, .int 0, .int 0, .ref e5, .int 0, .int 0, .int 0, .int 0, .int 0, .int 0, .int 0, .int (-1), .int 0, .int 0, .ref e6, .ref e7, .ref e8, .ref e9, .int 0, .ref e10, .ref e11, .int 0, .int 0, .ref e12, .int 0])), (e0, .inl (τ 0, 16816, .inl (S0)))]) Y [] [0, 1] rfl rfl (by decide) (by decide) (rS (As := [.long (Int32.toInt64 3), .long (Int32.toInt64 0), .long (Int32.toInt64 11)]) (rest := [.ref mo]) B Y [] (by decide) rfl (k_in l D τ _ 3 0 11) q_1593 q_1594 q_12 q_1595 rfl rfl hd_X10_in ⟨(Nat.le_of_ble_eq_true rfl), (Nat.le_of_ble_eq_true rfl)⟩ rfl hl.1 rfl (Nat.le_of_ble_eq_true rfl) dX10_account_7 ⟨(Nat.le_of_ble_eq_true rfl), (Nat.le_of_ble_eq_true rfl)⟩) (fun r u H locs hw Y => ?_)
      have hw : r = 1 := hw.1 (by decide)
      subst hw
      have Y : Wd D τ s A s.heap [(mo, .inr (10, [.ref e0, .ref e1, .ref e2, .ref e3, .ref e4, .int 0, .int 0, .int 0, .ref e5, .int 0, .int 0, .int 0, .int 0, .int 0, .int 0, .int 0, .int (-1), .int 0, .int 0, .ref e6, .ref e7, .ref e8, .ref e9, .int 0, .ref e10, .ref e11, .int 0, .int 0, .ref e12, .int 0])), (e0, .inl (τ 0, 16816, .inl (S0)))] H _ := Y
      refine retI (wc := [(mo, .inr (10, [.ref e0, .ref e1, .ref e2, .ref e3, .ref e4, .int 0, .int 0, .int 0, .ref e5, .int 0, .int 0, .int 0, .int 0, .int 0, .int 0, .int 0, .int (-1), .int 0, .int 0, .ref e6, .ref e7, .ref e8, .ref e9, .int 0, .ref e10, .ref e11, .int 0, .int 0, .ref e12, .int 0]))]) (wr := [(e0, .inl (τ 0, 16816, .inl (S0)))]) Y [0] [1] rfl rfl (by decide) (by decide) (rV (As := [.int 1]) (rest := []) (q0 := 0) B Y [0] (by decide) rfl (k_passes1 l D τ _ mo e0 e1 e2 e3 e4 e5 e6 e7 e8 e9 e10 e11 e12 0 0 0 0 0 0 0 0 0 0 (-1) 0 0 0 0 0 0) rfl rfl q_1581 q_1583 qp_46 q_12 q_1584 rfl rfl hd_X10_passes ⟨(Nat.le_of_ble_eq_true rfl), (Nat.le_of_ble_eq_true rfl)⟩ rfl hl.1 rfl (Nat.le_of_ble_eq_true rfl) dX10_account_10 ⟨(Nat.le_of_ble_eq_true rfl), (Nat.le_of_ble_eq_true rfl)⟩) (fun r u H locs hw Y => ?_)
      have hw : r = 1 := hw
      subst hw
      have Y : Wd D τ s A s.heap [(e0, .inl (τ 0, 16816, .inl (S0))), (mo, .inr (10, [.ref e0, .ref e1, .ref e2, .ref e3, .ref e4, .int 0, .int 0, .int 0, .ref e5, .int 0, .int 0, .int 0, .int 0, .int 0, .int 0, .int 0, .int (-1), .int 0, .int 0, .ref e6, .ref e7, .ref e8, .ref e9, .int 0, .ref e10, .ref e11, .int 0, .int 0, .ref e12, .int 0]))] H _ := Y
      refine lv_if_eq (tgt := 28) B.1 B.2.1 dX10_account_13 (by decide) (fun h => absurd h (by decide)) (fun _ => ?_)
      refine lv_aload_n B.1 B.2.1 dX10_account_16 rfl (lv_at hl 0 rfl) ?_
      refine gf_X10_7 B Y 1 rfl rfl dX10_account_17 ?_
      refine lv_bipush (v := 12) B.1 B.2.1 dX10_account_20 (by decide) ?_
      refine lv_iload_n B.1 B.2.1 dX10_account_22 rfl (lv_at hl 1 rfl) ?_
      refine lv_iadd B.1 B.2.1 dX10_account_23 ?_
      refine lv_cv (v := 15) (by decide) ?_
      refine t_iald (v := 0) (j := 15) B Y 0 rfl (by decide) (by decide) (Nat.le_of_ble_eq_true rfl) rfl dX10_account_24 ?_
      refine lv_goto (tgt := 29) B.1 B.2.1 dX10_account_25 (by decide) ?_
      exact endI B hr hlk Y (lsI [0, 0, 0, 0, 0, 0, 0, 0, 0, 0, (-1), 0, 0, 0, 0, 0, 0]) ⟨fun _ => ⟨rfl, rfl⟩, fun h => absurd h (by decide)⟩ [1] (by decide) rfl (Nat.le_of_ble_eq_true rfl) (Nat.le_of_ble_eq_true rfl) dX10_account_29
    · have hl : lv_has ls 2 [(0, .ref mo), (1, .int 4)] := hl
      refine lv_aload_n B.1 B.2.1 dX10_account_0 rfl (lv_at hl 0 rfl) ?_
      refine lv_iload_n B.1 B.2.1 dX10_account_1 rfl (lv_at hl 1 rfl) ?_
      refine lv_i2l B.1 B.2.1 dX10_account_2 rfl ?_
      refine lv_lconst (v := Int32.toInt64 0) B.1 B.2.1 dX10_account_3 (by decide) ?_
      refine lv_ldc2 B.1 B.2.1 B.2.2.2.1 (B.2.2.2.2 _ q_1988) dX10_account_4 ?_
      refine t_cvL (v := Int32.toInt64 11) (by decide) ?_
      refine retI (wc := []) (wr := [(mo, .inr (10, [.ref e0, .ref e1, .ref e2, .ref e3, .ref e4, .int 0, .int 0, .int 0, .ref e5, .int 0, .int 0, .int 0, .int 0, .int 0, .int 0, .int 0, .int (-1), .int 0, .int 0, .ref e6, .ref e7, .ref e8, .ref e9, .int 0, .ref e10, .ref e11, .int 0, .int 0, .ref e12, .int 0])), (e0, .inl (τ 0, 16816, .inl (S0)))]) Y [] [0, 1] rfl rfl (by decide) (by decide) (rS (As := [.long (Int32.toInt64 4), .long (Int32.toInt64 0), .long (Int32.toInt64 11)]) (rest := [.ref mo]) B Y [] (by decide) rfl (k_in l D τ _ 4 0 11) q_1593 q_1594 q_12 q_1595 rfl rfl hd_X10_in ⟨(Nat.le_of_ble_eq_true rfl), (Nat.le_of_ble_eq_true rfl)⟩ rfl hl.1 rfl (Nat.le_of_ble_eq_true rfl) dX10_account_7 ⟨(Nat.le_of_ble_eq_true rfl), (Nat.le_of_ble_eq_true rfl)⟩) (fun r u H locs hw Y => ?_)
      have hw : r = 1 := hw.1 (by decide)
      subst hw
      have Y : Wd D τ s A s.heap [(mo, .inr (10, [.ref e0, .ref e1, .ref e2, .ref e3, .ref e4, .int 0, .int 0, .int 0, .ref e5, .int 0, .int 0, .int 0, .int 0, .int 0, .int 0, .int 0, .int (-1), .int 0, .int 0, .ref e6, .ref e7, .ref e8, .ref e9, .int 0, .ref e10, .ref e11, .int 0, .int 0, .ref e12, .int 0])), (e0, .inl (τ 0, 16816, .inl (S0)))] H _ := Y
      refine retI (wc := [(mo, .inr (10, [.ref e0, .ref e1, .ref e2, .ref e3, .ref e4, .int 0, .int 0, .int 0, .ref e5, .int 0, .int 0, .int 0, .int 0, .int 0, .int 0, .int 0, .int (-1), .int 0, .int 0, .ref e6, .ref e7, .ref e8, .ref e9, .int 0, .ref e10, .ref e11, .int 0, .int 0, .ref e12, .int 0]))]) (wr := [(e0, .inl (τ 0, 16816, .inl (S0)))]) Y [0] [1] rfl rfl (by decide) (by decide) (rV (As := [.int 1]) (rest := []) (q0 := 0) B Y [0] (by decide) rfl (k_passes1 l D τ _ mo e0 e1 e2 e3 e4 e5 e6 e7 e8 e9 e10 e11 e12 0 0 0 0 0 0 0 0 0 0 (-1) 0 0 0 0 0 0) rfl rfl q_1581 q_1583 qp_46 q_12 q_1584 rfl rfl hd_X10_passes ⟨(Nat.le_of_ble_eq_true rfl), (Nat.le_of_ble_eq_true rfl)⟩ rfl hl.1 rfl (Nat.le_of_ble_eq_true rfl) dX10_account_10 ⟨(Nat.le_of_ble_eq_true rfl), (Nat.le_of_ble_eq_true rfl)⟩) (fun r u H locs hw Y => ?_)
      have hw : r = 1 := hw
      subst hw
      have Y : Wd D τ s A s.heap [(e0, .inl (τ 0, 16816, .inl (S0))), (mo, .inr (10, [.ref e0, .ref e1, .ref e2, .ref e3, .ref e4, .int 0, .int 0, .int 0, .ref e5, .int 0, .int 0, .int 0, .int 0, .int 0, .int 0, .int 0, .int (-1), .int 0, .int 0, .ref e6, .ref e7, .ref e8, .ref e9, .int 0, .ref e10, .ref e11, .int 0, .int 0, .ref e12, .int 0]))] H _ := Y
      refine lv_if_eq (tgt := 28) B.1 B.2.1 dX10_account_13 (by decide) (fun h => absurd h (by decide)) (fun _ => ?_)
      refine lv_aload_n B.1 B.2.1 dX10_account_16 rfl (lv_at hl 0 rfl) ?_
      refine gf_X10_7 B Y 1 rfl rfl dX10_account_17 ?_
      refine lv_bipush (v := 12) B.1 B.2.1 dX10_account_20 (by decide) ?_
      refine lv_iload_n B.1 B.2.1 dX10_account_22 rfl (lv_at hl 1 rfl) ?_
      refine lv_iadd B.1 B.2.1 dX10_account_23 ?_
      refine lv_cv (v := 16) (by decide) ?_
      refine t_iald (v := 0) (j := 16) B Y 0 rfl (by decide) (by decide) (Nat.le_of_ble_eq_true rfl) rfl dX10_account_24 ?_
      refine lv_goto (tgt := 29) B.1 B.2.1 dX10_account_25 (by decide) ?_
      exact endI B hr hlk Y (lsI [0, 0, 0, 0, 0, 0, 0, 0, 0, 0, (-1), 0, 0, 0, 0, 0, 0]) ⟨fun _ => ⟨rfl, rfl⟩, fun h => absurd h (by decide)⟩ [1] (by decide) rfl (Nat.le_of_ble_eq_true rfl) (Nat.le_of_ble_eq_true rfl) dX10_account_29
    · have hl : lv_has ls 2 [(0, .ref mo), (1, .int 5)] := hl
      refine lv_aload_n B.1 B.2.1 dX10_account_0 rfl (lv_at hl 0 rfl) ?_
      refine lv_iload_n B.1 B.2.1 dX10_account_1 rfl (lv_at hl 1 rfl) ?_
      refine lv_i2l B.1 B.2.1 dX10_account_2 rfl ?_
      refine lv_lconst (v := Int32.toInt64 0) B.1 B.2.1 dX10_account_3 (by decide) ?_
      refine lv_ldc2 B.1 B.2.1 B.2.2.2.1 (B.2.2.2.2 _ q_1988) dX10_account_4 ?_
      refine t_cvL (v := Int32.toInt64 11) (by decide) ?_
      refine retI (wc := []) (wr := [(mo, .inr (10, [.ref e0, .ref e1, .ref e2, .ref e3, .ref e4, .int 0, .int 0, .int 0, .ref e5, .int 0, .int 0, .int 0, .int 0, .int 0, .int 0, .int 0, .int (-1), .int 0, .int 0, .ref e6, .ref e7, .ref e8, .ref e9, .int 0, .ref e10, .ref e11, .int 0, .int 0, .ref e12, .int 0])), (e0, .inl (τ 0, 16816, .inl (S0)))]) Y [] [0, 1] rfl rfl (by decide) (by decide) (rS (As := [.long (Int32.toInt64 5), .long (Int32.toInt64 0), .long (Int32.toInt64 11)]) (rest := [.ref mo]) B Y [] (by decide) rfl (k_in l D τ _ 5 0 11) q_1593 q_1594 q_12 q_1595 rfl rfl hd_X10_in ⟨(Nat.le_of_ble_eq_true rfl), (Nat.le_of_ble_eq_true rfl)⟩ rfl hl.1 rfl (Nat.le_of_ble_eq_true rfl) dX10_account_7 ⟨(Nat.le_of_ble_eq_true rfl), (Nat.le_of_ble_eq_true rfl)⟩) (fun r u H locs hw Y => ?_)
      have hw : r = 1 := hw.1 (by decide)
      subst hw
      have Y : Wd D τ s A s.heap [(mo, .inr (10, [.ref e0, .ref e1, .ref e2, .ref e3, .ref e4, .int 0, .int 0, .int 0, .ref e5, .int 0, .int 0, .int 0, .int 0, .int 0, .int 0, .int 0, .int (-1), .int 0, .int 0, .ref e6, .ref e7, .ref e8, .ref e9, .int 0, .ref e10, .ref e11, .int 0, .int 0, .ref e12, .int 0])), (e0, .inl (τ 0, 16816, .inl (S0)))] H _ := Y
      refine retI (wc := [(mo, .inr (10, [.ref e0, .ref e1, .ref e2, .ref e3, .ref e4, .int 0, .int 0, .int 0, .ref e5, .int 0, .int 0, .int 0, .int 0, .int 0, .int 0, .int 0, .int (-1), .int 0, .int 0, .ref e6, .ref e7, .ref e8, .ref e9, .int 0, .ref e10, .ref e11, .int 0, .int 0, .ref e12, .int 0]))]) (wr := [(e0, .inl (τ 0, 16816, .inl (S0)))]) Y [0] [1] rfl rfl (by decide) (by decide) (rV (As := [.int 1]) (rest := []) (q0 := 0) B Y [0] (by decide) rfl (k_passes1 l D τ _ mo e0 e1 e2 e3 e4 e5 e6 e7 e8 e9 e10 e11 e12 0 0 0 0 0 0 0 0 0 0 (-1) 0 0 0 0 0 0) rfl rfl q_1581 q_1583 qp_46 q_12 q_1584 rfl rfl hd_X10_passes ⟨(Nat.le_of_ble_eq_true rfl), (Nat.le_of_ble_eq_true rfl)⟩ rfl hl.1 rfl (Nat.le_of_ble_eq_true rfl) dX10_account_10 ⟨(Nat.le_of_ble_eq_true rfl), (Nat.le_of_ble_eq_true rfl)⟩) (fun r u H locs hw Y => ?_)
      have hw : r = 1 := hw
      subst hw
      have Y : Wd D τ s A s.heap [(e0, .inl (τ 0, 16816, .inl (S0))), (mo, .inr (10, [.ref e0, .ref e1, .ref e2, .ref e3, .ref e4, .int 0, .int 0, .int 0, .ref e5, .int 0, .int 0, .int 0, .int 0, .int 0, .int 0, .int 0, .int (-1), .int 0, .int 0, .ref e6, .ref e7, .ref e8, .ref e9, .int 0, .ref e10, .ref e11, .int 0, .int 0, .ref e12, .int 0]))] H _ := Y
      refine lv_if_eq (tgt := 28) B.1 B.2.1 dX10_account_13 (by decide) (fun h => absurd h (by decide)) (fun _ => ?_)
      refine lv_aload_n B.1 B.2.1 dX10_account_16 rfl (lv_at hl 0 rfl) ?_
      refine gf_X10_7 B Y 1 rfl rfl dX10_account_17 ?_
      refine lv_bipush (v := 12) B.1 B.2.1 dX10_account_20 (by decide) ?_
      refine lv_iload_n B.1 B.2.1 dX10_account_22 rfl (lv_at hl 1 rfl) ?_
      refine lv_iadd B.1 B.2.1 dX10_account_23 ?_
      refine lv_cv (v := 17) (by decide) ?_
      refine t_iald (v := 0) (j := 17) B Y 0 rfl (by decide) (by decide) (Nat.le_of_ble_eq_true rfl) rfl dX10_account_24 ?_
      refine lv_goto (tgt := 29) B.1 B.2.1 dX10_account_25 (by decide) ?_
      exact endI B hr hlk Y (lsI [0, 0, 0, 0, 0, 0, 0, 0, 0, 0, (-1), 0, 0, 0, 0, 0, 0]) ⟨fun _ => ⟨rfl, rfl⟩, fun h => absurd h (by decide)⟩ [1] (by decide) rfl (Nat.le_of_ble_eq_true rfl) (Nat.le_of_ble_eq_true rfl) dX10_account_29
    · have hl : lv_has ls 2 [(0, .ref mo), (1, .int 6)] := hl
      refine lv_aload_n B.1 B.2.1 dX10_account_0 rfl (lv_at hl 0 rfl) ?_
      refine lv_iload_n B.1 B.2.1 dX10_account_1 rfl (lv_at hl 1 rfl) ?_
      refine lv_i2l B.1 B.2.1 dX10_account_2 rfl ?_
      refine lv_lconst (v := Int32.toInt64 0) B.1 B.2.1 dX10_account_3 (by decide) ?_
      refine lv_ldc2 B.1 B.2.1 B.2.2.2.1 (B.2.2.2.2 _ q_1988) dX10_account_4 ?_
      refine t_cvL (v := Int32.toInt64 11) (by decide) ?_
      refine retI (wc := []) (wr := [(mo, .inr (10, [.ref e0, .ref e1, .ref e2, .ref e3, .ref e4, .int 0, .int 0, .int 0, .ref e5, .int 0, .int 0, .int 0, .int 0, .int 0, .int 0, .int 0, .int (-1), .int 0, .int 0, .ref e6, .ref e7, .ref e8, .ref e9, .int 0, .ref e10, .ref e11, .int 0, .int 0, .ref e12, .int 0])), (e0, .inl (τ 0, 16816, .inl (S0)))]) Y [] [0, 1] rfl rfl (by decide) (by decide) (rS (As := [.long (Int32.toInt64 6), .long (Int32.toInt64 0), .long (Int32.toInt64 11)]) (rest := [.ref mo]) B Y [] (by decide) rfl (k_in l D τ _ 6 0 11) q_1593 q_1594 q_12 q_1595 rfl rfl hd_X10_in ⟨(Nat.le_of_ble_eq_true rfl), (Nat.le_of_ble_eq_true rfl)⟩ rfl hl.1 rfl (Nat.le_of_ble_eq_true rfl) dX10_account_7 ⟨(Nat.le_of_ble_eq_true rfl), (Nat.le_of_ble_eq_true rfl)⟩) (fun r u H locs hw Y => ?_)
      have hw : r = 1 := hw.1 (by decide)
      subst hw
      have Y : Wd D τ s A s.heap [(mo, .inr (10, [.ref e0, .ref e1, .ref e2, .ref e3, .ref e4, .int 0, .int 0, .int 0, .ref e5, .int 0, .int 0, .int 0, .int 0, .int 0, .int 0, .int 0, .int (-1), .int 0, .int 0, .ref e6, .ref e7, .ref e8, .ref e9, .int 0, .ref e10, .ref e11, .int 0, .int 0, .ref e12, .int 0])), (e0, .inl (τ 0, 16816, .inl (S0)))] H _ := Y
      refine retI (wc := [(mo, .inr (10, [.ref e0, .ref e1, .ref e2, .ref e3, .ref e4, .int 0, .int 0, .int 0, .ref e5, .int 0, .int 0, .int 0, .int 0, .int 0, .int 0, .int 0, .int (-1), .int 0, .int 0, .ref e6, .ref e7, .ref e8, .ref e9, .int 0, .ref e10, .ref e11, .int 0, .int 0, .ref e12, .int 0]))]) (wr := [(e0, .inl (τ 0, 16816, .inl (S0)))]) Y [0] [1] rfl rfl (by decide) (by decide) (rV (As := [.int 1]) (rest := []) (q0 := 0) B Y [0] (by decide) rfl (k_passes1 l D τ _ mo e0 e1 e2 e3 e4 e5 e6 e7 e8 e9 e10 e11 e12 0 0 0 0 0 0 0 0 0 0 (-1) 0 0 0 0 0 0) rfl rfl q_1581 q_1583 qp_46 q_12 q_1584 rfl rfl hd_X10_passes ⟨(Nat.le_of_ble_eq_true rfl), (Nat.le_of_ble_eq_true rfl)⟩ rfl hl.1 rfl (Nat.le_of_ble_eq_true rfl) dX10_account_10 ⟨(Nat.le_of_ble_eq_true rfl), (Nat.le_of_ble_eq_true rfl)⟩) (fun r u H locs hw Y => ?_)
      have hw : r = 1 := hw
      subst hw
      have Y : Wd D τ s A s.heap [(e0, .inl (τ 0, 16816, .inl (S0))), (mo, .inr (10, [.ref e0, .ref e1, .ref e2, .ref e3, .ref e4, .int 0, .int 0, .int 0, .ref e5, .int 0, .int 0, .int 0, .int 0, .int 0, .int 0, .int 0, .int (-1), .int 0, .int 0, .ref e6, .ref e7, .ref e8, .ref e9, .int 0, .ref e10, .ref e11, .int 0, .int 0, .ref e12, .int 0]))] H _ := Y
      refine lv_if_eq (tgt := 28) B.1 B.2.1 dX10_account_13 (by decide) (fun h => absurd h (by decide)) (fun _ => ?_)
      refine lv_aload_n B.1 B.2.1 dX10_account_16 rfl (lv_at hl 0 rfl) ?_
      refine gf_X10_7 B Y 1 rfl rfl dX10_account_17 ?_
      refine lv_bipush (v := 12) B.1 B.2.1 dX10_account_20 (by decide) ?_
      refine lv_iload_n B.1 B.2.1 dX10_account_22 rfl (lv_at hl 1 rfl) ?_
      refine lv_iadd B.1 B.2.1 dX10_account_23 ?_
      refine lv_cv (v := 18) (by decide) ?_
      refine t_iald (v := 0) (j := 18) B Y 0 rfl (by decide) (by decide) (Nat.le_of_ble_eq_true rfl) rfl dX10_account_24 ?_
      refine lv_goto (tgt := 29) B.1 B.2.1 dX10_account_25 (by decide) ?_
      exact endI B hr hlk Y (lsI [0, 0, 0, 0, 0, 0, 0, 0, 0, 0, (-1), 0, 0, 0, 0, 0, 0]) ⟨fun _ => ⟨rfl, rfl⟩, fun h => absurd h (by decide)⟩ [1] (by decide) rfl (Nat.le_of_ble_eq_true rfl) (Nat.le_of_ble_eq_true rfl) dX10_account_29
    · have hl : lv_has ls 2 [(0, .ref mo), (1, .int 7)] := hl
      refine lv_aload_n B.1 B.2.1 dX10_account_0 rfl (lv_at hl 0 rfl) ?_
      refine lv_iload_n B.1 B.2.1 dX10_account_1 rfl (lv_at hl 1 rfl) ?_
      refine lv_i2l B.1 B.2.1 dX10_account_2 rfl ?_
      refine lv_lconst (v := Int32.toInt64 0) B.1 B.2.1 dX10_account_3 (by decide) ?_
      refine lv_ldc2 B.1 B.2.1 B.2.2.2.1 (B.2.2.2.2 _ q_1988) dX10_account_4 ?_
      refine t_cvL (v := Int32.toInt64 11) (by decide) ?_
      refine retI (wc := []) (wr := [(mo, .inr (10, [.ref e0, .ref e1, .ref e2, .ref e3, .ref e4, .int 0, .int 0, .int 0, .ref e5, .int 0, .int 0, .int 0, .int 0, .int 0, .int 0, .int 0, .int (-1), .int 0, .int 0, .ref e6, .ref e7, .ref e8, .ref e9, .int 0, .ref e10, .ref e11, .int 0, .int 0, .ref e12, .int 0])), (e0, .inl (τ 0, 16816, .inl (S0)))]) Y [] [0, 1] rfl rfl (by decide) (by decide) (rS (As := [.long (Int32.toInt64 7), .long (Int32.toInt64 0), .long (Int32.toInt64 11)]) (rest := [.ref mo]) B Y [] (by decide) rfl (k_in l D τ _ 7 0 11) q_1593 q_1594 q_12 q_1595 rfl rfl hd_X10_in ⟨(Nat.le_of_ble_eq_true rfl), (Nat.le_of_ble_eq_true rfl)⟩ rfl hl.1 rfl (Nat.le_of_ble_eq_true rfl) dX10_account_7 ⟨(Nat.le_of_ble_eq_true rfl), (Nat.le_of_ble_eq_true rfl)⟩) (fun r u H locs hw Y => ?_)
      have hw : r = 1 := hw.1 (by decide)
      subst hw
      have Y : Wd D τ s A s.heap [(mo, .inr (10, [.ref e0, .ref e1, .ref e2, .ref e3, .ref e4, .int 0, .int 0, .int 0, .ref e5, .int 0, .int 0, .int 0, .int 0, .int 0, .int 0, .int 0, .int (-1), .int 0, .int 0, .ref e6, .ref e7, .ref e8, .ref e9, .int 0, .ref e10, .ref e11, .int 0, .int 0, .ref e12, .int 0])), (e0, .inl (τ 0, 16816, .inl (S0)))] H _ := Y
      refine retI (wc := [(mo, .inr (10, [.ref e0, .ref e1, .ref e2, .ref e3, .ref e4, .int 0, .int 0, .int 0, .ref e5, .int 0, .int 0, .int 0, .int 0, .int 0, .int 0, .int 0, .int (-1), .int 0, .int 0, .ref e6, .ref e7, .ref e8, .ref e9, .int 0, .ref e10, .ref e11, .int 0, .int 0, .ref e12, .int 0]))]) (wr := [(e0, .inl (τ 0, 16816, .inl (S0)))]) Y [0] [1] rfl rfl (by decide) (by decide) (rV (As := [.int 1]) (rest := []) (q0 := 0) B Y [0] (by decide) rfl (k_passes1 l D τ _ mo e0 e1 e2 e3 e4 e5 e6 e7 e8 e9 e10 e11 e12 0 0 0 0 0 0 0 0 0 0 (-1) 0 0 0 0 0 0) rfl rfl q_1581 q_1583 qp_46 q_12 q_1584 rfl rfl hd_X10_passes ⟨(Nat.le_of_ble_eq_true rfl), (Nat.le_of_ble_eq_true rfl)⟩ rfl hl.1 rfl (Nat.le_of_ble_eq_true rfl) dX10_account_10 ⟨(Nat.le_of_ble_eq_true rfl), (Nat.le_of_ble_eq_true rfl)⟩) (fun r u H locs hw Y => ?_)
      have hw : r = 1 := hw
      subst hw
      have Y : Wd D τ s A s.heap [(e0, .inl (τ 0, 16816, .inl (S0))), (mo, .inr (10, [.ref e0, .ref e1, .ref e2, .ref e3, .ref e4, .int 0, .int 0, .int 0, .ref e5, .int 0, .int 0, .int 0, .int 0, .int 0, .int 0, .int 0, .int (-1), .int 0, .int 0, .ref e6, .ref e7, .ref e8, .ref e9, .int 0, .ref e10, .ref e11, .int 0, .int 0, .ref e12, .int 0]))] H _ := Y
      refine lv_if_eq (tgt := 28) B.1 B.2.1 dX10_account_13 (by decide) (fun h => absurd h (by decide)) (fun _ => ?_)
      refine lv_aload_n B.1 B.2.1 dX10_account_16 rfl (lv_at hl 0 rfl) ?_
      refine gf_X10_7 B Y 1 rfl rfl dX10_account_17 ?_
      refine lv_bipush (v := 12) B.1 B.2.1 dX10_account_20 (by decide) ?_
      refine lv_iload_n B.1 B.2.1 dX10_account_22 rfl (lv_at hl 1 rfl) ?_
      refine lv_iadd B.1 B.2.1 dX10_account_23 ?_
      refine lv_cv (v := 19) (by decide) ?_
      refine t_iald (v := 0) (j := 19) B Y 0 rfl (by decide) (by decide) (Nat.le_of_ble_eq_true rfl) rfl dX10_account_24 ?_
      refine lv_goto (tgt := 29) B.1 B.2.1 dX10_account_25 (by decide) ?_
      exact endI B hr hlk Y (lsI [0, 0, 0, 0, 0, 0, 0, 0, 0, 0, (-1), 0, 0, 0, 0, 0, 0]) ⟨fun _ => ⟨rfl, rfl⟩, fun h => absurd h (by decide)⟩ [1] (by decide) rfl (Nat.le_of_ble_eq_true rfl) (Nat.le_of_ble_eq_true rfl) dX10_account_29
    · have hl : lv_has ls 2 [(0, .ref mo), (1, .int 8)] := hl
      refine lv_aload_n B.1 B.2.1 dX10_account_0 rfl (lv_at hl 0 rfl) ?_
      refine lv_iload_n B.1 B.2.1 dX10_account_1 rfl (lv_at hl 1 rfl) ?_
      refine lv_i2l B.1 B.2.1 dX10_account_2 rfl ?_
      refine lv_lconst (v := Int32.toInt64 0) B.1 B.2.1 dX10_account_3 (by decide) ?_
      refine lv_ldc2 B.1 B.2.1 B.2.2.2.1 (B.2.2.2.2 _ q_1988) dX10_account_4 ?_
      refine t_cvL (v := Int32.toInt64 11) (by decide) ?_
      refine retI (wc := []) (wr := [(mo, .inr (10, [.ref e0, .ref e1, .ref e2, .ref e3, .ref e4, .int 0, .int 0, .int 0, .ref e5, .int 0, .int 0, .int 0, .int 0, .int 0, .int 0, .int 0, .int (-1), .int 0, .int 0, .ref e6, .ref e7, .ref e8, .ref e9, .int 0, .ref e10, .ref e11, .int 0, .int 0, .ref e12, .int 0])), (e0, .inl (τ 0, 16816, .inl (S0)))]) Y [] [0, 1] rfl rfl (by decide) (by decide) (rS (As := [.long (Int32.toInt64 8), .long (Int32.toInt64 0), .long (Int32.toInt64 11)]) (rest := [.ref mo]) B Y [] (by decide) rfl (k_in l D τ _ 8 0 11) q_1593 q_1594 q_12 q_1595 rfl rfl hd_X10_in ⟨(Nat.le_of_ble_eq_true rfl), (Nat.le_of_ble_eq_true rfl)⟩ rfl hl.1 rfl (Nat.le_of_ble_eq_true rfl) dX10_account_7 ⟨(Nat.le_of_ble_eq_true rfl), (Nat.le_of_ble_eq_true rfl)⟩) (fun r u H locs hw Y => ?_)
      have hw : r = 1 := hw.1 (by decide)
      subst hw
      have Y : Wd D τ s A s.heap [(mo, .inr (10, [.ref e0, .ref e1, .ref e2, .ref e3, .ref e4, .int 0, .int 0, .int 0, .ref e5, .int 0, .int 0, .int 0, .int 0, .int 0, .int 0, .int 0, .int (-1), .int 0, .int 0, .ref e6, .ref e7, .ref e8, .ref e9, .int 0, .ref e10, .ref e11, .int 0, .int 0, .ref e12, .int 0])), (e0, .inl (τ 0, 16816, .inl (S0)))] H _ := Y
      refine retI (wc := [(mo, .inr (10, [.ref e0, .ref e1, .ref e2, .ref e3, .ref e4, .int 0, .int 0, .int 0, .ref e5, .int 0, .int 0, .int 0, .int 0, .int 0, .int 0, .int 0, .int (-1), .int 0, .int 0, .ref e6, .ref e7, .ref e8, .ref e9, .int 0, .ref e10, .ref e11, .int 0, .int 0, .ref e12, .int 0]))]) (wr := [(e0, .inl (τ 0, 16816, .inl (S0)))]) Y [0] [1] rfl rfl (by decide) (by decide) (rV (As := [.int 1]) (rest := []) (q0 := 0) B Y [0] (by decide) rfl (k_passes1 l D τ _ mo e0 e1 e2 e3 e4 e5 e6 e7 e8 e9 e10 e11 e12 0 0 0 0 0 0 0 0 0 0 (-1) 0 0 0 0 0 0) rfl rfl q_1581 q_1583 qp_46 q_12 q_1584 rfl rfl hd_X10_passes ⟨(Nat.le_of_ble_eq_true rfl), (Nat.le_of_ble_eq_true rfl)⟩ rfl hl.1 rfl (Nat.le_of_ble_eq_true rfl) dX10_account_10 ⟨(Nat.le_of_ble_eq_true rfl), (Nat.le_of_ble_eq_true rfl)⟩) (fun r u H locs hw Y => ?_)
      have hw : r = 1 := hw
      subst hw
      have Y : Wd D τ s A s.heap [(e0, .inl (τ 0, 16816, .inl (S0))), (mo, .inr (10, [.ref e0, .ref e1, .ref e2, .ref e3, .ref e4, .int 0, .int 0, .int 0, .ref e5, .int 0, .int 0, .int 0, .int 0, .int 0, .int 0, .int 0, .int (-1), .int 0, .int 0, .ref e6, .ref e7, .ref e8, .ref e9, .int 0, .ref e10, .ref e11, .int 0, .int 0, .ref e12, .int 0]))] H _ := Y
      refine lv_if_eq (tgt := 28) B.1 B.2.1 dX10_account_13 (by decide) (fun h => absurd h (by decide)) (fun _ => ?_)
      refine lv_aload_n B.1 B.2.1 dX10_account_16 rfl (lv_at hl 0 rfl) ?_
      refine gf_X10_7 B Y 1 rfl rfl dX10_account_17 ?_
      refine lv_bipush (v := 12) B.1 B.2.1 dX10_account_20 (by decide) ?_
      refine lv_iload_n B.1 B.2.1 dX10_account_22 rfl (lv_at hl 1 rfl) ?_
      refine lv_iadd B.1 B.2.1 dX10_account_23 ?_
      refine lv_cv (v := 20) (by decide) ?_
      refine t_iald (v := 0) (j := 20) B Y 0 rfl (by decide) (by decide) (Nat.le_of_ble_eq_true rfl) rfl dX10_account_24 ?_
      refine lv_goto (tgt := 29) B.1 B.2.1 dX10_account_25 (by decide) ?_
      exact endI B hr hlk Y (lsI [0, 0, 0, 0, 0, 0, 0, 0, 0, 0, (-1), 0, 0, 0, 0, 0, 0]) ⟨fun _ => ⟨rfl, rfl⟩, fun h => absurd h (by decide)⟩ [1] (by decide) rfl (Nat.le_of_ble_eq_true rfl) (Nat.le_of_ble_eq_true rfl) dX10_account_29
    · have hl : lv_has ls 2 [(0, .ref mo), (1, .int 9)] := hl
      refine lv_aload_n B.1 B.2.1 dX10_account_0 rfl (lv_at hl 0 rfl) ?_
      refine lv_iload_n B.1 B.2.1 dX10_account_1 rfl (lv_at hl 1 rfl) ?_
      refine lv_i2l B.1 B.2.1 dX10_account_2 rfl ?_
      refine lv_lconst (v := Int32.toInt64 0) B.1 B.2.1 dX10_account_3 (by decide) ?_
      refine lv_ldc2 B.1 B.2.1 B.2.2.2.1 (B.2.2.2.2 _ q_1988) dX10_account_4 ?_
      refine t_cvL (v := Int32.toInt64 11) (by decide) ?_
      refine retI (wc := []) (wr := [(mo, .inr (10, [.ref e0, .ref e1, .ref e2, .ref e3, .ref e4, .int 0, .int 0, .int 0, .ref e5, .int 0, .int 0, .int 0, .int 0, .int 0, .int 0, .int 0, .int (-1), .int 0, .int 0, .ref e6, .ref e7, .ref e8, .ref e9, .int 0, .ref e10, .ref e11, .int 0, .int 0, .ref e12, .int 0])), (e0, .inl (τ 0, 16816, .inl (S0)))]) Y [] [0, 1] rfl rfl (by decide) (by decide) (rS (As := [.long (Int32.toInt64 9), .long (Int32.toInt64 0), .long (Int32.toInt64 11)]) (rest := [.ref mo]) B Y [] (by decide) rfl (k_in l D τ _ 9 0 11) q_1593 q_1594 q_12 q_1595 rfl rfl hd_X10_in ⟨(Nat.le_of_ble_eq_true rfl), (Nat.le_of_ble_eq_true rfl)⟩ rfl hl.1 rfl (Nat.le_of_ble_eq_true rfl) dX10_account_7 ⟨(Nat.le_of_ble_eq_true rfl), (Nat.le_of_ble_eq_true rfl)⟩) (fun r u H locs hw Y => ?_)
      have hw : r = 1 := hw.1 (by decide)
      subst hw
      have Y : Wd D τ s A s.heap [(mo, .inr (10, [.ref e0, .ref e1, .ref e2, .ref e3, .ref e4, .int 0, .int 0, .int 0, .ref e5, .int 0, .int 0, .int 0, .int 0, .int 0, .int 0, .int 0, .int (-1), .int 0, .int 0, .ref e6, .ref e7, .ref e8, .ref e9, .int 0, .ref e10, .ref e11, .int 0, .int 0, .ref e12, .int 0])), (e0, .inl (τ 0, 16816, .inl (S0)))] H _ := Y
      refine retI (wc := [(mo, .inr (10, [.ref e0, .ref e1, .ref e2, .ref e3, .ref e4, .int 0, .int 0, .int 0, .ref e5, .int 0, .int 0, .int 0, .int 0, .int 0, .int 0, .int 0, .int (-1), .int 0, .int 0, .ref e6, .ref e7, .ref e8, .ref e9, .int 0, .ref e10, .ref e11, .int 0, .int 0, .ref e12, .int 0]))]) (wr := [(e0, .inl (τ 0, 16816, .inl (S0)))]) Y [0] [1] rfl rfl (by decide) (by decide) (rV (As := [.int 1]) (rest := []) (q0 := 0) B Y [0] (by decide) rfl (k_passes1 l D τ _ mo e0 e1 e2 e3 e4 e5 e6 e7 e8 e9 e10 e11 e12 0 0 0 0 0 0 0 0 0 0 (-1) 0 0 0 0 0 0) rfl rfl q_1581 q_1583 qp_46 q_12 q_1584 rfl rfl hd_X10_passes ⟨(Nat.le_of_ble_eq_true rfl), (Nat.le_of_ble_eq_true rfl)⟩ rfl hl.1 rfl (Nat.le_of_ble_eq_true rfl) dX10_account_10 ⟨(Nat.le_of_ble_eq_true rfl), (Nat.le_of_ble_eq_true rfl)⟩) (fun r u H locs hw Y => ?_)
      have hw : r = 1 := hw
      subst hw
      have Y : Wd D τ s A s.heap [(e0, .inl (τ 0, 16816, .inl (S0))), (mo, .inr (10, [.ref e0, .ref e1, .ref e2, .ref e3, .ref e4, .int 0, .int 0, .int 0, .ref e5, .int 0, .int 0, .int 0, .int 0, .int 0, .int 0, .int 0, .int (-1), .int 0, .int 0, .ref e6, .ref e7, .ref e8, .ref e9, .int 0, .ref e10, .ref e11, .int 0, .int 0, .ref e12, .int 0]))] H _ := Y
      refine lv_if_eq (tgt := 28) B.1 B.2.1 dX10_account_13 (by decide) (fun h => absurd h (by decide)) (fun _ => ?_)
      refine lv_aload_n B.1 B.2.1 dX10_account_16 rfl (lv_at hl 0 rfl) ?_
      refine gf_X10_7 B Y 1 rfl rfl dX10_account_17 ?_
      refine lv_bipush (v := 12) B.1 B.2.1 dX10_account_20 (by decide) ?_
      refine lv_iload_n B.1 B.2.1 dX10_account_22 rfl (lv_at hl 1 rfl) ?_
      refine lv_iadd B.1 B.2.1 dX10_account_23 ?_
      refine lv_cv (v := 21) (by decide) ?_
      refine t_iald (v := 0) (j := 21) B Y 0 rfl (by decide) (by decide) (Nat.le_of_ble_eq_true rfl) rfl dX10_account_24 ?_
      refine lv_goto (tgt := 29) B.1 B.2.1 dX10_account_25 (by decide) ?_
      exact endI B hr hlk Y (lsI [0, 0, 0, 0, 0, 0, 0, 0, 0, 0, (-1), 0, 0, 0, 0, 0, 0]) ⟨fun _ => ⟨rfl, rfl⟩, fun h => absurd h (by decide)⟩ [1] (by decide) rfl (Nat.le_of_ble_eq_true rfl) (Nat.le_of_ble_eq_true rfl) dX10_account_29
    · have hl : lv_has ls 2 [(0, .ref mo), (1, .int 10)] := hl
      refine lv_aload_n B.1 B.2.1 dX10_account_0 rfl (lv_at hl 0 rfl) ?_
      refine lv_iload_n B.1 B.2.1 dX10_account_1 rfl (lv_at hl 1 rfl) ?_
      refine lv_i2l B.1 B.2.1 dX10_account_2 rfl ?_
      refine lv_lconst (v := Int32.toInt64 0) B.1 B.2.1 dX10_account_3 (by decide) ?_
      refine lv_ldc2 B.1 B.2.1 B.2.2.2.1 (B.2.2.2.2 _ q_1988) dX10_account_4 ?_
      refine t_cvL (v := Int32.toInt64 11) (by decide) ?_
      refine retI (wc := []) (wr := [(mo, .inr (10, [.ref e0, .ref e1, .ref e2, .ref e3, .ref e4, .int 0, .int 0, .int 0, .ref e5, .int 0, .int 0, .int 0, .int 0, .int 0, .int 0, .int 0, .int (-1), .int 0, .int 0, .ref e6, .ref e7, .ref e8, .ref e9, .int 0, .ref e10, .ref e11, .int 0, .int 0, .ref e12, .int 0])), (e0, .inl (τ 0, 16816, .inl (S0)))]) Y [] [0, 1] rfl rfl (by decide) (by decide) (rS (As := [.long (Int32.toInt64 10), .long (Int32.toInt64 0), .long (Int32.toInt64 11)]) (rest := [.ref mo]) B Y [] (by decide) rfl (k_in l D τ _ 10 0 11) q_1593 q_1594 q_12 q_1595 rfl rfl hd_X10_in ⟨(Nat.le_of_ble_eq_true rfl), (Nat.le_of_ble_eq_true rfl)⟩ rfl hl.1 rfl (Nat.le_of_ble_eq_true rfl) dX10_account_7 ⟨(Nat.le_of_ble_eq_true rfl), (Nat.le_of_ble_eq_true rfl)⟩) (fun r u H locs hw Y => ?_)
      have hw : r = 1 := hw.1 (by decide)
      subst hw
      have Y : Wd D τ s A s.heap [(mo, .inr (10, [.ref e0, .ref e1, .ref e2, .ref e3, .ref e4, .int 0, .int 0, .int 0, .ref e5, .int 0, .int 0, .int 0, .int 0, .int 0, .int 0, .int 0, .int (-1), .int 0, .int 0, .ref e6, .ref e7, .ref e8, .ref e9, .int 0, .ref e10, .ref e11, .int 0, .int 0, .ref e12, .int 0])), (e0, .inl (τ 0, 16816, .inl (S0)))] H _ := Y
      refine retI (wc := [(mo, .inr (10, [.ref e0, .ref e1, .ref e2, .ref e3, .ref e4, .int 0, .int 0, .int 0, .ref e5, .int 0, .int 0, .int 0, .int 0, .int 0, .int 0, .int 0, .int (-1), .int 0, .int 0, .ref e6, .ref e7, .ref e8, .ref e9, .int 0, .ref e10, .ref e11, .int 0, .int 0, .ref e12, .int 0]))]) (wr := [(e0, .inl (τ 0, 16816, .inl (S0)))]) Y [0] [1] rfl rfl (by decide) (by decide) (rV (As := [.int 1]) (rest := []) (q0 := 0) B Y [0] (by decide) rfl (k_passes1 l D τ _ mo e0 e1 e2 e3 e4 e5 e6 e7 e8 e9 e10 e11 e12 0 0 0 0 0 0 0 0 0 0 (-1) 0 0 0 0 0 0) rfl rfl q_1581 q_1583 qp_46 q_12 q_1584 rfl rfl hd_X10_passes ⟨(Nat.le_of_ble_eq_true rfl), (Nat.le_of_ble_eq_true rfl)⟩ rfl hl.1 rfl (Nat.le_of_ble_eq_true rfl) dX10_account_10 ⟨(Nat.le_of_ble_eq_true rfl), (Nat.le_of_ble_eq_true rfl)⟩) (fun r u H locs hw Y => ?_)
      have hw : r = 1 := hw
      subst hw
      have Y : Wd D τ s A s.heap [(e0, .inl (τ 0, 16816, .inl (S0))), (mo, .inr (10, [.ref e0, .ref e1, .ref e2, .ref e3, .ref e4, .int 0, .int 0, .int 0, .ref e5, .int 0, .int 0, .int 0, .int 0, .int 0, .int 0, .int 0, .int (-1), .int 0, .int 0, .ref e6, .ref e7, .ref e8, .ref e9, .int 0, .ref e10, .ref e11, .int 0, .int 0, .ref e12, .int 0]))] H _ := Y
      refine lv_if_eq (tgt := 28) B.1 B.2.1 dX10_account_13 (by decide) (fun h => absurd h (by decide)) (fun _ => ?_)
      refine lv_aload_n B.1 B.2.1 dX10_account_16 rfl (lv_at hl 0 rfl) ?_
      refine gf_X10_7 B Y 1 rfl rfl dX10_account_17 ?_
      refine lv_bipush (v := 12) B.1 B.2.1 dX10_account_20 (by decide) ?_
      refine lv_iload_n B.1 B.2.1 dX10_account_22 rfl (lv_at hl 1 rfl) ?_
      refine lv_iadd B.1 B.2.1 dX10_account_23 ?_
      refine lv_cv (v := 22) (by decide) ?_
      refine t_iald (v := 0) (j := 22) B Y 0 rfl (by decide) (by decide) (Nat.le_of_ble_eq_true rfl) rfl dX10_account_24 ?_
      refine lv_goto (tgt := 29) B.1 B.2.1 dX10_account_25 (by decide) ?_
      exact endI B hr hlk Y (lsI [0, 0, 0, 0, 0, 0, 0, 0, 0, 0, (-1), 0, 0, 0, 0, 0, 0]) ⟨fun _ => ⟨rfl, rfl⟩, fun h => absurd h (by decide)⟩ [1] (by decide) rfl (Nat.le_of_ble_eq_true rfl) (Nat.le_of_ble_eq_true rfl) dX10_account_29
    · have hl : lv_has ls 2 [(0, .ref mo), (1, .int 11)] := hl
      refine lv_aload_n B.1 B.2.1 dX10_account_0 rfl (lv_at hl 0 rfl) ?_
      refine lv_iload_n B.1 B.2.1 dX10_account_1 rfl (lv_at hl 1 rfl) ?_
      refine lv_i2l B.1 B.2.1 dX10_account_2 rfl ?_
      refine lv_lconst (v := Int32.toInt64 0) B.1 B.2.1 dX10_account_3 (by decide) ?_
      refine lv_ldc2 B.1 B.2.1 B.2.2.2.1 (B.2.2.2.2 _ q_1988) dX10_account_4 ?_
      refine t_cvL (v := Int32.toInt64 11) (by decide) ?_
      refine retI (wc := []) (wr := [(mo, .inr (10, [.ref e0, .ref e1, .ref e2, .ref e3, .ref e4, .int 0, .int 0, .int 0, .ref e5, .int 0, .int 0, .int 0, .int 0, .int 0, .int 0, .int 0, .int (-1), .int 0, .int 0, .ref e6, .ref e7, .ref e8, .ref e9, .int 0, .ref e10, .ref e11, .int 0, .int 0, .ref e12, .int 0])), (e0, .inl (τ 0, 16816, .inl (S0)))]) Y [] [0, 1] rfl rfl (by decide) (by decide) (rS (As := [.long (Int32.toInt64 11), .long (Int32.toInt64 0), .long (Int32.toInt64 11)]) (rest := [.ref mo]) B Y [] (by decide) rfl (k_in l D τ _ 11 0 11) q_1593 q_1594 q_12 q_1595 rfl rfl hd_X10_in ⟨(Nat.le_of_ble_eq_true rfl), (Nat.le_of_ble_eq_true rfl)⟩ rfl hl.1 rfl (Nat.le_of_ble_eq_true rfl) dX10_account_7 ⟨(Nat.le_of_ble_eq_true rfl), (Nat.le_of_ble_eq_true rfl)⟩) (fun r u H locs hw Y => ?_)
      have hw : r = 1 := hw.1 (by decide)
      subst hw
      have Y : Wd D τ s A s.heap [(mo, .inr (10, [.ref e0, .ref e1, .ref e2, .ref e3, .ref e4, .int 0, .int 0, .int 0, .ref e5, .int 0, .int 0, .int 0, .int 0, .int 0, .int 0, .int 0, .int (-1), .int 0, .int 0, .ref e6, .ref e7, .ref e8, .ref e9, .int 0, .ref e10, .ref e11, .int 0, .int 0, .ref e12, .int 0])), (e0, .inl (τ 0, 16816, .inl (S0)))] H _ := Y
      refine retI (wc := [(mo, .inr (10, [.ref e0, .ref e1, .ref e2, .ref e3, .ref e4, .int 0, .int 0, .int 0, .ref e5, .int 0, .int 0, .int 0, .int 0, .int 0, .int 0, .int 0, .int (-1), .int 0, .int 0, .ref e6, .ref e7, .ref e8, .ref e9, .int 0, .ref e10, .ref e11, .int 0, .int 0, .ref e12, .int 0]))]) (wr := [(e0, .inl (τ 0, 16816, .inl (S0)))]) Y [0] [1] rfl rfl (by decide) (by decide) (rV (As := [.int 1]) (rest := []) (q0 := 0) B Y [0] (by decide) rfl (k_passes1 l D τ _ mo e0 e1 e2 e3 e4 e5 e6 e7 e8 e9 e10 e11 e12 0 0 0 0 0 0 0 0 0 0 (-1) 0 0 0 0 0 0) rfl rfl q_1581 q_1583 qp_46 q_12 q_1584 rfl rfl hd_X10_passes ⟨(Nat.le_of_ble_eq_true rfl), (Nat.le_of_ble_eq_true rfl)⟩ rfl hl.1 rfl (Nat.le_of_ble_eq_true rfl) dX10_account_10 ⟨(Nat.le_of_ble_eq_true rfl), (Nat.le_of_ble_eq_true rfl)⟩) (fun r u H locs hw Y => ?_)
      have hw : r = 1 := hw
      subst hw
      have Y : Wd D τ s A s.heap [(e0, .inl (τ 0, 16816, .inl (S0))), (mo, .inr (10, [.ref e0, .ref e1, .ref e2, .ref e3, .ref e4, .int 0, .int 0, .int 0, .ref e5, .int 0, .int 0, .int 0, .int 0, .int 0, .int 0, .int 0, .int (-1), .int 0, .int 0, .ref e6, .ref e7, .ref e8, .ref e9, .int 0, .ref e10, .ref e11, .int 0, .int 0, .ref e12, .int 0]))] H _ := Y
      refine lv_if_eq (tgt := 28) B.1 B.2.1 dX10_account_13 (by decide) (fun h => absurd h (by decide)) (fun _ => ?_)
      refine lv_aload_n B.1 B.2.1 dX10_account_16 rfl (lv_at hl 0 rfl) ?_
      refine gf_X10_7 B Y 1 rfl rfl dX10_account_17 ?_
      refine lv_bipush (v := 12) B.1 B.2.1 dX10_account_20 (by decide) ?_
      refine lv_iload_n B.1 B.2.1 dX10_account_22 rfl (lv_at hl 1 rfl) ?_
      refine lv_iadd B.1 B.2.1 dX10_account_23 ?_
      refine lv_cv (v := 23) (by decide) ?_
      refine t_iald (v := 0) (j := 23) B Y 0 rfl (by decide) (by decide) (Nat.le_of_ble_eq_true rfl) rfl dX10_account_24 ?_
      refine lv_goto (tgt := 29) B.1 B.2.1 dX10_account_25 (by decide) ?_
      exact endI B hr hlk Y (lsI [0, 0, 0, 0, 0, 0, 0, 0, 0, 0, (-1), 0, 0, 0, 0, 0, 0]) ⟨fun _ => ⟨rfl, rfl⟩, fun h => absurd h (by decide)⟩ [1] (by decide) rfl (Nat.le_of_ble_eq_true rfl) (Nat.le_of_ble_eq_true rfl) dX10_account_29

set_option maxHeartbeats 4000000 in
set_option maxRecDepth 100000 in
theorem r_link (l : Launch) (D : va_G) (τ : Nat → ClassId) (sz : Nat) (mo e0 e1 e2 e3 e4 e5 e6 e7 e8 e9 e10 e11 e12 : Nat) (g k : Int32) : Met l yX10_link (Cond.code yX10_link cX10_link 3 (some .int) :: wALL) { frames := 2, cells := 0, slots := 0, locals := 46 } (Pw D τ [(mo, .inr (10, [.ref e0, .ref e1, .ref e2, .ref e3, .ref e4, .int 0, .int 0, .int 0, .ref e5, .int 0, .int 0, .int 0, .int 0, .int 0, .int 0, .int 0, .int (-1), .int 0, .int 0, .ref e6, .ref e7, .ref e8, .ref e9, .int 0, .ref e10, .ref e11, .int 0, .int 0, .ref e12, .int 0])), (e0, .inl (τ 0, 16816, .inl (S0)))] sz [.ref mo, .int g, .int k]) (va_Qi (fun (r : Int32) (u : Nat → Int32) => (g = 0 → ∀ n : Nat, n ≤ 8 → k = nI n → r = lkT n ∧ u 1 = 0) ∧ (g ≠ 0 → u 1 = 1) ∧ (g = 0 → k < 0 ∨ 8 < k → u 1 = 2)) (Bw D (va_A [(mo, .inr (10, [.ref e0, .ref e1, .ref e2, .ref e3, .ref e4, .int 0, .int 0, .int 0, .ref e5, .int 0, .int 0, .int 0, .int 0, .int 0, .int 0, .int 0, .int (-1), .int 0, .int 0, .ref e6, .ref e7, .ref e8, .ref e9, .int 0, .ref e10, .ref e11, .int 0, .int 0, .ref e12, .int 0])), (e0, .inl (τ 0, 16816, .inl (S0)))] sz) (fun (u : Nat → Int32) => [(mo, .inr (10, [.ref e0, .ref e1, .ref e2, .ref e3, .ref e4, .int (u 0), .int (u 1), .int (u 2), .ref e5, .int (u 3), .int (u 4), .int (u 5), .int (u 6), .int (u 7), .int (u 8), .int (u 9), .int (u 10), .int (u 11), .int (u 12), .ref e6, .ref e7, .ref e8, .ref e9, .int (u 13), .ref e10, .ref e11, .int (u 14), .int (u 15), .ref e12, .int (u 16)]))])) (va_A [(mo, .inr (10, [.ref e0, .ref e1, .ref e2, .ref e3, .ref e4, .int 0, .int 0, .int 0, .ref e5, .int 0, .int 0, .int 0, .int 0, .int 0, .int 0, .int 0, .int (-1), .int 0, .int 0, .ref e6, .ref e7, .ref e8, .ref e9, .int 0, .ref e10, .ref e11, .int 0, .int 0, .ref e12, .int 0])), (e0, .inl (τ 0, 16816, .inl (S0)))] sz)) 0 0 (va_A [(mo, .inr (10, [.ref e0, .ref e1, .ref e2, .ref e3, .ref e4, .int 0, .int 0, .int 0, .ref e5, .int 0, .int 0, .int 0, .int 0, .int 0, .int 0, .int 0, .int (-1), .int 0, .int 0, .ref e6, .ref e7, .ref e8, .ref e9, .int 0, .ref e10, .ref e11, .int 0, .int 0, .ref e12, .int 0])), (e0, .inl (τ 0, 16816, .inl (S0)))] sz) := by
  refine bodyW (by decide) (Nat.le_of_ble_eq_true rfl) (fun p e s m below meth c ls B hr hlk hin hsz Y hl => ?_)
  have hl : lv_has ls 3 [(0, .ref mo), (1, .int g), (2, .int k)] := hl
  have B : CallFix p m c cX10_link 3 s _ wALL RX10 := B
  generalize va_A [(mo, .inr (10, [.ref e0, .ref e1, .ref e2, .ref e3, .ref e4, .int 0, .int 0, .int 0, .ref e5, .int 0, .int 0, .int 0, .int 0, .int 0, .int 0, .int 0, .int (-1), .int 0, .int 0, .ref e6, .ref e7, .ref e8, .ref e9, .int 0, .ref e10, .ref e11, .int 0, .int 0, .ref e12, .int 0])), (e0, .inl (τ 0, 16816, .inl (S0)))] sz = A at Y ⊢
  by_cases hg : g = 0
  · subst hg
    rcases rngL k 8 (by decide) with hk | ⟨n, hn, rfl⟩
    · refine lv_aload_n B.1 B.2.1 dX10_link_0 rfl (lv_at hl 0 rfl) ?_
      refine lv_aload_n B.1 B.2.1 dX10_link_1 rfl (lv_at hl 0 rfl) ?_
      refine lv_iload_n B.1 B.2.1 dX10_link_2 rfl (lv_at hl 1 rfl) ?_
      refine retI (wc := [(mo, .inr (10, [.ref e0, .ref e1, .ref e2, .ref e3, .ref e4, .int 0, .int 0, .int 0, .ref e5, .int 0, .int 0, .int 0, .int 0, .int 0, .int 0, .int 0, .int (-1), .int 0, .int 0, .ref e6, .ref e7, .ref e8, .ref e9, .int 0, .ref e10, .ref e11, .int 0, .int 0, .ref e12, .int 0])), (e0, .inl (τ 0, 16816, .inl (S0)))]) (wr := []) Y [0, 1] [] rfl rfl (by decide) (by decide) (rV (As := [.int 0]) (rest := [.ref mo]) (q0 := 0) B Y [0, 1] (by decide) rfl (k_isLink l D τ _ mo e0 e1 e2 e3 e4 e5 e6 e7 e8 e9 e10 e11 e12 0 0 0 0 0 0 0 0 0 0 (-1) 0 0 0 0 0 0 (S0) (rfl) 0) rfl rfl q_1900 q_1902 qp_112 q_12 q_1903 rfl rfl hd_X10_isLink ⟨(Nat.le_of_ble_eq_true rfl), (Nat.le_of_ble_eq_true rfl)⟩ rfl hl.1 rfl (Nat.le_of_ble_eq_true rfl) dX10_link_3 ⟨(Nat.le_of_ble_eq_true rfl), (Nat.le_of_ble_eq_true rfl)⟩) (fun r u H locs hw Y => ?_)
      have hw : r = 1 := hw.1 rfl
      subst hw
      have Y : Wd D τ s A s.heap [(mo, .inr (10, [.ref e0, .ref e1, .ref e2, .ref e3, .ref e4, .int 0, .int 0, .int 0, .ref e5, .int 0, .int 0, .int 0, .int 0, .int 0, .int 0, .int 0, .int (-1), .int 0, .int 0, .ref e6, .ref e7, .ref e8, .ref e9, .int 0, .ref e10, .ref e11, .int 0, .int 0, .ref e12, .int 0])), (e0, .inl (τ 0, 16816, .inl (S0)))] H _ := Y
      refine lv_iload_n B.1 B.2.1 dX10_link_6 rfl (lv_at hl 2 rfl) ?_
      refine lv_i2l B.1 B.2.1 dX10_link_7 rfl ?_
      refine lv_lconst (v := Int32.toInt64 0) B.1 B.2.1 dX10_link_8 (by decide) ?_
      refine lv_ldc2 B.1 B.2.1 B.2.2.2.1 (B.2.2.2.2 _ q_1921) dX10_link_9 ?_
      refine t_cvL (v := Int32.toInt64 8) (by decide) ?_
      refine retI (wc := []) (wr := [(mo, .inr (10, [.ref e0, .ref e1, .ref e2, .ref e3, .ref e4, .int 0, .int 0, .int 0, .ref e5, .int 0, .int 0, .int 0, .int 0, .int 0, .int 0, .int 0, .int (-1), .int 0, .int 0, .ref e6, .ref e7, .ref e8, .ref e9, .int 0, .ref e10, .ref e11, .int 0, .int 0, .ref e12, .int 0])), (e0, .inl (τ 0, 16816, .inl (S0)))]) Y [] [0, 1] rfl rfl (by decide) (by decide) (rS (As := [.long (Int32.toInt64 k), .long (Int32.toInt64 0), .long (Int32.toInt64 8)]) (rest := [.int 1, .ref mo]) B Y [] (by decide) rfl (k_in l D τ _ k 0 8) q_1593 q_1594 q_12 q_1595 rfl rfl hd_X10_in ⟨(Nat.le_of_ble_eq_true rfl), (Nat.le_of_ble_eq_true rfl)⟩ rfl hl.1 rfl (Nat.le_of_ble_eq_true rfl) dX10_link_12 ⟨(Nat.le_of_ble_eq_true rfl), (Nat.le_of_ble_eq_true rfl)⟩) (fun r u H locs hw Y => ?_)
      have hw : r = 0 := hw.2 hk
      subst hw
      have Y : Wd D τ s A s.heap [(mo, .inr (10, [.ref e0, .ref e1, .ref e2, .ref e3, .ref e4, .int 0, .int 0, .int 0, .ref e5, .int 0, .int 0, .int 0, .int 0, .int 0, .int 0, .int 0, .int (-1), .int 0, .int 0, .ref e6, .ref e7, .ref e8, .ref e9, .int 0, .ref e10, .ref e11, .int 0, .int 0, .ref e12, .int 0])), (e0, .inl (τ 0, 16816, .inl (S0)))] H _ := Y
      refine retI (wc := [(mo, .inr (10, [.ref e0, .ref e1, .ref e2, .ref e3, .ref e4, .int 0, .int 0, .int 0, .ref e5, .int 0, .int 0, .int 0, .int 0, .int 0, .int 0, .int 0, .int (-1), .int 0, .int 0, .ref e6, .ref e7, .ref e8, .ref e9, .int 0, .ref e10, .ref e11, .int 0, .int 0, .ref e12, .int 0]))]) (wr := [(e0, .inl (τ 0, 16816, .inl (S0)))]) Y [0] [1] rfl rfl (by decide) (by decide) (rV (As := [.int 1, .int 0]) (rest := []) (q0 := 0) B Y [0] (by decide) rfl (k_passesBoth10 l D τ _ mo e0 e1 e2 e3 e4 e5 e6 e7 e8 e9 e10 e11 e12 0 0 0 0 0 0 0 0 0 0 (-1) 0 0 0 0 0 0) rfl rfl q_1922 q_1924 qp_115 q_12 q_1925 rfl rfl hd_X10_passesBoth ⟨(Nat.le_of_ble_eq_true rfl), (Nat.le_of_ble_eq_true rfl)⟩ rfl hl.1 rfl (Nat.le_of_ble_eq_true rfl) dX10_link_15 ⟨(Nat.le_of_ble_eq_true rfl), (Nat.le_of_ble_eq_true rfl)⟩) (fun r u H locs hw Y => ?_)
      have hw : r = 0 := hw
      subst hw
      have Y : Wd D τ s A s.heap [(e0, .inl (τ 0, 16816, .inl (S0))), (mo, .inr (10, [.ref e0, .ref e1, .ref e2, .ref e3, .ref e4, .int 0, .int 2, .int 0, .ref e5, .int 0, .int 0, .int 0, .int 0, .int 0, .int 0, .int 0, .int (-1), .int 0, .int 0, .ref e6, .ref e7, .ref e8, .ref e9, .int 0, .ref e10, .ref e11, .int 0, .int 0, .ref e12, .int 0]))] H _ := Y
      refine lv_if_ne (tgt := 23) B.1 B.2.1 dX10_link_18 (by decide) (fun h => absurd (by decide) h) (fun _ => ?_)
      refine lv_iconst (v := 0) B.1 B.2.1 dX10_link_21 (by decide) ?_
      exact endI B hr hlk Y (lsI [0, 2, 0, 0, 0, 0, 0, 0, 0, 0, (-1), 0, 0, 0, 0, 0, 0]) ⟨fun _ n hn e => absurd hk (by subst e; exact nor2 (nI_pos (by omega)) (nI_nlt (b := n) (a := 8) hn (by decide))), fun h => absurd rfl h, fun _ _ => rfl⟩ [1] (by decide) rfl (Nat.le_of_ble_eq_true rfl) (Nat.le_of_ble_eq_true rfl) dX10_link_22
    · rcases (show n = 0 ∨ n = 1 ∨ n = 2 ∨ n = 3 ∨ n = 4 ∨ n = 5 ∨ n = 6 ∨ n = 7 ∨ n = 8 by omega) with rfl | rfl | rfl | rfl | rfl | rfl | rfl | rfl | rfl
      · have hl : lv_has ls 3 [(0, .ref mo), (1, .int 0), (2, .int 0)] := hl
        refine lv_aload_n B.1 B.2.1 dX10_link_0 rfl (lv_at hl 0 rfl) ?_
        refine lv_aload_n B.1 B.2.1 dX10_link_1 rfl (lv_at hl 0 rfl) ?_
        refine lv_iload_n B.1 B.2.1 dX10_link_2 rfl (lv_at hl 1 rfl) ?_
        refine retI (wc := [(mo, .inr (10, [.ref e0, .ref e1, .ref e2, .ref e3, .ref e4, .int 0, .int 0, .int 0, .ref e5, .int 0, .int 0, .int 0, .int 0, .int 0, .int 0, .int 0, .int (-1), .int 0, .int 0, .ref e6, .ref e7, .ref e8, .ref e9, .int 0, .ref e10, .ref e11, .int 0, .int 0, .ref e12, .int 0])), (e0, .inl (τ 0, 16816, .inl (S0)))]) (wr := []) Y [0, 1] [] rfl rfl (by decide) (by decide) (rV (As := [.int 0]) (rest := [.ref mo]) (q0 := 0) B Y [0, 1] (by decide) rfl (k_isLink l D τ _ mo e0 e1 e2 e3 e4 e5 e6 e7 e8 e9 e10 e11 e12 0 0 0 0 0 0 0 0 0 0 (-1) 0 0 0 0 0 0 (S0) (rfl) 0) rfl rfl q_1900 q_1902 qp_112 q_12 q_1903 rfl rfl hd_X10_isLink ⟨(Nat.le_of_ble_eq_true rfl), (Nat.le_of_ble_eq_true rfl)⟩ rfl hl.1 rfl (Nat.le_of_ble_eq_true rfl) dX10_link_3 ⟨(Nat.le_of_ble_eq_true rfl), (Nat.le_of_ble_eq_true rfl)⟩) (fun r u H locs hw Y => ?_)
        have hw : r = 1 := hw.1 rfl
        subst hw
        have Y : Wd D τ s A s.heap [(mo, .inr (10, [.ref e0, .ref e1, .ref e2, .ref e3, .ref e4, .int 0, .int 0, .int 0, .ref e5, .int 0, .int 0, .int 0, .int 0, .int 0, .int 0, .int 0, .int (-1), .int 0, .int 0, .ref e6, .ref e7, .ref e8, .ref e9, .int 0, .ref e10, .ref e11, .int 0, .int 0, .ref e12, .int 0])), (e0, .inl (τ 0, 16816, .inl (S0)))] H _ := Y
        refine lv_iload_n B.1 B.2.1 dX10_link_6 rfl (lv_at hl 2 rfl) ?_
        refine lv_i2l B.1 B.2.1 dX10_link_7 rfl ?_
        refine lv_lconst (v := Int32.toInt64 0) B.1 B.2.1 dX10_link_8 (by decide) ?_
        refine lv_ldc2 B.1 B.2.1 B.2.2.2.1 (B.2.2.2.2 _ q_1921) dX10_link_9 ?_
        refine t_cvL (v := Int32.toInt64 8) (by decide) ?_
        refine retI (wc := []) (wr := [(mo, .inr (10, [.ref e0, .ref e1, .ref e2, .ref e3, .ref e4, .int 0, .int 0, .int 0, .ref e5, .int 0, .int 0, .int 0, .int 0, .int 0, .int 0, .int 0, .int (-1), .int 0, .int 0, .ref e6, .ref e7, .ref e8, .ref e9, .int 0, .ref e10, .ref e11, .int 0, .int 0, .ref e12, .int 0])), (e0, .inl (τ 0, 16816, .inl (S0)))]) Y [] [0, 1] rfl rfl (by decide) (by decide) (rS (As := [.long (Int32.toInt64 0), .long (Int32.toInt64 0), .long (Int32.toInt64 8)]) (rest := [.int 1, .ref mo]) B Y [] (by decide) rfl (k_in l D τ _ 0 0 8) q_1593 q_1594 q_12 q_1595 rfl rfl hd_X10_in ⟨(Nat.le_of_ble_eq_true rfl), (Nat.le_of_ble_eq_true rfl)⟩ rfl hl.1 rfl (Nat.le_of_ble_eq_true rfl) dX10_link_12 ⟨(Nat.le_of_ble_eq_true rfl), (Nat.le_of_ble_eq_true rfl)⟩) (fun r u H locs hw Y => ?_)
        have hw : r = 1 := hw.1 (by decide)
        subst hw
        have Y : Wd D τ s A s.heap [(mo, .inr (10, [.ref e0, .ref e1, .ref e2, .ref e3, .ref e4, .int 0, .int 0, .int 0, .ref e5, .int 0, .int 0, .int 0, .int 0, .int 0, .int 0, .int 0, .int (-1), .int 0, .int 0, .ref e6, .ref e7, .ref e8, .ref e9, .int 0, .ref e10, .ref e11, .int 0, .int 0, .ref e12, .int 0])), (e0, .inl (τ 0, 16816, .inl (S0)))] H _ := Y
        refine retI (wc := [(mo, .inr (10, [.ref e0, .ref e1, .ref e2, .ref e3, .ref e4, .int 0, .int 0, .int 0, .ref e5, .int 0, .int 0, .int 0, .int 0, .int 0, .int 0, .int 0, .int (-1), .int 0, .int 0, .ref e6, .ref e7, .ref e8, .ref e9, .int 0, .ref e10, .ref e11, .int 0, .int 0, .ref e12, .int 0]))]) (wr := [(e0, .inl (τ 0, 16816, .inl (S0)))]) Y [0] [1] rfl rfl (by decide) (by decide) (rV (As := [.int 1, .int 1]) (rest := []) (q0 := 0) B Y [0] (by decide) rfl (k_passesBoth11 l D τ _ mo e0 e1 e2 e3 e4 e5 e6 e7 e8 e9 e10 e11 e12 0 0 0 0 0 0 0 0 0 0 (-1) 0 0 0 0 0 0) rfl rfl q_1922 q_1924 qp_115 q_12 q_1925 rfl rfl hd_X10_passesBoth ⟨(Nat.le_of_ble_eq_true rfl), (Nat.le_of_ble_eq_true rfl)⟩ rfl hl.1 rfl (Nat.le_of_ble_eq_true rfl) dX10_link_15 ⟨(Nat.le_of_ble_eq_true rfl), (Nat.le_of_ble_eq_true rfl)⟩) (fun r u H locs hw Y => ?_)
        have hw : r = 1 := hw
        subst hw
        have Y : Wd D τ s A s.heap [(e0, .inl (τ 0, 16816, .inl (S0))), (mo, .inr (10, [.ref e0, .ref e1, .ref e2, .ref e3, .ref e4, .int 0, .int 0, .int 0, .ref e5, .int 0, .int 0, .int 0, .int 0, .int 0, .int 0, .int 0, .int (-1), .int 0, .int 0, .ref e6, .ref e7, .ref e8, .ref e9, .int 0, .ref e10, .ref e11, .int 0, .int 0, .ref e12, .int 0]))] H _ := Y
        refine lv_if_ne (tgt := 23) B.1 B.2.1 dX10_link_18 (by decide) (fun _ => ?_) (fun h => absurd h (by decide))
        refine lv_iload_n B.1 B.2.1 dX10_link_23 rfl (lv_at hl 2 rfl) ?_
        refine lv_iconst (v := 4) B.1 B.2.1 dX10_link_24 (by decide) ?_
        refine lv_icmp_ne (tgt := 36) B.1 B.2.1 dX10_link_25 (by decide) (fun _ => ?_) (fun h => absurd h (by decide))
        refine lv_aload_n B.1 B.2.1 dX10_link_36 rfl (lv_at hl 0 rfl) ?_
        refine lv_iload_n B.1 B.2.1 dX10_link_37 rfl (lv_at hl 1 rfl) ?_
        refine lv_iload_n B.1 B.2.1 dX10_link_38 rfl (lv_at hl 2 rfl) ?_
        refine lv_iconst (v := 4) B.1 B.2.1 dX10_link_39 (by decide) ?_
        refine lv_icmp_ge (tgt := 47) B.1 B.2.1 dX10_link_40 (by decide) (fun h => absurd h (by decide)) (fun _ => ?_)
        refine lv_iload_n B.1 B.2.1 dX10_link_43 rfl (lv_at hl 2 rfl) ?_
        refine lv_goto (tgt := 50) B.1 B.2.1 dX10_link_44 (by decide) ?_
        refine retI (wc := [(mo, .inr (10, [.ref e0, .ref e1, .ref e2, .ref e3, .ref e4, .int 0, .int 0, .int 0, .ref e5, .int 0, .int 0, .int 0, .int 0, .int 0, .int 0, .int 0, .int (-1), .int 0, .int 0, .ref e6, .ref e7, .ref e8, .ref e9, .int 0, .ref e10, .ref e11, .int 0, .int 0, .ref e12, .int 0])), (e0, .inl (τ 0, 16816, .inl (S0)))]) (wr := []) Y [1, 0] [] rfl rfl (by decide) (by decide) (rV (As := [.int 0, .int 0]) (rest := []) (q0 := 1) B Y [1, 0] (by decide) rfl (k_ofLinkR l D τ _ mo e0 e1 e2 e3 e4 e5 e6 e7 e8 e9 e10 e11 e12 0 0 0 0 0 0 0 0 0 0 (-1) 0 0 0 0 0 0 (S0) 0 0 24 (by decide) (by decide)) rfl rfl q_1674 q_1676 qp_61 q_12 q_1677 rfl rfl hd_X10_ofLink ⟨(Nat.le_of_ble_eq_true rfl), (Nat.le_of_ble_eq_true rfl)⟩ rfl hl.1 rfl (Nat.le_of_ble_eq_true rfl) dX10_link_50 ⟨(Nat.le_of_ble_eq_true rfl), (Nat.le_of_ble_eq_true rfl)⟩) (fun r u H locs hw Y => ?_)
        have hw : r = 576 := (hw : r = _).trans (rfl)
        subst hw
        have Y : Wd D τ s A s.heap [(mo, .inr (10, [.ref e0, .ref e1, .ref e2, .ref e3, .ref e4, .int 0, .int 0, .int 0, .ref e5, .int 0, .int 0, .int 0, .int 0, .int 0, .int 0, .int 0, .int (-1), .int 0, .int 0, .ref e6, .ref e7, .ref e8, .ref e9, .int 0, .ref e10, .ref e11, .int 0, .int 0, .ref e12, .int 0])), (e0, .inl (τ 0, 16816, .inl (S0)))] H _ := Y
        exact endI B hr hlk Y (lsI [0, 0, 0, 0, 0, 0, 0, 0, 0, 0, (-1), 0, 0, 0, 0, 0, 0]) ⟨fun _ n hn e => by obtain rfl := nIj (a := 0) (by decide) (by omega) e; exact ⟨rfl, rfl⟩, fun h => absurd rfl h, fun _ h => absurd h (by decide)⟩ [0] (by decide) rfl (Nat.le_of_ble_eq_true rfl) (Nat.le_of_ble_eq_true rfl) dX10_link_53
      · have hl : lv_has ls 3 [(0, .ref mo), (1, .int 0), (2, .int 1)] := hl
        refine lv_aload_n B.1 B.2.1 dX10_link_0 rfl (lv_at hl 0 rfl) ?_
        refine lv_aload_n B.1 B.2.1 dX10_link_1 rfl (lv_at hl 0 rfl) ?_
        refine lv_iload_n B.1 B.2.1 dX10_link_2 rfl (lv_at hl 1 rfl) ?_
        refine retI (wc := [(mo, .inr (10, [.ref e0, .ref e1, .ref e2, .ref e3, .ref e4, .int 0, .int 0, .int 0, .ref e5, .int 0, .int 0, .int 0, .int 0, .int 0, .int 0, .int 0, .int (-1), .int 0, .int 0, .ref e6, .ref e7, .ref e8, .ref e9, .int 0, .ref e10, .ref e11, .int 0, .int 0, .ref e12, .int 0])), (e0, .inl (τ 0, 16816, .inl (S0)))]) (wr := []) Y [0, 1] [] rfl rfl (by decide) (by decide) (rV (As := [.int 0]) (rest := [.ref mo]) (q0 := 0) B Y [0, 1] (by decide) rfl (k_isLink l D τ _ mo e0 e1 e2 e3 e4 e5 e6 e7 e8 e9 e10 e11 e12 0 0 0 0 0 0 0 0 0 0 (-1) 0 0 0 0 0 0 (S0) (rfl) 0) rfl rfl q_1900 q_1902 qp_112 q_12 q_1903 rfl rfl hd_X10_isLink ⟨(Nat.le_of_ble_eq_true rfl), (Nat.le_of_ble_eq_true rfl)⟩ rfl hl.1 rfl (Nat.le_of_ble_eq_true rfl) dX10_link_3 ⟨(Nat.le_of_ble_eq_true rfl), (Nat.le_of_ble_eq_true rfl)⟩) (fun r u H locs hw Y => ?_)
        have hw : r = 1 := hw.1 rfl
        subst hw
        have Y : Wd D τ s A s.heap [(mo, .inr (10, [.ref e0, .ref e1, .ref e2, .ref e3, .ref e4, .int 0, .int 0, .int 0, .ref e5, .int 0, .int 0, .int 0, .int 0, .int 0, .int 0, .int 0, .int (-1), .int 0, .int 0, .ref e6, .ref e7, .ref e8, .ref e9, .int 0, .ref e10, .ref e11, .int 0, .int 0, .ref e12, .int 0])), (e0, .inl (τ 0, 16816, .inl (S0)))] H _ := Y
        refine lv_iload_n B.1 B.2.1 dX10_link_6 rfl (lv_at hl 2 rfl) ?_
        refine lv_i2l B.1 B.2.1 dX10_link_7 rfl ?_
        refine lv_lconst (v := Int32.toInt64 0) B.1 B.2.1 dX10_link_8 (by decide) ?_
        refine lv_ldc2 B.1 B.2.1 B.2.2.2.1 (B.2.2.2.2 _ q_1921) dX10_link_9 ?_
        refine t_cvL (v := Int32.toInt64 8) (by decide) ?_
        refine retI (wc := []) (wr := [(mo, .inr (10, [.ref e0, .ref e1, .ref e2, .ref e3, .ref e4, .int 0, .int 0, .int 0, .ref e5, .int 0, .int 0, .int 0, .int 0, .int 0, .int 0, .int 0, .int (-1), .int 0, .int 0, .ref e6, .ref e7, .ref e8, .ref e9, .int 0, .ref e10, .ref e11, .int 0, .int 0, .ref e12, .int 0])), (e0, .inl (τ 0, 16816, .inl (S0)))]) Y [] [0, 1] rfl rfl (by decide) (by decide) (rS (As := [.long (Int32.toInt64 1), .long (Int32.toInt64 0), .long (Int32.toInt64 8)]) (rest := [.int 1, .ref mo]) B Y [] (by decide) rfl (k_in l D τ _ 1 0 8) q_1593 q_1594 q_12 q_1595 rfl rfl hd_X10_in ⟨(Nat.le_of_ble_eq_true rfl), (Nat.le_of_ble_eq_true rfl)⟩ rfl hl.1 rfl (Nat.le_of_ble_eq_true rfl) dX10_link_12 ⟨(Nat.le_of_ble_eq_true rfl), (Nat.le_of_ble_eq_true rfl)⟩) (fun r u H locs hw Y => ?_)
        have hw : r = 1 := hw.1 (by decide)
        subst hw
        have Y : Wd D τ s A s.heap [(mo, .inr (10, [.ref e0, .ref e1, .ref e2, .ref e3, .ref e4, .int 0, .int 0, .int 0, .ref e5, .int 0, .int 0, .int 0, .int 0, .int 0, .int 0, .int 0, .int (-1), .int 0, .int 0, .ref e6, .ref e7, .ref e8, .ref e9, .int 0, .ref e10, .ref e11, .int 0, .int 0, .ref e12, .int 0])), (e0, .inl (τ 0, 16816, .inl (S0)))] H _ := Y
        refine retI (wc := [(mo, .inr (10, [.ref e0, .ref e1, .ref e2, .ref e3, .ref e4, .int 0, .int 0, .int 0, .ref e5, .int 0, .int 0, .int 0, .int 0, .int 0, .int 0, .int 0, .int (-1), .int 0, .int 0, .ref e6, .ref e7, .ref e8, .ref e9, .int 0, .ref e10, .ref e11, .int 0, .int 0, .ref e12, .int 0]))]) (wr := [(e0, .inl (τ 0, 16816, .inl (S0)))]) Y [0] [1] rfl rfl (by decide) (by decide) (rV (As := [.int 1, .int 1]) (rest := []) (q0 := 0) B Y [0] (by decide) rfl (k_passesBoth11 l D τ _ mo e0 e1 e2 e3 e4 e5 e6 e7 e8 e9 e10 e11 e12 0 0 0 0 0 0 0 0 0 0 (-1) 0 0 0 0 0 0) rfl rfl q_1922 q_1924 qp_115 q_12 q_1925 rfl rfl hd_X10_passesBoth ⟨(Nat.le_of_ble_eq_true rfl), (Nat.le_of_ble_eq_true rfl)⟩ rfl hl.1 rfl (Nat.le_of_ble_eq_true rfl) dX10_link_15 ⟨(Nat.le_of_ble_eq_true rfl), (Nat.le_of_ble_eq_true rfl)⟩) (fun r u H locs hw Y => ?_)
        have hw : r = 1 := hw
        subst hw
        have Y : Wd D τ s A s.heap [(e0, .inl (τ 0, 16816, .inl (S0))), (mo, .inr (10, [.ref e0, .ref e1, .ref e2, .ref e3, .ref e4, .int 0, .int 0, .int 0, .ref e5, .int 0, .int 0, .int 0, .int 0, .int 0, .int 0, .int 0, .int (-1), .int 0, .int 0, .ref e6, .ref e7, .ref e8, .ref e9, .int 0, .ref e10, .ref e11, .int 0, .int 0, .ref e12, .int 0]))] H _ := Y
        refine lv_if_ne (tgt := 23) B.1 B.2.1 dX10_link_18 (by decide) (fun _ => ?_) (fun h => absurd h (by decide))
        refine lv_iload_n B.1 B.2.1 dX10_link_23 rfl (lv_at hl 2 rfl) ?_
        refine lv_iconst (v := 4) B.1 B.2.1 dX10_link_24 (by decide) ?_
        refine lv_icmp_ne (tgt := 36) B.1 B.2.1 dX10_link_25 (by decide) (fun _ => ?_) (fun h => absurd h (by decide))
        refine lv_aload_n B.1 B.2.1 dX10_link_36 rfl (lv_at hl 0 rfl) ?_
        refine lv_iload_n B.1 B.2.1 dX10_link_37 rfl (lv_at hl 1 rfl) ?_
        refine lv_iload_n B.1 B.2.1 dX10_link_38 rfl (lv_at hl 2 rfl) ?_
        refine lv_iconst (v := 4) B.1 B.2.1 dX10_link_39 (by decide) ?_
        refine lv_icmp_ge (tgt := 47) B.1 B.2.1 dX10_link_40 (by decide) (fun h => absurd h (by decide)) (fun _ => ?_)
        refine lv_iload_n B.1 B.2.1 dX10_link_43 rfl (lv_at hl 2 rfl) ?_
        refine lv_goto (tgt := 50) B.1 B.2.1 dX10_link_44 (by decide) ?_
        refine retI (wc := [(mo, .inr (10, [.ref e0, .ref e1, .ref e2, .ref e3, .ref e4, .int 0, .int 0, .int 0, .ref e5, .int 0, .int 0, .int 0, .int 0, .int 0, .int 0, .int 0, .int (-1), .int 0, .int 0, .ref e6, .ref e7, .ref e8, .ref e9, .int 0, .ref e10, .ref e11, .int 0, .int 0, .ref e12, .int 0])), (e0, .inl (τ 0, 16816, .inl (S0)))]) (wr := []) Y [1, 0] [] rfl rfl (by decide) (by decide) (rV (As := [.int 0, .int 1]) (rest := []) (q0 := 1) B Y [1, 0] (by decide) rfl (k_ofLinkR l D τ _ mo e0 e1 e2 e3 e4 e5 e6 e7 e8 e9 e10 e11 e12 0 0 0 0 0 0 0 0 0 0 (-1) 0 0 0 0 0 0 (S0) 0 1 25 (by decide) (by decide)) rfl rfl q_1674 q_1676 qp_61 q_12 q_1677 rfl rfl hd_X10_ofLink ⟨(Nat.le_of_ble_eq_true rfl), (Nat.le_of_ble_eq_true rfl)⟩ rfl hl.1 rfl (Nat.le_of_ble_eq_true rfl) dX10_link_50 ⟨(Nat.le_of_ble_eq_true rfl), (Nat.le_of_ble_eq_true rfl)⟩) (fun r u H locs hw Y => ?_)
        have hw : r = 1 := (hw : r = _).trans (rfl)
        subst hw
        have Y : Wd D τ s A s.heap [(mo, .inr (10, [.ref e0, .ref e1, .ref e2, .ref e3, .ref e4, .int 0, .int 0, .int 0, .ref e5, .int 0, .int 0, .int 0, .int 0, .int 0, .int 0, .int 0, .int (-1), .int 0, .int 0, .ref e6, .ref e7, .ref e8, .ref e9, .int 0, .ref e10, .ref e11, .int 0, .int 0, .ref e12, .int 0])), (e0, .inl (τ 0, 16816, .inl (S0)))] H _ := Y
        exact endI B hr hlk Y (lsI [0, 0, 0, 0, 0, 0, 0, 0, 0, 0, (-1), 0, 0, 0, 0, 0, 0]) ⟨fun _ n hn e => by obtain rfl := nIj (a := 1) (by decide) (by omega) e; exact ⟨rfl, rfl⟩, fun h => absurd rfl h, fun _ h => absurd h (by decide)⟩ [0] (by decide) rfl (Nat.le_of_ble_eq_true rfl) (Nat.le_of_ble_eq_true rfl) dX10_link_53
      · have hl : lv_has ls 3 [(0, .ref mo), (1, .int 0), (2, .int 2)] := hl
        refine lv_aload_n B.1 B.2.1 dX10_link_0 rfl (lv_at hl 0 rfl) ?_
        refine lv_aload_n B.1 B.2.1 dX10_link_1 rfl (lv_at hl 0 rfl) ?_
        refine lv_iload_n B.1 B.2.1 dX10_link_2 rfl (lv_at hl 1 rfl) ?_
        refine retI (wc := [(mo, .inr (10, [.ref e0, .ref e1, .ref e2, .ref e3, .ref e4, .int 0, .int 0, .int 0, .ref e5, .int 0, .int 0, .int 0, .int 0, .int 0, .int 0, .int 0, .int (-1), .int 0, .int 0, .ref e6, .ref e7, .ref e8, .ref e9, .int 0, .ref e10, .ref e11, .int 0, .int 0, .ref e12, .int 0])), (e0, .inl (τ 0, 16816, .inl (S0)))]) (wr := []) Y [0, 1] [] rfl rfl (by decide) (by decide) (rV (As := [.int 0]) (rest := [.ref mo]) (q0 := 0) B Y [0, 1] (by decide) rfl (k_isLink l D τ _ mo e0 e1 e2 e3 e4 e5 e6 e7 e8 e9 e10 e11 e12 0 0 0 0 0 0 0 0 0 0 (-1) 0 0 0 0 0 0 (S0) (rfl) 0) rfl rfl q_1900 q_1902 qp_112 q_12 q_1903 rfl rfl hd_X10_isLink ⟨(Nat.le_of_ble_eq_true rfl), (Nat.le_of_ble_eq_true rfl)⟩ rfl hl.1 rfl (Nat.le_of_ble_eq_true rfl) dX10_link_3 ⟨(Nat.le_of_ble_eq_true rfl), (Nat.le_of_ble_eq_true rfl)⟩) (fun r u H locs hw Y => ?_)
        have hw : r = 1 := hw.1 rfl
        subst hw
        have Y : Wd D τ s A s.heap [(mo, .inr (10, [.ref e0, .ref e1, .ref e2, .ref e3, .ref e4, .int 0, .int 0, .int 0, .ref e5, .int 0, .int 0, .int 0, .int 0, .int 0, .int 0, .int 0, .int (-1), .int 0, .int 0, .ref e6, .ref e7, .ref e8, .ref e9, .int 0, .ref e10, .ref e11, .int 0, .int 0, .ref e12, .int 0])), (e0, .inl (τ 0, 16816, .inl (S0)))] H _ := Y
        refine lv_iload_n B.1 B.2.1 dX10_link_6 rfl (lv_at hl 2 rfl) ?_
        refine lv_i2l B.1 B.2.1 dX10_link_7 rfl ?_
        refine lv_lconst (v := Int32.toInt64 0) B.1 B.2.1 dX10_link_8 (by decide) ?_
        refine lv_ldc2 B.1 B.2.1 B.2.2.2.1 (B.2.2.2.2 _ q_1921) dX10_link_9 ?_
        refine t_cvL (v := Int32.toInt64 8) (by decide) ?_
        refine retI (wc := []) (wr := [(mo, .inr (10, [.ref e0, .ref e1, .ref e2, .ref e3, .ref e4, .int 0, .int 0, .int 0, .ref e5, .int 0, .int 0, .int 0, .int 0, .int 0, .int 0, .int 0, .int (-1), .int 0, .int 0, .ref e6, .ref e7, .ref e8, .ref e9, .int 0, .ref e10, .ref e11, .int 0, .int 0, .ref e12, .int 0])), (e0, .inl (τ 0, 16816, .inl (S0)))]) Y [] [0, 1] rfl rfl (by decide) (by decide) (rS (As := [.long (Int32.toInt64 2), .long (Int32.toInt64 0), .long (Int32.toInt64 8)]) (rest := [.int 1, .ref mo]) B Y [] (by decide) rfl (k_in l D τ _ 2 0 8) q_1593 q_1594 q_12 q_1595 rfl rfl hd_X10_in ⟨(Nat.le_of_ble_eq_true rfl), (Nat.le_of_ble_eq_true rfl)⟩ rfl hl.1 rfl (Nat.le_of_ble_eq_true rfl) dX10_link_12 ⟨(Nat.le_of_ble_eq_true rfl), (Nat.le_of_ble_eq_true rfl)⟩) (fun r u H locs hw Y => ?_)
        have hw : r = 1 := hw.1 (by decide)
        subst hw
        have Y : Wd D τ s A s.heap [(mo, .inr (10, [.ref e0, .ref e1, .ref e2, .ref e3, .ref e4, .int 0, .int 0, .int 0, .ref e5, .int 0, .int 0, .int 0, .int 0, .int 0, .int 0, .int 0, .int (-1), .int 0, .int 0, .ref e6, .ref e7, .ref e8, .ref e9, .int 0, .ref e10, .ref e11, .int 0, .int 0, .ref e12, .int 0])), (e0, .inl (τ 0, 16816, .inl (S0)))] H _ := Y
        refine retI (wc := [(mo, .inr (10, [.ref e0, .ref e1, .ref e2, .ref e3, .ref e4, .int 0, .int 0, .int 0, .ref e5, .int 0, .int 0, .int 0, .int 0, .int 0, .int 0, .int 0, .int (-1), .int 0, .int 0, .ref e6, .ref e7, .ref e8, .ref e9, .int 0, .ref e10, .ref e11, .int 0, .int 0, .ref e12, .int 0]))]) (wr := [(e0, .inl (τ 0, 16816, .inl (S0)))]) Y [0] [1] rfl rfl (by decide) (by decide) (rV (As := [.int 1, .int 1]) (rest := []) (q0 := 0) B Y [0] (by decide) rfl (k_passesBoth11 l D τ _ mo e0 e1 e2 e3 e4 e5 e6 e7 e8 e9 e10 e11 e12 0 0 0 0 0 0 0 0 0 0 (-1) 0 0 0 0 0 0) rfl rfl q_1922 q_1924 qp_115 q_12 q_1925 rfl rfl hd_X10_passesBoth ⟨(Nat.le_of_ble_eq_true rfl), (Nat.le_of_ble_eq_true rfl)⟩ rfl hl.1 rfl (Nat.le_of_ble_eq_true rfl) dX10_link_15 ⟨(Nat.le_of_ble_eq_true rfl), (Nat.le_of_ble_eq_true rfl)⟩) (fun r u H locs hw Y => ?_)
        have hw : r = 1 := hw
        subst hw
        have Y : Wd D τ s A s.heap [(e0, .inl (τ 0, 16816, .inl (S0))), (mo, .inr (10, [.ref e0, .ref e1, .ref e2, .ref e3, .ref e4, .int 0, .int 0, .int 0, .ref e5, .int 0, .int 0, .int 0, .int 0, .int 0, .int 0, .int 0, .int (-1), .int 0, .int 0, .ref e6, .ref e7, .ref e8, .ref e9, .int 0, .ref e10, .ref e11, .int 0, .int 0, .ref e12, .int 0]))] H _ := Y
        refine lv_if_ne (tgt := 23) B.1 B.2.1 dX10_link_18 (by decide) (fun _ => ?_) (fun h => absurd h (by decide))
        refine lv_iload_n B.1 B.2.1 dX10_link_23 rfl (lv_at hl 2 rfl) ?_
        refine lv_iconst (v := 4) B.1 B.2.1 dX10_link_24 (by decide) ?_
        refine lv_icmp_ne (tgt := 36) B.1 B.2.1 dX10_link_25 (by decide) (fun _ => ?_) (fun h => absurd h (by decide))
        refine lv_aload_n B.1 B.2.1 dX10_link_36 rfl (lv_at hl 0 rfl) ?_
        refine lv_iload_n B.1 B.2.1 dX10_link_37 rfl (lv_at hl 1 rfl) ?_
        refine lv_iload_n B.1 B.2.1 dX10_link_38 rfl (lv_at hl 2 rfl) ?_
        refine lv_iconst (v := 4) B.1 B.2.1 dX10_link_39 (by decide) ?_
        refine lv_icmp_ge (tgt := 47) B.1 B.2.1 dX10_link_40 (by decide) (fun h => absurd h (by decide)) (fun _ => ?_)
        refine lv_iload_n B.1 B.2.1 dX10_link_43 rfl (lv_at hl 2 rfl) ?_
        refine lv_goto (tgt := 50) B.1 B.2.1 dX10_link_44 (by decide) ?_
        refine retI (wc := [(mo, .inr (10, [.ref e0, .ref e1, .ref e2, .ref e3, .ref e4, .int 0, .int 0, .int 0, .ref e5, .int 0, .int 0, .int 0, .int 0, .int 0, .int 0, .int 0, .int (-1), .int 0, .int 0, .ref e6, .ref e7, .ref e8, .ref e9, .int 0, .ref e10, .ref e11, .int 0, .int 0, .ref e12, .int 0])), (e0, .inl (τ 0, 16816, .inl (S0)))]) (wr := []) Y [1, 0] [] rfl rfl (by decide) (by decide) (rV (As := [.int 0, .int 2]) (rest := []) (q0 := 1) B Y [1, 0] (by decide) rfl (k_ofLinkR l D τ _ mo e0 e1 e2 e3 e4 e5 e6 e7 e8 e9 e10 e11 e12 0 0 0 0 0 0 0 0 0 0 (-1) 0 0 0 0 0 0 (S0) 0 2 26 (by decide) (by decide)) rfl rfl q_1674 q_1676 qp_61 q_12 q_1677 rfl rfl hd_X10_ofLink ⟨(Nat.le_of_ble_eq_true rfl), (Nat.le_of_ble_eq_true rfl)⟩ rfl hl.1 rfl (Nat.le_of_ble_eq_true rfl) dX10_link_50 ⟨(Nat.le_of_ble_eq_true rfl), (Nat.le_of_ble_eq_true rfl)⟩) (fun r u H locs hw Y => ?_)
        have hw : r = 0 := (hw : r = _).trans (rfl)
        subst hw
        have Y : Wd D τ s A s.heap [(mo, .inr (10, [.ref e0, .ref e1, .ref e2, .ref e3, .ref e4, .int 0, .int 0, .int 0, .ref e5, .int 0, .int 0, .int 0, .int 0, .int 0, .int 0, .int 0, .int (-1), .int 0, .int 0, .ref e6, .ref e7, .ref e8, .ref e9, .int 0, .ref e10, .ref e11, .int 0, .int 0, .ref e12, .int 0])), (e0, .inl (τ 0, 16816, .inl (S0)))] H _ := Y
        exact endI B hr hlk Y (lsI [0, 0, 0, 0, 0, 0, 0, 0, 0, 0, (-1), 0, 0, 0, 0, 0, 0]) ⟨fun _ n hn e => by obtain rfl := nIj (a := 2) (by decide) (by omega) e; exact ⟨rfl, rfl⟩, fun h => absurd rfl h, fun _ h => absurd h (by decide)⟩ [0] (by decide) rfl (Nat.le_of_ble_eq_true rfl) (Nat.le_of_ble_eq_true rfl) dX10_link_53
      · have hl : lv_has ls 3 [(0, .ref mo), (1, .int 0), (2, .int 3)] := hl
        refine lv_aload_n B.1 B.2.1 dX10_link_0 rfl (lv_at hl 0 rfl) ?_
        refine lv_aload_n B.1 B.2.1 dX10_link_1 rfl (lv_at hl 0 rfl) ?_
        refine lv_iload_n B.1 B.2.1 dX10_link_2 rfl (lv_at hl 1 rfl) ?_
        refine retI (wc := [(mo, .inr (10, [.ref e0, .ref e1, .ref e2, .ref e3, .ref e4, .int 0, .int 0, .int 0, .ref e5, .int 0, .int 0, .int 0, .int 0, .int 0, .int 0, .int 0, .int (-1), .int 0, .int 0, .ref e6, .ref e7, .ref e8, .ref e9, .int 0, .ref e10, .ref e11, .int 0, .int 0, .ref e12, .int 0])), (e0, .inl (τ 0, 16816, .inl (S0)))]) (wr := []) Y [0, 1] [] rfl rfl (by decide) (by decide) (rV (As := [.int 0]) (rest := [.ref mo]) (q0 := 0) B Y [0, 1] (by decide) rfl (k_isLink l D τ _ mo e0 e1 e2 e3 e4 e5 e6 e7 e8 e9 e10 e11 e12 0 0 0 0 0 0 0 0 0 0 (-1) 0 0 0 0 0 0 (S0) (rfl) 0) rfl rfl q_1900 q_1902 qp_112 q_12 q_1903 rfl rfl hd_X10_isLink ⟨(Nat.le_of_ble_eq_true rfl), (Nat.le_of_ble_eq_true rfl)⟩ rfl hl.1 rfl (Nat.le_of_ble_eq_true rfl) dX10_link_3 ⟨(Nat.le_of_ble_eq_true rfl), (Nat.le_of_ble_eq_true rfl)⟩) (fun r u H locs hw Y => ?_)
        have hw : r = 1 := hw.1 rfl
        subst hw
        have Y : Wd D τ s A s.heap [(mo, .inr (10, [.ref e0, .ref e1, .ref e2, .ref e3, .ref e4, .int 0, .int 0, .int 0, .ref e5, .int 0, .int 0, .int 0, .int 0, .int 0, .int 0, .int 0, .int (-1), .int 0, .int 0, .ref e6, .ref e7, .ref e8, .ref e9, .int 0, .ref e10, .ref e11, .int 0, .int 0, .ref e12, .int 0])), (e0, .inl (τ 0, 16816, .inl (S0)))] H _ := Y
        refine lv_iload_n B.1 B.2.1 dX10_link_6 rfl (lv_at hl 2 rfl) ?_
        refine lv_i2l B.1 B.2.1 dX10_link_7 rfl ?_
        refine lv_lconst (v := Int32.toInt64 0) B.1 B.2.1 dX10_link_8 (by decide) ?_
        refine lv_ldc2 B.1 B.2.1 B.2.2.2.1 (B.2.2.2.2 _ q_1921) dX10_link_9 ?_
        refine t_cvL (v := Int32.toInt64 8) (by decide) ?_
        refine retI (wc := []) (wr := [(mo, .inr (10, [.ref e0, .ref e1, .ref e2, .ref e3, .ref e4, .int 0, .int 0, .int 0, .ref e5, .int 0, .int 0, .int 0, .int 0, .int 0, .int 0, .int 0, .int (-1), .int 0, .int 0, .ref e6, .ref e7, .ref e8, .ref e9, .int 0, .ref e10, .ref e11, .int 0, .int 0, .ref e12, .int 0])), (e0, .inl (τ 0, 16816, .inl (S0)))]) Y [] [0, 1] rfl rfl (by decide) (by decide) (rS (As := [.long (Int32.toInt64 3), .long (Int32.toInt64 0), .long (Int32.toInt64 8)]) (rest := [.int 1, .ref mo]) B Y [] (by decide) rfl (k_in l D τ _ 3 0 8) q_1593 q_1594 q_12 q_1595 rfl rfl hd_X10_in ⟨(Nat.le_of_ble_eq_true rfl), (Nat.le_of_ble_eq_true rfl)⟩ rfl hl.1 rfl (Nat.le_of_ble_eq_true rfl) dX10_link_12 ⟨(Nat.le_of_ble_eq_true rfl), (Nat.le_of_ble_eq_true rfl)⟩) (fun r u H locs hw Y => ?_)
        have hw : r = 1 := hw.1 (by decide)
        subst hw
        have Y : Wd D τ s A s.heap [(mo, .inr (10, [.ref e0, .ref e1, .ref e2, .ref e3, .ref e4, .int 0, .int 0, .int 0, .ref e5, .int 0, .int 0, .int 0, .int 0, .int 0, .int 0, .int 0, .int (-1), .int 0, .int 0, .ref e6, .ref e7, .ref e8, .ref e9, .int 0, .ref e10, .ref e11, .int 0, .int 0, .ref e12, .int 0])), (e0, .inl (τ 0, 16816, .inl (S0)))] H _ := Y
        refine retI (wc := [(mo, .inr (10, [.ref e0, .ref e1, .ref e2, .ref e3, .ref e4, .int 0, .int 0, .int 0, .ref e5, .int 0, .int 0, .int 0, .int 0, .int 0, .int 0, .int 0, .int (-1), .int 0, .int 0, .ref e6, .ref e7, .ref e8, .ref e9, .int 0, .ref e10, .ref e11, .int 0, .int 0, .ref e12, .int 0]))]) (wr := [(e0, .inl (τ 0, 16816, .inl (S0)))]) Y [0] [1] rfl rfl (by decide) (by decide) (rV (As := [.int 1, .int 1]) (rest := []) (q0 := 0) B Y [0] (by decide) rfl (k_passesBoth11 l D τ _ mo e0 e1 e2 e3 e4 e5 e6 e7 e8 e9 e10 e11 e12 0 0 0 0 0 0 0 0 0 0 (-1) 0 0 0 0 0 0) rfl rfl q_1922 q_1924 qp_115 q_12 q_1925 rfl rfl hd_X10_passesBoth ⟨(Nat.le_of_ble_eq_true rfl), (Nat.le_of_ble_eq_true rfl)⟩ rfl hl.1 rfl (Nat.le_of_ble_eq_true rfl) dX10_link_15 ⟨(Nat.le_of_ble_eq_true rfl), (Nat.le_of_ble_eq_true rfl)⟩) (fun r u H locs hw Y => ?_)
        have hw : r = 1 := hw
        subst hw
        have Y : Wd D τ s A s.heap [(e0, .inl (τ 0, 16816, .inl (S0))), (mo, .inr (10, [.ref e0, .ref e1, .ref e2, .ref e3, .ref e4, .int 0, .int 0, .int 0, .ref e5, .int 0, .int 0, .int 0, .int 0, .int 0, .int 0, .int 0, .int (-1), .int 0, .int 0, .ref e6, .ref e7, .ref e8, .ref e9, .int 0, .ref e10, .ref e11, .int 0, .int 0, .ref e12, .int 0]))] H _ := Y
        refine lv_if_ne (tgt := 23) B.1 B.2.1 dX10_link_18 (by decide) (fun _ => ?_) (fun h => absurd h (by decide))
        refine lv_iload_n B.1 B.2.1 dX10_link_23 rfl (lv_at hl 2 rfl) ?_
        refine lv_iconst (v := 4) B.1 B.2.1 dX10_link_24 (by decide) ?_
        refine lv_icmp_ne (tgt := 36) B.1 B.2.1 dX10_link_25 (by decide) (fun _ => ?_) (fun h => absurd h (by decide))
        refine lv_aload_n B.1 B.2.1 dX10_link_36 rfl (lv_at hl 0 rfl) ?_
        refine lv_iload_n B.1 B.2.1 dX10_link_37 rfl (lv_at hl 1 rfl) ?_
        refine lv_iload_n B.1 B.2.1 dX10_link_38 rfl (lv_at hl 2 rfl) ?_
        refine lv_iconst (v := 4) B.1 B.2.1 dX10_link_39 (by decide) ?_
        refine lv_icmp_ge (tgt := 47) B.1 B.2.1 dX10_link_40 (by decide) (fun h => absurd h (by decide)) (fun _ => ?_)
        refine lv_iload_n B.1 B.2.1 dX10_link_43 rfl (lv_at hl 2 rfl) ?_
        refine lv_goto (tgt := 50) B.1 B.2.1 dX10_link_44 (by decide) ?_
        refine retI (wc := [(mo, .inr (10, [.ref e0, .ref e1, .ref e2, .ref e3, .ref e4, .int 0, .int 0, .int 0, .ref e5, .int 0, .int 0, .int 0, .int 0, .int 0, .int 0, .int 0, .int (-1), .int 0, .int 0, .ref e6, .ref e7, .ref e8, .ref e9, .int 0, .ref e10, .ref e11, .int 0, .int 0, .ref e12, .int 0])), (e0, .inl (τ 0, 16816, .inl (S0)))]) (wr := []) Y [1, 0] [] rfl rfl (by decide) (by decide) (rV (As := [.int 0, .int 3]) (rest := []) (q0 := 1) B Y [1, 0] (by decide) rfl (k_ofLinkR l D τ _ mo e0 e1 e2 e3 e4 e5 e6 e7 e8 e9 e10 e11 e12 0 0 0 0 0 0 0 0 0 0 (-1) 0 0 0 0 0 0 (S0) 0 3 27 (by decide) (by decide)) rfl rfl q_1674 q_1676 qp_61 q_12 q_1677 rfl rfl hd_X10_ofLink ⟨(Nat.le_of_ble_eq_true rfl), (Nat.le_of_ble_eq_true rfl)⟩ rfl hl.1 rfl (Nat.le_of_ble_eq_true rfl) dX10_link_50 ⟨(Nat.le_of_ble_eq_true rfl), (Nat.le_of_ble_eq_true rfl)⟩) (fun r u H locs hw Y => ?_)
        have hw : r = 0 := (hw : r = _).trans (rfl)
        subst hw
        have Y : Wd D τ s A s.heap [(mo, .inr (10, [.ref e0, .ref e1, .ref e2, .ref e3, .ref e4, .int 0, .int 0, .int 0, .ref e5, .int 0, .int 0, .int 0, .int 0, .int 0, .int 0, .int 0, .int (-1), .int 0, .int 0, .ref e6, .ref e7, .ref e8, .ref e9, .int 0, .ref e10, .ref e11, .int 0, .int 0, .ref e12, .int 0])), (e0, .inl (τ 0, 16816, .inl (S0)))] H _ := Y
        exact endI B hr hlk Y (lsI [0, 0, 0, 0, 0, 0, 0, 0, 0, 0, (-1), 0, 0, 0, 0, 0, 0]) ⟨fun _ n hn e => by obtain rfl := nIj (a := 3) (by decide) (by omega) e; exact ⟨rfl, rfl⟩, fun h => absurd rfl h, fun _ h => absurd h (by decide)⟩ [0] (by decide) rfl (Nat.le_of_ble_eq_true rfl) (Nat.le_of_ble_eq_true rfl) dX10_link_53
      · have hl : lv_has ls 3 [(0, .ref mo), (1, .int 0), (2, .int 4)] := hl
        refine lv_aload_n B.1 B.2.1 dX10_link_0 rfl (lv_at hl 0 rfl) ?_
        refine lv_aload_n B.1 B.2.1 dX10_link_1 rfl (lv_at hl 0 rfl) ?_
        refine lv_iload_n B.1 B.2.1 dX10_link_2 rfl (lv_at hl 1 rfl) ?_
        refine retI (wc := [(mo, .inr (10, [.ref e0, .ref e1, .ref e2, .ref e3, .ref e4, .int 0, .int 0, .int 0, .ref e5, .int 0, .int 0, .int 0, .int 0, .int 0, .int 0, .int 0, .int (-1), .int 0, .int 0, .ref e6, .ref e7, .ref e8, .ref e9, .int 0, .ref e10, .ref e11, .int 0, .int 0, .ref e12, .int 0])), (e0, .inl (τ 0, 16816, .inl (S0)))]) (wr := []) Y [0, 1] [] rfl rfl (by decide) (by decide) (rV (As := [.int 0]) (rest := [.ref mo]) (q0 := 0) B Y [0, 1] (by decide) rfl (k_isLink l D τ _ mo e0 e1 e2 e3 e4 e5 e6 e7 e8 e9 e10 e11 e12 0 0 0 0 0 0 0 0 0 0 (-1) 0 0 0 0 0 0 (S0) (rfl) 0) rfl rfl q_1900 q_1902 qp_112 q_12 q_1903 rfl rfl hd_X10_isLink ⟨(Nat.le_of_ble_eq_true rfl), (Nat.le_of_ble_eq_true rfl)⟩ rfl hl.1 rfl (Nat.le_of_ble_eq_true rfl) dX10_link_3 ⟨(Nat.le_of_ble_eq_true rfl), (Nat.le_of_ble_eq_true rfl)⟩) (fun r u H locs hw Y => ?_)
        have hw : r = 1 := hw.1 rfl
        subst hw
        have Y : Wd D τ s A s.heap [(mo, .inr (10, [.ref e0, .ref e1, .ref e2, .ref e3, .ref e4, .int 0, .int 0, .int 0, .ref e5, .int 0, .int 0, .int 0, .int 0, .int 0, .int 0, .int 0, .int (-1), .int 0, .int 0, .ref e6, .ref e7, .ref e8, .ref e9, .int 0, .ref e10, .ref e11, .int 0, .int 0, .ref e12, .int 0])), (e0, .inl (τ 0, 16816, .inl (S0)))] H _ := Y
        refine lv_iload_n B.1 B.2.1 dX10_link_6 rfl (lv_at hl 2 rfl) ?_
        refine lv_i2l B.1 B.2.1 dX10_link_7 rfl ?_
        refine lv_lconst (v := Int32.toInt64 0) B.1 B.2.1 dX10_link_8 (by decide) ?_
        refine lv_ldc2 B.1 B.2.1 B.2.2.2.1 (B.2.2.2.2 _ q_1921) dX10_link_9 ?_
        refine t_cvL (v := Int32.toInt64 8) (by decide) ?_
        refine retI (wc := []) (wr := [(mo, .inr (10, [.ref e0, .ref e1, .ref e2, .ref e3, .ref e4, .int 0, .int 0, .int 0, .ref e5, .int 0, .int 0, .int 0, .int 0, .int 0, .int 0, .int 0, .int (-1), .int 0, .int 0, .ref e6, .ref e7, .ref e8, .ref e9, .int 0, .ref e10, .ref e11, .int 0, .int 0, .ref e12, .int 0])), (e0, .inl (τ 0, 16816, .inl (S0)))]) Y [] [0, 1] rfl rfl (by decide) (by decide) (rS (As := [.long (Int32.toInt64 4), .long (Int32.toInt64 0), .long (Int32.toInt64 8)]) (rest := [.int 1, .ref mo]) B Y [] (by decide) rfl (k_in l D τ _ 4 0 8) q_1593 q_1594 q_12 q_1595 rfl rfl hd_X10_in ⟨(Nat.le_of_ble_eq_true rfl), (Nat.le_of_ble_eq_true rfl)⟩ rfl hl.1 rfl (Nat.le_of_ble_eq_true rfl) dX10_link_12 ⟨(Nat.le_of_ble_eq_true rfl), (Nat.le_of_ble_eq_true rfl)⟩) (fun r u H locs hw Y => ?_)
        have hw : r = 1 := hw.1 (by decide)
        subst hw
        have Y : Wd D τ s A s.heap [(mo, .inr (10, [.ref e0, .ref e1, .ref e2, .ref e3, .ref e4, .int 0, .int 0, .int 0, .ref e5, .int 0, .int 0, .int 0, .int 0, .int 0, .int 0, .int 0, .int (-1), .int 0, .int 0, .ref e6, .ref e7, .ref e8, .ref e9, .int 0, .ref e10, .ref e11, .int 0, .int 0, .ref e12, .int 0])), (e0, .inl (τ 0, 16816, .inl (S0)))] H _ := Y
        refine retI (wc := [(mo, .inr (10, [.ref e0, .ref e1, .ref e2, .ref e3, .ref e4, .int 0, .int 0, .int 0, .ref e5, .int 0, .int 0, .int 0, .int 0, .int 0, .int 0, .int 0, .int (-1), .int 0, .int 0, .ref e6, .ref e7, .ref e8, .ref e9, .int 0, .ref e10, .ref e11, .int 0, .int 0, .ref e12, .int 0]))]) (wr := [(e0, .inl (τ 0, 16816, .inl (S0)))]) Y [0] [1] rfl rfl (by decide) (by decide) (rV (As := [.int 1, .int 1]) (rest := []) (q0 := 0) B Y [0] (by decide) rfl (k_passesBoth11 l D τ _ mo e0 e1 e2 e3 e4 e5 e6 e7 e8 e9 e10 e11 e12 0 0 0 0 0 0 0 0 0 0 (-1) 0 0 0 0 0 0) rfl rfl q_1922 q_1924 qp_115 q_12 q_1925 rfl rfl hd_X10_passesBoth ⟨(Nat.le_of_ble_eq_true rfl), (Nat.le_of_ble_eq_true rfl)⟩ rfl hl.1 rfl (Nat.le_of_ble_eq_true rfl) dX10_link_15 ⟨(Nat.le_of_ble_eq_true rfl), (Nat.le_of_ble_eq_true rfl)⟩) (fun r u H locs hw Y => ?_)
        have hw : r = 1 := hw
        subst hw
        have Y : Wd D τ s A s.heap [(e0, .inl (τ 0, 16816, .inl (S0))), (mo, .inr (10, [.ref e0, .ref e1, .ref e2, .ref e3, .ref e4, .int 0, .int 0, .int 0, .ref e5, .int 0, .int 0, .int 0, .int 0, .int 0, .int 0, .int 0, .int (-1), .int 0, .int 0, .ref e6, .ref e7, .ref e8, .ref e9, .int 0, .ref e10, .ref e11, .int 0, .int 0, .ref e12, .int 0]))] H _ := Y
        refine lv_if_ne (tgt := 23) B.1 B.2.1 dX10_link_18 (by decide) (fun _ => ?_) (fun h => absurd h (by decide))
        refine lv_iload_n B.1 B.2.1 dX10_link_23 rfl (lv_at hl 2 rfl) ?_
        refine lv_iconst (v := 4) B.1 B.2.1 dX10_link_24 (by decide) ?_
        refine lv_icmp_ne (tgt := 36) B.1 B.2.1 dX10_link_25 (by decide) (fun h => absurd (by decide) h) (fun _ => ?_)
        refine lv_aload_n B.1 B.2.1 dX10_link_28 rfl (lv_at hl 0 rfl) ?_
        refine lv_iload_n B.1 B.2.1 dX10_link_29 rfl (lv_at hl 1 rfl) ?_
        refine retI (wc := [(mo, .inr (10, [.ref e0, .ref e1, .ref e2, .ref e3, .ref e4, .int 0, .int 0, .int 0, .ref e5, .int 0, .int 0, .int 0, .int 0, .int 0, .int 0, .int 0, .int (-1), .int 0, .int 0, .ref e6, .ref e7, .ref e8, .ref e9, .int 0, .ref e10, .ref e11, .int 0, .int 0, .ref e12, .int 0])), (e0, .inl (τ 0, 16816, .inl (S0)))]) (wr := []) Y [1, 0] [] rfl rfl (by decide) (by decide) (rV (As := [.int 0]) (rest := []) (q0 := 1) B Y [1, 0] (by decide) rfl (k_packetsOn l D τ _ mo e0 e1 e2 e3 e4 e5 e6 e7 e8 e9 e10 e11 e12 0 0 0 0 0 0 0 0 0 0 (-1) 0 0 0 0 0 0 (S0) (rfl) 0) rfl rfl q_1926 q_1928 qp_116 q_12 q_1929 rfl rfl hd_X10_packetsOn ⟨(Nat.le_of_ble_eq_true rfl), (Nat.le_of_ble_eq_true rfl)⟩ rfl hl.1 rfl (Nat.le_of_ble_eq_true rfl) dX10_link_30 ⟨(Nat.le_of_ble_eq_true rfl), (Nat.le_of_ble_eq_true rfl)⟩) (fun r u H locs hw Y => ?_)
        have hw : r = 0 := hw
        subst hw
        have Y : Wd D τ s A s.heap [(mo, .inr (10, [.ref e0, .ref e1, .ref e2, .ref e3, .ref e4, .int 0, .int 0, .int 0, .ref e5, .int 0, .int 0, .int 0, .int 0, .int 0, .int 0, .int 0, .int (-1), .int 0, .int 0, .ref e6, .ref e7, .ref e8, .ref e9, .int 0, .ref e10, .ref e11, .int 0, .int 0, .ref e12, .int 0])), (e0, .inl (τ 0, 16816, .inl (S0)))] H _ := Y
        refine lv_goto (tgt := 53) B.1 B.2.1 dX10_link_33 (by decide) ?_
        exact endI B hr hlk Y (lsI [0, 0, 0, 0, 0, 0, 0, 0, 0, 0, (-1), 0, 0, 0, 0, 0, 0]) ⟨fun _ n hn e => by obtain rfl := nIj (a := 4) (by decide) (by omega) e; exact ⟨rfl, rfl⟩, fun h => absurd rfl h, fun _ h => absurd h (by decide)⟩ [0] (by decide) rfl (Nat.le_of_ble_eq_true rfl) (Nat.le_of_ble_eq_true rfl) dX10_link_53
      · have hl : lv_has ls 3 [(0, .ref mo), (1, .int 0), (2, .int 5)] := hl
        refine lv_aload_n B.1 B.2.1 dX10_link_0 rfl (lv_at hl 0 rfl) ?_
        refine lv_aload_n B.1 B.2.1 dX10_link_1 rfl (lv_at hl 0 rfl) ?_
        refine lv_iload_n B.1 B.2.1 dX10_link_2 rfl (lv_at hl 1 rfl) ?_
        refine retI (wc := [(mo, .inr (10, [.ref e0, .ref e1, .ref e2, .ref e3, .ref e4, .int 0, .int 0, .int 0, .ref e5, .int 0, .int 0, .int 0, .int 0, .int 0, .int 0, .int 0, .int (-1), .int 0, .int 0, .ref e6, .ref e7, .ref e8, .ref e9, .int 0, .ref e10, .ref e11, .int 0, .int 0, .ref e12, .int 0])), (e0, .inl (τ 0, 16816, .inl (S0)))]) (wr := []) Y [0, 1] [] rfl rfl (by decide) (by decide) (rV (As := [.int 0]) (rest := [.ref mo]) (q0 := 0) B Y [0, 1] (by decide) rfl (k_isLink l D τ _ mo e0 e1 e2 e3 e4 e5 e6 e7 e8 e9 e10 e11 e12 0 0 0 0 0 0 0 0 0 0 (-1) 0 0 0 0 0 0 (S0) (rfl) 0) rfl rfl q_1900 q_1902 qp_112 q_12 q_1903 rfl rfl hd_X10_isLink ⟨(Nat.le_of_ble_eq_true rfl), (Nat.le_of_ble_eq_true rfl)⟩ rfl hl.1 rfl (Nat.le_of_ble_eq_true rfl) dX10_link_3 ⟨(Nat.le_of_ble_eq_true rfl), (Nat.le_of_ble_eq_true rfl)⟩) (fun r u H locs hw Y => ?_)
        have hw : r = 1 := hw.1 rfl
        subst hw
        have Y : Wd D τ s A s.heap [(mo, .inr (10, [.ref e0, .ref e1, .ref e2, .ref e3, .ref e4, .int 0, .int 0, .int 0, .ref e5, .int 0, .int 0, .int 0, .int 0, .int 0, .int 0, .int 0, .int (-1), .int 0, .int 0, .ref e6, .ref e7, .ref e8, .ref e9, .int 0, .ref e10, .ref e11, .int 0, .int 0, .ref e12, .int 0])), (e0, .inl (τ 0, 16816, .inl (S0)))] H _ := Y
        refine lv_iload_n B.1 B.2.1 dX10_link_6 rfl (lv_at hl 2 rfl) ?_
        refine lv_i2l B.1 B.2.1 dX10_link_7 rfl ?_
        refine lv_lconst (v := Int32.toInt64 0) B.1 B.2.1 dX10_link_8 (by decide) ?_
        refine lv_ldc2 B.1 B.2.1 B.2.2.2.1 (B.2.2.2.2 _ q_1921) dX10_link_9 ?_
        refine t_cvL (v := Int32.toInt64 8) (by decide) ?_
        refine retI (wc := []) (wr := [(mo, .inr (10, [.ref e0, .ref e1, .ref e2, .ref e3, .ref e4, .int 0, .int 0, .int 0, .ref e5, .int 0, .int 0, .int 0, .int 0, .int 0, .int 0, .int 0, .int (-1), .int 0, .int 0, .ref e6, .ref e7, .ref e8, .ref e9, .int 0, .ref e10, .ref e11, .int 0, .int 0, .ref e12, .int 0])), (e0, .inl (τ 0, 16816, .inl (S0)))]) Y [] [0, 1] rfl rfl (by decide) (by decide) (rS (As := [.long (Int32.toInt64 5), .long (Int32.toInt64 0), .long (Int32.toInt64 8)]) (rest := [.int 1, .ref mo]) B Y [] (by decide) rfl (k_in l D τ _ 5 0 8) q_1593 q_1594 q_12 q_1595 rfl rfl hd_X10_in ⟨(Nat.le_of_ble_eq_true rfl), (Nat.le_of_ble_eq_true rfl)⟩ rfl hl.1 rfl (Nat.le_of_ble_eq_true rfl) dX10_link_12 ⟨(Nat.le_of_ble_eq_true rfl), (Nat.le_of_ble_eq_true rfl)⟩) (fun r u H locs hw Y => ?_)
        have hw : r = 1 := hw.1 (by decide)
        subst hw
        have Y : Wd D τ s A s.heap [(mo, .inr (10, [.ref e0, .ref e1, .ref e2, .ref e3, .ref e4, .int 0, .int 0, .int 0, .ref e5, .int 0, .int 0, .int 0, .int 0, .int 0, .int 0, .int 0, .int (-1), .int 0, .int 0, .ref e6, .ref e7, .ref e8, .ref e9, .int 0, .ref e10, .ref e11, .int 0, .int 0, .ref e12, .int 0])), (e0, .inl (τ 0, 16816, .inl (S0)))] H _ := Y
        refine retI (wc := [(mo, .inr (10, [.ref e0, .ref e1, .ref e2, .ref e3, .ref e4, .int 0, .int 0, .int 0, .ref e5, .int 0, .int 0, .int 0, .int 0, .int 0, .int 0, .int 0, .int (-1), .int 0, .int 0, .ref e6, .ref e7, .ref e8, .ref e9, .int 0, .ref e10, .ref e11, .int 0, .int 0, .ref e12, .int 0]))]) (wr := [(e0, .inl (τ 0, 16816, .inl (S0)))]) Y [0] [1] rfl rfl (by decide) (by decide) (rV (As := [.int 1, .int 1]) (rest := []) (q0 := 0) B Y [0] (by decide) rfl (k_passesBoth11 l D τ _ mo e0 e1 e2 e3 e4 e5 e6 e7 e8 e9 e10 e11 e12 0 0 0 0 0 0 0 0 0 0 (-1) 0 0 0 0 0 0) rfl rfl q_1922 q_1924 qp_115 q_12 q_1925 rfl rfl hd_X10_passesBoth ⟨(Nat.le_of_ble_eq_true rfl), (Nat.le_of_ble_eq_true rfl)⟩ rfl hl.1 rfl (Nat.le_of_ble_eq_true rfl) dX10_link_15 ⟨(Nat.le_of_ble_eq_true rfl), (Nat.le_of_ble_eq_true rfl)⟩) (fun r u H locs hw Y => ?_)
        have hw : r = 1 := hw
        subst hw
        have Y : Wd D τ s A s.heap [(e0, .inl (τ 0, 16816, .inl (S0))), (mo, .inr (10, [.ref e0, .ref e1, .ref e2, .ref e3, .ref e4, .int 0, .int 0, .int 0, .ref e5, .int 0, .int 0, .int 0, .int 0, .int 0, .int 0, .int 0, .int (-1), .int 0, .int 0, .ref e6, .ref e7, .ref e8, .ref e9, .int 0, .ref e10, .ref e11, .int 0, .int 0, .ref e12, .int 0]))] H _ := Y
        refine lv_if_ne (tgt := 23) B.1 B.2.1 dX10_link_18 (by decide) (fun _ => ?_) (fun h => absurd h (by decide))
        refine lv_iload_n B.1 B.2.1 dX10_link_23 rfl (lv_at hl 2 rfl) ?_
        refine lv_iconst (v := 4) B.1 B.2.1 dX10_link_24 (by decide) ?_
        refine lv_icmp_ne (tgt := 36) B.1 B.2.1 dX10_link_25 (by decide) (fun _ => ?_) (fun h => absurd h (by decide))
        refine lv_aload_n B.1 B.2.1 dX10_link_36 rfl (lv_at hl 0 rfl) ?_
        refine lv_iload_n B.1 B.2.1 dX10_link_37 rfl (lv_at hl 1 rfl) ?_
        refine lv_iload_n B.1 B.2.1 dX10_link_38 rfl (lv_at hl 2 rfl) ?_
        refine lv_iconst (v := 4) B.1 B.2.1 dX10_link_39 (by decide) ?_
        refine lv_icmp_ge (tgt := 47) B.1 B.2.1 dX10_link_40 (by decide) (fun _ => ?_) (fun h => absurd (by decide) h)
        refine lv_iload_n B.1 B.2.1 dX10_link_47 rfl (lv_at hl 2 rfl) ?_
        refine lv_iconst (v := 1) B.1 B.2.1 dX10_link_48 (by decide) ?_
        refine lv_isub B.1 B.2.1 dX10_link_49 ?_
        refine lv_cv (v := 4) (by decide) ?_
        refine retI (wc := [(mo, .inr (10, [.ref e0, .ref e1, .ref e2, .ref e3, .ref e4, .int 0, .int 0, .int 0, .ref e5, .int 0, .int 0, .int 0, .int 0, .int 0, .int 0, .int 0, .int (-1), .int 0, .int 0, .ref e6, .ref e7, .ref e8, .ref e9, .int 0, .ref e10, .ref e11, .int 0, .int 0, .ref e12, .int 0])), (e0, .inl (τ 0, 16816, .inl (S0)))]) (wr := []) Y [1, 0] [] rfl rfl (by decide) (by decide) (rV (As := [.int 0, .int 4]) (rest := []) (q0 := 1) B Y [1, 0] (by decide) rfl (k_ofLinkR l D τ _ mo e0 e1 e2 e3 e4 e5 e6 e7 e8 e9 e10 e11 e12 0 0 0 0 0 0 0 0 0 0 (-1) 0 0 0 0 0 0 (S0) 0 4 28 (by decide) (by decide)) rfl rfl q_1674 q_1676 qp_61 q_12 q_1677 rfl rfl hd_X10_ofLink ⟨(Nat.le_of_ble_eq_true rfl), (Nat.le_of_ble_eq_true rfl)⟩ rfl hl.1 rfl (Nat.le_of_ble_eq_true rfl) dX10_link_50 ⟨(Nat.le_of_ble_eq_true rfl), (Nat.le_of_ble_eq_true rfl)⟩) (fun r u H locs hw Y => ?_)
        have hw : r = 0 := (hw : r = _).trans (rfl)
        subst hw
        have Y : Wd D τ s A s.heap [(mo, .inr (10, [.ref e0, .ref e1, .ref e2, .ref e3, .ref e4, .int 0, .int 0, .int 0, .ref e5, .int 0, .int 0, .int 0, .int 0, .int 0, .int 0, .int 0, .int (-1), .int 0, .int 0, .ref e6, .ref e7, .ref e8, .ref e9, .int 0, .ref e10, .ref e11, .int 0, .int 0, .ref e12, .int 0])), (e0, .inl (τ 0, 16816, .inl (S0)))] H _ := Y
        exact endI B hr hlk Y (lsI [0, 0, 0, 0, 0, 0, 0, 0, 0, 0, (-1), 0, 0, 0, 0, 0, 0]) ⟨fun _ n hn e => by obtain rfl := nIj (a := 5) (by decide) (by omega) e; exact ⟨rfl, rfl⟩, fun h => absurd rfl h, fun _ h => absurd h (by decide)⟩ [0] (by decide) rfl (Nat.le_of_ble_eq_true rfl) (Nat.le_of_ble_eq_true rfl) dX10_link_53
      · have hl : lv_has ls 3 [(0, .ref mo), (1, .int 0), (2, .int 6)] := hl
        refine lv_aload_n B.1 B.2.1 dX10_link_0 rfl (lv_at hl 0 rfl) ?_
        refine lv_aload_n B.1 B.2.1 dX10_link_1 rfl (lv_at hl 0 rfl) ?_
        refine lv_iload_n B.1 B.2.1 dX10_link_2 rfl (lv_at hl 1 rfl) ?_
        refine retI (wc := [(mo, .inr (10, [.ref e0, .ref e1, .ref e2, .ref e3, .ref e4, .int 0, .int 0, .int 0, .ref e5, .int 0, .int 0, .int 0, .int 0, .int 0, .int 0, .int 0, .int (-1), .int 0, .int 0, .ref e6, .ref e7, .ref e8, .ref e9, .int 0, .ref e10, .ref e11, .int 0, .int 0, .ref e12, .int 0])), (e0, .inl (τ 0, 16816, .inl (S0)))]) (wr := []) Y [0, 1] [] rfl rfl (by decide) (by decide) (rV (As := [.int 0]) (rest := [.ref mo]) (q0 := 0) B Y [0, 1] (by decide) rfl (k_isLink l D τ _ mo e0 e1 e2 e3 e4 e5 e6 e7 e8 e9 e10 e11 e12 0 0 0 0 0 0 0 0 0 0 (-1) 0 0 0 0 0 0 (S0) (rfl) 0) rfl rfl q_1900 q_1902 qp_112 q_12 q_1903 rfl rfl hd_X10_isLink ⟨(Nat.le_of_ble_eq_true rfl), (Nat.le_of_ble_eq_true rfl)⟩ rfl hl.1 rfl (Nat.le_of_ble_eq_true rfl) dX10_link_3 ⟨(Nat.le_of_ble_eq_true rfl), (Nat.le_of_ble_eq_true rfl)⟩) (fun r u H locs hw Y => ?_)
        have hw : r = 1 := hw.1 rfl
        subst hw
        have Y : Wd D τ s A s.heap [(mo, .inr (10, [.ref e0, .ref e1, .ref e2, .ref e3, .ref e4, .int 0, .int 0, .int 0, .ref e5, .int 0, .int 0, .int 0, .int 0, .int 0, .int 0, .int 0, .int (-1), .int 0, .int 0, .ref e6, .ref e7, .ref e8, .ref e9, .int 0, .ref e10, .ref e11, .int 0, .int 0, .ref e12, .int 0])), (e0, .inl (τ 0, 16816, .inl (S0)))] H _ := Y
        refine lv_iload_n B.1 B.2.1 dX10_link_6 rfl (lv_at hl 2 rfl) ?_
        refine lv_i2l B.1 B.2.1 dX10_link_7 rfl ?_
        refine lv_lconst (v := Int32.toInt64 0) B.1 B.2.1 dX10_link_8 (by decide) ?_
        refine lv_ldc2 B.1 B.2.1 B.2.2.2.1 (B.2.2.2.2 _ q_1921) dX10_link_9 ?_
        refine t_cvL (v := Int32.toInt64 8) (by decide) ?_
        refine retI (wc := []) (wr := [(mo, .inr (10, [.ref e0, .ref e1, .ref e2, .ref e3, .ref e4, .int 0, .int 0, .int 0, .ref e5, .int 0, .int 0, .int 0, .int 0, .int 0, .int 0, .int 0, .int (-1), .int 0, .int 0, .ref e6, .ref e7, .ref e8, .ref e9, .int 0, .ref e10, .ref e11, .int 0, .int 0, .ref e12, .int 0])), (e0, .inl (τ 0, 16816, .inl (S0)))]) Y [] [0, 1] rfl rfl (by decide) (by decide) (rS (As := [.long (Int32.toInt64 6), .long (Int32.toInt64 0), .long (Int32.toInt64 8)]) (rest := [.int 1, .ref mo]) B Y [] (by decide) rfl (k_in l D τ _ 6 0 8) q_1593 q_1594 q_12 q_1595 rfl rfl hd_X10_in ⟨(Nat.le_of_ble_eq_true rfl), (Nat.le_of_ble_eq_true rfl)⟩ rfl hl.1 rfl (Nat.le_of_ble_eq_true rfl) dX10_link_12 ⟨(Nat.le_of_ble_eq_true rfl), (Nat.le_of_ble_eq_true rfl)⟩) (fun r u H locs hw Y => ?_)
        have hw : r = 1 := hw.1 (by decide)
        subst hw
        have Y : Wd D τ s A s.heap [(mo, .inr (10, [.ref e0, .ref e1, .ref e2, .ref e3, .ref e4, .int 0, .int 0, .int 0, .ref e5, .int 0, .int 0, .int 0, .int 0, .int 0, .int 0, .int 0, .int (-1), .int 0, .int 0, .ref e6, .ref e7, .ref e8, .ref e9, .int 0, .ref e10, .ref e11, .int 0, .int 0, .ref e12, .int 0])), (e0, .inl (τ 0, 16816, .inl (S0)))] H _ := Y
        refine retI (wc := [(mo, .inr (10, [.ref e0, .ref e1, .ref e2, .ref e3, .ref e4, .int 0, .int 0, .int 0, .ref e5, .int 0, .int 0, .int 0, .int 0, .int 0, .int 0, .int 0, .int (-1), .int 0, .int 0, .ref e6, .ref e7, .ref e8, .ref e9, .int 0, .ref e10, .ref e11, .int 0, .int 0, .ref e12, .int 0]))]) (wr := [(e0, .inl (τ 0, 16816, .inl (S0)))]) Y [0] [1] rfl rfl (by decide) (by decide) (rV (As := [.int 1, .int 1]) (rest := []) (q0 := 0) B Y [0] (by decide) rfl (k_passesBoth11 l D τ _ mo e0 e1 e2 e3 e4 e5 e6 e7 e8 e9 e10 e11 e12 0 0 0 0 0 0 0 0 0 0 (-1) 0 0 0 0 0 0) rfl rfl q_1922 q_1924 qp_115 q_12 q_1925 rfl rfl hd_X10_passesBoth ⟨(Nat.le_of_ble_eq_true rfl), (Nat.le_of_ble_eq_true rfl)⟩ rfl hl.1 rfl (Nat.le_of_ble_eq_true rfl) dX10_link_15 ⟨(Nat.le_of_ble_eq_true rfl), (Nat.le_of_ble_eq_true rfl)⟩) (fun r u H locs hw Y => ?_)
        have hw : r = 1 := hw
        subst hw
        have Y : Wd D τ s A s.heap [(e0, .inl (τ 0, 16816, .inl (S0))), (mo, .inr (10, [.ref e0, .ref e1, .ref e2, .ref e3, .ref e4, .int 0, .int 0, .int 0, .ref e5, .int 0, .int 0, .int 0, .int 0, .int 0, .int 0, .int 0, .int (-1), .int 0, .int 0, .ref e6, .ref e7, .ref e8, .ref e9, .int 0, .ref e10, .ref e11, .int 0, .int 0, .ref e12, .int 0]))] H _ := Y
        refine lv_if_ne (tgt := 23) B.1 B.2.1 dX10_link_18 (by decide) (fun _ => ?_) (fun h => absurd h (by decide))
        refine lv_iload_n B.1 B.2.1 dX10_link_23 rfl (lv_at hl 2 rfl) ?_
        refine lv_iconst (v := 4) B.1 B.2.1 dX10_link_24 (by decide) ?_
        refine lv_icmp_ne (tgt := 36) B.1 B.2.1 dX10_link_25 (by decide) (fun _ => ?_) (fun h => absurd h (by decide))
        refine lv_aload_n B.1 B.2.1 dX10_link_36 rfl (lv_at hl 0 rfl) ?_
        refine lv_iload_n B.1 B.2.1 dX10_link_37 rfl (lv_at hl 1 rfl) ?_
        refine lv_iload_n B.1 B.2.1 dX10_link_38 rfl (lv_at hl 2 rfl) ?_
        refine lv_iconst (v := 4) B.1 B.2.1 dX10_link_39 (by decide) ?_
        refine lv_icmp_ge (tgt := 47) B.1 B.2.1 dX10_link_40 (by decide) (fun _ => ?_) (fun h => absurd (by decide) h)
        refine lv_iload_n B.1 B.2.1 dX10_link_47 rfl (lv_at hl 2 rfl) ?_
        refine lv_iconst (v := 1) B.1 B.2.1 dX10_link_48 (by decide) ?_
        refine lv_isub B.1 B.2.1 dX10_link_49 ?_
        refine lv_cv (v := 5) (by decide) ?_
        refine retI (wc := [(mo, .inr (10, [.ref e0, .ref e1, .ref e2, .ref e3, .ref e4, .int 0, .int 0, .int 0, .ref e5, .int 0, .int 0, .int 0, .int 0, .int 0, .int 0, .int 0, .int (-1), .int 0, .int 0, .ref e6, .ref e7, .ref e8, .ref e9, .int 0, .ref e10, .ref e11, .int 0, .int 0, .ref e12, .int 0])), (e0, .inl (τ 0, 16816, .inl (S0)))]) (wr := []) Y [1, 0] [] rfl rfl (by decide) (by decide) (rV (As := [.int 0, .int 5]) (rest := []) (q0 := 1) B Y [1, 0] (by decide) rfl (k_ofLinkR l D τ _ mo e0 e1 e2 e3 e4 e5 e6 e7 e8 e9 e10 e11 e12 0 0 0 0 0 0 0 0 0 0 (-1) 0 0 0 0 0 0 (S0) 0 5 29 (by decide) (by decide)) rfl rfl q_1674 q_1676 qp_61 q_12 q_1677 rfl rfl hd_X10_ofLink ⟨(Nat.le_of_ble_eq_true rfl), (Nat.le_of_ble_eq_true rfl)⟩ rfl hl.1 rfl (Nat.le_of_ble_eq_true rfl) dX10_link_50 ⟨(Nat.le_of_ble_eq_true rfl), (Nat.le_of_ble_eq_true rfl)⟩) (fun r u H locs hw Y => ?_)
        have hw : r = 0 := (hw : r = _).trans (rfl)
        subst hw
        have Y : Wd D τ s A s.heap [(mo, .inr (10, [.ref e0, .ref e1, .ref e2, .ref e3, .ref e4, .int 0, .int 0, .int 0, .ref e5, .int 0, .int 0, .int 0, .int 0, .int 0, .int 0, .int 0, .int (-1), .int 0, .int 0, .ref e6, .ref e7, .ref e8, .ref e9, .int 0, .ref e10, .ref e11, .int 0, .int 0, .ref e12, .int 0])), (e0, .inl (τ 0, 16816, .inl (S0)))] H _ := Y
        exact endI B hr hlk Y (lsI [0, 0, 0, 0, 0, 0, 0, 0, 0, 0, (-1), 0, 0, 0, 0, 0, 0]) ⟨fun _ n hn e => by obtain rfl := nIj (a := 6) (by decide) (by omega) e; exact ⟨rfl, rfl⟩, fun h => absurd rfl h, fun _ h => absurd h (by decide)⟩ [0] (by decide) rfl (Nat.le_of_ble_eq_true rfl) (Nat.le_of_ble_eq_true rfl) dX10_link_53
      · have hl : lv_has ls 3 [(0, .ref mo), (1, .int 0), (2, .int 7)] := hl
        refine lv_aload_n B.1 B.2.1 dX10_link_0 rfl (lv_at hl 0 rfl) ?_
        refine lv_aload_n B.1 B.2.1 dX10_link_1 rfl (lv_at hl 0 rfl) ?_
        refine lv_iload_n B.1 B.2.1 dX10_link_2 rfl (lv_at hl 1 rfl) ?_
        refine retI (wc := [(mo, .inr (10, [.ref e0, .ref e1, .ref e2, .ref e3, .ref e4, .int 0, .int 0, .int 0, .ref e5, .int 0, .int 0, .int 0, .int 0, .int 0, .int 0, .int 0, .int (-1), .int 0, .int 0, .ref e6, .ref e7, .ref e8, .ref e9, .int 0, .ref e10, .ref e11, .int 0, .int 0, .ref e12, .int 0])), (e0, .inl (τ 0, 16816, .inl (S0)))]) (wr := []) Y [0, 1] [] rfl rfl (by decide) (by decide) (rV (As := [.int 0]) (rest := [.ref mo]) (q0 := 0) B Y [0, 1] (by decide) rfl (k_isLink l D τ _ mo e0 e1 e2 e3 e4 e5 e6 e7 e8 e9 e10 e11 e12 0 0 0 0 0 0 0 0 0 0 (-1) 0 0 0 0 0 0 (S0) (rfl) 0) rfl rfl q_1900 q_1902 qp_112 q_12 q_1903 rfl rfl hd_X10_isLink ⟨(Nat.le_of_ble_eq_true rfl), (Nat.le_of_ble_eq_true rfl)⟩ rfl hl.1 rfl (Nat.le_of_ble_eq_true rfl) dX10_link_3 ⟨(Nat.le_of_ble_eq_true rfl), (Nat.le_of_ble_eq_true rfl)⟩) (fun r u H locs hw Y => ?_)
        have hw : r = 1 := hw.1 rfl
        subst hw
        have Y : Wd D τ s A s.heap [(mo, .inr (10, [.ref e0, .ref e1, .ref e2, .ref e3, .ref e4, .int 0, .int 0, .int 0, .ref e5, .int 0, .int 0, .int 0, .int 0, .int 0, .int 0, .int 0, .int (-1), .int 0, .int 0, .ref e6, .ref e7, .ref e8, .ref e9, .int 0, .ref e10, .ref e11, .int 0, .int 0, .ref e12, .int 0])), (e0, .inl (τ 0, 16816, .inl (S0)))] H _ := Y
        refine lv_iload_n B.1 B.2.1 dX10_link_6 rfl (lv_at hl 2 rfl) ?_
        refine lv_i2l B.1 B.2.1 dX10_link_7 rfl ?_
        refine lv_lconst (v := Int32.toInt64 0) B.1 B.2.1 dX10_link_8 (by decide) ?_
        refine lv_ldc2 B.1 B.2.1 B.2.2.2.1 (B.2.2.2.2 _ q_1921) dX10_link_9 ?_
        refine t_cvL (v := Int32.toInt64 8) (by decide) ?_
        refine retI (wc := []) (wr := [(mo, .inr (10, [.ref e0, .ref e1, .ref e2, .ref e3, .ref e4, .int 0, .int 0, .int 0, .ref e5, .int 0, .int 0, .int 0, .int 0, .int 0, .int 0, .int 0, .int (-1), .int 0, .int 0, .ref e6, .ref e7, .ref e8, .ref e9, .int 0, .ref e10, .ref e11, .int 0, .int 0, .ref e12, .int 0])), (e0, .inl (τ 0, 16816, .inl (S0)))]) Y [] [0, 1] rfl rfl (by decide) (by decide) (rS (As := [.long (Int32.toInt64 7), .long (Int32.toInt64 0), .long (Int32.toInt64 8)]) (rest := [.int 1, .ref mo]) B Y [] (by decide) rfl (k_in l D τ _ 7 0 8) q_1593 q_1594 q_12 q_1595 rfl rfl hd_X10_in ⟨(Nat.le_of_ble_eq_true rfl), (Nat.le_of_ble_eq_true rfl)⟩ rfl hl.1 rfl (Nat.le_of_ble_eq_true rfl) dX10_link_12 ⟨(Nat.le_of_ble_eq_true rfl), (Nat.le_of_ble_eq_true rfl)⟩) (fun r u H locs hw Y => ?_)
        have hw : r = 1 := hw.1 (by decide)
        subst hw
        have Y : Wd D τ s A s.heap [(mo, .inr (10, [.ref e0, .ref e1, .ref e2, .ref e3, .ref e4, .int 0, .int 0, .int 0, .ref e5, .int 0, .int 0, .int 0, .int 0, .int 0, .int 0, .int 0, .int (-1), .int 0, .int 0, .ref e6, .ref e7, .ref e8, .ref e9, .int 0, .ref e10, .ref e11, .int 0, .int 0, .ref e12, .int 0])), (e0, .inl (τ 0, 16816, .inl (S0)))] H _ := Y
        refine retI (wc := [(mo, .inr (10, [.ref e0, .ref e1, .ref e2, .ref e3, .ref e4, .int 0, .int 0, .int 0, .ref e5, .int 0, .int 0, .int 0, .int 0, .int 0, .int 0, .int 0, .int (-1), .int 0, .int 0, .ref e6, .ref e7, .ref e8, .ref e9, .int 0, .ref e10, .ref e11, .int 0, .int 0, .ref e12, .int 0]))]) (wr := [(e0, .inl (τ 0, 16816, .inl (S0)))]) Y [0] [1] rfl rfl (by decide) (by decide) (rV (As := [.int 1, .int 1]) (rest := []) (q0 := 0) B Y [0] (by decide) rfl (k_passesBoth11 l D τ _ mo e0 e1 e2 e3 e4 e5 e6 e7 e8 e9 e10 e11 e12 0 0 0 0 0 0 0 0 0 0 (-1) 0 0 0 0 0 0) rfl rfl q_1922 q_1924 qp_115 q_12 q_1925 rfl rfl hd_X10_passesBoth ⟨(Nat.le_of_ble_eq_true rfl), (Nat.le_of_ble_eq_true rfl)⟩ rfl hl.1 rfl (Nat.le_of_ble_eq_true rfl) dX10_link_15 ⟨(Nat.le_of_ble_eq_true rfl), (Nat.le_of_ble_eq_true rfl)⟩) (fun r u H locs hw Y => ?_)
        have hw : r = 1 := hw
        subst hw
        have Y : Wd D τ s A s.heap [(e0, .inl (τ 0, 16816, .inl (S0))), (mo, .inr (10, [.ref e0, .ref e1, .ref e2, .ref e3, .ref e4, .int 0, .int 0, .int 0, .ref e5, .int 0, .int 0, .int 0, .int 0, .int 0, .int 0, .int 0, .int (-1), .int 0, .int 0, .ref e6, .ref e7, .ref e8, .ref e9, .int 0, .ref e10, .ref e11, .int 0, .int 0, .ref e12, .int 0]))] H _ := Y
        refine lv_if_ne (tgt := 23) B.1 B.2.1 dX10_link_18 (by decide) (fun _ => ?_) (fun h => absurd h (by decide))
        refine lv_iload_n B.1 B.2.1 dX10_link_23 rfl (lv_at hl 2 rfl) ?_
        refine lv_iconst (v := 4) B.1 B.2.1 dX10_link_24 (by decide) ?_
        refine lv_icmp_ne (tgt := 36) B.1 B.2.1 dX10_link_25 (by decide) (fun _ => ?_) (fun h => absurd h (by decide))
        refine lv_aload_n B.1 B.2.1 dX10_link_36 rfl (lv_at hl 0 rfl) ?_
        refine lv_iload_n B.1 B.2.1 dX10_link_37 rfl (lv_at hl 1 rfl) ?_
        refine lv_iload_n B.1 B.2.1 dX10_link_38 rfl (lv_at hl 2 rfl) ?_
        refine lv_iconst (v := 4) B.1 B.2.1 dX10_link_39 (by decide) ?_
        refine lv_icmp_ge (tgt := 47) B.1 B.2.1 dX10_link_40 (by decide) (fun _ => ?_) (fun h => absurd (by decide) h)
        refine lv_iload_n B.1 B.2.1 dX10_link_47 rfl (lv_at hl 2 rfl) ?_
        refine lv_iconst (v := 1) B.1 B.2.1 dX10_link_48 (by decide) ?_
        refine lv_isub B.1 B.2.1 dX10_link_49 ?_
        refine lv_cv (v := 6) (by decide) ?_
        refine retI (wc := [(mo, .inr (10, [.ref e0, .ref e1, .ref e2, .ref e3, .ref e4, .int 0, .int 0, .int 0, .ref e5, .int 0, .int 0, .int 0, .int 0, .int 0, .int 0, .int 0, .int (-1), .int 0, .int 0, .ref e6, .ref e7, .ref e8, .ref e9, .int 0, .ref e10, .ref e11, .int 0, .int 0, .ref e12, .int 0])), (e0, .inl (τ 0, 16816, .inl (S0)))]) (wr := []) Y [1, 0] [] rfl rfl (by decide) (by decide) (rV (As := [.int 0, .int 6]) (rest := []) (q0 := 1) B Y [1, 0] (by decide) rfl (k_ofLinkR l D τ _ mo e0 e1 e2 e3 e4 e5 e6 e7 e8 e9 e10 e11 e12 0 0 0 0 0 0 0 0 0 0 (-1) 0 0 0 0 0 0 (S0) 0 6 30 (by decide) (by decide)) rfl rfl q_1674 q_1676 qp_61 q_12 q_1677 rfl rfl hd_X10_ofLink ⟨(Nat.le_of_ble_eq_true rfl), (Nat.le_of_ble_eq_true rfl)⟩ rfl hl.1 rfl (Nat.le_of_ble_eq_true rfl) dX10_link_50 ⟨(Nat.le_of_ble_eq_true rfl), (Nat.le_of_ble_eq_true rfl)⟩) (fun r u H locs hw Y => ?_)
        have hw : r = 0 := (hw : r = _).trans (rfl)
        subst hw
        have Y : Wd D τ s A s.heap [(mo, .inr (10, [.ref e0, .ref e1, .ref e2, .ref e3, .ref e4, .int 0, .int 0, .int 0, .ref e5, .int 0, .int 0, .int 0, .int 0, .int 0, .int 0, .int 0, .int (-1), .int 0, .int 0, .ref e6, .ref e7, .ref e8, .ref e9, .int 0, .ref e10, .ref e11, .int 0, .int 0, .ref e12, .int 0])), (e0, .inl (τ 0, 16816, .inl (S0)))] H _ := Y
        exact endI B hr hlk Y (lsI [0, 0, 0, 0, 0, 0, 0, 0, 0, 0, (-1), 0, 0, 0, 0, 0, 0]) ⟨fun _ n hn e => by obtain rfl := nIj (a := 7) (by decide) (by omega) e; exact ⟨rfl, rfl⟩, fun h => absurd rfl h, fun _ h => absurd h (by decide)⟩ [0] (by decide) rfl (Nat.le_of_ble_eq_true rfl) (Nat.le_of_ble_eq_true rfl) dX10_link_53
      · have hl : lv_has ls 3 [(0, .ref mo), (1, .int 0), (2, .int 8)] := hl
        refine lv_aload_n B.1 B.2.1 dX10_link_0 rfl (lv_at hl 0 rfl) ?_
        refine lv_aload_n B.1 B.2.1 dX10_link_1 rfl (lv_at hl 0 rfl) ?_
        refine lv_iload_n B.1 B.2.1 dX10_link_2 rfl (lv_at hl 1 rfl) ?_
        refine retI (wc := [(mo, .inr (10, [.ref e0, .ref e1, .ref e2, .ref e3, .ref e4, .int 0, .int 0, .int 0, .ref e5, .int 0, .int 0, .int 0, .int 0, .int 0, .int 0, .int 0, .int (-1), .int 0, .int 0, .ref e6, .ref e7, .ref e8, .ref e9, .int 0, .ref e10, .ref e11, .int 0, .int 0, .ref e12, .int 0])), (e0, .inl (τ 0, 16816, .inl (S0)))]) (wr := []) Y [0, 1] [] rfl rfl (by decide) (by decide) (rV (As := [.int 0]) (rest := [.ref mo]) (q0 := 0) B Y [0, 1] (by decide) rfl (k_isLink l D τ _ mo e0 e1 e2 e3 e4 e5 e6 e7 e8 e9 e10 e11 e12 0 0 0 0 0 0 0 0 0 0 (-1) 0 0 0 0 0 0 (S0) (rfl) 0) rfl rfl q_1900 q_1902 qp_112 q_12 q_1903 rfl rfl hd_X10_isLink ⟨(Nat.le_of_ble_eq_true rfl), (Nat.le_of_ble_eq_true rfl)⟩ rfl hl.1 rfl (Nat.le_of_ble_eq_true rfl) dX10_link_3 ⟨(Nat.le_of_ble_eq_true rfl), (Nat.le_of_ble_eq_true rfl)⟩) (fun r u H locs hw Y => ?_)
        have hw : r = 1 := hw.1 rfl
        subst hw
        have Y : Wd D τ s A s.heap [(mo, .inr (10, [.ref e0, .ref e1, .ref e2, .ref e3, .ref e4, .int 0, .int 0, .int 0, .ref e5, .int 0, .int 0, .int 0, .int 0, .int 0, .int 0, .int 0, .int (-1), .int 0, .int 0, .ref e6, .ref e7, .ref e8, .ref e9, .int 0, .ref e10, .ref e11, .int 0, .int 0, .ref e12, .int 0])), (e0, .inl (τ 0, 16816, .inl (S0)))] H _ := Y
        refine lv_iload_n B.1 B.2.1 dX10_link_6 rfl (lv_at hl 2 rfl) ?_
        refine lv_i2l B.1 B.2.1 dX10_link_7 rfl ?_
        refine lv_lconst (v := Int32.toInt64 0) B.1 B.2.1 dX10_link_8 (by decide) ?_
        refine lv_ldc2 B.1 B.2.1 B.2.2.2.1 (B.2.2.2.2 _ q_1921) dX10_link_9 ?_
        refine t_cvL (v := Int32.toInt64 8) (by decide) ?_
        refine retI (wc := []) (wr := [(mo, .inr (10, [.ref e0, .ref e1, .ref e2, .ref e3, .ref e4, .int 0, .int 0, .int 0, .ref e5, .int 0, .int 0, .int 0, .int 0, .int 0, .int 0, .int 0, .int (-1), .int 0, .int 0, .ref e6, .ref e7, .ref e8, .ref e9, .int 0, .ref e10, .ref e11, .int 0, .int 0, .ref e12, .int 0])), (e0, .inl (τ 0, 16816, .inl (S0)))]) Y [] [0, 1] rfl rfl (by decide) (by decide) (rS (As := [.long (Int32.toInt64 8), .long (Int32.toInt64 0), .long (Int32.toInt64 8)]) (rest := [.int 1, .ref mo]) B Y [] (by decide) rfl (k_in l D τ _ 8 0 8) q_1593 q_1594 q_12 q_1595 rfl rfl hd_X10_in ⟨(Nat.le_of_ble_eq_true rfl), (Nat.le_of_ble_eq_true rfl)⟩ rfl hl.1 rfl (Nat.le_of_ble_eq_true rfl) dX10_link_12 ⟨(Nat.le_of_ble_eq_true rfl), (Nat.le_of_ble_eq_true rfl)⟩) (fun r u H locs hw Y => ?_)
        have hw : r = 1 := hw.1 (by decide)
        subst hw
        have Y : Wd D τ s A s.heap [(mo, .inr (10, [.ref e0, .ref e1, .ref e2, .ref e3, .ref e4, .int 0, .int 0, .int 0, .ref e5, .int 0, .int 0, .int 0, .int 0, .int 0, .int 0, .int 0, .int (-1), .int 0, .int 0, .ref e6, .ref e7, .ref e8, .ref e9, .int 0, .ref e10, .ref e11, .int 0, .int 0, .ref e12, .int 0])), (e0, .inl (τ 0, 16816, .inl (S0)))] H _ := Y
        refine retI (wc := [(mo, .inr (10, [.ref e0, .ref e1, .ref e2, .ref e3, .ref e4, .int 0, .int 0, .int 0, .ref e5, .int 0, .int 0, .int 0, .int 0, .int 0, .int 0, .int 0, .int (-1), .int 0, .int 0, .ref e6, .ref e7, .ref e8, .ref e9, .int 0, .ref e10, .ref e11, .int 0, .int 0, .ref e12, .int 0]))]) (wr := [(e0, .inl (τ 0, 16816, .inl (S0)))]) Y [0] [1] rfl rfl (by decide) (by decide) (rV (As := [.int 1, .int 1]) (rest := []) (q0 := 0) B Y [0] (by decide) rfl (k_passesBoth11 l D τ _ mo e0 e1 e2 e3 e4 e5 e6 e7 e8 e9 e10 e11 e12 0 0 0 0 0 0 0 0 0 0 (-1) 0 0 0 0 0 0) rfl rfl q_1922 q_1924 qp_115 q_12 q_1925 rfl rfl hd_X10_passesBoth ⟨(Nat.le_of_ble_eq_true rfl), (Nat.le_of_ble_eq_true rfl)⟩ rfl hl.1 rfl (Nat.le_of_ble_eq_true rfl) dX10_link_15 ⟨(Nat.le_of_ble_eq_true rfl), (Nat.le_of_ble_eq_true rfl)⟩) (fun r u H locs hw Y => ?_)
        have hw : r = 1 := hw
        subst hw
        have Y : Wd D τ s A s.heap [(e0, .inl (τ 0, 16816, .inl (S0))), (mo, .inr (10, [.ref e0, .ref e1, .ref e2, .ref e3, .ref e4, .int 0, .int 0, .int 0, .ref e5, .int 0, .int 0, .int 0, .int 0, .int 0, .int 0, .int 0, .int (-1), .int 0, .int 0, .ref e6, .ref e7, .ref e8, .ref e9, .int 0, .ref e10, .ref e11, .int 0, .int 0, .ref e12, .int 0]))] H _ := Y
        refine lv_if_ne (tgt := 23) B.1 B.2.1 dX10_link_18 (by decide) (fun _ => ?_) (fun h => absurd h (by decide))
        refine lv_iload_n B.1 B.2.1 dX10_link_23 rfl (lv_at hl 2 rfl) ?_
        refine lv_iconst (v := 4) B.1 B.2.1 dX10_link_24 (by decide) ?_
        refine lv_icmp_ne (tgt := 36) B.1 B.2.1 dX10_link_25 (by decide) (fun _ => ?_) (fun h => absurd h (by decide))
        refine lv_aload_n B.1 B.2.1 dX10_link_36 rfl (lv_at hl 0 rfl) ?_
        refine lv_iload_n B.1 B.2.1 dX10_link_37 rfl (lv_at hl 1 rfl) ?_
        refine lv_iload_n B.1 B.2.1 dX10_link_38 rfl (lv_at hl 2 rfl) ?_
        refine lv_iconst (v := 4) B.1 B.2.1 dX10_link_39 (by decide) ?_
        refine lv_icmp_ge (tgt := 47) B.1 B.2.1 dX10_link_40 (by decide) (fun _ => ?_) (fun h => absurd (by decide) h)
        refine lv_iload_n B.1 B.2.1 dX10_link_47 rfl (lv_at hl 2 rfl) ?_
        refine lv_iconst (v := 1) B.1 B.2.1 dX10_link_48 (by decide) ?_
        refine lv_isub B.1 B.2.1 dX10_link_49 ?_
        refine lv_cv (v := 7) (by decide) ?_
        refine retI (wc := [(mo, .inr (10, [.ref e0, .ref e1, .ref e2, .ref e3, .ref e4, .int 0, .int 0, .int 0, .ref e5, .int 0, .int 0, .int 0, .int 0, .int 0, .int 0, .int 0, .int (-1), .int 0, .int 0, .ref e6, .ref e7, .ref e8, .ref e9, .int 0, .ref e10, .ref e11, .int 0, .int 0, .ref e12, .int 0])), (e0, .inl (τ 0, 16816, .inl (S0)))]) (wr := []) Y [1, 0] [] rfl rfl (by decide) (by decide) (rV (As := [.int 0, .int 7]) (rest := []) (q0 := 1) B Y [1, 0] (by decide) rfl (k_ofLinkR l D τ _ mo e0 e1 e2 e3 e4 e5 e6 e7 e8 e9 e10 e11 e12 0 0 0 0 0 0 0 0 0 0 (-1) 0 0 0 0 0 0 (S0) 0 7 31 (by decide) (by decide)) rfl rfl q_1674 q_1676 qp_61 q_12 q_1677 rfl rfl hd_X10_ofLink ⟨(Nat.le_of_ble_eq_true rfl), (Nat.le_of_ble_eq_true rfl)⟩ rfl hl.1 rfl (Nat.le_of_ble_eq_true rfl) dX10_link_50 ⟨(Nat.le_of_ble_eq_true rfl), (Nat.le_of_ble_eq_true rfl)⟩) (fun r u H locs hw Y => ?_)
        have hw : r = 0 := (hw : r = _).trans (rfl)
        subst hw
        have Y : Wd D τ s A s.heap [(mo, .inr (10, [.ref e0, .ref e1, .ref e2, .ref e3, .ref e4, .int 0, .int 0, .int 0, .ref e5, .int 0, .int 0, .int 0, .int 0, .int 0, .int 0, .int 0, .int (-1), .int 0, .int 0, .ref e6, .ref e7, .ref e8, .ref e9, .int 0, .ref e10, .ref e11, .int 0, .int 0, .ref e12, .int 0])), (e0, .inl (τ 0, 16816, .inl (S0)))] H _ := Y
        exact endI B hr hlk Y (lsI [0, 0, 0, 0, 0, 0, 0, 0, 0, 0, (-1), 0, 0, 0, 0, 0, 0]) ⟨fun _ n hn e => by obtain rfl := nIj (a := 8) (by decide) (by omega) e; exact ⟨rfl, rfl⟩, fun h => absurd rfl h, fun _ h => absurd h (by decide)⟩ [0] (by decide) rfl (Nat.le_of_ble_eq_true rfl) (Nat.le_of_ble_eq_true rfl) dX10_link_53
  · refine lv_aload_n B.1 B.2.1 dX10_link_0 rfl (lv_at hl 0 rfl) ?_
    refine lv_aload_n B.1 B.2.1 dX10_link_1 rfl (lv_at hl 0 rfl) ?_
    refine lv_iload_n B.1 B.2.1 dX10_link_2 rfl (lv_at hl 1 rfl) ?_
    refine retI (wc := [(mo, .inr (10, [.ref e0, .ref e1, .ref e2, .ref e3, .ref e4, .int 0, .int 0, .int 0, .ref e5, .int 0, .int 0, .int 0, .int 0, .int 0, .int 0, .int 0, .int (-1), .int 0, .int 0, .ref e6, .ref e7, .ref e8, .ref e9, .int 0, .ref e10, .ref e11, .int 0, .int 0, .ref e12, .int 0])), (e0, .inl (τ 0, 16816, .inl (S0)))]) (wr := []) Y [0, 1] [] rfl rfl (by decide) (by decide) (rV (As := [.int g]) (rest := [.ref mo]) (q0 := 0) B Y [0, 1] (by decide) rfl (k_isLink l D τ _ mo e0 e1 e2 e3 e4 e5 e6 e7 e8 e9 e10 e11 e12 0 0 0 0 0 0 0 0 0 0 (-1) 0 0 0 0 0 0 (S0) (rfl) g) rfl rfl q_1900 q_1902 qp_112 q_12 q_1903 rfl rfl hd_X10_isLink ⟨(Nat.le_of_ble_eq_true rfl), (Nat.le_of_ble_eq_true rfl)⟩ rfl hl.1 rfl (Nat.le_of_ble_eq_true rfl) dX10_link_3 ⟨(Nat.le_of_ble_eq_true rfl), (Nat.le_of_ble_eq_true rfl)⟩) (fun r u H locs hw Y => ?_)
    have hw : r = 0 := hw.2 hg
    subst hw
    have Y : Wd D τ s A s.heap [(mo, .inr (10, [.ref e0, .ref e1, .ref e2, .ref e3, .ref e4, .int 0, .int 0, .int 0, .ref e5, .int 0, .int 0, .int 0, .int 0, .int 0, .int 0, .int 0, .int (-1), .int 0, .int 0, .ref e6, .ref e7, .ref e8, .ref e9, .int 0, .ref e10, .ref e11, .int 0, .int 0, .ref e12, .int 0])), (e0, .inl (τ 0, 16816, .inl (S0)))] H _ := Y
    refine lv_iload_n B.1 B.2.1 dX10_link_6 rfl (lv_at hl 2 rfl) ?_
    refine lv_i2l B.1 B.2.1 dX10_link_7 rfl ?_
    refine lv_lconst (v := Int32.toInt64 0) B.1 B.2.1 dX10_link_8 (by decide) ?_
    refine lv_ldc2 B.1 B.2.1 B.2.2.2.1 (B.2.2.2.2 _ q_1921) dX10_link_9 ?_
    refine t_cvL (v := Int32.toInt64 8) (by decide) ?_
    refine retI (wc := []) (wr := [(mo, .inr (10, [.ref e0, .ref e1, .ref e2, .ref e3, .ref e4, .int 0, .int 0, .int 0, .ref e5, .int 0, .int 0, .int 0, .int 0, .int 0, .int 0, .int 0, .int (-1), .int 0, .int 0, .ref e6, .ref e7, .ref e8, .ref e9, .int 0, .ref e10, .ref e11, .int 0, .int 0, .ref e12, .int 0])), (e0, .inl (τ 0, 16816, .inl (S0)))]) Y [] [0, 1] rfl rfl (by decide) (by decide) (rS (As := [.long (Int32.toInt64 k), .long (Int32.toInt64 0), .long (Int32.toInt64 8)]) (rest := [.int 0, .ref mo]) B Y [] (by decide) rfl (k_in l D τ _ k 0 8) q_1593 q_1594 q_12 q_1595 rfl rfl hd_X10_in ⟨(Nat.le_of_ble_eq_true rfl), (Nat.le_of_ble_eq_true rfl)⟩ rfl hl.1 rfl (Nat.le_of_ble_eq_true rfl) dX10_link_12 ⟨(Nat.le_of_ble_eq_true rfl), (Nat.le_of_ble_eq_true rfl)⟩) (fun r u H locs hw Y => ?_)
    obtain ⟨yr1, rfl⟩ : ∃ z, z = r := ⟨_, rfl⟩
    have Y : Wd D τ s A s.heap [(mo, .inr (10, [.ref e0, .ref e1, .ref e2, .ref e3, .ref e4, .int 0, .int 0, .int 0, .ref e5, .int 0, .int 0, .int 0, .int 0, .int 0, .int 0, .int 0, .int (-1), .int 0, .int 0, .ref e6, .ref e7, .ref e8, .ref e9, .int 0, .ref e10, .ref e11, .int 0, .int 0, .ref e12, .int 0])), (e0, .inl (τ 0, 16816, .inl (S0)))] H _ := Y
    refine retI (wc := [(mo, .inr (10, [.ref e0, .ref e1, .ref e2, .ref e3, .ref e4, .int 0, .int 0, .int 0, .ref e5, .int 0, .int 0, .int 0, .int 0, .int 0, .int 0, .int 0, .int (-1), .int 0, .int 0, .ref e6, .ref e7, .ref e8, .ref e9, .int 0, .ref e10, .ref e11, .int 0, .int 0, .ref e12, .int 0]))]) (wr := [(e0, .inl (τ 0, 16816, .inl (S0)))]) Y [0] [1] rfl rfl (by decide) (by decide) (rV (As := [.int 0, .int yr1]) (rest := []) (q0 := 0) B Y [0] (by decide) rfl (k_passesBoth0 l D τ _ mo e0 e1 e2 e3 e4 e5 e6 e7 e8 e9 e10 e11 e12 0 0 0 0 0 0 0 0 0 0 (-1) 0 0 0 0 0 0 yr1) rfl rfl q_1922 q_1924 qp_115 q_12 q_1925 rfl rfl hd_X10_passesBoth ⟨(Nat.le_of_ble_eq_true rfl), (Nat.le_of_ble_eq_true rfl)⟩ rfl hl.1 rfl (Nat.le_of_ble_eq_true rfl) dX10_link_15 ⟨(Nat.le_of_ble_eq_true rfl), (Nat.le_of_ble_eq_true rfl)⟩) (fun r u H locs hw Y => ?_)
    have hw : r = 0 := hw
    subst hw
    have Y : Wd D τ s A s.heap [(e0, .inl (τ 0, 16816, .inl (S0))), (mo, .inr (10, [.ref e0, .ref e1, .ref e2, .ref e3, .ref e4, .int 0, .int 1, .int 0, .ref e5, .int 0, .int 0, .int 0, .int 0, .int 0, .int 0, .int 0, .int (-1), .int 0, .int 0, .ref e6, .ref e7, .ref e8, .ref e9, .int 0, .ref e10, .ref e11, .int 0, .int 0, .ref e12, .int 0]))] H _ := Y
    refine lv_if_ne (tgt := 23) B.1 B.2.1 dX10_link_18 (by decide) (fun h => absurd (by decide) h) (fun _ => ?_)
    refine lv_iconst (v := 0) B.1 B.2.1 dX10_link_21 (by decide) ?_
    exact endI B hr hlk Y (lsI [0, 1, 0, 0, 0, 0, 0, 0, 0, 0, (-1), 0, 0, 0, 0, 0, 0]) ⟨fun h => absurd h hg, fun _ => rfl, fun h => absurd h hg⟩ [1] (by decide) rfl (Nat.le_of_ble_eq_true rfl) (Nat.le_of_ble_eq_true rfl) dX10_link_22

set_option maxHeartbeats 4000000 in
set_option maxRecDepth 100000 in
theorem k_roomOf (l : Launch) (D : va_G) (τ : Nat → ClassId) (sz : Nat) : Met l yX10_roomOf (Cond.code yX10_roomOf cX10_roomOf 1 (some .int) :: wALL) { frames := 0, cells := 0, slots := 0, locals := 0 } (Pw D τ [] sz [.int 576]) (va_Qi (fun (r : Int32) (_ : Unit) => r = 552) (Bw D (va_A [] sz) (fun (_ : Unit) => [])) (va_A [] sz)) 0 0 (va_A [] sz) := by
  refine bodyW (by decide) (Nat.le_of_ble_eq_true rfl) (fun p e s m below meth c ls B hr hlk hin hsz Y hl => ?_)
  have hl : lv_has ls 1 [(0, .int 576)] := hl
  have B : CallFix p m c cX10_roomOf 1 s _ wALL RX10 := B
  generalize va_A [] sz = A at Y ⊢
  refine lv_iload_n B.1 B.2.1 dX10_roomOf_0 rfl (lv_at hl 0 rfl) ?_
  refine lv_bipush (v := 20) B.1 B.2.1 dX10_roomOf_1 (by decide) ?_
  refine lv_isub B.1 B.2.1 dX10_roomOf_3 ?_
  refine lv_cv (v := 556) (by decide) ?_
  refine lv_bipush (v := 8) B.1 B.2.1 dX10_roomOf_4 (by decide) ?_
  refine lv_idiv B.1 B.2.1 dX10_roomOf_6 (by decide) ?_
  refine lv_cv (v := 69) (by decide) ?_
  refine lv_bipush (v := 8) B.1 B.2.1 dX10_roomOf_7 (by decide) ?_
  refine lv_imul B.1 B.2.1 dX10_roomOf_9 ?_
  refine lv_cv (v := 552) (by decide) ?_
  exact endI B hr hlk Y () rfl [] (by decide) rfl (Nat.le_of_ble_eq_true rfl) (Nat.le_of_ble_eq_true rfl) dX10_roomOf_10

set_option maxHeartbeats 4000000 in
set_option maxRecDepth 100000 in
theorem k_crosses (l : Launch) (D : va_G) (τ : Nat → ClassId) (sz : Nat) (mo e0 e1 e2 e3 e4 e5 e6 e7 e8 e9 e10 e11 e12 : Nat) (i0 i1 i2 i3 i4 i5 i6 i7 i8 i9 i10 i11 i12 i13 i16 : Int32) (x14 : Int32) (f : Nat → Int32) (h24 : f 24 = 576) (g9 hs : Nat → Int32) (b : Nat) (hs0 : hs 0 = nI b) (hb : b ≤ 1000) : Met l yX10_crosses (Cond.code yX10_crosses cX10_crosses 5 none :: wALL) { frames := 1, cells := 0, slots := 0, locals := 22 } (Pw D τ [(mo, .inr (10, [.ref e0, .ref e1, .ref e2, .ref e3, .ref e4, .int i0, .int i1, .int i2, .ref e5, .int i3, .int i4, .int i5, .int i6, .int i7, .int i8, .int i9, .int i10, .int i11, .int i12, .ref e6, .ref e7, .ref e8, .ref e9, .int i13, .ref e10, .ref e11, .int x14, .int 1, .ref e12, .int i16])), (e0, .inl (τ 0, 16816, .inl (f))), (e10, .inl (τ 0, 200, .inl (g9))), (e11, .inl (τ 0, 200, .inl (hs)))] sz [.ref mo, .int 0]) (va_Qv (fun (q : (Nat → Int32) × (Nat → Int32)) => True) (Bw D (va_A [(mo, .inr (10, [.ref e0, .ref e1, .ref e2, .ref e3, .ref e4, .int i0, .int i1, .int i2, .ref e5, .int i3, .int i4, .int i5, .int i6, .int i7, .int i8, .int i9, .int i10, .int i11, .int i12, .ref e6, .ref e7, .ref e8, .ref e9, .int i13, .ref e10, .ref e11, .int x14, .int 1, .ref e12, .int i16])), (e0, .inl (τ 0, 16816, .inl (f))), (e10, .inl (τ 0, 200, .inl (g9))), (e11, .inl (τ 0, 200, .inl (hs)))] sz) (fun (q : (Nat → Int32) × (Nat → Int32)) => [(mo, .inr (10, [.ref e0, .ref e1, .ref e2, .ref e3, .ref e4, .int i0, .int i1, .int i2, .ref e5, .int i3, .int i4, .int i5, .int i6, .int i7, .int i8, .int i9, .int i10, .int i11, .int i12, .ref e6, .ref e7, .ref e8, .ref e9, .int i13, .ref e10, .ref e11, .int 1, .int (nI (cutN b + 1)), .ref e12, .int i16])), (e0, .inl (τ 0, 16816, .inl (f))), (e10, .inl (τ 0, 200, .inl (q.1))), (e11, .inl (τ 0, 200, .inl (q.2)))])) (va_A [(mo, .inr (10, [.ref e0, .ref e1, .ref e2, .ref e3, .ref e4, .int i0, .int i1, .int i2, .ref e5, .int i3, .int i4, .int i5, .int i6, .int i7, .int i8, .int i9, .int i10, .int i11, .int i12, .ref e6, .ref e7, .ref e8, .ref e9, .int i13, .ref e10, .ref e11, .int x14, .int 1, .ref e12, .int i16])), (e0, .inl (τ 0, 16816, .inl (f))), (e10, .inl (τ 0, 200, .inl (g9))), (e11, .inl (τ 0, 200, .inl (hs)))] sz)) 0 0 (va_A [(mo, .inr (10, [.ref e0, .ref e1, .ref e2, .ref e3, .ref e4, .int i0, .int i1, .int i2, .ref e5, .int i3, .int i4, .int i5, .int i6, .int i7, .int i8, .int i9, .int i10, .int i11, .int i12, .ref e6, .ref e7, .ref e8, .ref e9, .int i13, .ref e10, .ref e11, .int x14, .int 1, .ref e12, .int i16])), (e0, .inl (τ 0, 16816, .inl (f))), (e10, .inl (τ 0, 200, .inl (g9))), (e11, .inl (τ 0, 200, .inl (hs)))] sz) := by
  refine bodyW (by decide) (Nat.le_of_ble_eq_true rfl) (fun p e s m below meth c ls B hr hlk hin hsz Y hl => ?_)
  have hl : lv_has ls 5 [(0, .ref mo), (1, .int 0)] := hl
  have B : CallFix p m c cX10_crosses 5 s _ wALL RX10 := B
  generalize va_A [(mo, .inr (10, [.ref e0, .ref e1, .ref e2, .ref e3, .ref e4, .int i0, .int i1, .int i2, .ref e5, .int i3, .int i4, .int i5, .int i6, .int i7, .int i8, .int i9, .int i10, .int i11, .int i12, .ref e6, .ref e7, .ref e8, .ref e9, .int i13, .ref e10, .ref e11, .int x14, .int 1, .ref e12, .int i16])), (e0, .inl (τ 0, 16816, .inl (f))), (e10, .inl (τ 0, 200, .inl (g9))), (e11, .inl (τ 0, 200, .inl (hs)))] sz = A at Y ⊢
  by_cases hq : b ≤ 556
  · skip
    refine lv_aload_n B.1 B.2.1 dX10_crosses_0 rfl (lv_at hl 0 rfl) ?_
    refine lv_iload_n B.1 B.2.1 dX10_crosses_1 rfl (lv_at hl 1 rfl) ?_
    refine lv_iconst (v := 0) B.1 B.2.1 dX10_crosses_2 (by decide) ?_
    refine retI (wc := [(mo, .inr (10, [.ref e0, .ref e1, .ref e2, .ref e3, .ref e4, .int i0, .int i1, .int i2, .ref e5, .int i3, .int i4, .int i5, .int i6, .int i7, .int i8, .int i9, .int i10, .int i11, .int i12, .ref e6, .ref e7, .ref e8, .ref e9, .int i13, .ref e10, .ref e11, .int x14, .int 1, .ref e12, .int i16])), (e0, .inl (τ 0, 16816, .inl (f)))]) (wr := [(e10, .inl (τ 0, 200, .inl (g9))), (e11, .inl (τ 0, 200, .inl (hs)))]) Y [0, 1] [2, 3] rfl rfl (by decide) (by decide) (rV (As := [.int 0, .int 0]) (rest := []) (q0 := 0) B Y [0, 1] (by decide) rfl (k_ofLinkR l D τ _ mo e0 e1 e2 e3 e4 e5 e6 e7 e8 e9 e10 e11 e12 i0 i1 i2 i3 i4 i5 i6 i7 i8 i9 i10 i11 i12 i13 x14 1 i16 (f) 0 0 24 (by decide) (by decide)) rfl rfl q_1674 q_1676 qp_61 q_12 q_1677 rfl rfl hd_X10_ofLink ⟨(Nat.le_of_ble_eq_true rfl), (Nat.le_of_ble_eq_true rfl)⟩ rfl hl.1 rfl (Nat.le_of_ble_eq_true rfl) dX10_crosses_3 ⟨(Nat.le_of_ble_eq_true rfl), (Nat.le_of_ble_eq_true rfl)⟩) (fun r u H locs hw Y => ?_)
    have hw : r = 576 := (hw : r = _).trans (h24)
    subst hw
    have Y : Wd D τ s A s.heap [(e10, .inl (τ 0, 200, .inl (g9))), (e11, .inl (τ 0, 200, .inl (hs))), (mo, .inr (10, [.ref e0, .ref e1, .ref e2, .ref e3, .ref e4, .int i0, .int i1, .int i2, .ref e5, .int i3, .int i4, .int i5, .int i6, .int i7, .int i8, .int i9, .int i10, .int i11, .int i12, .ref e6, .ref e7, .ref e8, .ref e9, .int i13, .ref e10, .ref e11, .int x14, .int 1, .ref e12, .int i16])), (e0, .inl (τ 0, 16816, .inl (f)))] H _ := Y
    refine lv_istore_n (lv' := [(2, .int 576), (0, .ref mo), (1, .int 0)]) B.1 B.2.1 dX10_crosses_6 rfl hl (by decide) rfl (fun ls hl => ?_)
    refine lv_aload_n B.1 B.2.1 dX10_crosses_7 rfl (lv_at hl 1 rfl) ?_
    refine lv_aload_n B.1 B.2.1 dX10_crosses_8 rfl (lv_at hl 1 rfl) ?_
    refine gf_X10_426 B Y 2 rfl rfl dX10_crosses_9 ?_
    refine pf_X10_429 (ws' := [(e10, .inl (τ 0, 200, .inl (g9))), (e11, .inl (τ 0, 200, .inl (hs))), (mo, .inr (10, [.ref e0, .ref e1, .ref e2, .ref e3, .ref e4, .int i0, .int i1, .int i2, .ref e5, .int i3, .int i4, .int i5, .int i6, .int i7, .int i8, .int i9, .int i10, .int i11, .int i12, .ref e6, .ref e7, .ref e8, .ref e9, .int i13, .ref e10, .ref e11, .int 1, .int 1, .ref e12, .int i16])), (e0, .inl (τ 0, 16816, .inl (f)))]) B Y 2 rfl (Nat.le_of_ble_eq_true rfl) rfl dX10_crosses_12 (fun H locs Y => ?_)
    refine lv_iconst (v := 0) B.1 B.2.1 dX10_crosses_15 (by decide) ?_
    refine lv_istore_n (lv' := [(3, .int 0), (2, .int 576), (0, .ref mo), (1, .int 0)]) B.1 B.2.1 dX10_crosses_16 rfl hl (by decide) rfl (fun ls hl => ?_)
    refine lv_iload_n B.1 B.2.1 dX10_crosses_17 rfl (lv_at hl 0 rfl) ?_
    refine lv_aload_n B.1 B.2.1 dX10_crosses_18 rfl (lv_at hl 2 rfl) ?_
    refine gf_X10_429 B Y 2 rfl rfl dX10_crosses_19 ?_
    refine lv_icmp_ge (tgt := 43) B.1 B.2.1 dX10_crosses_22 (by decide) (fun h => absurd h (by decide)) (fun _ => ?_)
    refine lv_aload_n B.1 B.2.1 dX10_crosses_25 rfl (lv_at hl 2 rfl) ?_
    refine gf_X10_46 B Y 2 rfl rfl dX10_crosses_26 ?_
    refine lv_iload_n B.1 B.2.1 dX10_crosses_29 rfl (lv_at hl 0 rfl) ?_
    refine lv_aload_n B.1 B.2.1 dX10_crosses_30 rfl (lv_at hl 2 rfl) ?_
    refine gf_X10_49 B Y 2 rfl rfl dX10_crosses_31 ?_
    refine lv_iload_n B.1 B.2.1 dX10_crosses_34 rfl (lv_at hl 0 rfl) ?_
    refine t_iald (v := (nI b)) (j := 0) B Y 1 rfl (by decide) (by decide) (Nat.le_of_ble_eq_true rfl) hs0 dX10_crosses_35 ?_
    refine t_iast (j := 0) (g := upd (g9) 0 (nI b)) (ws' := [(e10, .inl (τ 0, 200, .inl (upd (g9) 0 (nI b)))), (e11, .inl (τ 0, 200, .inl (hs))), (mo, .inr (10, [.ref e0, .ref e1, .ref e2, .ref e3, .ref e4, .int i0, .int i1, .int i2, .ref e5, .int i3, .int i4, .int i5, .int i6, .int i7, .int i8, .int i9, .int i10, .int i11, .int i12, .ref e6, .ref e7, .ref e8, .ref e9, .int i13, .ref e10, .ref e11, .int 1, .int 1, .ref e12, .int i16])), (e0, .inl (τ 0, 16816, .inl (f)))]) B Y 0 rfl (by decide) (by decide) (Nat.le_of_ble_eq_true rfl) rfl rfl dX10_crosses_36 (fun H locs Y => ?_)
    refine lv_iinc (v := 1) (lv' := [(3, .int 1), (2, .int 576), (0, .ref mo), (1, .int 0)]) B.1 B.2.1 dX10_crosses_37 hl (k := 0) rfl (by decide) (by decide) rfl (fun ls hl => ?_)
    refine lv_goto (tgt := 17) B.1 B.2.1 dX10_crosses_40 (by decide) ?_
    refine lv_iload_n B.1 B.2.1 dX10_crosses_17 rfl (lv_at hl 0 rfl) ?_
    refine lv_aload_n B.1 B.2.1 dX10_crosses_18 rfl (lv_at hl 2 rfl) ?_
    refine gf_X10_429 B Y 2 rfl rfl dX10_crosses_19 ?_
    refine lv_icmp_ge (tgt := 43) B.1 B.2.1 dX10_crosses_22 (by decide) (fun _ => ?_) (fun h => absurd (by decide) h)
    refine lv_aload_n B.1 B.2.1 dX10_crosses_43 rfl (lv_at hl 2 rfl) ?_
    refine lv_iconst (v := 0) B.1 B.2.1 dX10_crosses_44 (by decide) ?_
    refine pf_X10_426 (ws' := [(e10, .inl (τ 0, 200, .inl (upd (g9) 0 (nI b)))), (e11, .inl (τ 0, 200, .inl (hs))), (mo, .inr (10, [.ref e0, .ref e1, .ref e2, .ref e3, .ref e4, .int i0, .int i1, .int i2, .ref e5, .int i3, .int i4, .int i5, .int i6, .int i7, .int i8, .int i9, .int i10, .int i11, .int i12, .ref e6, .ref e7, .ref e8, .ref e9, .int i13, .ref e10, .ref e11, .int 1, .int 0, .ref e12, .int i16])), (e0, .inl (τ 0, 16816, .inl (f)))]) B Y 2 rfl (Nat.le_of_ble_eq_true rfl) rfl dX10_crosses_45 (fun H locs Y => ?_)
    refine lv_iconst (v := 0) B.1 B.2.1 dX10_crosses_48 (by decide) ?_
    refine lv_istore_n (lv' := [(3, .int 0), (2, .int 576), (0, .ref mo), (1, .int 0)]) B.1 B.2.1 dX10_crosses_49 rfl hl (by decide) rfl (fun ls hl => ?_)
    refine lv_iload_n B.1 B.2.1 dX10_crosses_50 rfl (lv_at hl 0 rfl) ?_
    refine lv_aload_n B.1 B.2.1 dX10_crosses_51 rfl (lv_at hl 2 rfl) ?_
    refine gf_X10_429 B Y 2 rfl rfl dX10_crosses_52 ?_
    refine lv_icmp_ge (tgt := 137) B.1 B.2.1 dX10_crosses_55 (by decide) (fun h => absurd h (by decide)) (fun _ => ?_)
    refine lv_aload_n B.1 B.2.1 dX10_crosses_58 rfl (lv_at hl 2 rfl) ?_
    refine gf_X10_46 B Y 2 rfl rfl dX10_crosses_59 ?_
    refine lv_iload_n B.1 B.2.1 dX10_crosses_62 rfl (lv_at hl 0 rfl) ?_
    refine t_iald (v := (nI b)) (j := 0) B Y 0 rfl (by decide) (by decide) (Nat.le_of_ble_eq_true rfl) rfl dX10_crosses_63 ?_
    refine lv_istore (lv' := [(4, .int (nI b)), (3, .int 0), (2, .int 576), (0, .ref mo), (1, .int 0)]) B.1 B.2.1 dX10_crosses_64 hl (by decide) rfl (fun ls hl => ?_)
    refine lv_iload B.1 B.2.1 dX10_crosses_66 (lv_at hl 0 rfl) ?_
    refine lv_iload_n B.1 B.2.1 dX10_crosses_68 rfl (lv_at hl 2 rfl) ?_
    refine lv_bipush (v := 20) B.1 B.2.1 dX10_crosses_69 (by decide) ?_
    refine lv_isub B.1 B.2.1 dX10_crosses_71 ?_
    refine lv_cv (v := 556) (by decide) ?_
    refine lv_icmp_le (tgt := 110) B.1 B.2.1 dX10_crosses_72 (by decide) (fun _ => ?_) (fun h => absurd (nI_le (b := 556) (by omega) (by decide)) h)
    refine lv_aload_n B.1 B.2.1 dX10_crosses_110 rfl (lv_at hl 3 rfl) ?_
    refine gf_X10_49 B Y 2 rfl rfl dX10_crosses_111 ?_
    refine lv_aload_n B.1 B.2.1 dX10_crosses_114 rfl (lv_at hl 3 rfl) ?_
    refine gf_X10_426 B Y 2 rfl rfl dX10_crosses_115 ?_
    refine lv_iload B.1 B.2.1 dX10_crosses_118 (lv_at hl 0 rfl) ?_
    refine t_iast (j := 0) (g := upd (hs) 0 (nI b)) (ws' := [(e10, .inl (τ 0, 200, .inl (upd (g9) 0 (nI b)))), (e11, .inl (τ 0, 200, .inl (upd (hs) 0 (nI b)))), (mo, .inr (10, [.ref e0, .ref e1, .ref e2, .ref e3, .ref e4, .int i0, .int i1, .int i2, .ref e5, .int i3, .int i4, .int i5, .int i6, .int i7, .int i8, .int i9, .int i10, .int i11, .int i12, .ref e6, .ref e7, .ref e8, .ref e9, .int i13, .ref e10, .ref e11, .int 1, .int 0, .ref e12, .int i16])), (e0, .inl (τ 0, 16816, .inl (f)))]) B Y 1 rfl (by decide) (by decide) (Nat.le_of_ble_eq_true rfl) rfl rfl dX10_crosses_120 (fun H locs Y => ?_)
    refine lv_aload_n B.1 B.2.1 dX10_crosses_121 rfl (lv_at hl 3 rfl) ?_
    refine lv_dup B.1 B.2.1 dX10_crosses_122 rfl ?_
    refine gf_X10_426 B Y 2 rfl rfl dX10_crosses_123 ?_
    refine lv_iconst (v := 1) B.1 B.2.1 dX10_crosses_126 (by decide) ?_
    refine lv_iadd B.1 B.2.1 dX10_crosses_127 ?_
    refine lv_cv (v := 1) (by decide) ?_
    refine pf_X10_426 (ws' := [(e10, .inl (τ 0, 200, .inl (upd (g9) 0 (nI b)))), (e11, .inl (τ 0, 200, .inl (upd (hs) 0 (nI b)))), (mo, .inr (10, [.ref e0, .ref e1, .ref e2, .ref e3, .ref e4, .int i0, .int i1, .int i2, .ref e5, .int i3, .int i4, .int i5, .int i6, .int i7, .int i8, .int i9, .int i10, .int i11, .int i12, .ref e6, .ref e7, .ref e8, .ref e9, .int i13, .ref e10, .ref e11, .int 1, .int 1, .ref e12, .int i16])), (e0, .inl (τ 0, 16816, .inl (f)))]) B Y 2 rfl (Nat.le_of_ble_eq_true rfl) rfl dX10_crosses_128 (fun H locs Y => ?_)
    refine lv_iinc (v := 1) (lv' := [(3, .int 1), (4, .int (nI b)), (2, .int 576), (0, .ref mo), (1, .int 0)]) B.1 B.2.1 dX10_crosses_131 hl (k := 1) rfl (by decide) (by decide) rfl (fun ls hl => ?_)
    refine lv_goto (tgt := 50) B.1 B.2.1 dX10_crosses_134 (by decide) ?_
    refine lv_iload_n B.1 B.2.1 dX10_crosses_50 rfl (lv_at hl 0 rfl) ?_
    refine lv_aload_n B.1 B.2.1 dX10_crosses_51 rfl (lv_at hl 3 rfl) ?_
    refine gf_X10_429 B Y 2 rfl rfl dX10_crosses_52 ?_
    refine lv_icmp_ge (tgt := 137) B.1 B.2.1 dX10_crosses_55 (by decide) (fun _ => ?_) (fun h => absurd (by decide) h)
    have hc9 : cutN b = 0 := by unfold cutN; exact if_pos hq
    have e9 : nI (cutN b + 1) = 1 := by rw [hc9]; rfl
    exact endV B hr hlk Y ((upd (g9) 0 (nI b)), (upd (hs) 0 (nI b))) trivial [2, 3, 0, 1] (by decide) (by rw [e9]; rfl) (Nat.le_of_ble_eq_true rfl) (Nat.le_of_ble_eq_true rfl) dX10_crosses_137
  · skip
    refine lv_aload_n B.1 B.2.1 dX10_crosses_0 rfl (lv_at hl 0 rfl) ?_
    refine lv_iload_n B.1 B.2.1 dX10_crosses_1 rfl (lv_at hl 1 rfl) ?_
    refine lv_iconst (v := 0) B.1 B.2.1 dX10_crosses_2 (by decide) ?_
    refine retI (wc := [(mo, .inr (10, [.ref e0, .ref e1, .ref e2, .ref e3, .ref e4, .int i0, .int i1, .int i2, .ref e5, .int i3, .int i4, .int i5, .int i6, .int i7, .int i8, .int i9, .int i10, .int i11, .int i12, .ref e6, .ref e7, .ref e8, .ref e9, .int i13, .ref e10, .ref e11, .int x14, .int 1, .ref e12, .int i16])), (e0, .inl (τ 0, 16816, .inl (f)))]) (wr := [(e10, .inl (τ 0, 200, .inl (g9))), (e11, .inl (τ 0, 200, .inl (hs)))]) Y [0, 1] [2, 3] rfl rfl (by decide) (by decide) (rV (As := [.int 0, .int 0]) (rest := []) (q0 := 0) B Y [0, 1] (by decide) rfl (k_ofLinkR l D τ _ mo e0 e1 e2 e3 e4 e5 e6 e7 e8 e9 e10 e11 e12 i0 i1 i2 i3 i4 i5 i6 i7 i8 i9 i10 i11 i12 i13 x14 1 i16 (f) 0 0 24 (by decide) (by decide)) rfl rfl q_1674 q_1676 qp_61 q_12 q_1677 rfl rfl hd_X10_ofLink ⟨(Nat.le_of_ble_eq_true rfl), (Nat.le_of_ble_eq_true rfl)⟩ rfl hl.1 rfl (Nat.le_of_ble_eq_true rfl) dX10_crosses_3 ⟨(Nat.le_of_ble_eq_true rfl), (Nat.le_of_ble_eq_true rfl)⟩) (fun r u H locs hw Y => ?_)
    have hw : r = 576 := (hw : r = _).trans (h24)
    subst hw
    have Y : Wd D τ s A s.heap [(e10, .inl (τ 0, 200, .inl (g9))), (e11, .inl (τ 0, 200, .inl (hs))), (mo, .inr (10, [.ref e0, .ref e1, .ref e2, .ref e3, .ref e4, .int i0, .int i1, .int i2, .ref e5, .int i3, .int i4, .int i5, .int i6, .int i7, .int i8, .int i9, .int i10, .int i11, .int i12, .ref e6, .ref e7, .ref e8, .ref e9, .int i13, .ref e10, .ref e11, .int x14, .int 1, .ref e12, .int i16])), (e0, .inl (τ 0, 16816, .inl (f)))] H _ := Y
    refine lv_istore_n (lv' := [(2, .int 576), (0, .ref mo), (1, .int 0)]) B.1 B.2.1 dX10_crosses_6 rfl hl (by decide) rfl (fun ls hl => ?_)
    refine lv_aload_n B.1 B.2.1 dX10_crosses_7 rfl (lv_at hl 1 rfl) ?_
    refine lv_aload_n B.1 B.2.1 dX10_crosses_8 rfl (lv_at hl 1 rfl) ?_
    refine gf_X10_426 B Y 2 rfl rfl dX10_crosses_9 ?_
    refine pf_X10_429 (ws' := [(e10, .inl (τ 0, 200, .inl (g9))), (e11, .inl (τ 0, 200, .inl (hs))), (mo, .inr (10, [.ref e0, .ref e1, .ref e2, .ref e3, .ref e4, .int i0, .int i1, .int i2, .ref e5, .int i3, .int i4, .int i5, .int i6, .int i7, .int i8, .int i9, .int i10, .int i11, .int i12, .ref e6, .ref e7, .ref e8, .ref e9, .int i13, .ref e10, .ref e11, .int 1, .int 1, .ref e12, .int i16])), (e0, .inl (τ 0, 16816, .inl (f)))]) B Y 2 rfl (Nat.le_of_ble_eq_true rfl) rfl dX10_crosses_12 (fun H locs Y => ?_)
    refine lv_iconst (v := 0) B.1 B.2.1 dX10_crosses_15 (by decide) ?_
    refine lv_istore_n (lv' := [(3, .int 0), (2, .int 576), (0, .ref mo), (1, .int 0)]) B.1 B.2.1 dX10_crosses_16 rfl hl (by decide) rfl (fun ls hl => ?_)
    refine lv_iload_n B.1 B.2.1 dX10_crosses_17 rfl (lv_at hl 0 rfl) ?_
    refine lv_aload_n B.1 B.2.1 dX10_crosses_18 rfl (lv_at hl 2 rfl) ?_
    refine gf_X10_429 B Y 2 rfl rfl dX10_crosses_19 ?_
    refine lv_icmp_ge (tgt := 43) B.1 B.2.1 dX10_crosses_22 (by decide) (fun h => absurd h (by decide)) (fun _ => ?_)
    refine lv_aload_n B.1 B.2.1 dX10_crosses_25 rfl (lv_at hl 2 rfl) ?_
    refine gf_X10_46 B Y 2 rfl rfl dX10_crosses_26 ?_
    refine lv_iload_n B.1 B.2.1 dX10_crosses_29 rfl (lv_at hl 0 rfl) ?_
    refine lv_aload_n B.1 B.2.1 dX10_crosses_30 rfl (lv_at hl 2 rfl) ?_
    refine gf_X10_49 B Y 2 rfl rfl dX10_crosses_31 ?_
    refine lv_iload_n B.1 B.2.1 dX10_crosses_34 rfl (lv_at hl 0 rfl) ?_
    refine t_iald (v := (nI b)) (j := 0) B Y 1 rfl (by decide) (by decide) (Nat.le_of_ble_eq_true rfl) hs0 dX10_crosses_35 ?_
    refine t_iast (j := 0) (g := upd (g9) 0 (nI b)) (ws' := [(e10, .inl (τ 0, 200, .inl (upd (g9) 0 (nI b)))), (e11, .inl (τ 0, 200, .inl (hs))), (mo, .inr (10, [.ref e0, .ref e1, .ref e2, .ref e3, .ref e4, .int i0, .int i1, .int i2, .ref e5, .int i3, .int i4, .int i5, .int i6, .int i7, .int i8, .int i9, .int i10, .int i11, .int i12, .ref e6, .ref e7, .ref e8, .ref e9, .int i13, .ref e10, .ref e11, .int 1, .int 1, .ref e12, .int i16])), (e0, .inl (τ 0, 16816, .inl (f)))]) B Y 0 rfl (by decide) (by decide) (Nat.le_of_ble_eq_true rfl) rfl rfl dX10_crosses_36 (fun H locs Y => ?_)
    refine lv_iinc (v := 1) (lv' := [(3, .int 1), (2, .int 576), (0, .ref mo), (1, .int 0)]) B.1 B.2.1 dX10_crosses_37 hl (k := 0) rfl (by decide) (by decide) rfl (fun ls hl => ?_)
    refine lv_goto (tgt := 17) B.1 B.2.1 dX10_crosses_40 (by decide) ?_
    refine lv_iload_n B.1 B.2.1 dX10_crosses_17 rfl (lv_at hl 0 rfl) ?_
    refine lv_aload_n B.1 B.2.1 dX10_crosses_18 rfl (lv_at hl 2 rfl) ?_
    refine gf_X10_429 B Y 2 rfl rfl dX10_crosses_19 ?_
    refine lv_icmp_ge (tgt := 43) B.1 B.2.1 dX10_crosses_22 (by decide) (fun _ => ?_) (fun h => absurd (by decide) h)
    refine lv_aload_n B.1 B.2.1 dX10_crosses_43 rfl (lv_at hl 2 rfl) ?_
    refine lv_iconst (v := 0) B.1 B.2.1 dX10_crosses_44 (by decide) ?_
    refine pf_X10_426 (ws' := [(e10, .inl (τ 0, 200, .inl (upd (g9) 0 (nI b)))), (e11, .inl (τ 0, 200, .inl (hs))), (mo, .inr (10, [.ref e0, .ref e1, .ref e2, .ref e3, .ref e4, .int i0, .int i1, .int i2, .ref e5, .int i3, .int i4, .int i5, .int i6, .int i7, .int i8, .int i9, .int i10, .int i11, .int i12, .ref e6, .ref e7, .ref e8, .ref e9, .int i13, .ref e10, .ref e11, .int 1, .int 0, .ref e12, .int i16])), (e0, .inl (τ 0, 16816, .inl (f)))]) B Y 2 rfl (Nat.le_of_ble_eq_true rfl) rfl dX10_crosses_45 (fun H locs Y => ?_)
    refine lv_iconst (v := 0) B.1 B.2.1 dX10_crosses_48 (by decide) ?_
    refine lv_istore_n (lv' := [(3, .int 0), (2, .int 576), (0, .ref mo), (1, .int 0)]) B.1 B.2.1 dX10_crosses_49 rfl hl (by decide) rfl (fun ls hl => ?_)
    refine lv_iload_n B.1 B.2.1 dX10_crosses_50 rfl (lv_at hl 0 rfl) ?_
    refine lv_aload_n B.1 B.2.1 dX10_crosses_51 rfl (lv_at hl 2 rfl) ?_
    refine gf_X10_429 B Y 2 rfl rfl dX10_crosses_52 ?_
    refine lv_icmp_ge (tgt := 137) B.1 B.2.1 dX10_crosses_55 (by decide) (fun h => absurd h (by decide)) (fun _ => ?_)
    refine lv_aload_n B.1 B.2.1 dX10_crosses_58 rfl (lv_at hl 2 rfl) ?_
    refine gf_X10_46 B Y 2 rfl rfl dX10_crosses_59 ?_
    refine lv_iload_n B.1 B.2.1 dX10_crosses_62 rfl (lv_at hl 0 rfl) ?_
    refine t_iald (v := (nI b)) (j := 0) B Y 0 rfl (by decide) (by decide) (Nat.le_of_ble_eq_true rfl) rfl dX10_crosses_63 ?_
    refine lv_istore (lv' := [(4, .int (nI b)), (3, .int 0), (2, .int 576), (0, .ref mo), (1, .int 0)]) B.1 B.2.1 dX10_crosses_64 hl (by decide) rfl (fun ls hl => ?_)
    refine lv_iload B.1 B.2.1 dX10_crosses_66 (lv_at hl 0 rfl) ?_
    refine lv_iload_n B.1 B.2.1 dX10_crosses_68 rfl (lv_at hl 2 rfl) ?_
    refine lv_bipush (v := 20) B.1 B.2.1 dX10_crosses_69 (by decide) ?_
    refine lv_isub B.1 B.2.1 dX10_crosses_71 ?_
    refine lv_cv (v := 556) (by decide) ?_
    refine lv_icmp_le (tgt := 110) B.1 B.2.1 dX10_crosses_72 (by decide) (fun h => absurd h (nI_ge (a := 556) (b := b) (by omega) (by omega))) (fun _ => ?_)
    refine lv_aload_n B.1 B.2.1 dX10_crosses_75 rfl (lv_at hl 3 rfl) ?_
    refine gf_X10_49 B Y 2 rfl rfl dX10_crosses_76 ?_
    refine lv_aload_n B.1 B.2.1 dX10_crosses_79 rfl (lv_at hl 3 rfl) ?_
    refine gf_X10_426 B Y 2 rfl rfl dX10_crosses_80 ?_
    refine lv_iload_n B.1 B.2.1 dX10_crosses_83 rfl (lv_at hl 2 rfl) ?_
    refine retI (wc := []) (wr := [(e10, .inl (τ 0, 200, .inl (upd (g9) 0 (nI b)))), (e11, .inl (τ 0, 200, .inl (hs))), (mo, .inr (10, [.ref e0, .ref e1, .ref e2, .ref e3, .ref e4, .int i0, .int i1, .int i2, .ref e5, .int i3, .int i4, .int i5, .int i6, .int i7, .int i8, .int i9, .int i10, .int i11, .int i12, .ref e6, .ref e7, .ref e8, .ref e9, .int i13, .ref e10, .ref e11, .int 1, .int 0, .ref e12, .int i16])), (e0, .inl (τ 0, 16816, .inl (f)))]) Y [] [0, 1, 2, 3] rfl rfl (by decide) (by decide) (rS (As := [.int 576]) (rest := [.int 0, .ref e11]) B Y [] (by decide) rfl (k_roomOf l D τ _) q_1697 q_1698 q_12 q_1699 rfl rfl hd_X10_roomOf ⟨(Nat.le_of_ble_eq_true rfl), (Nat.le_of_ble_eq_true rfl)⟩ rfl hl.1 rfl (Nat.le_of_ble_eq_true rfl) dX10_crosses_84 ⟨(Nat.le_of_ble_eq_true rfl), (Nat.le_of_ble_eq_true rfl)⟩) (fun r u H locs hw Y => ?_)
    have hw : r = 552 := hw
    subst hw
    have Y : Wd D τ s A s.heap [(e10, .inl (τ 0, 200, .inl (upd (g9) 0 (nI b)))), (e11, .inl (τ 0, 200, .inl (hs))), (mo, .inr (10, [.ref e0, .ref e1, .ref e2, .ref e3, .ref e4, .int i0, .int i1, .int i2, .ref e5, .int i3, .int i4, .int i5, .int i6, .int i7, .int i8, .int i9, .int i10, .int i11, .int i12, .ref e6, .ref e7, .ref e8, .ref e9, .int i13, .ref e10, .ref e11, .int 1, .int 0, .ref e12, .int i16])), (e0, .inl (τ 0, 16816, .inl (f)))] H _ := Y
    refine t_iast (j := 0) (g := upd (hs) 0 552) (ws' := [(e10, .inl (τ 0, 200, .inl (upd (g9) 0 (nI b)))), (e11, .inl (τ 0, 200, .inl (upd (hs) 0 552))), (mo, .inr (10, [.ref e0, .ref e1, .ref e2, .ref e3, .ref e4, .int i0, .int i1, .int i2, .ref e5, .int i3, .int i4, .int i5, .int i6, .int i7, .int i8, .int i9, .int i10, .int i11, .int i12, .ref e6, .ref e7, .ref e8, .ref e9, .int i13, .ref e10, .ref e11, .int 1, .int 0, .ref e12, .int i16])), (e0, .inl (τ 0, 16816, .inl (f)))]) B Y 1 rfl (by decide) (by decide) (Nat.le_of_ble_eq_true rfl) rfl rfl dX10_crosses_87 (fun H locs Y => ?_)
    refine lv_aload_n B.1 B.2.1 dX10_crosses_88 rfl (lv_at hl 3 rfl) ?_
    refine lv_dup B.1 B.2.1 dX10_crosses_89 rfl ?_
    refine gf_X10_426 B Y 2 rfl rfl dX10_crosses_90 ?_
    refine lv_iconst (v := 1) B.1 B.2.1 dX10_crosses_93 (by decide) ?_
    refine lv_iadd B.1 B.2.1 dX10_crosses_94 ?_
    refine lv_cv (v := 1) (by decide) ?_
    refine pf_X10_426 (ws' := [(e10, .inl (τ 0, 200, .inl (upd (g9) 0 (nI b)))), (e11, .inl (τ 0, 200, .inl (upd (hs) 0 552))), (mo, .inr (10, [.ref e0, .ref e1, .ref e2, .ref e3, .ref e4, .int i0, .int i1, .int i2, .ref e5, .int i3, .int i4, .int i5, .int i6, .int i7, .int i8, .int i9, .int i10, .int i11, .int i12, .ref e6, .ref e7, .ref e8, .ref e9, .int i13, .ref e10, .ref e11, .int 1, .int 1, .ref e12, .int i16])), (e0, .inl (τ 0, 16816, .inl (f)))]) B Y 2 rfl (Nat.le_of_ble_eq_true rfl) rfl dX10_crosses_95 (fun H locs Y => ?_)
    refine lv_iload B.1 B.2.1 dX10_crosses_98 (lv_at hl 0 rfl) ?_
    refine lv_iload_n B.1 B.2.1 dX10_crosses_100 rfl (lv_at hl 2 rfl) ?_
    refine retI (wc := []) (wr := [(e10, .inl (τ 0, 200, .inl (upd (g9) 0 (nI b)))), (e11, .inl (τ 0, 200, .inl (upd (hs) 0 552))), (mo, .inr (10, [.ref e0, .ref e1, .ref e2, .ref e3, .ref e4, .int i0, .int i1, .int i2, .ref e5, .int i3, .int i4, .int i5, .int i6, .int i7, .int i8, .int i9, .int i10, .int i11, .int i12, .ref e6, .ref e7, .ref e8, .ref e9, .int i13, .ref e10, .ref e11, .int 1, .int 1, .ref e12, .int i16])), (e0, .inl (τ 0, 16816, .inl (f)))]) Y [] [0, 1, 2, 3] rfl rfl (by decide) (by decide) (rS (As := [.int 576]) (rest := [.int (nI b)]) B Y [] (by decide) rfl (k_roomOf l D τ _) q_1697 q_1698 q_12 q_1699 rfl rfl hd_X10_roomOf ⟨(Nat.le_of_ble_eq_true rfl), (Nat.le_of_ble_eq_true rfl)⟩ rfl hl.1 rfl (Nat.le_of_ble_eq_true rfl) dX10_crosses_101 ⟨(Nat.le_of_ble_eq_true rfl), (Nat.le_of_ble_eq_true rfl)⟩) (fun r u H locs hw Y => ?_)
    have hw : r = 552 := hw
    subst hw
    have Y : Wd D τ s A s.heap [(e10, .inl (τ 0, 200, .inl (upd (g9) 0 (nI b)))), (e11, .inl (τ 0, 200, .inl (upd (hs) 0 552))), (mo, .inr (10, [.ref e0, .ref e1, .ref e2, .ref e3, .ref e4, .int i0, .int i1, .int i2, .ref e5, .int i3, .int i4, .int i5, .int i6, .int i7, .int i8, .int i9, .int i10, .int i11, .int i12, .ref e6, .ref e7, .ref e8, .ref e9, .int i13, .ref e10, .ref e11, .int 1, .int 1, .ref e12, .int i16])), (e0, .inl (τ 0, 16816, .inl (f)))] H _ := Y
    refine lv_isub B.1 B.2.1 dX10_crosses_104 ?_
    refine lv_cv (v := (nI (b - 552))) (pk_sub (b := 552) (by omega)) ?_
    refine lv_istore (lv' := [(4, .int (nI (b - 552))), (3, .int 0), (2, .int 576), (0, .ref mo), (1, .int 0)]) B.1 B.2.1 dX10_crosses_105 hl (by decide) rfl (fun ls hl => ?_)
    refine lv_goto (tgt := 66) B.1 B.2.1 dX10_crosses_107 (by decide) ?_
    refine lv_iload B.1 B.2.1 dX10_crosses_66 (lv_at hl 0 rfl) ?_
    refine lv_iload_n B.1 B.2.1 dX10_crosses_68 rfl (lv_at hl 2 rfl) ?_
    refine lv_bipush (v := 20) B.1 B.2.1 dX10_crosses_69 (by decide) ?_
    refine lv_isub B.1 B.2.1 dX10_crosses_71 ?_
    refine lv_cv (v := 556) (by decide) ?_
    refine lv_icmp_le (tgt := 110) B.1 B.2.1 dX10_crosses_72 (by decide) (fun _ => ?_) (fun h => absurd (nI_le (b := 556) (by omega) (by decide)) h)
    refine lv_aload_n B.1 B.2.1 dX10_crosses_110 rfl (lv_at hl 3 rfl) ?_
    refine gf_X10_49 B Y 2 rfl rfl dX10_crosses_111 ?_
    refine lv_aload_n B.1 B.2.1 dX10_crosses_114 rfl (lv_at hl 3 rfl) ?_
    refine gf_X10_426 B Y 2 rfl rfl dX10_crosses_115 ?_
    refine lv_iload B.1 B.2.1 dX10_crosses_118 (lv_at hl 0 rfl) ?_
    refine t_iast (j := 1) (g := upd (upd (hs) 0 552) 1 (nI (b - 552))) (ws' := [(e10, .inl (τ 0, 200, .inl (upd (g9) 0 (nI b)))), (e11, .inl (τ 0, 200, .inl (upd (upd (hs) 0 552) 1 (nI (b - 552))))), (mo, .inr (10, [.ref e0, .ref e1, .ref e2, .ref e3, .ref e4, .int i0, .int i1, .int i2, .ref e5, .int i3, .int i4, .int i5, .int i6, .int i7, .int i8, .int i9, .int i10, .int i11, .int i12, .ref e6, .ref e7, .ref e8, .ref e9, .int i13, .ref e10, .ref e11, .int 1, .int 1, .ref e12, .int i16])), (e0, .inl (τ 0, 16816, .inl (f)))]) B Y 1 rfl (by decide) (by decide) (Nat.le_of_ble_eq_true rfl) rfl rfl dX10_crosses_120 (fun H locs Y => ?_)
    refine lv_aload_n B.1 B.2.1 dX10_crosses_121 rfl (lv_at hl 3 rfl) ?_
    refine lv_dup B.1 B.2.1 dX10_crosses_122 rfl ?_
    refine gf_X10_426 B Y 2 rfl rfl dX10_crosses_123 ?_
    refine lv_iconst (v := 1) B.1 B.2.1 dX10_crosses_126 (by decide) ?_
    refine lv_iadd B.1 B.2.1 dX10_crosses_127 ?_
    refine lv_cv (v := 2) (by decide) ?_
    refine pf_X10_426 (ws' := [(e10, .inl (τ 0, 200, .inl (upd (g9) 0 (nI b)))), (e11, .inl (τ 0, 200, .inl (upd (upd (hs) 0 552) 1 (nI (b - 552))))), (mo, .inr (10, [.ref e0, .ref e1, .ref e2, .ref e3, .ref e4, .int i0, .int i1, .int i2, .ref e5, .int i3, .int i4, .int i5, .int i6, .int i7, .int i8, .int i9, .int i10, .int i11, .int i12, .ref e6, .ref e7, .ref e8, .ref e9, .int i13, .ref e10, .ref e11, .int 1, .int 2, .ref e12, .int i16])), (e0, .inl (τ 0, 16816, .inl (f)))]) B Y 2 rfl (Nat.le_of_ble_eq_true rfl) rfl dX10_crosses_128 (fun H locs Y => ?_)
    refine lv_iinc (v := 1) (lv' := [(3, .int 1), (4, .int (nI (b - 552))), (2, .int 576), (0, .ref mo), (1, .int 0)]) B.1 B.2.1 dX10_crosses_131 hl (k := 1) rfl (by decide) (by decide) rfl (fun ls hl => ?_)
    refine lv_goto (tgt := 50) B.1 B.2.1 dX10_crosses_134 (by decide) ?_
    refine lv_iload_n B.1 B.2.1 dX10_crosses_50 rfl (lv_at hl 0 rfl) ?_
    refine lv_aload_n B.1 B.2.1 dX10_crosses_51 rfl (lv_at hl 3 rfl) ?_
    refine gf_X10_429 B Y 2 rfl rfl dX10_crosses_52 ?_
    refine lv_icmp_ge (tgt := 137) B.1 B.2.1 dX10_crosses_55 (by decide) (fun _ => ?_) (fun h => absurd (by decide) h)
    have hc9 : cutN b = 1 := by unfold cutN; exact if_neg (by omega)
    have e9 : nI (cutN b + 1) = 2 := by rw [hc9]; rfl
    exact endV B hr hlk Y ((upd (g9) 0 (nI b)), (upd (upd (hs) 0 552) 1 (nI (b - 552)))) trivial [2, 3, 0, 1] (by decide) (by rw [e9]; rfl) (Nat.le_of_ble_eq_true rfl) (Nat.le_of_ble_eq_true rfl) dX10_crosses_137

set_option maxHeartbeats 4000000 in
set_option maxRecDepth 100000 in
theorem k_laysWhole (l : Launch) (D : va_G) (τ : Nat → ClassId) (sz : Nat) (mo e0 e1 e2 e3 e4 e5 e6 e7 e8 e9 e10 e11 e12 : Nat) (i0 i1 i2 i3 i4 i5 i6 i7 i8 i9 i10 i11 i12 i13 i14 i15 i16 : Int32) (hs : Nat → Int32) (y : Int32) : Met l yX10_laysWhole (Cond.code yX10_laysWhole cX10_laysWhole 2 none :: wALL) { frames := 0, cells := 0, slots := 0, locals := 0 } (Pw D τ [(mo, .inr (10, [.ref e0, .ref e1, .ref e2, .ref e3, .ref e4, .int i0, .int i1, .int i2, .ref e5, .int i3, .int i4, .int i5, .int i6, .int i7, .int i8, .int i9, .int i10, .int i11, .int i12, .ref e6, .ref e7, .ref e8, .ref e9, .int i13, .ref e10, .ref e11, .int i14, .int i15, .ref e12, .int i16])), (e11, .inl (τ 0, 200, .inl (hs)))] sz [.ref mo, .int y]) (va_Qv (fun (_ : Unit) => True) (Bw D (va_A [(mo, .inr (10, [.ref e0, .ref e1, .ref e2, .ref e3, .ref e4, .int i0, .int i1, .int i2, .ref e5, .int i3, .int i4, .int i5, .int i6, .int i7, .int i8, .int i9, .int i10, .int i11, .int i12, .ref e6, .ref e7, .ref e8, .ref e9, .int i13, .ref e10, .ref e11, .int i14, .int i15, .ref e12, .int i16])), (e11, .inl (τ 0, 200, .inl (hs)))] sz) (fun (_ : Unit) => [(mo, .inr (10, [.ref e0, .ref e1, .ref e2, .ref e3, .ref e4, .int i0, .int i1, .int i2, .ref e5, .int i3, .int i4, .int i5, .int i6, .int i7, .int i8, .int i9, .int i10, .int i11, .int i12, .ref e6, .ref e7, .ref e8, .ref e9, .int i13, .ref e10, .ref e11, .int i14, .int 1, .ref e12, .int i16])), (e11, .inl (τ 0, 200, .inl (upd hs 0 y)))])) (va_A [(mo, .inr (10, [.ref e0, .ref e1, .ref e2, .ref e3, .ref e4, .int i0, .int i1, .int i2, .ref e5, .int i3, .int i4, .int i5, .int i6, .int i7, .int i8, .int i9, .int i10, .int i11, .int i12, .ref e6, .ref e7, .ref e8, .ref e9, .int i13, .ref e10, .ref e11, .int i14, .int i15, .ref e12, .int i16])), (e11, .inl (τ 0, 200, .inl (hs)))] sz)) 0 0 (va_A [(mo, .inr (10, [.ref e0, .ref e1, .ref e2, .ref e3, .ref e4, .int i0, .int i1, .int i2, .ref e5, .int i3, .int i4, .int i5, .int i6, .int i7, .int i8, .int i9, .int i10, .int i11, .int i12, .ref e6, .ref e7, .ref e8, .ref e9, .int i13, .ref e10, .ref e11, .int i14, .int i15, .ref e12, .int i16])), (e11, .inl (τ 0, 200, .inl (hs)))] sz) := by
  refine bodyW (by decide) (Nat.le_of_ble_eq_true rfl) (fun p e s m below meth c ls B hr hlk hin hsz Y hl => ?_)
  have hl : lv_has ls 2 [(0, .ref mo), (1, .int y)] := hl
  have B : CallFix p m c cX10_laysWhole 2 s _ wALL RX10 := B
  generalize va_A [(mo, .inr (10, [.ref e0, .ref e1, .ref e2, .ref e3, .ref e4, .int i0, .int i1, .int i2, .ref e5, .int i3, .int i4, .int i5, .int i6, .int i7, .int i8, .int i9, .int i10, .int i11, .int i12, .ref e6, .ref e7, .ref e8, .ref e9, .int i13, .ref e10, .ref e11, .int i14, .int i15, .ref e12, .int i16])), (e11, .inl (τ 0, 200, .inl (hs)))] sz = A at Y ⊢
  refine lv_aload_n B.1 B.2.1 dX10_laysWhole_0 rfl (lv_at hl 0 rfl) ?_
  refine gf_X10_49 B Y 0 rfl rfl dX10_laysWhole_1 ?_
  refine lv_iconst (v := 0) B.1 B.2.1 dX10_laysWhole_4 (by decide) ?_
  refine lv_iload_n B.1 B.2.1 dX10_laysWhole_5 rfl (lv_at hl 1 rfl) ?_
  refine t_iast (j := 0) (g := upd (hs) 0 y) (ws' := [(mo, .inr (10, [.ref e0, .ref e1, .ref e2, .ref e3, .ref e4, .int i0, .int i1, .int i2, .ref e5, .int i3, .int i4, .int i5, .int i6, .int i7, .int i8, .int i9, .int i10, .int i11, .int i12, .ref e6, .ref e7, .ref e8, .ref e9, .int i13, .ref e10, .ref e11, .int i14, .int i15, .ref e12, .int i16])), (e11, .inl (τ 0, 200, .inl (upd (hs) 0 y)))]) B Y 1 rfl (by decide) (by decide) (Nat.le_of_ble_eq_true rfl) rfl rfl dX10_laysWhole_6 (fun H locs Y => ?_)
  refine lv_aload_n B.1 B.2.1 dX10_laysWhole_7 rfl (lv_at hl 0 rfl) ?_
  refine lv_iconst (v := 1) B.1 B.2.1 dX10_laysWhole_8 (by decide) ?_
  refine pf_X10_426 (ws' := [(mo, .inr (10, [.ref e0, .ref e1, .ref e2, .ref e3, .ref e4, .int i0, .int i1, .int i2, .ref e5, .int i3, .int i4, .int i5, .int i6, .int i7, .int i8, .int i9, .int i10, .int i11, .int i12, .ref e6, .ref e7, .ref e8, .ref e9, .int i13, .ref e10, .ref e11, .int i14, .int 1, .ref e12, .int i16])), (e11, .inl (τ 0, 200, .inl (upd (hs) 0 y)))]) B Y 0 rfl (Nat.le_of_ble_eq_true rfl) rfl dX10_laysWhole_9 (fun H locs Y => ?_)
  exact endV B hr hlk Y () trivial [0, 1] (by decide) rfl (Nat.le_of_ble_eq_true rfl) (Nat.le_of_ble_eq_true rfl) dX10_laysWhole_12

set_option maxHeartbeats 4000000 in
set_option maxRecDepth 100000 in
theorem k_burdenOf (l : Launch) (D : va_G) (τ : Nat → ClassId) (sz : Nat) (mo e0 e1 e2 e3 e4 e5 e6 e7 e8 e9 e10 e11 e12 : Nat) (i0 i1 i2 i3 i4 i5 i6 i7 i8 i9 i10 i11 i12 i13 i14 i15 i16 : Int32) (f : Nat → Int32) (h0 : f 0 = 1) (h24 : f 24 = 576) (g9 hs : Nat → Int32) (b : Nat) (hb : b ≤ 1000) : Met l yX10_burdenOf (Cond.code yX10_burdenOf cX10_burdenOf 4 (some .int) :: wALL) { frames := 2, cells := 0, slots := 0, locals := 46 } (Pw D τ [(mo, .inr (10, [.ref e0, .ref e1, .ref e2, .ref e3, .ref e4, .int i0, .int i1, .int i2, .ref e5, .int i3, .int i4, .int i5, .int i6, .int i7, .int i8, .int i9, .int i10, .int i11, .int i12, .ref e6, .ref e7, .ref e8, .ref e9, .int i13, .ref e10, .ref e11, .int i14, .int i15, .ref e12, .int i16])), (e0, .inl (τ 0, 16816, .inl (f))), (e10, .inl (τ 0, 200, .inl (g9))), (e11, .inl (τ 0, 200, .inl (hs)))] sz [.ref mo, .int (nI b)]) (va_Qi (fun (r : Int32) (q : (Nat → Int32) × (Nat → Int32)) => r = nI (bdN 0 1 b)) (Bw D (va_A [(mo, .inr (10, [.ref e0, .ref e1, .ref e2, .ref e3, .ref e4, .int i0, .int i1, .int i2, .ref e5, .int i3, .int i4, .int i5, .int i6, .int i7, .int i8, .int i9, .int i10, .int i11, .int i12, .ref e6, .ref e7, .ref e8, .ref e9, .int i13, .ref e10, .ref e11, .int i14, .int i15, .ref e12, .int i16])), (e0, .inl (τ 0, 16816, .inl (f))), (e10, .inl (τ 0, 200, .inl (g9))), (e11, .inl (τ 0, 200, .inl (hs)))] sz) (fun (q : (Nat → Int32) × (Nat → Int32)) => [(mo, .inr (10, [.ref e0, .ref e1, .ref e2, .ref e3, .ref e4, .int i0, .int i1, .int i2, .ref e5, .int i3, .int i4, .int i5, .int i6, .int i7, .int i8, .int i9, .int i10, .int i11, .int i12, .ref e6, .ref e7, .ref e8, .ref e9, .int i13, .ref e10, .ref e11, .int 1, .int (nI (cutN b + 1)), .ref e12, .int i16])), (e0, .inl (τ 0, 16816, .inl (f))), (e10, .inl (τ 0, 200, .inl (q.1))), (e11, .inl (τ 0, 200, .inl (q.2)))])) (va_A [(mo, .inr (10, [.ref e0, .ref e1, .ref e2, .ref e3, .ref e4, .int i0, .int i1, .int i2, .ref e5, .int i3, .int i4, .int i5, .int i6, .int i7, .int i8, .int i9, .int i10, .int i11, .int i12, .ref e6, .ref e7, .ref e8, .ref e9, .int i13, .ref e10, .ref e11, .int i14, .int i15, .ref e12, .int i16])), (e0, .inl (τ 0, 16816, .inl (f))), (e10, .inl (τ 0, 200, .inl (g9))), (e11, .inl (τ 0, 200, .inl (hs)))] sz)) 0 0 (va_A [(mo, .inr (10, [.ref e0, .ref e1, .ref e2, .ref e3, .ref e4, .int i0, .int i1, .int i2, .ref e5, .int i3, .int i4, .int i5, .int i6, .int i7, .int i8, .int i9, .int i10, .int i11, .int i12, .ref e6, .ref e7, .ref e8, .ref e9, .int i13, .ref e10, .ref e11, .int i14, .int i15, .ref e12, .int i16])), (e0, .inl (τ 0, 16816, .inl (f))), (e10, .inl (τ 0, 200, .inl (g9))), (e11, .inl (τ 0, 200, .inl (hs)))] sz) := by
  refine bodyW (by decide) (Nat.le_of_ble_eq_true rfl) (fun p e s m below meth c ls B hr hlk hin hsz Y hl => ?_)
  have hl : lv_has ls 4 [(0, .ref mo), (1, .int (nI b))] := hl
  have B : CallFix p m c cX10_burdenOf 4 s _ wALL RX10 := B
  generalize va_A [(mo, .inr (10, [.ref e0, .ref e1, .ref e2, .ref e3, .ref e4, .int i0, .int i1, .int i2, .ref e5, .int i3, .int i4, .int i5, .int i6, .int i7, .int i8, .int i9, .int i10, .int i11, .int i12, .ref e6, .ref e7, .ref e8, .ref e9, .int i13, .ref e10, .ref e11, .int i14, .int i15, .ref e12, .int i16])), (e0, .inl (τ 0, 16816, .inl (f))), (e10, .inl (τ 0, 200, .inl (g9))), (e11, .inl (τ 0, 200, .inl (hs)))] sz = A at Y ⊢
  refine lv_iconst (v := 0) B.1 B.2.1 dX10_burdenOf_0 (by decide) ?_
  refine lv_istore_n (lv' := [(2, .int 0), (0, .ref mo), (1, .int (nI b))]) B.1 B.2.1 dX10_burdenOf_1 rfl hl (by decide) rfl (fun ls hl => ?_)
  refine lv_aload_n B.1 B.2.1 dX10_burdenOf_2 rfl (lv_at hl 1 rfl) ?_
  refine lv_iload_n B.1 B.2.1 dX10_burdenOf_3 rfl (lv_at hl 2 rfl) ?_
  refine retV (wc := [(mo, .inr (10, [.ref e0, .ref e1, .ref e2, .ref e3, .ref e4, .int i0, .int i1, .int i2, .ref e5, .int i3, .int i4, .int i5, .int i6, .int i7, .int i8, .int i9, .int i10, .int i11, .int i12, .ref e6, .ref e7, .ref e8, .ref e9, .int i13, .ref e10, .ref e11, .int i14, .int i15, .ref e12, .int i16])), (e11, .inl (τ 0, 200, .inl (hs)))]) (wr := [(e0, .inl (τ 0, 16816, .inl (f))), (e10, .inl (τ 0, 200, .inl (g9)))]) Y [0, 3] [1, 2] rfl rfl (by decide) (by decide) (rV (As := [.int (nI b)]) (rest := []) (q0 := 0) B Y [0, 3] (by decide) rfl (k_laysWhole l D τ _ mo e0 e1 e2 e3 e4 e5 e6 e7 e8 e9 e10 e11 e12 i0 i1 i2 i3 i4 i5 i6 i7 i8 i9 i10 i11 i12 i13 i14 i15 i16 (hs) (nI b)) rfl rfl q_2007 q_2009 qp_124 q_12 q_2010 rfl rfl hd_X10_laysWhole ⟨(Nat.le_of_ble_eq_true rfl), (Nat.le_of_ble_eq_true rfl)⟩ rfl hl.1 rfl (Nat.le_of_ble_eq_true rfl) dX10_burdenOf_4 ⟨(Nat.le_of_ble_eq_true rfl), (Nat.le_of_ble_eq_true rfl)⟩) (fun u H locs hw Y => ?_)
  have Y : Wd D τ s A s.heap [(e0, .inl (τ 0, 16816, .inl (f))), (e10, .inl (τ 0, 200, .inl (g9))), (mo, .inr (10, [.ref e0, .ref e1, .ref e2, .ref e3, .ref e4, .int i0, .int i1, .int i2, .ref e5, .int i3, .int i4, .int i5, .int i6, .int i7, .int i8, .int i9, .int i10, .int i11, .int i12, .ref e6, .ref e7, .ref e8, .ref e9, .int i13, .ref e10, .ref e11, .int i14, .int 1, .ref e12, .int i16])), (e11, .inl (τ 0, 200, .inl (upd (hs) 0 (nI b))))] H _ := Y
  refine lv_iconst (v := 0) B.1 B.2.1 dX10_burdenOf_7 (by decide) ?_
  refine lv_istore_n (lv' := [(3, .int 0), (2, .int 0), (0, .ref mo), (1, .int (nI b))]) B.1 B.2.1 dX10_burdenOf_8 rfl hl (by decide) rfl (fun ls hl => ?_)
  refine lv_iload_n B.1 B.2.1 dX10_burdenOf_9 rfl (lv_at hl 0 rfl) ?_
  refine lv_aload_n B.1 B.2.1 dX10_burdenOf_10 rfl (lv_at hl 2 rfl) ?_
  refine gf_X10_7 B Y 2 rfl rfl dX10_burdenOf_11 ?_
  refine lv_iconst (v := 0) B.1 B.2.1 dX10_burdenOf_14 (by decide) ?_
  refine t_iald (v := 1) (j := 0) B Y 0 rfl (by decide) (by decide) (Nat.le_of_ble_eq_true rfl) h0 dX10_burdenOf_15 ?_
  refine lv_icmp_ge (tgt := 42) B.1 B.2.1 dX10_burdenOf_16 (by decide) (fun h => absurd h (by decide)) (fun _ => ?_)
  refine lv_aload_n B.1 B.2.1 dX10_burdenOf_19 rfl (lv_at hl 2 rfl) ?_
  refine lv_iload_n B.1 B.2.1 dX10_burdenOf_20 rfl (lv_at hl 0 rfl) ?_
  refine retV (wc := [(mo, .inr (10, [.ref e0, .ref e1, .ref e2, .ref e3, .ref e4, .int i0, .int i1, .int i2, .ref e5, .int i3, .int i4, .int i5, .int i6, .int i7, .int i8, .int i9, .int i10, .int i11, .int i12, .ref e6, .ref e7, .ref e8, .ref e9, .int i13, .ref e10, .ref e11, .int i14, .int 1, .ref e12, .int i16])), (e0, .inl (τ 0, 16816, .inl (f))), (e10, .inl (τ 0, 200, .inl (g9))), (e11, .inl (τ 0, 200, .inl (upd (hs) 0 (nI b))))]) (wr := []) Y [2, 0, 1, 3] [] rfl rfl (by decide) (by decide) (rV (As := [.int 0]) (rest := []) (q0 := 2) B Y [2, 0, 1, 3] (by decide) rfl (k_crosses l D τ _ mo e0 e1 e2 e3 e4 e5 e6 e7 e8 e9 e10 e11 e12 i0 i1 i2 i3 i4 i5 i6 i7 i8 i9 i10 i11 i12 i13 i16 i14 (f) (h24) (g9) (upd (hs) 0 (nI b)) b rfl hb) rfl rfl q_2011 q_2013 qp_125 q_12 q_2014 rfl rfl hd_X10_crosses ⟨(Nat.le_of_ble_eq_true rfl), (Nat.le_of_ble_eq_true rfl)⟩ rfl hl.1 rfl (Nat.le_of_ble_eq_true rfl) dX10_burdenOf_21 ⟨(Nat.le_of_ble_eq_true rfl), (Nat.le_of_ble_eq_true rfl)⟩) (fun u H locs hw Y => ?_)
  obtain ⟨g1, g2⟩ := u
  have Y : Wd D τ s A s.heap [(mo, .inr (10, [.ref e0, .ref e1, .ref e2, .ref e3, .ref e4, .int i0, .int i1, .int i2, .ref e5, .int i3, .int i4, .int i5, .int i6, .int i7, .int i8, .int i9, .int i10, .int i11, .int i12, .ref e6, .ref e7, .ref e8, .ref e9, .int i13, .ref e10, .ref e11, .int 1, .int (nI (cutN b + 1)), .ref e12, .int i16])), (e0, .inl (τ 0, 16816, .inl (f))), (e10, .inl (τ 0, 200, .inl (g1))), (e11, .inl (τ 0, 200, .inl (g2)))] H _ := Y
  refine lv_iload_n B.1 B.2.1 dX10_burdenOf_24 rfl (lv_at hl 1 rfl) ?_
  refine lv_iload_n B.1 B.2.1 dX10_burdenOf_25 rfl (lv_at hl 3 rfl) ?_
  refine lv_bipush (v := 20) B.1 B.2.1 dX10_burdenOf_26 (by decide) ?_
  refine lv_aload_n B.1 B.2.1 dX10_burdenOf_28 rfl (lv_at hl 2 rfl) ?_
  refine gf_X10_426 B Y 0 rfl rfl dX10_burdenOf_29 ?_
  refine lv_imul B.1 B.2.1 dX10_burdenOf_32 ?_
  refine lv_cv (v := (nI (20 * (cutN b + 1)))) (pk_mul 20 _) ?_
  refine lv_iadd B.1 B.2.1 dX10_burdenOf_33 ?_
  refine lv_cv (v := (nI (b + 20 * (cutN b + 1)))) (nI_add _ _) ?_
  refine lv_iadd B.1 B.2.1 dX10_burdenOf_34 ?_
  refine lv_cv (v := (nI (b + 20 * (cutN b + 1)))) (Int32.zero_add _) ?_
  refine lv_istore_n (lv' := [(2, .int (nI (b + 20 * (cutN b + 1)))), (3, .int 0), (0, .ref mo), (1, .int (nI b))]) B.1 B.2.1 dX10_burdenOf_35 rfl hl (by decide) rfl (fun ls hl => ?_)
  refine lv_iinc (v := 1) (lv' := [(3, .int 1), (2, .int (nI (b + 20 * (cutN b + 1)))), (0, .ref mo), (1, .int (nI b))]) B.1 B.2.1 dX10_burdenOf_36 hl (k := 1) rfl (by decide) (by decide) rfl (fun ls hl => ?_)
  refine lv_goto (tgt := 9) B.1 B.2.1 dX10_burdenOf_39 (by decide) ?_
  refine lv_iload_n B.1 B.2.1 dX10_burdenOf_9 rfl (lv_at hl 0 rfl) ?_
  refine lv_aload_n B.1 B.2.1 dX10_burdenOf_10 rfl (lv_at hl 2 rfl) ?_
  refine gf_X10_7 B Y 0 rfl rfl dX10_burdenOf_11 ?_
  refine lv_iconst (v := 0) B.1 B.2.1 dX10_burdenOf_14 (by decide) ?_
  refine t_iald (v := 1) (j := 0) B Y 1 rfl (by decide) (by decide) (Nat.le_of_ble_eq_true rfl) h0 dX10_burdenOf_15 ?_
  refine lv_icmp_ge (tgt := 42) B.1 B.2.1 dX10_burdenOf_16 (by decide) (fun _ => ?_) (fun h => absurd (by decide) h)
  refine lv_iload_n B.1 B.2.1 dX10_burdenOf_42 rfl (lv_at hl 1 rfl) ?_
  exact endI B hr hlk Y ((g1), (g2)) (by unfold bdN; congr 1; omega) [0, 1, 2, 3] (by decide) rfl (Nat.le_of_ble_eq_true rfl) (Nat.le_of_ble_eq_true rfl) dX10_burdenOf_43

set_option maxHeartbeats 4000000 in
set_option maxRecDepth 100000 in
theorem r_pieces (l : Launch) (D : va_G) (τ : Nat → ClassId) (sz : Nat) (mo e0 e1 e2 e3 e4 e5 e6 e7 e8 e9 e10 e11 e12 : Nat) (k g : Int32) : Met l yX10_pieces (Cond.code yX10_pieces cX10_pieces 4 (some .int) :: wALL) { frames := 2, cells := 0, slots := 0, locals := 46 } (Pw D τ [(mo, .inr (10, [.ref e0, .ref e1, .ref e2, .ref e3, .ref e4, .int 0, .int 0, .int 0, .ref e5, .int 0, .int 0, .int 0, .int 0, .int 0, .int 0, .int 0, .int (-1), .int 0, .int 0, .ref e6, .ref e7, .ref e8, .ref e9, .int 0, .ref e10, .ref e11, .int 0, .int 0, .ref e12, .int 0])), (e0, .inl (τ 0, 16816, .inl (S0))), (e10, .inl (τ 0, 200, .inl (fun _ => 0))), (e11, .inl (τ 0, 200, .inl (fun _ => 0)))] sz [.ref mo, .int k, .int g]) (va_Qi (fun (r : Int32) (u : Nat → Int32) => (g = 0 → ∀ b : Nat, 1 ≤ b → b ≤ 1000 → k = nI b → r = nI (bdN 1 0 b) ∧ u 1 = 0) ∧ (g ≠ 0 → u 1 = 1) ∧ (g = 0 → k < 1 ∨ 1000 < k → u 1 = 2)) (Bw D (va_A [(mo, .inr (10, [.ref e0, .ref e1, .ref e2, .ref e3, .ref e4, .int 0, .int 0, .int 0, .ref e5, .int 0, .int 0, .int 0, .int 0, .int 0, .int 0, .int 0, .int (-1), .int 0, .int 0, .ref e6, .ref e7, .ref e8, .ref e9, .int 0, .ref e10, .ref e11, .int 0, .int 0, .ref e12, .int 0])), (e0, .inl (τ 0, 16816, .inl (S0))), (e10, .inl (τ 0, 200, .inl (fun _ => 0))), (e11, .inl (τ 0, 200, .inl (fun _ => 0)))] sz) (fun (u : Nat → Int32) => [(mo, .inr (10, [.ref e0, .ref e1, .ref e2, .ref e3, .ref e4, .int (u 0), .int (u 1), .int (u 2), .ref e5, .int (u 3), .int (u 4), .int (u 5), .int (u 6), .int (u 7), .int (u 8), .int (u 9), .int (u 10), .int (u 11), .int (u 12), .ref e6, .ref e7, .ref e8, .ref e9, .int (u 13), .ref e10, .ref e11, .int (u 14), .int (u 15), .ref e12, .int (u 16)]))])) (va_A [(mo, .inr (10, [.ref e0, .ref e1, .ref e2, .ref e3, .ref e4, .int 0, .int 0, .int 0, .ref e5, .int 0, .int 0, .int 0, .int 0, .int 0, .int 0, .int 0, .int (-1), .int 0, .int 0, .ref e6, .ref e7, .ref e8, .ref e9, .int 0, .ref e10, .ref e11, .int 0, .int 0, .ref e12, .int 0])), (e0, .inl (τ 0, 16816, .inl (S0))), (e10, .inl (τ 0, 200, .inl (fun _ => 0))), (e11, .inl (τ 0, 200, .inl (fun _ => 0)))] sz)) 0 0 (va_A [(mo, .inr (10, [.ref e0, .ref e1, .ref e2, .ref e3, .ref e4, .int 0, .int 0, .int 0, .ref e5, .int 0, .int 0, .int 0, .int 0, .int 0, .int 0, .int 0, .int (-1), .int 0, .int 0, .ref e6, .ref e7, .ref e8, .ref e9, .int 0, .ref e10, .ref e11, .int 0, .int 0, .ref e12, .int 0])), (e0, .inl (τ 0, 16816, .inl (S0))), (e10, .inl (τ 0, 200, .inl (fun _ => 0))), (e11, .inl (τ 0, 200, .inl (fun _ => 0)))] sz) := by
  refine bodyW (by decide) (Nat.le_of_ble_eq_true rfl) (fun p e s m below meth c ls B hr hlk hin hsz Y hl => ?_)
  have hl : lv_has ls 4 [(0, .ref mo), (1, .int k), (2, .int g)] := hl
  have B : CallFix p m c cX10_pieces 4 s _ wALL RX10 := B
  generalize va_A [(mo, .inr (10, [.ref e0, .ref e1, .ref e2, .ref e3, .ref e4, .int 0, .int 0, .int 0, .ref e5, .int 0, .int 0, .int 0, .int 0, .int 0, .int 0, .int 0, .int (-1), .int 0, .int 0, .ref e6, .ref e7, .ref e8, .ref e9, .int 0, .ref e10, .ref e11, .int 0, .int 0, .ref e12, .int 0])), (e0, .inl (τ 0, 16816, .inl (S0))), (e10, .inl (τ 0, 200, .inl (fun _ => 0))), (e11, .inl (τ 0, 200, .inl (fun _ => 0)))] sz = A at Y ⊢
  by_cases hg : g = 0
  · subst hg
    by_cases hk : ¬ k < 1 ∧ ¬ 1000 < k
    · have hk0 := hk
      obtain ⟨b, hb0, hba, hbb⟩ := i_rng (a := 1) (b := 1000) (by decide) (by decide) hk.1 hk.2
      subst hb0
      have hl : lv_has ls 4 [(0, .ref mo), (1, .int (nI b)), (2, .int 0)] := hl
      refine lv_aload_n B.1 B.2.1 dX10_pieces_0 rfl (lv_at hl 0 rfl) ?_
      refine lv_aload_n B.1 B.2.1 dX10_pieces_1 rfl (lv_at hl 0 rfl) ?_
      refine lv_iload_n B.1 B.2.1 dX10_pieces_2 rfl (lv_at hl 2 rfl) ?_
      refine retI (wc := [(mo, .inr (10, [.ref e0, .ref e1, .ref e2, .ref e3, .ref e4, .int 0, .int 0, .int 0, .ref e5, .int 0, .int 0, .int 0, .int 0, .int 0, .int 0, .int 0, .int (-1), .int 0, .int 0, .ref e6, .ref e7, .ref e8, .ref e9, .int 0, .ref e10, .ref e11, .int 0, .int 0, .ref e12, .int 0])), (e0, .inl (τ 0, 16816, .inl (S0)))]) (wr := [(e10, .inl (τ 0, 200, .inl (fun _ => 0))), (e11, .inl (τ 0, 200, .inl (fun _ => 0)))]) Y [0, 1] [2, 3] rfl rfl (by decide) (by decide) (rV (As := [.int 0]) (rest := [.ref mo]) (q0 := 0) B Y [0, 1] (by decide) rfl (k_isLink l D τ _ mo e0 e1 e2 e3 e4 e5 e6 e7 e8 e9 e10 e11 e12 0 0 0 0 0 0 0 0 0 0 (-1) 0 0 0 0 0 0 (S0) (rfl) 0) rfl rfl q_1900 q_1902 qp_112 q_12 q_1903 rfl rfl hd_X10_isLink ⟨(Nat.le_of_ble_eq_true rfl), (Nat.le_of_ble_eq_true rfl)⟩ rfl hl.1 rfl (Nat.le_of_ble_eq_true rfl) dX10_pieces_3 ⟨(Nat.le_of_ble_eq_true rfl), (Nat.le_of_ble_eq_true rfl)⟩) (fun r u H locs hw Y => ?_)
      have hw : r = 1 := hw.1 rfl
      subst hw
      have Y : Wd D τ s A s.heap [(e10, .inl (τ 0, 200, .inl (fun _ => 0))), (e11, .inl (τ 0, 200, .inl (fun _ => 0))), (mo, .inr (10, [.ref e0, .ref e1, .ref e2, .ref e3, .ref e4, .int 0, .int 0, .int 0, .ref e5, .int 0, .int 0, .int 0, .int 0, .int 0, .int 0, .int 0, .int (-1), .int 0, .int 0, .ref e6, .ref e7, .ref e8, .ref e9, .int 0, .ref e10, .ref e11, .int 0, .int 0, .ref e12, .int 0])), (e0, .inl (τ 0, 16816, .inl (S0)))] H _ := Y
      refine lv_iload_n B.1 B.2.1 dX10_pieces_6 rfl (lv_at hl 1 rfl) ?_
      refine lv_i2l B.1 B.2.1 dX10_pieces_7 rfl ?_
      refine lv_lconst (v := Int32.toInt64 1) B.1 B.2.1 dX10_pieces_8 (by decide) ?_
      refine lv_ldc2 B.1 B.2.1 B.2.2.2.1 (B.2.2.2.2 _ q_2006) dX10_pieces_9 ?_
      refine t_cvL (v := Int32.toInt64 1000) (by decide) ?_
      refine retI (wc := []) (wr := [(e10, .inl (τ 0, 200, .inl (fun _ => 0))), (e11, .inl (τ 0, 200, .inl (fun _ => 0))), (mo, .inr (10, [.ref e0, .ref e1, .ref e2, .ref e3, .ref e4, .int 0, .int 0, .int 0, .ref e5, .int 0, .int 0, .int 0, .int 0, .int 0, .int 0, .int 0, .int (-1), .int 0, .int 0, .ref e6, .ref e7, .ref e8, .ref e9, .int 0, .ref e10, .ref e11, .int 0, .int 0, .ref e12, .int 0])), (e0, .inl (τ 0, 16816, .inl (S0)))]) Y [] [0, 1, 2, 3] rfl rfl (by decide) (by decide) (rS (As := [.long (Int32.toInt64 (nI b)), .long (Int32.toInt64 1), .long (Int32.toInt64 1000)]) (rest := [.int 1, .ref mo]) B Y [] (by decide) rfl (k_in l D τ _ (nI b) 1 1000) q_1593 q_1594 q_12 q_1595 rfl rfl hd_X10_in ⟨(Nat.le_of_ble_eq_true rfl), (Nat.le_of_ble_eq_true rfl)⟩ rfl hl.1 rfl (Nat.le_of_ble_eq_true rfl) dX10_pieces_12 ⟨(Nat.le_of_ble_eq_true rfl), (Nat.le_of_ble_eq_true rfl)⟩) (fun r u H locs hw Y => ?_)
      have hw : r = 1 := hw.1 hk0
      subst hw
      have Y : Wd D τ s A s.heap [(e10, .inl (τ 0, 200, .inl (fun _ => 0))), (e11, .inl (τ 0, 200, .inl (fun _ => 0))), (mo, .inr (10, [.ref e0, .ref e1, .ref e2, .ref e3, .ref e4, .int 0, .int 0, .int 0, .ref e5, .int 0, .int 0, .int 0, .int 0, .int 0, .int 0, .int 0, .int (-1), .int 0, .int 0, .ref e6, .ref e7, .ref e8, .ref e9, .int 0, .ref e10, .ref e11, .int 0, .int 0, .ref e12, .int 0])), (e0, .inl (τ 0, 16816, .inl (S0)))] H _ := Y
      refine retI (wc := [(mo, .inr (10, [.ref e0, .ref e1, .ref e2, .ref e3, .ref e4, .int 0, .int 0, .int 0, .ref e5, .int 0, .int 0, .int 0, .int 0, .int 0, .int 0, .int 0, .int (-1), .int 0, .int 0, .ref e6, .ref e7, .ref e8, .ref e9, .int 0, .ref e10, .ref e11, .int 0, .int 0, .ref e12, .int 0]))]) (wr := [(e10, .inl (τ 0, 200, .inl (fun _ => 0))), (e11, .inl (τ 0, 200, .inl (fun _ => 0))), (e0, .inl (τ 0, 16816, .inl (S0)))]) Y [2] [0, 1, 3] rfl rfl (by decide) (by decide) (rV (As := [.int 1, .int 1]) (rest := []) (q0 := 2) B Y [2] (by decide) rfl (k_passesBoth11 l D τ _ mo e0 e1 e2 e3 e4 e5 e6 e7 e8 e9 e10 e11 e12 0 0 0 0 0 0 0 0 0 0 (-1) 0 0 0 0 0 0) rfl rfl q_1922 q_1924 qp_115 q_12 q_1925 rfl rfl hd_X10_passesBoth ⟨(Nat.le_of_ble_eq_true rfl), (Nat.le_of_ble_eq_true rfl)⟩ rfl hl.1 rfl (Nat.le_of_ble_eq_true rfl) dX10_pieces_15 ⟨(Nat.le_of_ble_eq_true rfl), (Nat.le_of_ble_eq_true rfl)⟩) (fun r u H locs hw Y => ?_)
      have hw : r = 1 := hw
      subst hw
      have Y : Wd D τ s A s.heap [(e10, .inl (τ 0, 200, .inl (fun _ => 0))), (e11, .inl (τ 0, 200, .inl (fun _ => 0))), (e0, .inl (τ 0, 16816, .inl (S0))), (mo, .inr (10, [.ref e0, .ref e1, .ref e2, .ref e3, .ref e4, .int 0, .int 0, .int 0, .ref e5, .int 0, .int 0, .int 0, .int 0, .int 0, .int 0, .int 0, .int (-1), .int 0, .int 0, .ref e6, .ref e7, .ref e8, .ref e9, .int 0, .ref e10, .ref e11, .int 0, .int 0, .ref e12, .int 0]))] H _ := Y
      refine lv_if_ne (tgt := 23) B.1 B.2.1 dX10_pieces_18 (by decide) (fun _ => ?_) (fun h => absurd h (by decide))
      refine lv_aload_n B.1 B.2.1 dX10_pieces_23 rfl (lv_at hl 0 rfl) ?_
      refine lv_iload_n B.1 B.2.1 dX10_pieces_24 rfl (lv_at hl 1 rfl) ?_
      refine retV (wc := [(mo, .inr (10, [.ref e0, .ref e1, .ref e2, .ref e3, .ref e4, .int 0, .int 0, .int 0, .ref e5, .int 0, .int 0, .int 0, .int 0, .int 0, .int 0, .int 0, .int (-1), .int 0, .int 0, .ref e6, .ref e7, .ref e8, .ref e9, .int 0, .ref e10, .ref e11, .int 0, .int 0, .ref e12, .int 0])), (e11, .inl (τ 0, 200, .inl (fun _ => 0)))]) (wr := [(e10, .inl (τ 0, 200, .inl (fun _ => 0))), (e0, .inl (τ 0, 16816, .inl (S0)))]) Y [3, 1] [0, 2] rfl rfl (by decide) (by decide) (rV (As := [.int (nI b)]) (rest := []) (q0 := 3) B Y [3, 1] (by decide) rfl (k_laysWhole l D τ _ mo e0 e1 e2 e3 e4 e5 e6 e7 e8 e9 e10 e11 e12 0 0 0 0 0 0 0 0 0 0 (-1) 0 0 0 0 0 0 (fun _ => 0) (nI b)) rfl rfl q_2007 q_2009 qp_124 q_12 q_2010 rfl rfl hd_X10_laysWhole ⟨(Nat.le_of_ble_eq_true rfl), (Nat.le_of_ble_eq_true rfl)⟩ rfl hl.1 rfl (Nat.le_of_ble_eq_true rfl) dX10_pieces_25 ⟨(Nat.le_of_ble_eq_true rfl), (Nat.le_of_ble_eq_true rfl)⟩) (fun u H locs hw Y => ?_)
      have Y : Wd D τ s A s.heap [(e10, .inl (τ 0, 200, .inl (fun _ => 0))), (e0, .inl (τ 0, 16816, .inl (S0))), (mo, .inr (10, [.ref e0, .ref e1, .ref e2, .ref e3, .ref e4, .int 0, .int 0, .int 0, .ref e5, .int 0, .int 0, .int 0, .int 0, .int 0, .int 0, .int 0, .int (-1), .int 0, .int 0, .ref e6, .ref e7, .ref e8, .ref e9, .int 0, .ref e10, .ref e11, .int 0, .int 1, .ref e12, .int 0])), (e11, .inl (τ 0, 200, .inl (upd (fun _ => 0) 0 (nI b))))] H _ := Y
      refine lv_iconst (v := 0) B.1 B.2.1 dX10_pieces_28 (by decide) ?_
      refine lv_istore_n (lv' := [(3, .int 0), (0, .ref mo), (1, .int (nI b)), (2, .int 0)]) B.1 B.2.1 dX10_pieces_29 rfl hl (by decide) rfl (fun ls hl => ?_)
      refine lv_iload_n B.1 B.2.1 dX10_pieces_30 rfl (lv_at hl 0 rfl) ?_
      refine lv_iload_n B.1 B.2.1 dX10_pieces_31 rfl (lv_at hl 3 rfl) ?_
      refine lv_icmp_gt (tgt := 46) B.1 B.2.1 dX10_pieces_32 (by decide) (fun h => absurd h (by decide)) (fun _ => ?_)
      refine lv_aload_n B.1 B.2.1 dX10_pieces_35 rfl (lv_at hl 1 rfl) ?_
      refine lv_iload_n B.1 B.2.1 dX10_pieces_36 rfl (lv_at hl 0 rfl) ?_
      refine retV (wc := [(mo, .inr (10, [.ref e0, .ref e1, .ref e2, .ref e3, .ref e4, .int 0, .int 0, .int 0, .ref e5, .int 0, .int 0, .int 0, .int 0, .int 0, .int 0, .int 0, .int (-1), .int 0, .int 0, .ref e6, .ref e7, .ref e8, .ref e9, .int 0, .ref e10, .ref e11, .int 0, .int 1, .ref e12, .int 0])), (e0, .inl (τ 0, 16816, .inl (S0))), (e10, .inl (τ 0, 200, .inl (fun _ => 0))), (e11, .inl (τ 0, 200, .inl (upd (fun _ => 0) 0 (nI b))))]) (wr := []) Y [2, 1, 0, 3] [] rfl rfl (by decide) (by decide) (rV (As := [.int 0]) (rest := []) (q0 := 2) B Y [2, 1, 0, 3] (by decide) rfl (k_crosses l D τ _ mo e0 e1 e2 e3 e4 e5 e6 e7 e8 e9 e10 e11 e12 0 0 0 0 0 0 0 0 0 0 (-1) 0 0 0 0 0 (S0) (rfl) (fun _ => 0) (upd (fun _ => 0) 0 (nI b)) b rfl hbb) rfl rfl q_2011 q_2013 qp_125 q_12 q_2014 rfl rfl hd_X10_crosses ⟨(Nat.le_of_ble_eq_true rfl), (Nat.le_of_ble_eq_true rfl)⟩ rfl hl.1 rfl (Nat.le_of_ble_eq_true rfl) dX10_pieces_37 ⟨(Nat.le_of_ble_eq_true rfl), (Nat.le_of_ble_eq_true rfl)⟩) (fun u H locs hw Y => ?_)
      obtain ⟨g1, g2⟩ := u
      have Y : Wd D τ s A s.heap [(mo, .inr (10, [.ref e0, .ref e1, .ref e2, .ref e3, .ref e4, .int 0, .int 0, .int 0, .ref e5, .int 0, .int 0, .int 0, .int 0, .int 0, .int 0, .int 0, .int (-1), .int 0, .int 0, .ref e6, .ref e7, .ref e8, .ref e9, .int 0, .ref e10, .ref e11, .int 1, .int (nI (cutN b + 1)), .ref e12, .int 0])), (e0, .inl (τ 0, 16816, .inl (S0))), (e10, .inl (τ 0, 200, .inl (g1))), (e11, .inl (τ 0, 200, .inl (g2)))] H _ := Y
      refine lv_iinc (v := 1) (lv' := [(3, .int 1), (0, .ref mo), (1, .int (nI b)), (2, .int 0)]) B.1 B.2.1 dX10_pieces_40 hl (k := 0) rfl (by decide) (by decide) rfl (fun ls hl => ?_)
      refine lv_goto (tgt := 30) B.1 B.2.1 dX10_pieces_43 (by decide) ?_
      refine lv_iload_n B.1 B.2.1 dX10_pieces_30 rfl (lv_at hl 0 rfl) ?_
      refine lv_iload_n B.1 B.2.1 dX10_pieces_31 rfl (lv_at hl 3 rfl) ?_
      refine lv_icmp_gt (tgt := 46) B.1 B.2.1 dX10_pieces_32 (by decide) (fun _ => ?_) (fun h => absurd (by decide) h)
      refine lv_aload_n B.1 B.2.1 dX10_pieces_46 rfl (lv_at hl 1 rfl) ?_
      refine gf_X10_426 B Y 0 rfl rfl dX10_pieces_47 ?_
      exact endI B hr hlk Y (lsI [0, 0, 0, 0, 0, 0, 0, 0, 0, 0, (-1), 0, 0, 0, 1, (nI (cutN b + 1)), 0]) ⟨fun _ b2 h1 h2 e => by obtain rfl := nIj (by omega) (by omega) e; exact ⟨by unfold bdN; congr 1; omega, rfl⟩, fun h => absurd rfl h, fun _ h => absurd h (nor2 hk0.1 hk0.2)⟩ [0] (by decide) rfl (Nat.le_of_ble_eq_true rfl) (Nat.le_of_ble_eq_true rfl) dX10_pieces_50
    · refine lv_aload_n B.1 B.2.1 dX10_pieces_0 rfl (lv_at hl 0 rfl) ?_
      refine lv_aload_n B.1 B.2.1 dX10_pieces_1 rfl (lv_at hl 0 rfl) ?_
      refine lv_iload_n B.1 B.2.1 dX10_pieces_2 rfl (lv_at hl 2 rfl) ?_
      refine retI (wc := [(mo, .inr (10, [.ref e0, .ref e1, .ref e2, .ref e3, .ref e4, .int 0, .int 0, .int 0, .ref e5, .int 0, .int 0, .int 0, .int 0, .int 0, .int 0, .int 0, .int (-1), .int 0, .int 0, .ref e6, .ref e7, .ref e8, .ref e9, .int 0, .ref e10, .ref e11, .int 0, .int 0, .ref e12, .int 0])), (e0, .inl (τ 0, 16816, .inl (S0)))]) (wr := [(e10, .inl (τ 0, 200, .inl (fun _ => 0))), (e11, .inl (τ 0, 200, .inl (fun _ => 0)))]) Y [0, 1] [2, 3] rfl rfl (by decide) (by decide) (rV (As := [.int 0]) (rest := [.ref mo]) (q0 := 0) B Y [0, 1] (by decide) rfl (k_isLink l D τ _ mo e0 e1 e2 e3 e4 e5 e6 e7 e8 e9 e10 e11 e12 0 0 0 0 0 0 0 0 0 0 (-1) 0 0 0 0 0 0 (S0) (rfl) 0) rfl rfl q_1900 q_1902 qp_112 q_12 q_1903 rfl rfl hd_X10_isLink ⟨(Nat.le_of_ble_eq_true rfl), (Nat.le_of_ble_eq_true rfl)⟩ rfl hl.1 rfl (Nat.le_of_ble_eq_true rfl) dX10_pieces_3 ⟨(Nat.le_of_ble_eq_true rfl), (Nat.le_of_ble_eq_true rfl)⟩) (fun r u H locs hw Y => ?_)
      have hw : r = 1 := hw.1 rfl
      subst hw
      have Y : Wd D τ s A s.heap [(e10, .inl (τ 0, 200, .inl (fun _ => 0))), (e11, .inl (τ 0, 200, .inl (fun _ => 0))), (mo, .inr (10, [.ref e0, .ref e1, .ref e2, .ref e3, .ref e4, .int 0, .int 0, .int 0, .ref e5, .int 0, .int 0, .int 0, .int 0, .int 0, .int 0, .int 0, .int (-1), .int 0, .int 0, .ref e6, .ref e7, .ref e8, .ref e9, .int 0, .ref e10, .ref e11, .int 0, .int 0, .ref e12, .int 0])), (e0, .inl (τ 0, 16816, .inl (S0)))] H _ := Y
      refine lv_iload_n B.1 B.2.1 dX10_pieces_6 rfl (lv_at hl 1 rfl) ?_
      refine lv_i2l B.1 B.2.1 dX10_pieces_7 rfl ?_
      refine lv_lconst (v := Int32.toInt64 1) B.1 B.2.1 dX10_pieces_8 (by decide) ?_
      refine lv_ldc2 B.1 B.2.1 B.2.2.2.1 (B.2.2.2.2 _ q_2006) dX10_pieces_9 ?_
      refine t_cvL (v := Int32.toInt64 1000) (by decide) ?_
      refine retI (wc := []) (wr := [(e10, .inl (τ 0, 200, .inl (fun _ => 0))), (e11, .inl (τ 0, 200, .inl (fun _ => 0))), (mo, .inr (10, [.ref e0, .ref e1, .ref e2, .ref e3, .ref e4, .int 0, .int 0, .int 0, .ref e5, .int 0, .int 0, .int 0, .int 0, .int 0, .int 0, .int 0, .int (-1), .int 0, .int 0, .ref e6, .ref e7, .ref e8, .ref e9, .int 0, .ref e10, .ref e11, .int 0, .int 0, .ref e12, .int 0])), (e0, .inl (τ 0, 16816, .inl (S0)))]) Y [] [0, 1, 2, 3] rfl rfl (by decide) (by decide) (rS (As := [.long (Int32.toInt64 k), .long (Int32.toInt64 1), .long (Int32.toInt64 1000)]) (rest := [.int 1, .ref mo]) B Y [] (by decide) rfl (k_in l D τ _ k 1 1000) q_1593 q_1594 q_12 q_1595 rfl rfl hd_X10_in ⟨(Nat.le_of_ble_eq_true rfl), (Nat.le_of_ble_eq_true rfl)⟩ rfl hl.1 rfl (Nat.le_of_ble_eq_true rfl) dX10_pieces_12 ⟨(Nat.le_of_ble_eq_true rfl), (Nat.le_of_ble_eq_true rfl)⟩) (fun r u H locs hw Y => ?_)
      have hw : r = 0 := hw.2 (n_or hk)
      subst hw
      have Y : Wd D τ s A s.heap [(e10, .inl (τ 0, 200, .inl (fun _ => 0))), (e11, .inl (τ 0, 200, .inl (fun _ => 0))), (mo, .inr (10, [.ref e0, .ref e1, .ref e2, .ref e3, .ref e4, .int 0, .int 0, .int 0, .ref e5, .int 0, .int 0, .int 0, .int 0, .int 0, .int 0, .int 0, .int (-1), .int 0, .int 0, .ref e6, .ref e7, .ref e8, .ref e9, .int 0, .ref e10, .ref e11, .int 0, .int 0, .ref e12, .int 0])), (e0, .inl (τ 0, 16816, .inl (S0)))] H _ := Y
      refine retI (wc := [(mo, .inr (10, [.ref e0, .ref e1, .ref e2, .ref e3, .ref e4, .int 0, .int 0, .int 0, .ref e5, .int 0, .int 0, .int 0, .int 0, .int 0, .int 0, .int 0, .int (-1), .int 0, .int 0, .ref e6, .ref e7, .ref e8, .ref e9, .int 0, .ref e10, .ref e11, .int 0, .int 0, .ref e12, .int 0]))]) (wr := [(e10, .inl (τ 0, 200, .inl (fun _ => 0))), (e11, .inl (τ 0, 200, .inl (fun _ => 0))), (e0, .inl (τ 0, 16816, .inl (S0)))]) Y [2] [0, 1, 3] rfl rfl (by decide) (by decide) (rV (As := [.int 1, .int 0]) (rest := []) (q0 := 2) B Y [2] (by decide) rfl (k_passesBoth10 l D τ _ mo e0 e1 e2 e3 e4 e5 e6 e7 e8 e9 e10 e11 e12 0 0 0 0 0 0 0 0 0 0 (-1) 0 0 0 0 0 0) rfl rfl q_1922 q_1924 qp_115 q_12 q_1925 rfl rfl hd_X10_passesBoth ⟨(Nat.le_of_ble_eq_true rfl), (Nat.le_of_ble_eq_true rfl)⟩ rfl hl.1 rfl (Nat.le_of_ble_eq_true rfl) dX10_pieces_15 ⟨(Nat.le_of_ble_eq_true rfl), (Nat.le_of_ble_eq_true rfl)⟩) (fun r u H locs hw Y => ?_)
      have hw : r = 0 := hw
      subst hw
      have Y : Wd D τ s A s.heap [(e10, .inl (τ 0, 200, .inl (fun _ => 0))), (e11, .inl (τ 0, 200, .inl (fun _ => 0))), (e0, .inl (τ 0, 16816, .inl (S0))), (mo, .inr (10, [.ref e0, .ref e1, .ref e2, .ref e3, .ref e4, .int 0, .int 2, .int 0, .ref e5, .int 0, .int 0, .int 0, .int 0, .int 0, .int 0, .int 0, .int (-1), .int 0, .int 0, .ref e6, .ref e7, .ref e8, .ref e9, .int 0, .ref e10, .ref e11, .int 0, .int 0, .ref e12, .int 0]))] H _ := Y
      refine lv_if_ne (tgt := 23) B.1 B.2.1 dX10_pieces_18 (by decide) (fun h => absurd (by decide) h) (fun _ => ?_)
      refine lv_iconst (v := 0) B.1 B.2.1 dX10_pieces_21 (by decide) ?_
      exact endI B hr hlk Y (lsI [0, 2, 0, 0, 0, 0, 0, 0, 0, 0, (-1), 0, 0, 0, 0, 0, 0]) ⟨fun _ b2 h1 h2 e => absurd (n_or hk) (by subst e; exact nor2 (nI_nlt (b := 1) h1 (by omega)) (nI_nlt (a := 1000) h2 (by decide))), fun h => absurd rfl h, fun _ _ => rfl⟩ [3] (by decide) rfl (Nat.le_of_ble_eq_true rfl) (Nat.le_of_ble_eq_true rfl) dX10_pieces_22
  · refine lv_aload_n B.1 B.2.1 dX10_pieces_0 rfl (lv_at hl 0 rfl) ?_
    refine lv_aload_n B.1 B.2.1 dX10_pieces_1 rfl (lv_at hl 0 rfl) ?_
    refine lv_iload_n B.1 B.2.1 dX10_pieces_2 rfl (lv_at hl 2 rfl) ?_
    refine retI (wc := [(mo, .inr (10, [.ref e0, .ref e1, .ref e2, .ref e3, .ref e4, .int 0, .int 0, .int 0, .ref e5, .int 0, .int 0, .int 0, .int 0, .int 0, .int 0, .int 0, .int (-1), .int 0, .int 0, .ref e6, .ref e7, .ref e8, .ref e9, .int 0, .ref e10, .ref e11, .int 0, .int 0, .ref e12, .int 0])), (e0, .inl (τ 0, 16816, .inl (S0)))]) (wr := [(e10, .inl (τ 0, 200, .inl (fun _ => 0))), (e11, .inl (τ 0, 200, .inl (fun _ => 0)))]) Y [0, 1] [2, 3] rfl rfl (by decide) (by decide) (rV (As := [.int g]) (rest := [.ref mo]) (q0 := 0) B Y [0, 1] (by decide) rfl (k_isLink l D τ _ mo e0 e1 e2 e3 e4 e5 e6 e7 e8 e9 e10 e11 e12 0 0 0 0 0 0 0 0 0 0 (-1) 0 0 0 0 0 0 (S0) (rfl) g) rfl rfl q_1900 q_1902 qp_112 q_12 q_1903 rfl rfl hd_X10_isLink ⟨(Nat.le_of_ble_eq_true rfl), (Nat.le_of_ble_eq_true rfl)⟩ rfl hl.1 rfl (Nat.le_of_ble_eq_true rfl) dX10_pieces_3 ⟨(Nat.le_of_ble_eq_true rfl), (Nat.le_of_ble_eq_true rfl)⟩) (fun r u H locs hw Y => ?_)
    have hw : r = 0 := hw.2 hg
    subst hw
    have Y : Wd D τ s A s.heap [(e10, .inl (τ 0, 200, .inl (fun _ => 0))), (e11, .inl (τ 0, 200, .inl (fun _ => 0))), (mo, .inr (10, [.ref e0, .ref e1, .ref e2, .ref e3, .ref e4, .int 0, .int 0, .int 0, .ref e5, .int 0, .int 0, .int 0, .int 0, .int 0, .int 0, .int 0, .int (-1), .int 0, .int 0, .ref e6, .ref e7, .ref e8, .ref e9, .int 0, .ref e10, .ref e11, .int 0, .int 0, .ref e12, .int 0])), (e0, .inl (τ 0, 16816, .inl (S0)))] H _ := Y
    refine lv_iload_n B.1 B.2.1 dX10_pieces_6 rfl (lv_at hl 1 rfl) ?_
    refine lv_i2l B.1 B.2.1 dX10_pieces_7 rfl ?_
    refine lv_lconst (v := Int32.toInt64 1) B.1 B.2.1 dX10_pieces_8 (by decide) ?_
    refine lv_ldc2 B.1 B.2.1 B.2.2.2.1 (B.2.2.2.2 _ q_2006) dX10_pieces_9 ?_
    refine t_cvL (v := Int32.toInt64 1000) (by decide) ?_
    refine retI (wc := []) (wr := [(e10, .inl (τ 0, 200, .inl (fun _ => 0))), (e11, .inl (τ 0, 200, .inl (fun _ => 0))), (mo, .inr (10, [.ref e0, .ref e1, .ref e2, .ref e3, .ref e4, .int 0, .int 0, .int 0, .ref e5, .int 0, .int 0, .int 0, .int 0, .int 0, .int 0, .int 0, .int (-1), .int 0, .int 0, .ref e6, .ref e7, .ref e8, .ref e9, .int 0, .ref e10, .ref e11, .int 0, .int 0, .ref e12, .int 0])), (e0, .inl (τ 0, 16816, .inl (S0)))]) Y [] [0, 1, 2, 3] rfl rfl (by decide) (by decide) (rS (As := [.long (Int32.toInt64 k), .long (Int32.toInt64 1), .long (Int32.toInt64 1000)]) (rest := [.int 0, .ref mo]) B Y [] (by decide) rfl (k_in l D τ _ k 1 1000) q_1593 q_1594 q_12 q_1595 rfl rfl hd_X10_in ⟨(Nat.le_of_ble_eq_true rfl), (Nat.le_of_ble_eq_true rfl)⟩ rfl hl.1 rfl (Nat.le_of_ble_eq_true rfl) dX10_pieces_12 ⟨(Nat.le_of_ble_eq_true rfl), (Nat.le_of_ble_eq_true rfl)⟩) (fun r u H locs hw Y => ?_)
    obtain ⟨yr1, rfl⟩ : ∃ z, z = r := ⟨_, rfl⟩
    have Y : Wd D τ s A s.heap [(e10, .inl (τ 0, 200, .inl (fun _ => 0))), (e11, .inl (τ 0, 200, .inl (fun _ => 0))), (mo, .inr (10, [.ref e0, .ref e1, .ref e2, .ref e3, .ref e4, .int 0, .int 0, .int 0, .ref e5, .int 0, .int 0, .int 0, .int 0, .int 0, .int 0, .int 0, .int (-1), .int 0, .int 0, .ref e6, .ref e7, .ref e8, .ref e9, .int 0, .ref e10, .ref e11, .int 0, .int 0, .ref e12, .int 0])), (e0, .inl (τ 0, 16816, .inl (S0)))] H _ := Y
    refine retI (wc := [(mo, .inr (10, [.ref e0, .ref e1, .ref e2, .ref e3, .ref e4, .int 0, .int 0, .int 0, .ref e5, .int 0, .int 0, .int 0, .int 0, .int 0, .int 0, .int 0, .int (-1), .int 0, .int 0, .ref e6, .ref e7, .ref e8, .ref e9, .int 0, .ref e10, .ref e11, .int 0, .int 0, .ref e12, .int 0]))]) (wr := [(e10, .inl (τ 0, 200, .inl (fun _ => 0))), (e11, .inl (τ 0, 200, .inl (fun _ => 0))), (e0, .inl (τ 0, 16816, .inl (S0)))]) Y [2] [0, 1, 3] rfl rfl (by decide) (by decide) (rV (As := [.int 0, .int yr1]) (rest := []) (q0 := 2) B Y [2] (by decide) rfl (k_passesBoth0 l D τ _ mo e0 e1 e2 e3 e4 e5 e6 e7 e8 e9 e10 e11 e12 0 0 0 0 0 0 0 0 0 0 (-1) 0 0 0 0 0 0 yr1) rfl rfl q_1922 q_1924 qp_115 q_12 q_1925 rfl rfl hd_X10_passesBoth ⟨(Nat.le_of_ble_eq_true rfl), (Nat.le_of_ble_eq_true rfl)⟩ rfl hl.1 rfl (Nat.le_of_ble_eq_true rfl) dX10_pieces_15 ⟨(Nat.le_of_ble_eq_true rfl), (Nat.le_of_ble_eq_true rfl)⟩) (fun r u H locs hw Y => ?_)
    have hw : r = 0 := hw
    subst hw
    have Y : Wd D τ s A s.heap [(e10, .inl (τ 0, 200, .inl (fun _ => 0))), (e11, .inl (τ 0, 200, .inl (fun _ => 0))), (e0, .inl (τ 0, 16816, .inl (S0))), (mo, .inr (10, [.ref e0, .ref e1, .ref e2, .ref e3, .ref e4, .int 0, .int 1, .int 0, .ref e5, .int 0, .int 0, .int 0, .int 0, .int 0, .int 0, .int 0, .int (-1), .int 0, .int 0, .ref e6, .ref e7, .ref e8, .ref e9, .int 0, .ref e10, .ref e11, .int 0, .int 0, .ref e12, .int 0]))] H _ := Y
    refine lv_if_ne (tgt := 23) B.1 B.2.1 dX10_pieces_18 (by decide) (fun h => absurd (by decide) h) (fun _ => ?_)
    refine lv_iconst (v := 0) B.1 B.2.1 dX10_pieces_21 (by decide) ?_
    exact endI B hr hlk Y (lsI [0, 1, 0, 0, 0, 0, 0, 0, 0, 0, (-1), 0, 0, 0, 0, 0, 0]) ⟨fun h => absurd h hg, fun _ => rfl, fun h => absurd h hg⟩ [3] (by decide) rfl (Nat.le_of_ble_eq_true rfl) (Nat.le_of_ble_eq_true rfl) dX10_pieces_22

set_option maxHeartbeats 4000000 in
set_option maxRecDepth 100000 in
theorem r_burden (l : Launch) (D : va_G) (τ : Nat → ClassId) (sz : Nat) (mo e0 e1 e2 e3 e4 e5 e6 e7 e8 e9 e10 e11 e12 : Nat) (k : Int32) : Met l yX10_burden (Cond.code yX10_burden cX10_burden 2 (some .int) :: wALL) { frames := 3, cells := 0, slots := 0, locals := 69 } (Pw D τ [(mo, .inr (10, [.ref e0, .ref e1, .ref e2, .ref e3, .ref e4, .int 0, .int 0, .int 0, .ref e5, .int 0, .int 0, .int 0, .int 0, .int 0, .int 0, .int 0, .int (-1), .int 0, .int 0, .ref e6, .ref e7, .ref e8, .ref e9, .int 0, .ref e10, .ref e11, .int 0, .int 0, .ref e12, .int 0])), (e0, .inl (τ 0, 16816, .inl (S0))), (e10, .inl (τ 0, 200, .inl (fun _ => 0))), (e11, .inl (τ 0, 200, .inl (fun _ => 0)))] sz [.ref mo, .int k]) (va_Qi (fun (r : Int32) (u : Nat → Int32) => (∀ b : Nat, 1 ≤ b → b ≤ 1000 → k = nI b → r = nI (bdN 0 1 b) ∧ u 1 = 0) ∧ (k < 1 ∨ 1000 < k → u 1 = 1)) (Bw D (va_A [(mo, .inr (10, [.ref e0, .ref e1, .ref e2, .ref e3, .ref e4, .int 0, .int 0, .int 0, .ref e5, .int 0, .int 0, .int 0, .int 0, .int 0, .int 0, .int 0, .int (-1), .int 0, .int 0, .ref e6, .ref e7, .ref e8, .ref e9, .int 0, .ref e10, .ref e11, .int 0, .int 0, .ref e12, .int 0])), (e0, .inl (τ 0, 16816, .inl (S0))), (e10, .inl (τ 0, 200, .inl (fun _ => 0))), (e11, .inl (τ 0, 200, .inl (fun _ => 0)))] sz) (fun (u : Nat → Int32) => [(mo, .inr (10, [.ref e0, .ref e1, .ref e2, .ref e3, .ref e4, .int (u 0), .int (u 1), .int (u 2), .ref e5, .int (u 3), .int (u 4), .int (u 5), .int (u 6), .int (u 7), .int (u 8), .int (u 9), .int (u 10), .int (u 11), .int (u 12), .ref e6, .ref e7, .ref e8, .ref e9, .int (u 13), .ref e10, .ref e11, .int (u 14), .int (u 15), .ref e12, .int (u 16)]))])) (va_A [(mo, .inr (10, [.ref e0, .ref e1, .ref e2, .ref e3, .ref e4, .int 0, .int 0, .int 0, .ref e5, .int 0, .int 0, .int 0, .int 0, .int 0, .int 0, .int 0, .int (-1), .int 0, .int 0, .ref e6, .ref e7, .ref e8, .ref e9, .int 0, .ref e10, .ref e11, .int 0, .int 0, .ref e12, .int 0])), (e0, .inl (τ 0, 16816, .inl (S0))), (e10, .inl (τ 0, 200, .inl (fun _ => 0))), (e11, .inl (τ 0, 200, .inl (fun _ => 0)))] sz)) 0 0 (va_A [(mo, .inr (10, [.ref e0, .ref e1, .ref e2, .ref e3, .ref e4, .int 0, .int 0, .int 0, .ref e5, .int 0, .int 0, .int 0, .int 0, .int 0, .int 0, .int 0, .int (-1), .int 0, .int 0, .ref e6, .ref e7, .ref e8, .ref e9, .int 0, .ref e10, .ref e11, .int 0, .int 0, .ref e12, .int 0])), (e0, .inl (τ 0, 16816, .inl (S0))), (e10, .inl (τ 0, 200, .inl (fun _ => 0))), (e11, .inl (τ 0, 200, .inl (fun _ => 0)))] sz) := by
  refine bodyW (by decide) (Nat.le_of_ble_eq_true rfl) (fun p e s m below meth c ls B hr hlk hin hsz Y hl => ?_)
  have hl : lv_has ls 2 [(0, .ref mo), (1, .int k)] := hl
  have B : CallFix p m c cX10_burden 2 s _ wALL RX10 := B
  generalize va_A [(mo, .inr (10, [.ref e0, .ref e1, .ref e2, .ref e3, .ref e4, .int 0, .int 0, .int 0, .ref e5, .int 0, .int 0, .int 0, .int 0, .int 0, .int 0, .int 0, .int (-1), .int 0, .int 0, .ref e6, .ref e7, .ref e8, .ref e9, .int 0, .ref e10, .ref e11, .int 0, .int 0, .ref e12, .int 0])), (e0, .inl (τ 0, 16816, .inl (S0))), (e10, .inl (τ 0, 200, .inl (fun _ => 0))), (e11, .inl (τ 0, 200, .inl (fun _ => 0)))] sz = A at Y ⊢
  by_cases hk : ¬ k < 1 ∧ ¬ 1000 < k
  · have hk0 := hk
    obtain ⟨b, hb0, hba, hbb⟩ := i_rng (a := 1) (b := 1000) (by decide) (by decide) hk.1 hk.2
    subst hb0
    have hl : lv_has ls 2 [(0, .ref mo), (1, .int (nI b))] := hl
    refine lv_aload_n B.1 B.2.1 dX10_burden_0 rfl (lv_at hl 0 rfl) ?_
    refine lv_iload_n B.1 B.2.1 dX10_burden_1 rfl (lv_at hl 1 rfl) ?_
    refine lv_i2l B.1 B.2.1 dX10_burden_2 rfl ?_
    refine lv_lconst (v := Int32.toInt64 1) B.1 B.2.1 dX10_burden_3 (by decide) ?_
    refine lv_ldc2 B.1 B.2.1 B.2.2.2.1 (B.2.2.2.2 _ q_2006) dX10_burden_4 ?_
    refine t_cvL (v := Int32.toInt64 1000) (by decide) ?_
    refine retI (wc := []) (wr := [(mo, .inr (10, [.ref e0, .ref e1, .ref e2, .ref e3, .ref e4, .int 0, .int 0, .int 0, .ref e5, .int 0, .int 0, .int 0, .int 0, .int 0, .int 0, .int 0, .int (-1), .int 0, .int 0, .ref e6, .ref e7, .ref e8, .ref e9, .int 0, .ref e10, .ref e11, .int 0, .int 0, .ref e12, .int 0])), (e0, .inl (τ 0, 16816, .inl (S0))), (e10, .inl (τ 0, 200, .inl (fun _ => 0))), (e11, .inl (τ 0, 200, .inl (fun _ => 0)))]) Y [] [0, 1, 2, 3] rfl rfl (by decide) (by decide) (rS (As := [.long (Int32.toInt64 (nI b)), .long (Int32.toInt64 1), .long (Int32.toInt64 1000)]) (rest := [.ref mo]) B Y [] (by decide) rfl (k_in l D τ _ (nI b) 1 1000) q_1593 q_1594 q_12 q_1595 rfl rfl hd_X10_in ⟨(Nat.le_of_ble_eq_true rfl), (Nat.le_of_ble_eq_true rfl)⟩ rfl hl.1 rfl (Nat.le_of_ble_eq_true rfl) dX10_burden_7 ⟨(Nat.le_of_ble_eq_true rfl), (Nat.le_of_ble_eq_true rfl)⟩) (fun r u H locs hw Y => ?_)
    have hw : r = 1 := hw.1 hk0
    subst hw
    have Y : Wd D τ s A s.heap [(mo, .inr (10, [.ref e0, .ref e1, .ref e2, .ref e3, .ref e4, .int 0, .int 0, .int 0, .ref e5, .int 0, .int 0, .int 0, .int 0, .int 0, .int 0, .int 0, .int (-1), .int 0, .int 0, .ref e6, .ref e7, .ref e8, .ref e9, .int 0, .ref e10, .ref e11, .int 0, .int 0, .ref e12, .int 0])), (e0, .inl (τ 0, 16816, .inl (S0))), (e10, .inl (τ 0, 200, .inl (fun _ => 0))), (e11, .inl (τ 0, 200, .inl (fun _ => 0)))] H _ := Y
    refine retI (wc := [(mo, .inr (10, [.ref e0, .ref e1, .ref e2, .ref e3, .ref e4, .int 0, .int 0, .int 0, .ref e5, .int 0, .int 0, .int 0, .int 0, .int 0, .int 0, .int 0, .int (-1), .int 0, .int 0, .ref e6, .ref e7, .ref e8, .ref e9, .int 0, .ref e10, .ref e11, .int 0, .int 0, .ref e12, .int 0]))]) (wr := [(e0, .inl (τ 0, 16816, .inl (S0))), (e10, .inl (τ 0, 200, .inl (fun _ => 0))), (e11, .inl (τ 0, 200, .inl (fun _ => 0)))]) Y [0] [1, 2, 3] rfl rfl (by decide) (by decide) (rV (As := [.int 1]) (rest := []) (q0 := 0) B Y [0] (by decide) rfl (k_passes1 l D τ _ mo e0 e1 e2 e3 e4 e5 e6 e7 e8 e9 e10 e11 e12 0 0 0 0 0 0 0 0 0 0 (-1) 0 0 0 0 0 0) rfl rfl q_1581 q_1583 qp_46 q_12 q_1584 rfl rfl hd_X10_passes ⟨(Nat.le_of_ble_eq_true rfl), (Nat.le_of_ble_eq_true rfl)⟩ rfl hl.1 rfl (Nat.le_of_ble_eq_true rfl) dX10_burden_10 ⟨(Nat.le_of_ble_eq_true rfl), (Nat.le_of_ble_eq_true rfl)⟩) (fun r u H locs hw Y => ?_)
    have hw : r = 1 := hw
    subst hw
    have Y : Wd D τ s A s.heap [(e0, .inl (τ 0, 16816, .inl (S0))), (e10, .inl (τ 0, 200, .inl (fun _ => 0))), (e11, .inl (τ 0, 200, .inl (fun _ => 0))), (mo, .inr (10, [.ref e0, .ref e1, .ref e2, .ref e3, .ref e4, .int 0, .int 0, .int 0, .ref e5, .int 0, .int 0, .int 0, .int 0, .int 0, .int 0, .int 0, .int (-1), .int 0, .int 0, .ref e6, .ref e7, .ref e8, .ref e9, .int 0, .ref e10, .ref e11, .int 0, .int 0, .ref e12, .int 0]))] H _ := Y
    refine lv_if_eq (tgt := 24) B.1 B.2.1 dX10_burden_13 (by decide) (fun h => absurd h (by decide)) (fun _ => ?_)
    refine lv_aload_n B.1 B.2.1 dX10_burden_16 rfl (lv_at hl 0 rfl) ?_
    refine lv_iload_n B.1 B.2.1 dX10_burden_17 rfl (lv_at hl 1 rfl) ?_
    refine retI (wc := [(mo, .inr (10, [.ref e0, .ref e1, .ref e2, .ref e3, .ref e4, .int 0, .int 0, .int 0, .ref e5, .int 0, .int 0, .int 0, .int 0, .int 0, .int 0, .int 0, .int (-1), .int 0, .int 0, .ref e6, .ref e7, .ref e8, .ref e9, .int 0, .ref e10, .ref e11, .int 0, .int 0, .ref e12, .int 0])), (e0, .inl (τ 0, 16816, .inl (S0))), (e10, .inl (τ 0, 200, .inl (fun _ => 0))), (e11, .inl (τ 0, 200, .inl (fun _ => 0)))]) (wr := []) Y [3, 0, 1, 2] [] rfl rfl (by decide) (by decide) (rV (As := [.int (nI b)]) (rest := []) (q0 := 3) B Y [3, 0, 1, 2] (by decide) rfl (k_burdenOf l D τ _ mo e0 e1 e2 e3 e4 e5 e6 e7 e8 e9 e10 e11 e12 0 0 0 0 0 0 0 0 0 0 (-1) 0 0 0 0 0 0 (S0) (rfl) (rfl) (fun _ => 0) (fun _ => 0) b hbb) rfl rfl q_2019 q_2021 qp_126 q_12 q_2022 rfl rfl hd_X10_burdenOf ⟨(Nat.le_of_ble_eq_true rfl), (Nat.le_of_ble_eq_true rfl)⟩ rfl hl.1 rfl (Nat.le_of_ble_eq_true rfl) dX10_burden_18 ⟨(Nat.le_of_ble_eq_true rfl), (Nat.le_of_ble_eq_true rfl)⟩) (fun r u H locs hw Y => ?_)
    have hw : r = nI (bdN 0 1 b) := hw
    subst hw
    obtain ⟨g1, g2⟩ := u
    have Y : Wd D τ s A s.heap [(mo, .inr (10, [.ref e0, .ref e1, .ref e2, .ref e3, .ref e4, .int 0, .int 0, .int 0, .ref e5, .int 0, .int 0, .int 0, .int 0, .int 0, .int 0, .int 0, .int (-1), .int 0, .int 0, .ref e6, .ref e7, .ref e8, .ref e9, .int 0, .ref e10, .ref e11, .int 1, .int (nI (cutN b + 1)), .ref e12, .int 0])), (e0, .inl (τ 0, 16816, .inl (S0))), (e10, .inl (τ 0, 200, .inl (g1))), (e11, .inl (τ 0, 200, .inl (g2)))] H _ := Y
    refine lv_goto (tgt := 25) B.1 B.2.1 dX10_burden_21 (by decide) ?_
    exact endI B hr hlk Y (lsI [0, 0, 0, 0, 0, 0, 0, 0, 0, 0, (-1), 0, 0, 0, 1, (nI (cutN b + 1)), 0]) ⟨fun b2 h1 h2 e => by obtain rfl := nIj (by omega) (by omega) e; exact ⟨rfl, rfl⟩, fun h => absurd h (nor2 hk0.1 hk0.2)⟩ [0] (by decide) rfl (Nat.le_of_ble_eq_true rfl) (Nat.le_of_ble_eq_true rfl) dX10_burden_25
  · refine lv_aload_n B.1 B.2.1 dX10_burden_0 rfl (lv_at hl 0 rfl) ?_
    refine lv_iload_n B.1 B.2.1 dX10_burden_1 rfl (lv_at hl 1 rfl) ?_
    refine lv_i2l B.1 B.2.1 dX10_burden_2 rfl ?_
    refine lv_lconst (v := Int32.toInt64 1) B.1 B.2.1 dX10_burden_3 (by decide) ?_
    refine lv_ldc2 B.1 B.2.1 B.2.2.2.1 (B.2.2.2.2 _ q_2006) dX10_burden_4 ?_
    refine t_cvL (v := Int32.toInt64 1000) (by decide) ?_
    refine retI (wc := []) (wr := [(mo, .inr (10, [.ref e0, .ref e1, .ref e2, .ref e3, .ref e4, .int 0, .int 0, .int 0, .ref e5, .int 0, .int 0, .int 0, .int 0, .int 0, .int 0, .int 0, .int (-1), .int 0, .int 0, .ref e6, .ref e7, .ref e8, .ref e9, .int 0, .ref e10, .ref e11, .int 0, .int 0, .ref e12, .int 0])), (e0, .inl (τ 0, 16816, .inl (S0))), (e10, .inl (τ 0, 200, .inl (fun _ => 0))), (e11, .inl (τ 0, 200, .inl (fun _ => 0)))]) Y [] [0, 1, 2, 3] rfl rfl (by decide) (by decide) (rS (As := [.long (Int32.toInt64 k), .long (Int32.toInt64 1), .long (Int32.toInt64 1000)]) (rest := [.ref mo]) B Y [] (by decide) rfl (k_in l D τ _ k 1 1000) q_1593 q_1594 q_12 q_1595 rfl rfl hd_X10_in ⟨(Nat.le_of_ble_eq_true rfl), (Nat.le_of_ble_eq_true rfl)⟩ rfl hl.1 rfl (Nat.le_of_ble_eq_true rfl) dX10_burden_7 ⟨(Nat.le_of_ble_eq_true rfl), (Nat.le_of_ble_eq_true rfl)⟩) (fun r u H locs hw Y => ?_)
    have hw : r = 0 := hw.2 (n_or hk)
    subst hw
    have Y : Wd D τ s A s.heap [(mo, .inr (10, [.ref e0, .ref e1, .ref e2, .ref e3, .ref e4, .int 0, .int 0, .int 0, .ref e5, .int 0, .int 0, .int 0, .int 0, .int 0, .int 0, .int 0, .int (-1), .int 0, .int 0, .ref e6, .ref e7, .ref e8, .ref e9, .int 0, .ref e10, .ref e11, .int 0, .int 0, .ref e12, .int 0])), (e0, .inl (τ 0, 16816, .inl (S0))), (e10, .inl (τ 0, 200, .inl (fun _ => 0))), (e11, .inl (τ 0, 200, .inl (fun _ => 0)))] H _ := Y
    refine retI (wc := [(mo, .inr (10, [.ref e0, .ref e1, .ref e2, .ref e3, .ref e4, .int 0, .int 0, .int 0, .ref e5, .int 0, .int 0, .int 0, .int 0, .int 0, .int 0, .int 0, .int (-1), .int 0, .int 0, .ref e6, .ref e7, .ref e8, .ref e9, .int 0, .ref e10, .ref e11, .int 0, .int 0, .ref e12, .int 0]))]) (wr := [(e0, .inl (τ 0, 16816, .inl (S0))), (e10, .inl (τ 0, 200, .inl (fun _ => 0))), (e11, .inl (τ 0, 200, .inl (fun _ => 0)))]) Y [0] [1, 2, 3] rfl rfl (by decide) (by decide) (rV (As := [.int 0]) (rest := []) (q0 := 0) B Y [0] (by decide) rfl (k_passes0 l D τ _ mo e0 e1 e2 e3 e4 e5 e6 e7 e8 e9 e10 e11 e12 0 0 0 0 0 0 0 0 0 0 (-1) 0 0 0 0 0 0) rfl rfl q_1581 q_1583 qp_46 q_12 q_1584 rfl rfl hd_X10_passes ⟨(Nat.le_of_ble_eq_true rfl), (Nat.le_of_ble_eq_true rfl)⟩ rfl hl.1 rfl (Nat.le_of_ble_eq_true rfl) dX10_burden_10 ⟨(Nat.le_of_ble_eq_true rfl), (Nat.le_of_ble_eq_true rfl)⟩) (fun r u H locs hw Y => ?_)
    have hw : r = 0 := hw
    subst hw
    have Y : Wd D τ s A s.heap [(e0, .inl (τ 0, 16816, .inl (S0))), (e10, .inl (τ 0, 200, .inl (fun _ => 0))), (e11, .inl (τ 0, 200, .inl (fun _ => 0))), (mo, .inr (10, [.ref e0, .ref e1, .ref e2, .ref e3, .ref e4, .int 0, .int 1, .int 0, .ref e5, .int 0, .int 0, .int 0, .int 0, .int 0, .int 0, .int 0, .int (-1), .int 0, .int 0, .ref e6, .ref e7, .ref e8, .ref e9, .int 0, .ref e10, .ref e11, .int 0, .int 0, .ref e12, .int 0]))] H _ := Y
    refine lv_if_eq (tgt := 24) B.1 B.2.1 dX10_burden_13 (by decide) (fun _ => ?_) (fun h => absurd (by decide) h)
    refine lv_iconst (v := 0) B.1 B.2.1 dX10_burden_24 (by decide) ?_
    exact endI B hr hlk Y (lsI [0, 1, 0, 0, 0, 0, 0, 0, 0, 0, (-1), 0, 0, 0, 0, 0, 0]) ⟨fun b2 h1 h2 e => absurd (n_or hk) (by subst e; exact nor2 (nI_nlt (b := 1) h1 (by omega)) (nI_nlt (a := 1000) h2 (by decide))), fun _ => rfl⟩ [3] (by decide) rfl (Nat.le_of_ble_eq_true rfl) (Nat.le_of_ble_eq_true rfl) dX10_burden_25
