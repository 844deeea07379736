set_option maxHeartbeats 4000000 in
set_option maxRecDepth 100000 in
theorem r_forge (l : Launch) (D : va_G) (τ : Nat → ClassId) (sz : Nat) (mo e0 e1 e2 e3 e4 e5 e6 e7 e8 e9 e10 e11 e12 : Nat) (k y1 y2 y3 y4 : Int32) : Met l yX10_forge (Cond.code yX10_forge cX10_forge 7 (some .int) :: wALL) { frames := 2, cells := 0, slots := 0, locals := 46 } (Pw D τ [(mo, .inr (10, [.ref e0, .ref e1, .ref e2, .ref e3, .ref e4, .int 0, .int 0, .int 0, .ref e5, .int 0, .int 0, .int 0, .int 0, .int 0, .int 0, .int 0, .int (-1), .int 0, .int 0, .ref e6, .ref e7, .ref e8, .ref e9, .int 0, .ref e10, .ref e11, .int 0, .int 0, .ref e12, .int 0])), (e0, .inl (τ 0, 16816, .inl (S0)))] sz [.ref mo, .int k, .int y1, .int y2, .int y3, .int y4]) (va_Qi (fun (r : Int32) (u : Nat → Int32) => u 1 = 1) (Bw D (va_A [(mo, .inr (10, [.ref e0, .ref e1, .ref e2, .ref e3, .ref e4, .int 0, .int 0, .int 0, .ref e5, .int 0, .int 0, .int 0, .int 0, .int 0, .int 0, .int 0, .int (-1), .int 0, .int 0, .ref e6, .ref e7, .ref e8, .ref e9, .int 0, .ref e10, .ref e11, .int 0, .int 0, .ref e12, .int 0])), (e0, .inl (τ 0, 16816, .inl (S0)))] sz) (fun (u : Nat → Int32) => [(mo, .inr (10, [.ref e0, .ref e1, .ref e2, .ref e3, .ref e4, .int (u 0), .int (u 1), .int (u 2), .ref e5, .int (u 3), .int (u 4), .int (u 5), .int (u 6), .int (u 7), .int (u 8), .int (u 9), .int (u 10), .int (u 11), .int (u 12), .ref e6, .ref e7, .ref e8, .ref e9, .int (u 13), .ref e10, .ref e11, .int (u 14), .int (u 15), .ref e12, .int (u 16)]))])) (va_A [(mo, .inr (10, [.ref e0, .ref e1, .ref e2, .ref e3, .ref e4, .int 0, .int 0, .int 0, .ref e5, .int 0, .int 0, .int 0, .int 0, .int 0, .int 0, .int 0, .int (-1), .int 0, .int 0, .ref e6, .ref e7, .ref e8, .ref e9, .int 0, .ref e10, .ref e11, .int 0, .int 0, .ref e12, .int 0])), (e0, .inl (τ 0, 16816, .inl (S0)))] sz)) 0 0 (va_A [(mo, .inr (10, [.ref e0, .ref e1, .ref e2, .ref e3, .ref e4, .int 0, .int 0, .int 0, .ref e5, .int 0, .int 0, .int 0, .int 0, .int 0, .int 0, .int 0, .int (-1), .int 0, .int 0, .ref e6, .ref e7, .ref e8, .ref e9, .int 0, .ref e10, .ref e11, .int 0, .int 0, .ref e12, .int 0])), (e0, .inl (τ 0, 16816, .inl (S0)))] sz) := by
  refine bodyW (by decide) (Nat.le_of_ble_eq_true rfl) (fun p e s m below meth c ls B hr hlk hin hsz Y hl => ?_)
  have hl : lv_has ls 7 [(0, .ref mo), (1, .int k), (2, .int y1), (3, .int y2), (4, .int y3), (5, .int y4)] := hl
  have B : CallFix p m c cX10_forge 7 s _ wALL RX10 := B
  generalize va_A [(mo, .inr (10, [.ref e0, .ref e1, .ref e2, .ref e3, .ref e4, .int 0, .int 0, .int 0, .ref e5, .int 0, .int 0, .int 0, .int 0, .int 0, .int 0, .int 0, .int (-1), .int 0, .int 0, .ref e6, .ref e7, .ref e8, .ref e9, .int 0, .ref e10, .ref e11, .int 0, .int 0, .ref e12, .int 0])), (e0, .inl (τ 0, 16816, .inl (S0)))] sz = A at Y ⊢
  refine lv_iload_n B.1 B.2.1 dX10_forge_0 rfl (lv_at hl 2 rfl) ?_
  refine lv_i2l B.1 B.2.1 dX10_forge_1 rfl ?_
  refine lv_lconst (v := Int32.toInt64 0) B.1 B.2.1 dX10_forge_2 (by decide) ?_
  refine lv_ldc2 B.1 B.2.1 B.2.2.2.1 (B.2.2.2.2 _ q_2126) dX10_forge_3 ?_
  refine t_cvL (v := Int32.toInt64 992) (by decide) ?_
  refine retI (wc := []) (wr := [(mo, .inr (10, [.ref e0, .ref e1, .ref e2, .ref e3, .ref e4, .int 0, .int 0, .int 0, .ref e5, .int 0, .int 0, .int 0, .int 0, .int 0, .int 0, .int 0, .int (-1), .int 0, .int 0, .ref e6, .ref e7, .ref e8, .ref e9, .int 0, .ref e10, .ref e11, .int 0, .int 0, .ref e12, .int 0])), (e0, .inl (τ 0, 16816, .inl (S0)))]) Y [] [0, 1] rfl rfl (by decide) (by decide) (rS (As := [.long (Int32.toInt64 y1), .long (Int32.toInt64 0), .long (Int32.toInt64 992)]) (rest := []) B Y [] (by decide) rfl (k_in l D τ _ y1 0 992) q_1593 q_1594 q_12 q_1595 rfl rfl hd_X10_in ⟨(Nat.le_of_ble_eq_true rfl), (Nat.le_of_ble_eq_true rfl)⟩ rfl hl.1 rfl (Nat.le_of_ble_eq_true rfl) dX10_forge_6 ⟨(Nat.le_of_ble_eq_true rfl), (Nat.le_of_ble_eq_true rfl)⟩) (fun r u H locs hw Y => ?_)
  obtain ⟨yr1, rfl⟩ : ∃ z, z = r := ⟨_, rfl⟩
  have Y : Wd D τ s A s.heap [(mo, .inr (10, [.ref e0, .ref e1, .ref e2, .ref e3, .ref e4, .int 0, .int 0, .int 0, .ref e5, .int 0, .int 0, .int 0, .int 0, .int 0, .int 0, .int 0, .int (-1), .int 0, .int 0, .ref e6, .ref e7, .ref e8, .ref e9, .int 0, .ref e10, .ref e11, .int 0, .int 0, .ref e12, .int 0])), (e0, .inl (τ 0, 16816, .inl (S0)))] H _ := Y
  refine lv_if_eq (tgt := 48) B.1 B.2.1 dX10_forge_9 (by decide) (fun c2 => ?_) (fun c2 => ?_)
  · refine lv_iconst (v := 0) B.1 B.2.1 dX10_forge_48 (by decide) ?_
    refine lv_istore (lv' := [(6, .int 0), (0, .ref mo), (1, .int k), (2, .int y1), (3, .int y2), (4, .int y3), (5, .int y4)]) B.1 B.2.1 dX10_forge_49 hl (by decide) rfl (fun ls hl => ?_)
    refine lv_aload_n B.1 B.2.1 dX10_forge_51 rfl (lv_at hl 1 rfl) ?_
    refine lv_aload_n B.1 B.2.1 dX10_forge_52 rfl (lv_at hl 1 rfl) ?_
    refine lv_aload_n B.1 B.2.1 dX10_forge_53 rfl (lv_at hl 1 rfl) ?_
    refine lv_iload_n B.1 B.2.1 dX10_forge_54 rfl (lv_at hl 2 rfl) ?_
    refine retI (wc := [(mo, .inr (10, [.ref e0, .ref e1, .ref e2, .ref e3, .ref e4, .int 0, .int 0, .int 0, .ref e5, .int 0, .int 0, .int 0, .int 0, .int 0, .int 0, .int 0, .int (-1), .int 0, .int 0, .ref e6, .ref e7, .ref e8, .ref e9, .int 0, .ref e10, .ref e11, .int 0, .int 0, .ref e12, .int 0])), (e0, .inl (τ 0, 16816, .inl (S0)))]) (wr := []) Y [0, 1] [] rfl rfl (by decide) (by decide) (rV (As := [.int k]) (rest := [.ref mo, .ref mo]) (q0 := 0) B Y [0, 1] (by decide) rfl (k_isData l D τ _ mo e0 e1 e2 e3 e4 e5 e6 e7 e8 e9 e10 e11 e12 0 0 0 0 0 0 0 0 0 0 (-1) 0 0 0 0 0 0 (S0) (rfl) k) rfl rfl q_1780 q_1782 qp_83 q_12 q_1783 rfl rfl hd_X10_isData ⟨(Nat.le_of_ble_eq_true rfl), (Nat.le_of_ble_eq_true rfl)⟩ rfl hl.1 rfl (Nat.le_of_ble_eq_true rfl) dX10_forge_55 ⟨(Nat.le_of_ble_eq_true rfl), (Nat.le_of_ble_eq_true rfl)⟩) (fun r u H locs hw Y => ?_)
    have hw : r = 0 := hw
    subst hw
    have Y : Wd D τ s A s.heap [(mo, .inr (10, [.ref e0, .ref e1, .ref e2, .ref e3, .ref e4, .int 0, .int 0, .int 0, .ref e5, .int 0, .int 0, .int 0, .int 0, .int 0, .int 0, .int 0, .int (-1), .int 0, .int 0, .ref e6, .ref e7, .ref e8, .ref e9, .int 0, .ref e10, .ref e11, .int 0, .int 0, .ref e12, .int 0])), (e0, .inl (τ 0, 16816, .inl (S0)))] H _ := Y
    refine lv_iload B.1 B.2.1 dX10_forge_58 (lv_at hl 0 rfl) ?_
    refine retI (wc := [(mo, .inr (10, [.ref e0, .ref e1, .ref e2, .ref e3, .ref e4, .int 0, .int 0, .int 0, .ref e5, .int 0, .int 0, .int 0, .int 0, .int 0, .int 0, .int 0, .int (-1), .int 0, .int 0, .ref e6, .ref e7, .ref e8, .ref e9, .int 0, .ref e10, .ref e11, .int 0, .int 0, .ref e12, .int 0]))]) (wr := [(e0, .inl (τ 0, 16816, .inl (S0)))]) Y [0] [1] rfl rfl (by decide) (by decide) (rV (As := [.int 0, .int 0]) (rest := [.ref mo]) (q0 := 0) B Y [0] (by decide) rfl (k_passesBoth0 l D τ _ mo e0 e1 e2 e3 e4 e5 e6 e7 e8 e9 e10 e11 e12 0 0 0 0 0 0 0 0 0 0 (-1) 0 0 0 0 0 0 0) rfl rfl q_1922 q_1924 qp_115 q_12 q_1925 rfl rfl hd_X10_passesBoth ⟨(Nat.le_of_ble_eq_true rfl), (Nat.le_of_ble_eq_true rfl)⟩ rfl hl.1 rfl (Nat.le_of_ble_eq_true rfl) dX10_forge_60 ⟨(Nat.le_of_ble_eq_true rfl), (Nat.le_of_ble_eq_true rfl)⟩) (fun r u H locs hw Y => ?_)
    have hw : r = 0 := hw
    subst hw
    have Y : Wd D τ s A s.heap [(e0, .inl (τ 0, 16816, .inl (S0))), (mo, .inr (10, [.ref e0, .ref e1, .ref e2, .ref e3, .ref e4, .int 0, .int 1, .int 0, .ref e5, .int 0, .int 0, .int 0, .int 0, .int 0, .int 0, .int 0, .int (-1), .int 0, .int 0, .ref e6, .ref e7, .ref e8, .ref e9, .int 0, .ref e10, .ref e11, .int 0, .int 0, .ref e12, .int 0]))] H _ := Y
    refine retI (wc := [(mo, .inr (10, [.ref e0, .ref e1, .ref e2, .ref e3, .ref e4, .int 0, .int 1, .int 0, .ref e5, .int 0, .int 0, .int 0, .int 0, .int 0, .int 0, .int 0, .int (-1), .int 0, .int 0, .ref e6, .ref e7, .ref e8, .ref e9, .int 0, .ref e10, .ref e11, .int 0, .int 0, .ref e12, .int 0]))]) (wr := [(e0, .inl (τ 0, 16816, .inl (S0)))]) Y [1] [0] rfl rfl (by decide) (by decide) (rV (As := [.int 0]) (rest := []) (q0 := 1) B Y [1] (by decide) rfl (k_tried0 l D τ _ mo e0 e1 e2 e3 e4 e5 e6 e7 e8 e9 e10 e11 e12 0 1 0 0 0 0 0 0 0 0 (-1) 0 0 0 0 0 0) rfl rfl q_2104 q_2106 qp_133 q_12 q_2107 rfl rfl hd_X10_tried ⟨(Nat.le_of_ble_eq_true rfl), (Nat.le_of_ble_eq_true rfl)⟩ rfl hl.1 rfl (Nat.le_of_ble_eq_true rfl) dX10_forge_63 ⟨(Nat.le_of_ble_eq_true rfl), (Nat.le_of_ble_eq_true rfl)⟩) (fun r u H locs hw Y => ?_)
    have hw : r = 0 := hw
    subst hw
    have Y : Wd D τ s A s.heap [(e0, .inl (τ 0, 16816, .inl (S0))), (mo, .inr (10, [.ref e0, .ref e1, .ref e2, .ref e3, .ref e4, .int 0, .int 1, .int 0, .ref e5, .int 0, .int 0, .int 0, .int 0, .int 0, .int 0, .int 0, .int (-1), .int 0, .int 0, .ref e6, .ref e7, .ref e8, .ref e9, .int 0, .ref e10, .ref e11, .int 0, .int 0, .ref e12, .int 0]))] H _ := Y
    refine lv_if_eq (tgt := 87) B.1 B.2.1 dX10_forge_66 (by decide) (fun _ => ?_) (fun h => absurd (by decide) h)
    refine lv_iconst (v := 0) B.1 B.2.1 dX10_forge_87 (by decide) ?_
    exact endI B hr hlk Y (lsI [0, 1, 0, 0, 0, 0, 0, 0, 0, 0, (-1), 0, 0, 0, 0, 0, 0]) rfl [1] (by decide) rfl (Nat.le_of_ble_eq_true rfl) (Nat.le_of_ble_eq_true rfl) dX10_forge_88
  · refine lv_iload_n B.1 B.2.1 dX10_forge_12 rfl (lv_at hl 2 rfl) ?_
    refine lv_bipush (v := 8) B.1 B.2.1 dX10_forge_13 (by decide) ?_
    refine lv_irem B.1 B.2.1 dX10_forge_15 (by decide) ?_
    refine lv_topi (fun z3 ez3 => ?_)
    refine lv_if_ne (tgt := 48) B.1 B.2.1 dX10_forge_16 (by decide) (fun c4 => ?_) (fun c4 => ?_)
    · refine lv_iconst (v := 0) B.1 B.2.1 dX10_forge_48 (by decide) ?_
      refine lv_istore (lv' := [(6, .int 0), (0, .ref mo), (1, .int k), (2, .int y1), (3, .int y2), (4, .int y3), (5, .int y4)]) B.1 B.2.1 dX10_forge_49 hl (by decide) rfl (fun ls hl => ?_)
      refine lv_aload_n B.1 B.2.1 dX10_forge_51 rfl (lv_at hl 1 rfl) ?_
      refine lv_aload_n B.1 B.2.1 dX10_forge_52 rfl (lv_at hl 1 rfl) ?_
      refine lv_aload_n B.1 B.2.1 dX10_forge_53 rfl (lv_at hl 1 rfl) ?_
      refine lv_iload_n B.1 B.2.1 dX10_forge_54 rfl (lv_at hl 2 rfl) ?_
      refine retI (wc := [(mo, .inr (10, [.ref e0, .ref e1, .ref e2, .ref e3, .ref e4, .int 0, .int 0, .int 0, .ref e5, .int 0, .int 0, .int 0, .int 0, .int 0, .int 0, .int 0, .int (-1), .int 0, .int 0, .ref e6, .ref e7, .ref e8, .ref e9, .int 0, .ref e10, .ref e11, .int 0, .int 0, .ref e12, .int 0])), (e0, .inl (τ 0, 16816, .inl (S0)))]) (wr := []) Y [0, 1] [] rfl rfl (by decide) (by decide) (rV (As := [.int k]) (rest := [.ref mo, .ref mo]) (q0 := 0) B Y [0, 1] (by decide) rfl (k_isData l D τ _ mo e0 e1 e2 e3 e4 e5 e6 e7 e8 e9 e10 e11 e12 0 0 0 0 0 0 0 0 0 0 (-1) 0 0 0 0 0 0 (S0) (rfl) k) rfl rfl q_1780 q_1782 qp_83 q_12 q_1783 rfl rfl hd_X10_isData ⟨(Nat.le_of_ble_eq_true rfl), (Nat.le_of_ble_eq_true rfl)⟩ rfl hl.1 rfl (Nat.le_of_ble_eq_true rfl) dX10_forge_55 ⟨(Nat.le_of_ble_eq_true rfl), (Nat.le_of_ble_eq_true rfl)⟩) (fun r u H locs hw Y => ?_)
      have hw : r = 0 := hw
      subst hw
      have Y : Wd D τ s A s.heap [(mo, .inr (10, [.ref e0, .ref e1, .ref e2, .ref e3, .ref e4, .int 0, .int 0, .int 0, .ref e5, .int 0, .int 0, .int 0, .int 0, .int 0, .int 0, .int 0, .int (-1), .int 0, .int 0, .ref e6, .ref e7, .ref e8, .ref e9, .int 0, .ref e10, .ref e11, .int 0, .int 0, .ref e12, .int 0])), (e0, .inl (τ 0, 16816, .inl (S0)))] H _ := Y
      refine lv_iload B.1 B.2.1 dX10_forge_58 (lv_at hl 0 rfl) ?_
      refine retI (wc := [(mo, .inr (10, [.ref e0, .ref e1, .ref e2, .ref e3, .ref e4, .int 0, .int 0, .int 0, .ref e5, .int 0, .int 0, .int 0, .int 0, .int 0, .int 0, .int 0, .int (-1), .int 0, .int 0, .ref e6, .ref e7, .ref e8, .ref e9, .int 0, .ref e10, .ref e11, .int 0, .int 0, .ref e12, .int 0]))]) (wr := [(e0, .inl (τ 0, 16816, .inl (S0)))]) Y [0] [1] rfl rfl (by decide) (by decide) (rV (As := [.int 0, .int 0]) (rest := [.ref mo]) (q0 := 0) B Y [0] (by decide) rfl (k_passesBoth0 l D τ _ mo e0 e1 e2 e3 e4 e5 e6 e7 e8 e9 e10 e11 e12 0 0 0 0 0 0 0 0 0 0 (-1) 0 0 0 0 0 0 0) rfl rfl q_1922 q_1924 qp_115 q_12 q_1925 rfl rfl hd_X10_passesBoth ⟨(Nat.le_of_ble_eq_true rfl), (Nat.le_of_ble_eq_true rfl)⟩ rfl hl.1 rfl (Nat.le_of_ble_eq_true rfl) dX10_forge_60 ⟨(Nat.le_of_ble_eq_true rfl), (Nat.le_of_ble_eq_true rfl)⟩) (fun r u H locs hw Y => ?_)
      have hw : r = 0 := hw
      subst hw
      have Y : Wd D τ s A s.heap [(e0, .inl (τ 0, 16816, .inl (S0))), (mo, .inr (10, [.ref e0, .ref e1, .ref e2, .ref e3, .ref e4, .int 0, .int 1, .int 0, .ref e5, .int 0, .int 0, .int 0, .int 0, .int 0, .int 0, .int 0, .int (-1), .int 0, .int 0, .ref e6, .ref e7, .ref e8, .ref e9, .int 0, .ref e10, .ref e11, .int 0, .int 0, .ref e12, .int 0]))] H _ := Y
      refine retI (wc := [(mo, .inr (10, [.ref e0, .ref e1, .ref e2, .ref e3, .ref e4, .int 0, .int 1, .int 0, .ref e5, .int 0, .int 0, .int 0, .int 0, .int 0, .int 0, .int 0, .int (-1), .int 0, .int 0, .ref e6, .ref e7, .ref e8, .ref e9, .int 0, .ref e10, .ref e11, .int 0, .int 0, .ref e12, .int 0]))]) (wr := [(e0, .inl (τ 0, 16816, .inl (S0)))]) Y [1] [0] rfl rfl (by decide) (by decide) (rV (As := [.int 0]) (rest := []) (q0 := 1) B Y [1] (by decide) rfl (k_tried0 l D τ _ mo e0 e1 e2 e3 e4 e5 e6 e7 e8 e9 e10 e11 e12 0 1 0 0 0 0 0 0 0 0 (-1) 0 0 0 0 0 0) rfl rfl q_2104 q_2106 qp_133 q_12 q_2107 rfl rfl hd_X10_tried ⟨(Nat.le_of_ble_eq_true rfl), (Nat.le_of_ble_eq_true rfl)⟩ rfl hl.1 rfl (Nat.le_of_ble_eq_true rfl) dX10_forge_63 ⟨(Nat.le_of_ble_eq_true rfl), (Nat.le_of_ble_eq_true rfl)⟩) (fun r u H locs hw Y => ?_)
      have hw : r = 0 := hw
      subst hw
      have Y : Wd D τ s A s.heap [(e0, .inl (τ 0, 16816, .inl (S0))), (mo, .inr (10, [.ref e0, .ref e1, .ref e2, .ref e3, .ref e4, .int 0, .int 1, .int 0, .ref e5, .int 0, .int 0, .int 0, .int 0, .int 0, .int 0, .int 0, .int (-1), .int 0, .int 0, .ref e6, .ref e7, .ref e8, .ref e9, .int 0, .ref e10, .ref e11, .int 0, .int 0, .ref e12, .int 0]))] H _ := Y
      refine lv_if_eq (tgt := 87) B.1 B.2.1 dX10_forge_66 (by decide) (fun _ => ?_) (fun h => absurd (by decide) h)
      refine lv_iconst (v := 0) B.1 B.2.1 dX10_forge_87 (by decide) ?_
      exact endI B hr hlk Y (lsI [0, 1, 0, 0, 0, 0, 0, 0, 0, 0, (-1), 0, 0, 0, 0, 0, 0]) rfl [1] (by decide) rfl (Nat.le_of_ble_eq_true rfl) (Nat.le_of_ble_eq_true rfl) dX10_forge_88
    · refine lv_iload_n B.1 B.2.1 dX10_forge_19 rfl (lv_at hl 3 rfl) ?_
      refine lv_i2l B.1 B.2.1 dX10_forge_20 rfl ?_
      refine lv_lconst (v := Int32.toInt64 1) B.1 B.2.1 dX10_forge_21 (by decide) ?_
      refine lv_ldc2 B.1 B.2.1 B.2.2.2.1 (B.2.2.2.2 _ q_2089) dX10_forge_22 ?_
      refine t_cvL (v := Int32.toInt64 200) (by decide) ?_
      refine retI (wc := []) (wr := [(mo, .inr (10, [.ref e0, .ref e1, .ref e2, .ref e3, .ref e4, .int 0, .int 0, .int 0, .ref e5, .int 0, .int 0, .int 0, .int 0, .int 0, .int 0, .int 0, .int (-1), .int 0, .int 0, .ref e6, .ref e7, .ref e8, .ref e9, .int 0, .ref e10, .ref e11, .int 0, .int 0, .ref e12, .int 0])), (e0, .inl (τ 0, 16816, .inl (S0)))]) Y [] [0, 1] rfl rfl (by decide) (by decide) (rS (As := [.long (Int32.toInt64 y2), .long (Int32.toInt64 1), .long (Int32.toInt64 200)]) (rest := []) B Y [] (by decide) rfl (k_in l D τ _ y2 1 200) q_1593 q_1594 q_12 q_1595 rfl rfl hd_X10_in ⟨(Nat.le_of_ble_eq_true rfl), (Nat.le_of_ble_eq_true rfl)⟩ rfl hl.1 rfl (Nat.le_of_ble_eq_true rfl) dX10_forge_25 ⟨(Nat.le_of_ble_eq_true rfl), (Nat.le_of_ble_eq_true rfl)⟩) (fun r u H locs hw Y => ?_)
      obtain ⟨yr5, rfl⟩ : ∃ z, z = r := ⟨_, rfl⟩
      have Y : Wd D τ s A s.heap [(mo, .inr (10, [.ref e0, .ref e1, .ref e2, .ref e3, .ref e4, .int 0, .int 0, .int 0, .ref e5, .int 0, .int 0, .int 0, .int 0, .int 0, .int 0, .int 0, .int (-1), .int 0, .int 0, .ref e6, .ref e7, .ref e8, .ref e9, .int 0, .ref e10, .ref e11, .int 0, .int 0, .ref e12, .int 0])), (e0, .inl (τ 0, 16816, .inl (S0)))] H _ := Y
      refine lv_if_eq (tgt := 48) B.1 B.2.1 dX10_forge_28 (by decide) (fun c6 => ?_) (fun c6 => ?_)
      · refine lv_iconst (v := 0) B.1 B.2.1 dX10_forge_48 (by decide) ?_
        refine lv_istore (lv' := [(6, .int 0), (0, .ref mo), (1, .int k), (2, .int y1), (3, .int y2), (4, .int y3), (5, .int y4)]) B.1 B.2.1 dX10_forge_49 hl (by decide) rfl (fun ls hl => ?_)
        refine lv_aload_n B.1 B.2.1 dX10_forge_51 rfl (lv_at hl 1 rfl) ?_
        refine lv_aload_n B.1 B.2.1 dX10_forge_52 rfl (lv_at hl 1 rfl) ?_
        refine lv_aload_n B.1 B.2.1 dX10_forge_53 rfl (lv_at hl 1 rfl) ?_
        refine lv_iload_n B.1 B.2.1 dX10_forge_54 rfl (lv_at hl 2 rfl) ?_
        refine retI (wc := [(mo, .inr (10, [.ref e0, .ref e1, .ref e2, .ref e3, .ref e4, .int 0, .int 0, .int 0, .ref e5, .int 0, .int 0, .int 0, .int 0, .int 0, .int 0, .int 0, .int (-1), .int 0, .int 0, .ref e6, .ref e7, .ref e8, .ref e9, .int 0, .ref e10, .ref e11, .int 0, .int 0, .ref e12, .int 0])), (e0, .inl (τ 0, 16816, .inl (S0)))]) (wr := []) Y [0, 1] [] rfl rfl (by decide) (by decide) (rV (As := [.int k]) (rest := [.ref mo, .ref mo]) (q0 := 0) B Y [0, 1] (by decide) rfl (k_isData l D τ _ mo e0 e1 e2 e3 e4 e5 e6 e7 e8 e9 e10 e11 e12 0 0 0 0 0 0 0 0 0 0 (-1) 0 0 0 0 0 0 (S0) (rfl) k) rfl rfl q_1780 q_1782 qp_83 q_12 q_1783 rfl rfl hd_X10_isData ⟨(Nat.le_of_ble_eq_true rfl), (Nat.le_of_ble_eq_true rfl)⟩ rfl hl.1 rfl (Nat.le_of_ble_eq_true rfl) dX10_forge_55 ⟨(Nat.le_of_ble_eq_true rfl), (Nat.le_of_ble_eq_true rfl)⟩) (fun r u H locs hw Y => ?_)
        have hw : r = 0 := hw
        subst hw
        have Y : Wd D τ s A s.heap [(mo, .inr (10, [.ref e0, .ref e1, .ref e2, .ref e3, .ref e4, .int 0, .int 0, .int 0, .ref e5, .int 0, .int 0, .int 0, .int 0, .int 0, .int 0, .int 0, .int (-1), .int 0, .int 0, .ref e6, .ref e7, .ref e8, .ref e9, .int 0, .ref e10, .ref e11, .int 0, .int 0, .ref e12, .int 0])), (e0, .inl (τ 0, 16816, .inl (S0)))] H _ := Y
        refine lv_iload B.1 B.2.1 dX10_forge_58 (lv_at hl 0 rfl) ?_
        refine retI (wc := [(mo, .inr (10, [.ref e0, .ref e1, .ref e2, .ref e3, .ref e4, .int 0, .int 0, .int 0, .ref e5, .int 0, .int 0, .int 0, .int 0, .int 0, .int 0, .int 0, .int (-1), .int 0, .int 0, .ref e6, .ref e7, .ref e8, .ref e9, .int 0, .ref e10, .ref e11, .int 0, .int 0, .ref e12, .int 0]))]) (wr := [(e0, .inl (τ 0, 16816, .inl (S0)))]) Y [0] [1] rfl rfl (by decide) (by decide) (rV (As := [.int 0, .int 0]) (rest := [.ref mo]) (q0 := 0) B Y [0] (by decide) rfl (k_passesBoth0 l D τ _ mo e0 e1 e2 e3 e4 e5 e6 e7 e8 e9 e10 e11 e12 0 0 0 0 0 0 0 0 0 0 (-1) 0 0 0 0 0 0 0) rfl rfl q_1922 q_1924 qp_115 q_12 q_1925 rfl rfl hd_X10_passesBoth ⟨(Nat.le_of_ble_eq_true rfl), (Nat.le_of_ble_eq_true rfl)⟩ rfl hl.1 rfl (Nat.le_of_ble_eq_true rfl) dX10_forge_60 ⟨(Nat.le_of_ble_eq_true rfl), (Nat.le_of_ble_eq_true rfl)⟩) (fun r u H locs hw Y => ?_)
        have hw : r = 0 := hw
        subst hw
        have Y : Wd D τ s A s.heap [(e0, .inl (τ 0, 16816, .inl (S0))), (mo, .inr (10, [.ref e0, .ref e1, .ref e2, .ref e3, .ref e4, .int 0, .int 1, .int 0, .ref e5, .int 0, .int 0, .int 0, .int 0, .int 0, .int 0, .int 0, .int (-1), .int 0, .int 0, .ref e6, .ref e7, .ref e8, .ref e9, .int 0, .ref e10, .ref e11, .int 0, .int 0, .ref e12, .int 0]))] H _ := Y
        refine retI (wc := [(mo, .inr (10, [.ref e0, .ref e1, .ref e2, .ref e3, .ref e4, .int 0, .int 1, .int 0, .ref e5, .int 0, .int 0, .int 0, .int 0, .int 0, .int 0, .int 0, .int (-1), .int 0, .int 0, .ref e6, .ref e7, .ref e8, .ref e9, .int 0, .ref e10, .ref e11, .int 0, .int 0, .ref e12, .int 0]))]) (wr := [(e0, .inl (τ 0, 16816, .inl (S0)))]) Y [1] [0] rfl rfl (by decide) (by decide) (rV (As := [.int 0]) (rest := []) (q0 := 1) B Y [1] (by decide) rfl (k_tried0 l D τ _ mo e0 e1 e2 e3 e4 e5 e6 e7 e8 e9 e10 e11 e12 0 1 0 0 0 0 0 0 0 0 (-1) 0 0 0 0 0 0) rfl rfl q_2104 q_2106 qp_133 q_12 q_2107 rfl rfl hd_X10_tried ⟨(Nat.le_of_ble_eq_true rfl), (Nat.le_of_ble_eq_true rfl)⟩ rfl hl.1 rfl (Nat.le_of_ble_eq_true rfl) dX10_forge_63 ⟨(Nat.le_of_ble_eq_true rfl), (Nat.le_of_ble_eq_true rfl)⟩) (fun r u H locs hw Y => ?_)
        have hw : r = 0 := hw
        subst hw
        have Y : Wd D τ s A s.heap [(e0, .inl (τ 0, 16816, .inl (S0))), (mo, .inr (10, [.ref e0, .ref e1, .ref e2, .ref e3, .ref e4, .int 0, .int 1, .int 0, .ref e5, .int 0, .int 0, .int 0, .int 0, .int 0, .int 0, .int 0, .int (-1), .int 0, .int 0, .ref e6, .ref e7, .ref e8, .ref e9, .int 0, .ref e10, .ref e11, .int 0, .int 0, .ref e12, .int 0]))] H _ := Y
        refine lv_if_eq (tgt := 87) B.1 B.2.1 dX10_forge_66 (by decide) (fun _ => ?_) (fun h => absurd (by decide) h)
        refine lv_iconst (v := 0) B.1 B.2.1 dX10_forge_87 (by decide) ?_
        exact endI B hr hlk Y (lsI [0, 1, 0, 0, 0, 0, 0, 0, 0, 0, (-1), 0, 0, 0, 0, 0, 0]) rfl [1] (by decide) rfl (Nat.le_of_ble_eq_true rfl) (Nat.le_of_ble_eq_true rfl) dX10_forge_88
      · refine lv_iload B.1 B.2.1 dX10_forge_31 (lv_at hl 4 rfl) ?_
        refine lv_i2l B.1 B.2.1 dX10_forge_33 rfl ?_
        refine lv_lconst (v := Int32.toInt64 0) B.1 B.2.1 dX10_forge_34 (by decide) ?_
        refine lv_ldc2 B.1 B.2.1 B.2.2.2.1 (B.2.2.2.2 _ q_2103) dX10_forge_35 ?_
        refine t_cvL (v := Int32.toInt64 255) (by decide) ?_
        refine retI (wc := []) (wr := [(mo, .inr (10, [.ref e0, .ref e1, .ref e2, .ref e3, .ref e4, .int 0, .int 0, .int 0, .ref e5, .int 0, .int 0, .int 0, .int 0, .int 0, .int 0, .int 0, .int (-1), .int 0, .int 0, .ref e6, .ref e7, .ref e8, .ref e9, .int 0, .ref e10, .ref e11, .int 0, .int 0, .ref e12, .int 0])), (e0, .inl (τ 0, 16816, .inl (S0)))]) Y [] [0, 1] rfl rfl (by decide) (by decide) (rS (As := [.long (Int32.toInt64 y3), .long (Int32.toInt64 0), .long (Int32.toInt64 255)]) (rest := []) B Y [] (by decide) rfl (k_in l D τ _ y3 0 255) q_1593 q_1594 q_12 q_1595 rfl rfl hd_X10_in ⟨(Nat.le_of_ble_eq_true rfl), (Nat.le_of_ble_eq_true rfl)⟩ rfl hl.1 rfl (Nat.le_of_ble_eq_true rfl) dX10_forge_38 ⟨(Nat.le_of_ble_eq_true rfl), (Nat.le_of_ble_eq_true rfl)⟩) (fun r u H locs hw Y => ?_)
        obtain ⟨yr7, rfl⟩ : ∃ z, z = r := ⟨_, rfl⟩
        have Y : Wd D τ s A s.heap [(mo, .inr (10, [.ref e0, .ref e1, .ref e2, .ref e3, .ref e4, .int 0, .int 0, .int 0, .ref e5, .int 0, .int 0, .int 0, .int 0, .int 0, .int 0, .int 0, .int (-1), .int 0, .int 0, .ref e6, .ref e7, .ref e8, .ref e9, .int 0, .ref e10, .ref e11, .int 0, .int 0, .ref e12, .int 0])), (e0, .inl (τ 0, 16816, .inl (S0)))] H _ := Y
        refine lv_if_eq (tgt := 48) B.1 B.2.1 dX10_forge_41 (by decide) (fun c8 => ?_) (fun c8 => ?_)
        · refine lv_iconst (v := 0) B.1 B.2.1 dX10_forge_48 (by decide) ?_
          refine lv_istore (lv' := [(6, .int 0), (0, .ref mo), (1, .int k), (2, .int y1), (3, .int y2), (4, .int y3), (5, .int y4)]) B.1 B.2.1 dX10_forge_49 hl (by decide) rfl (fun ls hl => ?_)
          refine lv_aload_n B.1 B.2.1 dX10_forge_51 rfl (lv_at hl 1 rfl) ?_
          refine lv_aload_n B.1 B.2.1 dX10_forge_52 rfl (lv_at hl 1 rfl) ?_
          refine lv_aload_n B.1 B.2.1 dX10_forge_53 rfl (lv_at hl 1 rfl) ?_
          refine lv_iload_n B.1 B.2.1 dX10_forge_54 rfl (lv_at hl 2 rfl) ?_
          refine retI (wc := [(mo, .inr (10, [.ref e0, .ref e1, .ref e2, .ref e3, .ref e4, .int 0, .int 0, .int 0, .ref e5, .int 0, .int 0, .int 0, .int 0, .int 0, .int 0, .int 0, .int (-1), .int 0, .int 0, .ref e6, .ref e7, .ref e8, .ref e9, .int 0, .ref e10, .ref e11, .int 0, .int 0, .ref e12, .int 0])), (e0, .inl (τ 0, 16816, .inl (S0)))]) (wr := []) Y [0, 1] [] rfl rfl (by decide) (by decide) (rV (As := [.int k]) (rest := [.ref mo, .ref mo]) (q0 := 0) B Y [0, 1] (by decide) rfl (k_isData l D τ _ mo e0 e1 e2 e3 e4 e5 e6 e7 e8 e9 e10 e11 e12 0 0 0 0 0 0 0 0 0 0 (-1) 0 0 0 0 0 0 (S0) (rfl) k) rfl rfl q_1780 q_1782 qp_83 q_12 q_1783 rfl rfl hd_X10_isData ⟨(Nat.le_of_ble_eq_true rfl), (Nat.le_of_ble_eq_true rfl)⟩ rfl hl.1 rfl (Nat.le_of_ble_eq_true rfl) dX10_forge_55 ⟨(Nat.le_of_ble_eq_true rfl), (Nat.le_of_ble_eq_true rfl)⟩) (fun r u H locs hw Y => ?_)
          have hw : r = 0 := hw
          subst hw
          have Y : Wd D τ s A s.heap [(mo, .inr (10, [.ref e0, .ref e1, .ref e2, .ref e3, .ref e4, .int 0, .int 0, .int 0, .ref e5, .int 0, .int 0, .int 0, .int 0, .int 0, .int 0, .int 0, .int (-1), .int 0, .int 0, .ref e6, .ref e7, .ref e8, .ref e9, .int 0, .ref e10, .ref e11, .int 0, .int 0, .ref e12, .int 0])), (e0, .inl (τ 0, 16816, .inl (S0)))] H _ := Y
          refine lv_iload B.1 B.2.1 dX10_forge_58 (lv_at hl 0 rfl) ?_
          refine retI (wc := [(mo, .inr (10, [.ref e0, .ref e1, .ref e2, .ref e3, .ref e4, .int 0, .int 0, .int 0, .ref e5, .int 0, .int 0, .int 0, .int 0, .int 0, .int 0, .int 0, .int (-1), .int 0, .int 0, .ref e6, .ref e7, .ref e8, .ref e9, .int 0, .ref e10, .ref e11, .int 0, .int 0, .ref e12, .int 0]))]) (wr := [(e0, .inl (τ 0, 16816, .inl (S0)))]) Y [0] [1] rfl rfl (by decide) (by decide) (rV (As := [.int 0, .int 0]) (rest := [.ref mo]) (q0 := 0) B Y [0] (by decide) rfl (k_passesBoth0 l D τ _ mo e0 e1 e2 e3 e4 e5 e6 e7 e8 e9 e10 e11 e12 0 0 0 0 0 0 0 0 0 0 (-1) 0 0 0 0 0 0 0) rfl rfl q_1922 q_1924 qp_115 q_12 q_1925 rfl rfl hd_X10_passesBoth ⟨(Nat.le_of_ble_eq_true rfl), (Nat.le_of_ble_eq_true rfl)⟩ rfl hl.1 rfl (Nat.le_of_ble_eq_true rfl) dX10_forge_60 ⟨(Nat.le_of_ble_eq_true rfl), (Nat.le_of_ble_eq_true rfl)⟩) (fun r u H locs hw Y => ?_)
          have hw : r = 0 := hw
          subst hw
          have Y : Wd D τ s A s.heap [(e0, .inl (τ 0, 16816, .inl (S0))), (mo, .inr (10, [.ref e0, .ref e1, .ref e2, .ref e3, .ref e4, .int 0, .int 1, .int 0, .ref e5, .int 0, .int 0, .int 0, .int 0, .int 0, .int 0, .int 0, .int (-1), .int 0, .int 0, .ref e6, .ref e7, .ref e8, .ref e9, .int 0, .ref e10, .ref e11, .int 0, .int 0, .ref e12, .int 0]))] H _ := Y
          refine retI (wc := [(mo, .inr (10, [.ref e0, .ref e1, .ref e2, .ref e3, .ref e4, .int 0, .int 1, .int 0, .ref e5, .int 0, .int 0, .int 0, .int 0, .int 0, .int 0, .int 0, .int (-1), .int 0, .int 0, .ref e6, .ref e7, .ref e8, .ref e9, .int 0, .ref e10, .ref e11, .int 0, .int 0, .ref e12, .int 0]))]) (wr := [(e0, .inl (τ 0, 16816, .inl (S0)))]) Y [1] [0] rfl rfl (by decide) (by decide) (rV (As := [.int 0]) (rest := []) (q0 := 1) B Y [1] (by decide) rfl (k_tried0 l D τ _ mo e0 e1 e2 e3 e4 e5 e6 e7 e8 e9 e10 e11 e12 0 1 0 0 0 0 0 0 0 0 (-1) 0 0 0 0 0 0) rfl rfl q_2104 q_2106 qp_133 q_12 q_2107 rfl rfl hd_X10_tried ⟨(Nat.le_of_ble_eq_true rfl), (Nat.le_of_ble_eq_true rfl)⟩ rfl hl.1 rfl (Nat.le_of_ble_eq_true rfl) dX10_forge_63 ⟨(Nat.le_of_ble_eq_true rfl), (Nat.le_of_ble_eq_true rfl)⟩) (fun r u H locs hw Y => ?_)
          have hw : r = 0 := hw
          subst hw
          have Y : Wd D τ s A s.heap [(e0, .inl (τ 0, 16816, .inl (S0))), (mo, .inr (10, [.ref e0, .ref e1, .ref e2, .ref e3, .ref e4, .int 0, .int 1, .int 0, .ref e5, .int 0, .int 0, .int 0, .int 0, .int 0, .int 0, .int 0, .int (-1), .int 0, .int 0, .ref e6, .ref e7, .ref e8, .ref e9, .int 0, .ref e10, .ref e11, .int 0, .int 0, .ref e12, .int 0]))] H _ := Y
          refine lv_if_eq (tgt := 87) B.1 B.2.1 dX10_forge_66 (by decide) (fun _ => ?_) (fun h => absurd (by decide) h)
          refine lv_iconst (v := 0) B.1 B.2.1 dX10_forge_87 (by decide) ?_
          exact endI B hr hlk Y (lsI [0, 1, 0, 0, 0, 0, 0, 0, 0, 0, (-1), 0, 0, 0, 0, 0, 0]) rfl [1] (by decide) rfl (Nat.le_of_ble_eq_true rfl) (Nat.le_of_ble_eq_true rfl) dX10_forge_88
        · refine lv_iconst (v := 1) B.1 B.2.1 dX10_forge_44 (by decide) ?_
          refine lv_goto (tgt := 49) B.1 B.2.1 dX10_forge_45 (by decide) ?_
          refine lv_istore (lv' := [(6, .int 1), (0, .ref mo), (1, .int k), (2, .int y1), (3, .int y2), (4, .int y3), (5, .int y4)]) B.1 B.2.1 dX10_forge_49 hl (by decide) rfl (fun ls hl => ?_)
          refine lv_aload_n B.1 B.2.1 dX10_forge_51 rfl (lv_at hl 1 rfl) ?_
          refine lv_aload_n B.1 B.2.1 dX10_forge_52 rfl (lv_at hl 1 rfl) ?_
          refine lv_aload_n B.1 B.2.1 dX10_forge_53 rfl (lv_at hl 1 rfl) ?_
          refine lv_iload_n B.1 B.2.1 dX10_forge_54 rfl (lv_at hl 2 rfl) ?_
          refine retI (wc := [(mo, .inr (10, [.ref e0, .ref e1, .ref e2, .ref e3, .ref e4, .int 0, .int 0, .int 0, .ref e5, .int 0, .int 0, .int 0, .int 0, .int 0, .int 0, .int 0, .int (-1), .int 0, .int 0, .ref e6, .ref e7, .ref e8, .ref e9, .int 0, .ref e10, .ref e11, .int 0, .int 0, .ref e12, .int 0])), (e0, .inl (τ 0, 16816, .inl (S0)))]) (wr := []) Y [0, 1] [] rfl rfl (by decide) (by decide) (rV (As := [.int k]) (rest := [.ref mo, .ref mo]) (q0 := 0) B Y [0, 1] (by decide) rfl (k_isData l D τ _ mo e0 e1 e2 e3 e4 e5 e6 e7 e8 e9 e10 e11 e12 0 0 0 0 0 0 0 0 0 0 (-1) 0 0 0 0 0 0 (S0) (rfl) k) rfl rfl q_1780 q_1782 qp_83 q_12 q_1783 rfl rfl hd_X10_isData ⟨(Nat.le_of_ble_eq_true rfl), (Nat.le_of_ble_eq_true rfl)⟩ rfl hl.1 rfl (Nat.le_of_ble_eq_true rfl) dX10_forge_55 ⟨(Nat.le_of_ble_eq_true rfl), (Nat.le_of_ble_eq_true rfl)⟩) (fun r u H locs hw Y => ?_)
          have hw : r = 0 := hw
          subst hw
          have Y : Wd D τ s A s.heap [(mo, .inr (10, [.ref e0, .ref e1, .ref e2, .ref e3, .ref e4, .int 0, .int 0, .int 0, .ref e5, .int 0, .int 0, .int 0, .int 0, .int 0, .int 0, .int 0, .int (-1), .int 0, .int 0, .ref e6, .ref e7, .ref e8, .ref e9, .int 0, .ref e10, .ref e11, .int 0, .int 0, .ref e12, .int 0])), (e0, .inl (τ 0, 16816, .inl (S0)))] H _ := Y
          refine lv_iload B.1 B.2.1 dX10_forge_58 (lv_at hl 0 rfl) ?_
          refine retI (wc := [(mo, .inr (10, [.ref e0, .ref e1, .ref e2, .ref e3, .ref e4, .int 0, .int 0, .int 0, .ref e5, .int 0, .int 0, .int 0, .int 0, .int 0, .int 0, .int 0, .int (-1), .int 0, .int 0, .ref e6, .ref e7, .ref e8, .ref e9, .int 0, .ref e10, .ref e11, .int 0, .int 0, .ref e12, .int 0]))]) (wr := [(e0, .inl (τ 0, 16816, .inl (S0)))]) Y [0] [1] rfl rfl (by decide) (by decide) (rV (As := [.int 0, .int 1]) (rest := [.ref mo]) (q0 := 0) B Y [0] (by decide) rfl (k_passesBoth0 l D τ _ mo e0 e1 e2 e3 e4 e5 e6 e7 e8 e9 e10 e11 e12 0 0 0 0 0 0 0 0 0 0 (-1) 0 0 0 0 0 0 1) rfl rfl q_1922 q_1924 qp_115 q_12 q_1925 rfl rfl hd_X10_passesBoth ⟨(Nat.le_of_ble_eq_true rfl), (Nat.le_of_ble_eq_true rfl)⟩ rfl hl.1 rfl (Nat.le_of_ble_eq_true rfl) dX10_forge_60 ⟨(Nat.le_of_ble_eq_true rfl), (Nat.le_of_ble_eq_true rfl)⟩) (fun r u H locs hw Y => ?_)
          have hw : r = 0 := hw
          subst hw
          have Y : Wd D τ s A s.heap [(e0, .inl (τ 0, 16816, .inl (S0))), (mo, .inr (10, [.ref e0, .ref e1, .ref e2, .ref e3, .ref e4, .int 0, .int 1, .int 0, .ref e5, .int 0, .int 0, .int 0, .int 0, .int 0, .int 0, .int 0, .int (-1), .int 0, .int 0, .ref e6, .ref e7, .ref e8, .ref e9, .int 0, .ref e10, .ref e11, .int 0, .int 0, .ref e12, .int 0]))] H _ := Y
          refine retI (wc := [(mo, .inr (10, [.ref e0, .ref e1, .ref e2, .ref e3, .ref e4, .int 0, .int 1, .int 0, .ref e5, .int 0, .int 0, .int 0, .int 0, .int 0, .int 0, .int 0, .int (-1), .int 0, .int 0, .ref e6, .ref e7, .ref e8, .ref e9, .int 0, .ref e10, .ref e11, .int 0, .int 0, .ref e12, .int 0]))]) (wr := [(e0, .inl (τ 0, 16816, .inl (S0)))]) Y [1] [0] rfl rfl (by decide) (by decide) (rV (As := [.int 0]) (rest := []) (q0 := 1) B Y [1] (by decide) rfl (k_tried0 l D τ _ mo e0 e1 e2 e3 e4 e5 e6 e7 e8 e9 e10 e11 e12 0 1 0 0 0 0 0 0 0 0 (-1) 0 0 0 0 0 0) rfl rfl q_2104 q_2106 qp_133 q_12 q_2107 rfl rfl hd_X10_tried ⟨(Nat.le_of_ble_eq_true rfl), (Nat.le_of_ble_eq_true rfl)⟩ rfl hl.1 rfl (Nat.le_of_ble_eq_true rfl) dX10_forge_63 ⟨(Nat.le_of_ble_eq_true rfl), (Nat.le_of_ble_eq_true rfl)⟩) (fun r u H locs hw Y => ?_)
          have hw : r = 0 := hw
          subst hw
          have Y : Wd D τ s A s.heap [(e0, .inl (τ 0, 16816, .inl (S0))), (mo, .inr (10, [.ref e0, .ref e1, .ref e2, .ref e3, .ref e4, .int 0, .int 1, .int 0, .ref e5, .int 0, .int 0, .int 0, .int 0, .int 0, .int 0, .int 0, .int (-1), .int 0, .int 0, .ref e6, .ref e7, .ref e8, .ref e9, .int 0, .ref e10, .ref e11, .int 0, .int 0, .ref e12, .int 0]))] H _ := Y
          refine lv_if_eq (tgt := 87) B.1 B.2.1 dX10_forge_66 (by decide) (fun _ => ?_) (fun h => absurd (by decide) h)
          refine lv_iconst (v := 0) B.1 B.2.1 dX10_forge_87 (by decide) ?_
          exact endI B hr hlk Y (lsI [0, 1, 0, 0, 0, 0, 0, 0, 0, 0, (-1), 0, 0, 0, 0, 0, 0]) rfl [1] (by decide) rfl (Nat.le_of_ble_eq_true rfl) (Nat.le_of_ble_eq_true rfl) dX10_forge_88

set_option maxHeartbeats 4000000 in
set_option maxRecDepth 100000 in
theorem r_fills (l : Launch) (D : va_G) (τ : Nat → ClassId) (sz : Nat) (mo e0 e1 e2 e3 e4 e5 e6 e7 e8 e9 e10 e11 e12 : Nat) (k y1 y2 : Int32) : Met l yX10_fills (Cond.code yX10_fills cX10_fills 6 (some .boolean) :: wALL) { frames := 2, cells := 0, slots := 0, locals := 46 } (Pw D τ [(mo, .inr (10, [.ref e0, .ref e1, .ref e2, .ref e3, .ref e4, .int 0, .int 0, .int 0, .ref e5, .int 0, .int 0, .int 0, .int 0, .int 0, .int 0, .int 0, .int (-1), .int 0, .int 0, .ref e6, .ref e7, .ref e8, .ref e9, .int 0, .ref e10, .ref e11, .int 0, .int 0, .ref e12, .int 0])), (e0, .inl (τ 0, 16816, .inl (S0)))] sz [.ref mo, .int k, .int y1, .int y2]) (va_Qi (fun (r : Int32) (u : Nat → Int32) => u 1 = 1) (Bw D (va_A [(mo, .inr (10, [.ref e0, .ref e1, .ref e2, .ref e3, .ref e4, .int 0, .int 0, .int 0, .ref e5, .int 0, .int 0, .int 0, .int 0, .int 0, .int 0, .int 0, .int (-1), .int 0, .int 0, .ref e6, .ref e7, .ref e8, .ref e9, .int 0, .ref e10, .ref e11, .int 0, .int 0, .ref e12, .int 0])), (e0, .inl (τ 0, 16816, .inl (S0)))] sz) (fun (u : Nat → Int32) => [(mo, .inr (10, [.ref e0, .ref e1, .ref e2, .ref e3, .ref e4, .int (u 0), .int (u 1), .int (u 2), .ref e5, .int (u 3), .int (u 4), .int (u 5), .int (u 6), .int (u 7), .int (u 8), .int (u 9), .int (u 10), .int (u 11), .int (u 12), .ref e6, .ref e7, .ref e8, .ref e9, .int (u 13), .ref e10, .ref e11, .int (u 14), .int (u 15), .ref e12, .int (u 16)]))])) (va_A [(mo, .inr (10, [.ref e0, .ref e1, .ref e2, .ref e3, .ref e4, .int 0, .int 0, .int 0, .ref e5, .int 0, .int 0, .int 0, .int 0, .int 0, .int 0, .int 0, .int (-1), .int 0, .int 0, .ref e6, .ref e7, .ref e8, .ref e9, .int 0, .ref e10, .ref e11, .int 0, .int 0, .ref e12, .int 0])), (e0, .inl (τ 0, 16816, .inl (S0)))] sz)) 0 0 (va_A [(mo, .inr (10, [.ref e0, .ref e1, .ref e2, .ref e3, .ref e4, .int 0, .int 0, .int 0, .ref e5, .int 0, .int 0, .int 0, .int 0, .int 0, .int 0, .int 0, .int (-1), .int 0, .int 0, .ref e6, .ref e7, .ref e8, .ref e9, .int 0, .ref e10, .ref e11, .int 0, .int 0, .ref e12, .int 0])), (e0, .inl (τ 0, 16816, .inl (S0)))] sz) := by
  refine bodyW (by decide) (Nat.le_of_ble_eq_true rfl) (fun p e s m below meth c ls B hr hlk hin hsz Y hl => ?_)
  have hl : lv_has ls 6 [(0, .ref mo), (1, .int k), (2, .int y1), (3, .int y2)] := hl
  have B : CallFix p m c cX10_fills 6 s _ wALL RX10 := B
  generalize va_A [(mo, .inr (10, [.ref e0, .ref e1, .ref e2, .ref e3, .ref e4, .int 0, .int 0, .int 0, .ref e5, .int 0, .int 0, .int 0, .int 0, .int 0, .int 0, .int 0, .int (-1), .int 0, .int 0, .ref e6, .ref e7, .ref e8, .ref e9, .int 0, .ref e10, .ref e11, .int 0, .int 0, .ref e12, .int 0])), (e0, .inl (τ 0, 16816, .inl (S0)))] sz = A at Y ⊢
  refine lv_aload_n B.1 B.2.1 dX10_fills_0 rfl (lv_at hl 0 rfl) ?_
  refine lv_aload_n B.1 B.2.1 dX10_fills_1 rfl (lv_at hl 0 rfl) ?_
  refine lv_iload_n B.1 B.2.1 dX10_fills_2 rfl (lv_at hl 1 rfl) ?_
  refine retI (wc := [(mo, .inr (10, [.ref e0, .ref e1, .ref e2, .ref e3, .ref e4, .int 0, .int 0, .int 0, .ref e5, .int 0, .int 0, .int 0, .int 0, .int 0, .int 0, .int 0, .int (-1), .int 0, .int 0, .ref e6, .ref e7, .ref e8, .ref e9, .int 0, .ref e10, .ref e11, .int 0, .int 0, .ref e12, .int 0])), (e0, .inl (τ 0, 16816, .inl (S0)))]) (wr := []) Y [0, 1] [] rfl rfl (by decide) (by decide) (rV (As := [.int k]) (rest := [.ref mo]) (q0 := 0) B Y [0, 1] (by decide) rfl (k_isData l D τ _ mo e0 e1 e2 e3 e4 e5 e6 e7 e8 e9 e10 e11 e12 0 0 0 0 0 0 0 0 0 0 (-1) 0 0 0 0 0 0 (S0) (rfl) k) rfl rfl q_1780 q_1782 qp_83 q_12 q_1783 rfl rfl hd_X10_isData ⟨(Nat.le_of_ble_eq_true rfl), (Nat.le_of_ble_eq_true rfl)⟩ rfl hl.1 rfl (Nat.le_of_ble_eq_true rfl) dX10_fills_3 ⟨(Nat.le_of_ble_eq_true rfl), (Nat.le_of_ble_eq_true rfl)⟩) (fun r u H locs hw Y => ?_)
  have hw : r = 0 := hw
  subst hw
  have Y : Wd D τ s A s.heap [(mo, .inr (10, [.ref e0, .ref e1, .ref e2, .ref e3, .ref e4, .int 0, .int 0, .int 0, .ref e5, .int 0, .int 0, .int 0, .int 0, .int 0, .int 0, .int 0, .int (-1), .int 0, .int 0, .ref e6, .ref e7, .ref e8, .ref e9, .int 0, .ref e10, .ref e11, .int 0, .int 0, .ref e12, .int 0])), (e0, .inl (τ 0, 16816, .inl (S0)))] H _ := Y
  refine lv_iload_n B.1 B.2.1 dX10_fills_6 rfl (lv_at hl 2 rfl) ?_
  refine lv_i2l B.1 B.2.1 dX10_fills_7 rfl ?_
  refine lv_lconst (v := Int32.toInt64 0) B.1 B.2.1 dX10_fills_8 (by decide) ?_
  refine lv_ldc2 B.1 B.2.1 B.2.2.2.1 (B.2.2.2.2 _ q_2006) dX10_fills_9 ?_
  refine t_cvL (v := Int32.toInt64 1000) (by decide) ?_
  refine retI (wc := []) (wr := [(mo, .inr (10, [.ref e0, .ref e1, .ref e2, .ref e3, .ref e4, .int 0, .int 0, .int 0, .ref e5, .int 0, .int 0, .int 0, .int 0, .int 0, .int 0, .int 0, .int (-1), .int 0, .int 0, .ref e6, .ref e7, .ref e8, .ref e9, .int 0, .ref e10, .ref e11, .int 0, .int 0, .ref e12, .int 0])), (e0, .inl (τ 0, 16816, .inl (S0)))]) Y [] [0, 1] rfl rfl (by decide) (by decide) (rS (As := [.long (Int32.toInt64 y1), .long (Int32.toInt64 0), .long (Int32.toInt64 1000)]) (rest := [.int 0, .ref mo]) B Y [] (by decide) rfl (k_in l D τ _ y1 0 1000) q_1593 q_1594 q_12 q_1595 rfl rfl hd_X10_in ⟨(Nat.le_of_ble_eq_true rfl), (Nat.le_of_ble_eq_true rfl)⟩ rfl hl.1 rfl (Nat.le_of_ble_eq_true rfl) dX10_fills_12 ⟨(Nat.le_of_ble_eq_true rfl), (Nat.le_of_ble_eq_true rfl)⟩) (fun r u H locs hw Y => ?_)
  obtain ⟨yr1, rfl⟩ : ∃ z, z = r := ⟨_, rfl⟩
  have Y : Wd D τ s A s.heap [(mo, .inr (10, [.ref e0, .ref e1, .ref e2, .ref e3, .ref e4, .int 0, .int 0, .int 0, .ref e5, .int 0, .int 0, .int 0, .int 0, .int 0, .int 0, .int 0, .int (-1), .int 0, .int 0, .ref e6, .ref e7, .ref e8, .ref e9, .int 0, .ref e10, .ref e11, .int 0, .int 0, .ref e12, .int 0])), (e0, .inl (τ 0, 16816, .inl (S0)))] H _ := Y
  refine lv_if_eq (tgt := 34) B.1 B.2.1 dX10_fills_15 (by decide) (fun c2 => ?_) (fun c2 => ?_)
  · refine lv_iconst (v := 0) B.1 B.2.1 dX10_fills_34 (by decide) ?_
    refine retI (wc := [(mo, .inr (10, [.ref e0, .ref e1, .ref e2, .ref e3, .ref e4, .int 0, .int 0, .int 0, .ref e5, .int 0, .int 0, .int 0, .int 0, .int 0, .int 0, .int 0, .int (-1), .int 0, .int 0, .ref e6, .ref e7, .ref e8, .ref e9, .int 0, .ref e10, .ref e11, .int 0, .int 0, .ref e12, .int 0]))]) (wr := [(e0, .inl (τ 0, 16816, .inl (S0)))]) Y [0] [1] rfl rfl (by decide) (by decide) (rV (As := [.int 0, .int 0]) (rest := []) (q0 := 0) B Y [0] (by decide) rfl (k_passesBoth0 l D τ _ mo e0 e1 e2 e3 e4 e5 e6 e7 e8 e9 e10 e11 e12 0 0 0 0 0 0 0 0 0 0 (-1) 0 0 0 0 0 0 0) rfl rfl q_1922 q_1924 qp_115 q_12 q_1925 rfl rfl hd_X10_passesBoth ⟨(Nat.le_of_ble_eq_true rfl), (Nat.le_of_ble_eq_true rfl)⟩ rfl hl.1 rfl (Nat.le_of_ble_eq_true rfl) dX10_fills_35 ⟨(Nat.le_of_ble_eq_true rfl), (Nat.le_of_ble_eq_true rfl)⟩) (fun r u H locs hw Y => ?_)
    have hw : r = 0 := hw
    subst hw
    have Y : Wd D τ s A s.heap [(e0, .inl (τ 0, 16816, .inl (S0))), (mo, .inr (10, [.ref e0, .ref e1, .ref e2, .ref e3, .ref e4, .int 0, .int 1, .int 0, .ref e5, .int 0, .int 0, .int 0, .int 0, .int 0, .int 0, .int 0, .int (-1), .int 0, .int 0, .ref e6, .ref e7, .ref e8, .ref e9, .int 0, .ref e10, .ref e11, .int 0, .int 0, .ref e12, .int 0]))] H _ := Y
    refine lv_if_ne (tgt := 43) B.1 B.2.1 dX10_fills_38 (by decide) (fun h => absurd (by decide) h) (fun _ => ?_)
    refine lv_iconst (v := 0) B.1 B.2.1 dX10_fills_41 (by decide) ?_
    exact endZ B hr hlk Y (by decide) (lsI [0, 1, 0, 0, 0, 0, 0, 0, 0, 0, (-1), 0, 0, 0, 0, 0, 0]) rfl [1] (by decide) rfl (Nat.le_of_ble_eq_true rfl) (Nat.le_of_ble_eq_true rfl) dX10_fills_42
  · refine lv_iload_n B.1 B.2.1 dX10_fills_18 rfl (lv_at hl 3 rfl) ?_
    refine lv_i2l B.1 B.2.1 dX10_fills_19 rfl ?_
    refine lv_lconst (v := Int32.toInt64 1) B.1 B.2.1 dX10_fills_20 (by decide) ?_
    refine lv_ldc2 B.1 B.2.1 B.2.2.2.1 (B.2.2.2.2 _ q_2006) dX10_fills_21 ?_
    refine t_cvL (v := Int32.toInt64 1000) (by decide) ?_
    refine retI (wc := []) (wr := [(mo, .inr (10, [.ref e0, .ref e1, .ref e2, .ref e3, .ref e4, .int 0, .int 0, .int 0, .ref e5, .int 0, .int 0, .int 0, .int 0, .int 0, .int 0, .int 0, .int (-1), .int 0, .int 0, .ref e6, .ref e7, .ref e8, .ref e9, .int 0, .ref e10, .ref e11, .int 0, .int 0, .ref e12, .int 0])), (e0, .inl (τ 0, 16816, .inl (S0)))]) Y [] [0, 1] rfl rfl (by decide) (by decide) (rS (As := [.long (Int32.toInt64 y2), .long (Int32.toInt64 1), .long (Int32.toInt64 1000)]) (rest := [.int 0, .ref mo]) B Y [] (by decide) rfl (k_in l D τ _ y2 1 1000) q_1593 q_1594 q_12 q_1595 rfl rfl hd_X10_in ⟨(Nat.le_of_ble_eq_true rfl), (Nat.le_of_ble_eq_true rfl)⟩ rfl hl.1 rfl (Nat.le_of_ble_eq_true rfl) dX10_fills_24 ⟨(Nat.le_of_ble_eq_true rfl), (Nat.le_of_ble_eq_true rfl)⟩) (fun r u H locs hw Y => ?_)
    obtain ⟨yr3, rfl⟩ : ∃ z, z = r := ⟨_, rfl⟩
    have Y : Wd D τ s A s.heap [(mo, .inr (10, [.ref e0, .ref e1, .ref e2, .ref e3, .ref e4, .int 0, .int 0, .int 0, .ref e5, .int 0, .int 0, .int 0, .int 0, .int 0, .int 0, .int 0, .int (-1), .int 0, .int 0, .ref e6, .ref e7, .ref e8, .ref e9, .int 0, .ref e10, .ref e11, .int 0, .int 0, .ref e12, .int 0])), (e0, .inl (τ 0, 16816, .inl (S0)))] H _ := Y
    refine lv_if_eq (tgt := 34) B.1 B.2.1 dX10_fills_27 (by decide) (fun c4 => ?_) (fun c4 => ?_)
    · refine lv_iconst (v := 0) B.1 B.2.1 dX10_fills_34 (by decide) ?_
      refine retI (wc := [(mo, .inr (10, [.ref e0, .ref e1, .ref e2, .ref e3, .ref e4, .int 0, .int 0, .int 0, .ref e5, .int 0, .int 0, .int 0, .int 0, .int 0, .int 0, .int 0, .int (-1), .int 0, .int 0, .ref e6, .ref e7, .ref e8, .ref e9, .int 0, .ref e10, .ref e11, .int 0, .int 0, .ref e12, .int 0]))]) (wr := [(e0, .inl (τ 0, 16816, .inl (S0)))]) Y [0] [1] rfl rfl (by decide) (by decide) (rV (As := [.int 0, .int 0]) (rest := []) (q0 := 0) B Y [0] (by decide) rfl (k_passesBoth0 l D τ _ mo e0 e1 e2 e3 e4 e5 e6 e7 e8 e9 e10 e11 e12 0 0 0 0 0 0 0 0 0 0 (-1) 0 0 0 0 0 0 0) rfl rfl q_1922 q_1924 qp_115 q_12 q_1925 rfl rfl hd_X10_passesBoth ⟨(Nat.le_of_ble_eq_true rfl), (Nat.le_of_ble_eq_true rfl)⟩ rfl hl.1 rfl (Nat.le_of_ble_eq_true rfl) dX10_fills_35 ⟨(Nat.le_of_ble_eq_true rfl), (Nat.le_of_ble_eq_true rfl)⟩) (fun r u H locs hw Y => ?_)
      have hw : r = 0 := hw
      subst hw
      have Y : Wd D τ s A s.heap [(e0, .inl (τ 0, 16816, .inl (S0))), (mo, .inr (10, [.ref e0, .ref e1, .ref e2, .ref e3, .ref e4, .int 0, .int 1, .int 0, .ref e5, .int 0, .int 0, .int 0, .int 0, .int 0, .int 0, .int 0, .int (-1), .int 0, .int 0, .ref e6, .ref e7, .ref e8, .ref e9, .int 0, .ref e10, .ref e11, .int 0, .int 0, .ref e12, .int 0]))] H _ := Y
      refine lv_if_ne (tgt := 43) B.1 B.2.1 dX10_fills_38 (by decide) (fun h => absurd (by decide) h) (fun _ => ?_)
      refine lv_iconst (v := 0) B.1 B.2.1 dX10_fills_41 (by decide) ?_
      exact endZ B hr hlk Y (by decide) (lsI [0, 1, 0, 0, 0, 0, 0, 0, 0, 0, (-1), 0, 0, 0, 0, 0, 0]) rfl [1] (by decide) rfl (Nat.le_of_ble_eq_true rfl) (Nat.le_of_ble_eq_true rfl) dX10_fills_42
    · refine lv_iconst (v := 1) B.1 B.2.1 dX10_fills_30 (by decide) ?_
      refine lv_goto (tgt := 35) B.1 B.2.1 dX10_fills_31 (by decide) ?_
      refine retI (wc := [(mo, .inr (10, [.ref e0, .ref e1, .ref e2, .ref e3, .ref e4, .int 0, .int 0, .int 0, .ref e5, .int 0, .int 0, .int 0, .int 0, .int 0, .int 0, .int 0, .int (-1), .int 0, .int 0, .ref e6, .ref e7, .ref e8, .ref e9, .int 0, .ref e10, .ref e11, .int 0, .int 0, .ref e12, .int 0]))]) (wr := [(e0, .inl (τ 0, 16816, .inl (S0)))]) Y [0] [1] rfl rfl (by decide) (by decide) (rV (As := [.int 0, .int 1]) (rest := []) (q0 := 0) B Y [0] (by decide) rfl (k_passesBoth0 l D τ _ mo e0 e1 e2 e3 e4 e5 e6 e7 e8 e9 e10 e11 e12 0 0 0 0 0 0 0 0 0 0 (-1) 0 0 0 0 0 0 1) rfl rfl q_1922 q_1924 qp_115 q_12 q_1925 rfl rfl hd_X10_passesBoth ⟨(Nat.le_of_ble_eq_true rfl), (Nat.le_of_ble_eq_true rfl)⟩ rfl hl.1 rfl (Nat.le_of_ble_eq_true rfl) dX10_fills_35 ⟨(Nat.le_of_ble_eq_true rfl), (Nat.le_of_ble_eq_true rfl)⟩) (fun r u H locs hw Y => ?_)
      have hw : r = 0 := hw
      subst hw
      have Y : Wd D τ s A s.heap [(e0, .inl (τ 0, 16816, .inl (S0))), (mo, .inr (10, [.ref e0, .ref e1, .ref e2, .ref e3, .ref e4, .int 0, .int 1, .int 0, .ref e5, .int 0, .int 0, .int 0, .int 0, .int 0, .int 0, .int 0, .int (-1), .int 0, .int 0, .ref e6, .ref e7, .ref e8, .ref e9, .int 0, .ref e10, .ref e11, .int 0, .int 0, .ref e12, .int 0]))] H _ := Y
      refine lv_if_ne (tgt := 43) B.1 B.2.1 dX10_fills_38 (by decide) (fun h => absurd (by decide) h) (fun _ => ?_)
      refine lv_iconst (v := 0) B.1 B.2.1 dX10_fills_41 (by decide) ?_
      exact endZ B hr hlk Y (by decide) (lsI [0, 1, 0, 0, 0, 0, 0, 0, 0, 0, (-1), 0, 0, 0, 0, 0, 0]) rfl [1] (by decide) rfl (Nat.le_of_ble_eq_true rfl) (Nat.le_of_ble_eq_true rfl) dX10_fills_42

set_option maxHeartbeats 4000000 in
set_option maxRecDepth 100000 in
theorem k_four0 (l : Launch) (D : va_G) (τ : Nat → ClassId) (sz : Nat) (mo e0 e1 e2 e3 e4 e5 e6 e7 e8 e9 e10 e11 e12 : Nat) (i0 i1 i2 i4 i5 i6 i7 i8 i9 i10 i11 i12 i13 i14 i15 i16 : Int32) (f : Nat → Int32) (y : Int32) : Met l yX10_four (Cond.code yX10_four cX10_four 3 none :: wALL) { frames := 0, cells := 0, slots := 0, locals := 0 } (Pw D τ [(mo, .inr (10, [.ref e0, .ref e1, .ref e2, .ref e3, .ref e4, .int i0, .int i1, .int i2, .ref e5, .int 0, .int i4, .int i5, .int i6, .int i7, .int i8, .int i9, .int i10, .int i11, .int i12, .ref e6, .ref e7, .ref e8, .ref e9, .int i13, .ref e10, .ref e11, .int i14, .int i15, .ref e12, .int i16])), (e5, .inl (τ 0, 500, .inl (f)))] sz [.ref mo, .int y]) (va_Qv (fun (u : Nat → Int32) => True) (Bw D (va_A [(mo, .inr (10, [.ref e0, .ref e1, .ref e2, .ref e3, .ref e4, .int i0, .int i1, .int i2, .ref e5, .int 0, .int i4, .int i5, .int i6, .int i7, .int i8, .int i9, .int i10, .int i11, .int i12, .ref e6, .ref e7, .ref e8, .ref e9, .int i13, .ref e10, .ref e11, .int i14, .int i15, .ref e12, .int i16])), (e5, .inl (τ 0, 500, .inl (f)))] sz) (fun (u : Nat → Int32) => [(mo, .inr (10, [.ref e0, .ref e1, .ref e2, .ref e3, .ref e4, .int i0, .int i1, .int i2, .ref e5, .int 4, .int i4, .int i5, .int i6, .int i7, .int i8, .int i9, .int i10, .int i11, .int i12, .ref e6, .ref e7, .ref e8, .ref e9, .int i13, .ref e10, .ref e11, .int i14, .int i15, .ref e12, .int i16])), (e5, .inl (τ 0, 500, .inl (u)))])) (va_A [(mo, .inr (10, [.ref e0, .ref e1, .ref e2, .ref e3, .ref e4, .int i0, .int i1, .int i2, .ref e5, .int 0, .int i4, .int i5, .int i6, .int i7, .int i8, .int i9, .int i10, .int i11, .int i12, .ref e6, .ref e7, .ref e8, .ref e9, .int i13, .ref e10, .ref e11, .int i14, .int i15, .ref e12, .int i16])), (e5, .inl (τ 0, 500, .inl (f)))] sz)) 0 0 (va_A [(mo, .inr (10, [.ref e0, .ref e1, .ref e2, .ref e3, .ref e4, .int i0, .int i1, .int i2, .ref e5, .int 0, .int i4, .int i5, .int i6, .int i7, .int i8, .int i9, .int i10, .int i11, .int i12, .ref e6, .ref e7, .ref e8, .ref e9, .int i13, .ref e10, .ref e11, .int i14, .int i15, .ref e12, .int i16])), (e5, .inl (τ 0, 500, .inl (f)))] sz) := by
  refine bodyW (by decide) (Nat.le_of_ble_eq_true rfl) (fun p e s m below meth c ls B hr hlk hin hsz Y hl => ?_)
  have hl : lv_has ls 3 [(0, .ref mo), (1, .int y)] := hl
  have B : CallFix p m c cX10_four 3 s _ wALL RX10 := B
  generalize va_A [(mo, .inr (10, [.ref e0, .ref e1, .ref e2, .ref e3, .ref e4, .int i0, .int i1, .int i2, .ref e5, .int 0, .int i4, .int i5, .int i6, .int i7, .int i8, .int i9, .int i10, .int i11, .int i12, .ref e6, .ref e7, .ref e8, .ref e9, .int i13, .ref e10, .ref e11, .int i14, .int i15, .ref e12, .int i16])), (e5, .inl (τ 0, 500, .inl (f)))] sz = A at Y ⊢
  refine lv_bipush (v := 24) B.1 B.2.1 dX10_four_0 (by decide) ?_
  refine lv_istore_n (lv' := [(2, .int 24), (0, .ref mo), (1, .int y)]) B.1 B.2.1 dX10_four_2 rfl hl (by decide) rfl (fun ls hl => ?_)
  refine lv_iload_n B.1 B.2.1 dX10_four_3 rfl (lv_at hl 0 rfl) ?_
  refine lv_if_lt (tgt := 39) B.1 B.2.1 dX10_four_4 (by decide) (fun h => absurd h (by decide)) (fun _ => ?_)
  refine lv_aload_n B.1 B.2.1 dX10_four_7 rfl (lv_at hl 1 rfl) ?_
  refine gf_X10_26 B Y 0 rfl rfl dX10_four_8 ?_
  refine lv_aload_n B.1 B.2.1 dX10_four_11 rfl (lv_at hl 1 rfl) ?_
  refine gf_X10_198 B Y 0 rfl rfl dX10_four_12 ?_
  refine lv_iload_n B.1 B.2.1 dX10_four_15 rfl (lv_at hl 2 rfl) ?_
  refine lv_iload_n B.1 B.2.1 dX10_four_16 rfl (lv_at hl 0 rfl) ?_
  refine lv_ishr B.1 B.2.1 dX10_four_17 ?_
  refine lv_topi (fun z1 ez1 => ?_)
  refine lv_sipush (v := 255) B.1 B.2.1 dX10_four_18 (by decide) ?_
  refine lv_iand B.1 B.2.1 dX10_four_21 ?_
  refine t_iast (j := 0) (g := upd (f) 0 (z1 &&& 255)) (ws' := [(mo, .inr (10, [.ref e0, .ref e1, .ref e2, .ref e3, .ref e4, .int i0, .int i1, .int i2, .ref e5, .int 0, .int i4, .int i5, .int i6, .int i7, .int i8, .int i9, .int i10, .int i11, .int i12, .ref e6, .ref e7, .ref e8, .ref e9, .int i13, .ref e10, .ref e11, .int i14, .int i15, .ref e12, .int i16])), (e5, .inl (τ 0, 500, .inl (upd (f) 0 (z1 &&& 255))))]) B Y 1 rfl (by decide) (by decide) (Nat.le_of_ble_eq_true rfl) rfl rfl dX10_four_22 (fun H locs Y => ?_)
  refine lv_aload_n B.1 B.2.1 dX10_four_23 rfl (lv_at hl 1 rfl) ?_
  refine lv_dup B.1 B.2.1 dX10_four_24 rfl ?_
  refine gf_X10_198 B Y 0 rfl rfl dX10_four_25 ?_
  refine lv_iconst (v := 1) B.1 B.2.1 dX10_four_28 (by decide) ?_
  refine lv_iadd B.1 B.2.1 dX10_four_29 ?_
  refine lv_cv (v := 1) (by decide) ?_
  refine pf_X10_198 (ws' := [(mo, .inr (10, [.ref e0, .ref e1, .ref e2, .ref e3, .ref e4, .int i0, .int i1, .int i2, .ref e5, .int 1, .int i4, .int i5, .int i6, .int i7, .int i8, .int i9, .int i10, .int i11, .int i12, .ref e6, .ref e7, .ref e8, .ref e9, .int i13, .ref e10, .ref e11, .int i14, .int i15, .ref e12, .int i16])), (e5, .inl (τ 0, 500, .inl (upd (f) 0 (z1 &&& 255))))]) B Y 0 rfl (Nat.le_of_ble_eq_true rfl) rfl dX10_four_30 (fun H locs Y => ?_)
  refine lv_iinc (v := 16) (lv' := [(2, .int 16), (0, .ref mo), (1, .int y)]) B.1 B.2.1 dX10_four_33 hl (k := 0) rfl (by decide) (by decide) rfl (fun ls hl => ?_)
  refine lv_goto (tgt := 3) B.1 B.2.1 dX10_four_36 (by decide) ?_
  refine lv_iload_n B.1 B.2.1 dX10_four_3 rfl (lv_at hl 0 rfl) ?_
  refine lv_if_lt (tgt := 39) B.1 B.2.1 dX10_four_4 (by decide) (fun h => absurd h (by decide)) (fun _ => ?_)
  refine lv_aload_n B.1 B.2.1 dX10_four_7 rfl (lv_at hl 1 rfl) ?_
  refine gf_X10_26 B Y 0 rfl rfl dX10_four_8 ?_
  refine lv_aload_n B.1 B.2.1 dX10_four_11 rfl (lv_at hl 1 rfl) ?_
  refine gf_X10_198 B Y 0 rfl rfl dX10_four_12 ?_
  refine lv_iload_n B.1 B.2.1 dX10_four_15 rfl (lv_at hl 2 rfl) ?_
  refine lv_iload_n B.1 B.2.1 dX10_four_16 rfl (lv_at hl 0 rfl) ?_
  refine lv_ishr B.1 B.2.1 dX10_four_17 ?_
  refine lv_topi (fun z2 ez2 => ?_)
  refine lv_sipush (v := 255) B.1 B.2.1 dX10_four_18 (by decide) ?_
  refine lv_iand B.1 B.2.1 dX10_four_21 ?_
  refine t_iast (j := 1) (g := upd (upd (f) 0 (z1 &&& 255)) 1 (z2 &&& 255)) (ws' := [(mo, .inr (10, [.ref e0, .ref e1, .ref e2, .ref e3, .ref e4, .int i0, .int i1, .int i2, .ref e5, .int 1, .int i4, .int i5, .int i6, .int i7, .int i8, .int i9, .int i10, .int i11, .int i12, .ref e6, .ref e7, .ref e8, .ref e9, .int i13, .ref e10, .ref e11, .int i14, .int i15, .ref e12, .int i16])), (e5, .inl (τ 0, 500, .inl (upd (upd (f) 0 (z1 &&& 255)) 1 (z2 &&& 255))))]) B Y 1 rfl (by decide) (by decide) (Nat.le_of_ble_eq_true rfl) rfl rfl dX10_four_22 (fun H locs Y => ?_)
  refine lv_aload_n B.1 B.2.1 dX10_four_23 rfl (lv_at hl 1 rfl) ?_
  refine lv_dup B.1 B.2.1 dX10_four_24 rfl ?_
  refine gf_X10_198 B Y 0 rfl rfl dX10_four_25 ?_
  refine lv_iconst (v := 1) B.1 B.2.1 dX10_four_28 (by decide) ?_
  refine lv_iadd B.1 B.2.1 dX10_four_29 ?_
  refine lv_cv (v := 2) (by decide) ?_
  refine pf_X10_198 (ws' := [(mo, .inr (10, [.ref e0, .ref e1, .ref e2, .ref e3, .ref e4, .int i0, .int i1, .int i2, .ref e5, .int 2, .int i4, .int i5, .int i6, .int i7, .int i8, .int i9, .int i10, .int i11, .int i12, .ref e6, .ref e7, .ref e8, .ref e9, .int i13, .ref e10, .ref e11, .int i14, .int i15, .ref e12, .int i16])), (e5, .inl (τ 0, 500, .inl (upd (upd (f) 0 (z1 &&& 255)) 1 (z2 &&& 255))))]) B Y 0 rfl (Nat.le_of_ble_eq_true rfl) rfl dX10_four_30 (fun H locs Y => ?_)
  refine lv_iinc (v := 8) (lv' := [(2, .int 8), (0, .ref mo), (1, .int y)]) B.1 B.2.1 dX10_four_33 hl (k := 0) rfl (by decide) (by decide) rfl (fun ls hl => ?_)
  refine lv_goto (tgt := 3) B.1 B.2.1 dX10_four_36 (by decide) ?_
  refine lv_iload_n B.1 B.2.1 dX10_four_3 rfl (lv_at hl 0 rfl) ?_
  refine lv_if_lt (tgt := 39) B.1 B.2.1 dX10_four_4 (by decide) (fun h => absurd h (by decide)) (fun _ => ?_)
  refine lv_aload_n B.1 B.2.1 dX10_four_7 rfl (lv_at hl 1 rfl) ?_
  refine gf_X10_26 B Y 0 rfl rfl dX10_four_8 ?_
  refine lv_aload_n B.1 B.2.1 dX10_four_11 rfl (lv_at hl 1 rfl) ?_
  refine gf_X10_198 B Y 0 rfl rfl dX10_four_12 ?_
  refine lv_iload_n B.1 B.2.1 dX10_four_15 rfl (lv_at hl 2 rfl) ?_
  refine lv_iload_n B.1 B.2.1 dX10_four_16 rfl (lv_at hl 0 rfl) ?_
  refine lv_ishr B.1 B.2.1 dX10_four_17 ?_
  refine lv_topi (fun z3 ez3 => ?_)
  refine lv_sipush (v := 255) B.1 B.2.1 dX10_four_18 (by decide) ?_
  refine lv_iand B.1 B.2.1 dX10_four_21 ?_
  refine t_iast (j := 2) (g := upd (upd (upd (f) 0 (z1 &&& 255)) 1 (z2 &&& 255)) 2 (z3 &&& 255)) (ws' := [(mo, .inr (10, [.ref e0, .ref e1, .ref e2, .ref e3, .ref e4, .int i0, .int i1, .int i2, .ref e5, .int 2, .int i4, .int i5, .int i6, .int i7, .int i8, .int i9, .int i10, .int i11, .int i12, .ref e6, .ref e7, .ref e8, .ref e9, .int i13, .ref e10, .ref e11, .int i14, .int i15, .ref e12, .int i16])), (e5, .inl (τ 0, 500, .inl (upd (upd (upd (f) 0 (z1 &&& 255)) 1 (z2 &&& 255)) 2 (z3 &&& 255))))]) B Y 1 rfl (by decide) (by decide) (Nat.le_of_ble_eq_true rfl) rfl rfl dX10_four_22 (fun H locs Y => ?_)
  refine lv_aload_n B.1 B.2.1 dX10_four_23 rfl (lv_at hl 1 rfl) ?_
  refine lv_dup B.1 B.2.1 dX10_four_24 rfl ?_
  refine gf_X10_198 B Y 0 rfl rfl dX10_four_25 ?_
  refine lv_iconst (v := 1) B.1 B.2.1 dX10_four_28 (by decide) ?_
  refine lv_iadd B.1 B.2.1 dX10_four_29 ?_
  refine lv_cv (v := 3) (by decide) ?_
  refine pf_X10_198 (ws' := [(mo, .inr (10, [.ref e0, .ref e1, .ref e2, .ref e3, .ref e4, .int i0, .int i1, .int i2, .ref e5, .int 3, .int i4, .int i5, .int i6, .int i7, .int i8, .int i9, .int i10, .int i11, .int i12, .ref e6, .ref e7, .ref e8, .ref e9, .int i13, .ref e10, .ref e11, .int i14, .int i15, .ref e12, .int i16])), (e5, .inl (τ 0, 500, .inl (upd (upd (upd (f) 0 (z1 &&& 255)) 1 (z2 &&& 255)) 2 (z3 &&& 255))))]) B Y 0 rfl (Nat.le_of_ble_eq_true rfl) rfl dX10_four_30 (fun H locs Y => ?_)
  refine lv_iinc (v := 0) (lv' := [(2, .int 0), (0, .ref mo), (1, .int y)]) B.1 B.2.1 dX10_four_33 hl (k := 0) rfl (by decide) (by decide) rfl (fun ls hl => ?_)
  refine lv_goto (tgt := 3) B.1 B.2.1 dX10_four_36 (by decide) ?_
  refine lv_iload_n B.1 B.2.1 dX10_four_3 rfl (lv_at hl 0 rfl) ?_
  refine lv_if_lt (tgt := 39) B.1 B.2.1 dX10_four_4 (by decide) (fun h => absurd h (by decide)) (fun _ => ?_)
  refine lv_aload_n B.1 B.2.1 dX10_four_7 rfl (lv_at hl 1 rfl) ?_
  refine gf_X10_26 B Y 0 rfl rfl dX10_four_8 ?_
  refine lv_aload_n B.1 B.2.1 dX10_four_11 rfl (lv_at hl 1 rfl) ?_
  refine gf_X10_198 B Y 0 rfl rfl dX10_four_12 ?_
  refine lv_iload_n B.1 B.2.1 dX10_four_15 rfl (lv_at hl 2 rfl) ?_
  refine lv_iload_n B.1 B.2.1 dX10_four_16 rfl (lv_at hl 0 rfl) ?_
  refine lv_ishr B.1 B.2.1 dX10_four_17 ?_
  refine lv_topi (fun z4 ez4 => ?_)
  refine lv_sipush (v := 255) B.1 B.2.1 dX10_four_18 (by decide) ?_
  refine lv_iand B.1 B.2.1 dX10_four_21 ?_
  refine t_iast (j := 3) (g := upd (upd (upd (upd (f) 0 (z1 &&& 255)) 1 (z2 &&& 255)) 2 (z3 &&& 255)) 3 (z4 &&& 255)) (ws' := [(mo, .inr (10, [.ref e0, .ref e1, .ref e2, .ref e3, .ref e4, .int i0, .int i1, .int i2, .ref e5, .int 3, .int i4, .int i5, .int i6, .int i7, .int i8, .int i9, .int i10, .int i11, .int i12, .ref e6, .ref e7, .ref e8, .ref e9, .int i13, .ref e10, .ref e11, .int i14, .int i15, .ref e12, .int i16])), (e5, .inl (τ 0, 500, .inl (upd (upd (upd (upd (f) 0 (z1 &&& 255)) 1 (z2 &&& 255)) 2 (z3 &&& 255)) 3 (z4 &&& 255))))]) B Y 1 rfl (by decide) (by decide) (Nat.le_of_ble_eq_true rfl) rfl rfl dX10_four_22 (fun H locs Y => ?_)
  refine lv_aload_n B.1 B.2.1 dX10_four_23 rfl (lv_at hl 1 rfl) ?_
  refine lv_dup B.1 B.2.1 dX10_four_24 rfl ?_
  refine gf_X10_198 B Y 0 rfl rfl dX10_four_25 ?_
  refine lv_iconst (v := 1) B.1 B.2.1 dX10_four_28 (by decide) ?_
  refine lv_iadd B.1 B.2.1 dX10_four_29 ?_
  refine lv_cv (v := 4) (by decide) ?_
  refine pf_X10_198 (ws' := [(mo, .inr (10, [.ref e0, .ref e1, .ref e2, .ref e3, .ref e4, .int i0, .int i1, .int i2, .ref e5, .int 4, .int i4, .int i5, .int i6, .int i7, .int i8, .int i9, .int i10, .int i11, .int i12, .ref e6, .ref e7, .ref e8, .ref e9, .int i13, .ref e10, .ref e11, .int i14, .int i15, .ref e12, .int i16])), (e5, .inl (τ 0, 500, .inl (upd (upd (upd (upd (f) 0 (z1 &&& 255)) 1 (z2 &&& 255)) 2 (z3 &&& 255)) 3 (z4 &&& 255))))]) B Y 0 rfl (Nat.le_of_ble_eq_true rfl) rfl dX10_four_30 (fun H locs Y => ?_)
  refine lv_iinc (v := (-8)) (lv' := [(2, .int (-8)), (0, .ref mo), (1, .int y)]) B.1 B.2.1 dX10_four_33 hl (k := 0) rfl (by decide) (by decide) rfl (fun ls hl => ?_)
  refine lv_goto (tgt := 3) B.1 B.2.1 dX10_four_36 (by decide) ?_
  refine lv_iload_n B.1 B.2.1 dX10_four_3 rfl (lv_at hl 0 rfl) ?_
  refine lv_if_lt (tgt := 39) B.1 B.2.1 dX10_four_4 (by decide) (fun _ => ?_) (fun h => absurd (by decide) h)
  exact endV B hr hlk Y (upd (upd (upd (upd (f) 0 (z1 &&& 255)) 1 (z2 &&& 255)) 2 (z3 &&& 255)) 3 (z4 &&& 255)) trivial [0, 1] (by decide) rfl (Nat.le_of_ble_eq_true rfl) (Nat.le_of_ble_eq_true rfl) dX10_four_39

set_option maxHeartbeats 4000000 in
set_option maxRecDepth 100000 in
theorem k_four4 (l : Launch) (D : va_G) (τ : Nat → ClassId) (sz : Nat) (mo e0 e1 e2 e3 e4 e5 e6 e7 e8 e9 e10 e11 e12 : Nat) (i0 i1 i2 i4 i5 i6 i7 i8 i9 i10 i11 i12 i13 i14 i15 i16 : Int32) (f : Nat → Int32) (y : Int32) : Met l yX10_four (Cond.code yX10_four cX10_four 3 none :: wALL) { frames := 0, cells := 0, slots := 0, locals := 0 } (Pw D τ [(mo, .inr (10, [.ref e0, .ref e1, .ref e2, .ref e3, .ref e4, .int i0, .int i1, .int i2, .ref e5, .int 4, .int i4, .int i5, .int i6, .int i7, .int i8, .int i9, .int i10, .int i11, .int i12, .ref e6, .ref e7, .ref e8, .ref e9, .int i13, .ref e10, .ref e11, .int i14, .int i15, .ref e12, .int i16])), (e5, .inl (τ 0, 500, .inl (f)))] sz [.ref mo, .int y]) (va_Qv (fun (u : Nat → Int32) => True) (Bw D (va_A [(mo, .inr (10, [.ref e0, .ref e1, .ref e2, .ref e3, .ref e4, .int i0, .int i1, .int i2, .ref e5, .int 4, .int i4, .int i5, .int i6, .int i7, .int i8, .int i9, .int i10, .int i11, .int i12, .ref e6, .ref e7, .ref e8, .ref e9, .int i13, .ref e10, .ref e11, .int i14, .int i15, .ref e12, .int i16])), (e5, .inl (τ 0, 500, .inl (f)))] sz) (fun (u : Nat → Int32) => [(mo, .inr (10, [.ref e0, .ref e1, .ref e2, .ref e3, .ref e4, .int i0, .int i1, .int i2, .ref e5, .int 8, .int i4, .int i5, .int i6, .int i7, .int i8, .int i9, .int i10, .int i11, .int i12, .ref e6, .ref e7, .ref e8, .ref e9, .int i13, .ref e10, .ref e11, .int i14, .int i15, .ref e12, .int i16])), (e5, .inl (τ 0, 500, .inl (u)))])) (va_A [(mo, .inr (10, [.ref e0, .ref e1, .ref e2, .ref e3, .ref e4, .int i0, .int i1, .int i2, .ref e5, .int 4, .int i4, .int i5, .int i6, .int i7, .int i8, .int i9, .int i10, .int i11, .int i12, .ref e6, .ref e7, .ref e8, .ref e9, .int i13, .ref e10, .ref e11, .int i14, .int i15, .ref e12, .int i16])), (e5, .inl (τ 0, 500, .inl (f)))] sz)) 0 0 (va_A [(mo, .inr (10, [.ref e0, .ref e1, .ref e2, .ref e3, .ref e4, .int i0, .int i1, .int i2, .ref e5, .int 4, .int i4, .int i5, .int i6, .int i7, .int i8, .int i9, .int i10, .int i11, .int i12, .ref e6, .ref e7, .ref e8, .ref e9, .int i13, .ref e10, .ref e11, .int i14, .int i15, .ref e12, .int i16])), (e5, .inl (τ 0, 500, .inl (f)))] sz) := by
  refine bodyW (by decide) (Nat.le_of_ble_eq_true rfl) (fun p e s m below meth c ls B hr hlk hin hsz Y hl => ?_)
  have hl : lv_has ls 3 [(0, .ref mo), (1, .int y)] := hl
  have B : CallFix p m c cX10_four 3 s _ wALL RX10 := B
  generalize va_A [(mo, .inr (10, [.ref e0, .ref e1, .ref e2, .ref e3, .ref e4, .int i0, .int i1, .int i2, .ref e5, .int 4, .int i4, .int i5, .int i6, .int i7, .int i8, .int i9, .int i10, .int i11, .int i12, .ref e6, .ref e7, .ref e8, .ref e9, .int i13, .ref e10, .ref e11, .int i14, .int i15, .ref e12, .int i16])), (e5, .inl (τ 0, 500, .inl (f)))] sz = A at Y ⊢
  refine lv_bipush (v := 24) B.1 B.2.1 dX10_four_0 (by decide) ?_
  refine lv_istore_n (lv' := [(2, .int 24), (0, .ref mo), (1, .int y)]) B.1 B.2.1 dX10_four_2 rfl hl (by decide) rfl (fun ls hl => ?_)
  refine lv_iload_n B.1 B.2.1 dX10_four_3 rfl (lv_at hl 0 rfl) ?_
  refine lv_if_lt (tgt := 39) B.1 B.2.1 dX10_four_4 (by decide) (fun h => absurd h (by decide)) (fun _ => ?_)
  refine lv_aload_n B.1 B.2.1 dX10_four_7 rfl (lv_at hl 1 rfl) ?_
  refine gf_X10_26 B Y 0 rfl rfl dX10_four_8 ?_
  refine lv_aload_n B.1 B.2.1 dX10_four_11 rfl (lv_at hl 1 rfl) ?_
  refine gf_X10_198 B Y 0 rfl rfl dX10_four_12 ?_
  refine lv_iload_n B.1 B.2.1 dX10_four_15 rfl (lv_at hl 2 rfl) ?_
  refine lv_iload_n B.1 B.2.1 dX10_four_16 rfl (lv_at hl 0 rfl) ?_
  refine lv_ishr B.1 B.2.1 dX10_four_17 ?_
  refine lv_topi (fun z1 ez1 => ?_)
  refine lv_sipush (v := 255) B.1 B.2.1 dX10_four_18 (by decide) ?_
  refine lv_iand B.1 B.2.1 dX10_four_21 ?_
  refine t_iast (j := 4) (g := upd (f) 4 (z1 &&& 255)) (ws' := [(mo, .inr (10, [.ref e0, .ref e1, .ref e2, .ref e3, .ref e4, .int i0, .int i1, .int i2, .ref e5, .int 4, .int i4, .int i5, .int i6, .int i7, .int i8, .int i9, .int i10, .int i11, .int i12, .ref e6, .ref e7, .ref e8, .ref e9, .int i13, .ref e10, .ref e11, .int i14, .int i15, .ref e12, .int i16])), (e5, .inl (τ 0, 500, .inl (upd (f) 4 (z1 &&& 255))))]) B Y 1 rfl (by decide) (by decide) (Nat.le_of_ble_eq_true rfl) rfl rfl dX10_four_22 (fun H locs Y => ?_)
  refine lv_aload_n B.1 B.2.1 dX10_four_23 rfl (lv_at hl 1 rfl) ?_
  refine lv_dup B.1 B.2.1 dX10_four_24 rfl ?_
  refine gf_X10_198 B Y 0 rfl rfl dX10_four_25 ?_
  refine lv_iconst (v := 1) B.1 B.2.1 dX10_four_28 (by decide) ?_
  refine lv_iadd B.1 B.2.1 dX10_four_29 ?_
  refine lv_cv (v := 5) (by decide) ?_
  refine pf_X10_198 (ws' := [(mo, .inr (10, [.ref e0, .ref e1, .ref e2, .ref e3, .ref e4, .int i0, .int i1, .int i2, .ref e5, .int 5, .int i4, .int i5, .int i6, .int i7, .int i8, .int i9, .int i10, .int i11, .int i12, .ref e6, .ref e7, .ref e8, .ref e9, .int i13, .ref e10, .ref e11, .int i14, .int i15, .ref e12, .int i16])), (e5, .inl (τ 0, 500, .inl (upd (f) 4 (z1 &&& 255))))]) B Y 0 rfl (Nat.le_of_ble_eq_true rfl) rfl dX10_four_30 (fun H locs Y => ?_)
  refine lv_iinc (v := 16) (lv' := [(2, .int 16), (0, .ref mo), (1, .int y)]) B.1 B.2.1 dX10_four_33 hl (k := 0) rfl (by decide) (by decide) rfl (fun ls hl => ?_)
  refine lv_goto (tgt := 3) B.1 B.2.1 dX10_four_36 (by decide) ?_
  refine lv_iload_n B.1 B.2.1 dX10_four_3 rfl (lv_at hl 0 rfl) ?_
  refine lv_if_lt (tgt := 39) B.1 B.2.1 dX10_four_4 (by decide) (fun h => absurd h (by decide)) (fun _ => ?_)
  refine lv_aload_n B.1 B.2.1 dX10_four_7 rfl (lv_at hl 1 rfl) ?_
  refine gf_X10_26 B Y 0 rfl rfl dX10_four_8 ?_
  refine lv_aload_n B.1 B.2.1 dX10_four_11 rfl (lv_at hl 1 rfl) ?_
  refine gf_X10_198 B Y 0 rfl rfl dX10_four_12 ?_
  refine lv_iload_n B.1 B.2.1 dX10_four_15 rfl (lv_at hl 2 rfl) ?_
  refine lv_iload_n B.1 B.2.1 dX10_four_16 rfl (lv_at hl 0 rfl) ?_
  refine lv_ishr B.1 B.2.1 dX10_four_17 ?_
  refine lv_topi (fun z2 ez2 => ?_)
  refine lv_sipush (v := 255) B.1 B.2.1 dX10_four_18 (by decide) ?_
  refine lv_iand B.1 B.2.1 dX10_four_21 ?_
  refine t_iast (j := 5) (g := upd (upd (f) 4 (z1 &&& 255)) 5 (z2 &&& 255)) (ws' := [(mo, .inr (10, [.ref e0, .ref e1, .ref e2, .ref e3, .ref e4, .int i0, .int i1, .int i2, .ref e5, .int 5, .int i4, .int i5, .int i6, .int i7, .int i8, .int i9, .int i10, .int i11, .int i12, .ref e6, .ref e7, .ref e8, .ref e9, .int i13, .ref e10, .ref e11, .int i14, .int i15, .ref e12, .int i16])), (e5, .inl (τ 0, 500, .inl (upd (upd (f) 4 (z1 &&& 255)) 5 (z2 &&& 255))))]) B Y 1 rfl (by decide) (by decide) (Nat.le_of_ble_eq_true rfl) rfl rfl dX10_four_22 (fun H locs Y => ?_)
  refine lv_aload_n B.1 B.2.1 dX10_four_23 rfl (lv_at hl 1 rfl) ?_
  refine lv_dup B.1 B.2.1 dX10_four_24 rfl ?_
  refine gf_X10_198 B Y 0 rfl rfl dX10_four_25 ?_
  refine lv_iconst (v := 1) B.1 B.2.1 dX10_four_28 (by decide) ?_
  refine lv_iadd B.1 B.2.1 dX10_four_29 ?_
  refine lv_cv (v := 6) (by decide) ?_
  refine pf_X10_198 (ws' := [(mo, .inr (10, [.ref e0, .ref e1, .ref e2, .ref e3, .ref e4, .int i0, .int i1, .int i2, .ref e5, .int 6, .int i4, .int i5, .int i6, .int i7, .int i8, .int i9, .int i10, .int i11, .int i12, .ref e6, .ref e7, .ref e8, .ref e9, .int i13, .ref e10, .ref e11, .int i14, .int i15, .ref e12, .int i16])), (e5, .inl (τ 0, 500, .inl (upd (upd (f) 4 (z1 &&& 255)) 5 (z2 &&& 255))))]) B Y 0 rfl (Nat.le_of_ble_eq_true rfl) rfl dX10_four_30 (fun H locs Y => ?_)
  refine lv_iinc (v := 8) (lv' := [(2, .int 8), (0, .ref mo), (1, .int y)]) B.1 B.2.1 dX10_four_33 hl (k := 0) rfl (by decide) (by decide) rfl (fun ls hl => ?_)
  refine lv_goto (tgt := 3) B.1 B.2.1 dX10_four_36 (by decide) ?_
  refine lv_iload_n B.1 B.2.1 dX10_four_3 rfl (lv_at hl 0 rfl) ?_
  refine lv_if_lt (tgt := 39) B.1 B.2.1 dX10_four_4 (by decide) (fun h => absurd h (by decide)) (fun _ => ?_)
  refine lv_aload_n B.1 B.2.1 dX10_four_7 rfl (lv_at hl 1 rfl) ?_
  refine gf_X10_26 B Y 0 rfl rfl dX10_four_8 ?_
  refine lv_aload_n B.1 B.2.1 dX10_four_11 rfl (lv_at hl 1 rfl) ?_
  refine gf_X10_198 B Y 0 rfl rfl dX10_four_12 ?_
  refine lv_iload_n B.1 B.2.1 dX10_four_15 rfl (lv_at hl 2 rfl) ?_
  refine lv_iload_n B.1 B.2.1 dX10_four_16 rfl (lv_at hl 0 rfl) ?_
  refine lv_ishr B.1 B.2.1 dX10_four_17 ?_
  refine lv_topi (fun z3 ez3 => ?_)
  refine lv_sipush (v := 255) B.1 B.2.1 dX10_four_18 (by decide) ?_
  refine lv_iand B.1 B.2.1 dX10_four_21 ?_
  refine t_iast (j := 6) (g := upd (upd (upd (f) 4 (z1 &&& 255)) 5 (z2 &&& 255)) 6 (z3 &&& 255)) (ws' := [(mo, .inr (10, [.ref e0, .ref e1, .ref e2, .ref e3, .ref e4, .int i0, .int i1, .int i2, .ref e5, .int 6, .int i4, .int i5, .int i6, .int i7, .int i8, .int i9, .int i10, .int i11, .int i12, .ref e6, .ref e7, .ref e8, .ref e9, .int i13, .ref e10, .ref e11, .int i14, .int i15, .ref e12, .int i16])), (e5, .inl (τ 0, 500, .inl (upd (upd (upd (f) 4 (z1 &&& 255)) 5 (z2 &&& 255)) 6 (z3 &&& 255))))]) B Y 1 rfl (by decide) (by decide) (Nat.le_of_ble_eq_true rfl) rfl rfl dX10_four_22 (fun H locs Y => ?_)
  refine lv_aload_n B.1 B.2.1 dX10_four_23 rfl (lv_at hl 1 rfl) ?_
  refine lv_dup B.1 B.2.1 dX10_four_24 rfl ?_
  refine gf_X10_198 B Y 0 rfl rfl dX10_four_25 ?_
  refine lv_iconst (v := 1) B.1 B.2.1 dX10_four_28 (by decide) ?_
  refine lv_iadd B.1 B.2.1 dX10_four_29 ?_
  refine lv_cv (v := 7) (by decide) ?_
  refine pf_X10_198 (ws' := [(mo, .inr (10, [.ref e0, .ref e1, .ref e2, .ref e3, .ref e4, .int i0, .int i1, .int i2, .ref e5, .int 7, .int i4, .int i5, .int i6, .int i7, .int i8, .int i9, .int i10, .int i11, .int i12, .ref e6, .ref e7, .ref e8, .ref e9, .int i13, .ref e10, .ref e11, .int i14, .int i15, .ref e12, .int i16])), (e5, .inl (τ 0, 500, .inl (upd (upd (upd (f) 4 (z1 &&& 255)) 5 (z2 &&& 255)) 6 (z3 &&& 255))))]) B Y 0 rfl (Nat.le_of_ble_eq_true rfl) rfl dX10_four_30 (fun H locs Y => ?_)
  refine lv_iinc (v := 0) (lv' := [(2, .int 0), (0, .ref mo), (1, .int y)]) B.1 B.2.1 dX10_four_33 hl (k := 0) rfl (by decide) (by decide) rfl (fun ls hl => ?_)
  refine lv_goto (tgt := 3) B.1 B.2.1 dX10_four_36 (by decide) ?_
  refine lv_iload_n B.1 B.2.1 dX10_four_3 rfl (lv_at hl 0 rfl) ?_
  refine lv_if_lt (tgt := 39) B.1 B.2.1 dX10_four_4 (by decide) (fun h => absurd h (by decide)) (fun _ => ?_)
  refine lv_aload_n B.1 B.2.1 dX10_four_7 rfl (lv_at hl 1 rfl) ?_
  refine gf_X10_26 B Y 0 rfl rfl dX10_four_8 ?_
  refine lv_aload_n B.1 B.2.1 dX10_four_11 rfl (lv_at hl 1 rfl) ?_
  refine gf_X10_198 B Y 0 rfl rfl dX10_four_12 ?_
  refine lv_iload_n B.1 B.2.1 dX10_four_15 rfl (lv_at hl 2 rfl) ?_
  refine lv_iload_n B.1 B.2.1 dX10_four_16 rfl (lv_at hl 0 rfl) ?_
  refine lv_ishr B.1 B.2.1 dX10_four_17 ?_
  refine lv_topi (fun z4 ez4 => ?_)
  refine lv_sipush (v := 255) B.1 B.2.1 dX10_four_18 (by decide) ?_
  refine lv_iand B.1 B.2.1 dX10_four_21 ?_
  refine t_iast (j := 7) (g := upd (upd (upd (upd (f) 4 (z1 &&& 255)) 5 (z2 &&& 255)) 6 (z3 &&& 255)) 7 (z4 &&& 255)) (ws' := [(mo, .inr (10, [.ref e0, .ref e1, .ref e2, .ref e3, .ref e4, .int i0, .int i1, .int i2, .ref e5, .int 7, .int i4, .int i5, .int i6, .int i7, .int i8, .int i9, .int i10, .int i11, .int i12, .ref e6, .ref e7, .ref e8, .ref e9, .int i13, .ref e10, .ref e11, .int i14, .int i15, .ref e12, .int i16])), (e5, .inl (τ 0, 500, .inl (upd (upd (upd (upd (f) 4 (z1 &&& 255)) 5 (z2 &&& 255)) 6 (z3 &&& 255)) 7 (z4 &&& 255))))]) B Y 1 rfl (by decide) (by decide) (Nat.le_of_ble_eq_true rfl) rfl rfl dX10_four_22 (fun H locs Y => ?_)
  refine lv_aload_n B.1 B.2.1 dX10_four_23 rfl (lv_at hl 1 rfl) ?_
  refine lv_dup B.1 B.2.1 dX10_four_24 rfl ?_
  refine gf_X10_198 B Y 0 rfl rfl dX10_four_25 ?_
  refine lv_iconst (v := 1) B.1 B.2.1 dX10_four_28 (by decide) ?_
  refine lv_iadd B.1 B.2.1 dX10_four_29 ?_
  refine lv_cv (v := 8) (by decide) ?_
  refine pf_X10_198 (ws' := [(mo, .inr (10, [.ref e0, .ref e1, .ref e2, .ref e3, .ref e4, .int i0, .int i1, .int i2, .ref e5, .int 8, .int i4, .int i5, .int i6, .int i7, .int i8, .int i9, .int i10, .int i11, .int i12, .ref e6, .ref e7, .ref e8, .ref e9, .int i13, .ref e10, .ref e11, .int i14, .int i15, .ref e12, .int i16])), (e5, .inl (τ 0, 500, .inl (upd (upd (upd (upd (f) 4 (z1 &&& 255)) 5 (z2 &&& 255)) 6 (z3 &&& 255)) 7 (z4 &&& 255))))]) B Y 0 rfl (Nat.le_of_ble_eq_true rfl) rfl dX10_four_30 (fun H locs Y => ?_)
  refine lv_iinc (v := (-8)) (lv' := [(2, .int (-8)), (0, .ref mo), (1, .int y)]) B.1 B.2.1 dX10_four_33 hl (k := 0) rfl (by decide) (by decide) rfl (fun ls hl => ?_)
  refine lv_goto (tgt := 3) B.1 B.2.1 dX10_four_36 (by decide) ?_
  refine lv_iload_n B.1 B.2.1 dX10_four_3 rfl (lv_at hl 0 rfl) ?_
  refine lv_if_lt (tgt := 39) B.1 B.2.1 dX10_four_4 (by decide) (fun _ => ?_) (fun h => absurd (by decide) h)
  exact endV B hr hlk Y (upd (upd (upd (upd (f) 4 (z1 &&& 255)) 5 (z2 &&& 255)) 6 (z3 &&& 255)) 7 (z4 &&& 255)) trivial [0, 1] (by decide) rfl (Nat.le_of_ble_eq_true rfl) (Nat.le_of_ble_eq_true rfl) dX10_four_39

set_option maxHeartbeats 4000000 in
set_option maxRecDepth 100000 in
theorem k_four8 (l : Launch) (D : va_G) (τ : Nat → ClassId) (sz : Nat) (mo e0 e1 e2 e3 e4 e5 e6 e7 e8 e9 e10 e11 e12 : Nat) (i0 i1 i2 i4 i5 i6 i7 i8 i9 i10 i11 i12 i13 i14 i15 i16 : Int32) (f : Nat → Int32) (y : Int32) : Met l yX10_four (Cond.code yX10_four cX10_four 3 none :: wALL) { frames := 0, cells := 0, slots := 0, locals := 0 } (Pw D τ [(mo, .inr (10, [.ref e0, .ref e1, .ref e2, .ref e3, .ref e4, .int i0, .int i1, .int i2, .ref e5, .int 8, .int i4, .int i5, .int i6, .int i7, .int i8, .int i9, .int i10, .int i11, .int i12, .ref e6, .ref e7, .ref e8, .ref e9, .int i13, .ref e10, .ref e11, .int i14, .int i15, .ref e12, .int i16])), (e5, .inl (τ 0, 500, .inl (f)))] sz [.ref mo, .int y]) (va_Qv (fun (u : Nat → Int32) => True) (Bw D (va_A [(mo, .inr (10, [.ref e0, .ref e1, .ref e2, .ref e3, .ref e4, .int i0, .int i1, .int i2, .ref e5, .int 8, .int i4, .int i5, .int i6, .int i7, .int i8, .int i9, .int i10, .int i11, .int i12, .ref e6, .ref e7, .ref e8, .ref e9, .int i13, .ref e10, .ref e11, .int i14, .int i15, .ref e12, .int i16])), (e5, .inl (τ 0, 500, .inl (f)))] sz) (fun (u : Nat → Int32) => [(mo, .inr (10, [.ref e0, .ref e1, .ref e2, .ref e3, .ref e4, .int i0, .int i1, .int i2, .ref e5, .int 12, .int i4, .int i5, .int i6, .int i7, .int i8, .int i9, .int i10, .int i11, .int i12, .ref e6, .ref e7, .ref e8, .ref e9, .int i13, .ref e10, .ref e11, .int i14, .int i15, .ref e12, .int i16])), (e5, .inl (τ 0, 500, .inl (u)))])) (va_A [(mo, .inr (10, [.ref e0, .ref e1, .ref e2, .ref e3, .ref e4, .int i0, .int i1, .int i2, .ref e5, .int 8, .int i4, .int i5, .int i6, .int i7, .int i8, .int i9, .int i10, .int i11, .int i12, .ref e6, .ref e7, .ref e8, .ref e9, .int i13, .ref e10, .ref e11, .int i14, .int i15, .ref e12, .int i16])), (e5, .inl (τ 0, 500, .inl (f)))] sz)) 0 0 (va_A [(mo, .inr (10, [.ref e0, .ref e1, .ref e2, .ref e3, .ref e4, .int i0, .int i1, .int i2, .ref e5, .int 8, .int i4, .int i5, .int i6, .int i7, .int i8, .int i9, .int i10, .int i11, .int i12, .ref e6, .ref e7, .ref e8, .ref e9, .int i13, .ref e10, .ref e11, .int i14, .int i15, .ref e12, .int i16])), (e5, .inl (τ 0, 500, .inl (f)))] sz) := by
  refine bodyW (by decide) (Nat.le_of_ble_eq_true rfl) (fun p e s m below meth c ls B hr hlk hin hsz Y hl => ?_)
  have hl : lv_has ls 3 [(0, .ref mo), (1, .int y)] := hl
  have B : CallFix p m c cX10_four 3 s _ wALL RX10 := B
  generalize va_A [(mo, .inr (10, [.ref e0, .ref e1, .ref e2, .ref e3, .ref e4, .int i0, .int i1, .int i2, .ref e5, .int 8, .int i4, .int i5, .int i6, .int i7, .int i8, .int i9, .int i10, .int i11, .int i12, .ref e6, .ref e7, .ref e8, .ref e9, .int i13, .ref e10, .ref e11, .int i14, .int i15, .ref e12, .int i16])), (e5, .inl (τ 0, 500, .inl (f)))] sz = A at Y ⊢
  refine lv_bipush (v := 24) B.1 B.2.1 dX10_four_0 (by decide) ?_
  refine lv_istore_n (lv' := [(2, .int 24), (0, .ref mo), (1, .int y)]) B.1 B.2.1 dX10_four_2 rfl hl (by decide) rfl (fun ls hl => ?_)
  refine lv_iload_n B.1 B.2.1 dX10_four_3 rfl (lv_at hl 0 rfl) ?_
  refine lv_if_lt (tgt := 39) B.1 B.2.1 dX10_four_4 (by decide) (fun h => absurd h (by decide)) (fun _ => ?_)
  refine lv_aload_n B.1 B.2.1 dX10_four_7 rfl (lv_at hl 1 rfl) ?_
  refine gf_X10_26 B Y 0 rfl rfl dX10_four_8 ?_
  refine lv_aload_n B.1 B.2.1 dX10_four_11 rfl (lv_at hl 1 rfl) ?_
  refine gf_X10_198 B Y 0 rfl rfl dX10_four_12 ?_
  refine lv_iload_n B.1 B.2.1 dX10_four_15 rfl (lv_at hl 2 rfl) ?_
  refine lv_iload_n B.1 B.2.1 dX10_four_16 rfl (lv_at hl 0 rfl) ?_
  refine lv_ishr B.1 B.2.1 dX10_four_17 ?_
  refine lv_topi (fun z1 ez1 => ?_)
  refine lv_sipush (v := 255) B.1 B.2.1 dX10_four_18 (by decide) ?_
  refine lv_iand B.1 B.2.1 dX10_four_21 ?_
  refine t_iast (j := 8) (g := upd (f) 8 (z1 &&& 255)) (ws' := [(mo, .inr (10, [.ref e0, .ref e1, .ref e2, .ref e3, .ref e4, .int i0, .int i1, .int i2, .ref e5, .int 8, .int i4, .int i5, .int i6, .int i7, .int i8, .int i9, .int i10, .int i11, .int i12, .ref e6, .ref e7, .ref e8, .ref e9, .int i13, .ref e10, .ref e11, .int i14, .int i15, .ref e12, .int i16])), (e5, .inl (τ 0, 500, .inl (upd (f) 8 (z1 &&& 255))))]) B Y 1 rfl (by decide) (by decide) (Nat.le_of_ble_eq_true rfl) rfl rfl dX10_four_22 (fun H locs Y => ?_)
  refine lv_aload_n B.1 B.2.1 dX10_four_23 rfl (lv_at hl 1 rfl) ?_
  refine lv_dup B.1 B.2.1 dX10_four_24 rfl ?_
  refine gf_X10_198 B Y 0 rfl rfl dX10_four_25 ?_
  refine lv_iconst (v := 1) B.1 B.2.1 dX10_four_28 (by decide) ?_
  refine lv_iadd B.1 B.2.1 dX10_four_29 ?_
  refine lv_cv (v := 9) (by decide) ?_
  refine pf_X10_198 (ws' := [(mo, .inr (10, [.ref e0, .ref e1, .ref e2, .ref e3, .ref e4, .int i0, .int i1, .int i2, .ref e5, .int 9, .int i4, .int i5, .int i6, .int i7, .int i8, .int i9, .int i10, .int i11, .int i12, .ref e6, .ref e7, .ref e8, .ref e9, .int i13, .ref e10, .ref e11, .int i14, .int i15, .ref e12, .int i16])), (e5, .inl (τ 0, 500, .inl (upd (f) 8 (z1 &&& 255))))]) B Y 0 rfl (Nat.le_of_ble_eq_true rfl) rfl dX10_four_30 (fun H locs Y => ?_)
  refine lv_iinc (v := 16) (lv' := [(2, .int 16), (0, .ref mo), (1, .int y)]) B.1 B.2.1 dX10_four_33 hl (k := 0) rfl (by decide) (by decide) rfl (fun ls hl => ?_)
  refine lv_goto (tgt := 3) B.1 B.2.1 dX10_four_36 (by decide) ?_
  refine lv_iload_n B.1 B.2.1 dX10_four_3 rfl (lv_at hl 0 rfl) ?_
  refine lv_if_lt (tgt := 39) B.1 B.2.1 dX10_four_4 (by decide) (fun h => absurd h (by decide)) (fun _ => ?_)
  refine lv_aload_n B.1 B.2.1 dX10_four_7 rfl (lv_at hl 1 rfl) ?_
  refine gf_X10_26 B Y 0 rfl rfl dX10_four_8 ?_
  refine lv_aload_n B.1 B.2.1 dX10_four_11 rfl (lv_at hl 1 rfl) ?_
  refine gf_X10_198 B Y 0 rfl rfl dX10_four_12 ?_
  refine lv_iload_n B.1 B.2.1 dX10_four_15 rfl (lv_at hl 2 rfl) ?_
  refine lv_iload_n B.1 B.2.1 dX10_four_16 rfl (lv_at hl 0 rfl) ?_
  refine lv_ishr B.1 B.2.1 dX10_four_17 ?_
  refine lv_topi (fun z2 ez2 => ?_)
  refine lv_sipush (v := 255) B.1 B.2.1 dX10_four_18 (by decide) ?_
  refine lv_iand B.1 B.2.1 dX10_four_21 ?_
  refine t_iast (j := 9) (g := upd (upd (f) 8 (z1 &&& 255)) 9 (z2 &&& 255)) (ws' := [(mo, .inr (10, [.ref e0, .ref e1, .ref e2, .ref e3, .ref e4, .int i0, .int i1, .int i2, .ref e5, .int 9, .int i4, .int i5, .int i6, .int i7, .int i8, .int i9, .int i10, .int i11, .int i12, .ref e6, .ref e7, .ref e8, .ref e9, .int i13, .ref e10, .ref e11, .int i14, .int i15, .ref e12, .int i16])), (e5, .inl (τ 0, 500, .inl (upd (upd (f) 8 (z1 &&& 255)) 9 (z2 &&& 255))))]) B Y 1 rfl (by decide) (by decide) (Nat.le_of_ble_eq_true rfl) rfl rfl dX10_four_22 (fun H locs Y => ?_)
  refine lv_aload_n B.1 B.2.1 dX10_four_23 rfl (lv_at hl 1 rfl) ?_
  refine lv_dup B.1 B.2.1 dX10_four_24 rfl ?_
  refine gf_X10_198 B Y 0 rfl rfl dX10_four_25 ?_
  refine lv_iconst (v := 1) B.1 B.2.1 dX10_four_28 (by decide) ?_
  refine lv_iadd B.1 B.2.1 dX10_four_29 ?_
  refine lv_cv (v := 10) (by decide) ?_
  refine pf_X10_198 (ws' := [(mo, .inr (10, [.ref e0, .ref e1, .ref e2, .ref e3, .ref e4, .int i0, .int i1, .int i2, .ref e5, .int 10, .int i4, .int i5, .int i6, .int i7, .int i8, .int i9, .int i10, .int i11, .int i12, .ref e6, .ref e7, .ref e8, .ref e9, .int i13, .ref e10, .ref e11, .int i14, .int i15, .ref e12, .int i16])), (e5, .inl (τ 0, 500, .inl (upd (upd (f) 8 (z1 &&& 255)) 9 (z2 &&& 255))))]) B Y 0 rfl (Nat.le_of_ble_eq_true rfl) rfl dX10_four_30 (fun H locs Y => ?_)
  refine lv_iinc (v := 8) (lv' := [(2, .int 8), (0, .ref mo), (1, .int y)]) B.1 B.2.1 dX10_four_33 hl (k := 0) rfl (by decide) (by decide) rfl (fun ls hl => ?_)
  refine lv_goto (tgt := 3) B.1 B.2.1 dX10_four_36 (by decide) ?_
  refine lv_iload_n B.1 B.2.1 dX10_four_3 rfl (lv_at hl 0 rfl) ?_
  refine lv_if_lt (tgt := 39) B.1 B.2.1 dX10_four_4 (by decide) (fun h => absurd h (by decide)) (fun _ => ?_)
  refine lv_aload_n B.1 B.2.1 dX10_four_7 rfl (lv_at hl 1 rfl) ?_
  refine gf_X10_26 B Y 0 rfl rfl dX10_four_8 ?_
  refine lv_aload_n B.1 B.2.1 dX10_four_11 rfl (lv_at hl 1 rfl) ?_
  refine gf_X10_198 B Y 0 rfl rfl dX10_four_12 ?_
  refine lv_iload_n B.1 B.2.1 dX10_four_15 rfl (lv_at hl 2 rfl) ?_
  refine lv_iload_n B.1 B.2.1 dX10_four_16 rfl (lv_at hl 0 rfl) ?_
  refine lv_ishr B.1 B.2.1 dX10_four_17 ?_
  refine lv_topi (fun z3 ez3 => ?_)
  refine lv_sipush (v := 255) B.1 B.2.1 dX10_four_18 (by decide) ?_
  refine lv_iand B.1 B.2.1 dX10_four_21 ?_
  refine t_iast (j := 10) (g := upd (upd (upd (f) 8 (z1 &&& 255)) 9 (z2 &&& 255)) 10 (z3 &&& 255)) (ws' := [(mo, .inr (10, [.ref e0, .ref e1, .ref e2, .ref e3, .ref e4, .int i0, .int i1, .int i2, .ref e5, .int 10, .int i4, .int i5, .int i6, .int i7, .int i8, .int i9, .int i10, .int i11, .int i12, .ref e6, .ref e7, .ref e8, .ref e9, .int i13, .ref e10, .ref e11, .int i14, .int i15, .ref e12, .int i16])), (e5, .inl (τ 0, 500, .inl (upd (upd (upd (f) 8 (z1 &&& 255)) 9 (z2 &&& 255)) 10 (z3 &&& 255))))]) B Y 1 rfl (by decide) (by decide) (Nat.le_of_ble_eq_true rfl) rfl rfl dX10_four_22 (fun H locs Y => ?_)
  refine lv_aload_n B.1 B.2.1 dX10_four_23 rfl (lv_at hl 1 rfl) ?_
  refine lv_dup B.1 B.2.1 dX10_four_24 rfl ?_
  refine gf_X10_198 B Y 0 rfl rfl dX10_four_25 ?_
  refine lv_iconst (v := 1) B.1 B.2.1 dX10_four_28 (by decide) ?_
  refine lv_iadd B.1 B.2.1 dX10_four_29 ?_
  refine lv_cv (v := 11) (by decide) ?_
  refine pf_X10_198 (ws' := [(mo, .inr (10, [.ref e0, .ref e1, .ref e2, .ref e3, .ref e4, .int i0, .int i1, .int i2, .ref e5, .int 11, .int i4, .int i5, .int i6, .int i7, .int i8, .int i9, .int i10, .int i11, .int i12, .ref e6, .ref e7, .ref e8, .ref e9, .int i13, .ref e10, .ref e11, .int i14, .int i15, .ref e12, .int i16])), (e5, .inl (τ 0, 500, .inl (upd (upd (upd (f) 8 (z1 &&& 255)) 9 (z2 &&& 255)) 10 (z3 &&& 255))))]) B Y 0 rfl (Nat.le_of_ble_eq_true rfl) rfl dX10_four_30 (fun H locs Y => ?_)
  refine lv_iinc (v := 0) (lv' := [(2, .int 0), (0, .ref mo), (1, .int y)]) B.1 B.2.1 dX10_four_33 hl (k := 0) rfl (by decide) (by decide) rfl (fun ls hl => ?_)
  refine lv_goto (tgt := 3) B.1 B.2.1 dX10_four_36 (by decide) ?_
  refine lv_iload_n B.1 B.2.1 dX10_four_3 rfl (lv_at hl 0 rfl) ?_
  refine lv_if_lt (tgt := 39) B.1 B.2.1 dX10_four_4 (by decide) (fun h => absurd h (by decide)) (fun _ => ?_)
  refine lv_aload_n B.1 B.2.1 dX10_four_7 rfl (lv_at hl 1 rfl) ?_
  refine gf_X10_26 B Y 0 rfl rfl dX10_four_8 ?_
  refine lv_aload_n B.1 B.2.1 dX10_four_11 rfl (lv_at hl 1 rfl) ?_
  refine gf_X10_198 B Y 0 rfl rfl dX10_four_12 ?_
  refine lv_iload_n B.1 B.2.1 dX10_four_15 rfl (lv_at hl 2 rfl) ?_
  refine lv_iload_n B.1 B.2.1 dX10_four_16 rfl (lv_at hl 0 rfl) ?_
  refine lv_ishr B.1 B.2.1 dX10_four_17 ?_
  refine lv_topi (fun z4 ez4 => ?_)
  refine lv_sipush (v := 255) B.1 B.2.1 dX10_four_18 (by decide) ?_
  refine lv_iand B.1 B.2.1 dX10_four_21 ?_
  refine t_iast (j := 11) (g := upd (upd (upd (upd (f) 8 (z1 &&& 255)) 9 (z2 &&& 255)) 10 (z3 &&& 255)) 11 (z4 &&& 255)) (ws' := [(mo, .inr (10, [.ref e0, .ref e1, .ref e2, .ref e3, .ref e4, .int i0, .int i1, .int i2, .ref e5, .int 11, .int i4, .int i5, .int i6, .int i7, .int i8, .int i9, .int i10, .int i11, .int i12, .ref e6, .ref e7, .ref e8, .ref e9, .int i13, .ref e10, .ref e11, .int i14, .int i15, .ref e12, .int i16])), (e5, .inl (τ 0, 500, .inl (upd (upd (upd (upd (f) 8 (z1 &&& 255)) 9 (z2 &&& 255)) 10 (z3 &&& 255)) 11 (z4 &&& 255))))]) B Y 1 rfl (by decide) (by decide) (Nat.le_of_ble_eq_true rfl) rfl rfl dX10_four_22 (fun H locs Y => ?_)
  refine lv_aload_n B.1 B.2.1 dX10_four_23 rfl (lv_at hl 1 rfl) ?_
  refine lv_dup B.1 B.2.1 dX10_four_24 rfl ?_
  refine gf_X10_198 B Y 0 rfl rfl dX10_four_25 ?_
  refine lv_iconst (v := 1) B.1 B.2.1 dX10_four_28 (by decide) ?_
  refine lv_iadd B.1 B.2.1 dX10_four_29 ?_
  refine lv_cv (v := 12) (by decide) ?_
  refine pf_X10_198 (ws' := [(mo, .inr (10, [.ref e0, .ref e1, .ref e2, .ref e3, .ref e4, .int i0, .int i1, .int i2, .ref e5, .int 12, .int i4, .int i5, .int i6, .int i7, .int i8, .int i9, .int i10, .int i11, .int i12, .ref e6, .ref e7, .ref e8, .ref e9, .int i13, .ref e10, .ref e11, .int i14, .int i15, .ref e12, .int i16])), (e5, .inl (τ 0, 500, .inl (upd (upd (upd (upd (f) 8 (z1 &&& 255)) 9 (z2 &&& 255)) 10 (z3 &&& 255)) 11 (z4 &&& 255))))]) B Y 0 rfl (Nat.le_of_ble_eq_true rfl) rfl dX10_four_30 (fun H locs Y => ?_)
  refine lv_iinc (v := (-8)) (lv' := [(2, .int (-8)), (0, .ref mo), (1, .int y)]) B.1 B.2.1 dX10_four_33 hl (k := 0) rfl (by decide) (by decide) rfl (fun ls hl => ?_)
  refine lv_goto (tgt := 3) B.1 B.2.1 dX10_four_36 (by decide) ?_
  refine lv_iload_n B.1 B.2.1 dX10_four_3 rfl (lv_at hl 0 rfl) ?_
  refine lv_if_lt (tgt := 39) B.1 B.2.1 dX10_four_4 (by decide) (fun _ => ?_) (fun h => absurd (by decide) h)
  exact endV B hr hlk Y (upd (upd (upd (upd (f) 8 (z1 &&& 255)) 9 (z2 &&& 255)) 10 (z3 &&& 255)) 11 (z4 &&& 255)) trivial [0, 1] (by decide) rfl (Nat.le_of_ble_eq_true rfl) (Nat.le_of_ble_eq_true rfl) dX10_four_39

set_option maxHeartbeats 4000000 in
set_option maxRecDepth 100000 in
theorem k_four12 (l : Launch) (D : va_G) (τ : Nat → ClassId) (sz : Nat) (mo e0 e1 e2 e3 e4 e5 e6 e7 e8 e9 e10 e11 e12 : Nat) (i0 i1 i2 i4 i5 i6 i7 i8 i9 i10 i11 i12 i13 i14 i15 i16 : Int32) (f : Nat → Int32) (y : Int32) : Met l yX10_four (Cond.code yX10_four cX10_four 3 none :: wALL) { frames := 0, cells := 0, slots := 0, locals := 0 } (Pw D τ [(mo, .inr (10, [.ref e0, .ref e1, .ref e2, .ref e3, .ref e4, .int i0, .int i1, .int i2, .ref e5, .int 12, .int i4, .int i5, .int i6, .int i7, .int i8, .int i9, .int i10, .int i11, .int i12, .ref e6, .ref e7, .ref e8, .ref e9, .int i13, .ref e10, .ref e11, .int i14, .int i15, .ref e12, .int i16])), (e5, .inl (τ 0, 500, .inl (f)))] sz [.ref mo, .int y]) (va_Qv (fun (u : Nat → Int32) => True) (Bw D (va_A [(mo, .inr (10, [.ref e0, .ref e1, .ref e2, .ref e3, .ref e4, .int i0, .int i1, .int i2, .ref e5, .int 12, .int i4, .int i5, .int i6, .int i7, .int i8, .int i9, .int i10, .int i11, .int i12, .ref e6, .ref e7, .ref e8, .ref e9, .int i13, .ref e10, .ref e11, .int i14, .int i15, .ref e12, .int i16])), (e5, .inl (τ 0, 500, .inl (f)))] sz) (fun (u : Nat → Int32) => [(mo, .inr (10, [.ref e0, .ref e1, .ref e2, .ref e3, .ref e4, .int i0, .int i1, .int i2, .ref e5, .int 16, .int i4, .int i5, .int i6, .int i7, .int i8, .int i9, .int i10, .int i11, .int i12, .ref e6, .ref e7, .ref e8, .ref e9, .int i13, .ref e10, .ref e11, .int i14, .int i15, .ref e12, .int i16])), (e5, .inl (τ 0, 500, .inl (u)))])) (va_A [(mo, .inr (10, [.ref e0, .ref e1, .ref e2, .ref e3, .ref e4, .int i0, .int i1, .int i2, .ref e5, .int 12, .int i4, .int i5, .int i6, .int i7, .int i8, .int i9, .int i10, .int i11, .int i12, .ref e6, .ref e7, .ref e8, .ref e9, .int i13, .ref e10, .ref e11, .int i14, .int i15, .ref e12, .int i16])), (e5, .inl (τ 0, 500, .inl (f)))] sz)) 0 0 (va_A [(mo, .inr (10, [.ref e0, .ref e1, .ref e2, .ref e3, .ref e4, .int i0, .int i1, .int i2, .ref e5, .int 12, .int i4, .int i5, .int i6, .int i7, .int i8, .int i9, .int i10, .int i11, .int i12, .ref e6, .ref e7, .ref e8, .ref e9, .int i13, .ref e10, .ref e11, .int i14, .int i15, .ref e12, .int i16])), (e5, .inl (τ 0, 500, .inl (f)))] sz) := by
  refine bodyW (by decide) (Nat.le_of_ble_eq_true rfl) (fun p e s m below meth c ls B hr hlk hin hsz Y hl => ?_)
  have hl : lv_has ls 3 [(0, .ref mo), (1, .int y)] := hl
  have B : CallFix p m c cX10_four 3 s _ wALL RX10 := B
  generalize va_A [(mo, .inr (10, [.ref e0, .ref e1, .ref e2, .ref e3, .ref e4, .int i0, .int i1, .int i2, .ref e5, .int 12, .int i4, .int i5, .int i6, .int i7, .int i8, .int i9, .int i10, .int i11, .int i12, .ref e6, .ref e7, .ref e8, .ref e9, .int i13, .ref e10, .ref e11, .int i14, .int i15, .ref e12, .int i16])), (e5, .inl (τ 0, 500, .inl (f)))] sz = A at Y ⊢
  refine lv_bipush (v := 24) B.1 B.2.1 dX10_four_0 (by decide) ?_
  refine lv_istore_n (lv' := [(2, .int 24), (0, .ref mo), (1, .int y)]) B.1 B.2.1 dX10_four_2 rfl hl (by decide) rfl (fun ls hl => ?_)
  refine lv_iload_n B.1 B.2.1 dX10_four_3 rfl (lv_at hl 0 rfl) ?_
  refine lv_if_lt (tgt := 39) B.1 B.2.1 dX10_four_4 (by decide) (fun h => absurd h (by decide)) (fun _ => ?_)
  refine lv_aload_n B.1 B.2.1 dX10_four_7 rfl (lv_at hl 1 rfl) ?_
  refine gf_X10_26 B Y 0 rfl rfl dX10_four_8 ?_
  refine lv_aload_n B.1 B.2.1 dX10_four_11 rfl (lv_at hl 1 rfl) ?_
  refine gf_X10_198 B Y 0 rfl rfl dX10_four_12 ?_
  refine lv_iload_n B.1 B.2.1 dX10_four_15 rfl (lv_at hl 2 rfl) ?_
  refine lv_iload_n B.1 B.2.1 dX10_four_16 rfl (lv_at hl 0 rfl) ?_
  refine lv_ishr B.1 B.2.1 dX10_four_17 ?_
  refine lv_topi (fun z1 ez1 => ?_)
  refine lv_sipush (v := 255) B.1 B.2.1 dX10_four_18 (by decide) ?_
  refine lv_iand B.1 B.2.1 dX10_four_21 ?_
  refine t_iast (j := 12) (g := upd (f) 12 (z1 &&& 255)) (ws' := [(mo, .inr (10, [.ref e0, .ref e1, .ref e2, .ref e3, .ref e4, .int i0, .int i1, .int i2, .ref e5, .int 12, .int i4, .int i5, .int i6, .int i7, .int i8, .int i9, .int i10, .int i11, .int i12, .ref e6, .ref e7, .ref e8, .ref e9, .int i13, .ref e10, .ref e11, .int i14, .int i15, .ref e12, .int i16])), (e5, .inl (τ 0, 500, .inl (upd (f) 12 (z1 &&& 255))))]) B Y 1 rfl (by decide) (by decide) (Nat.le_of_ble_eq_true rfl) rfl rfl dX10_four_22 (fun H locs Y => ?_)
  refine lv_aload_n B.1 B.2.1 dX10_four_23 rfl (lv_at hl 1 rfl) ?_
  refine lv_dup B.1 B.2.1 dX10_four_24 rfl ?_
  refine gf_X10_198 B Y 0 rfl rfl dX10_four_25 ?_
  refine lv_iconst (v := 1) B.1 B.2.1 dX10_four_28 (by decide) ?_
  refine lv_iadd B.1 B.2.1 dX10_four_29 ?_
  refine lv_cv (v := 13) (by decide) ?_
  refine pf_X10_198 (ws' := [(mo, .inr (10, [.ref e0, .ref e1, .ref e2, .ref e3, .ref e4, .int i0, .int i1, .int i2, .ref e5, .int 13, .int i4, .int i5, .int i6, .int i7, .int i8, .int i9, .int i10, .int i11, .int i12, .ref e6, .ref e7, .ref e8, .ref e9, .int i13, .ref e10, .ref e11, .int i14, .int i15, .ref e12, .int i16])), (e5, .inl (τ 0, 500, .inl (upd (f) 12 (z1 &&& 255))))]) B Y 0 rfl (Nat.le_of_ble_eq_true rfl) rfl dX10_four_30 (fun H locs Y => ?_)
  refine lv_iinc (v := 16) (lv' := [(2, .int 16), (0, .ref mo), (1, .int y)]) B.1 B.2.1 dX10_four_33 hl (k := 0) rfl (by decide) (by decide) rfl (fun ls hl => ?_)
  refine lv_goto (tgt := 3) B.1 B.2.1 dX10_four_36 (by decide) ?_
  refine lv_iload_n B.1 B.2.1 dX10_four_3 rfl (lv_at hl 0 rfl) ?_
  refine lv_if_lt (tgt := 39) B.1 B.2.1 dX10_four_4 (by decide) (fun h => absurd h (by decide)) (fun _ => ?_)
  refine lv_aload_n B.1 B.2.1 dX10_four_7 rfl (lv_at hl 1 rfl) ?_
  refine gf_X10_26 B Y 0 rfl rfl dX10_four_8 ?_
  refine lv_aload_n B.1 B.2.1 dX10_four_11 rfl (lv_at hl 1 rfl) ?_
  refine gf_X10_198 B Y 0 rfl rfl dX10_four_12 ?_
  refine lv_iload_n B.1 B.2.1 dX10_four_15 rfl (lv_at hl 2 rfl) ?_
  refine lv_iload_n B.1 B.2.1 dX10_four_16 rfl (lv_at hl 0 rfl) ?_
  refine lv_ishr B.1 B.2.1 dX10_four_17 ?_
  refine lv_topi (fun z2 ez2 => ?_)
  refine lv_sipush (v := 255) B.1 B.2.1 dX10_four_18 (by decide) ?_
  refine lv_iand B.1 B.2.1 dX10_four_21 ?_
  refine t_iast (j := 13) (g := upd (upd (f) 12 (z1 &&& 255)) 13 (z2 &&& 255)) (ws' := [(mo, .inr (10, [.ref e0, .ref e1, .ref e2, .ref e3, .ref e4, .int i0, .int i1, .int i2, .ref e5, .int 13, .int i4, .int i5, .int i6, .int i7, .int i8, .int i9, .int i10, .int i11, .int i12, .ref e6, .ref e7, .ref e8, .ref e9, .int i13, .ref e10, .ref e11, .int i14, .int i15, .ref e12, .int i16])), (e5, .inl (τ 0, 500, .inl (upd (upd (f) 12 (z1 &&& 255)) 13 (z2 &&& 255))))]) B Y 1 rfl (by decide) (by decide) (Nat.le_of_ble_eq_true rfl) rfl rfl dX10_four_22 (fun H locs Y => ?_)
  refine lv_aload_n B.1 B.2.1 dX10_four_23 rfl (lv_at hl 1 rfl) ?_
  refine lv_dup B.1 B.2.1 dX10_four_24 rfl ?_
  refine gf_X10_198 B Y 0 rfl rfl dX10_four_25 ?_
  refine lv_iconst (v := 1) B.1 B.2.1 dX10_four_28 (by decide) ?_
  refine lv_iadd B.1 B.2.1 dX10_four_29 ?_
  refine lv_cv (v := 14) (by decide) ?_
  refine pf_X10_198 (ws' := [(mo, .inr (10, [.ref e0, .ref e1, .ref e2, .ref e3, .ref e4, .int i0, .int i1, .int i2, .ref e5, .int 14, .int i4, .int i5, .int i6, .int i7, .int i8, .int i9, .int i10, .int i11, .int i12, .ref e6, .ref e7, .ref e8, .ref e9, .int i13, .ref e10, .ref e11, .int i14, .int i15, .ref e12, .int i16])), (e5, .inl (τ 0, 500, .inl (upd (upd (f) 12 (z1 &&& 255)) 13 (z2 &&& 255))))]) B Y 0 rfl (Nat.le_of_ble_eq_true rfl) rfl dX10_four_30 (fun H locs Y => ?_)
  refine lv_iinc (v := 8) (lv' := [(2, .int 8), (0, .ref mo), (1, .int y)]) B.1 B.2.1 dX10_four_33 hl (k := 0) rfl (by decide) (by decide) rfl (fun ls hl => ?_)
  refine lv_goto (tgt := 3) B.1 B.2.1 dX10_four_36 (by decide) ?_
  refine lv_iload_n B.1 B.2.1 dX10_four_3 rfl (lv_at hl 0 rfl) ?_
  refine lv_if_lt (tgt := 39) B.1 B.2.1 dX10_four_4 (by decide) (fun h => absurd h (by decide)) (fun _ => ?_)
  refine lv_aload_n B.1 B.2.1 dX10_four_7 rfl (lv_at hl 1 rfl) ?_
  refine gf_X10_26 B Y 0 rfl rfl dX10_four_8 ?_
  refine lv_aload_n B.1 B.2.1 dX10_four_11 rfl (lv_at hl 1 rfl) ?_
  refine gf_X10_198 B Y 0 rfl rfl dX10_four_12 ?_
  refine lv_iload_n B.1 B.2.1 dX10_four_15 rfl (lv_at hl 2 rfl) ?_
  refine lv_iload_n B.1 B.2.1 dX10_four_16 rfl (lv_at hl 0 rfl) ?_
  refine lv_ishr B.1 B.2.1 dX10_four_17 ?_
  refine lv_topi (fun z3 ez3 => ?_)
  refine lv_sipush (v := 255) B.1 B.2.1 dX10_four_18 (by decide) ?_
  refine lv_iand B.1 B.2.1 dX10_four_21 ?_
  refine t_iast (j := 14) (g := upd (upd (upd (f) 12 (z1 &&& 255)) 13 (z2 &&& 255)) 14 (z3 &&& 255)) (ws' := [(mo, .inr (10, [.ref e0, .ref e1, .ref e2, .ref e3, .ref e4, .int i0, .int i1, .int i2, .ref e5, .int 14, .int i4, .int i5, .int i6, .int i7, .int i8, .int i9, .int i10, .int i11, .int i12, .ref e6, .ref e7, .ref e8, .ref e9, .int i13, .ref e10, .ref e11, .int i14, .int i15, .ref e12, .int i16])), (e5, .inl (τ 0, 500, .inl (upd (upd (upd (f) 12 (z1 &&& 255)) 13 (z2 &&& 255)) 14 (z3 &&& 255))))]) B Y 1 rfl (by decide) (by decide) (Nat.le_of_ble_eq_true rfl) rfl rfl dX10_four_22 (fun H locs Y => ?_)
  refine lv_aload_n B.1 B.2.1 dX10_four_23 rfl (lv_at hl 1 rfl) ?_
  refine lv_dup B.1 B.2.1 dX10_four_24 rfl ?_
  refine gf_X10_198 B Y 0 rfl rfl dX10_four_25 ?_
  refine lv_iconst (v := 1) B.1 B.2.1 dX10_four_28 (by decide) ?_
  refine lv_iadd B.1 B.2.1 dX10_four_29 ?_
  refine lv_cv (v := 15) (by decide) ?_
  refine pf_X10_198 (ws' := [(mo, .inr (10, [.ref e0, .ref e1, .ref e2, .ref e3, .ref e4, .int i0, .int i1, .int i2, .ref e5, .int 15, .int i4, .int i5, .int i6, .int i7, .int i8, .int i9, .int i10, .int i11, .int i12, .ref e6, .ref e7, .ref e8, .ref e9, .int i13, .ref e10, .ref e11, .int i14, .int i15, .ref e12, .int i16])), (e5, .inl (τ 0, 500, .inl (upd (upd (upd (f) 12 (z1 &&& 255)) 13 (z2 &&& 255)) 14 (z3 &&& 255))))]) B Y 0 rfl (Nat.le_of_ble_eq_true rfl) rfl dX10_four_30 (fun H locs Y => ?_)
  refine lv_iinc (v := 0) (lv' := [(2, .int 0), (0, .ref mo), (1, .int y)]) B.1 B.2.1 dX10_four_33 hl (k := 0) rfl (by decide) (by decide) rfl (fun ls hl => ?_)
  refine lv_goto (tgt := 3) B.1 B.2.1 dX10_four_36 (by decide) ?_
  refine lv_iload_n B.1 B.2.1 dX10_four_3 rfl (lv_at hl 0 rfl) ?_
  refine lv_if_lt (tgt := 39) B.1 B.2.1 dX10_four_4 (by decide) (fun h => absurd h (by decide)) (fun _ => ?_)
  refine lv_aload_n B.1 B.2.1 dX10_four_7 rfl (lv_at hl 1 rfl) ?_
  refine gf_X10_26 B Y 0 rfl rfl dX10_four_8 ?_
  refine lv_aload_n B.1 B.2.1 dX10_four_11 rfl (lv_at hl 1 rfl) ?_
  refine gf_X10_198 B Y 0 rfl rfl dX10_four_12 ?_
  refine lv_iload_n B.1 B.2.1 dX10_four_15 rfl (lv_at hl 2 rfl) ?_
  refine lv_iload_n B.1 B.2.1 dX10_four_16 rfl (lv_at hl 0 rfl) ?_
  refine lv_ishr B.1 B.2.1 dX10_four_17 ?_
  refine lv_topi (fun z4 ez4 => ?_)
  refine lv_sipush (v := 255) B.1 B.2.1 dX10_four_18 (by decide) ?_
  refine lv_iand B.1 B.2.1 dX10_four_21 ?_
  refine t_iast (j := 15) (g := upd (upd (upd (upd (f) 12 (z1 &&& 255)) 13 (z2 &&& 255)) 14 (z3 &&& 255)) 15 (z4 &&& 255)) (ws' := [(mo, .inr (10, [.ref e0, .ref e1, .ref e2, .ref e3, .ref e4, .int i0, .int i1, .int i2, .ref e5, .int 15, .int i4, .int i5, .int i6, .int i7, .int i8, .int i9, .int i10, .int i11, .int i12, .ref e6, .ref e7, .ref e8, .ref e9, .int i13, .ref e10, .ref e11, .int i14, .int i15, .ref e12, .int i16])), (e5, .inl (τ 0, 500, .inl (upd (upd (upd (upd (f) 12 (z1 &&& 255)) 13 (z2 &&& 255)) 14 (z3 &&& 255)) 15 (z4 &&& 255))))]) B Y 1 rfl (by decide) (by decide) (Nat.le_of_ble_eq_true rfl) rfl rfl dX10_four_22 (fun H locs Y => ?_)
  refine lv_aload_n B.1 B.2.1 dX10_four_23 rfl (lv_at hl 1 rfl) ?_
  refine lv_dup B.1 B.2.1 dX10_four_24 rfl ?_
  refine gf_X10_198 B Y 0 rfl rfl dX10_four_25 ?_
  refine lv_iconst (v := 1) B.1 B.2.1 dX10_four_28 (by decide) ?_
  refine lv_iadd B.1 B.2.1 dX10_four_29 ?_
  refine lv_cv (v := 16) (by decide) ?_
  refine pf_X10_198 (ws' := [(mo, .inr (10, [.ref e0, .ref e1, .ref e2, .ref e3, .ref e4, .int i0, .int i1, .int i2, .ref e5, .int 16, .int i4, .int i5, .int i6, .int i7, .int i8, .int i9, .int i10, .int i11, .int i12, .ref e6, .ref e7, .ref e8, .ref e9, .int i13, .ref e10, .ref e11, .int i14, .int i15, .ref e12, .int i16])), (e5, .inl (τ 0, 500, .inl (upd (upd (upd (upd (f) 12 (z1 &&& 255)) 13 (z2 &&& 255)) 14 (z3 &&& 255)) 15 (z4 &&& 255))))]) B Y 0 rfl (Nat.le_of_ble_eq_true rfl) rfl dX10_four_30 (fun H locs Y => ?_)
  refine lv_iinc (v := (-8)) (lv' := [(2, .int (-8)), (0, .ref mo), (1, .int y)]) B.1 B.2.1 dX10_four_33 hl (k := 0) rfl (by decide) (by decide) rfl (fun ls hl => ?_)
  refine lv_goto (tgt := 3) B.1 B.2.1 dX10_four_36 (by decide) ?_
  refine lv_iload_n B.1 B.2.1 dX10_four_3 rfl (lv_at hl 0 rfl) ?_
  refine lv_if_lt (tgt := 39) B.1 B.2.1 dX10_four_4 (by decide) (fun _ => ?_) (fun h => absurd (by decide) h)
  exact endV B hr hlk Y (upd (upd (upd (upd (f) 12 (z1 &&& 255)) 13 (z2 &&& 255)) 14 (z3 &&& 255)) 15 (z4 &&& 255)) trivial [0, 1] (by decide) rfl (Nat.le_of_ble_eq_true rfl) (Nat.le_of_ble_eq_true rfl) dX10_four_39

set_option maxHeartbeats 4000000 in
set_option maxRecDepth 100000 in
theorem k_four16 (l : Launch) (D : va_G) (τ : Nat → ClassId) (sz : Nat) (mo e0 e1 e2 e3 e4 e5 e6 e7 e8 e9 e10 e11 e12 : Nat) (i0 i1 i2 i4 i5 i6 i7 i8 i9 i10 i11 i12 i13 i14 i15 i16 : Int32) (f : Nat → Int32) (y : Int32) : Met l yX10_four (Cond.code yX10_four cX10_four 3 none :: wALL) { frames := 0, cells := 0, slots := 0, locals := 0 } (Pw D τ [(mo, .inr (10, [.ref e0, .ref e1, .ref e2, .ref e3, .ref e4, .int i0, .int i1, .int i2, .ref e5, .int 16, .int i4, .int i5, .int i6, .int i7, .int i8, .int i9, .int i10, .int i11, .int i12, .ref e6, .ref e7, .ref e8, .ref e9, .int i13, .ref e10, .ref e11, .int i14, .int i15, .ref e12, .int i16])), (e5, .inl (τ 0, 500, .inl (f)))] sz [.ref mo, .int y]) (va_Qv (fun (u : Nat → Int32) => True) (Bw D (va_A [(mo, .inr (10, [.ref e0, .ref e1, .ref e2, .ref e3, .ref e4, .int i0, .int i1, .int i2, .ref e5, .int 16, .int i4, .int i5, .int i6, .int i7, .int i8, .int i9, .int i10, .int i11, .int i12, .ref e6, .ref e7, .ref e8, .ref e9, .int i13, .ref e10, .ref e11, .int i14, .int i15, .ref e12, .int i16])), (e5, .inl (τ 0, 500, .inl (f)))] sz) (fun (u : Nat → Int32) => [(mo, .inr (10, [.ref e0, .ref e1, .ref e2, .ref e3, .ref e4, .int i0, .int i1, .int i2, .ref e5, .int 20, .int i4, .int i5, .int i6, .int i7, .int i8, .int i9, .int i10, .int i11, .int i12, .ref e6, .ref e7, .ref e8, .ref e9, .int i13, .ref e10, .ref e11, .int i14, .int i15, .ref e12, .int i16])), (e5, .inl (τ 0, 500, .inl (u)))])) (va_A [(mo, .inr (10, [.ref e0, .ref e1, .ref e2, .ref e3, .ref e4, .int i0, .int i1, .int i2, .ref e5, .int 16, .int i4, .int i5, .int i6, .int i7, .int i8, .int i9, .int i10, .int i11, .int i12, .ref e6, .ref e7, .ref e8, .ref e9, .int i13, .ref e10, .ref e11, .int i14, .int i15, .ref e12, .int i16])), (e5, .inl (τ 0, 500, .inl (f)))] sz)) 0 0 (va_A [(mo, .inr (10, [.ref e0, .ref e1, .ref e2, .ref e3, .ref e4, .int i0, .int i1, .int i2, .ref e5, .int 16, .int i4, .int i5, .int i6, .int i7, .int i8, .int i9, .int i10, .int i11, .int i12, .ref e6, .ref e7, .ref e8, .ref e9, .int i13, .ref e10, .ref e11, .int i14, .int i15, .ref e12, .int i16])), (e5, .inl (τ 0, 500, .inl (f)))] sz) := by
  refine bodyW (by decide) (Nat.le_of_ble_eq_true rfl) (fun p e s m below meth c ls B hr hlk hin hsz Y hl => ?_)
  have hl : lv_has ls 3 [(0, .ref mo), (1, .int y)] := hl
  have B : CallFix p m c cX10_four 3 s _ wALL RX10 := B
  generalize va_A [(mo, .inr (10, [.ref e0, .ref e1, .ref e2, .ref e3, .ref e4, .int i0, .int i1, .int i2, .ref e5, .int 16, .int i4, .int i5, .int i6, .int i7, .int i8, .int i9, .int i10, .int i11, .int i12, .ref e6, .ref e7, .ref e8, .ref e9, .int i13, .ref e10, .ref e11, .int i14, .int i15, .ref e12, .int i16])), (e5, .inl (τ 0, 500, .inl (f)))] sz = A at Y ⊢
  refine lv_bipush (v := 24) B.1 B.2.1 dX10_four_0 (by decide) ?_
  refine lv_istore_n (lv' := [(2, .int 24), (0, .ref mo), (1, .int y)]) B.1 B.2.1 dX10_four_2 rfl hl (by decide) rfl (fun ls hl => ?_)
  refine lv_iload_n B.1 B.2.1 dX10_four_3 rfl (lv_at hl 0 rfl) ?_
  refine lv_if_lt (tgt := 39) B.1 B.2.1 dX10_four_4 (by decide) (fun h => absurd h (by decide)) (fun _ => ?_)
  refine lv_aload_n B.1 B.2.1 dX10_four_7 rfl (lv_at hl 1 rfl) ?_
  refine gf_X10_26 B Y 0 rfl rfl dX10_four_8 ?_
  refine lv_aload_n B.1 B.2.1 dX10_four_11 rfl (lv_at hl 1 rfl) ?_
  refine gf_X10_198 B Y 0 rfl rfl dX10_four_12 ?_
  refine lv_iload_n B.1 B.2.1 dX10_four_15 rfl (lv_at hl 2 rfl) ?_
  refine lv_iload_n B.1 B.2.1 dX10_four_16 rfl (lv_at hl 0 rfl) ?_
  refine lv_ishr B.1 B.2.1 dX10_four_17 ?_
  refine lv_topi (fun z1 ez1 => ?_)
  refine lv_sipush (v := 255) B.1 B.2.1 dX10_four_18 (by decide) ?_
  refine lv_iand B.1 B.2.1 dX10_four_21 ?_
  refine t_iast (j := 16) (g := upd (f) 16 (z1 &&& 255)) (ws' := [(mo, .inr (10, [.ref e0, .ref e1, .ref e2, .ref e3, .ref e4, .int i0, .int i1, .int i2, .ref e5, .int 16, .int i4, .int i5, .int i6, .int i7, .int i8, .int i9, .int i10, .int i11, .int i12, .ref e6, .ref e7, .ref e8, .ref e9, .int i13, .ref e10, .ref e11, .int i14, .int i15, .ref e12, .int i16])), (e5, .inl (τ 0, 500, .inl (upd (f) 16 (z1 &&& 255))))]) B Y 1 rfl (by decide) (by decide) (Nat.le_of_ble_eq_true rfl) rfl rfl dX10_four_22 (fun H locs Y => ?_)
  refine lv_aload_n B.1 B.2.1 dX10_four_23 rfl (lv_at hl 1 rfl) ?_
  refine lv_dup B.1 B.2.1 dX10_four_24 rfl ?_
  refine gf_X10_198 B Y 0 rfl rfl dX10_four_25 ?_
  refine lv_iconst (v := 1) B.1 B.2.1 dX10_four_28 (by decide) ?_
  refine lv_iadd B.1 B.2.1 dX10_four_29 ?_
  refine lv_cv (v := 17) (by decide) ?_
  refine pf_X10_198 (ws' := [(mo, .inr (10, [.ref e0, .ref e1, .ref e2, .ref e3, .ref e4, .int i0, .int i1, .int i2, .ref e5, .int 17, .int i4, .int i5, .int i6, .int i7, .int i8, .int i9, .int i10, .int i11, .int i12, .ref e6, .ref e7, .ref e8, .ref e9, .int i13, .ref e10, .ref e11, .int i14, .int i15, .ref e12, .int i16])), (e5, .inl (τ 0, 500, .inl (upd (f) 16 (z1 &&& 255))))]) B Y 0 rfl (Nat.le_of_ble_eq_true rfl) rfl dX10_four_30 (fun H locs Y => ?_)
  refine lv_iinc (v := 16) (lv' := [(2, .int 16), (0, .ref mo), (1, .int y)]) B.1 B.2.1 dX10_four_33 hl (k := 0) rfl (by decide) (by decide) rfl (fun ls hl => ?_)
  refine lv_goto (tgt := 3) B.1 B.2.1 dX10_four_36 (by decide) ?_
  refine lv_iload_n B.1 B.2.1 dX10_four_3 rfl (lv_at hl 0 rfl) ?_
  refine lv_if_lt (tgt := 39) B.1 B.2.1 dX10_four_4 (by decide) (fun h => absurd h (by decide)) (fun _ => ?_)
  refine lv_aload_n B.1 B.2.1 dX10_four_7 rfl (lv_at hl 1 rfl) ?_
  refine gf_X10_26 B Y 0 rfl rfl dX10_four_8 ?_
  refine lv_aload_n B.1 B.2.1 dX10_four_11 rfl (lv_at hl 1 rfl) ?_
  refine gf_X10_198 B Y 0 rfl rfl dX10_four_12 ?_
  refine lv_iload_n B.1 B.2.1 dX10_four_15 rfl (lv_at hl 2 rfl) ?_
  refine lv_iload_n B.1 B.2.1 dX10_four_16 rfl (lv_at hl 0 rfl) ?_
  refine lv_ishr B.1 B.2.1 dX10_four_17 ?_
  refine lv_topi (fun z2 ez2 => ?_)
  refine lv_sipush (v := 255) B.1 B.2.1 dX10_four_18 (by decide) ?_
  refine lv_iand B.1 B.2.1 dX10_four_21 ?_
  refine t_iast (j := 17) (g := upd (upd (f) 16 (z1 &&& 255)) 17 (z2 &&& 255)) (ws' := [(mo, .inr (10, [.ref e0, .ref e1, .ref e2, .ref e3, .ref e4, .int i0, .int i1, .int i2, .ref e5, .int 17, .int i4, .int i5, .int i6, .int i7, .int i8, .int i9, .int i10, .int i11, .int i12, .ref e6, .ref e7, .ref e8, .ref e9, .int i13, .ref e10, .ref e11, .int i14, .int i15, .ref e12, .int i16])), (e5, .inl (τ 0, 500, .inl (upd (upd (f) 16 (z1 &&& 255)) 17 (z2 &&& 255))))]) B Y 1 rfl (by decide) (by decide) (Nat.le_of_ble_eq_true rfl) rfl rfl dX10_four_22 (fun H locs Y => ?_)
  refine lv_aload_n B.1 B.2.1 dX10_four_23 rfl (lv_at hl 1 rfl) ?_
  refine lv_dup B.1 B.2.1 dX10_four_24 rfl ?_
  refine gf_X10_198 B Y 0 rfl rfl dX10_four_25 ?_
  refine lv_iconst (v := 1) B.1 B.2.1 dX10_four_28 (by decide) ?_
  refine lv_iadd B.1 B.2.1 dX10_four_29 ?_
  refine lv_cv (v := 18) (by decide) ?_
  refine pf_X10_198 (ws' := [(mo, .inr (10, [.ref e0, .ref e1, .ref e2, .ref e3, .ref e4, .int i0, .int i1, .int i2, .ref e5, .int 18, .int i4, .int i5, .int i6, .int i7, .int i8, .int i9, .int i10, .int i11, .int i12, .ref e6, .ref e7, .ref e8, .ref e9, .int i13, .ref e10, .ref e11, .int i14, .int i15, .ref e12, .int i16])), (e5, .inl (τ 0, 500, .inl (upd (upd (f) 16 (z1 &&& 255)) 17 (z2 &&& 255))))]) B Y 0 rfl (Nat.le_of_ble_eq_true rfl) rfl dX10_four_30 (fun H locs Y => ?_)
  refine lv_iinc (v := 8) (lv' := [(2, .int 8), (0, .ref mo), (1, .int y)]) B.1 B.2.1 dX10_four_33 hl (k := 0) rfl (by decide) (by decide) rfl (fun ls hl => ?_)
  refine lv_goto (tgt := 3) B.1 B.2.1 dX10_four_36 (by decide) ?_
  refine lv_iload_n B.1 B.2.1 dX10_four_3 rfl (lv_at hl 0 rfl) ?_
  refine lv_if_lt (tgt := 39) B.1 B.2.1 dX10_four_4 (by decide) (fun h => absurd h (by decide)) (fun _ => ?_)
  refine lv_aload_n B.1 B.2.1 dX10_four_7 rfl (lv_at hl 1 rfl) ?_
  refine gf_X10_26 B Y 0 rfl rfl dX10_four_8 ?_
  refine lv_aload_n B.1 B.2.1 dX10_four_11 rfl (lv_at hl 1 rfl) ?_
  refine gf_X10_198 B Y 0 rfl rfl dX10_four_12 ?_
  refine lv_iload_n B.1 B.2.1 dX10_four_15 rfl (lv_at hl 2 rfl) ?_
  refine lv_iload_n B.1 B.2.1 dX10_four_16 rfl (lv_at hl 0 rfl) ?_
  refine lv_ishr B.1 B.2.1 dX10_four_17 ?_
  refine lv_topi (fun z3 ez3 => ?_)
  refine lv_sipush (v := 255) B.1 B.2.1 dX10_four_18 (by decide) ?_
  refine lv_iand B.1 B.2.1 dX10_four_21 ?_
  refine t_iast (j := 18) (g := upd (upd (upd (f) 16 (z1 &&& 255)) 17 (z2 &&& 255)) 18 (z3 &&& 255)) (ws' := [(mo, .inr (10, [.ref e0, .ref e1, .ref e2, .ref e3, .ref e4, .int i0, .int i1, .int i2, .ref e5, .int 18, .int i4, .int i5, .int i6, .int i7, .int i8, .int i9, .int i10, .int i11, .int i12, .ref e6, .ref e7, .ref e8, .ref e9, .int i13, .ref e10, .ref e11, .int i14, .int i15, .ref e12, .int i16])), (e5, .inl (τ 0, 500, .inl (upd (upd (upd (f) 16 (z1 &&& 255)) 17 (z2 &&& 255)) 18 (z3 &&& 255))))]) B Y 1 rfl (by decide) (by decide) (Nat.le_of_ble_eq_true rfl) rfl rfl dX10_four_22 (fun H locs Y => ?_)
  refine lv_aload_n B.1 B.2.1 dX10_four_23 rfl (lv_at hl 1 rfl) ?_
  refine lv_dup B.1 B.2.1 dX10_four_24 rfl ?_
  refine gf_X10_198 B Y 0 rfl rfl dX10_four_25 ?_
  refine lv_iconst (v := 1) B.1 B.2.1 dX10_four_28 (by decide) ?_
  refine lv_iadd B.1 B.2.1 dX10_four_29 ?_
  refine lv_cv (v := 19) (by decide) ?_
  refine pf_X10_198 (ws' := [(mo, .inr (10, [.ref e0, .ref e1, .ref e2, .ref e3, .ref e4, .int i0, .int i1, .int i2, .ref e5, .int 19, .int i4, .int i5, .int i6, .int i7, .int i8, .int i9, .int i10, .int i11, .int i12, .ref e6, .ref e7, .ref e8, .ref e9, .int i13, .ref e10, .ref e11, .int i14, .int i15, .ref e12, .int i16])), (e5, .inl (τ 0, 500, .inl (upd (upd (upd (f) 16 (z1 &&& 255)) 17 (z2 &&& 255)) 18 (z3 &&& 255))))]) B Y 0 rfl (Nat.le_of_ble_eq_true rfl) rfl dX10_four_30 (fun H locs Y => ?_)
  refine lv_iinc (v := 0) (lv' := [(2, .int 0), (0, .ref mo), (1, .int y)]) B.1 B.2.1 dX10_four_33 hl (k := 0) rfl (by decide) (by decide) rfl (fun ls hl => ?_)
  refine lv_goto (tgt := 3) B.1 B.2.1 dX10_four_36 (by decide) ?_
  refine lv_iload_n B.1 B.2.1 dX10_four_3 rfl (lv_at hl 0 rfl) ?_
  refine lv_if_lt (tgt := 39) B.1 B.2.1 dX10_four_4 (by decide) (fun h => absurd h (by decide)) (fun _ => ?_)
  refine lv_aload_n B.1 B.2.1 dX10_four_7 rfl (lv_at hl 1 rfl) ?_
  refine gf_X10_26 B Y 0 rfl rfl dX10_four_8 ?_
  refine lv_aload_n B.1 B.2.1 dX10_four_11 rfl (lv_at hl 1 rfl) ?_
  refine gf_X10_198 B Y 0 rfl rfl dX10_four_12 ?_
  refine lv_iload_n B.1 B.2.1 dX10_four_15 rfl (lv_at hl 2 rfl) ?_
  refine lv_iload_n B.1 B.2.1 dX10_four_16 rfl (lv_at hl 0 rfl) ?_
  refine lv_ishr B.1 B.2.1 dX10_four_17 ?_
  refine lv_topi (fun z4 ez4 => ?_)
  refine lv_sipush (v := 255) B.1 B.2.1 dX10_four_18 (by decide) ?_
  refine lv_iand B.1 B.2.1 dX10_four_21 ?_
  refine t_iast (j := 19) (g := upd (upd (upd (upd (f) 16 (z1 &&& 255)) 17 (z2 &&& 255)) 18 (z3 &&& 255)) 19 (z4 &&& 255)) (ws' := [(mo, .inr (10, [.ref e0, .ref e1, .ref e2, .ref e3, .ref e4, .int i0, .int i1, .int i2, .ref e5, .int 19, .int i4, .int i5, .int i6, .int i7, .int i8, .int i9, .int i10, .int i11, .int i12, .ref e6, .ref e7, .ref e8, .ref e9, .int i13, .ref e10, .ref e11, .int i14, .int i15, .ref e12, .int i16])), (e5, .inl (τ 0, 500, .inl (upd (upd (upd (upd (f) 16 (z1 &&& 255)) 17 (z2 &&& 255)) 18 (z3 &&& 255)) 19 (z4 &&& 255))))]) B Y 1 rfl (by decide) (by decide) (Nat.le_of_ble_eq_true rfl) rfl rfl dX10_four_22 (fun H locs Y => ?_)
  refine lv_aload_n B.1 B.2.1 dX10_four_23 rfl (lv_at hl 1 rfl) ?_
  refine lv_dup B.1 B.2.1 dX10_four_24 rfl ?_
  refine gf_X10_198 B Y 0 rfl rfl dX10_four_25 ?_
  refine lv_iconst (v := 1) B.1 B.2.1 dX10_four_28 (by decide) ?_
  refine lv_iadd B.1 B.2.1 dX10_four_29 ?_
  refine lv_cv (v := 20) (by decide) ?_
  refine pf_X10_198 (ws' := [(mo, .inr (10, [.ref e0, .ref e1, .ref e2, .ref e3, .ref e4, .int i0, .int i1, .int i2, .ref e5, .int 20, .int i4, .int i5, .int i6, .int i7, .int i8, .int i9, .int i10, .int i11, .int i12, .ref e6, .ref e7, .ref e8, .ref e9, .int i13, .ref e10, .ref e11, .int i14, .int i15, .ref e12, .int i16])), (e5, .inl (τ 0, 500, .inl (upd (upd (upd (upd (f) 16 (z1 &&& 255)) 17 (z2 &&& 255)) 18 (z3 &&& 255)) 19 (z4 &&& 255))))]) B Y 0 rfl (Nat.le_of_ble_eq_true rfl) rfl dX10_four_30 (fun H locs Y => ?_)
  refine lv_iinc (v := (-8)) (lv' := [(2, .int (-8)), (0, .ref mo), (1, .int y)]) B.1 B.2.1 dX10_four_33 hl (k := 0) rfl (by decide) (by decide) rfl (fun ls hl => ?_)
  refine lv_goto (tgt := 3) B.1 B.2.1 dX10_four_36 (by decide) ?_
  refine lv_iload_n B.1 B.2.1 dX10_four_3 rfl (lv_at hl 0 rfl) ?_
  refine lv_if_lt (tgt := 39) B.1 B.2.1 dX10_four_4 (by decide) (fun _ => ?_) (fun h => absurd (by decide) h)
  exact endV B hr hlk Y (upd (upd (upd (upd (f) 16 (z1 &&& 255)) 17 (z2 &&& 255)) 18 (z3 &&& 255)) 19 (z4 &&& 255)) trivial [0, 1] (by decide) rfl (Nat.le_of_ble_eq_true rfl) (Nat.le_of_ble_eq_true rfl) dX10_four_39

set_option maxHeartbeats 4000000 in
set_option maxRecDepth 100000 in
theorem r_append (l : Launch) (D : va_G) (τ : Nat → ClassId) (sz : Nat) (mo e0 e1 e2 e3 e4 e5 e6 e7 e8 e9 e10 e11 e12 : Nat) (y0 y1 y2 y3 y4 : Int32) : Met l yX10_append (Cond.code yX10_append cX10_append 6 (some .int) :: wALL) { frames := 1, cells := 0, slots := 0, locals := 22 } (Pw D τ [(mo, .inr (10, [.ref e0, .ref e1, .ref e2, .ref e3, .ref e4, .int 0, .int 0, .int 0, .ref e5, .int 0, .int 0, .int 0, .int 0, .int 0, .int 0, .int 0, .int (-1), .int 0, .int 0, .ref e6, .ref e7, .ref e8, .ref e9, .int 0, .ref e10, .ref e11, .int 0, .int 0, .ref e12, .int 0])), (e5, .inl (τ 0, 500, .inl (fun _ => 0)))] sz [.ref mo, .int y0, .int y1, .int y2, .int y3, .int y4]) (va_Qi (fun (r : Int32) (u : Nat → Int32) => r = 20 ∧ u 1 = 0) (Bw D (va_A [(mo, .inr (10, [.ref e0, .ref e1, .ref e2, .ref e3, .ref e4, .int 0, .int 0, .int 0, .ref e5, .int 0, .int 0, .int 0, .int 0, .int 0, .int 0, .int 0, .int (-1), .int 0, .int 0, .ref e6, .ref e7, .ref e8, .ref e9, .int 0, .ref e10, .ref e11, .int 0, .int 0, .ref e12, .int 0])), (e5, .inl (τ 0, 500, .inl (fun _ => 0)))] sz) (fun (u : Nat → Int32) => [(mo, .inr (10, [.ref e0, .ref e1, .ref e2, .ref e3, .ref e4, .int (u 0), .int (u 1), .int (u 2), .ref e5, .int (u 3), .int (u 4), .int (u 5), .int (u 6), .int (u 7), .int (u 8), .int (u 9), .int (u 10), .int (u 11), .int (u 12), .ref e6, .ref e7, .ref e8, .ref e9, .int (u 13), .ref e10, .ref e11, .int (u 14), .int (u 15), .ref e12, .int (u 16)]))])) (va_A [(mo, .inr (10, [.ref e0, .ref e1, .ref e2, .ref e3, .ref e4, .int 0, .int 0, .int 0, .ref e5, .int 0, .int 0, .int 0, .int 0, .int 0, .int 0, .int 0, .int (-1), .int 0, .int 0, .ref e6, .ref e7, .ref e8, .ref e9, .int 0, .ref e10, .ref e11, .int 0, .int 0, .ref e12, .int 0])), (e5, .inl (τ 0, 500, .inl (fun _ => 0)))] sz)) 0 0 (va_A [(mo, .inr (10, [.ref e0, .ref e1, .ref e2, .ref e3, .ref e4, .int 0, .int 0, .int 0, .ref e5, .int 0, .int 0, .int 0, .int 0, .int 0, .int 0, .int 0, .int (-1), .int 0, .int 0, .ref e6, .ref e7, .ref e8, .ref e9, .int 0, .ref e10, .ref e11, .int 0, .int 0, .ref e12, .int 0])), (e5, .inl (τ 0, 500, .inl (fun _ => 0)))] sz) := by
  refine bodyW (by decide) (Nat.le_of_ble_eq_true rfl) (fun p e s m below meth c ls B hr hlk hin hsz Y hl => ?_)
  have hl : lv_has ls 6 [(0, .ref mo), (1, .int y0), (2, .int y1), (3, .int y2), (4, .int y3), (5, .int y4)] := hl
  have B : CallFix p m c cX10_append 6 s _ wALL RX10 := B
  generalize va_A [(mo, .inr (10, [.ref e0, .ref e1, .ref e2, .ref e3, .ref e4, .int 0, .int 0, .int 0, .ref e5, .int 0, .int 0, .int 0, .int 0, .int 0, .int 0, .int 0, .int (-1), .int 0, .int 0, .ref e6, .ref e7, .ref e8, .ref e9, .int 0, .ref e10, .ref e11, .int 0, .int 0, .ref e12, .int 0])), (e5, .inl (τ 0, 500, .inl (fun _ => 0)))] sz = A at Y ⊢
  refine lv_aload_n B.1 B.2.1 dX10_append_0 rfl (lv_at hl 0 rfl) ?_
  refine lv_aload_n B.1 B.2.1 dX10_append_1 rfl (lv_at hl 0 rfl) ?_
  refine gf_X10_198 B Y 0 rfl rfl dX10_append_2 ?_
  refine lv_bipush (v := 20) B.1 B.2.1 dX10_append_5 (by decide) ?_
  refine lv_iadd B.1 B.2.1 dX10_append_7 ?_
  refine lv_cv (v := 20) (by decide) ?_
  refine lv_sipush (v := 500) B.1 B.2.1 dX10_append_8 (by decide) ?_
  refine lv_icmp_gt (tgt := 18) B.1 B.2.1 dX10_append_11 (by decide) (fun h => absurd h (by decide)) (fun _ => ?_)
  refine lv_iconst (v := 1) B.1 B.2.1 dX10_append_14 (by decide) ?_
  refine lv_goto (tgt := 19) B.1 B.2.1 dX10_append_15 (by decide) ?_
  refine retI (wc := [(mo, .inr (10, [.ref e0, .ref e1, .ref e2, .ref e3, .ref e4, .int 0, .int 0, .int 0, .ref e5, .int 0, .int 0, .int 0, .int 0, .int 0, .int 0, .int 0, .int (-1), .int 0, .int 0, .ref e6, .ref e7, .ref e8, .ref e9, .int 0, .ref e10, .ref e11, .int 0, .int 0, .ref e12, .int 0]))]) (wr := [(e5, .inl (τ 0, 500, .inl (fun _ => 0)))]) Y [0] [1] rfl rfl (by decide) (by decide) (rV (As := [.int 1]) (rest := []) (q0 := 0) B Y [0] (by decide) rfl (k_passes1 l D τ _ mo e0 e1 e2 e3 e4 e5 e6 e7 e8 e9 e10 e11 e12 0 0 0 0 0 0 0 0 0 0 (-1) 0 0 0 0 0 0) rfl rfl q_1581 q_1583 qp_46 q_12 q_1584 rfl rfl hd_X10_passes ⟨(Nat.le_of_ble_eq_true rfl), (Nat.le_of_ble_eq_true rfl)⟩ rfl hl.1 rfl (Nat.le_of_ble_eq_true rfl) dX10_append_19 ⟨(Nat.le_of_ble_eq_true rfl), (Nat.le_of_ble_eq_true rfl)⟩) (fun r u H locs hw Y => ?_)
  have hw : r = 1 := hw
  subst hw
  have Y : Wd D τ s A s.heap [(e5, .inl (τ 0, 500, .inl (fun _ => 0))), (mo, .inr (10, [.ref e0, .ref e1, .ref e2, .ref e3, .ref e4, .int 0, .int 0, .int 0, .ref e5, .int 0, .int 0, .int 0, .int 0, .int 0, .int 0, .int 0, .int (-1), .int 0, .int 0, .ref e6, .ref e7, .ref e8, .ref e9, .int 0, .ref e10, .ref e11, .int 0, .int 0, .ref e12, .int 0]))] H _ := Y
  refine lv_if_ne (tgt := 27) B.1 B.2.1 dX10_append_22 (by decide) (fun _ => ?_) (fun h => absurd h (by decide))
  refine lv_aload_n B.1 B.2.1 dX10_append_27 rfl (lv_at hl 0 rfl) ?_
  refine lv_iload_n B.1 B.2.1 dX10_append_28 rfl (lv_at hl 1 rfl) ?_
  refine retV (wc := [(mo, .inr (10, [.ref e0, .ref e1, .ref e2, .ref e3, .ref e4, .int 0, .int 0, .int 0, .ref e5, .int 0, .int 0, .int 0, .int 0, .int 0, .int 0, .int 0, .int (-1), .int 0, .int 0, .ref e6, .ref e7, .ref e8, .ref e9, .int 0, .ref e10, .ref e11, .int 0, .int 0, .ref e12, .int 0])), (e5, .inl (τ 0, 500, .inl (fun _ => 0)))]) (wr := []) Y [1, 0] [] rfl rfl (by decide) (by decide) (rV (As := [.int y0]) (rest := []) (q0 := 1) B Y [1, 0] (by decide) rfl (k_four0 l D τ _ mo e0 e1 e2 e3 e4 e5 e6 e7 e8 e9 e10 e11 e12 0 0 0 0 0 0 0 0 0 (-1) 0 0 0 0 0 0 (fun _ => 0) y0) rfl rfl q_1585 q_1587 qp_47 q_12 q_1588 rfl rfl hd_X10_four ⟨(Nat.le_of_ble_eq_true rfl), (Nat.le_of_ble_eq_true rfl)⟩ rfl hl.1 rfl (Nat.le_of_ble_eq_true rfl) dX10_append_29 ⟨(Nat.le_of_ble_eq_true rfl), (Nat.le_of_ble_eq_true rfl)⟩) (fun u H locs hw Y => ?_)
  obtain ⟨g1, rfl⟩ : ∃ z, z = u := ⟨_, rfl⟩
  have Y : Wd D τ s A s.heap [(mo, .inr (10, [.ref e0, .ref e1, .ref e2, .ref e3, .ref e4, .int 0, .int 0, .int 0, .ref e5, .int 4, .int 0, .int 0, .int 0, .int 0, .int 0, .int 0, .int (-1), .int 0, .int 0, .ref e6, .ref e7, .ref e8, .ref e9, .int 0, .ref e10, .ref e11, .int 0, .int 0, .ref e12, .int 0])), (e5, .inl (τ 0, 500, .inl (g1)))] H _ := Y
  refine lv_aload_n B.1 B.2.1 dX10_append_32 rfl (lv_at hl 0 rfl) ?_
  refine lv_iload_n B.1 B.2.1 dX10_append_33 rfl (lv_at hl 2 rfl) ?_
  refine retV (wc := [(mo, .inr (10, [.ref e0, .ref e1, .ref e2, .ref e3, .ref e4, .int 0, .int 0, .int 0, .ref e5, .int 4, .int 0, .int 0, .int 0, .int 0, .int 0, .int 0, .int (-1), .int 0, .int 0, .ref e6, .ref e7, .ref e8, .ref e9, .int 0, .ref e10, .ref e11, .int 0, .int 0, .ref e12, .int 0])), (e5, .inl (τ 0, 500, .inl (g1)))]) (wr := []) Y [0, 1] [] rfl rfl (by decide) (by decide) (rV (As := [.int y1]) (rest := []) (q0 := 0) B Y [0, 1] (by decide) rfl (k_four4 l D τ _ mo e0 e1 e2 e3 e4 e5 e6 e7 e8 e9 e10 e11 e12 0 0 0 0 0 0 0 0 0 (-1) 0 0 0 0 0 0 (g1) y1) rfl rfl q_1585 q_1587 qp_47 q_12 q_1588 rfl rfl hd_X10_four ⟨(Nat.le_of_ble_eq_true rfl), (Nat.le_of_ble_eq_true rfl)⟩ rfl hl.1 rfl (Nat.le_of_ble_eq_true rfl) dX10_append_34 ⟨(Nat.le_of_ble_eq_true rfl), (Nat.le_of_ble_eq_true rfl)⟩) (fun u H locs hw Y => ?_)
  obtain ⟨g2, rfl⟩ : ∃ z, z = u := ⟨_, rfl⟩
  have Y : Wd D τ s A s.heap [(mo, .inr (10, [.ref e0, .ref e1, .ref e2, .ref e3, .ref e4, .int 0, .int 0, .int 0, .ref e5, .int 8, .int 0, .int 0, .int 0, .int 0, .int 0, .int 0, .int (-1), .int 0, .int 0, .ref e6, .ref e7, .ref e8, .ref e9, .int 0, .ref e10, .ref e11, .int 0, .int 0, .ref e12, .int 0])), (e5, .inl (τ 0, 500, .inl (g2)))] H _ := Y
  refine lv_aload_n B.1 B.2.1 dX10_append_37 rfl (lv_at hl 0 rfl) ?_
  refine lv_iload_n B.1 B.2.1 dX10_append_38 rfl (lv_at hl 3 rfl) ?_
  refine retV (wc := [(mo, .inr (10, [.ref e0, .ref e1, .ref e2, .ref e3, .ref e4, .int 0, .int 0, .int 0, .ref e5, .int 8, .int 0, .int 0, .int 0, .int 0, .int 0, .int 0, .int (-1), .int 0, .int 0, .ref e6, .ref e7, .ref e8, .ref e9, .int 0, .ref e10, .ref e11, .int 0, .int 0, .ref e12, .int 0])), (e5, .inl (τ 0, 500, .inl (g2)))]) (wr := []) Y [0, 1] [] rfl rfl (by decide) (by decide) (rV (As := [.int y2]) (rest := []) (q0 := 0) B Y [0, 1] (by decide) rfl (k_four8 l D τ _ mo e0 e1 e2 e3 e4 e5 e6 e7 e8 e9 e10 e11 e12 0 0 0 0 0 0 0 0 0 (-1) 0 0 0 0 0 0 (g2) y2) rfl rfl q_1585 q_1587 qp_47 q_12 q_1588 rfl rfl hd_X10_four ⟨(Nat.le_of_ble_eq_true rfl), (Nat.le_of_ble_eq_true rfl)⟩ rfl hl.1 rfl (Nat.le_of_ble_eq_true rfl) dX10_append_39 ⟨(Nat.le_of_ble_eq_true rfl), (Nat.le_of_ble_eq_true rfl)⟩) (fun u H locs hw Y => ?_)
  obtain ⟨g3, rfl⟩ : ∃ z, z = u := ⟨_, rfl⟩
  have Y : Wd D τ s A s.heap [(mo, .inr (10, [.ref e0, .ref e1, .ref e2, .ref e3, .ref e4, .int 0, .int 0, .int 0, .ref e5, .int 12, .int 0, .int 0, .int 0, .int 0, .int 0, .int 0, .int (-1), .int 0, .int 0, .ref e6, .ref e7, .ref e8, .ref e9, .int 0, .ref e10, .ref e11, .int 0, .int 0, .ref e12, .int 0])), (e5, .inl (τ 0, 500, .inl (g3)))] H _ := Y
  refine lv_aload_n B.1 B.2.1 dX10_append_42 rfl (lv_at hl 0 rfl) ?_
  refine lv_iload B.1 B.2.1 dX10_append_43 (lv_at hl 4 rfl) ?_
  refine retV (wc := [(mo, .inr (10, [.ref e0, .ref e1, .ref e2, .ref e3, .ref e4, .int 0, .int 0, .int 0, .ref e5, .int 12, .int 0, .int 0, .int 0, .int 0, .int 0, .int 0, .int (-1), .int 0, .int 0, .ref e6, .ref e7, .ref e8, .ref e9, .int 0, .ref e10, .ref e11, .int 0, .int 0, .ref e12, .int 0])), (e5, .inl (τ 0, 500, .inl (g3)))]) (wr := []) Y [0, 1] [] rfl rfl (by decide) (by decide) (rV (As := [.int y3]) (rest := []) (q0 := 0) B Y [0, 1] (by decide) rfl (k_four12 l D τ _ mo e0 e1 e2 e3 e4 e5 e6 e7 e8 e9 e10 e11 e12 0 0 0 0 0 0 0 0 0 (-1) 0 0 0 0 0 0 (g3) y3) rfl rfl q_1585 q_1587 qp_47 q_12 q_1588 rfl rfl hd_X10_four ⟨(Nat.le_of_ble_eq_true rfl), (Nat.le_of_ble_eq_true rfl)⟩ rfl hl.1 rfl (Nat.le_of_ble_eq_true rfl) dX10_append_45 ⟨(Nat.le_of_ble_eq_true rfl), (Nat.le_of_ble_eq_true rfl)⟩) (fun u H locs hw Y => ?_)
  obtain ⟨g4, rfl⟩ : ∃ z, z = u := ⟨_, rfl⟩
  have Y : Wd D τ s A s.heap [(mo, .inr (10, [.ref e0, .ref e1, .ref e2, .ref e3, .ref e4, .int 0, .int 0, .int 0, .ref e5, .int 16, .int 0, .int 0, .int 0, .int 0, .int 0, .int 0, .int (-1), .int 0, .int 0, .ref e6, .ref e7, .ref e8, .ref e9, .int 0, .ref e10, .ref e11, .int 0, .int 0, .ref e12, .int 0])), (e5, .inl (τ 0, 500, .inl (g4)))] H _ := Y
  refine lv_aload_n B.1 B.2.1 dX10_append_48 rfl (lv_at hl 0 rfl) ?_
  refine lv_iload B.1 B.2.1 dX10_append_49 (lv_at hl 5 rfl) ?_
  refine retV (wc := [(mo, .inr (10, [.ref e0, .ref e1, .ref e2, .ref e3, .ref e4, .int 0, .int 0, .int 0, .ref e5, .int 16, .int 0, .int 0, .int 0, .int 0, .int 0, .int 0, .int (-1), .int 0, .int 0, .ref e6, .ref e7, .ref e8, .ref e9, .int 0, .ref e10, .ref e11, .int 0, .int 0, .ref e12, .int 0])), (e5, .inl (τ 0, 500, .inl (g4)))]) (wr := []) Y [0, 1] [] rfl rfl (by decide) (by decide) (rV (As := [.int y4]) (rest := []) (q0 := 0) B Y [0, 1] (by decide) rfl (k_four16 l D τ _ mo e0 e1 e2 e3 e4 e5 e6 e7 e8 e9 e10 e11 e12 0 0 0 0 0 0 0 0 0 (-1) 0 0 0 0 0 0 (g4) y4) rfl rfl q_1585 q_1587 qp_47 q_12 q_1588 rfl rfl hd_X10_four ⟨(Nat.le_of_ble_eq_true rfl), (Nat.le_of_ble_eq_true rfl)⟩ rfl hl.1 rfl (Nat.le_of_ble_eq_true rfl) dX10_append_51 ⟨(Nat.le_of_ble_eq_true rfl), (Nat.le_of_ble_eq_true rfl)⟩) (fun u H locs hw Y => ?_)
  obtain ⟨g5, rfl⟩ : ∃ z, z = u := ⟨_, rfl⟩
  have Y : Wd D τ s A s.heap [(mo, .inr (10, [.ref e0, .ref e1, .ref e2, .ref e3, .ref e4, .int 0, .int 0, .int 0, .ref e5, .int 20, .int 0, .int 0, .int 0, .int 0, .int 0, .int 0, .int (-1), .int 0, .int 0, .ref e6, .ref e7, .ref e8, .ref e9, .int 0, .ref e10, .ref e11, .int 0, .int 0, .ref e12, .int 0])), (e5, .inl (τ 0, 500, .inl (g5)))] H _ := Y
  refine lv_aload_n B.1 B.2.1 dX10_append_54 rfl (lv_at hl 0 rfl) ?_
  refine gf_X10_198 B Y 0 rfl rfl dX10_append_55 ?_
  exact endI B hr hlk Y (lsI [0, 0, 0, 20, 0, 0, 0, 0, 0, 0, (-1), 0, 0, 0, 0, 0, 0]) ⟨rfl, rfl⟩ [0] (by decide) rfl (Nat.le_of_ble_eq_true rfl) (Nat.le_of_ble_eq_true rfl) dX10_append_58

set_option maxHeartbeats 4000000 in
set_option maxRecDepth 100000 in
theorem r_truncate (l : Launch) (D : va_G) (τ : Nat → ClassId) (sz : Nat) (mo e0 e1 e2 e3 e4 e5 e6 e7 e8 e9 e10 e11 e12 : Nat) (k : Int32) : Met l yX10_truncate (Cond.code yX10_truncate cX10_truncate 2 (some .int) :: wALL) { frames := 1, cells := 0, slots := 0, locals := 25 } (Pw D τ [(mo, .inr (10, [.ref e0, .ref e1, .ref e2, .ref e3, .ref e4, .int 0, .int 0, .int 0, .ref e5, .int 0, .int 0, .int 0, .int 0, .int 0, .int 0, .int 0, .int (-1), .int 0, .int 0, .ref e6, .ref e7, .ref e8, .ref e9, .int 0, .ref e10, .ref e11, .int 0, .int 0, .ref e12, .int 0]))] sz [.ref mo, .int k]) (va_Qi (fun (r : Int32) (u : Nat → Int32) => (¬ k < 0 ∧ ¬ 0 < k → r = k ∧ u 1 = 0) ∧ (k < 0 ∨ 0 < k → u 1 = 1)) (Bw D (va_A [(mo, .inr (10, [.ref e0, .ref e1, .ref e2, .ref e3, .ref e4, .int 0, .int 0, .int 0, .ref e5, .int 0, .int 0, .int 0, .int 0, .int 0, .int 0, .int 0, .int (-1), .int 0, .int 0, .ref e6, .ref e7, .ref e8, .ref e9, .int 0, .ref e10, .ref e11, .int 0, .int 0, .ref e12, .int 0]))] sz) (fun (u : Nat → Int32) => [(mo, .inr (10, [.ref e0, .ref e1, .ref e2, .ref e3, .ref e4, .int (u 0), .int (u 1), .int (u 2), .ref e5, .int (u 3), .int (u 4), .int (u 5), .int (u 6), .int (u 7), .int (u 8), .int (u 9), .int (u 10), .int (u 11), .int (u 12), .ref e6, .ref e7, .ref e8, .ref e9, .int (u 13), .ref e10, .ref e11, .int (u 14), .int (u 15), .ref e12, .int (u 16)]))])) (va_A [(mo, .inr (10, [.ref e0, .ref e1, .ref e2, .ref e3, .ref e4, .int 0, .int 0, .int 0, .ref e5, .int 0, .int 0, .int 0, .int 0, .int 0, .int 0, .int 0, .int (-1), .int 0, .int 0, .ref e6, .ref e7, .ref e8, .ref e9, .int 0, .ref e10, .ref e11, .int 0, .int 0, .ref e12, .int 0]))] sz)) 0 0 (va_A [(mo, .inr (10, [.ref e0, .ref e1, .ref e2, .ref e3, .ref e4, .int 0, .int 0, .int 0, .ref e5, .int 0, .int 0, .int 0, .int 0, .int 0, .int 0, .int 0, .int (-1), .int 0, .int 0, .ref e6, .ref e7, .ref e8, .ref e9, .int 0, .ref e10, .ref e11, .int 0, .int 0, .ref e12, .int 0]))] sz) := by
  refine bodyW (by decide) (Nat.le_of_ble_eq_true rfl) (fun p e s m below meth c ls B hr hlk hin hsz Y hl => ?_)
  have hl : lv_has ls 2 [(0, .ref mo), (1, .int k)] := hl
  have B : CallFix p m c cX10_truncate 2 s _ wALL RX10 := B
  generalize va_A [(mo, .inr (10, [.ref e0, .ref e1, .ref e2, .ref e3, .ref e4, .int 0, .int 0, .int 0, .ref e5, .int 0, .int 0, .int 0, .int 0, .int 0, .int 0, .int 0, .int (-1), .int 0, .int 0, .ref e6, .ref e7, .ref e8, .ref e9, .int 0, .ref e10, .ref e11, .int 0, .int 0, .ref e12, .int 0]))] sz = A at Y ⊢
  by_cases hk : ¬ k < 0 ∧ ¬ 0 < k
  · have hk0 := hk
    obtain ⟨b, hb0, hba, hbb⟩ := i_rng (a := 0) (b := 0) (by decide) (by decide) hk.1 hk.2
    subst hb0
    have hl : lv_has ls 2 [(0, .ref mo), (1, .int (nI b))] := hl
    refine lv_aload_n B.1 B.2.1 dX10_truncate_0 rfl (lv_at hl 0 rfl) ?_
    refine lv_iload_n B.1 B.2.1 dX10_truncate_1 rfl (lv_at hl 1 rfl) ?_
    refine lv_i2l B.1 B.2.1 dX10_truncate_2 rfl ?_
    refine lv_lconst (v := Int32.toInt64 0) B.1 B.2.1 dX10_truncate_3 (by decide) ?_
    refine lv_aload_n B.1 B.2.1 dX10_truncate_4 rfl (lv_at hl 0 rfl) ?_
    refine gf_X10_198 B Y 0 rfl rfl dX10_truncate_5 ?_
    refine lv_i2l B.1 B.2.1 dX10_truncate_8 rfl ?_
    refine retI (wc := []) (wr := [(mo, .inr (10, [.ref e0, .ref e1, .ref e2, .ref e3, .ref e4, .int 0, .int 0, .int 0, .ref e5, .int 0, .int 0, .int 0, .int 0, .int 0, .int 0, .int 0, .int (-1), .int 0, .int 0, .ref e6, .ref e7, .ref e8, .ref e9, .int 0, .ref e10, .ref e11, .int 0, .int 0, .ref e12, .int 0]))]) Y [] [0] rfl rfl (by decide) (by decide) (rS (As := [.long (Int32.toInt64 (nI b)), .long (Int32.toInt64 0), .long (Int32.toInt64 0)]) (rest := [.ref mo]) B Y [] (by decide) rfl (k_in l D τ _ (nI b) 0 0) q_1593 q_1594 q_12 q_1595 rfl rfl hd_X10_in ⟨(Nat.le_of_ble_eq_true rfl), (Nat.le_of_ble_eq_true rfl)⟩ rfl hl.1 rfl (Nat.le_of_ble_eq_true rfl) dX10_truncate_9 ⟨(Nat.le_of_ble_eq_true rfl), (Nat.le_of_ble_eq_true rfl)⟩) (fun r u H locs hw Y => ?_)
    have hw : r = 1 := hw.1 hk0
    subst hw
    have Y : Wd D τ s A s.heap [(mo, .inr (10, [.ref e0, .ref e1, .ref e2, .ref e3, .ref e4, .int 0, .int 0, .int 0, .ref e5, .int 0, .int 0, .int 0, .int 0, .int 0, .int 0, .int 0, .int (-1), .int 0, .int 0, .ref e6, .ref e7, .ref e8, .ref e9, .int 0, .ref e10, .ref e11, .int 0, .int 0, .ref e12, .int 0]))] H _ := Y
    refine retI (wc := [(mo, .inr (10, [.ref e0, .ref e1, .ref e2, .ref e3, .ref e4, .int 0, .int 0, .int 0, .ref e5, .int 0, .int 0, .int 0, .int 0, .int 0, .int 0, .int 0, .int (-1), .int 0, .int 0, .ref e6, .ref e7, .ref e8, .ref e9, .int 0, .ref e10, .ref e11, .int 0, .int 0, .ref e12, .int 0]))]) (wr := []) Y [0] [] rfl rfl (by decide) (by decide) (rV (As := [.int 1]) (rest := []) (q0 := 0) B Y [0] (by decide) rfl (k_passes1 l D τ _ mo e0 e1 e2 e3 e4 e5 e6 e7 e8 e9 e10 e11 e12 0 0 0 0 0 0 0 0 0 0 (-1) 0 0 0 0 0 0) rfl rfl q_1581 q_1583 qp_46 q_12 q_1584 rfl rfl hd_X10_passes ⟨(Nat.le_of_ble_eq_true rfl), (Nat.le_of_ble_eq_true rfl)⟩ rfl hl.1 rfl (Nat.le_of_ble_eq_true rfl) dX10_truncate_12 ⟨(Nat.le_of_ble_eq_true rfl), (Nat.le_of_ble_eq_true rfl)⟩) (fun r u H locs hw Y => ?_)
    have hw : r = 1 := hw
    subst hw
    have Y : Wd D τ s A s.heap [(mo, .inr (10, [.ref e0, .ref e1, .ref e2, .ref e3, .ref e4, .int 0, .int 0, .int 0, .ref e5, .int 0, .int 0, .int 0, .int 0, .int 0, .int 0, .int 0, .int (-1), .int 0, .int 0, .ref e6, .ref e7, .ref e8, .ref e9, .int 0, .ref e10, .ref e11, .int 0, .int 0, .ref e12, .int 0]))] H _ := Y
    refine lv_if_ne (tgt := 20) B.1 B.2.1 dX10_truncate_15 (by decide) (fun _ => ?_) (fun h => absurd h (by decide))
    refine lv_aload_n B.1 B.2.1 dX10_truncate_20 rfl (lv_at hl 0 rfl) ?_
    refine lv_iload_n B.1 B.2.1 dX10_truncate_21 rfl (lv_at hl 1 rfl) ?_
    refine pf_X10_198 (ws' := [(mo, .inr (10, [.ref e0, .ref e1, .ref e2, .ref e3, .ref e4, .int 0, .int 0, .int 0, .ref e5, .int (nI b), .int 0, .int 0, .int 0, .int 0, .int 0, .int 0, .int (-1), .int 0, .int 0, .ref e6, .ref e7, .ref e8, .ref e9, .int 0, .ref e10, .ref e11, .int 0, .int 0, .ref e12, .int 0]))]) B Y 0 rfl (Nat.le_of_ble_eq_true rfl) rfl dX10_truncate_22 (fun H locs Y => ?_)
    refine lv_iload_n B.1 B.2.1 dX10_truncate_25 rfl (lv_at hl 1 rfl) ?_
    exact endI B hr hlk Y (lsI [0, 0, 0, (nI b), 0, 0, 0, 0, 0, 0, (-1), 0, 0, 0, 0, 0, 0]) ⟨fun _ => ⟨rfl, rfl⟩, fun h => absurd h (nor2 hk0.1 hk0.2)⟩ [0] (by decide) rfl (Nat.le_of_ble_eq_true rfl) (Nat.le_of_ble_eq_true rfl) dX10_truncate_26
  · refine lv_aload_n B.1 B.2.1 dX10_truncate_0 rfl (lv_at hl 0 rfl) ?_
    refine lv_iload_n B.1 B.2.1 dX10_truncate_1 rfl (lv_at hl 1 rfl) ?_
    refine lv_i2l B.1 B.2.1 dX10_truncate_2 rfl ?_
    refine lv_lconst (v := Int32.toInt64 0) B.1 B.2.1 dX10_truncate_3 (by decide) ?_
    refine lv_aload_n B.1 B.2.1 dX10_truncate_4 rfl (lv_at hl 0 rfl) ?_
    refine gf_X10_198 B Y 0 rfl rfl dX10_truncate_5 ?_
    refine lv_i2l B.1 B.2.1 dX10_truncate_8 rfl ?_
    refine retI (wc := []) (wr := [(mo, .inr (10, [.ref e0, .ref e1, .ref e2, .ref e3, .ref e4, .int 0, .int 0, .int 0, .ref e5, .int 0, .int 0, .int 0, .int 0, .int 0, .int 0, .int 0, .int (-1), .int 0, .int 0, .ref e6, .ref e7, .ref e8, .ref e9, .int 0, .ref e10, .ref e11, .int 0, .int 0, .ref e12, .int 0]))]) Y [] [0] rfl rfl (by decide) (by decide) (rS (As := [.long (Int32.toInt64 k), .long (Int32.toInt64 0), .long (Int32.toInt64 0)]) (rest := [.ref mo]) B Y [] (by decide) rfl (k_in l D τ _ k 0 0) q_1593 q_1594 q_12 q_1595 rfl rfl hd_X10_in ⟨(Nat.le_of_ble_eq_true rfl), (Nat.le_of_ble_eq_true rfl)⟩ rfl hl.1 rfl (Nat.le_of_ble_eq_true rfl) dX10_truncate_9 ⟨(Nat.le_of_ble_eq_true rfl), (Nat.le_of_ble_eq_true rfl)⟩) (fun r u H locs hw Y => ?_)
    have hw : r = 0 := hw.2 (n_or hk)
    subst hw
    have Y : Wd D τ s A s.heap [(mo, .inr (10, [.ref e0, .ref e1, .ref e2, .ref e3, .ref e4, .int 0, .int 0, .int 0, .ref e5, .int 0, .int 0, .int 0, .int 0, .int 0, .int 0, .int 0, .int (-1), .int 0, .int 0, .ref e6, .ref e7, .ref e8, .ref e9, .int 0, .ref e10, .ref e11, .int 0, .int 0, .ref e12, .int 0]))] H _ := Y
    refine retI (wc := [(mo, .inr (10, [.ref e0, .ref e1, .ref e2, .ref e3, .ref e4, .int 0, .int 0, .int 0, .ref e5, .int 0, .int 0, .int 0, .int 0, .int 0, .int 0, .int 0, .int (-1), .int 0, .int 0, .ref e6, .ref e7, .ref e8, .ref e9, .int 0, .ref e10, .ref e11, .int 0, .int 0, .ref e12, .int 0]))]) (wr := []) Y [0] [] rfl rfl (by decide) (by decide) (rV (As := [.int 0]) (rest := []) (q0 := 0) B Y [0] (by decide) rfl (k_passes0 l D τ _ mo e0 e1 e2 e3 e4 e5 e6 e7 e8 e9 e10 e11 e12 0 0 0 0 0 0 0 0 0 0 (-1) 0 0 0 0 0 0) rfl rfl q_1581 q_1583 qp_46 q_12 q_1584 rfl rfl hd_X10_passes ⟨(Nat.le_of_ble_eq_true rfl), (Nat.le_of_ble_eq_true rfl)⟩ rfl hl.1 rfl (Nat.le_of_ble_eq_true rfl) dX10_truncate_12 ⟨(Nat.le_of_ble_eq_true rfl), (Nat.le_of_ble_eq_true rfl)⟩) (fun r u H locs hw Y => ?_)
    have hw : r = 0 := hw
    subst hw
    have Y : Wd D τ s A s.heap [(mo, .inr (10, [.ref e0, .ref e1, .ref e2, .ref e3, .ref e4, .int 0, .int 1, .int 0, .ref e5, .int 0, .int 0, .int 0, .int 0, .int 0, .int 0, .int 0, .int (-1), .int 0, .int 0, .ref e6, .ref e7, .ref e8, .ref e9, .int 0, .ref e10, .ref e11, .int 0, .int 0, .ref e12, .int 0]))] H _ := Y
    refine lv_if_ne (tgt := 20) B.1 B.2.1 dX10_truncate_15 (by decide) (fun h => absurd (by decide) h) (fun _ => ?_)
    refine lv_iconst (v := 0) B.1 B.2.1 dX10_truncate_18 (by decide) ?_
    exact endI B hr hlk Y (lsI [0, 1, 0, 0, 0, 0, 0, 0, 0, 0, (-1), 0, 0, 0, 0, 0, 0]) ⟨fun h => absurd h hk, fun _ => rfl⟩ [0] (by decide) rfl (Nat.le_of_ble_eq_true rfl) (Nat.le_of_ble_eq_true rfl) dX10_truncate_19

set_option maxHeartbeats 4000000 in
set_option maxRecDepth 100000 in
theorem k_writes0 (l : Launch) (D : va_G) (τ : Nat → ClassId) (sz : Nat) (mo e0 e1 e2 e3 e4 e5 e6 e7 e8 e9 e10 e11 e12 : Nat) (i0 i1 i2 i3 i4 i5 i6 i7 i8 i9 i10 i11 i12 i13 i14 i15 : Int32) (f : Nat → Int32) (y : Int32) : Met l yX10_writes (Cond.code yX10_writes cX10_writes 2 none :: wALL) { frames := 0, cells := 0, slots := 0, locals := 0 } (Pw D τ [(mo, .inr (10, [.ref e0, .ref e1, .ref e2, .ref e3, .ref e4, .int i0, .int i1, .int i2, .ref e5, .int i3, .int i4, .int i5, .int i6, .int i7, .int i8, .int i9, .int i10, .int i11, .int i12, .ref e6, .ref e7, .ref e8, .ref e9, .int i13, .ref e10, .ref e11, .int i14, .int i15, .ref e12, .int 0])), (e12, .inl (τ 0, 8000, .inl (f)))] sz [.ref mo, .int y]) (va_Qv (fun (u : Nat → Int32) => True) (Bw D (va_A [(mo, .inr (10, [.ref e0, .ref e1, .ref e2, .ref e3, .ref e4, .int i0, .int i1, .int i2, .ref e5, .int i3, .int i4, .int i5, .int i6, .int i7, .int i8, .int i9, .int i10, .int i11, .int i12, .ref e6, .ref e7, .ref e8, .ref e9, .int i13, .ref e10, .ref e11, .int i14, .int i15, .ref e12, .int 0])), (e12, .inl (τ 0, 8000, .inl (f)))] sz) (fun (u : Nat → Int32) => [(mo, .inr (10, [.ref e0, .ref e1, .ref e2, .ref e3, .ref e4, .int i0, .int i1, .int i2, .ref e5, .int i3, .int i4, .int i5, .int i6, .int i7, .int i8, .int i9, .int i10, .int i11, .int i12, .ref e6, .ref e7, .ref e8, .ref e9, .int i13, .ref e10, .ref e11, .int i14, .int i15, .ref e12, .int 1])), (e12, .inl (τ 0, 8000, .inl (u)))])) (va_A [(mo, .inr (10, [.ref e0, .ref e1, .ref e2, .ref e3, .ref e4, .int i0, .int i1, .int i2, .ref e5, .int i3, .int i4, .int i5, .int i6, .int i7, .int i8, .int i9, .int i10, .int i11, .int i12, .ref e6, .ref e7, .ref e8, .ref e9, .int i13, .ref e10, .ref e11, .int i14, .int i15, .ref e12, .int 0])), (e12, .inl (τ 0, 8000, .inl (f)))] sz)) 0 0 (va_A [(mo, .inr (10, [.ref e0, .ref e1, .ref e2, .ref e3, .ref e4, .int i0, .int i1, .int i2, .ref e5, .int i3, .int i4, .int i5, .int i6, .int i7, .int i8, .int i9, .int i10, .int i11, .int i12, .ref e6, .ref e7, .ref e8, .ref e9, .int i13, .ref e10, .ref e11, .int i14, .int i15, .ref e12, .int 0])), (e12, .inl (τ 0, 8000, .inl (f)))] sz) := by
  refine bodyW (by decide) (Nat.le_of_ble_eq_true rfl) (fun p e s m below meth c ls B hr hlk hin hsz Y hl => ?_)
  have hl : lv_has ls 2 [(0, .ref mo), (1, .int y)] := hl
  have B : CallFix p m c cX10_writes 2 s _ wALL RX10 := B
  generalize va_A [(mo, .inr (10, [.ref e0, .ref e1, .ref e2, .ref e3, .ref e4, .int i0, .int i1, .int i2, .ref e5, .int i3, .int i4, .int i5, .int i6, .int i7, .int i8, .int i9, .int i10, .int i11, .int i12, .ref e6, .ref e7, .ref e8, .ref e9, .int i13, .ref e10, .ref e11, .int i14, .int i15, .ref e12, .int 0])), (e12, .inl (τ 0, 8000, .inl (f)))] sz = A at Y ⊢
  refine lv_aload_n B.1 B.2.1 dX10_writes_0 rfl (lv_at hl 0 rfl) ?_
  refine gf_X10_52 B Y 0 rfl rfl dX10_writes_1 ?_
  refine lv_aload_n B.1 B.2.1 dX10_writes_4 rfl (lv_at hl 0 rfl) ?_
  refine gf_X10_496 B Y 0 rfl rfl dX10_writes_5 ?_
  refine lv_iload_n B.1 B.2.1 dX10_writes_8 rfl (lv_at hl 1 rfl) ?_
  refine t_iast (j := 0) (g := upd (f) 0 y) (ws' := [(mo, .inr (10, [.ref e0, .ref e1, .ref e2, .ref e3, .ref e4, .int i0, .int i1, .int i2, .ref e5, .int i3, .int i4, .int i5, .int i6, .int i7, .int i8, .int i9, .int i10, .int i11, .int i12, .ref e6, .ref e7, .ref e8, .ref e9, .int i13, .ref e10, .ref e11, .int i14, .int i15, .ref e12, .int 0])), (e12, .inl (τ 0, 8000, .inl (upd (f) 0 y)))]) B Y 1 rfl (by decide) (by decide) (Nat.le_of_ble_eq_true rfl) rfl rfl dX10_writes_9 (fun H locs Y => ?_)
  refine lv_aload_n B.1 B.2.1 dX10_writes_10 rfl (lv_at hl 0 rfl) ?_
  refine lv_dup B.1 B.2.1 dX10_writes_11 rfl ?_
  refine gf_X10_496 B Y 0 rfl rfl dX10_writes_12 ?_
  refine lv_iconst (v := 1) B.1 B.2.1 dX10_writes_15 (by decide) ?_
  refine lv_iadd B.1 B.2.1 dX10_writes_16 ?_
  refine lv_cv (v := 1) (by decide) ?_
  refine pf_X10_496 (ws' := [(mo, .inr (10, [.ref e0, .ref e1, .ref e2, .ref e3, .ref e4, .int i0, .int i1, .int i2, .ref e5, .int i3, .int i4, .int i5, .int i6, .int i7, .int i8, .int i9, .int i10, .int i11, .int i12, .ref e6, .ref e7, .ref e8, .ref e9, .int i13, .ref e10, .ref e11, .int i14, .int i15, .ref e12, .int 1])), (e12, .inl (τ 0, 8000, .inl (upd (f) 0 y)))]) B Y 0 rfl (Nat.le_of_ble_eq_true rfl) rfl dX10_writes_17 (fun H locs Y => ?_)
  exact endV B hr hlk Y (upd (f) 0 y) trivial [0, 1] (by decide) rfl (Nat.le_of_ble_eq_true rfl) (Nat.le_of_ble_eq_true rfl) dX10_writes_20

set_option maxHeartbeats 4000000 in
set_option maxRecDepth 100000 in
theorem k_writes1 (l : Launch) (D : va_G) (τ : Nat → ClassId) (sz : Nat) (mo e0 e1 e2 e3 e4 e5 e6 e7 e8 e9 e10 e11 e12 : Nat) (i0 i1 i2 i3 i4 i5 i6 i7 i8 i9 i10 i11 i12 i13 i14 i15 : Int32) (f : Nat → Int32) (y : Int32) : Met l yX10_writes (Cond.code yX10_writes cX10_writes 2 none :: wALL) { frames := 0, cells := 0, slots := 0, locals := 0 } (Pw D τ [(mo, .inr (10, [.ref e0, .ref e1, .ref e2, .ref e3, .ref e4, .int i0, .int i1, .int i2, .ref e5, .int i3, .int i4, .int i5, .int i6, .int i7, .int i8, .int i9, .int i10, .int i11, .int i12, .ref e6, .ref e7, .ref e8, .ref e9, .int i13, .ref e10, .ref e11, .int i14, .int i15, .ref e12, .int 1])), (e12, .inl (τ 0, 8000, .inl (f)))] sz [.ref mo, .int y]) (va_Qv (fun (u : Nat → Int32) => True) (Bw D (va_A [(mo, .inr (10, [.ref e0, .ref e1, .ref e2, .ref e3, .ref e4, .int i0, .int i1, .int i2, .ref e5, .int i3, .int i4, .int i5, .int i6, .int i7, .int i8, .int i9, .int i10, .int i11, .int i12, .ref e6, .ref e7, .ref e8, .ref e9, .int i13, .ref e10, .ref e11, .int i14, .int i15, .ref e12, .int 1])), (e12, .inl (τ 0, 8000, .inl (f)))] sz) (fun (u : Nat → Int32) => [(mo, .inr (10, [.ref e0, .ref e1, .ref e2, .ref e3, .ref e4, .int i0, .int i1, .int i2, .ref e5, .int i3, .int i4, .int i5, .int i6, .int i7, .int i8, .int i9, .int i10, .int i11, .int i12, .ref e6, .ref e7, .ref e8, .ref e9, .int i13, .ref e10, .ref e11, .int i14, .int i15, .ref e12, .int 2])), (e12, .inl (τ 0, 8000, .inl (u)))])) (va_A [(mo, .inr (10, [.ref e0, .ref e1, .ref e2, .ref e3, .ref e4, .int i0, .int i1, .int i2, .ref e5, .int i3, .int i4, .int i5, .int i6, .int i7, .int i8, .int i9, .int i10, .int i11, .int i12, .ref e6, .ref e7, .ref e8, .ref e9, .int i13, .ref e10, .ref e11, .int i14, .int i15, .ref e12, .int 1])), (e12, .inl (τ 0, 8000, .inl (f)))] sz)) 0 0 (va_A [(mo, .inr (10, [.ref e0, .ref e1, .ref e2, .ref e3, .ref e4, .int i0, .int i1, .int i2, .ref e5, .int i3, .int i4, .int i5, .int i6, .int i7, .int i8, .int i9, .int i10, .int i11, .int i12, .ref e6, .ref e7, .ref e8, .ref e9, .int i13, .ref e10, .ref e11, .int i14, .int i15, .ref e12, .int 1])), (e12, .inl (τ 0, 8000, .inl (f)))] sz) := by
  refine bodyW (by decide) (Nat.le_of_ble_eq_true rfl) (fun p e s m below meth c ls B hr hlk hin hsz Y hl => ?_)
  have hl : lv_has ls 2 [(0, .ref mo), (1, .int y)] := hl
  have B : CallFix p m c cX10_writes 2 s _ wALL RX10 := B
  generalize va_A [(mo, .inr (10, [.ref e0, .ref e1, .ref e2, .ref e3, .ref e4, .int i0, .int i1, .int i2, .ref e5, .int i3, .int i4, .int i5, .int i6, .int i7, .int i8, .int i9, .int i10, .int i11, .int i12, .ref e6, .ref e7, .ref e8, .ref e9, .int i13, .ref e10, .ref e11, .int i14, .int i15, .ref e12, .int 1])), (e12, .inl (τ 0, 8000, .inl (f)))] sz = A at Y ⊢
  refine lv_aload_n B.1 B.2.1 dX10_writes_0 rfl (lv_at hl 0 rfl) ?_
  refine gf_X10_52 B Y 0 rfl rfl dX10_writes_1 ?_
  refine lv_aload_n B.1 B.2.1 dX10_writes_4 rfl (lv_at hl 0 rfl) ?_
  refine gf_X10_496 B Y 0 rfl rfl dX10_writes_5 ?_
  refine lv_iload_n B.1 B.2.1 dX10_writes_8 rfl (lv_at hl 1 rfl) ?_
  refine t_iast (j := 1) (g := upd (f) 1 y) (ws' := [(mo, .inr (10, [.ref e0, .ref e1, .ref e2, .ref e3, .ref e4, .int i0, .int i1, .int i2, .ref e5, .int i3, .int i4, .int i5, .int i6, .int i7, .int i8, .int i9, .int i10, .int i11, .int i12, .ref e6, .ref e7, .ref e8, .ref e9, .int i13, .ref e10, .ref e11, .int i14, .int i15, .ref e12, .int 1])), (e12, .inl (τ 0, 8000, .inl (upd (f) 1 y)))]) B Y 1 rfl (by decide) (by decide) (Nat.le_of_ble_eq_true rfl) rfl rfl dX10_writes_9 (fun H locs Y => ?_)
  refine lv_aload_n B.1 B.2.1 dX10_writes_10 rfl (lv_at hl 0 rfl) ?_
  refine lv_dup B.1 B.2.1 dX10_writes_11 rfl ?_
  refine gf_X10_496 B Y 0 rfl rfl dX10_writes_12 ?_
  refine lv_iconst (v := 1) B.1 B.2.1 dX10_writes_15 (by decide) ?_
  refine lv_iadd B.1 B.2.1 dX10_writes_16 ?_
  refine lv_cv (v := 2) (by decide) ?_
  refine pf_X10_496 (ws' := [(mo, .inr (10, [.ref e0, .ref e1, .ref e2, .ref e3, .ref e4, .int i0, .int i1, .int i2, .ref e5, .int i3, .int i4, .int i5, .int i6, .int i7, .int i8, .int i9, .int i10, .int i11, .int i12, .ref e6, .ref e7, .ref e8, .ref e9, .int i13, .ref e10, .ref e11, .int i14, .int i15, .ref e12, .int 2])), (e12, .inl (τ 0, 8000, .inl (upd (f) 1 y)))]) B Y 0 rfl (Nat.le_of_ble_eq_true rfl) rfl dX10_writes_17 (fun H locs Y => ?_)
  exact endV B hr hlk Y (upd (f) 1 y) trivial [0, 1] (by decide) rfl (Nat.le_of_ble_eq_true rfl) (Nat.le_of_ble_eq_true rfl) dX10_writes_20

set_option maxHeartbeats 4000000 in
set_option maxRecDepth 100000 in
theorem k_writes2 (l : Launch) (D : va_G) (τ : Nat → ClassId) (sz : Nat) (mo e0 e1 e2 e3 e4 e5 e6 e7 e8 e9 e10 e11 e12 : Nat) (i0 i1 i2 i3 i4 i5 i6 i7 i8 i9 i10 i11 i12 i13 i14 i15 : Int32) (f : Nat → Int32) (y : Int32) : Met l yX10_writes (Cond.code yX10_writes cX10_writes 2 none :: wALL) { frames := 0, cells := 0, slots := 0, locals := 0 } (Pw D τ [(mo, .inr (10, [.ref e0, .ref e1, .ref e2, .ref e3, .ref e4, .int i0, .int i1, .int i2, .ref e5, .int i3, .int i4, .int i5, .int i6, .int i7, .int i8, .int i9, .int i10, .int i11, .int i12, .ref e6, .ref e7, .ref e8, .ref e9, .int i13, .ref e10, .ref e11, .int i14, .int i15, .ref e12, .int 2])), (e12, .inl (τ 0, 8000, .inl (f)))] sz [.ref mo, .int y]) (va_Qv (fun (u : Nat → Int32) => True) (Bw D (va_A [(mo, .inr (10, [.ref e0, .ref e1, .ref e2, .ref e3, .ref e4, .int i0, .int i1, .int i2, .ref e5, .int i3, .int i4, .int i5, .int i6, .int i7, .int i8, .int i9, .int i10, .int i11, .int i12, .ref e6, .ref e7, .ref e8, .ref e9, .int i13, .ref e10, .ref e11, .int i14, .int i15, .ref e12, .int 2])), (e12, .inl (τ 0, 8000, .inl (f)))] sz) (fun (u : Nat → Int32) => [(mo, .inr (10, [.ref e0, .ref e1, .ref e2, .ref e3, .ref e4, .int i0, .int i1, .int i2, .ref e5, .int i3, .int i4, .int i5, .int i6, .int i7, .int i8, .int i9, .int i10, .int i11, .int i12, .ref e6, .ref e7, .ref e8, .ref e9, .int i13, .ref e10, .ref e11, .int i14, .int i15, .ref e12, .int 3])), (e12, .inl (τ 0, 8000, .inl (u)))])) (va_A [(mo, .inr (10, [.ref e0, .ref e1, .ref e2, .ref e3, .ref e4, .int i0, .int i1, .int i2, .ref e5, .int i3, .int i4, .int i5, .int i6, .int i7, .int i8, .int i9, .int i10, .int i11, .int i12, .ref e6, .ref e7, .ref e8, .ref e9, .int i13, .ref e10, .ref e11, .int i14, .int i15, .ref e12, .int 2])), (e12, .inl (τ 0, 8000, .inl (f)))] sz)) 0 0 (va_A [(mo, .inr (10, [.ref e0, .ref e1, .ref e2, .ref e3, .ref e4, .int i0, .int i1, .int i2, .ref e5, .int i3, .int i4, .int i5, .int i6, .int i7, .int i8, .int i9, .int i10, .int i11, .int i12, .ref e6, .ref e7, .ref e8, .ref e9, .int i13, .ref e10, .ref e11, .int i14, .int i15, .ref e12, .int 2])), (e12, .inl (τ 0, 8000, .inl (f)))] sz) := by
  refine bodyW (by decide) (Nat.le_of_ble_eq_true rfl) (fun p e s m below meth c ls B hr hlk hin hsz Y hl => ?_)
  have hl : lv_has ls 2 [(0, .ref mo), (1, .int y)] := hl
  have B : CallFix p m c cX10_writes 2 s _ wALL RX10 := B
  generalize va_A [(mo, .inr (10, [.ref e0, .ref e1, .ref e2, .ref e3, .ref e4, .int i0, .int i1, .int i2, .ref e5, .int i3, .int i4, .int i5, .int i6, .int i7, .int i8, .int i9, .int i10, .int i11, .int i12, .ref e6, .ref e7, .ref e8, .ref e9, .int i13, .ref e10, .ref e11, .int i14, .int i15, .ref e12, .int 2])), (e12, .inl (τ 0, 8000, .inl (f)))] sz = A at Y ⊢
  refine lv_aload_n B.1 B.2.1 dX10_writes_0 rfl (lv_at hl 0 rfl) ?_
  refine gf_X10_52 B Y 0 rfl rfl dX10_writes_1 ?_
  refine lv_aload_n B.1 B.2.1 dX10_writes_4 rfl (lv_at hl 0 rfl) ?_
  refine gf_X10_496 B Y 0 rfl rfl dX10_writes_5 ?_
  refine lv_iload_n B.1 B.2.1 dX10_writes_8 rfl (lv_at hl 1 rfl) ?_
  refine t_iast (j := 2) (g := upd (f) 2 y) (ws' := [(mo, .inr (10, [.ref e0, .ref e1, .ref e2, .ref e3, .ref e4, .int i0, .int i1, .int i2, .ref e5, .int i3, .int i4, .int i5, .int i6, .int i7, .int i8, .int i9, .int i10, .int i11, .int i12, .ref e6, .ref e7, .ref e8, .ref e9, .int i13, .ref e10, .ref e11, .int i14, .int i15, .ref e12, .int 2])), (e12, .inl (τ 0, 8000, .inl (upd (f) 2 y)))]) B Y 1 rfl (by decide) (by decide) (Nat.le_of_ble_eq_true rfl) rfl rfl dX10_writes_9 (fun H locs Y => ?_)
  refine lv_aload_n B.1 B.2.1 dX10_writes_10 rfl (lv_at hl 0 rfl) ?_
  refine lv_dup B.1 B.2.1 dX10_writes_11 rfl ?_
  refine gf_X10_496 B Y 0 rfl rfl dX10_writes_12 ?_
  refine lv_iconst (v := 1) B.1 B.2.1 dX10_writes_15 (by decide) ?_
  refine lv_iadd B.1 B.2.1 dX10_writes_16 ?_
  refine lv_cv (v := 3) (by decide) ?_
  refine pf_X10_496 (ws' := [(mo, .inr (10, [.ref e0, .ref e1, .ref e2, .ref e3, .ref e4, .int i0, .int i1, .int i2, .ref e5, .int i3, .int i4, .int i5, .int i6, .int i7, .int i8, .int i9, .int i10, .int i11, .int i12, .ref e6, .ref e7, .ref e8, .ref e9, .int i13, .ref e10, .ref e11, .int i14, .int i15, .ref e12, .int 3])), (e12, .inl (τ 0, 8000, .inl (upd (f) 2 y)))]) B Y 0 rfl (Nat.le_of_ble_eq_true rfl) rfl dX10_writes_17 (fun H locs Y => ?_)
  exact endV B hr hlk Y (upd (f) 2 y) trivial [0, 1] (by decide) rfl (Nat.le_of_ble_eq_true rfl) (Nat.le_of_ble_eq_true rfl) dX10_writes_20

set_option maxHeartbeats 4000000 in
set_option maxRecDepth 100000 in
theorem k_writes3 (l : Launch) (D : va_G) (τ : Nat → ClassId) (sz : Nat) (mo e0 e1 e2 e3 e4 e5 e6 e7 e8 e9 e10 e11 e12 : Nat) (i0 i1 i2 i3 i4 i5 i6 i7 i8 i9 i10 i11 i12 i13 i14 i15 : Int32) (f : Nat → Int32) (y : Int32) : Met l yX10_writes (Cond.code yX10_writes cX10_writes 2 none :: wALL) { frames := 0, cells := 0, slots := 0, locals := 0 } (Pw D τ [(mo, .inr (10, [.ref e0, .ref e1, .ref e2, .ref e3, .ref e4, .int i0, .int i1, .int i2, .ref e5, .int i3, .int i4, .int i5, .int i6, .int i7, .int i8, .int i9, .int i10, .int i11, .int i12, .ref e6, .ref e7, .ref e8, .ref e9, .int i13, .ref e10, .ref e11, .int i14, .int i15, .ref e12, .int 3])), (e12, .inl (τ 0, 8000, .inl (f)))] sz [.ref mo, .int y]) (va_Qv (fun (u : Nat → Int32) => True) (Bw D (va_A [(mo, .inr (10, [.ref e0, .ref e1, .ref e2, .ref e3, .ref e4, .int i0, .int i1, .int i2, .ref e5, .int i3, .int i4, .int i5, .int i6, .int i7, .int i8, .int i9, .int i10, .int i11, .int i12, .ref e6, .ref e7, .ref e8, .ref e9, .int i13, .ref e10, .ref e11, .int i14, .int i15, .ref e12, .int 3])), (e12, .inl (τ 0, 8000, .inl (f)))] sz) (fun (u : Nat → Int32) => [(mo, .inr (10, [.ref e0, .ref e1, .ref e2, .ref e3, .ref e4, .int i0, .int i1, .int i2, .ref e5, .int i3, .int i4, .int i5, .int i6, .int i7, .int i8, .int i9, .int i10, .int i11, .int i12, .ref e6, .ref e7, .ref e8, .ref e9, .int i13, .ref e10, .ref e11, .int i14, .int i15, .ref e12, .int 4])), (e12, .inl (τ 0, 8000, .inl (u)))])) (va_A [(mo, .inr (10, [.ref e0, .ref e1, .ref e2, .ref e3, .ref e4, .int i0, .int i1, .int i2, .ref e5, .int i3, .int i4, .int i5, .int i6, .int i7, .int i8, .int i9, .int i10, .int i11, .int i12, .ref e6, .ref e7, .ref e8, .ref e9, .int i13, .ref e10, .ref e11, .int i14, .int i15, .ref e12, .int 3])), (e12, .inl (τ 0, 8000, .inl (f)))] sz)) 0 0 (va_A [(mo, .inr (10, [.ref e0, .ref e1, .ref e2, .ref e3, .ref e4, .int i0, .int i1, .int i2, .ref e5, .int i3, .int i4, .int i5, .int i6, .int i7, .int i8, .int i9, .int i10, .int i11, .int i12, .ref e6, .ref e7, .ref e8, .ref e9, .int i13, .ref e10, .ref e11, .int i14, .int i15, .ref e12, .int 3])), (e12, .inl (τ 0, 8000, .inl (f)))] sz) := by
  refine bodyW (by decide) (Nat.le_of_ble_eq_true rfl) (fun p e s m below meth c ls B hr hlk hin hsz Y hl => ?_)
  have hl : lv_has ls 2 [(0, .ref mo), (1, .int y)] := hl
  have B : CallFix p m c cX10_writes 2 s _ wALL RX10 := B
  generalize va_A [(mo, .inr (10, [.ref e0, .ref e1, .ref e2, .ref e3, .ref e4, .int i0, .int i1, .int i2, .ref e5, .int i3, .int i4, .int i5, .int i6, .int i7, .int i8, .int i9, .int i10, .int i11, .int i12, .ref e6, .ref e7, .ref e8, .ref e9, .int i13, .ref e10, .ref e11, .int i14, .int i15, .ref e12, .int 3])), (e12, .inl (τ 0, 8000, .inl (f)))] sz = A at Y ⊢
  refine lv_aload_n B.1 B.2.1 dX10_writes_0 rfl (lv_at hl 0 rfl) ?_
  refine gf_X10_52 B Y 0 rfl rfl dX10_writes_1 ?_
  refine lv_aload_n B.1 B.2.1 dX10_writes_4 rfl (lv_at hl 0 rfl) ?_
  refine gf_X10_496 B Y 0 rfl rfl dX10_writes_5 ?_
  refine lv_iload_n B.1 B.2.1 dX10_writes_8 rfl (lv_at hl 1 rfl) ?_
  refine t_iast (j := 3) (g := upd (f) 3 y) (ws' := [(mo, .inr (10, [.ref e0, .ref e1, .ref e2, .ref e3, .ref e4, .int i0, .int i1, .int i2, .ref e5, .int i3, .int i4, .int i5, .int i6, .int i7, .int i8, .int i9, .int i10, .int i11, .int i12, .ref e6, .ref e7, .ref e8, .ref e9, .int i13, .ref e10, .ref e11, .int i14, .int i15, .ref e12, .int 3])), (e12, .inl (τ 0, 8000, .inl (upd (f) 3 y)))]) B Y 1 rfl (by decide) (by decide) (Nat.le_of_ble_eq_true rfl) rfl rfl dX10_writes_9 (fun H locs Y => ?_)
  refine lv_aload_n B.1 B.2.1 dX10_writes_10 rfl (lv_at hl 0 rfl) ?_
  refine lv_dup B.1 B.2.1 dX10_writes_11 rfl ?_
  refine gf_X10_496 B Y 0 rfl rfl dX10_writes_12 ?_
  refine lv_iconst (v := 1) B.1 B.2.1 dX10_writes_15 (by decide) ?_
  refine lv_iadd B.1 B.2.1 dX10_writes_16 ?_
  refine lv_cv (v := 4) (by decide) ?_
  refine pf_X10_496 (ws' := [(mo, .inr (10, [.ref e0, .ref e1, .ref e2, .ref e3, .ref e4, .int i0, .int i1, .int i2, .ref e5, .int i3, .int i4, .int i5, .int i6, .int i7, .int i8, .int i9, .int i10, .int i11, .int i12, .ref e6, .ref e7, .ref e8, .ref e9, .int i13, .ref e10, .ref e11, .int i14, .int i15, .ref e12, .int 4])), (e12, .inl (τ 0, 8000, .inl (upd (f) 3 y)))]) B Y 0 rfl (Nat.le_of_ble_eq_true rfl) rfl dX10_writes_17 (fun H locs Y => ?_)
  exact endV B hr hlk Y (upd (f) 3 y) trivial [0, 1] (by decide) rfl (Nat.le_of_ble_eq_true rfl) (Nat.le_of_ble_eq_true rfl) dX10_writes_20

set_option maxHeartbeats 4000000 in
set_option maxRecDepth 100000 in
theorem k_writes4 (l : Launch) (D : va_G) (τ : Nat → ClassId) (sz : Nat) (mo e0 e1 e2 e3 e4 e5 e6 e7 e8 e9 e10 e11 e12 : Nat) (i0 i1 i2 i3 i4 i5 i6 i7 i8 i9 i10 i11 i12 i13 i14 i15 : Int32) (f : Nat → Int32) (y : Int32) : Met l yX10_writes (Cond.code yX10_writes cX10_writes 2 none :: wALL) { frames := 0, cells := 0, slots := 0, locals := 0 } (Pw D τ [(mo, .inr (10, [.ref e0, .ref e1, .ref e2, .ref e3, .ref e4, .int i0, .int i1, .int i2, .ref e5, .int i3, .int i4, .int i5, .int i6, .int i7, .int i8, .int i9, .int i10, .int i11, .int i12, .ref e6, .ref e7, .ref e8, .ref e9, .int i13, .ref e10, .ref e11, .int i14, .int i15, .ref e12, .int 4])), (e12, .inl (τ 0, 8000, .inl (f)))] sz [.ref mo, .int y]) (va_Qv (fun (u : Nat → Int32) => True) (Bw D (va_A [(mo, .inr (10, [.ref e0, .ref e1, .ref e2, .ref e3, .ref e4, .int i0, .int i1, .int i2, .ref e5, .int i3, .int i4, .int i5, .int i6, .int i7, .int i8, .int i9, .int i10, .int i11, .int i12, .ref e6, .ref e7, .ref e8, .ref e9, .int i13, .ref e10, .ref e11, .int i14, .int i15, .ref e12, .int 4])), (e12, .inl (τ 0, 8000, .inl (f)))] sz) (fun (u : Nat → Int32) => [(mo, .inr (10, [.ref e0, .ref e1, .ref e2, .ref e3, .ref e4, .int i0, .int i1, .int i2, .ref e5, .int i3, .int i4, .int i5, .int i6, .int i7, .int i8, .int i9, .int i10, .int i11, .int i12, .ref e6, .ref e7, .ref e8, .ref e9, .int i13, .ref e10, .ref e11, .int i14, .int i15, .ref e12, .int 5])), (e12, .inl (τ 0, 8000, .inl (u)))])) (va_A [(mo, .inr (10, [.ref e0, .ref e1, .ref e2, .ref e3, .ref e4, .int i0, .int i1, .int i2, .ref e5, .int i3, .int i4, .int i5, .int i6, .int i7, .int i8, .int i9, .int i10, .int i11, .int i12, .ref e6, .ref e7, .ref e8, .ref e9, .int i13, .ref e10, .ref e11, .int i14, .int i15, .ref e12, .int 4])), (e12, .inl (τ 0, 8000, .inl (f)))] sz)) 0 0 (va_A [(mo, .inr (10, [.ref e0, .ref e1, .ref e2, .ref e3, .ref e4, .int i0, .int i1, .int i2, .ref e5, .int i3, .int i4, .int i5, .int i6, .int i7, .int i8, .int i9, .int i10, .int i11, .int i12, .ref e6, .ref e7, .ref e8, .ref e9, .int i13, .ref e10, .ref e11, .int i14, .int i15, .ref e12, .int 4])), (e12, .inl (τ 0, 8000, .inl (f)))] sz) := by
  refine bodyW (by decide) (Nat.le_of_ble_eq_true rfl) (fun p e s m below meth c ls B hr hlk hin hsz Y hl => ?_)
  have hl : lv_has ls 2 [(0, .ref mo), (1, .int y)] := hl
  have B : CallFix p m c cX10_writes 2 s _ wALL RX10 := B
  generalize va_A [(mo, .inr (10, [.ref e0, .ref e1, .ref e2, .ref e3, .ref e4, .int i0, .int i1, .int i2, .ref e5, .int i3, .int i4, .int i5, .int i6, .int i7, .int i8, .int i9, .int i10, .int i11, .int i12, .ref e6, .ref e7, .ref e8, .ref e9, .int i13, .ref e10, .ref e11, .int i14, .int i15, .ref e12, .int 4])), (e12, .inl (τ 0, 8000, .inl (f)))] sz = A at Y ⊢
  refine lv_aload_n B.1 B.2.1 dX10_writes_0 rfl (lv_at hl 0 rfl) ?_
  refine gf_X10_52 B Y 0 rfl rfl dX10_writes_1 ?_
  refine lv_aload_n B.1 B.2.1 dX10_writes_4 rfl (lv_at hl 0 rfl) ?_
  refine gf_X10_496 B Y 0 rfl rfl dX10_writes_5 ?_
  refine lv_iload_n B.1 B.2.1 dX10_writes_8 rfl (lv_at hl 1 rfl) ?_
  refine t_iast (j := 4) (g := upd (f) 4 y) (ws' := [(mo, .inr (10, [.ref e0, .ref e1, .ref e2, .ref e3, .ref e4, .int i0, .int i1, .int i2, .ref e5, .int i3, .int i4, .int i5, .int i6, .int i7, .int i8, .int i9, .int i10, .int i11, .int i12, .ref e6, .ref e7, .ref e8, .ref e9, .int i13, .ref e10, .ref e11, .int i14, .int i15, .ref e12, .int 4])), (e12, .inl (τ 0, 8000, .inl (upd (f) 4 y)))]) B Y 1 rfl (by decide) (by decide) (Nat.le_of_ble_eq_true rfl) rfl rfl dX10_writes_9 (fun H locs Y => ?_)
  refine lv_aload_n B.1 B.2.1 dX10_writes_10 rfl (lv_at hl 0 rfl) ?_
  refine lv_dup B.1 B.2.1 dX10_writes_11 rfl ?_
  refine gf_X10_496 B Y 0 rfl rfl dX10_writes_12 ?_
  refine lv_iconst (v := 1) B.1 B.2.1 dX10_writes_15 (by decide) ?_
  refine lv_iadd B.1 B.2.1 dX10_writes_16 ?_
  refine lv_cv (v := 5) (by decide) ?_
  refine pf_X10_496 (ws' := [(mo, .inr (10, [.ref e0, .ref e1, .ref e2, .ref e3, .ref e4, .int i0, .int i1, .int i2, .ref e5, .int i3, .int i4, .int i5, .int i6, .int i7, .int i8, .int i9, .int i10, .int i11, .int i12, .ref e6, .ref e7, .ref e8, .ref e9, .int i13, .ref e10, .ref e11, .int i14, .int i15, .ref e12, .int 5])), (e12, .inl (τ 0, 8000, .inl (upd (f) 4 y)))]) B Y 0 rfl (Nat.le_of_ble_eq_true rfl) rfl dX10_writes_17 (fun H locs Y => ?_)
  exact endV B hr hlk Y (upd (f) 4 y) trivial [0, 1] (by decide) rfl (Nat.le_of_ble_eq_true rfl) (Nat.le_of_ble_eq_true rfl) dX10_writes_20

set_option maxHeartbeats 4000000 in
set_option maxRecDepth 100000 in
theorem k_writesNumber576 (l : Launch) (D : va_G) (τ : Nat → ClassId) (sz : Nat) (mo e0 e1 e2 e3 e4 e5 e6 e7 e8 e9 e10 e11 e12 : Nat) (i0 i1 i2 i3 i4 i5 i6 i7 i8 i9 i10 i11 i12 i13 i14 i15 : Int32) (f : Nat → Int32) : Met l yX10_writesNumber (Cond.code yX10_writesNumber cX10_writesNumber 3 none :: wALL) { frames := 1, cells := 0, slots := 0, locals := 21 } (Pw D τ [(mo, .inr (10, [.ref e0, .ref e1, .ref e2, .ref e3, .ref e4, .int i0, .int i1, .int i2, .ref e5, .int i3, .int i4, .int i5, .int i6, .int i7, .int i8, .int i9, .int i10, .int i11, .int i12, .ref e6, .ref e7, .ref e8, .ref e9, .int i13, .ref e10, .ref e11, .int i14, .int i15, .ref e12, .int 0])), (e12, .inl (τ 0, 8000, .inl (f)))] sz [.ref mo, .int 576]) (va_Qv (fun (u : Nat → Int32) => True) (Bw D (va_A [(mo, .inr (10, [.ref e0, .ref e1, .ref e2, .ref e3, .ref e4, .int i0, .int i1, .int i2, .ref e5, .int i3, .int i4, .int i5, .int i6, .int i7, .int i8, .int i9, .int i10, .int i11, .int i12, .ref e6, .ref e7, .ref e8, .ref e9, .int i13, .ref e10, .ref e11, .int i14, .int i15, .ref e12, .int 0])), (e12, .inl (τ 0, 8000, .inl (f)))] sz) (fun (u : Nat → Int32) => [(mo, .inr (10, [.ref e0, .ref e1, .ref e2, .ref e3, .ref e4, .int i0, .int i1, .int i2, .ref e5, .int i3, .int i4, .int i5, .int i6, .int i7, .int i8, .int i9, .int i10, .int i11, .int i12, .ref e6, .ref e7, .ref e8, .ref e9, .int i13, .ref e10, .ref e11, .int i14, .int i15, .ref e12, .int 3])), (e12, .inl (τ 0, 8000, .inl (u)))])) (va_A [(mo, .inr (10, [.ref e0, .ref e1, .ref e2, .ref e3, .ref e4, .int i0, .int i1, .int i2, .ref e5, .int i3, .int i4, .int i5, .int i6, .int i7, .int i8, .int i9, .int i10, .int i11, .int i12, .ref e6, .ref e7, .ref e8, .ref e9, .int i13, .ref e10, .ref e11, .int i14, .int i15, .ref e12, .int 0])), (e12, .inl (τ 0, 8000, .inl (f)))] sz)) 0 0 (va_A [(mo, .inr (10, [.ref e0, .ref e1, .ref e2, .ref e3, .ref e4, .int i0, .int i1, .int i2, .ref e5, .int i3, .int i4, .int i5, .int i6, .int i7, .int i8, .int i9, .int i10, .int i11, .int i12, .ref e6, .ref e7, .ref e8, .ref e9, .int i13, .ref e10, .ref e11, .int i14, .int i15, .ref e12, .int 0])), (e12, .inl (τ 0, 8000, .inl (f)))] sz) := by
  refine bodyW (by decide) (Nat.le_of_ble_eq_true rfl) (fun p e s m below meth c ls B hr hlk hin hsz Y hl => ?_)
  have hl : lv_has ls 3 [(0, .ref mo), (1, .int 576)] := hl
  have B : CallFix p m c cX10_writesNumber 3 s _ wALL RX10 := B
  generalize va_A [(mo, .inr (10, [.ref e0, .ref e1, .ref e2, .ref e3, .ref e4, .int i0, .int i1, .int i2, .ref e5, .int i3, .int i4, .int i5, .int i6, .int i7, .int i8, .int i9, .int i10, .int i11, .int i12, .ref e6, .ref e7, .ref e8, .ref e9, .int i13, .ref e10, .ref e11, .int i14, .int i15, .ref e12, .int 0])), (e12, .inl (τ 0, 8000, .inl (f)))] sz = A at Y ⊢
  refine lv_iconst (v := 1) B.1 B.2.1 dX10_writesNumber_0 (by decide) ?_
  refine lv_istore_n (lv' := [(2, .int 1), (0, .ref mo), (1, .int 576)]) B.1 B.2.1 dX10_writesNumber_1 rfl hl (by decide) rfl (fun ls hl => ?_)
  refine lv_iload_n B.1 B.2.1 dX10_writesNumber_2 rfl (lv_at hl 2 rfl) ?_
  refine lv_iload_n B.1 B.2.1 dX10_writesNumber_3 rfl (lv_at hl 0 rfl) ?_
  refine lv_idiv B.1 B.2.1 dX10_writesNumber_4 (by decide) ?_
  refine lv_cv (v := 576) (by decide) ?_
  refine lv_bipush (v := 9) B.1 B.2.1 dX10_writesNumber_5 (by decide) ?_
  refine lv_icmp_le (tgt := 18) B.1 B.2.1 dX10_writesNumber_7 (by decide) (fun h => absurd h (by decide)) (fun _ => ?_)
  refine lv_iload_n B.1 B.2.1 dX10_writesNumber_10 rfl (lv_at hl 0 rfl) ?_
  refine lv_bipush (v := 10) B.1 B.2.1 dX10_writesNumber_11 (by decide) ?_
  refine lv_imul B.1 B.2.1 dX10_writesNumber_13 ?_
  refine lv_cv (v := 10) (by decide) ?_
  refine lv_istore_n (lv' := [(2, .int 10), (0, .ref mo), (1, .int 576)]) B.1 B.2.1 dX10_writesNumber_14 rfl hl (by decide) rfl (fun ls hl => ?_)
  refine lv_goto (tgt := 2) B.1 B.2.1 dX10_writesNumber_15 (by decide) ?_
  refine lv_iload_n B.1 B.2.1 dX10_writesNumber_2 rfl (lv_at hl 2 rfl) ?_
  refine lv_iload_n B.1 B.2.1 dX10_writesNumber_3 rfl (lv_at hl 0 rfl) ?_
  refine lv_idiv B.1 B.2.1 dX10_writesNumber_4 (by decide) ?_
  refine lv_cv (v := 57) (by decide) ?_
  refine lv_bipush (v := 9) B.1 B.2.1 dX10_writesNumber_5 (by decide) ?_
  refine lv_icmp_le (tgt := 18) B.1 B.2.1 dX10_writesNumber_7 (by decide) (fun h => absurd h (by decide)) (fun _ => ?_)
  refine lv_iload_n B.1 B.2.1 dX10_writesNumber_10 rfl (lv_at hl 0 rfl) ?_
  refine lv_bipush (v := 10) B.1 B.2.1 dX10_writesNumber_11 (by decide) ?_
  refine lv_imul B.1 B.2.1 dX10_writesNumber_13 ?_
  refine lv_cv (v := 100) (by decide) ?_
  refine lv_istore_n (lv' := [(2, .int 100), (0, .ref mo), (1, .int 576)]) B.1 B.2.1 dX10_writesNumber_14 rfl hl (by decide) rfl (fun ls hl => ?_)
  refine lv_goto (tgt := 2) B.1 B.2.1 dX10_writesNumber_15 (by decide) ?_
  refine lv_iload_n B.1 B.2.1 dX10_writesNumber_2 rfl (lv_at hl 2 rfl) ?_
  refine lv_iload_n B.1 B.2.1 dX10_writesNumber_3 rfl (lv_at hl 0 rfl) ?_
  refine lv_idiv B.1 B.2.1 dX10_writesNumber_4 (by decide) ?_
  refine lv_cv (v := 5) (by decide) ?_
  refine lv_bipush (v := 9) B.1 B.2.1 dX10_writesNumber_5 (by decide) ?_
  refine lv_icmp_le (tgt := 18) B.1 B.2.1 dX10_writesNumber_7 (by decide) (fun _ => ?_) (fun h => absurd (by decide) h)
  refine lv_iload_n B.1 B.2.1 dX10_writesNumber_18 rfl (lv_at hl 0 rfl) ?_
  refine lv_if_le (tgt := 43) B.1 B.2.1 dX10_writesNumber_19 (by decide) (fun h => absurd h (by decide)) (fun _ => ?_)
  refine lv_aload_n B.1 B.2.1 dX10_writesNumber_22 rfl (lv_at hl 1 rfl) ?_
  refine lv_bipush (v := 48) B.1 B.2.1 dX10_writesNumber_23 (by decide) ?_
  refine lv_iload_n B.1 B.2.1 dX10_writesNumber_25 rfl (lv_at hl 2 rfl) ?_
  refine lv_iload_n B.1 B.2.1 dX10_writesNumber_26 rfl (lv_at hl 0 rfl) ?_
  refine lv_idiv B.1 B.2.1 dX10_writesNumber_27 (by decide) ?_
  refine lv_cv (v := 5) (by decide) ?_
  refine lv_bipush (v := 10) B.1 B.2.1 dX10_writesNumber_28 (by decide) ?_
  refine lv_irem B.1 B.2.1 dX10_writesNumber_30 (by decide) ?_
  refine lv_cv (v := 5) (by decide) ?_
  refine lv_iadd B.1 B.2.1 dX10_writesNumber_31 ?_
  refine lv_cv (v := 53) (by decide) ?_
  refine retV (wc := [(mo, .inr (10, [.ref e0, .ref e1, .ref e2, .ref e3, .ref e4, .int i0, .int i1, .int i2, .ref e5, .int i3, .int i4, .int i5, .int i6, .int i7, .int i8, .int i9, .int i10, .int i11, .int i12, .ref e6, .ref e7, .ref e8, .ref e9, .int i13, .ref e10, .ref e11, .int i14, .int i15, .ref e12, .int 0])), (e12, .inl (τ 0, 8000, .inl (f)))]) (wr := []) Y [0, 1] [] rfl rfl (by decide) (by decide) (rV (As := [.int 53]) (rest := []) (q0 := 0) B Y [0, 1] (by decide) rfl (k_writes0 l D τ _ mo e0 e1 e2 e3 e4 e5 e6 e7 e8 e9 e10 e11 e12 i0 i1 i2 i3 i4 i5 i6 i7 i8 i9 i10 i11 i12 i13 i14 i15 (f) 53) rfl rfl q_2165 q_2167 qp_137 q_12 q_2168 rfl rfl hd_X10_writes ⟨(Nat.le_of_ble_eq_true rfl), (Nat.le_of_ble_eq_true rfl)⟩ rfl hl.1 rfl (Nat.le_of_ble_eq_true rfl) dX10_writesNumber_32 ⟨(Nat.le_of_ble_eq_true rfl), (Nat.le_of_ble_eq_true rfl)⟩) (fun u H locs hw Y => ?_)
  obtain ⟨g1, rfl⟩ : ∃ z, z = u := ⟨_, rfl⟩
  have Y : Wd D τ s A s.heap [(mo, .inr (10, [.ref e0, .ref e1, .ref e2, .ref e3, .ref e4, .int i0, .int i1, .int i2, .ref e5, .int i3, .int i4, .int i5, .int i6, .int i7, .int i8, .int i9, .int i10, .int i11, .int i12, .ref e6, .ref e7, .ref e8, .ref e9, .int i13, .ref e10, .ref e11, .int i14, .int i15, .ref e12, .int 1])), (e12, .inl (τ 0, 8000, .inl (g1)))] H _ := Y
  refine lv_iload_n B.1 B.2.1 dX10_writesNumber_35 rfl (lv_at hl 0 rfl) ?_
  refine lv_bipush (v := 10) B.1 B.2.1 dX10_writesNumber_36 (by decide) ?_
  refine lv_idiv B.1 B.2.1 dX10_writesNumber_38 (by decide) ?_
  refine lv_cv (v := 10) (by decide) ?_
  refine lv_istore_n (lv' := [(2, .int 10), (0, .ref mo), (1, .int 576)]) B.1 B.2.1 dX10_writesNumber_39 rfl hl (by decide) rfl (fun ls hl => ?_)
  refine lv_goto (tgt := 18) B.1 B.2.1 dX10_writesNumber_40 (by decide) ?_
  refine lv_iload_n B.1 B.2.1 dX10_writesNumber_18 rfl (lv_at hl 0 rfl) ?_
  refine lv_if_le (tgt := 43) B.1 B.2.1 dX10_writesNumber_19 (by decide) (fun h => absurd h (by decide)) (fun _ => ?_)
  refine lv_aload_n B.1 B.2.1 dX10_writesNumber_22 rfl (lv_at hl 1 rfl) ?_
  refine lv_bipush (v := 48) B.1 B.2.1 dX10_writesNumber_23 (by decide) ?_
  refine lv_iload_n B.1 B.2.1 dX10_writesNumber_25 rfl (lv_at hl 2 rfl) ?_
  refine lv_iload_n B.1 B.2.1 dX10_writesNumber_26 rfl (lv_at hl 0 rfl) ?_
  refine lv_idiv B.1 B.2.1 dX10_writesNumber_27 (by decide) ?_
  refine lv_cv (v := 57) (by decide) ?_
  refine lv_bipush (v := 10) B.1 B.2.1 dX10_writesNumber_28 (by decide) ?_
  refine lv_irem B.1 B.2.1 dX10_writesNumber_30 (by decide) ?_
  refine lv_cv (v := 7) (by decide) ?_
  refine lv_iadd B.1 B.2.1 dX10_writesNumber_31 ?_
  refine lv_cv (v := 55) (by decide) ?_
  refine retV (wc := [(mo, .inr (10, [.ref e0, .ref e1, .ref e2, .ref e3, .ref e4, .int i0, .int i1, .int i2, .ref e5, .int i3, .int i4, .int i5, .int i6, .int i7, .int i8, .int i9, .int i10, .int i11, .int i12, .ref e6, .ref e7, .ref e8, .ref e9, .int i13, .ref e10, .ref e11, .int i14, .int i15, .ref e12, .int 1])), (e12, .inl (τ 0, 8000, .inl (g1)))]) (wr := []) Y [0, 1] [] rfl rfl (by decide) (by decide) (rV (As := [.int 55]) (rest := []) (q0 := 0) B Y [0, 1] (by decide) rfl (k_writes1 l D τ _ mo e0 e1 e2 e3 e4 e5 e6 e7 e8 e9 e10 e11 e12 i0 i1 i2 i3 i4 i5 i6 i7 i8 i9 i10 i11 i12 i13 i14 i15 (g1) 55) rfl rfl q_2165 q_2167 qp_137 q_12 q_2168 rfl rfl hd_X10_writes ⟨(Nat.le_of_ble_eq_true rfl), (Nat.le_of_ble_eq_true rfl)⟩ rfl hl.1 rfl (Nat.le_of_ble_eq_true rfl) dX10_writesNumber_32 ⟨(Nat.le_of_ble_eq_true rfl), (Nat.le_of_ble_eq_true rfl)⟩) (fun u H locs hw Y => ?_)
  obtain ⟨g2, rfl⟩ : ∃ z, z = u := ⟨_, rfl⟩
  have Y : Wd D τ s A s.heap [(mo, .inr (10, [.ref e0, .ref e1, .ref e2, .ref e3, .ref e4, .int i0, .int i1, .int i2, .ref e5, .int i3, .int i4, .int i5, .int i6, .int i7, .int i8, .int i9, .int i10, .int i11, .int i12, .ref e6, .ref e7, .ref e8, .ref e9, .int i13, .ref e10, .ref e11, .int i14, .int i15, .ref e12, .int 2])), (e12, .inl (τ 0, 8000, .inl (g2)))] H _ := Y
  refine lv_iload_n B.1 B.2.1 dX10_writesNumber_35 rfl (lv_at hl 0 rfl) ?_
  refine lv_bipush (v := 10) B.1 B.2.1 dX10_writesNumber_36 (by decide) ?_
  refine lv_idiv B.1 B.2.1 dX10_writesNumber_38 (by decide) ?_
  refine lv_cv (v := 1) (by decide) ?_
  refine lv_istore_n (lv' := [(2, .int 1), (0, .ref mo), (1, .int 576)]) B.1 B.2.1 dX10_writesNumber_39 rfl hl (by decide) rfl (fun ls hl => ?_)
  refine lv_goto (tgt := 18) B.1 B.2.1 dX10_writesNumber_40 (by decide) ?_
  refine lv_iload_n B.1 B.2.1 dX10_writesNumber_18 rfl (lv_at hl 0 rfl) ?_
  refine lv_if_le (tgt := 43) B.1 B.2.1 dX10_writesNumber_19 (by decide) (fun h => absurd h (by decide)) (fun _ => ?_)
  refine lv_aload_n B.1 B.2.1 dX10_writesNumber_22 rfl (lv_at hl 1 rfl) ?_
  refine lv_bipush (v := 48) B.1 B.2.1 dX10_writesNumber_23 (by decide) ?_
  refine lv_iload_n B.1 B.2.1 dX10_writesNumber_25 rfl (lv_at hl 2 rfl) ?_
  refine lv_iload_n B.1 B.2.1 dX10_writesNumber_26 rfl (lv_at hl 0 rfl) ?_
  refine lv_idiv B.1 B.2.1 dX10_writesNumber_27 (by decide) ?_
  refine lv_cv (v := 576) (by decide) ?_
  refine lv_bipush (v := 10) B.1 B.2.1 dX10_writesNumber_28 (by decide) ?_
  refine lv_irem B.1 B.2.1 dX10_writesNumber_30 (by decide) ?_
  refine lv_cv (v := 6) (by decide) ?_
  refine lv_iadd B.1 B.2.1 dX10_writesNumber_31 ?_
  refine lv_cv (v := 54) (by decide) ?_
  refine retV (wc := [(mo, .inr (10, [.ref e0, .ref e1, .ref e2, .ref e3, .ref e4, .int i0, .int i1, .int i2, .ref e5, .int i3, .int i4, .int i5, .int i6, .int i7, .int i8, .int i9, .int i10, .int i11, .int i12, .ref e6, .ref e7, .ref e8, .ref e9, .int i13, .ref e10, .ref e11, .int i14, .int i15, .ref e12, .int 2])), (e12, .inl (τ 0, 8000, .inl (g2)))]) (wr := []) Y [0, 1] [] rfl rfl (by decide) (by decide) (rV (As := [.int 54]) (rest := []) (q0 := 0) B Y [0, 1] (by decide) rfl (k_writes2 l D τ _ mo e0 e1 e2 e3 e4 e5 e6 e7 e8 e9 e10 e11 e12 i0 i1 i2 i3 i4 i5 i6 i7 i8 i9 i10 i11 i12 i13 i14 i15 (g2) 54) rfl rfl q_2165 q_2167 qp_137 q_12 q_2168 rfl rfl hd_X10_writes ⟨(Nat.le_of_ble_eq_true rfl), (Nat.le_of_ble_eq_true rfl)⟩ rfl hl.1 rfl (Nat.le_of_ble_eq_true rfl) dX10_writesNumber_32 ⟨(Nat.le_of_ble_eq_true rfl), (Nat.le_of_ble_eq_true rfl)⟩) (fun u H locs hw Y => ?_)
  obtain ⟨g3, rfl⟩ : ∃ z, z = u := ⟨_, rfl⟩
  have Y : Wd D τ s A s.heap [(mo, .inr (10, [.ref e0, .ref e1, .ref e2, .ref e3, .ref e4, .int i0, .int i1, .int i2, .ref e5, .int i3, .int i4, .int i5, .int i6, .int i7, .int i8, .int i9, .int i10, .int i11, .int i12, .ref e6, .ref e7, .ref e8, .ref e9, .int i13, .ref e10, .ref e11, .int i14, .int i15, .ref e12, .int 3])), (e12, .inl (τ 0, 8000, .inl (g3)))] H _ := Y
  refine lv_iload_n B.1 B.2.1 dX10_writesNumber_35 rfl (lv_at hl 0 rfl) ?_
  refine lv_bipush (v := 10) B.1 B.2.1 dX10_writesNumber_36 (by decide) ?_
  refine lv_idiv B.1 B.2.1 dX10_writesNumber_38 (by decide) ?_
  refine lv_cv (v := 0) (by decide) ?_
  refine lv_istore_n (lv' := [(2, .int 0), (0, .ref mo), (1, .int 576)]) B.1 B.2.1 dX10_writesNumber_39 rfl hl (by decide) rfl (fun ls hl => ?_)
  refine lv_goto (tgt := 18) B.1 B.2.1 dX10_writesNumber_40 (by decide) ?_
  refine lv_iload_n B.1 B.2.1 dX10_writesNumber_18 rfl (lv_at hl 0 rfl) ?_
  refine lv_if_le (tgt := 43) B.1 B.2.1 dX10_writesNumber_19 (by decide) (fun _ => ?_) (fun h => absurd (by decide) h)
  exact endV B hr hlk Y g3 trivial [0, 1] (by decide) rfl (Nat.le_of_ble_eq_true rfl) (Nat.le_of_ble_eq_true rfl) dX10_writesNumber_43

set_option maxHeartbeats 4000000 in
set_option maxRecDepth 100000 in
theorem k_writesNumber0 (l : Launch) (D : va_G) (τ : Nat → ClassId) (sz : Nat) (mo e0 e1 e2 e3 e4 e5 e6 e7 e8 e9 e10 e11 e12 : Nat) (i0 i1 i2 i3 i4 i5 i6 i7 i8 i9 i10 i11 i12 i13 i14 i15 : Int32) (f : Nat → Int32) : Met l yX10_writesNumber (Cond.code yX10_writesNumber cX10_writesNumber 3 none :: wALL) { frames := 1, cells := 0, slots := 0, locals := 21 } (Pw D τ [(mo, .inr (10, [.ref e0, .ref e1, .ref e2, .ref e3, .ref e4, .int i0, .int i1, .int i2, .ref e5, .int i3, .int i4, .int i5, .int i6, .int i7, .int i8, .int i9, .int i10, .int i11, .int i12, .ref e6, .ref e7, .ref e8, .ref e9, .int i13, .ref e10, .ref e11, .int i14, .int i15, .ref e12, .int 4])), (e12, .inl (τ 0, 8000, .inl (f)))] sz [.ref mo, .int 0]) (va_Qv (fun (u : Nat → Int32) => True) (Bw D (va_A [(mo, .inr (10, [.ref e0, .ref e1, .ref e2, .ref e3, .ref e4, .int i0, .int i1, .int i2, .ref e5, .int i3, .int i4, .int i5, .int i6, .int i7, .int i8, .int i9, .int i10, .int i11, .int i12, .ref e6, .ref e7, .ref e8, .ref e9, .int i13, .ref e10, .ref e11, .int i14, .int i15, .ref e12, .int 4])), (e12, .inl (τ 0, 8000, .inl (f)))] sz) (fun (u : Nat → Int32) => [(mo, .inr (10, [.ref e0, .ref e1, .ref e2, .ref e3, .ref e4, .int i0, .int i1, .int i2, .ref e5, .int i3, .int i4, .int i5, .int i6, .int i7, .int i8, .int i9, .int i10, .int i11, .int i12, .ref e6, .ref e7, .ref e8, .ref e9, .int i13, .ref e10, .ref e11, .int i14, .int i15, .ref e12, .int 5])), (e12, .inl (τ 0, 8000, .inl (u)))])) (va_A [(mo, .inr (10, [.ref e0, .ref e1, .ref e2, .ref e3, .ref e4, .int i0, .int i1, .int i2, .ref e5, .int i3, .int i4, .int i5, .int i6, .int i7, .int i8, .int i9, .int i10, .int i11, .int i12, .ref e6, .ref e7, .ref e8, .ref e9, .int i13, .ref e10, .ref e11, .int i14, .int i15, .ref e12, .int 4])), (e12, .inl (τ 0, 8000, .inl (f)))] sz)) 0 0 (va_A [(mo, .inr (10, [.ref e0, .ref e1, .ref e2, .ref e3, .ref e4, .int i0, .int i1, .int i2, .ref e5, .int i3, .int i4, .int i5, .int i6, .int i7, .int i8, .int i9, .int i10, .int i11, .int i12, .ref e6, .ref e7, .ref e8, .ref e9, .int i13, .ref e10, .ref e11, .int i14, .int i15, .ref e12, .int 4])), (e12, .inl (τ 0, 8000, .inl (f)))] sz) := by
  refine bodyW (by decide) (Nat.le_of_ble_eq_true rfl) (fun p e s m below meth c ls B hr hlk hin hsz Y hl => ?_)
  have hl : lv_has ls 3 [(0, .ref mo), (1, .int 0)] := hl
  have B : CallFix p m c cX10_writesNumber 3 s _ wALL RX10 := B
  generalize va_A [(mo, .inr (10, [.ref e0, .ref e1, .ref e2, .ref e3, .ref e4, .int i0, .int i1, .int i2, .ref e5, .int i3, .int i4, .int i5, .int i6, .int i7, .int i8, .int i9, .int i10, .int i11, .int i12, .ref e6, .ref e7, .ref e8, .ref e9, .int i13, .ref e10, .ref e11, .int i14, .int i15, .ref e12, .int 4])), (e12, .inl (τ 0, 8000, .inl (f)))] sz = A at Y ⊢
  refine lv_iconst (v := 1) B.1 B.2.1 dX10_writesNumber_0 (by decide) ?_
  refine lv_istore_n (lv' := [(2, .int 1), (0, .ref mo), (1, .int 0)]) B.1 B.2.1 dX10_writesNumber_1 rfl hl (by decide) rfl (fun ls hl => ?_)
  refine lv_iload_n B.1 B.2.1 dX10_writesNumber_2 rfl (lv_at hl 2 rfl) ?_
  refine lv_iload_n B.1 B.2.1 dX10_writesNumber_3 rfl (lv_at hl 0 rfl) ?_
  refine lv_idiv B.1 B.2.1 dX10_writesNumber_4 (by decide) ?_
  refine lv_cv (v := 0) (by decide) ?_
  refine lv_bipush (v := 9) B.1 B.2.1 dX10_writesNumber_5 (by decide) ?_
  refine lv_icmp_le (tgt := 18) B.1 B.2.1 dX10_writesNumber_7 (by decide) (fun _ => ?_) (fun h => absurd (by decide) h)
  refine lv_iload_n B.1 B.2.1 dX10_writesNumber_18 rfl (lv_at hl 0 rfl) ?_
  refine lv_if_le (tgt := 43) B.1 B.2.1 dX10_writesNumber_19 (by decide) (fun h => absurd h (by decide)) (fun _ => ?_)
  refine lv_aload_n B.1 B.2.1 dX10_writesNumber_22 rfl (lv_at hl 1 rfl) ?_
  refine lv_bipush (v := 48) B.1 B.2.1 dX10_writesNumber_23 (by decide) ?_
  refine lv_iload_n B.1 B.2.1 dX10_writesNumber_25 rfl (lv_at hl 2 rfl) ?_
  refine lv_iload_n B.1 B.2.1 dX10_writesNumber_26 rfl (lv_at hl 0 rfl) ?_
  refine lv_idiv B.1 B.2.1 dX10_writesNumber_27 (by decide) ?_
  refine lv_cv (v := 0) (by decide) ?_
  refine lv_bipush (v := 10) B.1 B.2.1 dX10_writesNumber_28 (by decide) ?_
  refine lv_irem B.1 B.2.1 dX10_writesNumber_30 (by decide) ?_
  refine lv_cv (v := 0) (by decide) ?_
  refine lv_iadd B.1 B.2.1 dX10_writesNumber_31 ?_
  refine lv_cv (v := 48) (by decide) ?_
  refine retV (wc := [(mo, .inr (10, [.ref e0, .ref e1, .ref e2, .ref e3, .ref e4, .int i0, .int i1, .int i2, .ref e5, .int i3, .int i4, .int i5, .int i6, .int i7, .int i8, .int i9, .int i10, .int i11, .int i12, .ref e6, .ref e7, .ref e8, .ref e9, .int i13, .ref e10, .ref e11, .int i14, .int i15, .ref e12, .int 4])), (e12, .inl (τ 0, 8000, .inl (f)))]) (wr := []) Y [0, 1] [] rfl rfl (by decide) (by decide) (rV (As := [.int 48]) (rest := []) (q0 := 0) B Y [0, 1] (by decide) rfl (k_writes4 l D τ _ mo e0 e1 e2 e3 e4 e5 e6 e7 e8 e9 e10 e11 e12 i0 i1 i2 i3 i4 i5 i6 i7 i8 i9 i10 i11 i12 i13 i14 i15 (f) 48) rfl rfl q_2165 q_2167 qp_137 q_12 q_2168 rfl rfl hd_X10_writes ⟨(Nat.le_of_ble_eq_true rfl), (Nat.le_of_ble_eq_true rfl)⟩ rfl hl.1 rfl (Nat.le_of_ble_eq_true rfl) dX10_writesNumber_32 ⟨(Nat.le_of_ble_eq_true rfl), (Nat.le_of_ble_eq_true rfl)⟩) (fun u H locs hw Y => ?_)
  obtain ⟨g1, rfl⟩ : ∃ z, z = u := ⟨_, rfl⟩
  have Y : Wd D τ s A s.heap [(mo, .inr (10, [.ref e0, .ref e1, .ref e2, .ref e3, .ref e4, .int i0, .int i1, .int i2, .ref e5, .int i3, .int i4, .int i5, .int i6, .int i7, .int i8, .int i9, .int i10, .int i11, .int i12, .ref e6, .ref e7, .ref e8, .ref e9, .int i13, .ref e10, .ref e11, .int i14, .int i15, .ref e12, .int 5])), (e12, .inl (τ 0, 8000, .inl (g1)))] H _ := Y
  refine lv_iload_n B.1 B.2.1 dX10_writesNumber_35 rfl (lv_at hl 0 rfl) ?_
  refine lv_bipush (v := 10) B.1 B.2.1 dX10_writesNumber_36 (by decide) ?_
  refine lv_idiv B.1 B.2.1 dX10_writesNumber_38 (by decide) ?_
  refine lv_cv (v := 0) (by decide) ?_
  refine lv_istore_n (lv' := [(2, .int 0), (0, .ref mo), (1, .int 0)]) B.1 B.2.1 dX10_writesNumber_39 rfl hl (by decide) rfl (fun ls hl => ?_)
  refine lv_goto (tgt := 18) B.1 B.2.1 dX10_writesNumber_40 (by decide) ?_
  refine lv_iload_n B.1 B.2.1 dX10_writesNumber_18 rfl (lv_at hl 0 rfl) ?_
  refine lv_if_le (tgt := 43) B.1 B.2.1 dX10_writesNumber_19 (by decide) (fun _ => ?_) (fun h => absurd (by decide) h)
  exact endV B hr hlk Y g1 trivial [0, 1] (by decide) rfl (Nat.le_of_ble_eq_true rfl) (Nat.le_of_ble_eq_true rfl) dX10_writesNumber_43

set_option maxHeartbeats 4000000 in
set_option maxRecDepth 100000 in
theorem r_writePath (l : Launch) (D : va_G) (τ : Nat → ClassId) (sz : Nat) (mo e0 e1 e2 e3 e4 e5 e6 e7 e8 e9 e10 e11 e12 : Nat) : Met l yX10_writePath (Cond.code yX10_writePath cX10_writePath 2 (some .int) :: wALL) { frames := 2, cells := 0, slots := 0, locals := 43 } (Pw D τ [(mo, .inr (10, [.ref e0, .ref e1, .ref e2, .ref e3, .ref e4, .int 0, .int 0, .int 0, .ref e5, .int 0, .int 0, .int 0, .int 0, .int 0, .int 0, .int 0, .int (-1), .int 0, .int 0, .ref e6, .ref e7, .ref e8, .ref e9, .int 0, .ref e10, .ref e11, .int 0, .int 0, .ref e12, .int 0])), (e0, .inl (τ 0, 16816, .inl (S0))), (e12, .inl (τ 0, 8000, .inl (fun _ => 0)))] sz [.ref mo]) (va_Qi (fun (r : Int32) (u : Nat → Int32) => r = 5 ∧ u 1 = 0) (Bw D (va_A [(mo, .inr (10, [.ref e0, .ref e1, .ref e2, .ref e3, .ref e4, .int 0, .int 0, .int 0, .ref e5, .int 0, .int 0, .int 0, .int 0, .int 0, .int 0, .int 0, .int (-1), .int 0, .int 0, .ref e6, .ref e7, .ref e8, .ref e9, .int 0, .ref e10, .ref e11, .int 0, .int 0, .ref e12, .int 0])), (e0, .inl (τ 0, 16816, .inl (S0))), (e12, .inl (τ 0, 8000, .inl (fun _ => 0)))] sz) (fun (u : Nat → Int32) => [(mo, .inr (10, [.ref e0, .ref e1, .ref e2, .ref e3, .ref e4, .int (u 0), .int (u 1), .int (u 2), .ref e5, .int (u 3), .int (u 4), .int (u 5), .int (u 6), .int (u 7), .int (u 8), .int (u 9), .int (u 10), .int (u 11), .int (u 12), .ref e6, .ref e7, .ref e8, .ref e9, .int (u 13), .ref e10, .ref e11, .int (u 14), .int (u 15), .ref e12, .int (u 16)]))])) (va_A [(mo, .inr (10, [.ref e0, .ref e1, .ref e2, .ref e3, .ref e4, .int 0, .int 0, .int 0, .ref e5, .int 0, .int 0, .int 0, .int 0, .int 0, .int 0, .int 0, .int (-1), .int 0, .int 0, .ref e6, .ref e7, .ref e8, .ref e9, .int 0, .ref e10, .ref e11, .int 0, .int 0, .ref e12, .int 0])), (e0, .inl (τ 0, 16816, .inl (S0))), (e12, .inl (τ 0, 8000, .inl (fun _ => 0)))] sz)) 0 0 (va_A [(mo, .inr (10, [.ref e0, .ref e1, .ref e2, .ref e3, .ref e4, .int 0, .int 0, .int 0, .ref e5, .int 0, .int 0, .int 0, .int 0, .int 0, .int 0, .int 0, .int (-1), .int 0, .int 0, .ref e6, .ref e7, .ref e8, .ref e9, .int 0, .ref e10, .ref e11, .int 0, .int 0, .ref e12, .int 0])), (e0, .inl (τ 0, 16816, .inl (S0))), (e12, .inl (τ 0, 8000, .inl (fun _ => 0)))] sz) := by
  refine bodyW (by decide) (Nat.le_of_ble_eq_true rfl) (fun p e s m below meth c ls B hr hlk hin hsz Y hl => ?_)
  have hl : lv_has ls 2 [(0, .ref mo)] := hl
  have B : CallFix p m c cX10_writePath 2 s _ wALL RX10 := B
  generalize va_A [(mo, .inr (10, [.ref e0, .ref e1, .ref e2, .ref e3, .ref e4, .int 0, .int 0, .int 0, .ref e5, .int 0, .int 0, .int 0, .int 0, .int 0, .int 0, .int 0, .int (-1), .int 0, .int 0, .ref e6, .ref e7, .ref e8, .ref e9, .int 0, .ref e10, .ref e11, .int 0, .int 0, .ref e12, .int 0])), (e0, .inl (τ 0, 16816, .inl (S0))), (e12, .inl (τ 0, 8000, .inl (fun _ => 0)))] sz = A at Y ⊢
  refine lv_aload_n B.1 B.2.1 dX10_writePath_0 rfl (lv_at hl 0 rfl) ?_
  refine lv_iconst (v := 0) B.1 B.2.1 dX10_writePath_1 (by decide) ?_
  refine pf_X10_62 (ws' := [(mo, .inr (10, [.ref e0, .ref e1, .ref e2, .ref e3, .ref e4, .int 0, .int 0, .int 0, .ref e5, .int 0, .int 0, .int 0, .int 0, .int 0, .int 0, .int 0, .int (-1), .int 0, .int 0, .ref e6, .ref e7, .ref e8, .ref e9, .int 0, .ref e10, .ref e11, .int 0, .int 0, .ref e12, .int 0])), (e0, .inl (τ 0, 16816, .inl (S0))), (e12, .inl (τ 0, 8000, .inl (fun _ => 0)))]) B Y 0 rfl (Nat.le_of_ble_eq_true rfl) rfl dX10_writePath_2 (fun H locs Y => ?_)
  refine lv_aload_n B.1 B.2.1 dX10_writePath_5 rfl (lv_at hl 0 rfl) ?_
  refine lv_iconst (v := 0) B.1 B.2.1 dX10_writePath_6 (by decide) ?_
  refine pf_X10_496 (ws' := [(mo, .inr (10, [.ref e0, .ref e1, .ref e2, .ref e3, .ref e4, .int 0, .int 0, .int 0, .ref e5, .int 0, .int 0, .int 0, .int 0, .int 0, .int 0, .int 0, .int (-1), .int 0, .int 0, .ref e6, .ref e7, .ref e8, .ref e9, .int 0, .ref e10, .ref e11, .int 0, .int 0, .ref e12, .int 0])), (e0, .inl (τ 0, 16816, .inl (S0))), (e12, .inl (τ 0, 8000, .inl (fun _ => 0)))]) B Y 0 rfl (Nat.le_of_ble_eq_true rfl) rfl dX10_writePath_7 (fun H locs Y => ?_)
  refine lv_iconst (v := 0) B.1 B.2.1 dX10_writePath_10 (by decide) ?_
  refine lv_istore_n (lv' := [(1, .int 0), (0, .ref mo)]) B.1 B.2.1 dX10_writePath_11 rfl hl (by decide) rfl (fun ls hl => ?_)
  refine lv_iload_n B.1 B.2.1 dX10_writePath_12 rfl (lv_at hl 0 rfl) ?_
  refine lv_aload_n B.1 B.2.1 dX10_writePath_13 rfl (lv_at hl 1 rfl) ?_
  refine gf_X10_7 B Y 0 rfl rfl dX10_writePath_14 ?_
  refine lv_iconst (v := 0) B.1 B.2.1 dX10_writePath_17 (by decide) ?_
  refine t_iald (v := 1) (j := 0) B Y 1 rfl (by decide) (by decide) (Nat.le_of_ble_eq_true rfl) rfl dX10_writePath_18 ?_
  refine lv_icmp_ge (tgt := 63) B.1 B.2.1 dX10_writePath_19 (by decide) (fun h => absurd h (by decide)) (fun _ => ?_)
  refine lv_iload_n B.1 B.2.1 dX10_writePath_22 rfl (lv_at hl 0 rfl) ?_
  refine lv_if_le (tgt := 32) B.1 B.2.1 dX10_writePath_23 (by decide) (fun _ => ?_) (fun h => absurd (by decide) h)
  refine lv_aload_n B.1 B.2.1 dX10_writePath_32 rfl (lv_at hl 1 rfl) ?_
  refine lv_aload_n B.1 B.2.1 dX10_writePath_33 rfl (lv_at hl 1 rfl) ?_
  refine lv_iload_n B.1 B.2.1 dX10_writePath_34 rfl (lv_at hl 0 rfl) ?_
  refine lv_iconst (v := 0) B.1 B.2.1 dX10_writePath_35 (by decide) ?_
  refine retI (wc := [(mo, .inr (10, [.ref e0, .ref e1, .ref e2, .ref e3, .ref e4, .int 0, .int 0, .int 0, .ref e5, .int 0, .int 0, .int 0, .int 0, .int 0, .int 0, .int 0, .int (-1), .int 0, .int 0, .ref e6, .ref e7, .ref e8, .ref e9, .int 0, .ref e10, .ref e11, .int 0, .int 0, .ref e12, .int 0])), (e0, .inl (τ 0, 16816, .inl (S0)))]) (wr := [(e12, .inl (τ 0, 8000, .inl (fun _ => 0)))]) Y [0, 1] [2] rfl rfl (by decide) (by decide) (rV (As := [.int 0, .int 0]) (rest := [.ref mo]) (q0 := 0) B Y [0, 1] (by decide) rfl (k_ofLinkR l D τ _ mo e0 e1 e2 e3 e4 e5 e6 e7 e8 e9 e10 e11 e12 0 0 0 0 0 0 0 0 0 0 (-1) 0 0 0 0 0 0 (S0) 0 0 24 (by decide) (by decide)) rfl rfl q_1674 q_1676 qp_61 q_12 q_1677 rfl rfl hd_X10_ofLink ⟨(Nat.le_of_ble_eq_true rfl), (Nat.le_of_ble_eq_true rfl)⟩ rfl hl.1 rfl (Nat.le_of_ble_eq_true rfl) dX10_writePath_36 ⟨(Nat.le_of_ble_eq_true rfl), (Nat.le_of_ble_eq_true rfl)⟩) (fun r u H locs hw Y => ?_)
  have hw : r = 576 := (hw : r = _).trans (rfl)
  subst hw
  have Y : Wd D τ s A s.heap [(e12, .inl (τ 0, 8000, .inl (fun _ => 0))), (mo, .inr (10, [.ref e0, .ref e1, .ref e2, .ref e3, .ref e4, .int 0, .int 0, .int 0, .ref e5, .int 0, .int 0, .int 0, .int 0, .int 0, .int 0, .int 0, .int (-1), .int 0, .int 0, .ref e6, .ref e7, .ref e8, .ref e9, .int 0, .ref e10, .ref e11, .int 0, .int 0, .ref e12, .int 0])), (e0, .inl (τ 0, 16816, .inl (S0)))] H _ := Y
  refine retV (wc := [(mo, .inr (10, [.ref e0, .ref e1, .ref e2, .ref e3, .ref e4, .int 0, .int 0, .int 0, .ref e5, .int 0, .int 0, .int 0, .int 0, .int 0, .int 0, .int 0, .int (-1), .int 0, .int 0, .ref e6, .ref e7, .ref e8, .ref e9, .int 0, .ref e10, .ref e11, .int 0, .int 0, .ref e12, .int 0])), (e12, .inl (τ 0, 8000, .inl (fun _ => 0)))]) (wr := [(e0, .inl (τ 0, 16816, .inl (S0)))]) Y [1, 0] [2] rfl rfl (by decide) (by decide) (rV (As := [.int 576]) (rest := []) (q0 := 1) B Y [1, 0] (by decide) rfl (k_writesNumber576 l D τ _ mo e0 e1 e2 e3 e4 e5 e6 e7 e8 e9 e10 e11 e12 0 0 0 0 0 0 0 0 0 0 (-1) 0 0 0 0 0 (fun _ => 0)) rfl rfl q_2177 q_2179 qp_140 q_12 q_2180 rfl rfl hd_X10_writesNumber ⟨(Nat.le_of_ble_eq_true rfl), (Nat.le_of_ble_eq_true rfl)⟩ rfl hl.1 rfl (Nat.le_of_ble_eq_true rfl) dX10_writePath_39 ⟨(Nat.le_of_ble_eq_true rfl), (Nat.le_of_ble_eq_true rfl)⟩) (fun u H locs hw Y => ?_)
  obtain ⟨g1, rfl⟩ : ∃ z, z = u := ⟨_, rfl⟩
  have Y : Wd D τ s A s.heap [(e0, .inl (τ 0, 16816, .inl (S0))), (mo, .inr (10, [.ref e0, .ref e1, .ref e2, .ref e3, .ref e4, .int 0, .int 0, .int 0, .ref e5, .int 0, .int 0, .int 0, .int 0, .int 0, .int 0, .int 0, .int (-1), .int 0, .int 0, .ref e6, .ref e7, .ref e8, .ref e9, .int 0, .ref e10, .ref e11, .int 0, .int 0, .ref e12, .int 3])), (e12, .inl (τ 0, 8000, .inl (g1)))] H _ := Y
  refine lv_aload_n B.1 B.2.1 dX10_writePath_42 rfl (lv_at hl 1 rfl) ?_
  refine lv_bipush (v := 42) B.1 B.2.1 dX10_writePath_43 (by decide) ?_
  refine retV (wc := [(mo, .inr (10, [.ref e0, .ref e1, .ref e2, .ref e3, .ref e4, .int 0, .int 0, .int 0, .ref e5, .int 0, .int 0, .int 0, .int 0, .int 0, .int 0, .int 0, .int (-1), .int 0, .int 0, .ref e6, .ref e7, .ref e8, .ref e9, .int 0, .ref e10, .ref e11, .int 0, .int 0, .ref e12, .int 3])), (e12, .inl (τ 0, 8000, .inl (g1)))]) (wr := [(e0, .inl (τ 0, 16816, .inl (S0)))]) Y [1, 2] [0] rfl rfl (by decide) (by decide) (rV (As := [.int 42]) (rest := []) (q0 := 1) B Y [1, 2] (by decide) rfl (k_writes3 l D τ _ mo e0 e1 e2 e3 e4 e5 e6 e7 e8 e9 e10 e11 e12 0 0 0 0 0 0 0 0 0 0 (-1) 0 0 0 0 0 (g1) 42) rfl rfl q_2165 q_2167 qp_137 q_12 q_2168 rfl rfl hd_X10_writes ⟨(Nat.le_of_ble_eq_true rfl), (Nat.le_of_ble_eq_true rfl)⟩ rfl hl.1 rfl (Nat.le_of_ble_eq_true rfl) dX10_writePath_45 ⟨(Nat.le_of_ble_eq_true rfl), (Nat.le_of_ble_eq_true rfl)⟩) (fun u H locs hw Y => ?_)
  obtain ⟨g2, rfl⟩ : ∃ z, z = u := ⟨_, rfl⟩
  have Y : Wd D τ s A s.heap [(e0, .inl (τ 0, 16816, .inl (S0))), (mo, .inr (10, [.ref e0, .ref e1, .ref e2, .ref e3, .ref e4, .int 0, .int 0, .int 0, .ref e5, .int 0, .int 0, .int 0, .int 0, .int 0, .int 0, .int 0, .int (-1), .int 0, .int 0, .ref e6, .ref e7, .ref e8, .ref e9, .int 0, .ref e10, .ref e11, .int 0, .int 0, .ref e12, .int 4])), (e12, .inl (τ 0, 8000, .inl (g2)))] H _ := Y
  refine lv_aload_n B.1 B.2.1 dX10_writePath_48 rfl (lv_at hl 1 rfl) ?_
  refine lv_aload_n B.1 B.2.1 dX10_writePath_49 rfl (lv_at hl 1 rfl) ?_
  refine lv_iload_n B.1 B.2.1 dX10_writePath_50 rfl (lv_at hl 0 rfl) ?_
  refine retI (wc := [(mo, .inr (10, [.ref e0, .ref e1, .ref e2, .ref e3, .ref e4, .int 0, .int 0, .int 0, .ref e5, .int 0, .int 0, .int 0, .int 0, .int 0, .int 0, .int 0, .int (-1), .int 0, .int 0, .ref e6, .ref e7, .ref e8, .ref e9, .int 0, .ref e10, .ref e11, .int 0, .int 0, .ref e12, .int 4])), (e0, .inl (τ 0, 16816, .inl (S0)))]) (wr := [(e12, .inl (τ 0, 8000, .inl (g2)))]) Y [1, 0] [2] rfl rfl (by decide) (by decide) (rV (As := [.int 0]) (rest := [.ref mo]) (q0 := 1) B Y [1, 0] (by decide) rfl (k_packetsOn l D τ _ mo e0 e1 e2 e3 e4 e5 e6 e7 e8 e9 e10 e11 e12 0 0 0 0 0 0 0 0 0 0 (-1) 0 0 0 0 0 4 (S0) (rfl) 0) rfl rfl q_1926 q_1928 qp_116 q_12 q_1929 rfl rfl hd_X10_packetsOn ⟨(Nat.le_of_ble_eq_true rfl), (Nat.le_of_ble_eq_true rfl)⟩ rfl hl.1 rfl (Nat.le_of_ble_eq_true rfl) dX10_writePath_51 ⟨(Nat.le_of_ble_eq_true rfl), (Nat.le_of_ble_eq_true rfl)⟩) (fun r u H locs hw Y => ?_)
  have hw : r = 0 := hw
  subst hw
  have Y : Wd D τ s A s.heap [(e12, .inl (τ 0, 8000, .inl (g2))), (mo, .inr (10, [.ref e0, .ref e1, .ref e2, .ref e3, .ref e4, .int 0, .int 0, .int 0, .ref e5, .int 0, .int 0, .int 0, .int 0, .int 0, .int 0, .int 0, .int (-1), .int 0, .int 0, .ref e6, .ref e7, .ref e8, .ref e9, .int 0, .ref e10, .ref e11, .int 0, .int 0, .ref e12, .int 4])), (e0, .inl (τ 0, 16816, .inl (S0)))] H _ := Y
  refine retV (wc := [(mo, .inr (10, [.ref e0, .ref e1, .ref e2, .ref e3, .ref e4, .int 0, .int 0, .int 0, .ref e5, .int 0, .int 0, .int 0, .int 0, .int 0, .int 0, .int 0, .int (-1), .int 0, .int 0, .ref e6, .ref e7, .ref e8, .ref e9, .int 0, .ref e10, .ref e11, .int 0, .int 0, .ref e12, .int 4])), (e12, .inl (τ 0, 8000, .inl (g2)))]) (wr := [(e0, .inl (τ 0, 16816, .inl (S0)))]) Y [1, 0] [2] rfl rfl (by decide) (by decide) (rV (As := [.int 0]) (rest := []) (q0 := 1) B Y [1, 0] (by decide) rfl (k_writesNumber0 l D τ _ mo e0 e1 e2 e3 e4 e5 e6 e7 e8 e9 e10 e11 e12 0 0 0 0 0 0 0 0 0 0 (-1) 0 0 0 0 0 (g2)) rfl rfl q_2177 q_2179 qp_140 q_12 q_2180 rfl rfl hd_X10_writesNumber ⟨(Nat.le_of_ble_eq_true rfl), (Nat.le_of_ble_eq_true rfl)⟩ rfl hl.1 rfl (Nat.le_of_ble_eq_true rfl) dX10_writePath_54 ⟨(Nat.le_of_ble_eq_true rfl), (Nat.le_of_ble_eq_true rfl)⟩) (fun u H locs hw Y => ?_)
  obtain ⟨g3, rfl⟩ : ∃ z, z = u := ⟨_, rfl⟩
  have Y : Wd D τ s A s.heap [(e0, .inl (τ 0, 16816, .inl (S0))), (mo, .inr (10, [.ref e0, .ref e1, .ref e2, .ref e3, .ref e4, .int 0, .int 0, .int 0, .ref e5, .int 0, .int 0, .int 0, .int 0, .int 0, .int 0, .int 0, .int (-1), .int 0, .int 0, .ref e6, .ref e7, .ref e8, .ref e9, .int 0, .ref e10, .ref e11, .int 0, .int 0, .ref e12, .int 5])), (e12, .inl (τ 0, 8000, .inl (g3)))] H _ := Y
  refine lv_iinc (v := 1) (lv' := [(1, .int 1), (0, .ref mo)]) B.1 B.2.1 dX10_writePath_57 hl (k := 0) rfl (by decide) (by decide) rfl (fun ls hl => ?_)
  refine lv_goto (tgt := 12) B.1 B.2.1 dX10_writePath_60 (by decide) ?_
  refine lv_iload_n B.1 B.2.1 dX10_writePath_12 rfl (lv_at hl 0 rfl) ?_
  refine lv_aload_n B.1 B.2.1 dX10_writePath_13 rfl (lv_at hl 1 rfl) ?_
  refine gf_X10_7 B Y 1 rfl rfl dX10_writePath_14 ?_
  refine lv_iconst (v := 0) B.1 B.2.1 dX10_writePath_17 (by decide) ?_
  refine t_iald (v := 1) (j := 0) B Y 0 rfl (by decide) (by decide) (Nat.le_of_ble_eq_true rfl) rfl dX10_writePath_18 ?_
  refine lv_icmp_ge (tgt := 63) B.1 B.2.1 dX10_writePath_19 (by decide) (fun _ => ?_) (fun h => absurd (by decide) h)
  refine lv_aload_n B.1 B.2.1 dX10_writePath_63 rfl (lv_at hl 1 rfl) ?_
  refine gf_X10_496 B Y 1 rfl rfl dX10_writePath_64 ?_
  exact endI B hr hlk Y (lsI [0, 0, 0, 0, 0, 0, 0, 0, 0, 0, (-1), 0, 0, 0, 0, 0, 5]) ⟨rfl, rfl⟩ [1] (by decide) rfl (Nat.le_of_ble_eq_true rfl) (Nat.le_of_ble_eq_true rfl) dX10_writePath_67

set_option maxHeartbeats 4000000 in
set_option maxRecDepth 100000 in
theorem k_begins (l : Launch) (D : va_G) (τ : Nat → ClassId) (sz : Nat) (mo e0 e1 e2 e3 e4 e5 e6 e7 e8 e9 e10 e11 e12 : Nat) (i0 i1 i2 i3 i4 i5 i6 i7 i8 i9 i10 i11 i12 i13 i14 i15 i16 : Int32) : Met l yX10_begins (Cond.code yX10_begins cX10_begins 1 none :: wALL) { frames := 0, cells := 0, slots := 0, locals := 0 } (Pw D τ [(mo, .inr (10, [.ref e0, .ref e1, .ref e2, .ref e3, .ref e4, .int i0, .int i1, .int i2, .ref e5, .int i3, .int i4, .int i5, .int i6, .int i7, .int i8, .int i9, .int i10, .int i11, .int i12, .ref e6, .ref e7, .ref e8, .ref e9, .int i13, .ref e10, .ref e11, .int i14, .int i15, .ref e12, .int i16]))] sz [.ref mo]) (va_Qv (fun (_ : Unit) => True) (Bw D (va_A [(mo, .inr (10, [.ref e0, .ref e1, .ref e2, .ref e3, .ref e4, .int i0, .int i1, .int i2, .ref e5, .int i3, .int i4, .int i5, .int i6, .int i7, .int i8, .int i9, .int i10, .int i11, .int i12, .ref e6, .ref e7, .ref e8, .ref e9, .int i13, .ref e10, .ref e11, .int i14, .int i15, .ref e12, .int i16]))] sz) (fun (_ : Unit) => [(mo, .inr (10, [.ref e0, .ref e1, .ref e2, .ref e3, .ref e4, .int i0, .int i1, .int i2, .ref e5, .int i3, .int 0, .int 0, .int i6, .int 0, .int (-1), .int i9, .int i10, .int i11, .int i12, .ref e6, .ref e7, .ref e8, .ref e9, .int i13, .ref e10, .ref e11, .int i14, .int i15, .ref e12, .int i16]))])) (va_A [(mo, .inr (10, [.ref e0, .ref e1, .ref e2, .ref e3, .ref e4, .int i0, .int i1, .int i2, .ref e5, .int i3, .int i4, .int i5, .int i6, .int i7, .int i8, .int i9, .int i10, .int i11, .int i12, .ref e6, .ref e7, .ref e8, .ref e9, .int i13, .ref e10, .ref e11, .int i14, .int i15, .ref e12, .int i16]))] sz)) 0 0 (va_A [(mo, .inr (10, [.ref e0, .ref e1, .ref e2, .ref e3, .ref e4, .int i0, .int i1, .int i2, .ref e5, .int i3, .int i4, .int i5, .int i6, .int i7, .int i8, .int i9, .int i10, .int i11, .int i12, .ref e6, .ref e7, .ref e8, .ref e9, .int i13, .ref e10, .ref e11, .int i14, .int i15, .ref e12, .int i16]))] sz) := by
  refine bodyW (by decide) (Nat.le_of_ble_eq_true rfl) (fun p e s m below meth c ls B hr hlk hin hsz Y hl => ?_)
  have hl : lv_has ls 1 [(0, .ref mo)] := hl
  have B : CallFix p m c cX10_begins 1 s _ wALL RX10 := B
  generalize va_A [(mo, .inr (10, [.ref e0, .ref e1, .ref e2, .ref e3, .ref e4, .int i0, .int i1, .int i2, .ref e5, .int i3, .int i4, .int i5, .int i6, .int i7, .int i8, .int i9, .int i10, .int i11, .int i12, .ref e6, .ref e7, .ref e8, .ref e9, .int i13, .ref e10, .ref e11, .int i14, .int i15, .ref e12, .int i16]))] sz = A at Y ⊢
  refine lv_aload_n B.1 B.2.1 dX10_begins_0 rfl (lv_at hl 0 rfl) ?_
  refine lv_iconst (v := 0) B.1 B.2.1 dX10_begins_1 (by decide) ?_
  refine pf_X10_208 (ws' := [(mo, .inr (10, [.ref e0, .ref e1, .ref e2, .ref e3, .ref e4, .int i0, .int i1, .int i2, .ref e5, .int i3, .int 0, .int i5, .int i6, .int i7, .int i8, .int i9, .int i10, .int i11, .int i12, .ref e6, .ref e7, .ref e8, .ref e9, .int i13, .ref e10, .ref e11, .int i14, .int i15, .ref e12, .int i16]))]) B Y 0 rfl (Nat.le_of_ble_eq_true rfl) rfl dX10_begins_2 (fun H locs Y => ?_)
  refine lv_aload_n B.1 B.2.1 dX10_begins_5 rfl (lv_at hl 0 rfl) ?_
  refine lv_iconst (v := 0) B.1 B.2.1 dX10_begins_6 (by decide) ?_
  refine pf_X10_214 (ws' := [(mo, .inr (10, [.ref e0, .ref e1, .ref e2, .ref e3, .ref e4, .int i0, .int i1, .int i2, .ref e5, .int i3, .int 0, .int 0, .int i6, .int i7, .int i8, .int i9, .int i10, .int i11, .int i12, .ref e6, .ref e7, .ref e8, .ref e9, .int i13, .ref e10, .ref e11, .int i14, .int i15, .ref e12, .int i16]))]) B Y 0 rfl (Nat.le_of_ble_eq_true rfl) rfl dX10_begins_7 (fun H locs Y => ?_)
  refine lv_aload_n B.1 B.2.1 dX10_begins_10 rfl (lv_at hl 0 rfl) ?_
  refine lv_iconst (v := 0) B.1 B.2.1 dX10_begins_11 (by decide) ?_
  refine pf_X10_217 (ws' := [(mo, .inr (10, [.ref e0, .ref e1, .ref e2, .ref e3, .ref e4, .int i0, .int i1, .int i2, .ref e5, .int i3, .int 0, .int 0, .int i6, .int 0, .int i8, .int i9, .int i10, .int i11, .int i12, .ref e6, .ref e7, .ref e8, .ref e9, .int i13, .ref e10, .ref e11, .int i14, .int i15, .ref e12, .int i16]))]) B Y 0 rfl (Nat.le_of_ble_eq_true rfl) rfl dX10_begins_12 (fun H locs Y => ?_)
  refine lv_aload_n B.1 B.2.1 dX10_begins_15 rfl (lv_at hl 0 rfl) ?_
  refine lv_iconst (v := (-1)) B.1 B.2.1 dX10_begins_16 (by decide) ?_
  refine pf_X10_220 (ws' := [(mo, .inr (10, [.ref e0, .ref e1, .ref e2, .ref e3, .ref e4, .int i0, .int i1, .int i2, .ref e5, .int i3, .int 0, .int 0, .int i6, .int 0, .int (-1), .int i9, .int i10, .int i11, .int i12, .ref e6, .ref e7, .ref e8, .ref e9, .int i13, .ref e10, .ref e11, .int i14, .int i15, .ref e12, .int i16]))]) B Y 0 rfl (Nat.le_of_ble_eq_true rfl) rfl dX10_begins_17 (fun H locs Y => ?_)
  exact endV B hr hlk Y () trivial [0] (by decide) rfl (Nat.le_of_ble_eq_true rfl) (Nat.le_of_ble_eq_true rfl) dX10_begins_20

set_option maxHeartbeats 4000000 in
set_option maxRecDepth 100000 in
theorem k_byteAt10 (l : Launch) (D : va_G) (τ : Nat → ClassId) (sz : Nat) (mo e0 e1 e2 e3 e4 e5 e6 e7 e8 e9 e10 e11 e12 : Nat) (i0 i1 i2 i4 i5 i6 i7 i8 i9 i10 i11 i12 i13 i14 i15 i16 : Int32) : Met l yX10_byteAt (Cond.code yX10_byteAt cX10_byteAt 2 (some .int) :: wALL) { frames := 0, cells := 0, slots := 0, locals := 0 } (Pw D τ [(mo, .inr (10, [.ref e0, .ref e1, .ref e2, .ref e3, .ref e4, .int i0, .int i1, .int i2, .ref e5, .int 0, .int i4, .int i5, .int i6, .int i7, .int i8, .int i9, .int i10, .int i11, .int i12, .ref e6, .ref e7, .ref e8, .ref e9, .int i13, .ref e10, .ref e11, .int i14, .int i15, .ref e12, .int i16]))] sz [.ref mo, .int 0]) (va_Qi (fun (r : Int32) (_ : Unit) => r = (-1)) (Bw D (va_A [(mo, .inr (10, [.ref e0, .ref e1, .ref e2, .ref e3, .ref e4, .int i0, .int i1, .int i2, .ref e5, .int 0, .int i4, .int i5, .int i6, .int i7, .int i8, .int i9, .int i10, .int i11, .int i12, .ref e6, .ref e7, .ref e8, .ref e9, .int i13, .ref e10, .ref e11, .int i14, .int i15, .ref e12, .int i16]))] sz) (fun (_ : Unit) => [(mo, .inr (10, [.ref e0, .ref e1, .ref e2, .ref e3, .ref e4, .int i0, .int i1, .int i2, .ref e5, .int 0, .int i4, .int i5, .int i6, .int i7, .int i8, .int i9, .int i10, .int i11, .int i12, .ref e6, .ref e7, .ref e8, .ref e9, .int i13, .ref e10, .ref e11, .int i14, .int i15, .ref e12, .int i16]))])) (va_A [(mo, .inr (10, [.ref e0, .ref e1, .ref e2, .ref e3, .ref e4, .int i0, .int i1, .int i2, .ref e5, .int 0, .int i4, .int i5, .int i6, .int i7, .int i8, .int i9, .int i10, .int i11, .int i12, .ref e6, .ref e7, .ref e8, .ref e9, .int i13, .ref e10, .ref e11, .int i14, .int i15, .ref e12, .int i16]))] sz)) 0 0 (va_A [(mo, .inr (10, [.ref e0, .ref e1, .ref e2, .ref e3, .ref e4, .int i0, .int i1, .int i2, .ref e5, .int 0, .int i4, .int i5, .int i6, .int i7, .int i8, .int i9, .int i10, .int i11, .int i12, .ref e6, .ref e7, .ref e8, .ref e9, .int i13, .ref e10, .ref e11, .int i14, .int i15, .ref e12, .int i16]))] sz) := by
  refine bodyW (by decide) (Nat.le_of_ble_eq_true rfl) (fun p e s m below meth c ls B hr hlk hin hsz Y hl => ?_)
  have hl : lv_has ls 2 [(0, .ref mo), (1, .int 0)] := hl
  have B : CallFix p m c cX10_byteAt 2 s _ wALL RX10 := B
  generalize va_A [(mo, .inr (10, [.ref e0, .ref e1, .ref e2, .ref e3, .ref e4, .int i0, .int i1, .int i2, .ref e5, .int 0, .int i4, .int i5, .int i6, .int i7, .int i8, .int i9, .int i10, .int i11, .int i12, .ref e6, .ref e7, .ref e8, .ref e9, .int i13, .ref e10, .ref e11, .int i14, .int i15, .ref e12, .int i16]))] sz = A at Y ⊢
  refine lv_iload_n B.1 B.2.1 dX10_byteAt_0 rfl (lv_at hl 1 rfl) ?_
  refine lv_aload_n B.1 B.2.1 dX10_byteAt_1 rfl (lv_at hl 0 rfl) ?_
  refine gf_X10_198 B Y 0 rfl rfl dX10_byteAt_2 ?_
  refine lv_icmp_ge (tgt := 17) B.1 B.2.1 dX10_byteAt_5 (by decide) (fun _ => ?_) (fun h => absurd (by decide) h)
  refine lv_iconst (v := (-1)) B.1 B.2.1 dX10_byteAt_17 (by decide) ?_
  exact endI B hr hlk Y () rfl [0] (by decide) rfl (Nat.le_of_ble_eq_true rfl) (Nat.le_of_ble_eq_true rfl) dX10_byteAt_18

set_option maxHeartbeats 4000000 in
set_option maxRecDepth 100000 in
theorem k_next (l : Launch) (D : va_G) (τ : Nat → ClassId) (sz : Nat) (mo e0 e1 e2 e3 e4 e5 e6 e7 e8 e9 e10 e11 e12 : Nat) (i0 i1 i2 i5 i6 i7 i8 i9 i10 i11 i12 i13 i14 i15 i16 : Int32) : Met l yX10_next (Cond.code yX10_next cX10_next 1 (some .int) :: wALL) { frames := 1, cells := 0, slots := 0, locals := 21 } (Pw D τ [(mo, .inr (10, [.ref e0, .ref e1, .ref e2, .ref e3, .ref e4, .int i0, .int i1, .int i2, .ref e5, .int 0, .int 0, .int i5, .int i6, .int i7, .int i8, .int i9, .int i10, .int i11, .int i12, .ref e6, .ref e7, .ref e8, .ref e9, .int i13, .ref e10, .ref e11, .int i14, .int i15, .ref e12, .int i16]))] sz [.ref mo]) (va_Qi (fun (r : Int32) (_ : Unit) => r = (-1)) (Bw D (va_A [(mo, .inr (10, [.ref e0, .ref e1, .ref e2, .ref e3, .ref e4, .int i0, .int i1, .int i2, .ref e5, .int 0, .int 0, .int i5, .int i6, .int i7, .int i8, .int i9, .int i10, .int i11, .int i12, .ref e6, .ref e7, .ref e8, .ref e9, .int i13, .ref e10, .ref e11, .int i14, .int i15, .ref e12, .int i16]))] sz) (fun (_ : Unit) => [(mo, .inr (10, [.ref e0, .ref e1, .ref e2, .ref e3, .ref e4, .int i0, .int i1, .int i2, .ref e5, .int 0, .int 0, .int 0, .int i6, .int i7, .int i8, .int i9, .int i10, .int i11, .int i12, .ref e6, .ref e7, .ref e8, .ref e9, .int i13, .ref e10, .ref e11, .int i14, .int i15, .ref e12, .int i16]))])) (va_A [(mo, .inr (10, [.ref e0, .ref e1, .ref e2, .ref e3, .ref e4, .int i0, .int i1, .int i2, .ref e5, .int 0, .int 0, .int i5, .int i6, .int i7, .int i8, .int i9, .int i10, .int i11, .int i12, .ref e6, .ref e7, .ref e8, .ref e9, .int i13, .ref e10, .ref e11, .int i14, .int i15, .ref e12, .int i16]))] sz)) 0 0 (va_A [(mo, .inr (10, [.ref e0, .ref e1, .ref e2, .ref e3, .ref e4, .int i0, .int i1, .int i2, .ref e5, .int 0, .int 0, .int i5, .int i6, .int i7, .int i8, .int i9, .int i10, .int i11, .int i12, .ref e6, .ref e7, .ref e8, .ref e9, .int i13, .ref e10, .ref e11, .int i14, .int i15, .ref e12, .int i16]))] sz) := by
  refine bodyW (by decide) (Nat.le_of_ble_eq_true rfl) (fun p e s m below meth c ls B hr hlk hin hsz Y hl => ?_)
  have hl : lv_has ls 1 [(0, .ref mo)] := hl
  have B : CallFix p m c cX10_next 1 s _ wALL RX10 := B
  generalize va_A [(mo, .inr (10, [.ref e0, .ref e1, .ref e2, .ref e3, .ref e4, .int i0, .int i1, .int i2, .ref e5, .int 0, .int 0, .int i5, .int i6, .int i7, .int i8, .int i9, .int i10, .int i11, .int i12, .ref e6, .ref e7, .ref e8, .ref e9, .int i13, .ref e10, .ref e11, .int i14, .int i15, .ref e12, .int i16]))] sz = A at Y ⊢
  refine lv_aload_n B.1 B.2.1 dX10_next_0 rfl (lv_at hl 0 rfl) ?_
  refine lv_aload_n B.1 B.2.1 dX10_next_1 rfl (lv_at hl 0 rfl) ?_
  refine gf_X10_208 B Y 0 rfl rfl dX10_next_2 ?_
  refine retI (wc := [(mo, .inr (10, [.ref e0, .ref e1, .ref e2, .ref e3, .ref e4, .int i0, .int i1, .int i2, .ref e5, .int 0, .int 0, .int i5, .int i6, .int i7, .int i8, .int i9, .int i10, .int i11, .int i12, .ref e6, .ref e7, .ref e8, .ref e9, .int i13, .ref e10, .ref e11, .int i14, .int i15, .ref e12, .int i16]))]) (wr := []) Y [0] [] rfl rfl (by decide) (by decide) (rV (As := [.int 0]) (rest := []) (q0 := 0) B Y [0] (by decide) rfl (k_byteAt10 l D τ _ mo e0 e1 e2 e3 e4 e5 e6 e7 e8 e9 e10 e11 e12 i0 i1 i2 0 i5 i6 i7 i8 i9 i10 i11 i12 i13 i14 i15 i16) rfl rfl q_1628 q_1630 qp_52 q_12 q_1631 rfl rfl hd_X10_byteAt ⟨(Nat.le_of_ble_eq_true rfl), (Nat.le_of_ble_eq_true rfl)⟩ rfl hl.1 rfl (Nat.le_of_ble_eq_true rfl) dX10_next_5 ⟨(Nat.le_of_ble_eq_true rfl), (Nat.le_of_ble_eq_true rfl)⟩) (fun r u H locs hw Y => ?_)
  have hw : r = (-1) := hw
  subst hw
  have Y : Wd D τ s A s.heap [(mo, .inr (10, [.ref e0, .ref e1, .ref e2, .ref e3, .ref e4, .int i0, .int i1, .int i2, .ref e5, .int 0, .int 0, .int i5, .int i6, .int i7, .int i8, .int i9, .int i10, .int i11, .int i12, .ref e6, .ref e7, .ref e8, .ref e9, .int i13, .ref e10, .ref e11, .int i14, .int i15, .ref e12, .int i16]))] H _ := Y
  refine lv_bipush (v := 32) B.1 B.2.1 dX10_next_8 (by decide) ?_
  refine lv_icmp_ne (tgt := 26) B.1 B.2.1 dX10_next_10 (by decide) (fun _ => ?_) (fun h => absurd h (by decide))
  refine lv_aload_n B.1 B.2.1 dX10_next_26 rfl (lv_at hl 0 rfl) ?_
  refine lv_aload_n B.1 B.2.1 dX10_next_27 rfl (lv_at hl 0 rfl) ?_
  refine gf_X10_208 B Y 0 rfl rfl dX10_next_28 ?_
  refine pf_X10_214 (ws' := [(mo, .inr (10, [.ref e0, .ref e1, .ref e2, .ref e3, .ref e4, .int i0, .int i1, .int i2, .ref e5, .int 0, .int 0, .int 0, .int i6, .int i7, .int i8, .int i9, .int i10, .int i11, .int i12, .ref e6, .ref e7, .ref e8, .ref e9, .int i13, .ref e10, .ref e11, .int i14, .int i15, .ref e12, .int i16]))]) B Y 0 rfl (Nat.le_of_ble_eq_true rfl) rfl dX10_next_31 (fun H locs Y => ?_)
  refine lv_aload_n B.1 B.2.1 dX10_next_34 rfl (lv_at hl 0 rfl) ?_
  refine lv_aload_n B.1 B.2.1 dX10_next_35 rfl (lv_at hl 0 rfl) ?_
  refine gf_X10_208 B Y 0 rfl rfl dX10_next_36 ?_
  refine retI (wc := [(mo, .inr (10, [.ref e0, .ref e1, .ref e2, .ref e3, .ref e4, .int i0, .int i1, .int i2, .ref e5, .int 0, .int 0, .int 0, .int i6, .int i7, .int i8, .int i9, .int i10, .int i11, .int i12, .ref e6, .ref e7, .ref e8, .ref e9, .int i13, .ref e10, .ref e11, .int i14, .int i15, .ref e12, .int i16]))]) (wr := []) Y [0] [] rfl rfl (by decide) (by decide) (rV (As := [.int 0]) (rest := []) (q0 := 0) B Y [0] (by decide) rfl (k_byteAt10 l D τ _ mo e0 e1 e2 e3 e4 e5 e6 e7 e8 e9 e10 e11 e12 i0 i1 i2 0 0 i6 i7 i8 i9 i10 i11 i12 i13 i14 i15 i16) rfl rfl q_1628 q_1630 qp_52 q_12 q_1631 rfl rfl hd_X10_byteAt ⟨(Nat.le_of_ble_eq_true rfl), (Nat.le_of_ble_eq_true rfl)⟩ rfl hl.1 rfl (Nat.le_of_ble_eq_true rfl) dX10_next_39 ⟨(Nat.le_of_ble_eq_true rfl), (Nat.le_of_ble_eq_true rfl)⟩) (fun r u H locs hw Y => ?_)
  have hw : r = (-1) := hw
  subst hw
  have Y : Wd D τ s A s.heap [(mo, .inr (10, [.ref e0, .ref e1, .ref e2, .ref e3, .ref e4, .int i0, .int i1, .int i2, .ref e5, .int 0, .int 0, .int 0, .int i6, .int i7, .int i8, .int i9, .int i10, .int i11, .int i12, .ref e6, .ref e7, .ref e8, .ref e9, .int i13, .ref e10, .ref e11, .int i14, .int i15, .ref e12, .int i16]))] H _ := Y
  exact endI B hr hlk Y () rfl [0] (by decide) rfl (Nat.le_of_ble_eq_true rfl) (Nat.le_of_ble_eq_true rfl) dX10_next_42

set_option maxHeartbeats 4000000 in
set_option maxRecDepth 100000 in
theorem k_takes (l : Launch) (D : va_G) (τ : Nat → ClassId) (sz : Nat) (mo e0 e1 e2 e3 e4 e5 e6 e7 e8 e9 e10 e11 e12 : Nat) (i0 i1 i2 i5 i6 i8 i9 i10 i11 i12 i13 i14 i15 i16 : Int32) (sr : Nat) : Met l yX10_takes (Cond.code yX10_takes cX10_takes 5 (some .boolean) :: wALL) { frames := 2, cells := 0, slots := 0, locals := 41 } (Pw D τ [(mo, .inr (10, [.ref e0, .ref e1, .ref e2, .ref e3, .ref e4, .int i0, .int i1, .int i2, .ref e5, .int 0, .int 0, .int i5, .int i6, .int 0, .int i8, .int i9, .int i10, .int i11, .int i12, .ref e6, .ref e7, .ref e8, .ref e9, .int i13, .ref e10, .ref e11, .int i14, .int i15, .ref e12, .int i16]))] sz [.ref mo, .ref sr]) (va_Qi (fun (r : Int32) (_ : Unit) => r = 0) (Bw D (va_A [(mo, .inr (10, [.ref e0, .ref e1, .ref e2, .ref e3, .ref e4, .int i0, .int i1, .int i2, .ref e5, .int 0, .int 0, .int i5, .int i6, .int 0, .int i8, .int i9, .int i10, .int i11, .int i12, .ref e6, .ref e7, .ref e8, .ref e9, .int i13, .ref e10, .ref e11, .int i14, .int i15, .ref e12, .int i16]))] sz) (fun (_ : Unit) => [(mo, .inr (10, [.ref e0, .ref e1, .ref e2, .ref e3, .ref e4, .int i0, .int i1, .int i2, .ref e5, .int 0, .int 0, .int 0, .int i6, .int 0, .int i8, .int i9, .int i10, .int i11, .int i12, .ref e6, .ref e7, .ref e8, .ref e9, .int i13, .ref e10, .ref e11, .int i14, .int i15, .ref e12, .int i16]))])) (va_A [(mo, .inr (10, [.ref e0, .ref e1, .ref e2, .ref e3, .ref e4, .int i0, .int i1, .int i2, .ref e5, .int 0, .int 0, .int i5, .int i6, .int 0, .int i8, .int i9, .int i10, .int i11, .int i12, .ref e6, .ref e7, .ref e8, .ref e9, .int i13, .ref e10, .ref e11, .int i14, .int i15, .ref e12, .int i16]))] sz)) 0 0 (va_A [(mo, .inr (10, [.ref e0, .ref e1, .ref e2, .ref e3, .ref e4, .int i0, .int i1, .int i2, .ref e5, .int 0, .int 0, .int i5, .int i6, .int 0, .int i8, .int i9, .int i10, .int i11, .int i12, .ref e6, .ref e7, .ref e8, .ref e9, .int i13, .ref e10, .ref e11, .int i14, .int i15, .ref e12, .int i16]))] sz) := by
  refine bodyW (by decide) (Nat.le_of_ble_eq_true rfl) (fun p e s m below meth c ls B hr hlk hin hsz Y hl => ?_)
  have hl : lv_has ls 5 [(0, .ref mo), (1, .ref sr)] := hl
  have B : CallFix p m c cX10_takes 5 s _ wALL RX10 := B
  generalize va_A [(mo, .inr (10, [.ref e0, .ref e1, .ref e2, .ref e3, .ref e4, .int i0, .int i1, .int i2, .ref e5, .int 0, .int 0, .int i5, .int i6, .int 0, .int i8, .int i9, .int i10, .int i11, .int i12, .ref e6, .ref e7, .ref e8, .ref e9, .int i13, .ref e10, .ref e11, .int i14, .int i15, .ref e12, .int i16]))] sz = A at Y ⊢
  refine lv_aload_n B.1 B.2.1 dX10_takes_0 rfl (lv_at hl 0 rfl) ?_
  refine gf_X10_217 B Y 0 rfl rfl dX10_takes_1 ?_
  refine lv_if_eq (tgt := 9) B.1 B.2.1 dX10_takes_4 (by decide) (fun _ => ?_) (fun h => absurd (by decide) h)
  refine lv_aload_n B.1 B.2.1 dX10_takes_9 rfl (lv_at hl 0 rfl) ?_
  refine retI (wc := [(mo, .inr (10, [.ref e0, .ref e1, .ref e2, .ref e3, .ref e4, .int i0, .int i1, .int i2, .ref e5, .int 0, .int 0, .int i5, .int i6, .int 0, .int i8, .int i9, .int i10, .int i11, .int i12, .ref e6, .ref e7, .ref e8, .ref e9, .int i13, .ref e10, .ref e11, .int i14, .int i15, .ref e12, .int i16]))]) (wr := []) Y [0] [] rfl rfl (by decide) (by decide) (rV (As := []) (rest := []) (q0 := 0) B Y [0] (by decide) rfl (k_next l D τ _ mo e0 e1 e2 e3 e4 e5 e6 e7 e8 e9 e10 e11 e12 i0 i1 i2 i5 i6 0 i8 i9 i10 i11 i12 i13 i14 i15 i16) rfl rfl q_1624 q_1626 qp_51 q_12 q_1627 rfl rfl hd_X10_next ⟨(Nat.le_of_ble_eq_true rfl), (Nat.le_of_ble_eq_true rfl)⟩ rfl hl.1 rfl (Nat.le_of_ble_eq_true rfl) dX10_takes_10 ⟨(Nat.le_of_ble_eq_true rfl), (Nat.le_of_ble_eq_true rfl)⟩) (fun r u H locs hw Y => ?_)
  have hw : r = (-1) := hw
  subst hw
  have Y : Wd D τ s A s.heap [(mo, .inr (10, [.ref e0, .ref e1, .ref e2, .ref e3, .ref e4, .int i0, .int i1, .int i2, .ref e5, .int 0, .int 0, .int 0, .int i6, .int 0, .int i8, .int i9, .int i10, .int i11, .int i12, .ref e6, .ref e7, .ref e8, .ref e9, .int i13, .ref e10, .ref e11, .int i14, .int i15, .ref e12, .int i16]))] H _ := Y
  refine lv_istore_n (lv' := [(2, .int (-1)), (0, .ref mo), (1, .ref sr)]) B.1 B.2.1 dX10_takes_13 rfl hl (by decide) rfl (fun ls hl => ?_)
  refine lv_iconst (v := 0) B.1 B.2.1 dX10_takes_14 (by decide) ?_
  refine lv_istore_n (lv' := [(3, .int 0), (2, .int (-1)), (0, .ref mo), (1, .ref sr)]) B.1 B.2.1 dX10_takes_15 rfl hl (by decide) rfl (fun ls hl => ?_)
  refine lv_aload_n B.1 B.2.1 dX10_takes_16 rfl (lv_at hl 2 rfl) ?_
  refine lv_aload_n B.1 B.2.1 dX10_takes_17 rfl (lv_at hl 2 rfl) ?_
  refine gf_X10_214 B Y 0 rfl rfl dX10_takes_18 ?_
  refine lv_iload_n B.1 B.2.1 dX10_takes_21 rfl (lv_at hl 0 rfl) ?_
  refine lv_iadd B.1 B.2.1 dX10_takes_22 ?_
  refine lv_cv (v := 0) (by decide) ?_
  refine retI (wc := [(mo, .inr (10, [.ref e0, .ref e1, .ref e2, .ref e3, .ref e4, .int i0, .int i1, .int i2, .ref e5, .int 0, .int 0, .int 0, .int i6, .int 0, .int i8, .int i9, .int i10, .int i11, .int i12, .ref e6, .ref e7, .ref e8, .ref e9, .int i13, .ref e10, .ref e11, .int i14, .int i15, .ref e12, .int i16]))]) (wr := []) Y [0] [] rfl rfl (by decide) (by decide) (rV (As := [.int 0]) (rest := []) (q0 := 0) B Y [0] (by decide) rfl (k_byteAt10 l D τ _ mo e0 e1 e2 e3 e4 e5 e6 e7 e8 e9 e10 e11 e12 i0 i1 i2 0 0 i6 0 i8 i9 i10 i11 i12 i13 i14 i15 i16) rfl rfl q_1628 q_1630 qp_52 q_12 q_1631 rfl rfl hd_X10_byteAt ⟨(Nat.le_of_ble_eq_true rfl), (Nat.le_of_ble_eq_true rfl)⟩ rfl hl.1 rfl (Nat.le_of_ble_eq_true rfl) dX10_takes_23 ⟨(Nat.le_of_ble_eq_true rfl), (Nat.le_of_ble_eq_true rfl)⟩) (fun r u H locs hw Y => ?_)
  have hw : r = (-1) := hw
  subst hw
  have Y : Wd D τ s A s.heap [(mo, .inr (10, [.ref e0, .ref e1, .ref e2, .ref e3, .ref e4, .int i0, .int i1, .int i2, .ref e5, .int 0, .int 0, .int 0, .int i6, .int 0, .int i8, .int i9, .int i10, .int i11, .int i12, .ref e6, .ref e7, .ref e8, .ref e9, .int i13, .ref e10, .ref e11, .int i14, .int i15, .ref e12, .int i16]))] H _ := Y
  refine lv_i2l B.1 B.2.1 dX10_takes_26 rfl ?_
  refine lv_ldc2 B.1 B.2.1 B.2.2.2.1 (B.2.2.2.2 _ q_1632) dX10_takes_27 ?_
  refine t_cvL (v := Int32.toInt64 97) (by decide) ?_
  refine lv_ldc2 B.1 B.2.1 B.2.2.2.1 (B.2.2.2.2 _ q_1633) dX10_takes_30 ?_
  refine t_cvL (v := Int32.toInt64 122) (by decide) ?_
  refine retI (wc := []) (wr := [(mo, .inr (10, [.ref e0, .ref e1, .ref e2, .ref e3, .ref e4, .int i0, .int i1, .int i2, .ref e5, .int 0, .int 0, .int 0, .int i6, .int 0, .int i8, .int i9, .int i10, .int i11, .int i12, .ref e6, .ref e7, .ref e8, .ref e9, .int i13, .ref e10, .ref e11, .int i14, .int i15, .ref e12, .int i16]))]) Y [] [0] rfl rfl (by decide) (by decide) (rS (As := [.long (Int32.toInt64 (-1)), .long (Int32.toInt64 97), .long (Int32.toInt64 122)]) (rest := []) B Y [] (by decide) rfl (k_in l D τ _ (-1) 97 122) q_1593 q_1594 q_12 q_1595 rfl rfl hd_X10_in ⟨(Nat.le_of_ble_eq_true rfl), (Nat.le_of_ble_eq_true rfl)⟩ rfl hl.1 rfl (Nat.le_of_ble_eq_true rfl) dX10_takes_33 ⟨(Nat.le_of_ble_eq_true rfl), (Nat.le_of_ble_eq_true rfl)⟩) (fun r u H locs hw Y => ?_)
  have hw : r = 0 := hw.2 (by decide)
  subst hw
  have Y : Wd D τ s A s.heap [(mo, .inr (10, [.ref e0, .ref e1, .ref e2, .ref e3, .ref e4, .int i0, .int i1, .int i2, .ref e5, .int 0, .int 0, .int 0, .int i6, .int 0, .int i8, .int i9, .int i10, .int i11, .int i12, .ref e6, .ref e7, .ref e8, .ref e9, .int i13, .ref e10, .ref e11, .int i14, .int i15, .ref e12, .int i16]))] H _ := Y
  refine lv_if_eq (tgt := 45) B.1 B.2.1 dX10_takes_36 (by decide) (fun _ => ?_) (fun h => absurd (by decide) h)
  refine lv_iload_n B.1 B.2.1 dX10_takes_45 rfl (lv_at hl 1 rfl) ?_
  refine lv_if_lt (tgt := 57) B.1 B.2.1 dX10_takes_46 (by decide) (fun _ => ?_) (fun h => absurd (by decide) h)
  refine lv_iconst (v := 0) B.1 B.2.1 dX10_takes_57 (by decide) ?_
  exact endZ B hr hlk Y (by decide) () rfl [0] (by decide) rfl (Nat.le_of_ble_eq_true rfl) (Nat.le_of_ble_eq_true rfl) dX10_takes_58

set_option maxHeartbeats 4000000 in
set_option maxRecDepth 100000 in
theorem k_fails (l : Launch) (D : va_G) (τ : Nat → ClassId) (sz : Nat) (mo e0 e1 e2 e3 e4 e5 e6 e7 e8 e9 e10 e11 e12 : Nat) (i0 i1 i2 i3 i4 i6 i8 i9 i10 i11 i12 i13 i14 i15 i16 : Int32) (y : Int32) : Met l yX10_fails (Cond.code yX10_fails cX10_fails 2 none :: wALL) { frames := 0, cells := 0, slots := 0, locals := 0 } (Pw D τ [(mo, .inr (10, [.ref e0, .ref e1, .ref e2, .ref e3, .ref e4, .int i0, .int i1, .int i2, .ref e5, .int i3, .int i4, .int 0, .int i6, .int 0, .int i8, .int i9, .int i10, .int i11, .int i12, .ref e6, .ref e7, .ref e8, .ref e9, .int i13, .ref e10, .ref e11, .int i14, .int i15, .ref e12, .int i16]))] sz [.ref mo, .int y]) (va_Qv (fun (_ : Unit) => True) (Bw D (va_A [(mo, .inr (10, [.ref e0, .ref e1, .ref e2, .ref e3, .ref e4, .int i0, .int i1, .int i2, .ref e5, .int i3, .int i4, .int 0, .int i6, .int 0, .int i8, .int i9, .int i10, .int i11, .int i12, .ref e6, .ref e7, .ref e8, .ref e9, .int i13, .ref e10, .ref e11, .int i14, .int i15, .ref e12, .int i16]))] sz) (fun (_ : Unit) => [(mo, .inr (10, [.ref e0, .ref e1, .ref e2, .ref e3, .ref e4, .int i0, .int i1, .int i2, .ref e5, .int i3, .int i4, .int 0, .int i6, .int y, .int 0, .int i9, .int i10, .int i11, .int i12, .ref e6, .ref e7, .ref e8, .ref e9, .int i13, .ref e10, .ref e11, .int i14, .int i15, .ref e12, .int i16]))])) (va_A [(mo, .inr (10, [.ref e0, .ref e1, .ref e2, .ref e3, .ref e4, .int i0, .int i1, .int i2, .ref e5, .int i3, .int i4, .int 0, .int i6, .int 0, .int i8, .int i9, .int i10, .int i11, .int i12, .ref e6, .ref e7, .ref e8, .ref e9, .int i13, .ref e10, .ref e11, .int i14, .int i15, .ref e12, .int i16]))] sz)) 0 0 (va_A [(mo, .inr (10, [.ref e0, .ref e1, .ref e2, .ref e3, .ref e4, .int i0, .int i1, .int i2, .ref e5, .int i3, .int i4, .int 0, .int i6, .int 0, .int i8, .int i9, .int i10, .int i11, .int i12, .ref e6, .ref e7, .ref e8, .ref e9, .int i13, .ref e10, .ref e11, .int i14, .int i15, .ref e12, .int i16]))] sz) := by
  refine bodyW (by decide) (Nat.le_of_ble_eq_true rfl) (fun p e s m below meth c ls B hr hlk hin hsz Y hl => ?_)
  have hl : lv_has ls 2 [(0, .ref mo), (1, .int y)] := hl
  have B : CallFix p m c cX10_fails 2 s _ wALL RX10 := B
  generalize va_A [(mo, .inr (10, [.ref e0, .ref e1, .ref e2, .ref e3, .ref e4, .int i0, .int i1, .int i2, .ref e5, .int i3, .int i4, .int 0, .int i6, .int 0, .int i8, .int i9, .int i10, .int i11, .int i12, .ref e6, .ref e7, .ref e8, .ref e9, .int i13, .ref e10, .ref e11, .int i14, .int i15, .ref e12, .int i16]))] sz = A at Y ⊢
  refine lv_aload_n B.1 B.2.1 dX10_fails_0 rfl (lv_at hl 0 rfl) ?_
  refine gf_X10_217 B Y 0 rfl rfl dX10_fails_1 ?_
  refine lv_if_eq (tgt := 8) B.1 B.2.1 dX10_fails_4 (by decide) (fun _ => ?_) (fun h => absurd (by decide) h)
  refine lv_aload_n B.1 B.2.1 dX10_fails_8 rfl (lv_at hl 0 rfl) ?_
  refine lv_iload_n B.1 B.2.1 dX10_fails_9 rfl (lv_at hl 1 rfl) ?_
  refine pf_X10_217 (ws' := [(mo, .inr (10, [.ref e0, .ref e1, .ref e2, .ref e3, .ref e4, .int i0, .int i1, .int i2, .ref e5, .int i3, .int i4, .int 0, .int i6, .int y, .int i8, .int i9, .int i10, .int i11, .int i12, .ref e6, .ref e7, .ref e8, .ref e9, .int i13, .ref e10, .ref e11, .int i14, .int i15, .ref e12, .int i16]))]) B Y 0 rfl (Nat.le_of_ble_eq_true rfl) rfl dX10_fails_10 (fun H locs Y => ?_)
  refine lv_aload_n B.1 B.2.1 dX10_fails_13 rfl (lv_at hl 0 rfl) ?_
  refine lv_aload_n B.1 B.2.1 dX10_fails_14 rfl (lv_at hl 0 rfl) ?_
  refine gf_X10_214 B Y 0 rfl rfl dX10_fails_15 ?_
  refine pf_X10_220 (ws' := [(mo, .inr (10, [.ref e0, .ref e1, .ref e2, .ref e3, .ref e4, .int i0, .int i1, .int i2, .ref e5, .int i3, .int i4, .int 0, .int i6, .int y, .int 0, .int i9, .int i10, .int i11, .int i12, .ref e6, .ref e7, .ref e8, .ref e9, .int i13, .ref e10, .ref e11, .int i14, .int i15, .ref e12, .int i16]))]) B Y 0 rfl (Nat.le_of_ble_eq_true rfl) rfl dX10_fails_18 (fun H locs Y => ?_)
  exact endV B hr hlk Y () trivial [0] (by decide) rfl (Nat.le_of_ble_eq_true rfl) (Nat.le_of_ble_eq_true rfl) dX10_fails_21

set_option maxHeartbeats 4000000 in
set_option maxRecDepth 100000 in
theorem k_must0 (l : Launch) (D : va_G) (τ : Nat → ClassId) (sz : Nat) (mo e0 e1 e2 e3 e4 e5 e6 e7 e8 e9 e10 e11 e12 : Nat) (i0 i1 i2 i3 i4 i6 i8 i9 i10 i11 i12 i13 i14 i15 i16 : Int32) (y : Int32) : Met l yX10_must (Cond.code yX10_must cX10_must 3 none :: wALL) { frames := 1, cells := 0, slots := 0, locals := 21 } (Pw D τ [(mo, .inr (10, [.ref e0, .ref e1, .ref e2, .ref e3, .ref e4, .int i0, .int i1, .int i2, .ref e5, .int i3, .int i4, .int 0, .int i6, .int 0, .int i8, .int i9, .int i10, .int i11, .int i12, .ref e6, .ref e7, .ref e8, .ref e9, .int i13, .ref e10, .ref e11, .int i14, .int i15, .ref e12, .int i16]))] sz [.ref mo, .int 0, .int y]) (va_Qv (fun (_ : Unit) => True) (Bw D (va_A [(mo, .inr (10, [.ref e0, .ref e1, .ref e2, .ref e3, .ref e4, .int i0, .int i1, .int i2, .ref e5, .int i3, .int i4, .int 0, .int i6, .int 0, .int i8, .int i9, .int i10, .int i11, .int i12, .ref e6, .ref e7, .ref e8, .ref e9, .int i13, .ref e10, .ref e11, .int i14, .int i15, .ref e12, .int i16]))] sz) (fun (_ : Unit) => [(mo, .inr (10, [.ref e0, .ref e1, .ref e2, .ref e3, .ref e4, .int i0, .int i1, .int i2, .ref e5, .int i3, .int i4, .int 0, .int i6, .int y, .int 0, .int i9, .int i10, .int i11, .int i12, .ref e6, .ref e7, .ref e8, .ref e9, .int i13, .ref e10, .ref e11, .int i14, .int i15, .ref e12, .int i16]))])) (va_A [(mo, .inr (10, [.ref e0, .ref e1, .ref e2, .ref e3, .ref e4, .int i0, .int i1, .int i2, .ref e5, .int i3, .int i4, .int 0, .int i6, .int 0, .int i8, .int i9, .int i10, .int i11, .int i12, .ref e6, .ref e7, .ref e8, .ref e9, .int i13, .ref e10, .ref e11, .int i14, .int i15, .ref e12, .int i16]))] sz)) 0 0 (va_A [(mo, .inr (10, [.ref e0, .ref e1, .ref e2, .ref e3, .ref e4, .int i0, .int i1, .int i2, .ref e5, .int i3, .int i4, .int 0, .int i6, .int 0, .int i8, .int i9, .int i10, .int i11, .int i12, .ref e6, .ref e7, .ref e8, .ref e9, .int i13, .ref e10, .ref e11, .int i14, .int i15, .ref e12, .int i16]))] sz) := by
  refine bodyW (by decide) (Nat.le_of_ble_eq_true rfl) (fun p e s m below meth c ls B hr hlk hin hsz Y hl => ?_)
  have hl : lv_has ls 3 [(0, .ref mo), (1, .int 0), (2, .int y)] := hl
  have B : CallFix p m c cX10_must 3 s _ wALL RX10 := B
  generalize va_A [(mo, .inr (10, [.ref e0, .ref e1, .ref e2, .ref e3, .ref e4, .int i0, .int i1, .int i2, .ref e5, .int i3, .int i4, .int 0, .int i6, .int 0, .int i8, .int i9, .int i10, .int i11, .int i12, .ref e6, .ref e7, .ref e8, .ref e9, .int i13, .ref e10, .ref e11, .int i14, .int i15, .ref e12, .int i16]))] sz = A at Y ⊢
  refine lv_iload_n B.1 B.2.1 dX10_must_0 rfl (lv_at hl 1 rfl) ?_
  refine lv_if_ne (tgt := 9) B.1 B.2.1 dX10_must_1 (by decide) (fun h => absurd (by decide) h) (fun _ => ?_)
  refine lv_aload_n B.1 B.2.1 dX10_must_4 rfl (lv_at hl 0 rfl) ?_
  refine lv_iload_n B.1 B.2.1 dX10_must_5 rfl (lv_at hl 2 rfl) ?_
  refine retV (wc := [(mo, .inr (10, [.ref e0, .ref e1, .ref e2, .ref e3, .ref e4, .int i0, .int i1, .int i2, .ref e5, .int i3, .int i4, .int 0, .int i6, .int 0, .int i8, .int i9, .int i10, .int i11, .int i12, .ref e6, .ref e7, .ref e8, .ref e9, .int i13, .ref e10, .ref e11, .int i14, .int i15, .ref e12, .int i16]))]) (wr := []) Y [0] [] rfl rfl (by decide) (by decide) (rV (As := [.int y]) (rest := []) (q0 := 0) B Y [0] (by decide) rfl (k_fails l D τ _ mo e0 e1 e2 e3 e4 e5 e6 e7 e8 e9 e10 e11 e12 i0 i1 i2 i3 i4 i6 i8 i9 i10 i11 i12 i13 i14 i15 i16 y) rfl rfl q_1640 q_1642 qp_54 q_12 q_1643 rfl rfl hd_X10_fails ⟨(Nat.le_of_ble_eq_true rfl), (Nat.le_of_ble_eq_true rfl)⟩ rfl hl.1 rfl (Nat.le_of_ble_eq_true rfl) dX10_must_6 ⟨(Nat.le_of_ble_eq_true rfl), (Nat.le_of_ble_eq_true rfl)⟩) (fun u H locs hw Y => ?_)
  have Y : Wd D τ s A s.heap [(mo, .inr (10, [.ref e0, .ref e1, .ref e2, .ref e3, .ref e4, .int i0, .int i1, .int i2, .ref e5, .int i3, .int i4, .int 0, .int i6, .int y, .int 0, .int i9, .int i10, .int i11, .int i12, .ref e6, .ref e7, .ref e8, .ref e9, .int i13, .ref e10, .ref e11, .int i14, .int i15, .ref e12, .int i16]))] H _ := Y
  exact endV B hr hlk Y () trivial [0] (by decide) rfl (Nat.le_of_ble_eq_true rfl) (Nat.le_of_ble_eq_true rfl) dX10_must_9

set_option maxHeartbeats 4000000 in
set_option maxRecDepth 100000 in
theorem k_readsPath (l : Launch) (D : va_G) (τ : Nat → ClassId) (sz : Nat) (mo e0 e1 e2 e3 e4 e5 e6 e7 e8 e9 e10 e11 e12 : Nat) (i0 i1 i2 i5 i6 i8 i9 i10 i11 i12 i13 i14 i15 i16 : Int32) : Met l yX10_readsPath (Cond.code yX10_readsPath cX10_readsPath 1 none :: wALL) { frames := 3, cells := 0, slots := 0, locals := 65 } (Pw D τ [(mo, .inr (10, [.ref e0, .ref e1, .ref e2, .ref e3, .ref e4, .int i0, .int i1, .int i2, .ref e5, .int 0, .int 0, .int i5, .int i6, .int 0, .int i8, .int i9, .int i10, .int i11, .int i12, .ref e6, .ref e7, .ref e8, .ref e9, .int i13, .ref e10, .ref e11, .int i14, .int i15, .ref e12, .int i16]))] sz [.ref mo]) (va_Qv (fun (_ : Unit) => True) (Bw D (va_A [(mo, .inr (10, [.ref e0, .ref e1, .ref e2, .ref e3, .ref e4, .int i0, .int i1, .int i2, .ref e5, .int 0, .int 0, .int i5, .int i6, .int 0, .int i8, .int i9, .int i10, .int i11, .int i12, .ref e6, .ref e7, .ref e8, .ref e9, .int i13, .ref e10, .ref e11, .int i14, .int i15, .ref e12, .int i16]))] sz) (fun (_ : Unit) => [(mo, .inr (10, [.ref e0, .ref e1, .ref e2, .ref e3, .ref e4, .int i0, .int i1, .int i2, .ref e5, .int 0, .int 0, .int 0, .int i6, .int 1, .int 0, .int i9, .int i10, .int i11, .int i12, .ref e6, .ref e7, .ref e8, .ref e9, .int i13, .ref e10, .ref e11, .int i14, .int i15, .ref e12, .int i16]))])) (va_A [(mo, .inr (10, [.ref e0, .ref e1, .ref e2, .ref e3, .ref e4, .int i0, .int i1, .int i2, .ref e5, .int 0, .int 0, .int i5, .int i6, .int 0, .int i8, .int i9, .int i10, .int i11, .int i12, .ref e6, .ref e7, .ref e8, .ref e9, .int i13, .ref e10, .ref e11, .int i14, .int i15, .ref e12, .int i16]))] sz)) 0 0 (va_A [(mo, .inr (10, [.ref e0, .ref e1, .ref e2, .ref e3, .ref e4, .int i0, .int i1, .int i2, .ref e5, .int 0, .int 0, .int i5, .int i6, .int 0, .int i8, .int i9, .int i10, .int i11, .int i12, .ref e6, .ref e7, .ref e8, .ref e9, .int i13, .ref e10, .ref e11, .int i14, .int i15, .ref e12, .int i16]))] sz) := by
  refine bodyW (by decide) (Nat.le_of_ble_eq_true rfl) (fun p e s m below meth c ls B hr hlk hin hsz Y hl => ?_)
  have hl : lv_has ls 1 [(0, .ref mo)] := hl
  have B : CallFix p m c cX10_readsPath 1 s _ wALL RX10 := B
  generalize va_A [(mo, .inr (10, [.ref e0, .ref e1, .ref e2, .ref e3, .ref e4, .int i0, .int i1, .int i2, .ref e5, .int 0, .int 0, .int i5, .int i6, .int 0, .int i8, .int i9, .int i10, .int i11, .int i12, .ref e6, .ref e7, .ref e8, .ref e9, .int i13, .ref e10, .ref e11, .int i14, .int i15, .ref e12, .int i16]))] sz = A at Y ⊢
  refine lv_aload_n B.1 B.2.1 dX10_readsPath_0 rfl (lv_at hl 0 rfl) ?_
  refine lv_aload_n B.1 B.2.1 dX10_readsPath_1 rfl (lv_at hl 0 rfl) ?_
  obtain ⟨sr1, hsr1⟩ := Y.1.2.2.2.2.2.2.2.2 ("FragmentPathModel", 270, "link") (by decide)
  refine t_ldcwS B.1 B.2.1 B.2.2.2.1 hsr1 dX10_readsPath_2 ?_
  refine retI (wc := [(mo, .inr (10, [.ref e0, .ref e1, .ref e2, .ref e3, .ref e4, .int i0, .int i1, .int i2, .ref e5, .int 0, .int 0, .int i5, .int i6, .int 0, .int i8, .int i9, .int i10, .int i11, .int i12, .ref e6, .ref e7, .ref e8, .ref e9, .int i13, .ref e10, .ref e11, .int i14, .int i15, .ref e12, .int i16]))]) (wr := []) Y [0] [] rfl rfl (by decide) (by decide) (rV (As := [.ref sr1]) (rest := [.ref mo]) (q0 := 0) B Y [0] (by decide) rfl (k_takes l D τ _ mo e0 e1 e2 e3 e4 e5 e6 e7 e8 e9 e10 e11 e12 i0 i1 i2 i5 i6 i8 i9 i10 i11 i12 i13 i14 i15 i16 sr1) rfl rfl q_1620 q_1622 qp_50 q_12 q_1623 rfl rfl hd_X10_takes ⟨(Nat.le_of_ble_eq_true rfl), (Nat.le_of_ble_eq_true rfl)⟩ rfl hl.1 rfl (Nat.le_of_ble_eq_true rfl) dX10_readsPath_5 ⟨(Nat.le_of_ble_eq_true rfl), (Nat.le_of_ble_eq_true rfl)⟩) (fun r u H locs hw Y => ?_)
  have hw : r = 0 := hw
  subst hw
  have Y : Wd D τ s A s.heap [(mo, .inr (10, [.ref e0, .ref e1, .ref e2, .ref e3, .ref e4, .int i0, .int i1, .int i2, .ref e5, .int 0, .int 0, .int 0, .int i6, .int 0, .int i8, .int i9, .int i10, .int i11, .int i12, .ref e6, .ref e7, .ref e8, .ref e9, .int i13, .ref e10, .ref e11, .int i14, .int i15, .ref e12, .int i16]))] H _ := Y
  refine lv_iconst (v := 1) B.1 B.2.1 dX10_readsPath_8 (by decide) ?_
  refine retV (wc := [(mo, .inr (10, [.ref e0, .ref e1, .ref e2, .ref e3, .ref e4, .int i0, .int i1, .int i2, .ref e5, .int 0, .int 0, .int 0, .int i6, .int 0, .int i8, .int i9, .int i10, .int i11, .int i12, .ref e6, .ref e7, .ref e8, .ref e9, .int i13, .ref e10, .ref e11, .int i14, .int i15, .ref e12, .int i16]))]) (wr := []) Y [0] [] rfl rfl (by decide) (by decide) (rV (As := [.int 0, .int 1]) (rest := []) (q0 := 0) B Y [0] (by decide) rfl (k_must0 l D τ _ mo e0 e1 e2 e3 e4 e5 e6 e7 e8 e9 e10 e11 e12 i0 i1 i2 0 0 i6 i8 i9 i10 i11 i12 i13 i14 i15 i16 1) rfl rfl q_1636 q_1638 qp_53 q_12 q_1639 rfl rfl hd_X10_must ⟨(Nat.le_of_ble_eq_true rfl), (Nat.le_of_ble_eq_true rfl)⟩ rfl hl.1 rfl (Nat.le_of_ble_eq_true rfl) dX10_readsPath_9 ⟨(Nat.le_of_ble_eq_true rfl), (Nat.le_of_ble_eq_true rfl)⟩) (fun u H locs hw Y => ?_)
  have Y : Wd D τ s A s.heap [(mo, .inr (10, [.ref e0, .ref e1, .ref e2, .ref e3, .ref e4, .int i0, .int i1, .int i2, .ref e5, .int 0, .int 0, .int 0, .int i6, .int 1, .int 0, .int i9, .int i10, .int i11, .int i12, .ref e6, .ref e7, .ref e8, .ref e9, .int i13, .ref e10, .ref e11, .int i14, .int i15, .ref e12, .int i16]))] H _ := Y
  refine lv_aload_n B.1 B.2.1 dX10_readsPath_12 rfl (lv_at hl 0 rfl) ?_
  refine gf_X10_217 B Y 0 rfl rfl dX10_readsPath_13 ?_
  refine lv_if_ne (tgt := 23) B.1 B.2.1 dX10_readsPath_16 (by decide) (fun _ => ?_) (fun h => absurd h (by decide))
  refine lv_aload_n B.1 B.2.1 dX10_readsPath_23 rfl (lv_at hl 0 rfl) ?_
  refine gf_X10_217 B Y 0 rfl rfl dX10_readsPath_24 ?_
  refine lv_if_ne (tgt := 78) B.1 B.2.1 dX10_readsPath_27 (by decide) (fun _ => ?_) (fun h => absurd h (by decide))
  exact endV B hr hlk Y () trivial [0] (by decide) rfl (Nat.le_of_ble_eq_true rfl) (Nat.le_of_ble_eq_true rfl) dX10_readsPath_78

set_option maxHeartbeats 4000000 in
set_option maxRecDepth 100000 in
theorem k_ends0 (l : Launch) (D : va_G) (τ : Nat → ClassId) (sz : Nat) (mo e0 e1 e2 e3 e4 e5 e6 e7 e8 e9 e10 e11 e12 : Nat) (i0 i1 i2 i3 i4 i5 i6 i8 i9 i10 i11 i12 i13 i14 i15 i16 : Int32) : Met l yX10_ends_ (Cond.code yX10_ends_ cX10_ends_ 1 (some .boolean) :: wALL) { frames := 0, cells := 0, slots := 0, locals := 0 } (Pw D τ [(mo, .inr (10, [.ref e0, .ref e1, .ref e2, .ref e3, .ref e4, .int i0, .int i1, .int i2, .ref e5, .int i3, .int i4, .int i5, .int i6, .int 0, .int i8, .int i9, .int i10, .int i11, .int i12, .ref e6, .ref e7, .ref e8, .ref e9, .int i13, .ref e10, .ref e11, .int i14, .int i15, .ref e12, .int i16]))] sz [.ref mo]) (va_Qi (fun (r : Int32) (_ : Unit) => r = 1) (Bw D (va_A [(mo, .inr (10, [.ref e0, .ref e1, .ref e2, .ref e3, .ref e4, .int i0, .int i1, .int i2, .ref e5, .int i3, .int i4, .int i5, .int i6, .int 0, .int i8, .int i9, .int i10, .int i11, .int i12, .ref e6, .ref e7, .ref e8, .ref e9, .int i13, .ref e10, .ref e11, .int i14, .int i15, .ref e12, .int i16]))] sz) (fun (_ : Unit) => [(mo, .inr (10, [.ref e0, .ref e1, .ref e2, .ref e3, .ref e4, .int i0, .int i1, .int i2, .ref e5, .int 0, .int i4, .int i5, .int i6, .int 0, .int i8, .int 0, .int i8, .int i11, .int i12, .ref e6, .ref e7, .ref e8, .ref e9, .int i13, .ref e10, .ref e11, .int i14, .int i15, .ref e12, .int i16]))])) (va_A [(mo, .inr (10, [.ref e0, .ref e1, .ref e2, .ref e3, .ref e4, .int i0, .int i1, .int i2, .ref e5, .int i3, .int i4, .int i5, .int i6, .int 0, .int i8, .int i9, .int i10, .int i11, .int i12, .ref e6, .ref e7, .ref e8, .ref e9, .int i13, .ref e10, .ref e11, .int i14, .int i15, .ref e12, .int i16]))] sz)) 0 0 (va_A [(mo, .inr (10, [.ref e0, .ref e1, .ref e2, .ref e3, .ref e4, .int i0, .int i1, .int i2, .ref e5, .int i3, .int i4, .int i5, .int i6, .int 0, .int i8, .int i9, .int i10, .int i11, .int i12, .ref e6, .ref e7, .ref e8, .ref e9, .int i13, .ref e10, .ref e11, .int i14, .int i15, .ref e12, .int i16]))] sz) := by
  refine bodyW (by decide) (Nat.le_of_ble_eq_true rfl) (fun p e s m below meth c ls B hr hlk hin hsz Y hl => ?_)
  have hl : lv_has ls 1 [(0, .ref mo)] := hl
  have B : CallFix p m c cX10_ends_ 1 s _ wALL RX10 := B
  generalize va_A [(mo, .inr (10, [.ref e0, .ref e1, .ref e2, .ref e3, .ref e4, .int i0, .int i1, .int i2, .ref e5, .int i3, .int i4, .int i5, .int i6, .int 0, .int i8, .int i9, .int i10, .int i11, .int i12, .ref e6, .ref e7, .ref e8, .ref e9, .int i13, .ref e10, .ref e11, .int i14, .int i15, .ref e12, .int i16]))] sz = A at Y ⊢
  refine lv_aload_n B.1 B.2.1 dX10_ends__0 rfl (lv_at hl 0 rfl) ?_
  refine lv_iconst (v := 0) B.1 B.2.1 dX10_ends__1 (by decide) ?_
  refine pf_X10_198 (ws' := [(mo, .inr (10, [.ref e0, .ref e1, .ref e2, .ref e3, .ref e4, .int i0, .int i1, .int i2, .ref e5, .int 0, .int i4, .int i5, .int i6, .int 0, .int i8, .int i9, .int i10, .int i11, .int i12, .ref e6, .ref e7, .ref e8, .ref e9, .int i13, .ref e10, .ref e11, .int i14, .int i15, .ref e12, .int i16]))]) B Y 0 rfl (Nat.le_of_ble_eq_true rfl) rfl dX10_ends__2 (fun H locs Y => ?_)
  refine lv_aload_n B.1 B.2.1 dX10_ends__5 rfl (lv_at hl 0 rfl) ?_
  refine lv_aload_n B.1 B.2.1 dX10_ends__6 rfl (lv_at hl 0 rfl) ?_
  refine gf_X10_217 B Y 0 rfl rfl dX10_ends__7 ?_
  refine pf_X10_252 (ws' := [(mo, .inr (10, [.ref e0, .ref e1, .ref e2, .ref e3, .ref e4, .int i0, .int i1, .int i2, .ref e5, .int 0, .int i4, .int i5, .int i6, .int 0, .int i8, .int 0, .int i10, .int i11, .int i12, .ref e6, .ref e7, .ref e8, .ref e9, .int i13, .ref e10, .ref e11, .int i14, .int i15, .ref e12, .int i16]))]) B Y 0 rfl (Nat.le_of_ble_eq_true rfl) rfl dX10_ends__10 (fun H locs Y => ?_)
  refine lv_aload_n B.1 B.2.1 dX10_ends__13 rfl (lv_at hl 0 rfl) ?_
  refine lv_aload_n B.1 B.2.1 dX10_ends__14 rfl (lv_at hl 0 rfl) ?_
  refine gf_X10_220 B Y 0 rfl rfl dX10_ends__15 ?_
  refine pf_X10_29 (ws' := [(mo, .inr (10, [.ref e0, .ref e1, .ref e2, .ref e3, .ref e4, .int i0, .int i1, .int i2, .ref e5, .int 0, .int i4, .int i5, .int i6, .int 0, .int i8, .int 0, .int i8, .int i11, .int i12, .ref e6, .ref e7, .ref e8, .ref e9, .int i13, .ref e10, .ref e11, .int i14, .int i15, .ref e12, .int i16]))]) B Y 0 rfl (Nat.le_of_ble_eq_true rfl) rfl dX10_ends__18 (fun H locs Y => ?_)
  refine lv_aload_n B.1 B.2.1 dX10_ends__21 rfl (lv_at hl 0 rfl) ?_
  refine gf_X10_217 B Y 0 rfl rfl dX10_ends__22 ?_
  refine lv_if_ne (tgt := 32) B.1 B.2.1 dX10_ends__25 (by decide) (fun h => absurd (by decide) h) (fun _ => ?_)
  refine lv_iconst (v := 1) B.1 B.2.1 dX10_ends__28 (by decide) ?_
  refine lv_goto (tgt := 33) B.1 B.2.1 dX10_ends__29 (by decide) ?_
  exact endZ B hr hlk Y (by decide) () rfl [0] (by decide) rfl (Nat.le_of_ble_eq_true rfl) (Nat.le_of_ble_eq_true rfl) dX10_ends__33

set_option maxHeartbeats 4000000 in
set_option maxRecDepth 100000 in
theorem k_ends1 (l : Launch) (D : va_G) (τ : Nat → ClassId) (sz : Nat) (mo e0 e1 e2 e3 e4 e5 e6 e7 e8 e9 e10 e11 e12 : Nat) (i0 i1 i2 i3 i4 i5 i6 i8 i9 i10 i11 i12 i13 i14 i15 i16 : Int32) : Met l yX10_ends_ (Cond.code yX10_ends_ cX10_ends_ 1 (some .boolean) :: wALL) { frames := 0, cells := 0, slots := 0, locals := 0 } (Pw D τ [(mo, .inr (10, [.ref e0, .ref e1, .ref e2, .ref e3, .ref e4, .int i0, .int i1, .int i2, .ref e5, .int i3, .int i4, .int i5, .int i6, .int 1, .int i8, .int i9, .int i10, .int i11, .int i12, .ref e6, .ref e7, .ref e8, .ref e9, .int i13, .ref e10, .ref e11, .int i14, .int i15, .ref e12, .int i16]))] sz [.ref mo]) (va_Qi (fun (r : Int32) (_ : Unit) => r = 0) (Bw D (va_A [(mo, .inr (10, [.ref e0, .ref e1, .ref e2, .ref e3, .ref e4, .int i0, .int i1, .int i2, .ref e5, .int i3, .int i4, .int i5, .int i6, .int 1, .int i8, .int i9, .int i10, .int i11, .int i12, .ref e6, .ref e7, .ref e8, .ref e9, .int i13, .ref e10, .ref e11, .int i14, .int i15, .ref e12, .int i16]))] sz) (fun (_ : Unit) => [(mo, .inr (10, [.ref e0, .ref e1, .ref e2, .ref e3, .ref e4, .int i0, .int i1, .int i2, .ref e5, .int 0, .int i4, .int i5, .int i6, .int 1, .int i8, .int 1, .int i8, .int i11, .int i12, .ref e6, .ref e7, .ref e8, .ref e9, .int i13, .ref e10, .ref e11, .int i14, .int i15, .ref e12, .int i16]))])) (va_A [(mo, .inr (10, [.ref e0, .ref e1, .ref e2, .ref e3, .ref e4, .int i0, .int i1, .int i2, .ref e5, .int i3, .int i4, .int i5, .int i6, .int 1, .int i8, .int i9, .int i10, .int i11, .int i12, .ref e6, .ref e7, .ref e8, .ref e9, .int i13, .ref e10, .ref e11, .int i14, .int i15, .ref e12, .int i16]))] sz)) 0 0 (va_A [(mo, .inr (10, [.ref e0, .ref e1, .ref e2, .ref e3, .ref e4, .int i0, .int i1, .int i2, .ref e5, .int i3, .int i4, .int i5, .int i6, .int 1, .int i8, .int i9, .int i10, .int i11, .int i12, .ref e6, .ref e7, .ref e8, .ref e9, .int i13, .ref e10, .ref e11, .int i14, .int i15, .ref e12, .int i16]))] sz) := by
  refine bodyW (by decide) (Nat.le_of_ble_eq_true rfl) (fun p e s m below meth c ls B hr hlk hin hsz Y hl => ?_)
  have hl : lv_has ls 1 [(0, .ref mo)] := hl
  have B : CallFix p m c cX10_ends_ 1 s _ wALL RX10 := B
  generalize va_A [(mo, .inr (10, [.ref e0, .ref e1, .ref e2, .ref e3, .ref e4, .int i0, .int i1, .int i2, .ref e5, .int i3, .int i4, .int i5, .int i6, .int 1, .int i8, .int i9, .int i10, .int i11, .int i12, .ref e6, .ref e7, .ref e8, .ref e9, .int i13, .ref e10, .ref e11, .int i14, .int i15, .ref e12, .int i16]))] sz = A at Y ⊢
  refine lv_aload_n B.1 B.2.1 dX10_ends__0 rfl (lv_at hl 0 rfl) ?_
  refine lv_iconst (v := 0) B.1 B.2.1 dX10_ends__1 (by decide) ?_
  refine pf_X10_198 (ws' := [(mo, .inr (10, [.ref e0, .ref e1, .ref e2, .ref e3, .ref e4, .int i0, .int i1, .int i2, .ref e5, .int 0, .int i4, .int i5, .int i6, .int 1, .int i8, .int i9, .int i10, .int i11, .int i12, .ref e6, .ref e7, .ref e8, .ref e9, .int i13, .ref e10, .ref e11, .int i14, .int i15, .ref e12, .int i16]))]) B Y 0 rfl (Nat.le_of_ble_eq_true rfl) rfl dX10_ends__2 (fun H locs Y => ?_)
  refine lv_aload_n B.1 B.2.1 dX10_ends__5 rfl (lv_at hl 0 rfl) ?_
  refine lv_aload_n B.1 B.2.1 dX10_ends__6 rfl (lv_at hl 0 rfl) ?_
  refine gf_X10_217 B Y 0 rfl rfl dX10_ends__7 ?_
  refine pf_X10_252 (ws' := [(mo, .inr (10, [.ref e0, .ref e1, .ref e2, .ref e3, .ref e4, .int i0, .int i1, .int i2, .ref e5, .int 0, .int i4, .int i5, .int i6, .int 1, .int i8, .int 1, .int i10, .int i11, .int i12, .ref e6, .ref e7, .ref e8, .ref e9, .int i13, .ref e10, .ref e11, .int i14, .int i15, .ref e12, .int i16]))]) B Y 0 rfl (Nat.le_of_ble_eq_true rfl) rfl dX10_ends__10 (fun H locs Y => ?_)
  refine lv_aload_n B.1 B.2.1 dX10_ends__13 rfl (lv_at hl 0 rfl) ?_
  refine lv_aload_n B.1 B.2.1 dX10_ends__14 rfl (lv_at hl 0 rfl) ?_
  refine gf_X10_220 B Y 0 rfl rfl dX10_ends__15 ?_
  refine pf_X10_29 (ws' := [(mo, .inr (10, [.ref e0, .ref e1, .ref e2, .ref e3, .ref e4, .int i0, .int i1, .int i2, .ref e5, .int 0, .int i4, .int i5, .int i6, .int 1, .int i8, .int 1, .int i8, .int i11, .int i12, .ref e6, .ref e7, .ref e8, .ref e9, .int i13, .ref e10, .ref e11, .int i14, .int i15, .ref e12, .int i16]))]) B Y 0 rfl (Nat.le_of_ble_eq_true rfl) rfl dX10_ends__18 (fun H locs Y => ?_)
  refine lv_aload_n B.1 B.2.1 dX10_ends__21 rfl (lv_at hl 0 rfl) ?_
  refine gf_X10_217 B Y 0 rfl rfl dX10_ends__22 ?_
  refine lv_if_ne (tgt := 32) B.1 B.2.1 dX10_ends__25 (by decide) (fun _ => ?_) (fun h => absurd h (by decide))
  refine lv_iconst (v := 0) B.1 B.2.1 dX10_ends__32 (by decide) ?_
  exact endZ B hr hlk Y (by decide) () rfl [0] (by decide) rfl (Nat.le_of_ble_eq_true rfl) (Nat.le_of_ble_eq_true rfl) dX10_ends__33

set_option maxHeartbeats 4000000 in
set_option maxRecDepth 100000 in
theorem r_readText (l : Launch) (D : va_G) (τ : Nat → ClassId) (sz : Nat) (mo e0 e1 e2 e3 e4 e5 e6 e7 e8 e9 e10 e11 e12 : Nat) : Met l yX10_readText (Cond.code yX10_readText cX10_readText 3 (some .int) :: wALL) { frames := 4, cells := 0, slots := 0, locals := 85 } (Pw D τ [(mo, .inr (10, [.ref e0, .ref e1, .ref e2, .ref e3, .ref e4, .int 0, .int 0, .int 0, .ref e5, .int 0, .int 0, .int 0, .int 0, .int 0, .int 0, .int 0, .int (-1), .int 0, .int 0, .ref e6, .ref e7, .ref e8, .ref e9, .int 0, .ref e10, .ref e11, .int 0, .int 0, .ref e12, .int 0])), (e0, .inl (τ 0, 16816, .inl (S0))), (e2, .inl (τ 0, 16816, .inl (fun _ => 0)))] sz [.ref mo]) (va_Qi (fun (r : Int32) (u : Nat → Int32) => u 1 = 1) (Bw D (va_A [(mo, .inr (10, [.ref e0, .ref e1, .ref e2, .ref e3, .ref e4, .int 0, .int 0, .int 0, .ref e5, .int 0, .int 0, .int 0, .int 0, .int 0, .int 0, .int 0, .int (-1), .int 0, .int 0, .ref e6, .ref e7, .ref e8, .ref e9, .int 0, .ref e10, .ref e11, .int 0, .int 0, .ref e12, .int 0])), (e0, .inl (τ 0, 16816, .inl (S0))), (e2, .inl (τ 0, 16816, .inl (fun _ => 0)))] sz) (fun (u : Nat → Int32) => [(mo, .inr (10, [.ref e0, .ref e1, .ref e2, .ref e3, .ref e4, .int (u 0), .int (u 1), .int (u 2), .ref e5, .int (u 3), .int (u 4), .int (u 5), .int (u 6), .int (u 7), .int (u 8), .int (u 9), .int (u 10), .int (u 11), .int (u 12), .ref e6, .ref e7, .ref e8, .ref e9, .int (u 13), .ref e10, .ref e11, .int (u 14), .int (u 15), .ref e12, .int (u 16)]))])) (va_A [(mo, .inr (10, [.ref e0, .ref e1, .ref e2, .ref e3, .ref e4, .int 0, .int 0, .int 0, .ref e5, .int 0, .int 0, .int 0, .int 0, .int 0, .int 0, .int 0, .int (-1), .int 0, .int 0, .ref e6, .ref e7, .ref e8, .ref e9, .int 0, .ref e10, .ref e11, .int 0, .int 0, .ref e12, .int 0])), (e0, .inl (τ 0, 16816, .inl (S0))), (e2, .inl (τ 0, 16816, .inl (fun _ => 0)))] sz)) 0 0 (va_A [(mo, .inr (10, [.ref e0, .ref e1, .ref e2, .ref e3, .ref e4, .int 0, .int 0, .int 0, .ref e5, .int 0, .int 0, .int 0, .int 0, .int 0, .int 0, .int 0, .int (-1), .int 0, .int 0, .ref e6, .ref e7, .ref e8, .ref e9, .int 0, .ref e10, .ref e11, .int 0, .int 0, .ref e12, .int 0])), (e0, .inl (τ 0, 16816, .inl (S0))), (e2, .inl (τ 0, 16816, .inl (fun _ => 0)))] sz) := by
  refine bodyW (by decide) (Nat.le_of_ble_eq_true rfl) (fun p e s m below meth c ls B hr hlk hin hsz Y hl => ?_)
  have hl : lv_has ls 3 [(0, .ref mo)] := hl
  have B : CallFix p m c cX10_readText 3 s _ wALL RX10 := B
  generalize va_A [(mo, .inr (10, [.ref e0, .ref e1, .ref e2, .ref e3, .ref e4, .int 0, .int 0, .int 0, .ref e5, .int 0, .int 0, .int 0, .int 0, .int 0, .int 0, .int 0, .int (-1), .int 0, .int 0, .ref e6, .ref e7, .ref e8, .ref e9, .int 0, .ref e10, .ref e11, .int 0, .int 0, .ref e12, .int 0])), (e0, .inl (τ 0, 16816, .inl (S0))), (e2, .inl (τ 0, 16816, .inl (fun _ => 0)))] sz = A at Y ⊢
  refine lv_aload_n B.1 B.2.1 dX10_readText_0 rfl (lv_at hl 0 rfl) ?_
  refine gf_X10_7 B Y 0 rfl rfl dX10_readText_1 ?_
  refine lv_iconst (v := 0) B.1 B.2.1 dX10_readText_4 (by decide) ?_
  refine lv_aload_n B.1 B.2.1 dX10_readText_5 rfl (lv_at hl 0 rfl) ?_
  refine gf_X10_16 B Y 0 rfl rfl dX10_readText_6 ?_
  refine lv_iconst (v := 0) B.1 B.2.1 dX10_readText_9 (by decide) ?_
  refine retV (wc := [(e0, .inl (τ 0, 16816, .inl (S0))), (e2, .inl (τ 0, 16816, .inl (fun _ => 0)))]) (wr := [(mo, .inr (10, [.ref e0, .ref e1, .ref e2, .ref e3, .ref e4, .int 0, .int 0, .int 0, .ref e5, .int 0, .int 0, .int 0, .int 0, .int 0, .int 0, .int 0, .int (-1), .int 0, .int 0, .ref e6, .ref e7, .ref e8, .ref e9, .int 0, .ref e10, .ref e11, .int 0, .int 0, .ref e12, .int 0]))]) Y [1, 2] [0] rfl rfl (by decide) (by decide) (rS (As := [.ref e0, .int 0, .ref e2, .int 0]) (rest := []) B Y [1, 2] (by decide) rfl (k_copies l D τ _ e0 e2 16816 (S0) (fun _ => 0) (by decide) (by decide)) q_1608 q_1609 q_12 q_1610 rfl rfl hd_X10_copies ⟨(Nat.le_of_ble_eq_true rfl), (Nat.le_of_ble_eq_true rfl)⟩ rfl hl.1 rfl (Nat.le_of_ble_eq_true rfl) dX10_readText_10 ⟨(Nat.le_of_ble_eq_true rfl), (Nat.le_of_ble_eq_true rfl)⟩) (fun u H locs hw Y => ?_)
  obtain ⟨g1, rfl⟩ : ∃ z, z = u := ⟨_, rfl⟩
  have Y : Wd D τ s A s.heap [(mo, .inr (10, [.ref e0, .ref e1, .ref e2, .ref e3, .ref e4, .int 0, .int 0, .int 0, .ref e5, .int 0, .int 0, .int 0, .int 0, .int 0, .int 0, .int 0, .int (-1), .int 0, .int 0, .ref e6, .ref e7, .ref e8, .ref e9, .int 0, .ref e10, .ref e11, .int 0, .int 0, .ref e12, .int 0])), (e0, .inl (τ 0, 16816, .inl (S0))), (e2, .inl (τ 0, 16816, .inl (g1)))] H _ := Y
  refine lv_aload_n B.1 B.2.1 dX10_readText_13 rfl (lv_at hl 0 rfl) ?_
  refine retV (wc := [(mo, .inr (10, [.ref e0, .ref e1, .ref e2, .ref e3, .ref e4, .int 0, .int 0, .int 0, .ref e5, .int 0, .int 0, .int 0, .int 0, .int 0, .int 0, .int 0, .int (-1), .int 0, .int 0, .ref e6, .ref e7, .ref e8, .ref e9, .int 0, .ref e10, .ref e11, .int 0, .int 0, .ref e12, .int 0])), (e0, .inl (τ 0, 16816, .inl (S0)))]) (wr := [(e2, .inl (τ 0, 16816, .inl (g1)))]) Y [0, 1] [2] rfl rfl (by decide) (by decide) (rV (As := []) (rest := []) (q0 := 0) B Y [0, 1] (by decide) rfl (k_clearsG l D τ _ mo e0 e1 e2 e3 e4 e5 e6 e7 e8 e9 e10 e11 e12 0 0 0 0 0 0 0 0 0 0 (-1) 0 0 0 0 0 0 (S0)) rfl rfl q_1474 q_1476 qp_44 q_12 q_1477 rfl rfl hd_X10_clears ⟨(Nat.le_of_ble_eq_true rfl), (Nat.le_of_ble_eq_true rfl)⟩ rfl hl.1 rfl (Nat.le_of_ble_eq_true rfl) dX10_readText_14 ⟨(Nat.le_of_ble_eq_true rfl), (Nat.le_of_ble_eq_true rfl)⟩) (fun u H locs hw Y => ?_)
  obtain ⟨g2, rfl⟩ : ∃ z, z = u := ⟨_, rfl⟩
  have Y : Wd D τ s A s.heap [(e2, .inl (τ 0, 16816, .inl (g1))), (mo, .inr (10, [.ref e0, .ref e1, .ref e2, .ref e3, .ref e4, .int 0, .int 0, .int 0, .ref e5, .int 0, .int 0, .int 0, .int 0, .int 0, .int 0, .int 0, .int (-1), .int 0, .int 0, .ref e6, .ref e7, .ref e8, .ref e9, .int 0, .ref e10, .ref e11, .int 0, .int 0, .ref e12, .int 0])), (e0, .inl (τ 0, 16816, .inl (g2)))] H _ := Y
  refine lv_aload_n B.1 B.2.1 dX10_readText_17 rfl (lv_at hl 0 rfl) ?_
  refine lv_iconst (v := 0) B.1 B.2.1 dX10_readText_18 (by decide) ?_
  refine pf_X10_258 (ws' := [(e2, .inl (τ 0, 16816, .inl (g1))), (mo, .inr (10, [.ref e0, .ref e1, .ref e2, .ref e3, .ref e4, .int 0, .int 0, .int 0, .ref e5, .int 0, .int 0, .int 0, .int 0, .int 0, .int 0, .int 0, .int (-1), .int 0, .int 0, .ref e6, .ref e7, .ref e8, .ref e9, .int 0, .ref e10, .ref e11, .int 0, .int 0, .ref e12, .int 0])), (e0, .inl (τ 0, 16816, .inl (g2)))]) B Y 1 rfl (Nat.le_of_ble_eq_true rfl) rfl dX10_readText_19 (fun H locs Y => ?_)
  refine lv_aload_n B.1 B.2.1 dX10_readText_22 rfl (lv_at hl 0 rfl) ?_
  refine lv_iconst (v := 0) B.1 B.2.1 dX10_readText_23 (by decide) ?_
  refine pf_X10_261 (ws' := [(e2, .inl (τ 0, 16816, .inl (g1))), (mo, .inr (10, [.ref e0, .ref e1, .ref e2, .ref e3, .ref e4, .int 0, .int 0, .int 0, .ref e5, .int 0, .int 0, .int 0, .int 0, .int 0, .int 0, .int 0, .int (-1), .int 0, .int 0, .ref e6, .ref e7, .ref e8, .ref e9, .int 0, .ref e10, .ref e11, .int 0, .int 0, .ref e12, .int 0])), (e0, .inl (τ 0, 16816, .inl (g2)))]) B Y 1 rfl (Nat.le_of_ble_eq_true rfl) rfl dX10_readText_24 (fun H locs Y => ?_)
  refine lv_aload_n B.1 B.2.1 dX10_readText_27 rfl (lv_at hl 0 rfl) ?_
  refine retV (wc := [(mo, .inr (10, [.ref e0, .ref e1, .ref e2, .ref e3, .ref e4, .int 0, .int 0, .int 0, .ref e5, .int 0, .int 0, .int 0, .int 0, .int 0, .int 0, .int 0, .int (-1), .int 0, .int 0, .ref e6, .ref e7, .ref e8, .ref e9, .int 0, .ref e10, .ref e11, .int 0, .int 0, .ref e12, .int 0]))]) (wr := [(e2, .inl (τ 0, 16816, .inl (g1))), (e0, .inl (τ 0, 16816, .inl (g2)))]) Y [1] [0, 2] rfl rfl (by decide) (by decide) (rV (As := []) (rest := []) (q0 := 1) B Y [1] (by decide) rfl (k_begins l D τ _ mo e0 e1 e2 e3 e4 e5 e6 e7 e8 e9 e10 e11 e12 0 0 0 0 0 0 0 0 0 0 (-1) 0 0 0 0 0 0) rfl rfl q_1611 q_1613 qp_48 q_12 q_1614 rfl rfl hd_X10_begins ⟨(Nat.le_of_ble_eq_true rfl), (Nat.le_of_ble_eq_true rfl)⟩ rfl hl.1 rfl (Nat.le_of_ble_eq_true rfl) dX10_readText_28 ⟨(Nat.le_of_ble_eq_true rfl), (Nat.le_of_ble_eq_true rfl)⟩) (fun u H locs hw Y => ?_)
  have Y : Wd D τ s A s.heap [(e2, .inl (τ 0, 16816, .inl (g1))), (e0, .inl (τ 0, 16816, .inl (g2))), (mo, .inr (10, [.ref e0, .ref e1, .ref e2, .ref e3, .ref e4, .int 0, .int 0, .int 0, .ref e5, .int 0, .int 0, .int 0, .int 0, .int 0, .int (-1), .int 0, .int (-1), .int 0, .int 0, .ref e6, .ref e7, .ref e8, .ref e9, .int 0, .ref e10, .ref e11, .int 0, .int 0, .ref e12, .int 0]))] H _ := Y
  refine lv_aload_n B.1 B.2.1 dX10_readText_31 rfl (lv_at hl 0 rfl) ?_
  refine retV (wc := [(mo, .inr (10, [.ref e0, .ref e1, .ref e2, .ref e3, .ref e4, .int 0, .int 0, .int 0, .ref e5, .int 0, .int 0, .int 0, .int 0, .int 0, .int (-1), .int 0, .int (-1), .int 0, .int 0, .ref e6, .ref e7, .ref e8, .ref e9, .int 0, .ref e10, .ref e11, .int 0, .int 0, .ref e12, .int 0]))]) (wr := [(e2, .inl (τ 0, 16816, .inl (g1))), (e0, .inl (τ 0, 16816, .inl (g2)))]) Y [2] [0, 1] rfl rfl (by decide) (by decide) (rV (As := []) (rest := []) (q0 := 2) B Y [2] (by decide) rfl (k_readsPath l D τ _ mo e0 e1 e2 e3 e4 e5 e6 e7 e8 e9 e10 e11 e12 0 0 0 0 0 (-1) 0 (-1) 0 0 0 0 0 0) rfl rfl q_1615 q_1617 qp_49 q_12 q_1618 rfl rfl hd_X10_readsPath ⟨(Nat.le_of_ble_eq_true rfl), (Nat.le_of_ble_eq_true rfl)⟩ rfl hl.1 rfl (Nat.le_of_ble_eq_true rfl) dX10_readText_32 ⟨(Nat.le_of_ble_eq_true rfl), (Nat.le_of_ble_eq_true rfl)⟩) (fun u H locs hw Y => ?_)
  have Y : Wd D τ s A s.heap [(e2, .inl (τ 0, 16816, .inl (g1))), (e0, .inl (τ 0, 16816, .inl (g2))), (mo, .inr (10, [.ref e0, .ref e1, .ref e2, .ref e3, .ref e4, .int 0, .int 0, .int 0, .ref e5, .int 0, .int 0, .int 0, .int 0, .int 1, .int 0, .int 0, .int (-1), .int 0, .int 0, .ref e6, .ref e7, .ref e8, .ref e9, .int 0, .ref e10, .ref e11, .int 0, .int 0, .ref e12, .int 0]))] H _ := Y
  refine lv_aload_n B.1 B.2.1 dX10_readText_35 rfl (lv_at hl 0 rfl) ?_
  refine lv_aload_n B.1 B.2.1 dX10_readText_36 rfl (lv_at hl 0 rfl) ?_
  refine retI (wc := [(mo, .inr (10, [.ref e0, .ref e1, .ref e2, .ref e3, .ref e4, .int 0, .int 0, .int 0, .ref e5, .int 0, .int 0, .int 0, .int 0, .int 1, .int 0, .int 0, .int (-1), .int 0, .int 0, .ref e6, .ref e7, .ref e8, .ref e9, .int 0, .ref e10, .ref e11, .int 0, .int 0, .ref e12, .int 0]))]) (wr := [(e2, .inl (τ 0, 16816, .inl (g1))), (e0, .inl (τ 0, 16816, .inl (g2)))]) Y [2] [0, 1] rfl rfl (by decide) (by decide) (rV (As := []) (rest := [.ref mo]) (q0 := 2) B Y [2] (by decide) rfl (k_ends1 l D τ _ mo e0 e1 e2 e3 e4 e5 e6 e7 e8 e9 e10 e11 e12 0 0 0 0 0 0 0 0 0 (-1) 0 0 0 0 0 0) rfl rfl q_1670 q_1672 qp_60 q_12 q_1673 rfl rfl hd_X10_ends_ ⟨(Nat.le_of_ble_eq_true rfl), (Nat.le_of_ble_eq_true rfl)⟩ rfl hl.1 rfl (Nat.le_of_ble_eq_true rfl) dX10_readText_37 ⟨(Nat.le_of_ble_eq_true rfl), (Nat.le_of_ble_eq_true rfl)⟩) (fun r u H locs hw Y => ?_)
  have hw : r = 0 := hw
  subst hw
  have Y : Wd D τ s A s.heap [(e2, .inl (τ 0, 16816, .inl (g1))), (e0, .inl (τ 0, 16816, .inl (g2))), (mo, .inr (10, [.ref e0, .ref e1, .ref e2, .ref e3, .ref e4, .int 0, .int 0, .int 0, .ref e5, .int 0, .int 0, .int 0, .int 0, .int 1, .int 0, .int 1, .int 0, .int 0, .int 0, .ref e6, .ref e7, .ref e8, .ref e9, .int 0, .ref e10, .ref e11, .int 0, .int 0, .ref e12, .int 0]))] H _ := Y
  refine retI (wc := [(mo, .inr (10, [.ref e0, .ref e1, .ref e2, .ref e3, .ref e4, .int 0, .int 0, .int 0, .ref e5, .int 0, .int 0, .int 0, .int 0, .int 1, .int 0, .int 1, .int 0, .int 0, .int 0, .ref e6, .ref e7, .ref e8, .ref e9, .int 0, .ref e10, .ref e11, .int 0, .int 0, .ref e12, .int 0]))]) (wr := [(e2, .inl (τ 0, 16816, .inl (g1))), (e0, .inl (τ 0, 16816, .inl (g2)))]) Y [2] [0, 1] rfl rfl (by decide) (by decide) (rV (As := [.int 0]) (rest := []) (q0 := 2) B Y [2] (by decide) rfl (k_passes0 l D τ _ mo e0 e1 e2 e3 e4 e5 e6 e7 e8 e9 e10 e11 e12 0 0 0 0 0 0 0 1 0 1 0 0 0 0 0 0 0) rfl rfl q_1581 q_1583 qp_46 q_12 q_1584 rfl rfl hd_X10_passes ⟨(Nat.le_of_ble_eq_true rfl), (Nat.le_of_ble_eq_true rfl)⟩ rfl hl.1 rfl (Nat.le_of_ble_eq_true rfl) dX10_readText_40 ⟨(Nat.le_of_ble_eq_true rfl), (Nat.le_of_ble_eq_true rfl)⟩) (fun r u H locs hw Y => ?_)
  have hw : r = 0 := hw
  subst hw
  have Y : Wd D τ s A s.heap [(e2, .inl (τ 0, 16816, .inl (g1))), (e0, .inl (τ 0, 16816, .inl (g2))), (mo, .inr (10, [.ref e0, .ref e1, .ref e2, .ref e3, .ref e4, .int 0, .int 1, .int 0, .ref e5, .int 0, .int 0, .int 0, .int 0, .int 1, .int 0, .int 1, .int 0, .int 0, .int 0, .ref e6, .ref e7, .ref e8, .ref e9, .int 0, .ref e10, .ref e11, .int 0, .int 0, .ref e12, .int 0]))] H _ := Y
  refine lv_if_ne (tgt := 61) B.1 B.2.1 dX10_readText_43 (by decide) (fun h => absurd (by decide) h) (fun _ => ?_)
  refine lv_aload_n B.1 B.2.1 dX10_readText_46 rfl (lv_at hl 0 rfl) ?_
  refine gf_X10_16 B Y 2 rfl rfl dX10_readText_47 ?_
  refine lv_iconst (v := 0) B.1 B.2.1 dX10_readText_50 (by decide) ?_
  refine lv_aload_n B.1 B.2.1 dX10_readText_51 rfl (lv_at hl 0 rfl) ?_
  refine gf_X10_7 B Y 2 rfl rfl dX10_readText_52 ?_
  refine lv_iconst (v := 0) B.1 B.2.1 dX10_readText_55 (by decide) ?_
  refine retV (wc := [(e2, .inl (τ 0, 16816, .inl (g1))), (e0, .inl (τ 0, 16816, .inl (g2)))]) (wr := [(mo, .inr (10, [.ref e0, .ref e1, .ref e2, .ref e3, .ref e4, .int 0, .int 1, .int 0, .ref e5, .int 0, .int 0, .int 0, .int 0, .int 1, .int 0, .int 1, .int 0, .int 0, .int 0, .ref e6, .ref e7, .ref e8, .ref e9, .int 0, .ref e10, .ref e11, .int 0, .int 0, .ref e12, .int 0]))]) Y [0, 1] [2] rfl rfl (by decide) (by decide) (rS (As := [.ref e2, .int 0, .ref e0, .int 0]) (rest := []) B Y [0, 1] (by decide) rfl (k_copies l D τ _ e2 e0 16816 (g1) (g2) (by decide) (by decide)) q_1608 q_1609 q_12 q_1610 rfl rfl hd_X10_copies ⟨(Nat.le_of_ble_eq_true rfl), (Nat.le_of_ble_eq_true rfl)⟩ rfl hl.1 rfl (Nat.le_of_ble_eq_true rfl) dX10_readText_56 ⟨(Nat.le_of_ble_eq_true rfl), (Nat.le_of_ble_eq_true rfl)⟩) (fun u H locs hw Y => ?_)
  obtain ⟨g3, rfl⟩ : ∃ z, z = u := ⟨_, rfl⟩
  have Y : Wd D τ s A s.heap [(mo, .inr (10, [.ref e0, .ref e1, .ref e2, .ref e3, .ref e4, .int 0, .int 1, .int 0, .ref e5, .int 0, .int 0, .int 0, .int 0, .int 1, .int 0, .int 1, .int 0, .int 0, .int 0, .ref e6, .ref e7, .ref e8, .ref e9, .int 0, .ref e10, .ref e11, .int 0, .int 0, .ref e12, .int 0])), (e2, .inl (τ 0, 16816, .inl (g1))), (e0, .inl (τ 0, 16816, .inl (g3)))] H _ := Y
  refine lv_iconst (v := 0) B.1 B.2.1 dX10_readText_59 (by decide) ?_
  exact endI B hr hlk Y (lsI [0, 1, 0, 0, 0, 0, 0, 1, 0, 1, 0, 0, 0, 0, 0, 0, 0]) rfl [0] (by decide) rfl (Nat.le_of_ble_eq_true rfl) (Nat.le_of_ble_eq_true rfl) dX10_readText_60

set_option maxHeartbeats 4000000 in
set_option maxRecDepth 100000 in
theorem r_runOrders (l : Launch) (D : va_G) (τ : Nat → ClassId) (sz : Nat) (mo e0 e1 e2 e3 e4 e5 e6 e7 e8 e9 e10 e11 e12 : Nat) : Met l yX10_runOrders (Cond.code yX10_runOrders cX10_runOrders 2 (some .int) :: wALL) { frames := 2, cells := 0, slots := 0, locals := 46 } (Pw D τ [(mo, .inr (10, [.ref e0, .ref e1, .ref e2, .ref e3, .ref e4, .int 0, .int 0, .int 0, .ref e5, .int 0, .int 0, .int 0, .int 0, .int 0, .int 0, .int 0, .int (-1), .int 0, .int 0, .ref e6, .ref e7, .ref e8, .ref e9, .int 0, .ref e10, .ref e11, .int 0, .int 0, .ref e12, .int 0])), (e0, .inl (τ 0, 16816, .inl (S0))), (e4, .inl (τ 0, 134528, .inl (fun _ => 0)))] sz [.ref mo]) (va_Qi (fun (r : Int32) (u : Nat → Int32) => r = 0 ∧ u 1 = 0) (Bw D (va_A [(mo, .inr (10, [.ref e0, .ref e1, .ref e2, .ref e3, .ref e4, .int 0, .int 0, .int 0, .ref e5, .int 0, .int 0, .int 0, .int 0, .int 0, .int 0, .int 0, .int (-1), .int 0, .int 0, .ref e6, .ref e7, .ref e8, .ref e9, .int 0, .ref e10, .ref e11, .int 0, .int 0, .ref e12, .int 0])), (e0, .inl (τ 0, 16816, .inl (S0))), (e4, .inl (τ 0, 134528, .inl (fun _ => 0)))] sz) (fun (u : Nat → Int32) => [(mo, .inr (10, [.ref e0, .ref e1, .ref e2, .ref e3, .ref e4, .int (u 0), .int (u 1), .int (u 2), .ref e5, .int (u 3), .int (u 4), .int (u 5), .int (u 6), .int (u 7), .int (u 8), .int (u 9), .int (u 10), .int (u 11), .int (u 12), .ref e6, .ref e7, .ref e8, .ref e9, .int (u 13), .ref e10, .ref e11, .int (u 14), .int (u 15), .ref e12, .int (u 16)]))])) (va_A [(mo, .inr (10, [.ref e0, .ref e1, .ref e2, .ref e3, .ref e4, .int 0, .int 0, .int 0, .ref e5, .int 0, .int 0, .int 0, .int 0, .int 0, .int 0, .int 0, .int (-1), .int 0, .int 0, .ref e6, .ref e7, .ref e8, .ref e9, .int 0, .ref e10, .ref e11, .int 0, .int 0, .ref e12, .int 0])), (e0, .inl (τ 0, 16816, .inl (S0))), (e4, .inl (τ 0, 134528, .inl (fun _ => 0)))] sz)) 0 0 (va_A [(mo, .inr (10, [.ref e0, .ref e1, .ref e2, .ref e3, .ref e4, .int 0, .int 0, .int 0, .ref e5, .int 0, .int 0, .int 0, .int 0, .int 0, .int 0, .int 0, .int (-1), .int 0, .int 0, .ref e6, .ref e7, .ref e8, .ref e9, .int 0, .ref e10, .ref e11, .int 0, .int 0, .ref e12, .int 0])), (e0, .inl (τ 0, 16816, .inl (S0))), (e4, .inl (τ 0, 134528, .inl (fun _ => 0)))] sz) := by
  refine bodyW (by decide) (Nat.le_of_ble_eq_true rfl) (fun p e s m below meth c ls B hr hlk hin hsz Y hl => ?_)
  have hl : lv_has ls 2 [(0, .ref mo)] := hl
  have B : CallFix p m c cX10_runOrders 2 s _ wALL RX10 := B
  generalize va_A [(mo, .inr (10, [.ref e0, .ref e1, .ref e2, .ref e3, .ref e4, .int 0, .int 0, .int 0, .ref e5, .int 0, .int 0, .int 0, .int 0, .int 0, .int 0, .int 0, .int (-1), .int 0, .int 0, .ref e6, .ref e7, .ref e8, .ref e9, .int 0, .ref e10, .ref e11, .int 0, .int 0, .ref e12, .int 0])), (e0, .inl (τ 0, 16816, .inl (S0))), (e4, .inl (τ 0, 134528, .inl (fun _ => 0)))] sz = A at Y ⊢
  refine lv_aload_n B.1 B.2.1 dX10_runOrders_0 rfl (lv_at hl 0 rfl) ?_
  refine retV (wc := [(mo, .inr (10, [.ref e0, .ref e1, .ref e2, .ref e3, .ref e4, .int 0, .int 0, .int 0, .ref e5, .int 0, .int 0, .int 0, .int 0, .int 0, .int 0, .int 0, .int (-1), .int 0, .int 0, .ref e6, .ref e7, .ref e8, .ref e9, .int 0, .ref e10, .ref e11, .int 0, .int 0, .ref e12, .int 0]))]) (wr := [(e0, .inl (τ 0, 16816, .inl (S0))), (e4, .inl (τ 0, 134528, .inl (fun _ => 0)))]) Y [0] [1, 2] rfl rfl (by decide) (by decide) (rV (As := []) (rest := []) (q0 := 0) B Y [0] (by decide) rfl (k_begins l D τ _ mo e0 e1 e2 e3 e4 e5 e6 e7 e8 e9 e10 e11 e12 0 0 0 0 0 0 0 0 0 0 (-1) 0 0 0 0 0 0) rfl rfl q_1611 q_1613 qp_48 q_12 q_1614 rfl rfl hd_X10_begins ⟨(Nat.le_of_ble_eq_true rfl), (Nat.le_of_ble_eq_true rfl)⟩ rfl hl.1 rfl (Nat.le_of_ble_eq_true rfl) dX10_runOrders_1 ⟨(Nat.le_of_ble_eq_true rfl), (Nat.le_of_ble_eq_true rfl)⟩) (fun u H locs hw Y => ?_)
  have Y : Wd D τ s A s.heap [(e0, .inl (τ 0, 16816, .inl (S0))), (e4, .inl (τ 0, 134528, .inl (fun _ => 0))), (mo, .inr (10, [.ref e0, .ref e1, .ref e2, .ref e3, .ref e4, .int 0, .int 0, .int 0, .ref e5, .int 0, .int 0, .int 0, .int 0, .int 0, .int (-1), .int 0, .int (-1), .int 0, .int 0, .ref e6, .ref e7, .ref e8, .ref e9, .int 0, .ref e10, .ref e11, .int 0, .int 0, .ref e12, .int 0]))] H _ := Y
  refine lv_aload_n B.1 B.2.1 dX10_runOrders_4 rfl (lv_at hl 0 rfl) ?_
  refine lv_iconst (v := 0) B.1 B.2.1 dX10_runOrders_5 (by decide) ?_
  refine pf_X10_322 (ws' := [(e0, .inl (τ 0, 16816, .inl (S0))), (e4, .inl (τ 0, 134528, .inl (fun _ => 0))), (mo, .inr (10, [.ref e0, .ref e1, .ref e2, .ref e3, .ref e4, .int 0, .int 0, .int 0, .ref e5, .int 0, .int 0, .int 0, .int 0, .int 0, .int (-1), .int 0, .int (-1), .int 0, .int 0, .ref e6, .ref e7, .ref e8, .ref e9, .int 0, .ref e10, .ref e11, .int 0, .int 0, .ref e12, .int 0]))]) B Y 2 rfl (Nat.le_of_ble_eq_true rfl) rfl dX10_runOrders_6 (fun H locs Y => ?_)
  refine lv_aload_n B.1 B.2.1 dX10_runOrders_9 rfl (lv_at hl 0 rfl) ?_
  refine gf_X10_217 B Y 2 rfl rfl dX10_runOrders_10 ?_
  refine lv_if_ne (tgt := 31) B.1 B.2.1 dX10_runOrders_13 (by decide) (fun h => absurd (by decide) h) (fun _ => ?_)
  refine lv_aload_n B.1 B.2.1 dX10_runOrders_16 rfl (lv_at hl 0 rfl) ?_
  refine retI (wc := [(mo, .inr (10, [.ref e0, .ref e1, .ref e2, .ref e3, .ref e4, .int 0, .int 0, .int 0, .ref e5, .int 0, .int 0, .int 0, .int 0, .int 0, .int (-1), .int 0, .int (-1), .int 0, .int 0, .ref e6, .ref e7, .ref e8, .ref e9, .int 0, .ref e10, .ref e11, .int 0, .int 0, .ref e12, .int 0]))]) (wr := [(e0, .inl (τ 0, 16816, .inl (S0))), (e4, .inl (τ 0, 134528, .inl (fun _ => 0)))]) Y [2] [0, 1] rfl rfl (by decide) (by decide) (rV (As := []) (rest := []) (q0 := 2) B Y [2] (by decide) rfl (k_next l D τ _ mo e0 e1 e2 e3 e4 e5 e6 e7 e8 e9 e10 e11 e12 0 0 0 0 0 0 (-1) 0 (-1) 0 0 0 0 0 0) rfl rfl q_1624 q_1626 qp_51 q_12 q_1627 rfl rfl hd_X10_next ⟨(Nat.le_of_ble_eq_true rfl), (Nat.le_of_ble_eq_true rfl)⟩ rfl hl.1 rfl (Nat.le_of_ble_eq_true rfl) dX10_runOrders_17 ⟨(Nat.le_of_ble_eq_true rfl), (Nat.le_of_ble_eq_true rfl)⟩) (fun r u H locs hw Y => ?_)
  have hw : r = (-1) := hw
  subst hw
  have Y : Wd D τ s A s.heap [(e0, .inl (τ 0, 16816, .inl (S0))), (e4, .inl (τ 0, 134528, .inl (fun _ => 0))), (mo, .inr (10, [.ref e0, .ref e1, .ref e2, .ref e3, .ref e4, .int 0, .int 0, .int 0, .ref e5, .int 0, .int 0, .int 0, .int 0, .int 0, .int (-1), .int 0, .int (-1), .int 0, .int 0, .ref e6, .ref e7, .ref e8, .ref e9, .int 0, .ref e10, .ref e11, .int 0, .int 0, .ref e12, .int 0]))] H _ := Y
  refine lv_iconst (v := (-1)) B.1 B.2.1 dX10_runOrders_20 (by decide) ?_
  refine lv_icmp_eq (tgt := 31) B.1 B.2.1 dX10_runOrders_21 (by decide) (fun _ => ?_) (fun h => absurd (by decide) h)
  refine lv_aload_n B.1 B.2.1 dX10_runOrders_31 rfl (lv_at hl 0 rfl) ?_
  refine lv_aload_n B.1 B.2.1 dX10_runOrders_32 rfl (lv_at hl 0 rfl) ?_
  refine retI (wc := [(mo, .inr (10, [.ref e0, .ref e1, .ref e2, .ref e3, .ref e4, .int 0, .int 0, .int 0, .ref e5, .int 0, .int 0, .int 0, .int 0, .int 0, .int (-1), .int 0, .int (-1), .int 0, .int 0, .ref e6, .ref e7, .ref e8, .ref e9, .int 0, .ref e10, .ref e11, .int 0, .int 0, .ref e12, .int 0]))]) (wr := [(e0, .inl (τ 0, 16816, .inl (S0))), (e4, .inl (τ 0, 134528, .inl (fun _ => 0)))]) Y [2] [0, 1] rfl rfl (by decide) (by decide) (rV (As := []) (rest := [.ref mo]) (q0 := 2) B Y [2] (by decide) rfl (k_ends0 l D τ _ mo e0 e1 e2 e3 e4 e5 e6 e7 e8 e9 e10 e11 e12 0 0 0 0 0 0 0 (-1) 0 (-1) 0 0 0 0 0 0) rfl rfl q_1670 q_1672 qp_60 q_12 q_1673 rfl rfl hd_X10_ends_ ⟨(Nat.le_of_ble_eq_true rfl), (Nat.le_of_ble_eq_true rfl)⟩ rfl hl.1 rfl (Nat.le_of_ble_eq_true rfl) dX10_runOrders_33 ⟨(Nat.le_of_ble_eq_true rfl), (Nat.le_of_ble_eq_true rfl)⟩) (fun r u H locs hw Y => ?_)
  have hw : r = 1 := hw
  subst hw
  have Y : Wd D τ s A s.heap [(e0, .inl (τ 0, 16816, .inl (S0))), (e4, .inl (τ 0, 134528, .inl (fun _ => 0))), (mo, .inr (10, [.ref e0, .ref e1, .ref e2, .ref e3, .ref e4, .int 0, .int 0, .int 0, .ref e5, .int 0, .int 0, .int 0, .int 0, .int 0, .int (-1), .int 0, .int (-1), .int 0, .int 0, .ref e6, .ref e7, .ref e8, .ref e9, .int 0, .ref e10, .ref e11, .int 0, .int 0, .ref e12, .int 0]))] H _ := Y
  refine retI (wc := [(mo, .inr (10, [.ref e0, .ref e1, .ref e2, .ref e3, .ref e4, .int 0, .int 0, .int 0, .ref e5, .int 0, .int 0, .int 0, .int 0, .int 0, .int (-1), .int 0, .int (-1), .int 0, .int 0, .ref e6, .ref e7, .ref e8, .ref e9, .int 0, .ref e10, .ref e11, .int 0, .int 0, .ref e12, .int 0]))]) (wr := [(e0, .inl (τ 0, 16816, .inl (S0))), (e4, .inl (τ 0, 134528, .inl (fun _ => 0)))]) Y [2] [0, 1] rfl rfl (by decide) (by decide) (rV (As := [.int 1]) (rest := []) (q0 := 2) B Y [2] (by decide) rfl (k_passes1 l D τ _ mo e0 e1 e2 e3 e4 e5 e6 e7 e8 e9 e10 e11 e12 0 0 0 0 0 0 0 0 (-1) 0 (-1) 0 0 0 0 0 0) rfl rfl q_1581 q_1583 qp_46 q_12 q_1584 rfl rfl hd_X10_passes ⟨(Nat.le_of_ble_eq_true rfl), (Nat.le_of_ble_eq_true rfl)⟩ rfl hl.1 rfl (Nat.le_of_ble_eq_true rfl) dX10_runOrders_36 ⟨(Nat.le_of_ble_eq_true rfl), (Nat.le_of_ble_eq_true rfl)⟩) (fun r u H locs hw Y => ?_)
  have hw : r = 1 := hw
  subst hw
  have Y : Wd D τ s A s.heap [(e0, .inl (τ 0, 16816, .inl (S0))), (e4, .inl (τ 0, 134528, .inl (fun _ => 0))), (mo, .inr (10, [.ref e0, .ref e1, .ref e2, .ref e3, .ref e4, .int 0, .int 0, .int 0, .ref e5, .int 0, .int 0, .int 0, .int 0, .int 0, .int (-1), .int 0, .int (-1), .int 0, .int 0, .ref e6, .ref e7, .ref e8, .ref e9, .int 0, .ref e10, .ref e11, .int 0, .int 0, .ref e12, .int 0]))] H _ := Y
  refine lv_if_ne (tgt := 44) B.1 B.2.1 dX10_runOrders_39 (by decide) (fun _ => ?_) (fun h => absurd h (by decide))
  refine lv_aload_n B.1 B.2.1 dX10_runOrders_44 rfl (lv_at hl 0 rfl) ?_
  refine lv_aload_n B.1 B.2.1 dX10_runOrders_45 rfl (lv_at hl 0 rfl) ?_
  refine gf_X10_7 B Y 2 rfl rfl dX10_runOrders_46 ?_
  refine retV (wc := [(mo, .inr (10, [.ref e0, .ref e1, .ref e2, .ref e3, .ref e4, .int 0, .int 0, .int 0, .ref e5, .int 0, .int 0, .int 0, .int 0, .int 0, .int (-1), .int 0, .int (-1), .int 0, .int 0, .ref e6, .ref e7, .ref e8, .ref e9, .int 0, .ref e10, .ref e11, .int 0, .int 0, .ref e12, .int 0])), (e0, .inl (τ 0, 16816, .inl (S0))), (e4, .inl (τ 0, 134528, .inl (fun _ => 0)))]) (wr := []) Y [2, 0, 1] [] rfl rfl (by decide) (by decide) (rV (As := [.ref e0]) (rest := []) (q0 := 2) B Y [2, 0, 1] (by decide) rfl (k_keepse0 l D τ _ mo e0 e1 e2 e3 e4 e5 e6 e7 e8 e9 e10 e11 e12 0 0 0 0 0 0 0 (-1) 0 (-1) 0 0 0 0 0 0 (S0) (fun _ => 0)) rfl rfl q_1767 q_1769 qp_80 q_12 q_1770 rfl rfl hd_X10_keeps ⟨(Nat.le_of_ble_eq_true rfl), (Nat.le_of_ble_eq_true rfl)⟩ rfl hl.1 rfl (Nat.le_of_ble_eq_true rfl) dX10_runOrders_49 ⟨(Nat.le_of_ble_eq_true rfl), (Nat.le_of_ble_eq_true rfl)⟩) (fun u H locs hw Y => ?_)
  have Y : Wd D τ s A s.heap [(mo, .inr (10, [.ref e0, .ref e1, .ref e2, .ref e3, .ref e4, .int 1, .int 0, .int 0, .ref e5, .int 0, .int 0, .int 0, .int 0, .int 0, .int (-1), .int 0, .int (-1), .int 0, .int 0, .ref e6, .ref e7, .ref e8, .ref e9, .int 0, .ref e10, .ref e11, .int 0, .int 0, .ref e12, .int 0]))] H _ := Y
  refine lv_iconst (v := 0) B.1 B.2.1 dX10_runOrders_52 (by decide) ?_
  refine lv_istore_n (lv' := [(1, .int 0), (0, .ref mo)]) B.1 B.2.1 dX10_runOrders_53 rfl hl (by decide) rfl (fun ls hl => ?_)
  refine lv_iload_n B.1 B.2.1 dX10_runOrders_54 rfl (lv_at hl 0 rfl) ?_
  refine lv_aload_n B.1 B.2.1 dX10_runOrders_55 rfl (lv_at hl 1 rfl) ?_
  refine gf_X10_322 B Y 0 rfl rfl dX10_runOrders_56 ?_
  refine lv_icmp_ge (tgt := 76) B.1 B.2.1 dX10_runOrders_59 (by decide) (fun _ => ?_) (fun h => absurd (by decide) h)
  refine lv_iload_n B.1 B.2.1 dX10_runOrders_76 rfl (lv_at hl 0 rfl) ?_
  exact endI B hr hlk Y (lsI [1, 0, 0, 0, 0, 0, 0, 0, (-1), 0, (-1), 0, 0, 0, 0, 0, 0]) ⟨rfl, rfl⟩ [0] (by decide) rfl (Nat.le_of_ble_eq_true rfl) (Nat.le_of_ble_eq_true rfl) dX10_runOrders_77
