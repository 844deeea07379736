set_option maxHeartbeats 4000000 in
set_option maxRecDepth 100000 in
theorem k_valueAt (l : Launch) (D : va_G) (τ : Nat → ClassId) (sz : Nat) (a v n : Nat) (w st en kw ov ar tp : Int) (f : Nat → Int32) (V : Int → Int) (hR : HpRep tp n f V) (z : Int) (h1 : -2 ≤ z) (h2 : z ≤ 3000) : Met l yX2_valueAt (Cond.code yX2_valueAt cX2_valueAt 2 (some .int) :: wALL) { frames := 0, cells := 0, slots := 0, locals := 0 } (Pw D τ (bl [[(a, .inr (4, [.int (iI (w)), .int (iI (st)), .int (iI (en)), .int (iI (kw)), .int (iI (ov)), .int (iI (ar)), .int (iI (tp)), .ref v]))], [(v, .inl (τ 0, n, .inl (f)))]]) sz [.ref a, .int (iI (z))]) (va_Qi (fun (r : Int32) (_ : Unit) => r = iI (V z)) (Bb D (va_A (bl [[(a, .inr (4, [.int (iI (w)), .int (iI (st)), .int (iI (en)), .int (iI (kw)), .int (iI (ov)), .int (iI (ar)), .int (iI (tp)), .ref v]))], [(v, .inl (τ 0, n, .inl (f)))]]) sz) (fun (_ : Unit) => [[(a, .inr (4, [.int (iI (w)), .int (iI (st)), .int (iI (en)), .int (iI (kw)), .int (iI (ov)), .int (iI (ar)), .int (iI (tp)), .ref v]))], [(v, .inl (τ 0, n, .inl (f)))]])) (va_A (bl [[(a, .inr (4, [.int (iI (w)), .int (iI (st)), .int (iI (en)), .int (iI (kw)), .int (iI (ov)), .int (iI (ar)), .int (iI (tp)), .ref v]))], [(v, .inl (τ 0, n, .inl (f)))]]) sz)) 0 0 (va_A (bl [[(a, .inr (4, [.int (iI (w)), .int (iI (st)), .int (iI (en)), .int (iI (kw)), .int (iI (ov)), .int (iI (ar)), .int (iI (tp)), .ref v]))], [(v, .inl (τ 0, n, .inl (f)))]]) sz) := by
  refine bodyW (by decide) (Nat.le_of_ble_eq_true rfl) (fun p e s m below meth c ls B hr hlk hin hsz Y hl => ?_)
  have hl : lv_has ls 2 [(0, .ref a), (1, .int (iI (z)))] := hl
  have B : CallFix p m c cX2_valueAt 2 s _ wALL RX2 := B
  generalize va_A (bl [[(a, .inr (4, [.int (iI (w)), .int (iI (st)), .int (iI (en)), .int (iI (kw)), .int (iI (ov)), .int (iI (ar)), .int (iI (tp)), .ref v]))], [(v, .inl (τ 0, n, .inl (f)))]]) sz = A at Y ⊢
  obtain ⟨r1, r2, r3, r4, r5, r6⟩ := hR
  refine lv_iload_n B.1 B.2.1 dX2_valueAt_0 rfl (lv_at hl 1 rfl) ?_
  refine lv_if_lt (tgt := 30) B.1 B.2.1 dX2_valueAt_1 (by decide) (fun c1 => ?_) (fun c1 => ?_)
  · have c1 := (iI_lt0 (a := z) (by omega) (by omega)).mp c1
    refine lv_iconst (v := (iI (-1))) B.1 B.2.1 dX2_valueAt_30 (by decide) ?_
    exact eI B hr hlk Y () (by rw [r4 z (by omega)]) [0, 1] (by decide) rfl (Nat.le_of_ble_eq_true rfl) (Nat.le_of_ble_eq_true rfl) dX2_valueAt_31
  · have c1 := mt (iI_lt0 (a := z) (by omega) (by omega)).mpr c1
    refine lv_iload_n B.1 B.2.1 dX2_valueAt_4 rfl (lv_at hl 1 rfl) ?_
    refine lv_aload_n B.1 B.2.1 dX2_valueAt_5 rfl (lv_at hl 0 rfl) ?_
    refine gf_X2_30 B Y 0 rfl rfl dX2_valueAt_6 ?_
    refine lv_icmp_ge (tgt := 30) B.1 B.2.1 dX2_valueAt_9 (by decide) (fun c2 => ?_) (fun c2 => ?_)
    · have c2 := (iI_le (a := tp) (b := z) (by omega) (by omega) (by omega) (by omega)).mp c2
      refine lv_iconst (v := (iI (-1))) B.1 B.2.1 dX2_valueAt_30 (by decide) ?_
      exact eI B hr hlk Y () (by rw [r4 z (by omega)]) [0, 1] (by decide) rfl (Nat.le_of_ble_eq_true rfl) (Nat.le_of_ble_eq_true rfl) dX2_valueAt_31
    · have c2 := mt (iI_le (a := tp) (b := z) (by omega) (by omega) (by omega) (by omega)).mpr c2
      refine lv_iload_n B.1 B.2.1 dX2_valueAt_12 rfl (lv_at hl 1 rfl) ?_
      refine lv_aload_n B.1 B.2.1 dX2_valueAt_13 rfl (lv_at hl 0 rfl) ?_
      refine gf_X2_33 B Y 0 rfl rfl dX2_valueAt_14 ?_
      refine b_alen (v := (iI ((n : Nat) : Int))) B Y 1 rfl 0 rfl (iI_nat _) dX2_valueAt_17 ?_
      refine lv_icmp_ge (tgt := 30) B.1 B.2.1 dX2_valueAt_18 (by decide) (fun h => absurd h (mt (iI_le (a := ((n : Nat) : Int)) (b := z) (by omega) (by omega) (by omega) (by omega)).mp (by omega))) (fun _ => ?_)
      refine lv_aload_n B.1 B.2.1 dX2_valueAt_21 rfl (lv_at hl 0 rfl) ?_
      refine gf_X2_33 B Y 0 rfl rfl dX2_valueAt_22 ?_
      refine lv_iload_n B.1 B.2.1 dX2_valueAt_25 rfl (lv_at hl 1 rfl) ?_
      refine b_iald (j := (z).toNat) (v := (iI (V z))) B Y 1 rfl (iI_zpos (by omega) (by omega)) (iI_zclamp (by omega) (by omega)) (by omega) (HpRep.at ⟨r1, r2, r3, r4, r5, r6⟩ (by omega) (by omega)) dX2_valueAt_26 ?_
      refine lv_goto (tgt := 31) B.1 B.2.1 dX2_valueAt_27 (by decide) ?_
      exact eI B hr hlk Y () rfl [0, 1] (by decide) rfl (Nat.le_of_ble_eq_true rfl) (Nat.le_of_ble_eq_true rfl) dX2_valueAt_31

set_option maxHeartbeats 4000000 in
set_option maxRecDepth 100000 in
theorem k_isKnown (l : Launch) (D : va_G) (τ : Nat → ClassId) (sz : Nat) (a v n : Nat) (w st en kw ov ar tp : Int) (f : Nat → Int32) (V : Int → Int) (hR : HpRep tp n f V) (z : Int) (h1 : -2 ≤ z) (h2 : z ≤ 3000) : Met l yX2_isKnown (Cond.code yX2_isKnown cX2_isKnown 2 (some .boolean) :: wALL) { frames := 1, cells := 0, slots := 0, locals := 21 } (Pw D τ (bl [[(a, .inr (4, [.int (iI (w)), .int (iI (st)), .int (iI (en)), .int (iI (kw)), .int (iI (ov)), .int (iI (ar)), .int (iI (tp)), .ref v]))], [(v, .inl (τ 0, n, .inl (f)))]]) sz [.ref a, .int (iI (z))]) (va_Qi (fun (r : Int32) (_ : Unit) => r = iI (knI V z)) (Bb D (va_A (bl [[(a, .inr (4, [.int (iI (w)), .int (iI (st)), .int (iI (en)), .int (iI (kw)), .int (iI (ov)), .int (iI (ar)), .int (iI (tp)), .ref v]))], [(v, .inl (τ 0, n, .inl (f)))]]) sz) (fun (_ : Unit) => [[(a, .inr (4, [.int (iI (w)), .int (iI (st)), .int (iI (en)), .int (iI (kw)), .int (iI (ov)), .int (iI (ar)), .int (iI (tp)), .ref v]))], [(v, .inl (τ 0, n, .inl (f)))]])) (va_A (bl [[(a, .inr (4, [.int (iI (w)), .int (iI (st)), .int (iI (en)), .int (iI (kw)), .int (iI (ov)), .int (iI (ar)), .int (iI (tp)), .ref v]))], [(v, .inl (τ 0, n, .inl (f)))]]) sz)) 0 0 (va_A (bl [[(a, .inr (4, [.int (iI (w)), .int (iI (st)), .int (iI (en)), .int (iI (kw)), .int (iI (ov)), .int (iI (ar)), .int (iI (tp)), .ref v]))], [(v, .inl (τ 0, n, .inl (f)))]]) sz) := by
  refine bodyW (by decide) (Nat.le_of_ble_eq_true rfl) (fun p e s m below meth c ls B hr hlk hin hsz Y hl => ?_)
  have hl : lv_has ls 2 [(0, .ref a), (1, .int (iI (z)))] := hl
  have B : CallFix p m c cX2_isKnown 2 s _ wALL RX2 := B
  generalize va_A (bl [[(a, .inr (4, [.int (iI (w)), .int (iI (st)), .int (iI (en)), .int (iI (kw)), .int (iI (ov)), .int (iI (ar)), .int (iI (tp)), .ref v]))], [(v, .inl (τ 0, n, .inl (f)))]]) sz = A at Y ⊢
  have q := hR.2.2.2.2.2 z
  refine lv_aload_n B.1 B.2.1 dX2_isKnown_0 rfl (lv_at hl 0 rfl) ?_
  refine lv_iload_n B.1 B.2.1 dX2_isKnown_1 rfl (lv_at hl 1 rfl) ?_
  refine qI (Cs := [[(a, .inr (4, [.int (iI (w)), .int (iI (st)), .int (iI (en)), .int (iI (kw)), .int (iI (ov)), .int (iI (ar)), .int (iI (tp)), .ref v]))], [(v, .inl (τ 0, n, .inl (f)))]]) (Rs := []) Y [0, 1] [] (by decide) rfl (cV (As := [.int (iI (z))]) (rest := []) (q0 := 0) B Y [0, 1] (by decide) rfl (k_valueAt l D τ _ a v n w st en kw ov ar tp (f) V hR (z) (by omega) (by omega)) rfl rfl q_1032 q_1033 q_1034 q_12 q_1035 rfl rfl hd_X2_valueAt ⟨(Nat.le_of_ble_eq_true rfl), (Nat.le_of_ble_eq_true rfl)⟩ rfl hl.1 rfl (Nat.le_of_ble_eq_true rfl) dX2_isKnown_2 ⟨(Nat.le_of_ble_eq_true rfl), (Nat.le_of_ble_eq_true rfl)⟩) (fun r u H locs hw Y => ?_)
  obtain rfl := hw
  have Y : Wd D τ s A s.heap (bl [[(a, .inr (4, [.int (iI (w)), .int (iI (st)), .int (iI (en)), .int (iI (kw)), .int (iI (ov)), .int (iI (ar)), .int (iI (tp)), .ref v]))], [(v, .inl (τ 0, n, .inl (f)))]]) _ _ := Y
  refine lv_iconst (v := (iI (-1))) B.1 B.2.1 dX2_isKnown_5 (by decide) ?_
  refine lv_icmp_eq (tgt := 13) B.1 B.2.1 dX2_isKnown_6 (by decide) (fun c1 => ?_) (fun c1 => ?_)
  · have c1 := (iI_eq (a := V (z)) (b := (-1)) (by omega) (by omega) (by omega) (by omega)).mp c1
    refine lv_iconst (v := (iI (0))) B.1 B.2.1 dX2_isKnown_13 (by decide) ?_
    exact eZ B hr hlk Y (by decide) () (by unfold knI; rw [if_pos (by omega)]) [0, 1] (by decide) rfl (Nat.le_of_ble_eq_true rfl) (Nat.le_of_ble_eq_true rfl) dX2_isKnown_14
  · have c1 := mt (iI_eq (a := V (z)) (b := (-1)) (by omega) (by omega) (by omega) (by omega)).mpr c1
    refine lv_iconst (v := (iI (1))) B.1 B.2.1 dX2_isKnown_9 (by decide) ?_
    refine lv_goto (tgt := 14) B.1 B.2.1 dX2_isKnown_10 (by decide) ?_
    exact eZ B hr hlk Y (by decide) () (by unfold knI; rw [if_neg (by omega)]) [0, 1] (by decide) rfl (Nat.le_of_ble_eq_true rfl) (Nat.le_of_ble_eq_true rfl) dX2_isKnown_14

set_option maxHeartbeats 4000000 in
set_option maxRecDepth 100000 in
theorem k_isAtOdds (l : Launch) (D : va_G) (τ : Nat → ClassId) (sz : Nat) (a v n : Nat) (w st en kw ov ar tp : Int) (f : Nat → Int32) (V : Int → Int) (hR : HpRep tp n f V) (h1 : -1 ≤ en) (h2 : en ≤ 5000) (la il : Int) (h3 : 0 ≤ la) (h4 : la ≤ 3000) (h5 : il = 0 ∨ il = 1) : Met l yX2_isAtOdds (Cond.code yX2_isAtOdds cX2_isAtOdds 3 (some .boolean) :: wALL) { frames := 0, cells := 0, slots := 0, locals := 0 } (Pw D τ (bl [[(a, .inr (4, [.int (iI (w)), .int (iI (st)), .int (iI (en)), .int (iI (kw)), .int (iI (ov)), .int (iI (ar)), .int (iI (tp)), .ref v]))], [(v, .inl (τ 0, n, .inl (f)))]]) sz [.ref a, .int (iI (la)), .int (iI (il))]) (va_Qi (fun (r : Int32) (_ : Unit) => r = iI (oddsI en tp la il)) (Bb D (va_A (bl [[(a, .inr (4, [.int (iI (w)), .int (iI (st)), .int (iI (en)), .int (iI (kw)), .int (iI (ov)), .int (iI (ar)), .int (iI (tp)), .ref v]))], [(v, .inl (τ 0, n, .inl (f)))]]) sz) (fun (_ : Unit) => [[(a, .inr (4, [.int (iI (w)), .int (iI (st)), .int (iI (en)), .int (iI (kw)), .int (iI (ov)), .int (iI (ar)), .int (iI (tp)), .ref v]))], [(v, .inl (τ 0, n, .inl (f)))]])) (va_A (bl [[(a, .inr (4, [.int (iI (w)), .int (iI (st)), .int (iI (en)), .int (iI (kw)), .int (iI (ov)), .int (iI (ar)), .int (iI (tp)), .ref v]))], [(v, .inl (τ 0, n, .inl (f)))]]) sz)) 0 0 (va_A (bl [[(a, .inr (4, [.int (iI (w)), .int (iI (st)), .int (iI (en)), .int (iI (kw)), .int (iI (ov)), .int (iI (ar)), .int (iI (tp)), .ref v]))], [(v, .inl (τ 0, n, .inl (f)))]]) sz) := by
  refine bodyW (by decide) (Nat.le_of_ble_eq_true rfl) (fun p e s m below meth c ls B hr hlk hin hsz Y hl => ?_)
  have hl : lv_has ls 3 [(0, .ref a), (1, .int (iI (la))), (2, .int (iI (il)))] := hl
  have B : CallFix p m c cX2_isAtOdds 3 s _ wALL RX2 := B
  generalize va_A (bl [[(a, .inr (4, [.int (iI (w)), .int (iI (st)), .int (iI (en)), .int (iI (kw)), .int (iI (ov)), .int (iI (ar)), .int (iI (tp)), .ref v]))], [(v, .inl (τ 0, n, .inl (f)))]]) sz = A at Y ⊢
  obtain ⟨r1, r2, r3, -⟩ := hR
  refine lv_iload_n B.1 B.2.1 dX2_isAtOdds_0 rfl (lv_at hl 2 rfl) ?_
  refine lv_if_eq (tgt := 34) B.1 B.2.1 dX2_isAtOdds_1 (by decide) (fun c1 => ?_) (fun c1 => ?_)
  · have c1 := (iI_eq0 (a := il) (by omega) (by omega)).mp c1
    refine lv_aload_n B.1 B.2.1 dX2_isAtOdds_34 rfl (lv_at hl 0 rfl) ?_
    refine gf_X2_18 B Y 0 rfl rfl dX2_isAtOdds_35 ?_
    refine lv_iconst (v := (iI (-1))) B.1 B.2.1 dX2_isAtOdds_38 (by decide) ?_
    refine lv_icmp_eq (tgt := 54) B.1 B.2.1 dX2_isAtOdds_39 (by decide) (fun c2 => ?_) (fun c2 => ?_)
    · have c2 := (iI_eq (a := en) (b := (-1)) (by omega) (by omega) (by omega) (by omega)).mp c2
      refine lv_iconst (v := (iI (0))) B.1 B.2.1 dX2_isAtOdds_54 (by decide) ?_
      exact eZ B hr hlk Y (by decide) () (by unfold oddsI; (repeat' split) <;> first | rfl | (exfalso; omega)) [0, 1] (by decide) rfl (Nat.le_of_ble_eq_true rfl) (Nat.le_of_ble_eq_true rfl) dX2_isAtOdds_55
    · have c2 := mt (iI_eq (a := en) (b := (-1)) (by omega) (by omega) (by omega) (by omega)).mpr c2
      refine lv_aload_n B.1 B.2.1 dX2_isAtOdds_42 rfl (lv_at hl 0 rfl) ?_
      refine gf_X2_18 B Y 0 rfl rfl dX2_isAtOdds_43 ?_
      refine lv_iload_n B.1 B.2.1 dX2_isAtOdds_46 rfl (lv_at hl 1 rfl) ?_
      refine lv_icmp_ge (tgt := 54) B.1 B.2.1 dX2_isAtOdds_47 (by decide) (fun c3 => ?_) (fun c3 => ?_)
      · have c3 := (iI_le (a := la) (b := en) (by omega) (by omega) (by omega) (by omega)).mp c3
        refine lv_iconst (v := (iI (0))) B.1 B.2.1 dX2_isAtOdds_54 (by decide) ?_
        exact eZ B hr hlk Y (by decide) () (by unfold oddsI; (repeat' split) <;> first | rfl | (exfalso; omega)) [0, 1] (by decide) rfl (Nat.le_of_ble_eq_true rfl) (Nat.le_of_ble_eq_true rfl) dX2_isAtOdds_55
      · have c3 := mt (iI_le (a := la) (b := en) (by omega) (by omega) (by omega) (by omega)).mpr c3
        refine lv_iconst (v := (iI (1))) B.1 B.2.1 dX2_isAtOdds_50 (by decide) ?_
        refine lv_goto (tgt := 55) B.1 B.2.1 dX2_isAtOdds_51 (by decide) ?_
        exact eZ B hr hlk Y (by decide) () (by unfold oddsI; (repeat' split) <;> first | rfl | (exfalso; omega)) [0, 1] (by decide) rfl (Nat.le_of_ble_eq_true rfl) (Nat.le_of_ble_eq_true rfl) dX2_isAtOdds_55
  · have c1 := mt (iI_eq0 (a := il) (by omega) (by omega)).mpr c1
    refine lv_aload_n B.1 B.2.1 dX2_isAtOdds_4 rfl (lv_at hl 0 rfl) ?_
    refine gf_X2_18 B Y 0 rfl rfl dX2_isAtOdds_5 ?_
    refine lv_iconst (v := (iI (-1))) B.1 B.2.1 dX2_isAtOdds_8 (by decide) ?_
    refine lv_icmp_eq (tgt := 20) B.1 B.2.1 dX2_isAtOdds_9 (by decide) (fun c4 => ?_) (fun c4 => ?_)
    · have c4 := (iI_eq (a := en) (b := (-1)) (by omega) (by omega) (by omega) (by omega)).mp c4
      refine lv_aload_n B.1 B.2.1 dX2_isAtOdds_20 rfl (lv_at hl 0 rfl) ?_
      refine gf_X2_30 B Y 0 rfl rfl dX2_isAtOdds_21 ?_
      refine lv_iload_n B.1 B.2.1 dX2_isAtOdds_24 rfl (lv_at hl 1 rfl) ?_
      refine lv_icmp_le (tgt := 32) B.1 B.2.1 dX2_isAtOdds_25 (by decide) (fun c5 => ?_) (fun c5 => ?_)
      · have c5 := (iI_le (a := tp) (b := la) (by omega) (by omega) (by omega) (by omega)).mp c5
        refine lv_iconst (v := (iI (0))) B.1 B.2.1 dX2_isAtOdds_32 (by decide) ?_
        exact eZ B hr hlk Y (by decide) () (by unfold oddsI; (repeat' split) <;> first | rfl | (exfalso; omega)) [0, 1] (by decide) rfl (Nat.le_of_ble_eq_true rfl) (Nat.le_of_ble_eq_true rfl) dX2_isAtOdds_33
      · have c5 := mt (iI_le (a := tp) (b := la) (by omega) (by omega) (by omega) (by omega)).mpr c5
        refine lv_iconst (v := (iI (1))) B.1 B.2.1 dX2_isAtOdds_28 (by decide) ?_
        refine lv_goto (tgt := 33) B.1 B.2.1 dX2_isAtOdds_29 (by decide) ?_
        exact eZ B hr hlk Y (by decide) () (by unfold oddsI; (repeat' split) <;> first | rfl | (exfalso; omega)) [0, 1] (by decide) rfl (Nat.le_of_ble_eq_true rfl) (Nat.le_of_ble_eq_true rfl) dX2_isAtOdds_33
    · have c4 := mt (iI_eq (a := en) (b := (-1)) (by omega) (by omega) (by omega) (by omega)).mpr c4
      refine lv_aload_n B.1 B.2.1 dX2_isAtOdds_12 rfl (lv_at hl 0 rfl) ?_
      refine gf_X2_18 B Y 0 rfl rfl dX2_isAtOdds_13 ?_
      refine lv_iload_n B.1 B.2.1 dX2_isAtOdds_16 rfl (lv_at hl 1 rfl) ?_
      refine lv_icmp_ne (tgt := 28) B.1 B.2.1 dX2_isAtOdds_17 (by decide) (fun c6 => ?_) (fun c6 => ?_)
      · have c6 := mt (iI_eq (a := en) (b := la) (by omega) (by omega) (by omega) (by omega)).mpr c6
        refine lv_iconst (v := (iI (1))) B.1 B.2.1 dX2_isAtOdds_28 (by decide) ?_
        refine lv_goto (tgt := 33) B.1 B.2.1 dX2_isAtOdds_29 (by decide) ?_
        exact eZ B hr hlk Y (by decide) () (by unfold oddsI; (repeat' split) <;> first | rfl | (exfalso; omega)) [0, 1] (by decide) rfl (Nat.le_of_ble_eq_true rfl) (Nat.le_of_ble_eq_true rfl) dX2_isAtOdds_33
      · have c6 := (iI_eq (a := en) (b := la) (by omega) (by omega) (by omega) (by omega)).mp c6
        refine lv_aload_n B.1 B.2.1 dX2_isAtOdds_20 rfl (lv_at hl 0 rfl) ?_
        refine gf_X2_30 B Y 0 rfl rfl dX2_isAtOdds_21 ?_
        refine lv_iload_n B.1 B.2.1 dX2_isAtOdds_24 rfl (lv_at hl 1 rfl) ?_
        refine lv_icmp_le (tgt := 32) B.1 B.2.1 dX2_isAtOdds_25 (by decide) (fun c7 => ?_) (fun c7 => ?_)
        · have c7 := (iI_le (a := tp) (b := la) (by omega) (by omega) (by omega) (by omega)).mp c7
          refine lv_iconst (v := (iI (0))) B.1 B.2.1 dX2_isAtOdds_32 (by decide) ?_
          exact eZ B hr hlk Y (by decide) () (by unfold oddsI; (repeat' split) <;> first | rfl | (exfalso; omega)) [0, 1] (by decide) rfl (Nat.le_of_ble_eq_true rfl) (Nat.le_of_ble_eq_true rfl) dX2_isAtOdds_33
        · have c7 := mt (iI_le (a := tp) (b := la) (by omega) (by omega) (by omega) (by omega)).mpr c7
          refine lv_iconst (v := (iI (1))) B.1 B.2.1 dX2_isAtOdds_28 (by decide) ?_
          refine lv_goto (tgt := 33) B.1 B.2.1 dX2_isAtOdds_29 (by decide) ?_
          exact eZ B hr hlk Y (by decide) () (by unfold oddsI; (repeat' split) <;> first | rfl | (exfalso; omega)) [0, 1] (by decide) rfl (Nat.le_of_ble_eq_true rfl) (Nat.le_of_ble_eq_true rfl) dX2_isAtOdds_33

set_option maxHeartbeats 4000000 in
set_option maxRecDepth 100000 in
theorem k_isWhole (l : Launch) (D : va_G) (τ : Nat → ClassId) (sz : Nat) (a v n : Nat) (w st en kw ov ar tp : Int) (f : Nat → Int32) (V : Int → Int) (hR : HpRep tp n f V) (h1 : -1 ≤ en) (h2 : en ≤ 5000) (h3 : 0 ≤ kw) (h4 : kw ≤ 5000) : Met l yX2_isWhole (Cond.code yX2_isWhole cX2_isWhole 1 (some .boolean) :: wALL) { frames := 0, cells := 0, slots := 0, locals := 0 } (Pw D τ (bl [[(a, .inr (4, [.int (iI (w)), .int (iI (st)), .int (iI (en)), .int (iI (kw)), .int (iI (ov)), .int (iI (ar)), .int (iI (tp)), .ref v]))], [(v, .inl (τ 0, n, .inl (f)))]]) sz [.ref a]) (va_Qi (fun (r : Int32) (_ : Unit) => r = iI (if en ≠ -1 ∧ kw = en then 1 else 0)) (Bb D (va_A (bl [[(a, .inr (4, [.int (iI (w)), .int (iI (st)), .int (iI (en)), .int (iI (kw)), .int (iI (ov)), .int (iI (ar)), .int (iI (tp)), .ref v]))], [(v, .inl (τ 0, n, .inl (f)))]]) sz) (fun (_ : Unit) => [[(a, .inr (4, [.int (iI (w)), .int (iI (st)), .int (iI (en)), .int (iI (kw)), .int (iI (ov)), .int (iI (ar)), .int (iI (tp)), .ref v]))], [(v, .inl (τ 0, n, .inl (f)))]])) (va_A (bl [[(a, .inr (4, [.int (iI (w)), .int (iI (st)), .int (iI (en)), .int (iI (kw)), .int (iI (ov)), .int (iI (ar)), .int (iI (tp)), .ref v]))], [(v, .inl (τ 0, n, .inl (f)))]]) sz)) 0 0 (va_A (bl [[(a, .inr (4, [.int (iI (w)), .int (iI (st)), .int (iI (en)), .int (iI (kw)), .int (iI (ov)), .int (iI (ar)), .int (iI (tp)), .ref v]))], [(v, .inl (τ 0, n, .inl (f)))]]) sz) := by
  refine bodyW (by decide) (Nat.le_of_ble_eq_true rfl) (fun p e s m below meth c ls B hr hlk hin hsz Y hl => ?_)
  have hl : lv_has ls 1 [(0, .ref a)] := hl
  have B : CallFix p m c cX2_isWhole 1 s _ wALL RX2 := B
  generalize va_A (bl [[(a, .inr (4, [.int (iI (w)), .int (iI (st)), .int (iI (en)), .int (iI (kw)), .int (iI (ov)), .int (iI (ar)), .int (iI (tp)), .ref v]))], [(v, .inl (τ 0, n, .inl (f)))]]) sz = A at Y ⊢
  refine lv_aload_n B.1 B.2.1 dX2_isWhole_0 rfl (lv_at hl 0 rfl) ?_
  refine gf_X2_18 B Y 0 rfl rfl dX2_isWhole_1 ?_
  refine lv_iconst (v := (iI (-1))) B.1 B.2.1 dX2_isWhole_4 (by decide) ?_
  refine lv_icmp_eq (tgt := 23) B.1 B.2.1 dX2_isWhole_5 (by decide) (fun c1 => ?_) (fun c1 => ?_)
  · have c1 := (iI_eq (a := en) (b := (-1)) (by omega) (by omega) (by omega) (by omega)).mp c1
    refine lv_iconst (v := (iI (0))) B.1 B.2.1 dX2_isWhole_23 (by decide) ?_
    exact eZ B hr hlk Y (by decide) () (by split <;> first | rfl | (exfalso; omega)) [0, 1] (by decide) rfl (Nat.le_of_ble_eq_true rfl) (Nat.le_of_ble_eq_true rfl) dX2_isWhole_24
  · have c1 := mt (iI_eq (a := en) (b := (-1)) (by omega) (by omega) (by omega) (by omega)).mpr c1
    refine lv_aload_n B.1 B.2.1 dX2_isWhole_8 rfl (lv_at hl 0 rfl) ?_
    refine gf_X2_21 B Y 0 rfl rfl dX2_isWhole_9 ?_
    refine lv_aload_n B.1 B.2.1 dX2_isWhole_12 rfl (lv_at hl 0 rfl) ?_
    refine gf_X2_18 B Y 0 rfl rfl dX2_isWhole_13 ?_
    refine lv_icmp_ne (tgt := 23) B.1 B.2.1 dX2_isWhole_16 (by decide) (fun c2 => ?_) (fun c2 => ?_)
    · have c2 := mt (iI_eq (a := kw) (b := en) (by omega) (by omega) (by omega) (by omega)).mpr c2
      refine lv_iconst (v := (iI (0))) B.1 B.2.1 dX2_isWhole_23 (by decide) ?_
      exact eZ B hr hlk Y (by decide) () (by split <;> first | rfl | (exfalso; omega)) [0, 1] (by decide) rfl (Nat.le_of_ble_eq_true rfl) (Nat.le_of_ble_eq_true rfl) dX2_isWhole_24
    · have c2 := (iI_eq (a := kw) (b := en) (by omega) (by omega) (by omega) (by omega)).mp c2
      refine lv_iconst (v := (iI (1))) B.1 B.2.1 dX2_isWhole_19 (by decide) ?_
      refine lv_goto (tgt := 24) B.1 B.2.1 dX2_isWhole_20 (by decide) ?_
      exact eZ B hr hlk Y (by decide) () (by split <;> first | rfl | (exfalso; omega)) [0, 1] (by decide) rfl (Nat.le_of_ble_eq_true rfl) (Nat.le_of_ble_eq_true rfl) dX2_isWhole_24

set_option maxHeartbeats 4000000 in
set_option maxRecDepth 100000 in
theorem k_limit (l : Launch) (D : va_G) (τ : Nat → ClassId) (sz : Nat) (a v n : Nat) (w st en kw ov ar tp : Int) (f : Nat → Int32) (V : Int → Int) (hR : HpRep tp n f V) (h1 : -1 ≤ en) (h2 : en ≤ 5000) : Met l yX2_limit (Cond.code yX2_limit cX2_limit 1 (some .int) :: wALL) { frames := 0, cells := 0, slots := 0, locals := 0 } (Pw D τ (bl [[(a, .inr (4, [.int (iI (w)), .int (iI (st)), .int (iI (en)), .int (iI (kw)), .int (iI (ov)), .int (iI (ar)), .int (iI (tp)), .ref v]))], [(v, .inl (τ 0, n, .inl (f)))]]) sz [.ref a]) (va_Qi (fun (r : Int32) (_ : Unit) => r = iI (limI en tp)) (Bb D (va_A (bl [[(a, .inr (4, [.int (iI (w)), .int (iI (st)), .int (iI (en)), .int (iI (kw)), .int (iI (ov)), .int (iI (ar)), .int (iI (tp)), .ref v]))], [(v, .inl (τ 0, n, .inl (f)))]]) sz) (fun (_ : Unit) => [[(a, .inr (4, [.int (iI (w)), .int (iI (st)), .int (iI (en)), .int (iI (kw)), .int (iI (ov)), .int (iI (ar)), .int (iI (tp)), .ref v]))], [(v, .inl (τ 0, n, .inl (f)))]])) (va_A (bl [[(a, .inr (4, [.int (iI (w)), .int (iI (st)), .int (iI (en)), .int (iI (kw)), .int (iI (ov)), .int (iI (ar)), .int (iI (tp)), .ref v]))], [(v, .inl (τ 0, n, .inl (f)))]]) sz)) 0 0 (va_A (bl [[(a, .inr (4, [.int (iI (w)), .int (iI (st)), .int (iI (en)), .int (iI (kw)), .int (iI (ov)), .int (iI (ar)), .int (iI (tp)), .ref v]))], [(v, .inl (τ 0, n, .inl (f)))]]) sz) := by
  refine bodyW (by decide) (Nat.le_of_ble_eq_true rfl) (fun p e s m below meth c ls B hr hlk hin hsz Y hl => ?_)
  have hl : lv_has ls 1 [(0, .ref a)] := hl
  have B : CallFix p m c cX2_limit 1 s _ wALL RX2 := B
  generalize va_A (bl [[(a, .inr (4, [.int (iI (w)), .int (iI (st)), .int (iI (en)), .int (iI (kw)), .int (iI (ov)), .int (iI (ar)), .int (iI (tp)), .ref v]))], [(v, .inl (τ 0, n, .inl (f)))]]) sz = A at Y ⊢
  refine lv_aload_n B.1 B.2.1 dX2_limit_0 rfl (lv_at hl 0 rfl) ?_
  refine gf_X2_18 B Y 0 rfl rfl dX2_limit_1 ?_
  refine lv_iconst (v := (iI (-1))) B.1 B.2.1 dX2_limit_4 (by decide) ?_
  refine lv_icmp_ne (tgt := 15) B.1 B.2.1 dX2_limit_5 (by decide) (fun c1 => ?_) (fun c1 => ?_)
  · have c1 := mt (iI_eq (a := en) (b := (-1)) (by omega) (by omega) (by omega) (by omega)).mpr c1
    refine lv_aload_n B.1 B.2.1 dX2_limit_15 rfl (lv_at hl 0 rfl) ?_
    refine gf_X2_18 B Y 0 rfl rfl dX2_limit_16 ?_
    exact eI B hr hlk Y () (by unfold limI; split <;> first | rfl | (exfalso; omega)) [0, 1] (by decide) rfl (Nat.le_of_ble_eq_true rfl) (Nat.le_of_ble_eq_true rfl) dX2_limit_19
  · have c1 := (iI_eq (a := en) (b := (-1)) (by omega) (by omega) (by omega) (by omega)).mp c1
    refine lv_aload_n B.1 B.2.1 dX2_limit_8 rfl (lv_at hl 0 rfl) ?_
    refine gf_X2_30 B Y 0 rfl rfl dX2_limit_9 ?_
    refine lv_goto (tgt := 19) B.1 B.2.1 dX2_limit_12 (by decide) ?_
    exact eI B hr hlk Y () (by unfold limI; split <;> first | rfl | (exfalso; omega)) [0, 1] (by decide) rfl (Nat.le_of_ble_eq_true rfl) (Nat.le_of_ble_eq_true rfl) dX2_limit_19

set_option maxHeartbeats 4000000 in
set_option maxRecDepth 100000 in
theorem k_isHoleStart (l : Launch) (D : va_G) (τ : Nat → ClassId) (sz : Nat) (a v n : Nat) (w st en kw ov ar tp : Int) (f : Nat → Int32) (V : Int → Int) (hR : HpRep tp n f V) (z : Int) (h1 : 0 ≤ z) (h2 : z ≤ 3000) : Met l yX2_isHoleStart (Cond.code yX2_isHoleStart cX2_isHoleStart 2 (some .boolean) :: wALL) { frames := 2, cells := 0, slots := 0, locals := 42 } (Pw D τ (bl [[(a, .inr (4, [.int (iI (w)), .int (iI (st)), .int (iI (en)), .int (iI (kw)), .int (iI (ov)), .int (iI (ar)), .int (iI (tp)), .ref v]))], [(v, .inl (τ 0, n, .inl (f)))]]) sz [.ref a, .int (iI (z))]) (va_Qi (fun (r : Int32) (_ : Unit) => r = iI (hsI V z)) (Bb D (va_A (bl [[(a, .inr (4, [.int (iI (w)), .int (iI (st)), .int (iI (en)), .int (iI (kw)), .int (iI (ov)), .int (iI (ar)), .int (iI (tp)), .ref v]))], [(v, .inl (τ 0, n, .inl (f)))]]) sz) (fun (_ : Unit) => [[(a, .inr (4, [.int (iI (w)), .int (iI (st)), .int (iI (en)), .int (iI (kw)), .int (iI (ov)), .int (iI (ar)), .int (iI (tp)), .ref v]))], [(v, .inl (τ 0, n, .inl (f)))]])) (va_A (bl [[(a, .inr (4, [.int (iI (w)), .int (iI (st)), .int (iI (en)), .int (iI (kw)), .int (iI (ov)), .int (iI (ar)), .int (iI (tp)), .ref v]))], [(v, .inl (τ 0, n, .inl (f)))]]) sz)) 0 0 (va_A (bl [[(a, .inr (4, [.int (iI (w)), .int (iI (st)), .int (iI (en)), .int (iI (kw)), .int (iI (ov)), .int (iI (ar)), .int (iI (tp)), .ref v]))], [(v, .inl (τ 0, n, .inl (f)))]]) sz) := by
  refine bodyW (by decide) (Nat.le_of_ble_eq_true rfl) (fun p e s m below meth c ls B hr hlk hin hsz Y hl => ?_)
  have hl : lv_has ls 2 [(0, .ref a), (1, .int (iI (z)))] := hl
  have B : CallFix p m c cX2_isHoleStart 2 s _ wALL RX2 := B
  generalize va_A (bl [[(a, .inr (4, [.int (iI (w)), .int (iI (st)), .int (iI (en)), .int (iI (kw)), .int (iI (ov)), .int (iI (ar)), .int (iI (tp)), .ref v]))], [(v, .inl (τ 0, n, .inl (f)))]]) sz = A at Y ⊢
  have q1 : 0 ≤ knI V z ∧ knI V z ≤ 1 := by unfold knI; split <;> omega
  have q2 : 0 ≤ knI V (z - 1) ∧ knI V (z - 1) ≤ 1 := by unfold knI; split <;> omega
  refine lv_aload_n B.1 B.2.1 dX2_isHoleStart_0 rfl (lv_at hl 0 rfl) ?_
  refine lv_iload_n B.1 B.2.1 dX2_isHoleStart_1 rfl (lv_at hl 1 rfl) ?_
  refine qI (Cs := [[(a, .inr (4, [.int (iI (w)), .int (iI (st)), .int (iI (en)), .int (iI (kw)), .int (iI (ov)), .int (iI (ar)), .int (iI (tp)), .ref v]))], [(v, .inl (τ 0, n, .inl (f)))]]) (Rs := []) Y [0, 1] [] (by decide) rfl (cV (As := [.int (iI (z))]) (rest := []) (q0 := 0) B Y [0, 1] (by decide) rfl (k_isKnown l D τ _ a v n w st en kw ov ar tp (f) V hR (z) (by omega) (by omega)) rfl rfl q_1164 q_1165 q_1166 q_12 q_1167 rfl rfl hd_X2_isKnown ⟨(Nat.le_of_ble_eq_true rfl), (Nat.le_of_ble_eq_true rfl)⟩ rfl hl.1 rfl (Nat.le_of_ble_eq_true rfl) dX2_isHoleStart_2 ⟨(Nat.le_of_ble_eq_true rfl), (Nat.le_of_ble_eq_true rfl)⟩) (fun r u H locs hw Y => ?_)
  obtain rfl := hw
  have Y : Wd D τ s A s.heap (bl [[(a, .inr (4, [.int (iI (w)), .int (iI (st)), .int (iI (en)), .int (iI (kw)), .int (iI (ov)), .int (iI (ar)), .int (iI (tp)), .ref v]))], [(v, .inl (τ 0, n, .inl (f)))]]) _ _ := Y
  refine lv_if_ne (tgt := 26) B.1 B.2.1 dX2_isHoleStart_5 (by decide) (fun c1 => ?_) (fun c1 => ?_)
  · have c1 := mt (iI_eq0 (a := knI V (z)) (by omega) (by omega)).mpr c1
    refine lv_iconst (v := (iI (0))) B.1 B.2.1 dX2_isHoleStart_26 (by decide) ?_
    exact eZ B hr hlk Y (by decide) () (by unfold hsI; unfold knI at *; (repeat' split) <;> (repeat' split at *) <;> first | rfl | (exfalso; omega)) [0, 1] (by decide) rfl (Nat.le_of_ble_eq_true rfl) (Nat.le_of_ble_eq_true rfl) dX2_isHoleStart_27
  · have c1 := (iI_eq0 (a := knI V (z)) (by omega) (by omega)).mp c1
    refine lv_iload_n B.1 B.2.1 dX2_isHoleStart_8 rfl (lv_at hl 1 rfl) ?_
    refine lv_if_eq (tgt := 22) B.1 B.2.1 dX2_isHoleStart_9 (by decide) (fun c2 => ?_) (fun c2 => ?_)
    · have c2 := (iI_eq0 (a := z) (by omega) (by omega)).mp c2
      refine lv_iconst (v := (iI (1))) B.1 B.2.1 dX2_isHoleStart_22 (by decide) ?_
      refine lv_goto (tgt := 27) B.1 B.2.1 dX2_isHoleStart_23 (by decide) ?_
      exact eZ B hr hlk Y (by decide) () (by unfold hsI; unfold knI at *; (repeat' split) <;> (repeat' split at *) <;> first | rfl | (exfalso; omega)) [0, 1] (by decide) rfl (Nat.le_of_ble_eq_true rfl) (Nat.le_of_ble_eq_true rfl) dX2_isHoleStart_27
    · have c2 := mt (iI_eq0 (a := z) (by omega) (by omega)).mpr c2
      refine lv_aload_n B.1 B.2.1 dX2_isHoleStart_12 rfl (lv_at hl 0 rfl) ?_
      refine lv_iload_n B.1 B.2.1 dX2_isHoleStart_13 rfl (lv_at hl 1 rfl) ?_
      refine lv_iconst (v := (iI (1))) B.1 B.2.1 dX2_isHoleStart_14 (by decide) ?_
      refine lv_isub B.1 B.2.1 dX2_isHoleStart_15 ?_
      refine lv_cv (v := (iI (z - 1))) (iI_sub _ _) ?_
      refine qI (Cs := [[(a, .inr (4, [.int (iI (w)), .int (iI (st)), .int (iI (en)), .int (iI (kw)), .int (iI (ov)), .int (iI (ar)), .int (iI (tp)), .ref v]))], [(v, .inl (τ 0, n, .inl (f)))]]) (Rs := []) Y [0, 1] [] (by decide) rfl (cV (As := [.int (iI (z - 1))]) (rest := []) (q0 := 0) B Y [0, 1] (by decide) rfl (k_isKnown l D τ _ a v n w st en kw ov ar tp (f) V hR (z - 1) (by omega) (by omega)) rfl rfl q_1164 q_1165 q_1166 q_12 q_1167 rfl rfl hd_X2_isKnown ⟨(Nat.le_of_ble_eq_true rfl), (Nat.le_of_ble_eq_true rfl)⟩ rfl hl.1 rfl (Nat.le_of_ble_eq_true rfl) dX2_isHoleStart_16 ⟨(Nat.le_of_ble_eq_true rfl), (Nat.le_of_ble_eq_true rfl)⟩) (fun r u H locs hw Y => ?_)
      obtain rfl := hw
      have Y : Wd D τ s A s.heap (bl [[(a, .inr (4, [.int (iI (w)), .int (iI (st)), .int (iI (en)), .int (iI (kw)), .int (iI (ov)), .int (iI (ar)), .int (iI (tp)), .ref v]))], [(v, .inl (τ 0, n, .inl (f)))]]) _ _ := Y
      refine lv_if_eq (tgt := 26) B.1 B.2.1 dX2_isHoleStart_19 (by decide) (fun c3 => ?_) (fun c3 => ?_)
      · have c3 := (iI_eq0 (a := knI V (z - 1)) (by omega) (by omega)).mp c3
        refine lv_iconst (v := (iI (0))) B.1 B.2.1 dX2_isHoleStart_26 (by decide) ?_
        exact eZ B hr hlk Y (by decide) () (by unfold hsI; unfold knI at *; (repeat' split) <;> (repeat' split at *) <;> first | rfl | (exfalso; omega)) [0, 1] (by decide) rfl (Nat.le_of_ble_eq_true rfl) (Nat.le_of_ble_eq_true rfl) dX2_isHoleStart_27
      · have c3 := mt (iI_eq0 (a := knI V (z - 1)) (by omega) (by omega)).mpr c3
        refine lv_iconst (v := (iI (1))) B.1 B.2.1 dX2_isHoleStart_22 (by decide) ?_
        refine lv_goto (tgt := 27) B.1 B.2.1 dX2_isHoleStart_23 (by decide) ?_
        exact eZ B hr hlk Y (by decide) () (by unfold hsI; unfold knI at *; (repeat' split) <;> (repeat' split at *) <;> first | rfl | (exfalso; omega)) [0, 1] (by decide) rfl (Nat.le_of_ble_eq_true rfl) (Nat.le_of_ble_eq_true rfl) dX2_isHoleStart_27

