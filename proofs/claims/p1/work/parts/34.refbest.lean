theorem nIm {a : Nat} (h : a < 2 ^ 31) : ¬ nI a = (-1 : Int32) := fun e => by
  have h1 := congrArg Int32.toInt e
  rw [nI_toInt h] at h1
  have h2 : (-1 : Int32).toInt = -1 := by decide
  rw [h2] at h1; omega

theorem i_div1 (n : Nat) (h : n < 2 ^ 31) : nI n / 1 = nI n := (pk_div (d := 1) h (by decide) (by decide)).trans (by rw [Nat.div_one])
theorem i_rem1 (n : Nat) (h : n < 2 ^ 31) : nI n - nI n / 1 * 1 = 0 := (pk_rem (d := 1) h (by decide) (by decide)).trans (by rw [Nat.mod_one]; rfl)

set_option maxHeartbeats 4000000 in
set_option maxRecDepth 100000 in
theorem lp_best10 {p : Program} {l : Launch} {e : Env} {s : State} {m : MethodId} {args : Array Value} {below : List Frame} {meth : Method} {c : Code} {Q : State → Prop} {D : va_G} {τ : Nat → ClassId} {A : Nat → Prop} {H0 : Heap} {mo e0 e1 e2 e3 e4 e5 e6 e7 e8 e9 e10 e11 e12 : Nat} {n : Nat} (hn : n ≤ 3000) (hn1 : 1 ≤ n) (B : CallFix p m c cX10_bestLong 6 s args wALL RX10)
    (kx : ∀ (x14 x15 : Int32) (g9 hs : Nat → Int32) (H : Heap) (locs : List Loc) (ls : Array Slot), lv_has ls 6 [(4, .int (nI ((min n 1000) + 1))), (3, .int (nI (wbN n (bestN n (min n 1000))))), (2, .int (nI (bestN n (min n 1000)))), (0, .ref mo), (1, .int (nI n))] → Wd D τ s A H0 [(mo, .inr (10, [.ref e0, .ref e1, .ref e2, .ref e3, .ref e4, .int 0, .int 0, .int 0, .ref e5, .int 0, .int 0, .int 0, .int 0, .int 0, .int 0, .int 0, .int (-1), .int 0, .int 0, .ref e6, .ref e7, .ref e8, .ref e9, .int 0, .ref e10, .ref e11, .int x14, .int x15, .ref e12, .int 0])), (e0, .inl (τ 0, 16816, .inl (S0))), (e10, .inl (τ 0, 200, .inl (g9))), (e11, .inl (τ 0, 200, .inl (hs)))] H locs → W p l e ({ frames := 3, cells := 0, slots := 0, locals := 69 } : Room) s m args below meth c H locs 0 0 Q (F0 m 98 ls [])) :
    ∀ (k i : Nat) (x14 x15 : Int32) (g9 hs : Nat → Int32) (H : Heap) (locs : List Loc) (ls : Array Slot), i + k = min n 1000 → 1 ≤ i → lv_has ls 6 [(4, .int (nI (i + 1))), (3, .int (nI (wbN n (bestN n i)))), (2, .int (nI (bestN n i))), (0, .ref mo), (1, .int (nI n))] → Wd D τ s A H0 [(mo, .inr (10, [.ref e0, .ref e1, .ref e2, .ref e3, .ref e4, .int 0, .int 0, .int 0, .ref e5, .int 0, .int 0, .int 0, .int 0, .int 0, .int 0, .int 0, .int (-1), .int 0, .int 0, .ref e6, .ref e7, .ref e8, .ref e9, .int 0, .ref e10, .ref e11, .int x14, .int x15, .ref e12, .int 0])), (e0, .inl (τ 0, 16816, .inl (S0))), (e10, .inl (τ 0, 200, .inl (g9))), (e11, .inl (τ 0, 200, .inl (hs)))] H locs → W p l e ({ frames := 3, cells := 0, slots := 0, locals := 69 } : Room) s m args below meth c H locs 0 0 Q (F0 m 25 ls []) := by
  intro k
  induction k with
  | zero =>
    intro i x14 x15 g9 hs H locs ls hi h1 hl Y
    have hi : i = min n 1000 := by omega
    rw [hi] at hl
    by_cases hm : n < 1000
    · refine lv_iload B.1 B.2.1 dX10_bestLong_25 (lv_at hl 0 rfl) ?_
      refine lv_sipush (v := 1000) B.1 B.2.1 dX10_bestLong_27 (by decide) ?_
      refine lv_icmp_gt (tgt := 98) B.1 B.2.1 dX10_bestLong_30 (by decide) (fun h => absurd h (nI_nlt (a := 1000) (by omega) (by omega))) (fun _ => ?_)
      refine lv_iload B.1 B.2.1 dX10_bestLong_33 (lv_at hl 0 rfl) ?_
      refine lv_iload_n B.1 B.2.1 dX10_bestLong_35 rfl (lv_at hl 4 rfl) ?_
      refine lv_icmp_gt (tgt := 98) B.1 B.2.1 dX10_bestLong_36 (by decide) (fun _ => ?_) (fun h => absurd (nI_lt (by omega) (by omega)) h)
      exact kx x14 x15 g9 hs H locs ls (lv_sub hl [0, 1, 2, 3, 4] rfl) Y
    · refine lv_iload B.1 B.2.1 dX10_bestLong_25 (lv_at hl 0 rfl) ?_
      refine lv_sipush (v := 1000) B.1 B.2.1 dX10_bestLong_27 (by decide) ?_
      refine lv_icmp_gt (tgt := 98) B.1 B.2.1 dX10_bestLong_30 (by decide) (fun _ => ?_) (fun h => absurd (nI_lt (a := 1000) (by omega) (by omega)) h)
      exact kx x14 x15 g9 hs H locs ls (lv_sub hl [0, 1, 2, 3, 4] rfl) Y
  | succ k ih =>
    intro i x14 x15 g9 hs H locs ls hi h1 hl Y
    have hb1 := bestN_in n i
    have hb2 : bestN n i ≤ i := bestN_le n h1
    have hlt := Nat.mod_lt n (show 0 < i + 1 by omega)
    have w1 := wbN_lt hn (show 1 ≤ i + 1 by omega) (show i + 1 ≤ 1000 by omega)
    have w2 := wbN_lt hn hb1.1 (show bestN n i ≤ 1000 by omega)
    by_cases hq : n % (i + 1) = 0
    · refine lv_iload B.1 B.2.1 dX10_bestLong_25 (lv_at hl 0 rfl) ?_
      refine lv_sipush (v := 1000) B.1 B.2.1 dX10_bestLong_27 (by decide) ?_
      refine lv_icmp_gt (tgt := 98) B.1 B.2.1 dX10_bestLong_30 (by decide) (fun h => absurd h (nI_nlt (a := 1000) (by omega) (by omega))) (fun _ => ?_)
      refine lv_iload B.1 B.2.1 dX10_bestLong_33 (lv_at hl 0 rfl) ?_
      refine lv_iload_n B.1 B.2.1 dX10_bestLong_35 rfl (lv_at hl 4 rfl) ?_
      refine lv_icmp_gt (tgt := 98) B.1 B.2.1 dX10_bestLong_36 (by decide) (fun h => absurd h (nI_nlt (by omega) (by omega))) (fun _ => ?_)
      refine lv_iload_n B.1 B.2.1 dX10_bestLong_39 rfl (lv_at hl 4 rfl) ?_
      refine lv_iload B.1 B.2.1 dX10_bestLong_40 (lv_at hl 0 rfl) ?_
      refine lv_idiv B.1 B.2.1 dX10_bestLong_42 (nI_ne0 (by omega) (by omega)) ?_
      refine lv_cv (v := (nI (n / (i + 1)))) (pk_div (by omega) (by omega) (by omega)) ?_
      refine lv_aload_n B.1 B.2.1 dX10_bestLong_43 rfl (lv_at hl 3 rfl) ?_
      refine lv_iload B.1 B.2.1 dX10_bestLong_44 (lv_at hl 0 rfl) ?_
      refine retI (wc := [(mo, .inr (10, [.ref e0, .ref e1, .ref e2, .ref e3, .ref e4, .int 0, .int 0, .int 0, .ref e5, .int 0, .int 0, .int 0, .int 0, .int 0, .int 0, .int 0, .int (-1), .int 0, .int 0, .ref e6, .ref e7, .ref e8, .ref e9, .int 0, .ref e10, .ref e11, .int x14, .int x15, .ref e12, .int 0])), (e0, .inl (τ 0, 16816, .inl (S0))), (e10, .inl (τ 0, 200, .inl (g9))), (e11, .inl (τ 0, 200, .inl (hs)))]) (wr := []) Y [0, 1, 2, 3] [] rfl rfl (by decide) (by decide) (rV (As := [.int (nI (i + 1))]) (rest := [.int (nI (n / (i + 1)))]) (q0 := 0) B Y [0, 1, 2, 3] (by decide) rfl (k_burdenOf l D τ _ mo e0 e1 e2 e3 e4 e5 e6 e7 e8 e9 e10 e11 e12 0 0 0 0 0 0 0 0 0 0 (-1) 0 0 0 x14 x15 0 (S0) (rfl) (rfl) (g9) (hs) (i + 1) (by omega)) rfl rfl q_2019 q_2021 qp_126 q_12 q_2022 rfl rfl hd_X10_burdenOf ⟨(Nat.le_of_ble_eq_true rfl), (Nat.le_of_ble_eq_true rfl)⟩ rfl hl.1 rfl (Nat.le_of_ble_eq_true rfl) dX10_bestLong_46 ⟨(Nat.le_of_ble_eq_true rfl), (Nat.le_of_ble_eq_true rfl)⟩) (fun r u H locs hw Y => ?_)
      have hw : r = nI (bdN 0 1 (i + 1)) := hw
      subst hw
      obtain ⟨g1, g2⟩ := u
      have Y : Wd D τ s A H0 [(mo, .inr (10, [.ref e0, .ref e1, .ref e2, .ref e3, .ref e4, .int 0, .int 0, .int 0, .ref e5, .int 0, .int 0, .int 0, .int 0, .int 0, .int 0, .int 0, .int (-1), .int 0, .int 0, .ref e6, .ref e7, .ref e8, .ref e9, .int 0, .ref e10, .ref e11, .int 1, .int (nI (cutN (i + 1) + 1)), .ref e12, .int 0])), (e0, .inl (τ 0, 16816, .inl (S0))), (e10, .inl (τ 0, 200, .inl (g1))), (e11, .inl (τ 0, 200, .inl (g2)))] H _ := Y
      refine lv_imul B.1 B.2.1 dX10_bestLong_49 ?_
      refine lv_cv (v := (nI (n / (i + 1) * bdN 0 1 (i + 1)))) (pk_mul _ _) ?_
      refine lv_iload_n B.1 B.2.1 dX10_bestLong_50 rfl (lv_at hl 4 rfl) ?_
      refine lv_iload B.1 B.2.1 dX10_bestLong_51 (lv_at hl 0 rfl) ?_
      refine lv_irem B.1 B.2.1 dX10_bestLong_53 (nI_ne0 (by omega) (by omega)) ?_
      refine lv_cv (v := (nI (n % (i + 1)))) (pk_rem (by omega) (by omega) (by omega)) ?_
      refine lv_if_ne (tgt := 61) B.1 B.2.1 dX10_bestLong_54 (by decide) (fun h => absurd (by rw [hq]; rfl) h) (fun _ => ?_)
      refine lv_iconst (v := 0) B.1 B.2.1 dX10_bestLong_57 (by decide) ?_
      refine lv_goto (tgt := 69) B.1 B.2.1 dX10_bestLong_58 (by decide) ?_
      refine lv_iadd B.1 B.2.1 dX10_bestLong_69 ?_
      refine lv_cv (v := (nI (wbN n (i + 1)))) ((Int32.add_zero _).trans (by unfold wbN; rw [if_pos hq]; rfl)) ?_
      refine lv_istore (lv' := [(5, .int (nI (wbN n (i + 1)))), (4, .int (nI (i + 1))), (3, .int (nI (wbN n (bestN n i)))), (2, .int (nI (bestN n i))), (0, .ref mo), (1, .int (nI n))]) B.1 B.2.1 dX10_bestLong_70 hl (by decide) rfl (fun ls hl => ?_)
      refine lv_iload_n B.1 B.2.1 dX10_bestLong_72 rfl (lv_at hl 3 rfl) ?_
      refine lv_iconst (v := (-1)) B.1 B.2.1 dX10_bestLong_73 (by decide) ?_
      refine lv_icmp_eq (tgt := 86) B.1 B.2.1 dX10_bestLong_74 (by decide) (fun h => absurd h (nIm (by omega))) (fun _ => ?_)
      refine lv_iload B.1 B.2.1 dX10_bestLong_77 (lv_at hl 0 rfl) ?_
      refine lv_iload_n B.1 B.2.1 dX10_bestLong_79 rfl (lv_at hl 2 rfl) ?_
      refine lv_icmp_le (tgt := 86) B.1 B.2.1 dX10_bestLong_80 (by decide) (fun c3 => ?_) (fun c3 => ?_)
      · refine lv_iload B.1 B.2.1 dX10_bestLong_86 (lv_at hl 1 rfl) ?_
        refine lv_istore_n (lv' := [(2, .int (nI (i + 1))), (5, .int (nI (wbN n (i + 1)))), (4, .int (nI (i + 1))), (3, .int (nI (wbN n (bestN n i)))), (0, .ref mo), (1, .int (nI n))]) B.1 B.2.1 dX10_bestLong_88 rfl hl (by decide) rfl (fun ls hl => ?_)
        refine lv_iload B.1 B.2.1 dX10_bestLong_89 (lv_at hl 1 rfl) ?_
        refine lv_istore_n (lv' := [(3, .int (nI (wbN n (i + 1)))), (2, .int (nI (i + 1))), (5, .int (nI (wbN n (i + 1)))), (4, .int (nI (i + 1))), (0, .ref mo), (1, .int (nI n))]) B.1 B.2.1 dX10_bestLong_91 rfl hl (by decide) rfl (fun ls hl => ?_)
        refine lv_iinc (v := (nI (i + 1 + 1))) (lv' := [(4, .int (nI (i + 1 + 1))), (3, .int (nI (wbN n (i + 1)))), (2, .int (nI (i + 1))), (5, .int (nI (wbN n (i + 1)))), (0, .ref mo), (1, .int (nI n))]) B.1 B.2.1 dX10_bestLong_92 hl (k := 3) rfl (nI_1 _) (by decide) rfl (fun ls hl => ?_)
        refine lv_goto (tgt := 25) B.1 B.2.1 dX10_bestLong_95 (by decide) ?_
        have e : bestN n (i + 1) = i + 1 := by show (if _ then _ else _) = _; exact if_pos ((nI_leI (by omega) (by omega)).mp c3)
        refine ih (i + 1) 1 (nI (cutN (i + 1) + 1)) (g1) (g2) H locs ls (by omega) (by omega) ?_ Y
        rw [e]
        exact lv_sub hl [0, 1, 2, 4, 5] rfl
      · refine lv_goto (tgt := 92) B.1 B.2.1 dX10_bestLong_83 (by decide) ?_
        refine lv_iinc (v := (nI (i + 1 + 1))) (lv' := [(4, .int (nI (i + 1 + 1))), (5, .int (nI (wbN n (i + 1)))), (3, .int (nI (wbN n (bestN n i)))), (2, .int (nI (bestN n i))), (0, .ref mo), (1, .int (nI n))]) B.1 B.2.1 dX10_bestLong_92 hl (k := 1) rfl (nI_1 _) (by decide) rfl (fun ls hl => ?_)
        refine lv_goto (tgt := 25) B.1 B.2.1 dX10_bestLong_95 (by decide) ?_
        have e : bestN n (i + 1) = bestN n i := by show (if _ then _ else _) = _; exact if_neg (fun q => c3 ((nI_leI (by omega) (by omega)).mpr q))
        refine ih (i + 1) 1 (nI (cutN (i + 1) + 1)) (g1) (g2) H locs ls (by omega) (by omega) ?_ Y
        rw [e]
        exact lv_sub hl [0, 2, 3, 4, 5] rfl
    · refine lv_iload B.1 B.2.1 dX10_bestLong_25 (lv_at hl 0 rfl) ?_
      refine lv_sipush (v := 1000) B.1 B.2.1 dX10_bestLong_27 (by decide) ?_
      refine lv_icmp_gt (tgt := 98) B.1 B.2.1 dX10_bestLong_30 (by decide) (fun h => absurd h (nI_nlt (a := 1000) (by omega) (by omega))) (fun _ => ?_)
      refine lv_iload B.1 B.2.1 dX10_bestLong_33 (lv_at hl 0 rfl) ?_
      refine lv_iload_n B.1 B.2.1 dX10_bestLong_35 rfl (lv_at hl 4 rfl) ?_
      refine lv_icmp_gt (tgt := 98) B.1 B.2.1 dX10_bestLong_36 (by decide) (fun h => absurd h (nI_nlt (by omega) (by omega))) (fun _ => ?_)
      refine lv_iload_n B.1 B.2.1 dX10_bestLong_39 rfl (lv_at hl 4 rfl) ?_
      refine lv_iload B.1 B.2.1 dX10_bestLong_40 (lv_at hl 0 rfl) ?_
      refine lv_idiv B.1 B.2.1 dX10_bestLong_42 (nI_ne0 (by omega) (by omega)) ?_
      refine lv_cv (v := (nI (n / (i + 1)))) (pk_div (by omega) (by omega) (by omega)) ?_
      refine lv_aload_n B.1 B.2.1 dX10_bestLong_43 rfl (lv_at hl 3 rfl) ?_
      refine lv_iload B.1 B.2.1 dX10_bestLong_44 (lv_at hl 0 rfl) ?_
      refine retI (wc := [(mo, .inr (10, [.ref e0, .ref e1, .ref e2, .ref e3, .ref e4, .int 0, .int 0, .int 0, .ref e5, .int 0, .int 0, .int 0, .int 0, .int 0, .int 0, .int 0, .int (-1), .int 0, .int 0, .ref e6, .ref e7, .ref e8, .ref e9, .int 0, .ref e10, .ref e11, .int x14, .int x15, .ref e12, .int 0])), (e0, .inl (τ 0, 16816, .inl (S0))), (e10, .inl (τ 0, 200, .inl (g9))), (e11, .inl (τ 0, 200, .inl (hs)))]) (wr := []) Y [0, 1, 2, 3] [] rfl rfl (by decide) (by decide) (rV (As := [.int (nI (i + 1))]) (rest := [.int (nI (n / (i + 1)))]) (q0 := 0) B Y [0, 1, 2, 3] (by decide) rfl (k_burdenOf l D τ _ mo e0 e1 e2 e3 e4 e5 e6 e7 e8 e9 e10 e11 e12 0 0 0 0 0 0 0 0 0 0 (-1) 0 0 0 x14 x15 0 (S0) (rfl) (rfl) (g9) (hs) (i + 1) (by omega)) rfl rfl q_2019 q_2021 qp_126 q_12 q_2022 rfl rfl hd_X10_burdenOf ⟨(Nat.le_of_ble_eq_true rfl), (Nat.le_of_ble_eq_true rfl)⟩ rfl hl.1 rfl (Nat.le_of_ble_eq_true rfl) dX10_bestLong_46 ⟨(Nat.le_of_ble_eq_true rfl), (Nat.le_of_ble_eq_true rfl)⟩) (fun r u H locs hw Y => ?_)
      have hw : r = nI (bdN 0 1 (i + 1)) := hw
      subst hw
      obtain ⟨g1, g2⟩ := u
      have Y : Wd D τ s A H0 [(mo, .inr (10, [.ref e0, .ref e1, .ref e2, .ref e3, .ref e4, .int 0, .int 0, .int 0, .ref e5, .int 0, .int 0, .int 0, .int 0, .int 0, .int 0, .int 0, .int (-1), .int 0, .int 0, .ref e6, .ref e7, .ref e8, .ref e9, .int 0, .ref e10, .ref e11, .int 1, .int (nI (cutN (i + 1) + 1)), .ref e12, .int 0])), (e0, .inl (τ 0, 16816, .inl (S0))), (e10, .inl (τ 0, 200, .inl (g1))), (e11, .inl (τ 0, 200, .inl (g2)))] H _ := Y
      refine lv_imul B.1 B.2.1 dX10_bestLong_49 ?_
      refine lv_cv (v := (nI (n / (i + 1) * bdN 0 1 (i + 1)))) (pk_mul _ _) ?_
      refine lv_iload_n B.1 B.2.1 dX10_bestLong_50 rfl (lv_at hl 4 rfl) ?_
      refine lv_iload B.1 B.2.1 dX10_bestLong_51 (lv_at hl 0 rfl) ?_
      refine lv_irem B.1 B.2.1 dX10_bestLong_53 (nI_ne0 (by omega) (by omega)) ?_
      refine lv_cv (v := (nI (n % (i + 1)))) (pk_rem (by omega) (by omega) (by omega)) ?_
      refine lv_if_ne (tgt := 61) B.1 B.2.1 dX10_bestLong_54 (by decide) (fun _ => ?_) (fun h => absurd h (nI_ne0 (Nat.pos_of_ne_zero hq) (by omega)))
      refine lv_aload_n B.1 B.2.1 dX10_bestLong_61 rfl (lv_at hl 3 rfl) ?_
      refine lv_iload_n B.1 B.2.1 dX10_bestLong_62 rfl (lv_at hl 4 rfl) ?_
      refine lv_iload B.1 B.2.1 dX10_bestLong_63 (lv_at hl 0 rfl) ?_
      refine lv_irem B.1 B.2.1 dX10_bestLong_65 (nI_ne0 (by omega) (by omega)) ?_
      refine lv_cv (v := (nI (n % (i + 1)))) (pk_rem (by omega) (by omega) (by omega)) ?_
      refine retI (wc := [(mo, .inr (10, [.ref e0, .ref e1, .ref e2, .ref e3, .ref e4, .int 0, .int 0, .int 0, .ref e5, .int 0, .int 0, .int 0, .int 0, .int 0, .int 0, .int 0, .int (-1), .int 0, .int 0, .ref e6, .ref e7, .ref e8, .ref e9, .int 0, .ref e10, .ref e11, .int 1, .int (nI (cutN (i + 1) + 1)), .ref e12, .int 0])), (e0, .inl (τ 0, 16816, .inl (S0))), (e10, .inl (τ 0, 200, .inl (g1))), (e11, .inl (τ 0, 200, .inl (g2)))]) (wr := []) Y [0, 1, 2, 3] [] rfl rfl (by decide) (by decide) (rV (As := [.int (nI (n % (i + 1)))]) (rest := [.int (nI (n / (i + 1) * bdN 0 1 (i + 1)))]) (q0 := 0) B Y [0, 1, 2, 3] (by decide) rfl (k_burdenOf l D τ _ mo e0 e1 e2 e3 e4 e5 e6 e7 e8 e9 e10 e11 e12 0 0 0 0 0 0 0 0 0 0 (-1) 0 0 0 1 (nI (cutN (i + 1) + 1)) 0 (S0) (rfl) (rfl) (g1) (g2) (n % (i + 1)) (by omega)) rfl rfl q_2019 q_2021 qp_126 q_12 q_2022 rfl rfl hd_X10_burdenOf ⟨(Nat.le_of_ble_eq_true rfl), (Nat.le_of_ble_eq_true rfl)⟩ rfl hl.1 rfl (Nat.le_of_ble_eq_true rfl) dX10_bestLong_66 ⟨(Nat.le_of_ble_eq_true rfl), (Nat.le_of_ble_eq_true rfl)⟩) (fun r u H locs hw Y => ?_)
      have hw : r = nI (bdN 0 1 (n % (i + 1))) := hw
      subst hw
      obtain ⟨g3, g4⟩ := u
      have Y : Wd D τ s A H0 [(mo, .inr (10, [.ref e0, .ref e1, .ref e2, .ref e3, .ref e4, .int 0, .int 0, .int 0, .ref e5, .int 0, .int 0, .int 0, .int 0, .int 0, .int 0, .int 0, .int (-1), .int 0, .int 0, .ref e6, .ref e7, .ref e8, .ref e9, .int 0, .ref e10, .ref e11, .int 1, .int (nI (cutN (n % (i + 1)) + 1)), .ref e12, .int 0])), (e0, .inl (τ 0, 16816, .inl (S0))), (e10, .inl (τ 0, 200, .inl (g3))), (e11, .inl (τ 0, 200, .inl (g4)))] H _ := Y
      refine lv_iadd B.1 B.2.1 dX10_bestLong_69 ?_
      refine lv_cv (v := (nI (wbN n (i + 1)))) (by unfold wbN; rw [if_neg hq]; exact nI_add _ _) ?_
      refine lv_istore (lv' := [(5, .int (nI (wbN n (i + 1)))), (4, .int (nI (i + 1))), (3, .int (nI (wbN n (bestN n i)))), (2, .int (nI (bestN n i))), (0, .ref mo), (1, .int (nI n))]) B.1 B.2.1 dX10_bestLong_70 hl (by decide) rfl (fun ls hl => ?_)
      refine lv_iload_n B.1 B.2.1 dX10_bestLong_72 rfl (lv_at hl 3 rfl) ?_
      refine lv_iconst (v := (-1)) B.1 B.2.1 dX10_bestLong_73 (by decide) ?_
      refine lv_icmp_eq (tgt := 86) B.1 B.2.1 dX10_bestLong_74 (by decide) (fun h => absurd h (nIm (by omega))) (fun _ => ?_)
      refine lv_iload B.1 B.2.1 dX10_bestLong_77 (lv_at hl 0 rfl) ?_
      refine lv_iload_n B.1 B.2.1 dX10_bestLong_79 rfl (lv_at hl 2 rfl) ?_
      refine lv_icmp_le (tgt := 86) B.1 B.2.1 dX10_bestLong_80 (by decide) (fun c5 => ?_) (fun c5 => ?_)
      · refine lv_iload B.1 B.2.1 dX10_bestLong_86 (lv_at hl 1 rfl) ?_
        refine lv_istore_n (lv' := [(2, .int (nI (i + 1))), (5, .int (nI (wbN n (i + 1)))), (4, .int (nI (i + 1))), (3, .int (nI (wbN n (bestN n i)))), (0, .ref mo), (1, .int (nI n))]) B.1 B.2.1 dX10_bestLong_88 rfl hl (by decide) rfl (fun ls hl => ?_)
        refine lv_iload B.1 B.2.1 dX10_bestLong_89 (lv_at hl 1 rfl) ?_
        refine lv_istore_n (lv' := [(3, .int (nI (wbN n (i + 1)))), (2, .int (nI (i + 1))), (5, .int (nI (wbN n (i + 1)))), (4, .int (nI (i + 1))), (0, .ref mo), (1, .int (nI n))]) B.1 B.2.1 dX10_bestLong_91 rfl hl (by decide) rfl (fun ls hl => ?_)
        refine lv_iinc (v := (nI (i + 1 + 1))) (lv' := [(4, .int (nI (i + 1 + 1))), (3, .int (nI (wbN n (i + 1)))), (2, .int (nI (i + 1))), (5, .int (nI (wbN n (i + 1)))), (0, .ref mo), (1, .int (nI n))]) B.1 B.2.1 dX10_bestLong_92 hl (k := 3) rfl (nI_1 _) (by decide) rfl (fun ls hl => ?_)
        refine lv_goto (tgt := 25) B.1 B.2.1 dX10_bestLong_95 (by decide) ?_
        have e : bestN n (i + 1) = i + 1 := by show (if _ then _ else _) = _; exact if_pos ((nI_leI (by omega) (by omega)).mp c5)
        refine ih (i + 1) 1 (nI (cutN (n % (i + 1)) + 1)) (g3) (g4) H locs ls (by omega) (by omega) ?_ Y
        rw [e]
        exact lv_sub hl [0, 1, 2, 4, 5] rfl
      · refine lv_goto (tgt := 92) B.1 B.2.1 dX10_bestLong_83 (by decide) ?_
        refine lv_iinc (v := (nI (i + 1 + 1))) (lv' := [(4, .int (nI (i + 1 + 1))), (5, .int (nI (wbN n (i + 1)))), (3, .int (nI (wbN n (bestN n i)))), (2, .int (nI (bestN n i))), (0, .ref mo), (1, .int (nI n))]) B.1 B.2.1 dX10_bestLong_92 hl (k := 1) rfl (nI_1 _) (by decide) rfl (fun ls hl => ?_)
        refine lv_goto (tgt := 25) B.1 B.2.1 dX10_bestLong_95 (by decide) ?_
        have e : bestN n (i + 1) = bestN n i := by show (if _ then _ else _) = _; exact if_neg (fun q => c5 ((nI_leI (by omega) (by omega)).mpr q))
        refine ih (i + 1) 1 (nI (cutN (n % (i + 1)) + 1)) (g3) (g4) H locs ls (by omega) (by omega) ?_ Y
        rw [e]
        exact lv_sub hl [0, 2, 3, 4, 5] rfl

set_option maxHeartbeats 4000000 in
set_option maxRecDepth 100000 in
theorem r_bestLong (l : Launch) (D : va_G) (τ : Nat → ClassId) (sz : Nat) (mo e0 e1 e2 e3 e4 e5 e6 e7 e8 e9 e10 e11 e12 : Nat) (k : Int32) : Met l yX10_bestLong (Cond.code yX10_bestLong cX10_bestLong 6 (some .int) :: wALL) { frames := 3, cells := 0, slots := 0, locals := 69 } (Pw D τ [(mo, .inr (10, [.ref e0, .ref e1, .ref e2, .ref e3, .ref e4, .int 0, .int 0, .int 0, .ref e5, .int 0, .int 0, .int 0, .int 0, .int 0, .int 0, .int 0, .int (-1), .int 0, .int 0, .ref e6, .ref e7, .ref e8, .ref e9, .int 0, .ref e10, .ref e11, .int 0, .int 0, .ref e12, .int 0])), (e0, .inl (τ 0, 16816, .inl (S0))), (e10, .inl (τ 0, 200, .inl (fun _ => 0))), (e11, .inl (τ 0, 200, .inl (fun _ => 0)))] sz [.ref mo, .int k]) (va_Qi (fun (r : Int32) (u : Nat → Int32) => (∀ n : Nat, 1 ≤ n → n ≤ 3000 → k = nI n → r = nI (bestN n (min n 1000)) ∧ u 1 = 0) ∧ (k < 1 ∨ 3000 < k → u 1 = 1)) (Bw D (va_A [(mo, .inr (10, [.ref e0, .ref e1, .ref e2, .ref e3, .ref e4, .int 0, .int 0, .int 0, .ref e5, .int 0, .int 0, .int 0, .int 0, .int 0, .int 0, .int 0, .int (-1), .int 0, .int 0, .ref e6, .ref e7, .ref e8, .ref e9, .int 0, .ref e10, .ref e11, .int 0, .int 0, .ref e12, .int 0])), (e0, .inl (τ 0, 16816, .inl (S0))), (e10, .inl (τ 0, 200, .inl (fun _ => 0))), (e11, .inl (τ 0, 200, .inl (fun _ => 0)))] sz) (fun (u : Nat → Int32) => [(mo, .inr (10, [.ref e0, .ref e1, .ref e2, .ref e3, .ref e4, .int (u 0), .int (u 1), .int (u 2), .ref e5, .int (u 3), .int (u 4), .int (u 5), .int (u 6), .int (u 7), .int (u 8), .int (u 9), .int (u 10), .int (u 11), .int (u 12), .ref e6, .ref e7, .ref e8, .ref e9, .int (u 13), .ref e10, .ref e11, .int (u 14), .int (u 15), .ref e12, .int (u 16)]))])) (va_A [(mo, .inr (10, [.ref e0, .ref e1, .ref e2, .ref e3, .ref e4, .int 0, .int 0, .int 0, .ref e5, .int 0, .int 0, .int 0, .int 0, .int 0, .int 0, .int 0, .int (-1), .int 0, .int 0, .ref e6, .ref e7, .ref e8, .ref e9, .int 0, .ref e10, .ref e11, .int 0, .int 0, .ref e12, .int 0])), (e0, .inl (τ 0, 16816, .inl (S0))), (e10, .inl (τ 0, 200, .inl (fun _ => 0))), (e11, .inl (τ 0, 200, .inl (fun _ => 0)))] sz)) 0 0 (va_A [(mo, .inr (10, [.ref e0, .ref e1, .ref e2, .ref e3, .ref e4, .int 0, .int 0, .int 0, .ref e5, .int 0, .int 0, .int 0, .int 0, .int 0, .int 0, .int 0, .int (-1), .int 0, .int 0, .ref e6, .ref e7, .ref e8, .ref e9, .int 0, .ref e10, .ref e11, .int 0, .int 0, .ref e12, .int 0])), (e0, .inl (τ 0, 16816, .inl (S0))), (e10, .inl (τ 0, 200, .inl (fun _ => 0))), (e11, .inl (τ 0, 200, .inl (fun _ => 0)))] sz) := by
  refine bodyW (by decide) (Nat.le_of_ble_eq_true rfl) (fun p e s m below meth c ls B hr hlk hin hsz Y hl => ?_)
  have hl : lv_has ls 6 [(0, .ref mo), (1, .int k)] := hl
  have B : CallFix p m c cX10_bestLong 6 s _ wALL RX10 := B
  generalize va_A [(mo, .inr (10, [.ref e0, .ref e1, .ref e2, .ref e3, .ref e4, .int 0, .int 0, .int 0, .ref e5, .int 0, .int 0, .int 0, .int 0, .int 0, .int 0, .int 0, .int (-1), .int 0, .int 0, .ref e6, .ref e7, .ref e8, .ref e9, .int 0, .ref e10, .ref e11, .int 0, .int 0, .ref e12, .int 0])), (e0, .inl (τ 0, 16816, .inl (S0))), (e10, .inl (τ 0, 200, .inl (fun _ => 0))), (e11, .inl (τ 0, 200, .inl (fun _ => 0)))] sz = A at Y ⊢
  by_cases hk : ¬ k < 1 ∧ ¬ 3000 < k
  · have hk0 := hk
    obtain ⟨n, hb0, hba, hbb⟩ := i_rng (a := 1) (b := 3000) (by decide) (by decide) hk.1 hk.2
    subst hb0
    have hl : lv_has ls 6 [(0, .ref mo), (1, .int (nI n))] := hl
    refine lv_aload_n B.1 B.2.1 dX10_bestLong_0 rfl (lv_at hl 0 rfl) ?_
    refine lv_iload_n B.1 B.2.1 dX10_bestLong_1 rfl (lv_at hl 1 rfl) ?_
    refine lv_i2l B.1 B.2.1 dX10_bestLong_2 rfl ?_
    refine lv_lconst (v := Int32.toInt64 1) B.1 B.2.1 dX10_bestLong_3 (by decide) ?_
    refine lv_ldc2 B.1 B.2.1 B.2.2.2.1 (B.2.2.2.2 _ q_2027) dX10_bestLong_4 ?_
    refine t_cvL (v := Int32.toInt64 3000) (by decide) ?_
    refine retI (wc := []) (wr := [(mo, .inr (10, [.ref e0, .ref e1, .ref e2, .ref e3, .ref e4, .int 0, .int 0, .int 0, .ref e5, .int 0, .int 0, .int 0, .int 0, .int 0, .int 0, .int 0, .int (-1), .int 0, .int 0, .ref e6, .ref e7, .ref e8, .ref e9, .int 0, .ref e10, .ref e11, .int 0, .int 0, .ref e12, .int 0])), (e0, .inl (τ 0, 16816, .inl (S0))), (e10, .inl (τ 0, 200, .inl (fun _ => 0))), (e11, .inl (τ 0, 200, .inl (fun _ => 0)))]) Y [] [0, 1, 2, 3] rfl rfl (by decide) (by decide) (rS (As := [.long (Int32.toInt64 (nI n)), .long (Int32.toInt64 1), .long (Int32.toInt64 3000)]) (rest := [.ref mo]) B Y [] (by decide) rfl (k_in l D τ _ (nI n) 1 3000) q_1593 q_1594 q_12 q_1595 rfl rfl hd_X10_in ⟨(Nat.le_of_ble_eq_true rfl), (Nat.le_of_ble_eq_true rfl)⟩ rfl hl.1 rfl (Nat.le_of_ble_eq_true rfl) dX10_bestLong_7 ⟨(Nat.le_of_ble_eq_true rfl), (Nat.le_of_ble_eq_true rfl)⟩) (fun r u H locs hw Y => ?_)
    have hw : r = 1 := hw.1 hk0
    subst hw
    have Y : Wd D τ s A s.heap [(mo, .inr (10, [.ref e0, .ref e1, .ref e2, .ref e3, .ref e4, .int 0, .int 0, .int 0, .ref e5, .int 0, .int 0, .int 0, .int 0, .int 0, .int 0, .int 0, .int (-1), .int 0, .int 0, .ref e6, .ref e7, .ref e8, .ref e9, .int 0, .ref e10, .ref e11, .int 0, .int 0, .ref e12, .int 0])), (e0, .inl (τ 0, 16816, .inl (S0))), (e10, .inl (τ 0, 200, .inl (fun _ => 0))), (e11, .inl (τ 0, 200, .inl (fun _ => 0)))] H _ := Y
    refine retI (wc := [(mo, .inr (10, [.ref e0, .ref e1, .ref e2, .ref e3, .ref e4, .int 0, .int 0, .int 0, .ref e5, .int 0, .int 0, .int 0, .int 0, .int 0, .int 0, .int 0, .int (-1), .int 0, .int 0, .ref e6, .ref e7, .ref e8, .ref e9, .int 0, .ref e10, .ref e11, .int 0, .int 0, .ref e12, .int 0]))]) (wr := [(e0, .inl (τ 0, 16816, .inl (S0))), (e10, .inl (τ 0, 200, .inl (fun _ => 0))), (e11, .inl (τ 0, 200, .inl (fun _ => 0)))]) Y [0] [1, 2, 3] rfl rfl (by decide) (by decide) (rV (As := [.int 1]) (rest := []) (q0 := 0) B Y [0] (by decide) rfl (k_passes1 l D τ _ mo e0 e1 e2 e3 e4 e5 e6 e7 e8 e9 e10 e11 e12 0 0 0 0 0 0 0 0 0 0 (-1) 0 0 0 0 0 0) rfl rfl q_1581 q_1583 qp_46 q_12 q_1584 rfl rfl hd_X10_passes ⟨(Nat.le_of_ble_eq_true rfl), (Nat.le_of_ble_eq_true rfl)⟩ rfl hl.1 rfl (Nat.le_of_ble_eq_true rfl) dX10_bestLong_10 ⟨(Nat.le_of_ble_eq_true rfl), (Nat.le_of_ble_eq_true rfl)⟩) (fun r u H locs hw Y => ?_)
    have hw : r = 1 := hw
    subst hw
    have Y : Wd D τ s A s.heap [(e0, .inl (τ 0, 16816, .inl (S0))), (e10, .inl (τ 0, 200, .inl (fun _ => 0))), (e11, .inl (τ 0, 200, .inl (fun _ => 0))), (mo, .inr (10, [.ref e0, .ref e1, .ref e2, .ref e3, .ref e4, .int 0, .int 0, .int 0, .ref e5, .int 0, .int 0, .int 0, .int 0, .int 0, .int 0, .int 0, .int (-1), .int 0, .int 0, .ref e6, .ref e7, .ref e8, .ref e9, .int 0, .ref e10, .ref e11, .int 0, .int 0, .ref e12, .int 0]))] H _ := Y
    refine lv_if_ne (tgt := 18) B.1 B.2.1 dX10_bestLong_13 (by decide) (fun _ => ?_) (fun h => absurd h (by decide))
    refine lv_iconst (v := (-1)) B.1 B.2.1 dX10_bestLong_18 (by decide) ?_
    refine lv_istore_n (lv' := [(2, .int (-1)), (0, .ref mo), (1, .int (nI n))]) B.1 B.2.1 dX10_bestLong_19 rfl hl (by decide) rfl (fun ls hl => ?_)
    refine lv_iconst (v := 0) B.1 B.2.1 dX10_bestLong_20 (by decide) ?_
    refine lv_istore_n (lv' := [(3, .int 0), (2, .int (-1)), (0, .ref mo), (1, .int (nI n))]) B.1 B.2.1 dX10_bestLong_21 rfl hl (by decide) rfl (fun ls hl => ?_)
    refine lv_iconst (v := 1) B.1 B.2.1 dX10_bestLong_22 (by decide) ?_
    refine lv_istore (lv' := [(4, .int 1), (3, .int 0), (2, .int (-1)), (0, .ref mo), (1, .int (nI n))]) B.1 B.2.1 dX10_bestLong_23 hl (by decide) rfl (fun ls hl => ?_)
    refine lv_iload B.1 B.2.1 dX10_bestLong_25 (lv_at hl 0 rfl) ?_
    refine lv_sipush (v := 1000) B.1 B.2.1 dX10_bestLong_27 (by decide) ?_
    refine lv_icmp_gt (tgt := 98) B.1 B.2.1 dX10_bestLong_30 (by decide) (fun h => absurd h (by decide)) (fun _ => ?_)
    refine lv_iload B.1 B.2.1 dX10_bestLong_33 (lv_at hl 0 rfl) ?_
    refine lv_iload_n B.1 B.2.1 dX10_bestLong_35 rfl (lv_at hl 4 rfl) ?_
    refine lv_icmp_gt (tgt := 98) B.1 B.2.1 dX10_bestLong_36 (by decide) (fun h => absurd h (nI_nlt (b := 1) (by omega) (by omega))) (fun _ => ?_)
    refine lv_iload_n B.1 B.2.1 dX10_bestLong_39 rfl (lv_at hl 4 rfl) ?_
    refine lv_iload B.1 B.2.1 dX10_bestLong_40 (lv_at hl 0 rfl) ?_
    refine lv_idiv B.1 B.2.1 dX10_bestLong_42 (by decide) ?_
    refine lv_cv (v := (nI n)) (i_div1 n (by omega)) ?_
    refine lv_aload_n B.1 B.2.1 dX10_bestLong_43 rfl (lv_at hl 3 rfl) ?_
    refine lv_iload B.1 B.2.1 dX10_bestLong_44 (lv_at hl 0 rfl) ?_
    refine retI (wc := [(mo, .inr (10, [.ref e0, .ref e1, .ref e2, .ref e3, .ref e4, .int 0, .int 0, .int 0, .ref e5, .int 0, .int 0, .int 0, .int 0, .int 0, .int 0, .int 0, .int (-1), .int 0, .int 0, .ref e6, .ref e7, .ref e8, .ref e9, .int 0, .ref e10, .ref e11, .int 0, .int 0, .ref e12, .int 0])), (e0, .inl (τ 0, 16816, .inl (S0))), (e10, .inl (τ 0, 200, .inl (fun _ => 0))), (e11, .inl (τ 0, 200, .inl (fun _ => 0)))]) (wr := []) Y [3, 0, 1, 2] [] rfl rfl (by decide) (by decide) (rV (As := [.int 1]) (rest := [.int (nI n)]) (q0 := 3) B Y [3, 0, 1, 2] (by decide) rfl (k_burdenOf l D τ _ mo e0 e1 e2 e3 e4 e5 e6 e7 e8 e9 e10 e11 e12 0 0 0 0 0 0 0 0 0 0 (-1) 0 0 0 0 0 0 (S0) (rfl) (rfl) (fun _ => 0) (fun _ => 0) 1 (by decide)) rfl rfl q_2019 q_2021 qp_126 q_12 q_2022 rfl rfl hd_X10_burdenOf ⟨(Nat.le_of_ble_eq_true rfl), (Nat.le_of_ble_eq_true rfl)⟩ rfl hl.1 rfl (Nat.le_of_ble_eq_true rfl) dX10_bestLong_46 ⟨(Nat.le_of_ble_eq_true rfl), (Nat.le_of_ble_eq_true rfl)⟩) (fun r u H locs hw Y => ?_)
    have hw : r = nI (bdN 0 1 1) := hw
    subst hw
    obtain ⟨g1, g2⟩ := u
    have Y : Wd D τ s A s.heap [(mo, .inr (10, [.ref e0, .ref e1, .ref e2, .ref e3, .ref e4, .int 0, .int 0, .int 0, .ref e5, .int 0, .int 0, .int 0, .int 0, .int 0, .int 0, .int 0, .int (-1), .int 0, .int 0, .ref e6, .ref e7, .ref e8, .ref e9, .int 0, .ref e10, .ref e11, .int 1, .int (nI (cutN 1 + 1)), .ref e12, .int 0])), (e0, .inl (τ 0, 16816, .inl (S0))), (e10, .inl (τ 0, 200, .inl (g1))), (e11, .inl (τ 0, 200, .inl (g2)))] H _ := Y
    refine lv_imul B.1 B.2.1 dX10_bestLong_49 ?_
    refine lv_cv (v := (nI (n * bdN 0 1 1))) (pk_mul _ _) ?_
    refine lv_iload_n B.1 B.2.1 dX10_bestLong_50 rfl (lv_at hl 4 rfl) ?_
    refine lv_iload B.1 B.2.1 dX10_bestLong_51 (lv_at hl 0 rfl) ?_
    refine lv_irem B.1 B.2.1 dX10_bestLong_53 (by decide) ?_
    refine lv_cv (v := 0) (i_rem1 n (by omega)) ?_
    refine lv_if_ne (tgt := 61) B.1 B.2.1 dX10_bestLong_54 (by decide) (fun h => absurd (by decide) h) (fun _ => ?_)
    refine lv_iconst (v := 0) B.1 B.2.1 dX10_bestLong_57 (by decide) ?_
    refine lv_goto (tgt := 69) B.1 B.2.1 dX10_bestLong_58 (by decide) ?_
    refine lv_iadd B.1 B.2.1 dX10_bestLong_69 ?_
    refine lv_cv (v := (nI (n * bdN 0 1 1))) (Int32.add_zero _) ?_
    refine lv_istore (lv' := [(5, .int (nI (n * bdN 0 1 1))), (4, .int 1), (3, .int 0), (2, .int (-1)), (0, .ref mo), (1, .int (nI n))]) B.1 B.2.1 dX10_bestLong_70 hl (by decide) rfl (fun ls hl => ?_)
    refine lv_iload_n B.1 B.2.1 dX10_bestLong_72 rfl (lv_at hl 3 rfl) ?_
    refine lv_iconst (v := (-1)) B.1 B.2.1 dX10_bestLong_73 (by decide) ?_
    refine lv_icmp_eq (tgt := 86) B.1 B.2.1 dX10_bestLong_74 (by decide) (fun _ => ?_) (fun h => absurd (by decide) h)
    refine lv_iload B.1 B.2.1 dX10_bestLong_86 (lv_at hl 1 rfl) ?_
    refine lv_istore_n (lv' := [(2, .int 1), (5, .int (nI (n * bdN 0 1 1))), (4, .int 1), (3, .int 0), (0, .ref mo), (1, .int (nI n))]) B.1 B.2.1 dX10_bestLong_88 rfl hl (by decide) rfl (fun ls hl => ?_)
    refine lv_iload B.1 B.2.1 dX10_bestLong_89 (lv_at hl 1 rfl) ?_
    refine lv_istore_n (lv' := [(3, .int (nI (n * bdN 0 1 1))), (2, .int 1), (5, .int (nI (n * bdN 0 1 1))), (4, .int 1), (0, .ref mo), (1, .int (nI n))]) B.1 B.2.1 dX10_bestLong_91 rfl hl (by decide) rfl (fun ls hl => ?_)
    refine lv_iinc (v := 2) (lv' := [(4, .int 2), (3, .int (nI (n * bdN 0 1 1))), (2, .int 1), (5, .int (nI (n * bdN 0 1 1))), (0, .ref mo), (1, .int (nI n))]) B.1 B.2.1 dX10_bestLong_92 hl (k := 3) rfl (by decide) (by decide) rfl (fun ls hl => ?_)
    refine lv_goto (tgt := 25) B.1 B.2.1 dX10_bestLong_95 (by decide) ?_
    have e1 : bestN n 1 = 1 := Nat.le_antisymm (bestN_le n (Nat.le_refl 1)) (bestN_in n 1).1
    have e2 : wbN n 1 = n * bdN 0 1 1 := by unfold wbN; rw [Nat.div_one, Nat.mod_one, if_pos rfl, Nat.add_zero]
    refine lp_best10 (n := n) hbb hba B (fun x14 x15 g9 hs H locs ls hl Y => ?_) (min n 1000 - 1) 1 1 (nI (cutN 1 + 1)) (g1) (g2) _ _ _ (by omega) (Nat.le_refl 1) (by rw [e1, e2]; exact lv_sub hl [0, 1, 2, 4, 5] rfl) Y
    refine lv_iload_n B.1 B.2.1 dX10_bestLong_98 rfl (lv_at hl 2 rfl) ?_
    exact endI B hr hlk Y (lsI [0, 0, 0, 0, 0, 0, 0, 0, 0, 0, (-1), 0, 0, 0, x14, x15, 0]) ⟨fun b2 h1 h2 e => by obtain rfl := nIj (by omega) (by omega) e; exact ⟨rfl, rfl⟩, fun h => absurd h (nor2 hk0.1 hk0.2)⟩ [0] (by decide) rfl (Nat.le_of_ble_eq_true rfl) (Nat.le_of_ble_eq_true rfl) dX10_bestLong_99
  · refine lv_aload_n B.1 B.2.1 dX10_bestLong_0 rfl (lv_at hl 0 rfl) ?_
    refine lv_iload_n B.1 B.2.1 dX10_bestLong_1 rfl (lv_at hl 1 rfl) ?_
    refine lv_i2l B.1 B.2.1 dX10_bestLong_2 rfl ?_
    refine lv_lconst (v := Int32.toInt64 1) B.1 B.2.1 dX10_bestLong_3 (by decide) ?_
    refine lv_ldc2 B.1 B.2.1 B.2.2.2.1 (B.2.2.2.2 _ q_2027) dX10_bestLong_4 ?_
    refine t_cvL (v := Int32.toInt64 3000) (by decide) ?_
    refine retI (wc := []) (wr := [(mo, .inr (10, [.ref e0, .ref e1, .ref e2, .ref e3, .ref e4, .int 0, .int 0, .int 0, .ref e5, .int 0, .int 0, .int 0, .int 0, .int 0, .int 0, .int 0, .int (-1), .int 0, .int 0, .ref e6, .ref e7, .ref e8, .ref e9, .int 0, .ref e10, .ref e11, .int 0, .int 0, .ref e12, .int 0])), (e0, .inl (τ 0, 16816, .inl (S0))), (e10, .inl (τ 0, 200, .inl (fun _ => 0))), (e11, .inl (τ 0, 200, .inl (fun _ => 0)))]) Y [] [0, 1, 2, 3] rfl rfl (by decide) (by decide) (rS (As := [.long (Int32.toInt64 k), .long (Int32.toInt64 1), .long (Int32.toInt64 3000)]) (rest := [.ref mo]) B Y [] (by decide) rfl (k_in l D τ _ k 1 3000) q_1593 q_1594 q_12 q_1595 rfl rfl hd_X10_in ⟨(Nat.le_of_ble_eq_true rfl), (Nat.le_of_ble_eq_true rfl)⟩ rfl hl.1 rfl (Nat.le_of_ble_eq_true rfl) dX10_bestLong_7 ⟨(Nat.le_of_ble_eq_true rfl), (Nat.le_of_ble_eq_true rfl)⟩) (fun r u H locs hw Y => ?_)
    have hw : r = 0 := hw.2 (n_or hk)
    subst hw
    have Y : Wd D τ s A s.heap [(mo, .inr (10, [.ref e0, .ref e1, .ref e2, .ref e3, .ref e4, .int 0, .int 0, .int 0, .ref e5, .int 0, .int 0, .int 0, .int 0, .int 0, .int 0, .int 0, .int (-1), .int 0, .int 0, .ref e6, .ref e7, .ref e8, .ref e9, .int 0, .ref e10, .ref e11, .int 0, .int 0, .ref e12, .int 0])), (e0, .inl (τ 0, 16816, .inl (S0))), (e10, .inl (τ 0, 200, .inl (fun _ => 0))), (e11, .inl (τ 0, 200, .inl (fun _ => 0)))] H _ := Y
    refine retI (wc := [(mo, .inr (10, [.ref e0, .ref e1, .ref e2, .ref e3, .ref e4, .int 0, .int 0, .int 0, .ref e5, .int 0, .int 0, .int 0, .int 0, .int 0, .int 0, .int 0, .int (-1), .int 0, .int 0, .ref e6, .ref e7, .ref e8, .ref e9, .int 0, .ref e10, .ref e11, .int 0, .int 0, .ref e12, .int 0]))]) (wr := [(e0, .inl (τ 0, 16816, .inl (S0))), (e10, .inl (τ 0, 200, .inl (fun _ => 0))), (e11, .inl (τ 0, 200, .inl (fun _ => 0)))]) Y [0] [1, 2, 3] rfl rfl (by decide) (by decide) (rV (As := [.int 0]) (rest := []) (q0 := 0) B Y [0] (by decide) rfl (k_passes0 l D τ _ mo e0 e1 e2 e3 e4 e5 e6 e7 e8 e9 e10 e11 e12 0 0 0 0 0 0 0 0 0 0 (-1) 0 0 0 0 0 0) rfl rfl q_1581 q_1583 qp_46 q_12 q_1584 rfl rfl hd_X10_passes ⟨(Nat.le_of_ble_eq_true rfl), (Nat.le_of_ble_eq_true rfl)⟩ rfl hl.1 rfl (Nat.le_of_ble_eq_true rfl) dX10_bestLong_10 ⟨(Nat.le_of_ble_eq_true rfl), (Nat.le_of_ble_eq_true rfl)⟩) (fun r u H locs hw Y => ?_)
    have hw : r = 0 := hw
    subst hw
    have Y : Wd D τ s A s.heap [(e0, .inl (τ 0, 16816, .inl (S0))), (e10, .inl (τ 0, 200, .inl (fun _ => 0))), (e11, .inl (τ 0, 200, .inl (fun _ => 0))), (mo, .inr (10, [.ref e0, .ref e1, .ref e2, .ref e3, .ref e4, .int 0, .int 1, .int 0, .ref e5, .int 0, .int 0, .int 0, .int 0, .int 0, .int 0, .int 0, .int (-1), .int 0, .int 0, .ref e6, .ref e7, .ref e8, .ref e9, .int 0, .ref e10, .ref e11, .int 0, .int 0, .ref e12, .int 0]))] H _ := Y
    refine lv_if_ne (tgt := 18) B.1 B.2.1 dX10_bestLong_13 (by decide) (fun h => absurd (by decide) h) (fun _ => ?_)
    refine lv_iconst (v := 0) B.1 B.2.1 dX10_bestLong_16 (by decide) ?_
    exact endI B hr hlk Y (lsI [0, 1, 0, 0, 0, 0, 0, 0, 0, 0, (-1), 0, 0, 0, 0, 0, 0]) ⟨fun b2 h1 h2 e => absurd (n_or hk) (by subst e; exact nor2 (nI_nlt (b := 1) h1 (by omega)) (nI_nlt (a := 3000) h2 (by decide))), fun _ => rfl⟩ [3] (by decide) rfl (Nat.le_of_ble_eq_true rfl) (Nat.le_of_ble_eq_true rfl) dX10_bestLong_17
