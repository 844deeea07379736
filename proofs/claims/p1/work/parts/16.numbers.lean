def szT (n : Nat) : Int32 := ([1, 0, 0, 60, 0, 576, 27, (-1), 0, 0, 0, 0, 0, 0, 0, 0] : List Int32).getD n 0
def lkT (n : Nat) : Int32 := ([576, 1, 0, 0, 0, 0, 0, 0, 0] : List Int32).getD n 0

set_option maxHeartbeats 4000000 in
set_option maxRecDepth 100000 in
theorem m_size (l : Launch) (hl0 : l.stackTraces = false) (D : va_G) (τ : Nat → ClassId) (sz : Nat) (x rd q0 q1 q2 q3 q4 tx to bu st pa aL aD aH l0 d0 p0 v0 p1 v1 p2 v2 p3 v3 pk k0 k1 k2 k3 k4 k5 k6 k7 k8 k9 nt n0 n1 n2 ac : Nat) (fL fD fH : Nat → Option Nat) (hS : fL 0 = some l0 ∧ fD 0 = some d0 ∧ fH 0 = some p0 ∧ fH 1 = some p1 ∧ fH 2 = some p2 ∧ fH 3 = some p3) (k : Int32) : vx_Met l yX9_size (Cond.code yX9_size cX9_size 2 (some .int) :: wALL) { frames := 7, cells := 1, slots := 6, locals := 162 } (PwX D τ [(x, .inr (9, [.ref rd, .ref tx, .ref bu, .ref st, .ref pa, .int 0, .int 0, .null, .null])), (st, .inr (7, [.int 0, .int 60, .int 0, .int 576, .int 27, .int (-1), .int 1, .int 0, .ref aL, .ref aD, .ref aH, .ref pk, .ref nt, .ref ac])), (aH, .inl (τ 5, 4, .inr (.inr (.inr (.inr (fH)))))), (p0, .inr (2, [.int (-1), .int 0, .int (-1), .int 0, .int 0, .int 0, .int 0, .ref v0])), (p1, .inr (2, [.int (-1), .int 0, .int (-1), .int 0, .int 0, .int 0, .int 0, .ref v1])), (p2, .inr (2, [.int (-1), .int 0, .int (-1), .int 0, .int 0, .int 0, .int 0, .ref v2])), (p3, .inr (2, [.int (-1), .int 0, .int (-1), .int 0, .int 0, .int 0, .int 0, .ref v3])), (pk, .inr (5, [.ref k0, .ref k1, .ref k2, .ref k3, .ref k4, .ref k5, .ref k6, .ref k7, .ref k8, .ref k9, .int 0, .int (-1), .int 0])), (nt, .inr (4, [.ref n0, .ref n1, .ref n2, .int 0, .int 1000000]))] sz [.ref x, .int k]) (va_Qi (fun (r : Int32) (_ : Unit) => ∃ n : Nat, n ≤ 15 ∧ k = nI n ∧ r = szT n) (Bw D (va_A [(x, .inr (9, [.ref rd, .ref tx, .ref bu, .ref st, .ref pa, .int 0, .int 0, .null, .null])), (st, .inr (7, [.int 0, .int 60, .int 0, .int 576, .int 27, .int (-1), .int 1, .int 0, .ref aL, .ref aD, .ref aH, .ref pk, .ref nt, .ref ac])), (aH, .inl (τ 5, 4, .inr (.inr (.inr (.inr (fH)))))), (p0, .inr (2, [.int (-1), .int 0, .int (-1), .int 0, .int 0, .int 0, .int 0, .ref v0])), (p1, .inr (2, [.int (-1), .int 0, .int (-1), .int 0, .int 0, .int 0, .int 0, .ref v1])), (p2, .inr (2, [.int (-1), .int 0, .int (-1), .int 0, .int 0, .int 0, .int 0, .ref v2])), (p3, .inr (2, [.int (-1), .int 0, .int (-1), .int 0, .int 0, .int 0, .int 0, .ref v3])), (pk, .inr (5, [.ref k0, .ref k1, .ref k2, .ref k3, .ref k4, .ref k5, .ref k6, .ref k7, .ref k8, .ref k9, .int 0, .int (-1), .int 0])), (nt, .inr (4, [.ref n0, .ref n1, .ref n2, .int 0, .int 1000000]))] sz) (fun (_ : Unit) => [])) (va_A [(x, .inr (9, [.ref rd, .ref tx, .ref bu, .ref st, .ref pa, .int 0, .int 0, .null, .null])), (st, .inr (7, [.int 0, .int 60, .int 0, .int 576, .int 27, .int (-1), .int 1, .int 0, .ref aL, .ref aD, .ref aH, .ref pk, .ref nt, .ref ac])), (aH, .inl (τ 5, 4, .inr (.inr (.inr (.inr (fH)))))), (p0, .inr (2, [.int (-1), .int 0, .int (-1), .int 0, .int 0, .int 0, .int 0, .ref v0])), (p1, .inr (2, [.int (-1), .int 0, .int (-1), .int 0, .int 0, .int 0, .int 0, .ref v1])), (p2, .inr (2, [.int (-1), .int 0, .int (-1), .int 0, .int 0, .int 0, .int 0, .ref v2])), (p3, .inr (2, [.int (-1), .int 0, .int (-1), .int 0, .int 0, .int 0, .int 0, .ref v3])), (pk, .inr (5, [.ref k0, .ref k1, .ref k2, .ref k3, .ref k4, .ref k5, .ref k6, .ref k7, .ref k8, .ref k9, .int 0, .int (-1), .int 0])), (nt, .inr (4, [.ref n0, .ref n1, .ref n2, .int 0, .int 1000000]))] sz)) (XQ (fun E => E = "java/lang/IllegalArgumentException" ∧ (k < 0 ∨ 15 < k)) (va_A [(x, .inr (9, [.ref rd, .ref tx, .ref bu, .ref st, .ref pa, .int 0, .int 0, .null, .null])), (st, .inr (7, [.int 0, .int 60, .int 0, .int 576, .int 27, .int (-1), .int 1, .int 0, .ref aL, .ref aD, .ref aH, .ref pk, .ref nt, .ref ac])), (aH, .inl (τ 5, 4, .inr (.inr (.inr (.inr (fH)))))), (p0, .inr (2, [.int (-1), .int 0, .int (-1), .int 0, .int 0, .int 0, .int 0, .ref v0])), (p1, .inr (2, [.int (-1), .int 0, .int (-1), .int 0, .int 0, .int 0, .int 0, .ref v1])), (p2, .inr (2, [.int (-1), .int 0, .int (-1), .int 0, .int 0, .int 0, .int 0, .ref v2])), (p3, .inr (2, [.int (-1), .int 0, .int (-1), .int 0, .int 0, .int 0, .int 0, .ref v3])), (pk, .inr (5, [.ref k0, .ref k1, .ref k2, .ref k3, .ref k4, .ref k5, .ref k6, .ref k7, .ref k8, .ref k9, .int 0, .int (-1), .int 0])), (nt, .inr (4, [.ref n0, .ref n1, .ref n2, .int 0, .int 1000000]))] sz)) 1 6 (va_A [(x, .inr (9, [.ref rd, .ref tx, .ref bu, .ref st, .ref pa, .int 0, .int 0, .null, .null])), (st, .inr (7, [.int 0, .int 60, .int 0, .int 576, .int 27, .int (-1), .int 1, .int 0, .ref aL, .ref aD, .ref aH, .ref pk, .ref nt, .ref ac])), (aH, .inl (τ 5, 4, .inr (.inr (.inr (.inr (fH)))))), (p0, .inr (2, [.int (-1), .int 0, .int (-1), .int 0, .int 0, .int 0, .int 0, .ref v0])), (p1, .inr (2, [.int (-1), .int 0, .int (-1), .int 0, .int 0, .int 0, .int 0, .ref v1])), (p2, .inr (2, [.int (-1), .int 0, .int (-1), .int 0, .int 0, .int 0, .int 0, .ref v2])), (p3, .inr (2, [.int (-1), .int 0, .int (-1), .int 0, .int 0, .int 0, .int 0, .ref v3])), (pk, .inr (5, [.ref k0, .ref k1, .ref k2, .ref k3, .ref k4, .ref k5, .ref k6, .ref k7, .ref k8, .ref k9, .int 0, .int (-1), .int 0])), (nt, .inr (4, [.ref n0, .ref n1, .ref n2, .int 0, .int 1000000]))] sz) := by
  refine bodyX (by decide) (Nat.le_of_ble_eq_true rfl) (fun p e s m below meth c ls B hr hlk ht hsz Y hT hl => ?_)
  have hl : lv_has ls 2 [(0, .ref x), (1, .int k)] := hl
  have B : CallFix p m c cX9_size 2 s _ wALL RX9 := B
  generalize va_A [(x, .inr (9, [.ref rd, .ref tx, .ref bu, .ref st, .ref pa, .int 0, .int 0, .null, .null])), (st, .inr (7, [.int 0, .int 60, .int 0, .int 576, .int 27, .int (-1), .int 1, .int 0, .ref aL, .ref aD, .ref aH, .ref pk, .ref nt, .ref ac])), (aH, .inl (τ 5, 4, .inr (.inr (.inr (.inr (fH)))))), (p0, .inr (2, [.int (-1), .int 0, .int (-1), .int 0, .int 0, .int 0, .int 0, .ref v0])), (p1, .inr (2, [.int (-1), .int 0, .int (-1), .int 0, .int 0, .int 0, .int 0, .ref v1])), (p2, .inr (2, [.int (-1), .int 0, .int (-1), .int 0, .int 0, .int 0, .int 0, .ref v2])), (p3, .inr (2, [.int (-1), .int 0, .int (-1), .int 0, .int 0, .int 0, .int 0, .ref v3])), (pk, .inr (5, [.ref k0, .ref k1, .ref k2, .ref k3, .ref k4, .ref k5, .ref k6, .ref k7, .ref k8, .ref k9, .int 0, .int (-1), .int 0])), (nt, .inr (4, [.ref n0, .ref n1, .ref n2, .int 0, .int 1000000]))] sz = A at Y hT ⊢
  refine lv_iload_n B.1 B.2.1 dX9_size_0 rfl (lv_at hl 1 rfl) ?_
  refine lv_iconst (v := 0) B.1 B.2.1 dX9_size_1 (by decide) ?_
  refine lv_bipush (v := 15) B.1 B.2.1 dX9_size_2 (by decide) ?_
  refine retVX (wc := []) (wr := [(x, .inr (9, [.ref rd, .ref tx, .ref bu, .ref st, .ref pa, .int 0, .int 0, .null, .null])), (st, .inr (7, [.int 0, .int 60, .int 0, .int 576, .int 27, .int (-1), .int 1, .int 0, .ref aL, .ref aD, .ref aH, .ref pk, .ref nt, .ref ac])), (aH, .inl (τ 5, 4, .inr (.inr (.inr (.inr (fH)))))), (p0, .inr (2, [.int (-1), .int 0, .int (-1), .int 0, .int 0, .int 0, .int 0, .ref v0])), (p1, .inr (2, [.int (-1), .int 0, .int (-1), .int 0, .int 0, .int 0, .int 0, .ref v1])), (p2, .inr (2, [.int (-1), .int 0, .int (-1), .int 0, .int 0, .int 0, .int 0, .ref v2])), (p3, .inr (2, [.int (-1), .int 0, .int (-1), .int 0, .int 0, .int 0, .int 0, .ref v3])), (pk, .inr (5, [.ref k0, .ref k1, .ref k2, .ref k3, .ref k4, .ref k5, .ref k6, .ref k7, .ref k8, .ref k9, .int 0, .int (-1), .int 0])), (nt, .inr (4, [.ref n0, .ref n1, .ref n2, .int 0, .int 1000000]))]) ht hlk Y [] [0, 1, 2, 3, 4, 5, 6, 7, 8] rfl rfl (by decide) (by decide) (fun E h => h) (Nat.le_of_ble_eq_true rfl) (Nat.le_of_ble_eq_true rfl) (rSX (As := [.int k, .int 0, .int 15]) (rest := []) B Y hT [] (by decide) rfl (k_needRange l hl0 D τ _ k 0 15) q_928 q_929 q_1 q_930 rfl rfl hd_X9_needRange ⟨(Nat.le_of_ble_eq_true rfl), (Nat.le_of_ble_eq_true rfl)⟩ rfl hl.1 rfl (Nat.le_of_ble_eq_true rfl) dX9_size_4 ⟨(Nat.le_of_ble_eq_true rfl), (Nat.le_of_ble_eq_true rfl)⟩) (fun u H locs hw Y => ?_)
  have hw : ¬ k < 0 ∧ ¬ 15 < k := hw
  have Y : Wd D τ s A s.heap [(x, .inr (9, [.ref rd, .ref tx, .ref bu, .ref st, .ref pa, .int 0, .int 0, .null, .null])), (st, .inr (7, [.int 0, .int 60, .int 0, .int 576, .int 27, .int (-1), .int 1, .int 0, .ref aL, .ref aD, .ref aH, .ref pk, .ref nt, .ref ac])), (aH, .inl (τ 5, 4, .inr (.inr (.inr (.inr (fH)))))), (p0, .inr (2, [.int (-1), .int 0, .int (-1), .int 0, .int 0, .int 0, .int 0, .ref v0])), (p1, .inr (2, [.int (-1), .int 0, .int (-1), .int 0, .int 0, .int 0, .int 0, .ref v1])), (p2, .inr (2, [.int (-1), .int 0, .int (-1), .int 0, .int 0, .int 0, .int 0, .ref v2])), (p3, .inr (2, [.int (-1), .int 0, .int (-1), .int 0, .int 0, .int 0, .int 0, .ref v3])), (pk, .inr (5, [.ref k0, .ref k1, .ref k2, .ref k3, .ref k4, .ref k5, .ref k6, .ref k7, .ref k8, .ref k9, .int 0, .int (-1), .int 0])), (nt, .inr (4, [.ref n0, .ref n1, .ref n2, .int 0, .int 1000000]))] H _ := Y
  refine W.widen (k := 1) (n := 6) (Nat.le_of_ble_eq_true rfl) (Nat.le_of_ble_eq_true rfl) ?_
  obtain ⟨n, hn, hna, hnb⟩ := i_rng (a := 0) (b := 15) (by decide) (by decide) hw.1 hw.2
  subst hn
  rcases (show n = 0 ∨ n = 1 ∨ n = 2 ∨ n = 3 ∨ n = 4 ∨ n = 5 ∨ n = 6 ∨ n = 7 ∨ n = 8 ∨ n = 9 ∨ n = 10 ∨ n = 11 ∨ n = 12 ∨ n = 13 ∨ n = 14 ∨ n = 15 by omega) with rfl | rfl | rfl | rfl | rfl | rfl | rfl | rfl | rfl | rfl | rfl | rfl | rfl | rfl | rfl | rfl
  · have hl : lv_has ls 2 [(0, .ref x), (1, .int 0)] := hl
    refine lv_iload_n B.1 B.2.1 dX9_size_7 rfl (lv_at hl 1 rfl) ?_
    refine lv_tableIn (off := 76) (tgt := 84) B.1 B.2.1 dX9_size_8 (by decide) (by decide) rfl (by decide) ?_
    refine lv_aload_n B.1 B.2.1 dX9_size_84 rfl (lv_at hl 0 rfl) ?_
    refine gf_X9_30 B Y 0 rfl rfl dX9_size_85 ?_
    refine gf_X9_182 B Y 1 rfl rfl dX9_size_88 ?_
    exact vx_ret (endI B hr hlk Y () ⟨0, by decide, rfl, rfl⟩ [] (by decide) rfl (Nat.le_of_ble_eq_true rfl) (Nat.le_of_ble_eq_true rfl) dX9_size_91)
  · have hl : lv_has ls 2 [(0, .ref x), (1, .int 1)] := hl
    refine lv_iload_n B.1 B.2.1 dX9_size_7 rfl (lv_at hl 1 rfl) ?_
    refine lv_tableIn (off := 84) (tgt := 92) B.1 B.2.1 dX9_size_8 (by decide) (by decide) rfl (by decide) ?_
    refine lv_aload_n B.1 B.2.1 dX9_size_92 rfl (lv_at hl 0 rfl) ?_
    refine gf_X9_30 B Y 0 rfl rfl dX9_size_93 ?_
    refine gf_X9_113 B Y 1 rfl rfl dX9_size_96 ?_
    exact vx_ret (endI B hr hlk Y () ⟨1, by decide, rfl, rfl⟩ [] (by decide) rfl (Nat.le_of_ble_eq_true rfl) (Nat.le_of_ble_eq_true rfl) dX9_size_99)
  · have hl : lv_has ls 2 [(0, .ref x), (1, .int 2)] := hl
    refine lv_iload_n B.1 B.2.1 dX9_size_7 rfl (lv_at hl 1 rfl) ?_
    refine lv_tableIn (off := 92) (tgt := 100) B.1 B.2.1 dX9_size_8 (by decide) (by decide) rfl (by decide) ?_
    refine lv_aload_n B.1 B.2.1 dX9_size_100 rfl (lv_at hl 0 rfl) ?_
    refine gf_X9_30 B Y 0 rfl rfl dX9_size_101 ?_
    refine gf_X9_145 B Y 1 rfl rfl dX9_size_104 ?_
    exact vx_ret (endI B hr hlk Y () ⟨2, by decide, rfl, rfl⟩ [] (by decide) rfl (Nat.le_of_ble_eq_true rfl) (Nat.le_of_ble_eq_true rfl) dX9_size_107)
  · have hl : lv_has ls 2 [(0, .ref x), (1, .int 3)] := hl
    refine lv_iload_n B.1 B.2.1 dX9_size_7 rfl (lv_at hl 1 rfl) ?_
    refine lv_tableIn (off := 100) (tgt := 108) B.1 B.2.1 dX9_size_8 (by decide) (by decide) rfl (by decide) ?_
    refine lv_aload_n B.1 B.2.1 dX9_size_108 rfl (lv_at hl 0 rfl) ?_
    refine gf_X9_30 B Y 0 rfl rfl dX9_size_109 ?_
    refine gf_X9_116 B Y 1 rfl rfl dX9_size_112 ?_
    exact vx_ret (endI B hr hlk Y () ⟨3, by decide, rfl, rfl⟩ [] (by decide) rfl (Nat.le_of_ble_eq_true rfl) (Nat.le_of_ble_eq_true rfl) dX9_size_115)
  · have hl : lv_has ls 2 [(0, .ref x), (1, .int 4)] := hl
    refine lv_iload_n B.1 B.2.1 dX9_size_7 rfl (lv_at hl 1 rfl) ?_
    refine lv_tableIn (off := 108) (tgt := 116) B.1 B.2.1 dX9_size_8 (by decide) (by decide) rfl (by decide) ?_
    refine lv_aload_n B.1 B.2.1 dX9_size_116 rfl (lv_at hl 0 rfl) ?_
    refine gf_X9_30 B Y 0 rfl rfl dX9_size_117 ?_
    refine gf_X9_119 B Y 1 rfl rfl dX9_size_120 ?_
    exact vx_ret (endI B hr hlk Y () ⟨4, by decide, rfl, rfl⟩ [] (by decide) rfl (Nat.le_of_ble_eq_true rfl) (Nat.le_of_ble_eq_true rfl) dX9_size_123)
  · have hl : lv_has ls 2 [(0, .ref x), (1, .int 5)] := hl
    refine lv_iload_n B.1 B.2.1 dX9_size_7 rfl (lv_at hl 1 rfl) ?_
    refine lv_tableIn (off := 116) (tgt := 124) B.1 B.2.1 dX9_size_8 (by decide) (by decide) rfl (by decide) ?_
    refine lv_aload_n B.1 B.2.1 dX9_size_124 rfl (lv_at hl 0 rfl) ?_
    refine gf_X9_30 B Y 0 rfl rfl dX9_size_125 ?_
    refine gf_X9_185 B Y 1 rfl rfl dX9_size_128 ?_
    exact vx_ret (endI B hr hlk Y () ⟨5, by decide, rfl, rfl⟩ [] (by decide) rfl (Nat.le_of_ble_eq_true rfl) (Nat.le_of_ble_eq_true rfl) dX9_size_131)
  · have hl : lv_has ls 2 [(0, .ref x), (1, .int 6)] := hl
    refine lv_iload_n B.1 B.2.1 dX9_size_7 rfl (lv_at hl 1 rfl) ?_
    refine lv_tableIn (off := 124) (tgt := 132) B.1 B.2.1 dX9_size_8 (by decide) (by decide) rfl (by decide) ?_
    refine lv_aload_n B.1 B.2.1 dX9_size_132 rfl (lv_at hl 0 rfl) ?_
    refine gf_X9_30 B Y 0 rfl rfl dX9_size_133 ?_
    refine gf_X9_188 B Y 1 rfl rfl dX9_size_136 ?_
    exact vx_ret (endI B hr hlk Y () ⟨6, by decide, rfl, rfl⟩ [] (by decide) rfl (Nat.le_of_ble_eq_true rfl) (Nat.le_of_ble_eq_true rfl) dX9_size_139)
  · have hl : lv_has ls 2 [(0, .ref x), (1, .int 7)] := hl
    refine lv_iload_n B.1 B.2.1 dX9_size_7 rfl (lv_at hl 1 rfl) ?_
    refine lv_tableIn (off := 132) (tgt := 140) B.1 B.2.1 dX9_size_8 (by decide) (by decide) rfl (by decide) ?_
    refine lv_aload_n B.1 B.2.1 dX9_size_140 rfl (lv_at hl 0 rfl) ?_
    refine gf_X9_30 B Y 0 rfl rfl dX9_size_141 ?_
    refine gf_X9_191 B Y 1 rfl rfl dX9_size_144 ?_
    exact vx_ret (endI B hr hlk Y () ⟨7, by decide, rfl, rfl⟩ [] (by decide) rfl (Nat.le_of_ble_eq_true rfl) (Nat.le_of_ble_eq_true rfl) dX9_size_147)
  · have hl : lv_has ls 2 [(0, .ref x), (1, .int 8)] := hl
    refine lv_iload_n B.1 B.2.1 dX9_size_7 rfl (lv_at hl 1 rfl) ?_
    refine lv_tableIn (off := 140) (tgt := 148) B.1 B.2.1 dX9_size_8 (by decide) (by decide) rfl (by decide) ?_
    refine lv_aload_n B.1 B.2.1 dX9_size_148 rfl (lv_at hl 0 rfl) ?_
    refine gf_X9_30 B Y 0 rfl rfl dX9_size_149 ?_
    refine gf_X9_194 B Y 1 rfl rfl dX9_size_152 ?_
    refine gf_X9_198 B Y 7 rfl rfl dX9_size_155 ?_
    exact vx_ret (endI B hr hlk Y () ⟨8, by decide, rfl, rfl⟩ [] (by decide) rfl (Nat.le_of_ble_eq_true rfl) (Nat.le_of_ble_eq_true rfl) dX9_size_158)
  · have hl : lv_has ls 2 [(0, .ref x), (1, .int 9)] := hl
    refine lv_iload_n B.1 B.2.1 dX9_size_7 rfl (lv_at hl 1 rfl) ?_
    refine lv_tableIn (off := 151) (tgt := 159) B.1 B.2.1 dX9_size_8 (by decide) (by decide) rfl (by decide) ?_
    refine lv_aload_n B.1 B.2.1 dX9_size_159 rfl (lv_at hl 0 rfl) ?_
    refine gf_X9_30 B Y 0 rfl rfl dX9_size_160 ?_
    refine gf_X9_201 B Y 1 rfl rfl dX9_size_163 ?_
    refine gf_X9_205 B Y 8 rfl rfl dX9_size_166 ?_
    refine lv_aload_n B.1 B.2.1 dX9_size_169 rfl (lv_at hl 0 rfl) ?_
    refine gf_X9_30 B Y 0 rfl rfl dX9_size_170 ?_
    refine gf_X9_201 B Y 1 rfl rfl dX9_size_173 ?_
    refine retI (wc := [(nt, .inr (4, [.ref n0, .ref n1, .ref n2, .int 0, .int 1000000]))]) (wr := [(x, .inr (9, [.ref rd, .ref tx, .ref bu, .ref st, .ref pa, .int 0, .int 0, .null, .null])), (st, .inr (7, [.int 0, .int 60, .int 0, .int 576, .int 27, .int (-1), .int 1, .int 0, .ref aL, .ref aD, .ref aH, .ref pk, .ref nt, .ref ac])), (aH, .inl (τ 5, 4, .inr (.inr (.inr (.inr (fH)))))), (p0, .inr (2, [.int (-1), .int 0, .int (-1), .int 0, .int 0, .int 0, .int 0, .ref v0])), (p1, .inr (2, [.int (-1), .int 0, .int (-1), .int 0, .int 0, .int 0, .int 0, .ref v1])), (p2, .inr (2, [.int (-1), .int 0, .int (-1), .int 0, .int 0, .int 0, .int 0, .ref v2])), (p3, .inr (2, [.int (-1), .int 0, .int (-1), .int 0, .int 0, .int 0, .int 0, .ref v3])), (pk, .inr (5, [.ref k0, .ref k1, .ref k2, .ref k3, .ref k4, .ref k5, .ref k6, .ref k7, .ref k8, .ref k9, .int 0, .int (-1), .int 0]))]) Y [8] [0, 1, 2, 3, 4, 5, 6, 7] rfl rfl (by decide) (by decide) (rV (As := []) (rest := [.int 0]) (q0 := 8) B Y [8] (by decide) rfl (k_answers l D τ _ nt n0 n1 n2) rfl rfl q_1162 q_1163 q_1164 q_7 q_1165 rfl rfl hd_X4_answers ⟨(Nat.le_of_ble_eq_true rfl), (Nat.le_of_ble_eq_true rfl)⟩ rfl hl.1 rfl (Nat.le_of_ble_eq_true rfl) dX9_size_176 ⟨(Nat.le_of_ble_eq_true rfl), (Nat.le_of_ble_eq_true rfl)⟩) (fun r u H locs hw Y => ?_)
    have hw : r = 0 := hw
    subst hw
    have Y : Wd D τ s A s.heap [(x, .inr (9, [.ref rd, .ref tx, .ref bu, .ref st, .ref pa, .int 0, .int 0, .null, .null])), (st, .inr (7, [.int 0, .int 60, .int 0, .int 576, .int 27, .int (-1), .int 1, .int 0, .ref aL, .ref aD, .ref aH, .ref pk, .ref nt, .ref ac])), (aH, .inl (τ 5, 4, .inr (.inr (.inr (.inr (fH)))))), (p0, .inr (2, [.int (-1), .int 0, .int (-1), .int 0, .int 0, .int 0, .int 0, .ref v0])), (p1, .inr (2, [.int (-1), .int 0, .int (-1), .int 0, .int 0, .int 0, .int 0, .ref v1])), (p2, .inr (2, [.int (-1), .int 0, .int (-1), .int 0, .int 0, .int 0, .int 0, .ref v2])), (p3, .inr (2, [.int (-1), .int 0, .int (-1), .int 0, .int 0, .int 0, .int 0, .ref v3])), (pk, .inr (5, [.ref k0, .ref k1, .ref k2, .ref k3, .ref k4, .ref k5, .ref k6, .ref k7, .ref k8, .ref k9, .int 0, .int (-1), .int 0])), (nt, .inr (4, [.ref n0, .ref n1, .ref n2, .int 0, .int 1000000]))] H _ := Y
    refine lv_isub B.1 B.2.1 dX9_size_179 ?_
    refine lv_cv (v := 0) (by decide) ?_
    exact vx_ret (endI B hr hlk Y () ⟨9, by decide, rfl, rfl⟩ [] (by decide) rfl (Nat.le_of_ble_eq_true rfl) (Nat.le_of_ble_eq_true rfl) dX9_size_180)
  · have hl : lv_has ls 2 [(0, .ref x), (1, .int 10)] := hl
    refine lv_iload_n B.1 B.2.1 dX9_size_7 rfl (lv_at hl 1 rfl) ?_
    refine lv_tableIn (off := 173) (tgt := 181) B.1 B.2.1 dX9_size_8 (by decide) (by decide) rfl (by decide) ?_
    refine lv_aload_n B.1 B.2.1 dX9_size_181 rfl (lv_at hl 0 rfl) ?_
    refine gf_X9_30 B Y 0 rfl rfl dX9_size_182 ?_
    refine gf_X9_201 B Y 1 rfl rfl dX9_size_185 ?_
    refine retI (wc := [(nt, .inr (4, [.ref n0, .ref n1, .ref n2, .int 0, .int 1000000]))]) (wr := [(x, .inr (9, [.ref rd, .ref tx, .ref bu, .ref st, .ref pa, .int 0, .int 0, .null, .null])), (st, .inr (7, [.int 0, .int 60, .int 0, .int 576, .int 27, .int (-1), .int 1, .int 0, .ref aL, .ref aD, .ref aH, .ref pk, .ref nt, .ref ac])), (aH, .inl (τ 5, 4, .inr (.inr (.inr (.inr (fH)))))), (p0, .inr (2, [.int (-1), .int 0, .int (-1), .int 0, .int 0, .int 0, .int 0, .ref v0])), (p1, .inr (2, [.int (-1), .int 0, .int (-1), .int 0, .int 0, .int 0, .int 0, .ref v1])), (p2, .inr (2, [.int (-1), .int 0, .int (-1), .int 0, .int 0, .int 0, .int 0, .ref v2])), (p3, .inr (2, [.int (-1), .int 0, .int (-1), .int 0, .int 0, .int 0, .int 0, .ref v3])), (pk, .inr (5, [.ref k0, .ref k1, .ref k2, .ref k3, .ref k4, .ref k5, .ref k6, .ref k7, .ref k8, .ref k9, .int 0, .int (-1), .int 0]))]) Y [8] [0, 1, 2, 3, 4, 5, 6, 7] rfl rfl (by decide) (by decide) (rV (As := []) (rest := []) (q0 := 8) B Y [8] (by decide) rfl (k_answers l D τ _ nt n0 n1 n2) rfl rfl q_1162 q_1163 q_1164 q_7 q_1165 rfl rfl hd_X4_answers ⟨(Nat.le_of_ble_eq_true rfl), (Nat.le_of_ble_eq_true rfl)⟩ rfl hl.1 rfl (Nat.le_of_ble_eq_true rfl) dX9_size_188 ⟨(Nat.le_of_ble_eq_true rfl), (Nat.le_of_ble_eq_true rfl)⟩) (fun r u H locs hw Y => ?_)
    have hw : r = 0 := hw
    subst hw
    have Y : Wd D τ s A s.heap [(x, .inr (9, [.ref rd, .ref tx, .ref bu, .ref st, .ref pa, .int 0, .int 0, .null, .null])), (st, .inr (7, [.int 0, .int 60, .int 0, .int 576, .int 27, .int (-1), .int 1, .int 0, .ref aL, .ref aD, .ref aH, .ref pk, .ref nt, .ref ac])), (aH, .inl (τ 5, 4, .inr (.inr (.inr (.inr (fH)))))), (p0, .inr (2, [.int (-1), .int 0, .int (-1), .int 0, .int 0, .int 0, .int 0, .ref v0])), (p1, .inr (2, [.int (-1), .int 0, .int (-1), .int 0, .int 0, .int 0, .int 0, .ref v1])), (p2, .inr (2, [.int (-1), .int 0, .int (-1), .int 0, .int 0, .int 0, .int 0, .ref v2])), (p3, .inr (2, [.int (-1), .int 0, .int (-1), .int 0, .int 0, .int 0, .int 0, .ref v3])), (pk, .inr (5, [.ref k0, .ref k1, .ref k2, .ref k3, .ref k4, .ref k5, .ref k6, .ref k7, .ref k8, .ref k9, .int 0, .int (-1), .int 0])), (nt, .inr (4, [.ref n0, .ref n1, .ref n2, .int 0, .int 1000000]))] H _ := Y
    exact vx_ret (endI B hr hlk Y () ⟨10, by decide, rfl, rfl⟩ [] (by decide) rfl (Nat.le_of_ble_eq_true rfl) (Nat.le_of_ble_eq_true rfl) dX9_size_191)
  · have hl : lv_has ls 2 [(0, .ref x), (1, .int 11)] := hl
    refine lv_iload_n B.1 B.2.1 dX9_size_7 rfl (lv_at hl 1 rfl) ?_
    refine lv_tableIn (off := 184) (tgt := 192) B.1 B.2.1 dX9_size_8 (by decide) (by decide) rfl (by decide) ?_
    refine lv_aload_n B.1 B.2.1 dX9_size_192 rfl (lv_at hl 0 rfl) ?_
    refine gf_X9_30 B Y 0 rfl rfl dX9_size_193 ?_
    refine retI (wc := [(st, .inr (7, [.int 0, .int 60, .int 0, .int 576, .int 27, .int (-1), .int 1, .int 0, .ref aL, .ref aD, .ref aH, .ref pk, .ref nt, .ref ac])), (aH, .inl (τ 5, 4, .inr (.inr (.inr (.inr (fH)))))), (p0, .inr (2, [.int (-1), .int 0, .int (-1), .int 0, .int 0, .int 0, .int 0, .ref v0])), (p1, .inr (2, [.int (-1), .int 0, .int (-1), .int 0, .int 0, .int 0, .int 0, .ref v1])), (p2, .inr (2, [.int (-1), .int 0, .int (-1), .int 0, .int 0, .int 0, .int 0, .ref v2])), (p3, .inr (2, [.int (-1), .int 0, .int (-1), .int 0, .int 0, .int 0, .int 0, .ref v3]))]) (wr := [(x, .inr (9, [.ref rd, .ref tx, .ref bu, .ref st, .ref pa, .int 0, .int 0, .null, .null])), (pk, .inr (5, [.ref k0, .ref k1, .ref k2, .ref k3, .ref k4, .ref k5, .ref k6, .ref k7, .ref k8, .ref k9, .int 0, .int (-1), .int 0])), (nt, .inr (4, [.ref n0, .ref n1, .ref n2, .int 0, .int 1000000]))]) Y [1, 2, 3, 4, 5, 6] [0, 7, 8] rfl rfl (by decide) (by decide) (rV (As := []) (rest := []) (q0 := 1) B Y [1, 2, 3, 4, 5, 6] (by decide) rfl (k_heapCount l D τ _ st 0 60 0 576 27 (-1) 1 0 aL aD aH pk nt ac fH p0 v0 p1 v1 p2 v2 p3 v3 hS.2.2) rfl rfl q_1166 q_594 q_595 q_4 q_596 rfl rfl hd_X7_heapCount ⟨(Nat.le_of_ble_eq_true rfl), (Nat.le_of_ble_eq_true rfl)⟩ rfl hl.1 rfl (Nat.le_of_ble_eq_true rfl) dX9_size_196 ⟨(Nat.le_of_ble_eq_true rfl), (Nat.le_of_ble_eq_true rfl)⟩) (fun r u H locs hw Y => ?_)
    have hw : r = 0 := hw
    subst hw
    have Y : Wd D τ s A s.heap [(x, .inr (9, [.ref rd, .ref tx, .ref bu, .ref st, .ref pa, .int 0, .int 0, .null, .null])), (pk, .inr (5, [.ref k0, .ref k1, .ref k2, .ref k3, .ref k4, .ref k5, .ref k6, .ref k7, .ref k8, .ref k9, .int 0, .int (-1), .int 0])), (nt, .inr (4, [.ref n0, .ref n1, .ref n2, .int 0, .int 1000000])), (st, .inr (7, [.int 0, .int 60, .int 0, .int 576, .int 27, .int (-1), .int 1, .int 0, .ref aL, .ref aD, .ref aH, .ref pk, .ref nt, .ref ac])), (aH, .inl (τ 5, 4, .inr (.inr (.inr (.inr (fH)))))), (p0, .inr (2, [.int (-1), .int 0, .int (-1), .int 0, .int 0, .int 0, .int 0, .ref v0])), (p1, .inr (2, [.int (-1), .int 0, .int (-1), .int 0, .int 0, .int 0, .int 0, .ref v1])), (p2, .inr (2, [.int (-1), .int 0, .int (-1), .int 0, .int 0, .int 0, .int 0, .ref v2])), (p3, .inr (2, [.int (-1), .int 0, .int (-1), .int 0, .int 0, .int 0, .int 0, .ref v3]))] H _ := Y
    exact vx_ret (endI B hr hlk Y () ⟨11, by decide, rfl, rfl⟩ [] (by decide) rfl (Nat.le_of_ble_eq_true rfl) (Nat.le_of_ble_eq_true rfl) dX9_size_199)
  · have hl : lv_has ls 2 [(0, .ref x), (1, .int 12)] := hl
    refine lv_iload_n B.1 B.2.1 dX9_size_7 rfl (lv_at hl 1 rfl) ?_
    refine lv_tableIn (off := 192) (tgt := 200) B.1 B.2.1 dX9_size_8 (by decide) (by decide) rfl (by decide) ?_
    refine lv_aload_n B.1 B.2.1 dX9_size_200 rfl (lv_at hl 0 rfl) ?_
    refine gf_X9_30 B Y 0 rfl rfl dX9_size_201 ?_
    refine lv_iconst (v := 0) B.1 B.2.1 dX9_size_204 (by decide) ?_
    refine retI (wc := [(st, .inr (7, [.int 0, .int 60, .int 0, .int 576, .int 27, .int (-1), .int 1, .int 0, .ref aL, .ref aD, .ref aH, .ref pk, .ref nt, .ref ac]))]) (wr := [(x, .inr (9, [.ref rd, .ref tx, .ref bu, .ref st, .ref pa, .int 0, .int 0, .null, .null])), (aH, .inl (τ 5, 4, .inr (.inr (.inr (.inr (fH)))))), (p0, .inr (2, [.int (-1), .int 0, .int (-1), .int 0, .int 0, .int 0, .int 0, .ref v0])), (p1, .inr (2, [.int (-1), .int 0, .int (-1), .int 0, .int 0, .int 0, .int 0, .ref v1])), (p2, .inr (2, [.int (-1), .int 0, .int (-1), .int 0, .int 0, .int 0, .int 0, .ref v2])), (p3, .inr (2, [.int (-1), .int 0, .int (-1), .int 0, .int 0, .int 0, .int 0, .ref v3])), (pk, .inr (5, [.ref k0, .ref k1, .ref k2, .ref k3, .ref k4, .ref k5, .ref k6, .ref k7, .ref k8, .ref k9, .int 0, .int (-1), .int 0])), (nt, .inr (4, [.ref n0, .ref n1, .ref n2, .int 0, .int 1000000]))]) Y [1] [0, 2, 3, 4, 5, 6, 7, 8] rfl rfl (by decide) (by decide) (rV (As := [.int 0]) (rest := []) (q0 := 1) B Y [1] (by decide) rfl (k_fateCount l D τ _ st 0 60 0 576 27 (-1) 1 aL aD aH pk nt ac 0) rfl rfl q_779 q_776 q_777 q_4 q_778 rfl rfl hd_X7_fateCount ⟨(Nat.le_of_ble_eq_true rfl), (Nat.le_of_ble_eq_true rfl)⟩ rfl hl.1 rfl (Nat.le_of_ble_eq_true rfl) dX9_size_205 ⟨(Nat.le_of_ble_eq_true rfl), (Nat.le_of_ble_eq_true rfl)⟩) (fun r u H locs hw Y => ?_)
    have hw : r = 0 := hw
    subst hw
    have Y : Wd D τ s A s.heap [(x, .inr (9, [.ref rd, .ref tx, .ref bu, .ref st, .ref pa, .int 0, .int 0, .null, .null])), (aH, .inl (τ 5, 4, .inr (.inr (.inr (.inr (fH)))))), (p0, .inr (2, [.int (-1), .int 0, .int (-1), .int 0, .int 0, .int 0, .int 0, .ref v0])), (p1, .inr (2, [.int (-1), .int 0, .int (-1), .int 0, .int 0, .int 0, .int 0, .ref v1])), (p2, .inr (2, [.int (-1), .int 0, .int (-1), .int 0, .int 0, .int 0, .int 0, .ref v2])), (p3, .inr (2, [.int (-1), .int 0, .int (-1), .int 0, .int 0, .int 0, .int 0, .ref v3])), (pk, .inr (5, [.ref k0, .ref k1, .ref k2, .ref k3, .ref k4, .ref k5, .ref k6, .ref k7, .ref k8, .ref k9, .int 0, .int (-1), .int 0])), (nt, .inr (4, [.ref n0, .ref n1, .ref n2, .int 0, .int 1000000])), (st, .inr (7, [.int 0, .int 60, .int 0, .int 576, .int 27, .int (-1), .int 1, .int 0, .ref aL, .ref aD, .ref aH, .ref pk, .ref nt, .ref ac]))] H _ := Y
    exact vx_ret (endI B hr hlk Y () ⟨12, by decide, rfl, rfl⟩ [] (by decide) rfl (Nat.le_of_ble_eq_true rfl) (Nat.le_of_ble_eq_true rfl) dX9_size_208)
  · have hl : lv_has ls 2 [(0, .ref x), (1, .int 13)] := hl
    refine lv_iload_n B.1 B.2.1 dX9_size_7 rfl (lv_at hl 1 rfl) ?_
    refine lv_tableIn (off := 201) (tgt := 209) B.1 B.2.1 dX9_size_8 (by decide) (by decide) rfl (by decide) ?_
    refine lv_aload_n B.1 B.2.1 dX9_size_209 rfl (lv_at hl 0 rfl) ?_
    refine gf_X9_30 B Y 0 rfl rfl dX9_size_210 ?_
    refine retI (wc := [(st, .inr (7, [.int 0, .int 60, .int 0, .int 576, .int 27, .int (-1), .int 1, .int 0, .ref aL, .ref aD, .ref aH, .ref pk, .ref nt, .ref ac]))]) (wr := [(x, .inr (9, [.ref rd, .ref tx, .ref bu, .ref st, .ref pa, .int 0, .int 0, .null, .null])), (aH, .inl (τ 5, 4, .inr (.inr (.inr (.inr (fH)))))), (p0, .inr (2, [.int (-1), .int 0, .int (-1), .int 0, .int 0, .int 0, .int 0, .ref v0])), (p1, .inr (2, [.int (-1), .int 0, .int (-1), .int 0, .int 0, .int 0, .int 0, .ref v1])), (p2, .inr (2, [.int (-1), .int 0, .int (-1), .int 0, .int 0, .int 0, .int 0, .ref v2])), (p3, .inr (2, [.int (-1), .int 0, .int (-1), .int 0, .int 0, .int 0, .int 0, .ref v3])), (pk, .inr (5, [.ref k0, .ref k1, .ref k2, .ref k3, .ref k4, .ref k5, .ref k6, .ref k7, .ref k8, .ref k9, .int 0, .int (-1), .int 0])), (nt, .inr (4, [.ref n0, .ref n1, .ref n2, .int 0, .int 1000000]))]) Y [1] [0, 2, 3, 4, 5, 6, 7, 8] rfl rfl (by decide) (by decide) (rV (As := []) (rest := []) (q0 := 1) B Y [1] (by decide) rfl (k_handedCount l D τ _ st 0 60 0 576 27 (-1) 1 aL aD aH pk nt ac) rfl rfl q_771 q_772 q_773 q_4 q_774 rfl rfl hd_X7_handedCount ⟨(Nat.le_of_ble_eq_true rfl), (Nat.le_of_ble_eq_true rfl)⟩ rfl hl.1 rfl (Nat.le_of_ble_eq_true rfl) dX9_size_213 ⟨(Nat.le_of_ble_eq_true rfl), (Nat.le_of_ble_eq_true rfl)⟩) (fun r u H locs hw Y => ?_)
    have hw : r = 0 := hw
    subst hw
    have Y : Wd D τ s A s.heap [(x, .inr (9, [.ref rd, .ref tx, .ref bu, .ref st, .ref pa, .int 0, .int 0, .null, .null])), (aH, .inl (τ 5, 4, .inr (.inr (.inr (.inr (fH)))))), (p0, .inr (2, [.int (-1), .int 0, .int (-1), .int 0, .int 0, .int 0, .int 0, .ref v0])), (p1, .inr (2, [.int (-1), .int 0, .int (-1), .int 0, .int 0, .int 0, .int 0, .ref v1])), (p2, .inr (2, [.int (-1), .int 0, .int (-1), .int 0, .int 0, .int 0, .int 0, .ref v2])), (p3, .inr (2, [.int (-1), .int 0, .int (-1), .int 0, .int 0, .int 0, .int 0, .ref v3])), (pk, .inr (5, [.ref k0, .ref k1, .ref k2, .ref k3, .ref k4, .ref k5, .ref k6, .ref k7, .ref k8, .ref k9, .int 0, .int (-1), .int 0])), (nt, .inr (4, [.ref n0, .ref n1, .ref n2, .int 0, .int 1000000])), (st, .inr (7, [.int 0, .int 60, .int 0, .int 576, .int 27, .int (-1), .int 1, .int 0, .ref aL, .ref aD, .ref aH, .ref pk, .ref nt, .ref ac]))] H _ := Y
    exact vx_ret (endI B hr hlk Y () ⟨13, by decide, rfl, rfl⟩ [] (by decide) rfl (Nat.le_of_ble_eq_true rfl) (Nat.le_of_ble_eq_true rfl) dX9_size_216)
  · have hl : lv_has ls 2 [(0, .ref x), (1, .int 14)] := hl
    refine lv_iload_n B.1 B.2.1 dX9_size_7 rfl (lv_at hl 1 rfl) ?_
    refine lv_tableIn (off := 209) (tgt := 217) B.1 B.2.1 dX9_size_8 (by decide) (by decide) rfl (by decide) ?_
    refine lv_aload_n B.1 B.2.1 dX9_size_217 rfl (lv_at hl 0 rfl) ?_
    refine gf_X9_30 B Y 0 rfl rfl dX9_size_218 ?_
    refine lv_iconst (v := 3) B.1 B.2.1 dX9_size_221 (by decide) ?_
    refine retI (wc := [(st, .inr (7, [.int 0, .int 60, .int 0, .int 576, .int 27, .int (-1), .int 1, .int 0, .ref aL, .ref aD, .ref aH, .ref pk, .ref nt, .ref ac]))]) (wr := [(x, .inr (9, [.ref rd, .ref tx, .ref bu, .ref st, .ref pa, .int 0, .int 0, .null, .null])), (aH, .inl (τ 5, 4, .inr (.inr (.inr (.inr (fH)))))), (p0, .inr (2, [.int (-1), .int 0, .int (-1), .int 0, .int 0, .int 0, .int 0, .ref v0])), (p1, .inr (2, [.int (-1), .int 0, .int (-1), .int 0, .int 0, .int 0, .int 0, .ref v1])), (p2, .inr (2, [.int (-1), .int 0, .int (-1), .int 0, .int 0, .int 0, .int 0, .ref v2])), (p3, .inr (2, [.int (-1), .int 0, .int (-1), .int 0, .int 0, .int 0, .int 0, .ref v3])), (pk, .inr (5, [.ref k0, .ref k1, .ref k2, .ref k3, .ref k4, .ref k5, .ref k6, .ref k7, .ref k8, .ref k9, .int 0, .int (-1), .int 0])), (nt, .inr (4, [.ref n0, .ref n1, .ref n2, .int 0, .int 1000000]))]) Y [1] [0, 2, 3, 4, 5, 6, 7, 8] rfl rfl (by decide) (by decide) (rV (As := [.int 3]) (rest := []) (q0 := 1) B Y [1] (by decide) rfl (k_fateCount l D τ _ st 0 60 0 576 27 (-1) 1 aL aD aH pk nt ac 3) rfl rfl q_779 q_776 q_777 q_4 q_778 rfl rfl hd_X7_fateCount ⟨(Nat.le_of_ble_eq_true rfl), (Nat.le_of_ble_eq_true rfl)⟩ rfl hl.1 rfl (Nat.le_of_ble_eq_true rfl) dX9_size_222 ⟨(Nat.le_of_ble_eq_true rfl), (Nat.le_of_ble_eq_true rfl)⟩) (fun r u H locs hw Y => ?_)
    have hw : r = 0 := hw
    subst hw
    have Y : Wd D τ s A s.heap [(x, .inr (9, [.ref rd, .ref tx, .ref bu, .ref st, .ref pa, .int 0, .int 0, .null, .null])), (aH, .inl (τ 5, 4, .inr (.inr (.inr (.inr (fH)))))), (p0, .inr (2, [.int (-1), .int 0, .int (-1), .int 0, .int 0, .int 0, .int 0, .ref v0])), (p1, .inr (2, [.int (-1), .int 0, .int (-1), .int 0, .int 0, .int 0, .int 0, .ref v1])), (p2, .inr (2, [.int (-1), .int 0, .int (-1), .int 0, .int 0, .int 0, .int 0, .ref v2])), (p3, .inr (2, [.int (-1), .int 0, .int (-1), .int 0, .int 0, .int 0, .int 0, .ref v3])), (pk, .inr (5, [.ref k0, .ref k1, .ref k2, .ref k3, .ref k4, .ref k5, .ref k6, .ref k7, .ref k8, .ref k9, .int 0, .int (-1), .int 0])), (nt, .inr (4, [.ref n0, .ref n1, .ref n2, .int 0, .int 1000000])), (st, .inr (7, [.int 0, .int 60, .int 0, .int 576, .int 27, .int (-1), .int 1, .int 0, .ref aL, .ref aD, .ref aH, .ref pk, .ref nt, .ref ac]))] H _ := Y
    exact vx_ret (endI B hr hlk Y () ⟨14, by decide, rfl, rfl⟩ [] (by decide) rfl (Nat.le_of_ble_eq_true rfl) (Nat.le_of_ble_eq_true rfl) dX9_size_225)
  · have hl : lv_has ls 2 [(0, .ref x), (1, .int 15)] := hl
    refine lv_iload_n B.1 B.2.1 dX9_size_7 rfl (lv_at hl 1 rfl) ?_
    refine lv_tableOut (tgt := 226) B.1 B.2.1 dX9_size_8 (by decide) (by decide) ?_
    refine lv_aload_n B.1 B.2.1 dX9_size_226 rfl (lv_at hl 0 rfl) ?_
    refine gf_X9_42 B Y 0 rfl rfl dX9_size_227 ?_
    exact vx_ret (endI B hr hlk Y () ⟨15, by decide, rfl, rfl⟩ [] (by decide) rfl (Nat.le_of_ble_eq_true rfl) (Nat.le_of_ble_eq_true rfl) dX9_size_230)

set_option maxHeartbeats 4000000 in
set_option maxRecDepth 100000 in
theorem k_waitingOn (l : Launch) (D : va_G) (τ : Nat → ClassId) (sz : Nat) (pk k0 k1 k2 k3 k4 k5 k6 k7 k8 k9 : Nat) : Met l yX5_waitingOn (Cond.code yX5_waitingOn cX5_waitingOn 2 (some .int) :: wALL) { frames := 1, cells := 0, slots := 0, locals := 21 } (Pw D τ [(pk, .inr (5, [.ref k0, .ref k1, .ref k2, .ref k3, .ref k4, .ref k5, .ref k6, .ref k7, .ref k8, .ref k9, .int 0, .int (-1), .int 0])), (k8, .inl (τ 0, 6, .inl (fun _ => 0)))] sz [.ref pk, .int 0]) (va_Qi (fun (r : Int32) (_ : Unit) => r = 0) (Bw D (va_A [(pk, .inr (5, [.ref k0, .ref k1, .ref k2, .ref k3, .ref k4, .ref k5, .ref k6, .ref k7, .ref k8, .ref k9, .int 0, .int (-1), .int 0])), (k8, .inl (τ 0, 6, .inl (fun _ => 0)))] sz) (fun (_ : Unit) => [(pk, .inr (5, [.ref k0, .ref k1, .ref k2, .ref k3, .ref k4, .ref k5, .ref k6, .ref k7, .ref k8, .ref k9, .int 0, .int (-1), .int 0])), (k8, .inl (τ 0, 6, .inl (fun _ => 0)))])) (va_A [(pk, .inr (5, [.ref k0, .ref k1, .ref k2, .ref k3, .ref k4, .ref k5, .ref k6, .ref k7, .ref k8, .ref k9, .int 0, .int (-1), .int 0])), (k8, .inl (τ 0, 6, .inl (fun _ => 0)))] sz)) 0 0 (va_A [(pk, .inr (5, [.ref k0, .ref k1, .ref k2, .ref k3, .ref k4, .ref k5, .ref k6, .ref k7, .ref k8, .ref k9, .int 0, .int (-1), .int 0])), (k8, .inl (τ 0, 6, .inl (fun _ => 0)))] sz) := by
  refine bodyW (by decide) (Nat.le_of_ble_eq_true rfl) (fun p e s m below meth c ls B hr hlk hin hsz Y hl => ?_)
  have hl : lv_has ls 2 [(0, .ref pk), (1, .int 0)] := hl
  have B : CallFix p m c cX5_waitingOn 2 s _ wALL RX5 := B
  generalize va_A [(pk, .inr (5, [.ref k0, .ref k1, .ref k2, .ref k3, .ref k4, .ref k5, .ref k6, .ref k7, .ref k8, .ref k9, .int 0, .int (-1), .int 0])), (k8, .inl (τ 0, 6, .inl (fun _ => 0)))] sz = A at Y ⊢
  refine lv_aload_n B.1 B.2.1 dX5_waitingOn_0 rfl (lv_at hl 0 rfl) ?_
  refine gf_X5_36 B Y 0 rfl rfl dX5_waitingOn_1 ?_
  refine lv_iload_n B.1 B.2.1 dX5_waitingOn_4 rfl (lv_at hl 1 rfl) ?_
  refine retI (wc := [(k8, .inl (τ 0, 6, .inl (fun _ => 0)))]) (wr := [(pk, .inr (5, [.ref k0, .ref k1, .ref k2, .ref k3, .ref k4, .ref k5, .ref k6, .ref k7, .ref k8, .ref k9, .int 0, .int (-1), .int 0]))]) Y [1] [0] rfl rfl (by decide) (by decide) (rSN (As := [.ref k8, .int 0]) (rest := []) B Y [1] (by decide) rfl (k_valueIn l D τ _ k8 6 (fun _ => 0) (by decide) 0 0 rfl (by decide)) (Y.1.2.1 _ nw_617) q_618 q_1 q_619 rfl rfl hd_X9_valueIn ⟨(Nat.le_of_ble_eq_true rfl), (Nat.le_of_ble_eq_true rfl)⟩ rfl hl.1 rfl (Nat.le_of_ble_eq_true rfl) dX5_waitingOn_5 ⟨(Nat.le_of_ble_eq_true rfl), (Nat.le_of_ble_eq_true rfl)⟩) (fun r u H locs hw Y => ?_)
  have hw : r = 0 := (hw : r = _).trans rfl
  subst hw
  have Y : Wd D τ s A s.heap [(pk, .inr (5, [.ref k0, .ref k1, .ref k2, .ref k3, .ref k4, .ref k5, .ref k6, .ref k7, .ref k8, .ref k9, .int 0, .int (-1), .int 0])), (k8, .inl (τ 0, 6, .inl (fun _ => 0)))] H _ := Y
  exact endI B hr hlk Y () rfl [0, 1] (by decide) rfl (Nat.le_of_ble_eq_true rfl) (Nat.le_of_ble_eq_true rfl) dX5_waitingOn_8

set_option maxHeartbeats 4000000 in
set_option maxRecDepth 100000 in
theorem m_link (l : Launch) (hl0 : l.stackTraces = false) (D : va_G) (τ : Nat → ClassId) (sz : Nat) (x rd q0 q1 q2 q3 q4 tx to bu st pa aL aD aH l0 d0 p0 v0 p1 v1 p2 v2 p3 v3 pk k0 k1 k2 k3 k4 k5 k6 k7 k8 k9 nt n0 n1 n2 ac : Nat) (fL fD fH : Nat → Option Nat) (hS : fL 0 = some l0 ∧ fD 0 = some d0 ∧ fH 0 = some p0 ∧ fH 1 = some p1 ∧ fH 2 = some p2 ∧ fH 3 = some p3) (g k : Int32) : vx_Met l yX9_link (Cond.code yX9_link cX9_link 4 (some .int) :: wALL) { frames := 7, cells := 2, slots := 12, locals := 162 } (PwX D τ [(x, .inr (9, [.ref rd, .ref tx, .ref bu, .ref st, .ref pa, .int 0, .int 0, .null, .null])), (st, .inr (7, [.int 0, .int 60, .int 0, .int 576, .int 27, .int (-1), .int 1, .int 0, .ref aL, .ref aD, .ref aH, .ref pk, .ref nt, .ref ac])), (aL, .inl (τ 3, 6, .inr (.inr (.inr (.inr (fL)))))), (l0, .inr (3, [.int 576, .int 1, .int 0, .int 0, .int 0, .int 0, .int 0, .int 0])), (pk, .inr (5, [.ref k0, .ref k1, .ref k2, .ref k3, .ref k4, .ref k5, .ref k6, .ref k7, .ref k8, .ref k9, .int 0, .int (-1), .int 0])), (k8, .inl (τ 0, 6, .inl (fun _ => 0)))] sz [.ref x, .int g, .int k]) (va_Qi (fun (r : Int32) (_ : Unit) => g = 0 ∧ ∃ n : Nat, n ≤ 8 ∧ k = nI n ∧ r = lkT n) (Bw D (va_A [(x, .inr (9, [.ref rd, .ref tx, .ref bu, .ref st, .ref pa, .int 0, .int 0, .null, .null])), (st, .inr (7, [.int 0, .int 60, .int 0, .int 576, .int 27, .int (-1), .int 1, .int 0, .ref aL, .ref aD, .ref aH, .ref pk, .ref nt, .ref ac])), (aL, .inl (τ 3, 6, .inr (.inr (.inr (.inr (fL)))))), (l0, .inr (3, [.int 576, .int 1, .int 0, .int 0, .int 0, .int 0, .int 0, .int 0])), (pk, .inr (5, [.ref k0, .ref k1, .ref k2, .ref k3, .ref k4, .ref k5, .ref k6, .ref k7, .ref k8, .ref k9, .int 0, .int (-1), .int 0])), (k8, .inl (τ 0, 6, .inl (fun _ => 0)))] sz) (fun (_ : Unit) => [])) (va_A [(x, .inr (9, [.ref rd, .ref tx, .ref bu, .ref st, .ref pa, .int 0, .int 0, .null, .null])), (st, .inr (7, [.int 0, .int 60, .int 0, .int 576, .int 27, .int (-1), .int 1, .int 0, .ref aL, .ref aD, .ref aH, .ref pk, .ref nt, .ref ac])), (aL, .inl (τ 3, 6, .inr (.inr (.inr (.inr (fL)))))), (l0, .inr (3, [.int 576, .int 1, .int 0, .int 0, .int 0, .int 0, .int 0, .int 0])), (pk, .inr (5, [.ref k0, .ref k1, .ref k2, .ref k3, .ref k4, .ref k5, .ref k6, .ref k7, .ref k8, .ref k9, .int 0, .int (-1), .int 0])), (k8, .inl (τ 0, 6, .inl (fun _ => 0)))] sz)) (XQ (fun E => (E = "java/lang/IndexOutOfBoundsException" ∧ g ≠ 0) ∨ (E = "java/lang/IllegalArgumentException" ∧ g = 0 ∧ (k < 0 ∨ 8 < k))) (va_A [(x, .inr (9, [.ref rd, .ref tx, .ref bu, .ref st, .ref pa, .int 0, .int 0, .null, .null])), (st, .inr (7, [.int 0, .int 60, .int 0, .int 576, .int 27, .int (-1), .int 1, .int 0, .ref aL, .ref aD, .ref aH, .ref pk, .ref nt, .ref ac])), (aL, .inl (τ 3, 6, .inr (.inr (.inr (.inr (fL)))))), (l0, .inr (3, [.int 576, .int 1, .int 0, .int 0, .int 0, .int 0, .int 0, .int 0])), (pk, .inr (5, [.ref k0, .ref k1, .ref k2, .ref k3, .ref k4, .ref k5, .ref k6, .ref k7, .ref k8, .ref k9, .int 0, .int (-1), .int 0])), (k8, .inl (τ 0, 6, .inl (fun _ => 0)))] sz)) 2 12 (va_A [(x, .inr (9, [.ref rd, .ref tx, .ref bu, .ref st, .ref pa, .int 0, .int 0, .null, .null])), (st, .inr (7, [.int 0, .int 60, .int 0, .int 576, .int 27, .int (-1), .int 1, .int 0, .ref aL, .ref aD, .ref aH, .ref pk, .ref nt, .ref ac])), (aL, .inl (τ 3, 6, .inr (.inr (.inr (.inr (fL)))))), (l0, .inr (3, [.int 576, .int 1, .int 0, .int 0, .int 0, .int 0, .int 0, .int 0])), (pk, .inr (5, [.ref k0, .ref k1, .ref k2, .ref k3, .ref k4, .ref k5, .ref k6, .ref k7, .ref k8, .ref k9, .int 0, .int (-1), .int 0])), (k8, .inl (τ 0, 6, .inl (fun _ => 0)))] sz) := by
  refine bodyX (by decide) (Nat.le_of_ble_eq_true rfl) (fun p e s m below meth c ls B hr hlk ht hsz Y hT hl => ?_)
  have hl : lv_has ls 4 [(0, .ref x), (1, .int g), (2, .int k)] := hl
  have B : CallFix p m c cX9_link 4 s _ wALL RX9 := B
  generalize va_A [(x, .inr (9, [.ref rd, .ref tx, .ref bu, .ref st, .ref pa, .int 0, .int 0, .null, .null])), (st, .inr (7, [.int 0, .int 60, .int 0, .int 576, .int 27, .int (-1), .int 1, .int 0, .ref aL, .ref aD, .ref aH, .ref pk, .ref nt, .ref ac])), (aL, .inl (τ 3, 6, .inr (.inr (.inr (.inr (fL)))))), (l0, .inr (3, [.int 576, .int 1, .int 0, .int 0, .int 0, .int 0, .int 0, .int 0])), (pk, .inr (5, [.ref k0, .ref k1, .ref k2, .ref k3, .ref k4, .ref k5, .ref k6, .ref k7, .ref k8, .ref k9, .int 0, .int (-1), .int 0])), (k8, .inl (τ 0, 6, .inl (fun _ => 0)))] sz = A at Y hT ⊢
  refine lv_aload_n B.1 B.2.1 dX9_link_0 rfl (lv_at hl 0 rfl) ?_
  refine lv_iload_n B.1 B.2.1 dX9_link_1 rfl (lv_at hl 1 rfl) ?_
  refine retQX (wc := [(x, .inr (9, [.ref rd, .ref tx, .ref bu, .ref st, .ref pa, .int 0, .int 0, .null, .null])), (st, .inr (7, [.int 0, .int 60, .int 0, .int 576, .int 27, .int (-1), .int 1, .int 0, .ref aL, .ref aD, .ref aH, .ref pk, .ref nt, .ref ac])), (aL, .inl (τ 3, 6, .inr (.inr (.inr (.inr (fL))))))]) (wr := [(l0, .inr (3, [.int 576, .int 1, .int 0, .int 0, .int 0, .int 0, .int 0, .int 0])), (pk, .inr (5, [.ref k0, .ref k1, .ref k2, .ref k3, .ref k4, .ref k5, .ref k6, .ref k7, .ref k8, .ref k9, .int 0, .int (-1), .int 0])), (k8, .inl (τ 0, 6, .inl (fun _ => 0)))]) ht hlk Y [0, 1, 2] [3, 4, 5] rfl rfl (by decide) (by decide) (fun E h => Or.inl h) (Nat.le_of_ble_eq_true rfl) (Nat.le_of_ble_eq_true rfl) (rVX (As := [.int g]) (rest := []) (q0 := 0) B Y hT [0, 1, 2] (by decide) rfl (k_needLink l hl0 D τ _ x rd q0 q1 q2 q3 q4 tx to bu st pa aL aD aH l0 d0 p0 v0 p1 v1 p2 v2 p3 v3 pk k0 k1 k2 k3 k4 k5 k6 k7 k8 k9 nt n0 n1 n2 ac fL fD fH hS g) rfl rfl q_1175 q_1177 qp_35 q_1 q_1178 rfl rfl hd_X9_needLink ⟨(Nat.le_of_ble_eq_true rfl), (Nat.le_of_ble_eq_true rfl)⟩ rfl hl.1 rfl (Nat.le_of_ble_eq_true rfl) dX9_link_2 ⟨(Nat.le_of_ble_eq_true rfl), (Nat.le_of_ble_eq_true rfl)⟩) (fun r u H locs hw Y => ?_)
  have hk : g = 0 := hw.1
  have hw : r = some l0 := hw.2
  subst hw
  subst hk
  show W _ _ _ _ _ _ _ _ _ _ _ _ _ _ _ (F0 m _ ls (.ref l0 :: []))
  have hl : lv_has ls 4 [(0, .ref x), (1, .int 0), (2, .int k)] := hl
  have Y : Wd D τ s A s.heap [(l0, .inr (3, [.int 576, .int 1, .int 0, .int 0, .int 0, .int 0, .int 0, .int 0])), (pk, .inr (5, [.ref k0, .ref k1, .ref k2, .ref k3, .ref k4, .ref k5, .ref k6, .ref k7, .ref k8, .ref k9, .int 0, .int (-1), .int 0])), (k8, .inl (τ 0, 6, .inl (fun _ => 0))), (x, .inr (9, [.ref rd, .ref tx, .ref bu, .ref st, .ref pa, .int 0, .int 0, .null, .null])), (st, .inr (7, [.int 0, .int 60, .int 0, .int 576, .int 27, .int (-1), .int 1, .int 0, .ref aL, .ref aD, .ref aH, .ref pk, .ref nt, .ref ac])), (aL, .inl (τ 3, 6, .inr (.inr (.inr (.inr (fL))))))] H _ := Y
  refine W.widen (k := 1) (n := 6) (Nat.le_of_ble_eq_true rfl) (Nat.le_of_ble_eq_true rfl) ?_
  refine lv_astore_n (lv' := [(3, .ref l0), (0, .ref x), (1, .int 0), (2, .int k)]) B.1 B.2.1 dX9_link_5 rfl hl (by decide) rfl (fun ls hl => ?_)
  refine lv_iload_n B.1 B.2.1 dX9_link_6 rfl (lv_at hl 3 rfl) ?_
  refine lv_iconst (v := 0) B.1 B.2.1 dX9_link_7 (by decide) ?_
  refine lv_bipush (v := 8) B.1 B.2.1 dX9_link_8 (by decide) ?_
  refine retVX (wc := []) (wr := [(l0, .inr (3, [.int 576, .int 1, .int 0, .int 0, .int 0, .int 0, .int 0, .int 0])), (pk, .inr (5, [.ref k0, .ref k1, .ref k2, .ref k3, .ref k4, .ref k5, .ref k6, .ref k7, .ref k8, .ref k9, .int 0, .int (-1), .int 0])), (k8, .inl (τ 0, 6, .inl (fun _ => 0))), (x, .inr (9, [.ref rd, .ref tx, .ref bu, .ref st, .ref pa, .int 0, .int 0, .null, .null])), (st, .inr (7, [.int 0, .int 60, .int 0, .int 576, .int 27, .int (-1), .int 1, .int 0, .ref aL, .ref aD, .ref aH, .ref pk, .ref nt, .ref ac])), (aL, .inl (τ 3, 6, .inr (.inr (.inr (.inr (fL))))))]) ht hlk Y [] [0, 1, 2, 3, 4, 5] rfl rfl (by decide) (by decide) (fun E h => Or.inr ⟨h.1, rfl, h.2⟩) (Nat.le_of_ble_eq_true rfl) (Nat.le_of_ble_eq_true rfl) (rSX (As := [.int k, .int 0, .int 8]) (rest := []) B Y hT [] (by decide) rfl (k_needRange l hl0 D τ _ k 0 8) q_928 q_929 q_1 q_930 rfl rfl hd_X9_needRange ⟨(Nat.le_of_ble_eq_true rfl), (Nat.le_of_ble_eq_true rfl)⟩ rfl hl.1 rfl (Nat.le_of_ble_eq_true rfl) dX9_link_10 ⟨(Nat.le_of_ble_eq_true rfl), (Nat.le_of_ble_eq_true rfl)⟩) (fun u H locs hw Y => ?_)
  have hw : ¬ k < 0 ∧ ¬ 8 < k := hw
  have Y : Wd D τ s A s.heap [(l0, .inr (3, [.int 576, .int 1, .int 0, .int 0, .int 0, .int 0, .int 0, .int 0])), (pk, .inr (5, [.ref k0, .ref k1, .ref k2, .ref k3, .ref k4, .ref k5, .ref k6, .ref k7, .ref k8, .ref k9, .int 0, .int (-1), .int 0])), (k8, .inl (τ 0, 6, .inl (fun _ => 0))), (x, .inr (9, [.ref rd, .ref tx, .ref bu, .ref st, .ref pa, .int 0, .int 0, .null, .null])), (st, .inr (7, [.int 0, .int 60, .int 0, .int 576, .int 27, .int (-1), .int 1, .int 0, .ref aL, .ref aD, .ref aH, .ref pk, .ref nt, .ref ac])), (aL, .inl (τ 3, 6, .inr (.inr (.inr (.inr (fL))))))] H _ := Y
  refine W.widen (k := 2) (n := 12) (Nat.le_of_ble_eq_true rfl) (Nat.le_of_ble_eq_true rfl) ?_
  obtain ⟨n, hn, hna, hnb⟩ := i_rng (a := 0) (b := 8) (by decide) (by decide) hw.1 hw.2
  subst hn
  have hl : lv_has ls 4 [(3, .ref l0), (0, .ref x), (1, .int 0), (2, .int (nI n))] := hl
  rcases (show n = 0 ∨ n = 1 ∨ n = 2 ∨ n = 3 ∨ n = 4 ∨ n = 5 ∨ n = 6 ∨ n = 7 ∨ n = 8 by omega) with rfl | rfl | rfl | rfl | rfl | rfl | rfl | rfl | rfl
  · have hl : lv_has ls 4 [(3, .ref l0), (0, .ref x), (1, .int 0), (2, .int 0)] := hl
    refine lv_iload_n B.1 B.2.1 dX9_link_13 rfl (lv_at hl 3 rfl) ?_
    refine lv_tableIn (off := 46) (tgt := 60) B.1 B.2.1 dX9_link_14 (by decide) (by decide) rfl (by decide) ?_
    refine lv_aload_n B.1 B.2.1 dX9_link_60 rfl (lv_at hl 0 rfl) ?_
    refine gf_X9_168 B Y 0 rfl rfl dX9_link_61 ?_
    exact vx_ret (endI B hr hlk Y () ⟨rfl, 0, by decide, rfl, rfl⟩ [] (by decide) rfl (Nat.le_of_ble_eq_true rfl) (Nat.le_of_ble_eq_true rfl) dX9_link_64)
  · have hl : lv_has ls 4 [(3, .ref l0), (0, .ref x), (1, .int 0), (2, .int 1)] := hl
    refine lv_iload_n B.1 B.2.1 dX9_link_13 rfl (lv_at hl 3 rfl) ?_
    refine lv_tableIn (off := 51) (tgt := 65) B.1 B.2.1 dX9_link_14 (by decide) (by decide) rfl (by decide) ?_
    refine lv_aload_n B.1 B.2.1 dX9_link_65 rfl (lv_at hl 0 rfl) ?_
    refine gf_X9_224 B Y 0 rfl rfl dX9_link_66 ?_
    exact vx_ret (endI B hr hlk Y () ⟨rfl, 1, by decide, rfl, rfl⟩ [] (by decide) rfl (Nat.le_of_ble_eq_true rfl) (Nat.le_of_ble_eq_true rfl) dX9_link_69)
  · have hl : lv_has ls 4 [(3, .ref l0), (0, .ref x), (1, .int 0), (2, .int 2)] := hl
    refine lv_iload_n B.1 B.2.1 dX9_link_13 rfl (lv_at hl 3 rfl) ?_
    refine lv_tableIn (off := 56) (tgt := 70) B.1 B.2.1 dX9_link_14 (by decide) (by decide) rfl (by decide) ?_
    refine lv_aload_n B.1 B.2.1 dX9_link_70 rfl (lv_at hl 0 rfl) ?_
    refine gf_X9_173 B Y 0 rfl rfl dX9_link_71 ?_
    exact vx_ret (endI B hr hlk Y () ⟨rfl, 2, by decide, rfl, rfl⟩ [] (by decide) rfl (Nat.le_of_ble_eq_true rfl) (Nat.le_of_ble_eq_true rfl) dX9_link_74)
  · have hl : lv_has ls 4 [(3, .ref l0), (0, .ref x), (1, .int 0), (2, .int 3)] := hl
    refine lv_iload_n B.1 B.2.1 dX9_link_13 rfl (lv_at hl 3 rfl) ?_
    refine lv_tableIn (off := 61) (tgt := 75) B.1 B.2.1 dX9_link_14 (by decide) (by decide) rfl (by decide) ?_
    refine lv_aload_n B.1 B.2.1 dX9_link_75 rfl (lv_at hl 0 rfl) ?_
    refine gf_X9_227 B Y 0 rfl rfl dX9_link_76 ?_
    exact vx_ret (endI B hr hlk Y () ⟨rfl, 3, by decide, rfl, rfl⟩ [] (by decide) rfl (Nat.le_of_ble_eq_true rfl) (Nat.le_of_ble_eq_true rfl) dX9_link_79)
  · have hl : lv_has ls 4 [(3, .ref l0), (0, .ref x), (1, .int 0), (2, .int 4)] := hl
    refine lv_iload_n B.1 B.2.1 dX9_link_13 rfl (lv_at hl 3 rfl) ?_
    refine lv_tableIn (off := 66) (tgt := 80) B.1 B.2.1 dX9_link_14 (by decide) (by decide) rfl (by decide) ?_
    refine lv_aload_n B.1 B.2.1 dX9_link_80 rfl (lv_at hl 1 rfl) ?_
    refine gf_X9_30 B Y 3 rfl rfl dX9_link_81 ?_
    refine gf_X9_194 B Y 4 rfl rfl dX9_link_84 ?_
    refine lv_iload_n B.1 B.2.1 dX9_link_87 rfl (lv_at hl 2 rfl) ?_
    refine retI (wc := [(pk, .inr (5, [.ref k0, .ref k1, .ref k2, .ref k3, .ref k4, .ref k5, .ref k6, .ref k7, .ref k8, .ref k9, .int 0, .int (-1), .int 0])), (k8, .inl (τ 0, 6, .inl (fun _ => 0)))]) (wr := [(l0, .inr (3, [.int 576, .int 1, .int 0, .int 0, .int 0, .int 0, .int 0, .int 0])), (x, .inr (9, [.ref rd, .ref tx, .ref bu, .ref st, .ref pa, .int 0, .int 0, .null, .null])), (st, .inr (7, [.int 0, .int 60, .int 0, .int 576, .int 27, .int (-1), .int 1, .int 0, .ref aL, .ref aD, .ref aH, .ref pk, .ref nt, .ref ac])), (aL, .inl (τ 3, 6, .inr (.inr (.inr (.inr (fL))))))]) Y [1, 2] [0, 3, 4, 5] rfl rfl (by decide) (by decide) (rV (As := [.int 0]) (rest := []) (q0 := 1) B Y [1, 2] (by decide) rfl (k_waitingOn l D τ _ pk k0 k1 k2 k3 k4 k5 k6 k7 k8 k9) rfl rfl q_817 q_818 q_819 q_5 q_820 rfl rfl hd_X5_waitingOn ⟨(Nat.le_of_ble_eq_true rfl), (Nat.le_of_ble_eq_true rfl)⟩ rfl hl.1 rfl (Nat.le_of_ble_eq_true rfl) dX9_link_88 ⟨(Nat.le_of_ble_eq_true rfl), (Nat.le_of_ble_eq_true rfl)⟩) (fun r u H locs hw Y => ?_)
    have hw : r = 0 := hw
    subst hw
    have Y : Wd D τ s A s.heap [(l0, .inr (3, [.int 576, .int 1, .int 0, .int 0, .int 0, .int 0, .int 0, .int 0])), (x, .inr (9, [.ref rd, .ref tx, .ref bu, .ref st, .ref pa, .int 0, .int 0, .null, .null])), (st, .inr (7, [.int 0, .int 60, .int 0, .int 576, .int 27, .int (-1), .int 1, .int 0, .ref aL, .ref aD, .ref aH, .ref pk, .ref nt, .ref ac])), (aL, .inl (τ 3, 6, .inr (.inr (.inr (.inr (fL)))))), (pk, .inr (5, [.ref k0, .ref k1, .ref k2, .ref k3, .ref k4, .ref k5, .ref k6, .ref k7, .ref k8, .ref k9, .int 0, .int (-1), .int 0])), (k8, .inl (τ 0, 6, .inl (fun _ => 0)))] H _ := Y
    exact vx_ret (endI B hr hlk Y () ⟨rfl, 4, by decide, rfl, rfl⟩ [] (by decide) rfl (Nat.le_of_ble_eq_true rfl) (Nat.le_of_ble_eq_true rfl) dX9_link_91)
  · have hl : lv_has ls 4 [(3, .ref l0), (0, .ref x), (1, .int 0), (2, .int 5)] := hl
    refine lv_iload_n B.1 B.2.1 dX9_link_13 rfl (lv_at hl 3 rfl) ?_
    refine lv_tableIn (off := 78) (tgt := 92) B.1 B.2.1 dX9_link_14 (by decide) (by decide) rfl (by decide) ?_
    refine lv_aload_n B.1 B.2.1 dX9_link_92 rfl (lv_at hl 0 rfl) ?_
    refine gf_X9_233 B Y 0 rfl rfl dX9_link_93 ?_
    exact vx_ret (endI B hr hlk Y () ⟨rfl, 5, by decide, rfl, rfl⟩ [] (by decide) rfl (Nat.le_of_ble_eq_true rfl) (Nat.le_of_ble_eq_true rfl) dX9_link_96)
  · have hl : lv_has ls 4 [(3, .ref l0), (0, .ref x), (1, .int 0), (2, .int 6)] := hl
    refine lv_iload_n B.1 B.2.1 dX9_link_13 rfl (lv_at hl 3 rfl) ?_
    refine lv_tableIn (off := 83) (tgt := 97) B.1 B.2.1 dX9_link_14 (by decide) (by decide) rfl (by decide) ?_
    refine lv_aload_n B.1 B.2.1 dX9_link_97 rfl (lv_at hl 0 rfl) ?_
    refine gf_X9_236 B Y 0 rfl rfl dX9_link_98 ?_
    exact vx_ret (endI B hr hlk Y () ⟨rfl, 6, by decide, rfl, rfl⟩ [] (by decide) rfl (Nat.le_of_ble_eq_true rfl) (Nat.le_of_ble_eq_true rfl) dX9_link_101)
  · have hl : lv_has ls 4 [(3, .ref l0), (0, .ref x), (1, .int 0), (2, .int 7)] := hl
    refine lv_iload_n B.1 B.2.1 dX9_link_13 rfl (lv_at hl 3 rfl) ?_
    refine lv_tableIn (off := 88) (tgt := 102) B.1 B.2.1 dX9_link_14 (by decide) (by decide) rfl (by decide) ?_
    refine lv_aload_n B.1 B.2.1 dX9_link_102 rfl (lv_at hl 0 rfl) ?_
    refine gf_X9_239 B Y 0 rfl rfl dX9_link_103 ?_
    exact vx_ret (endI B hr hlk Y () ⟨rfl, 7, by decide, rfl, rfl⟩ [] (by decide) rfl (Nat.le_of_ble_eq_true rfl) (Nat.le_of_ble_eq_true rfl) dX9_link_106)
  · have hl : lv_has ls 4 [(3, .ref l0), (0, .ref x), (1, .int 0), (2, .int 8)] := hl
    refine lv_iload_n B.1 B.2.1 dX9_link_13 rfl (lv_at hl 3 rfl) ?_
    refine lv_tableOut (tgt := 107) B.1 B.2.1 dX9_link_14 (by decide) (by decide) ?_
    refine lv_aload_n B.1 B.2.1 dX9_link_107 rfl (lv_at hl 0 rfl) ?_
    refine gf_X9_242 B Y 0 rfl rfl dX9_link_108 ?_
    exact vx_ret (endI B hr hlk Y () ⟨rfl, 8, by decide, rfl, rfl⟩ [] (by decide) rfl (Nat.le_of_ble_eq_true rfl) (Nat.le_of_ble_eq_true rfl) dX9_link_111)

set_option maxHeartbeats 4000000 in
set_option maxRecDepth 100000 in
theorem k_numberOf (l : Launch) (D : va_G) (τ : Nat → ClassId) (sz : Nat) (h0 n : Nat) (hn : n ≤ 11) : Met l yX0_numberOf (Cond.code yX0_numberOf cX0_numberOf 2 (some .int) :: wALL) { frames := 0, cells := 0, slots := 0, locals := 0 } (Pw D τ [(h0, .inr (0, [.int 0, .int 0, .int 0, .int 0, .int 0, .int 0, .int 0, .int 0, .int 0, .int 0, .int 0, .int 0, .int 0]))] sz [.ref h0, .int (nI n)]) (va_Qi (fun (r : Int32) (_ : Unit) => r = 0) (Bw D (va_A [(h0, .inr (0, [.int 0, .int 0, .int 0, .int 0, .int 0, .int 0, .int 0, .int 0, .int 0, .int 0, .int 0, .int 0, .int 0]))] sz) (fun (_ : Unit) => [(h0, .inr (0, [.int 0, .int 0, .int 0, .int 0, .int 0, .int 0, .int 0, .int 0, .int 0, .int 0, .int 0, .int 0, .int 0]))])) (va_A [(h0, .inr (0, [.int 0, .int 0, .int 0, .int 0, .int 0, .int 0, .int 0, .int 0, .int 0, .int 0, .int 0, .int 0, .int 0]))] sz)) 0 0 (va_A [(h0, .inr (0, [.int 0, .int 0, .int 0, .int 0, .int 0, .int 0, .int 0, .int 0, .int 0, .int 0, .int 0, .int 0, .int 0]))] sz) := by
  refine bodyW (by decide) (Nat.le_of_ble_eq_true rfl) (fun p e s m below meth c ls B hr hlk hin hsz Y hl => ?_)
  have hl : lv_has ls 2 [(0, .ref h0), (1, .int (nI n))] := hl
  have B : CallFix p m c cX0_numberOf 2 s _ wALL RX0 := B
  generalize va_A [(h0, .inr (0, [.int 0, .int 0, .int 0, .int 0, .int 0, .int 0, .int 0, .int 0, .int 0, .int 0, .int 0, .int 0, .int 0]))] sz = A at Y ⊢
  rcases (show n = 0 ∨ n = 1 ∨ n = 2 ∨ n = 3 ∨ n = 4 ∨ n = 5 ∨ n = 6 ∨ n = 7 ∨ n = 8 ∨ n = 9 ∨ n = 10 ∨ n = 11 by omega) with rfl | rfl | rfl | rfl | rfl | rfl | rfl | rfl | rfl | rfl | rfl | rfl
  · have hl : lv_has ls 2 [(0, .ref h0), (1, .int 0)] := hl
    refine lv_iload_n B.1 B.2.1 dX0_numberOf_0 rfl (lv_at hl 1 rfl) ?_
    refine lv_tableIn (off := 59) (tgt := 60) B.1 B.2.1 dX0_numberOf_1 (by decide) (by decide) rfl (by decide) ?_
    refine lv_aload_n B.1 B.2.1 dX0_numberOf_60 rfl (lv_at hl 0 rfl) ?_
    refine gf_X0_7 B Y 0 rfl rfl dX0_numberOf_61 ?_
    exact endI B hr hlk Y () rfl [0] (by decide) rfl (Nat.le_of_ble_eq_true rfl) (Nat.le_of_ble_eq_true rfl) dX0_numberOf_64
  · have hl : lv_has ls 2 [(0, .ref h0), (1, .int 1)] := hl
    refine lv_iload_n B.1 B.2.1 dX0_numberOf_0 rfl (lv_at hl 1 rfl) ?_
    refine lv_tableIn (off := 64) (tgt := 65) B.1 B.2.1 dX0_numberOf_1 (by decide) (by decide) rfl (by decide) ?_
    refine lv_aload_n B.1 B.2.1 dX0_numberOf_65 rfl (lv_at hl 0 rfl) ?_
    refine gf_X0_13 B Y 0 rfl rfl dX0_numberOf_66 ?_
    exact endI B hr hlk Y () rfl [0] (by decide) rfl (Nat.le_of_ble_eq_true rfl) (Nat.le_of_ble_eq_true rfl) dX0_numberOf_69
  · have hl : lv_has ls 2 [(0, .ref h0), (1, .int 2)] := hl
    refine lv_iload_n B.1 B.2.1 dX0_numberOf_0 rfl (lv_at hl 1 rfl) ?_
    refine lv_tableIn (off := 69) (tgt := 70) B.1 B.2.1 dX0_numberOf_1 (by decide) (by decide) rfl (by decide) ?_
    refine lv_aload_n B.1 B.2.1 dX0_numberOf_70 rfl (lv_at hl 0 rfl) ?_
    refine gf_X0_16 B Y 0 rfl rfl dX0_numberOf_71 ?_
    exact endI B hr hlk Y () rfl [0] (by decide) rfl (Nat.le_of_ble_eq_true rfl) (Nat.le_of_ble_eq_true rfl) dX0_numberOf_74
  · have hl : lv_has ls 2 [(0, .ref h0), (1, .int 3)] := hl
    refine lv_iload_n B.1 B.2.1 dX0_numberOf_0 rfl (lv_at hl 1 rfl) ?_
    refine lv_tableIn (off := 74) (tgt := 75) B.1 B.2.1 dX0_numberOf_1 (by decide) (by decide) rfl (by decide) ?_
    refine lv_aload_n B.1 B.2.1 dX0_numberOf_75 rfl (lv_at hl 0 rfl) ?_
    refine gf_X0_19 B Y 0 rfl rfl dX0_numberOf_76 ?_
    exact endI B hr hlk Y () rfl [0] (by decide) rfl (Nat.le_of_ble_eq_true rfl) (Nat.le_of_ble_eq_true rfl) dX0_numberOf_79
  · have hl : lv_has ls 2 [(0, .ref h0), (1, .int 4)] := hl
    refine lv_iload_n B.1 B.2.1 dX0_numberOf_0 rfl (lv_at hl 1 rfl) ?_
    refine lv_tableIn (off := 79) (tgt := 80) B.1 B.2.1 dX0_numberOf_1 (by decide) (by decide) rfl (by decide) ?_
    refine lv_aload_n B.1 B.2.1 dX0_numberOf_80 rfl (lv_at hl 0 rfl) ?_
    refine gf_X0_22 B Y 0 rfl rfl dX0_numberOf_81 ?_
    exact endI B hr hlk Y () rfl [0] (by decide) rfl (Nat.le_of_ble_eq_true rfl) (Nat.le_of_ble_eq_true rfl) dX0_numberOf_84
  · have hl : lv_has ls 2 [(0, .ref h0), (1, .int 5)] := hl
    refine lv_iload_n B.1 B.2.1 dX0_numberOf_0 rfl (lv_at hl 1 rfl) ?_
    refine lv_tableIn (off := 84) (tgt := 85) B.1 B.2.1 dX0_numberOf_1 (by decide) (by decide) rfl (by decide) ?_
    refine lv_aload_n B.1 B.2.1 dX0_numberOf_85 rfl (lv_at hl 0 rfl) ?_
    refine gf_X0_25 B Y 0 rfl rfl dX0_numberOf_86 ?_
    exact endI B hr hlk Y () rfl [0] (by decide) rfl (Nat.le_of_ble_eq_true rfl) (Nat.le_of_ble_eq_true rfl) dX0_numberOf_89
  · have hl : lv_has ls 2 [(0, .ref h0), (1, .int 6)] := hl
    refine lv_iload_n B.1 B.2.1 dX0_numberOf_0 rfl (lv_at hl 1 rfl) ?_
    refine lv_tableIn (off := 89) (tgt := 90) B.1 B.2.1 dX0_numberOf_1 (by decide) (by decide) rfl (by decide) ?_
    refine lv_aload_n B.1 B.2.1 dX0_numberOf_90 rfl (lv_at hl 0 rfl) ?_
    refine gf_X0_28 B Y 0 rfl rfl dX0_numberOf_91 ?_
    exact endI B hr hlk Y () rfl [0] (by decide) rfl (Nat.le_of_ble_eq_true rfl) (Nat.le_of_ble_eq_true rfl) dX0_numberOf_94
  · have hl : lv_has ls 2 [(0, .ref h0), (1, .int 7)] := hl
    refine lv_iload_n B.1 B.2.1 dX0_numberOf_0 rfl (lv_at hl 1 rfl) ?_
    refine lv_tableIn (off := 94) (tgt := 95) B.1 B.2.1 dX0_numberOf_1 (by decide) (by decide) rfl (by decide) ?_
    refine lv_aload_n B.1 B.2.1 dX0_numberOf_95 rfl (lv_at hl 0 rfl) ?_
    refine gf_X0_31 B Y 0 rfl rfl dX0_numberOf_96 ?_
    exact endI B hr hlk Y () rfl [0] (by decide) rfl (Nat.le_of_ble_eq_true rfl) (Nat.le_of_ble_eq_true rfl) dX0_numberOf_99
  · have hl : lv_has ls 2 [(0, .ref h0), (1, .int 8)] := hl
    refine lv_iload_n B.1 B.2.1 dX0_numberOf_0 rfl (lv_at hl 1 rfl) ?_
    refine lv_tableIn (off := 99) (tgt := 100) B.1 B.2.1 dX0_numberOf_1 (by decide) (by decide) rfl (by decide) ?_
    refine lv_aload_n B.1 B.2.1 dX0_numberOf_100 rfl (lv_at hl 0 rfl) ?_
    refine gf_X0_34 B Y 0 rfl rfl dX0_numberOf_101 ?_
    exact endI B hr hlk Y () rfl [0] (by decide) rfl (Nat.le_of_ble_eq_true rfl) (Nat.le_of_ble_eq_true rfl) dX0_numberOf_104
  · have hl : lv_has ls 2 [(0, .ref h0), (1, .int 9)] := hl
    refine lv_iload_n B.1 B.2.1 dX0_numberOf_0 rfl (lv_at hl 1 rfl) ?_
    refine lv_tableIn (off := 104) (tgt := 105) B.1 B.2.1 dX0_numberOf_1 (by decide) (by decide) rfl (by decide) ?_
    refine lv_aload_n B.1 B.2.1 dX0_numberOf_105 rfl (lv_at hl 0 rfl) ?_
    refine gf_X0_37 B Y 0 rfl rfl dX0_numberOf_106 ?_
    exact endI B hr hlk Y () rfl [0] (by decide) rfl (Nat.le_of_ble_eq_true rfl) (Nat.le_of_ble_eq_true rfl) dX0_numberOf_109
  · have hl : lv_has ls 2 [(0, .ref h0), (1, .int 10)] := hl
    refine lv_iload_n B.1 B.2.1 dX0_numberOf_0 rfl (lv_at hl 1 rfl) ?_
    refine lv_tableIn (off := 109) (tgt := 110) B.1 B.2.1 dX0_numberOf_1 (by decide) (by decide) rfl (by decide) ?_
    refine lv_aload_n B.1 B.2.1 dX0_numberOf_110 rfl (lv_at hl 0 rfl) ?_
    refine gf_X0_40 B Y 0 rfl rfl dX0_numberOf_111 ?_
    exact endI B hr hlk Y () rfl [0] (by decide) rfl (Nat.le_of_ble_eq_true rfl) (Nat.le_of_ble_eq_true rfl) dX0_numberOf_114
  · have hl : lv_has ls 2 [(0, .ref h0), (1, .int 11)] := hl
    refine lv_iload_n B.1 B.2.1 dX0_numberOf_0 rfl (lv_at hl 1 rfl) ?_
    refine lv_tableOut (tgt := 115) B.1 B.2.1 dX0_numberOf_1 (by decide) (by decide) ?_
    refine lv_aload_n B.1 B.2.1 dX0_numberOf_115 rfl (lv_at hl 0 rfl) ?_
    refine gf_X0_43 B Y 0 rfl rfl dX0_numberOf_116 ?_
    exact endI B hr hlk Y () rfl [0] (by decide) rfl (Nat.le_of_ble_eq_true rfl) (Nat.le_of_ble_eq_true rfl) dX0_numberOf_119

set_option maxHeartbeats 4000000 in
set_option maxRecDepth 100000 in
theorem m_account (l : Launch) (hl0 : l.stackTraces = false) (D : va_G) (τ : Nat → ClassId) (sz : Nat) (x rd q0 q1 q2 q3 q4 tx to bu st pa aL aD aH l0 d0 p0 v0 p1 v1 p2 v2 p3 v3 pk k0 k1 k2 k3 k4 k5 k6 k7 k8 k9 nt n0 n1 n2 ac : Nat) (fL fD fH : Nat → Option Nat) (hS : fL 0 = some l0 ∧ fD 0 = some d0 ∧ fH 0 = some p0 ∧ fH 1 = some p1 ∧ fH 2 = some p2 ∧ fH 3 = some p3) (k : Int32) : vx_Met l yX9_account (Cond.code yX9_account cX9_account 2 (some .int) :: wALL) { frames := 7, cells := 1, slots := 6, locals := 162 } (PwX D τ [(x, .inr (9, [.ref rd, .ref tx, .ref bu, .ref st, .ref pa, .int 0, .int 0, .null, .null])), (st, .inr (7, [.int 0, .int 60, .int 0, .int 576, .int 27, .int (-1), .int 1, .int 0, .ref aL, .ref aD, .ref aH, .ref pk, .ref nt, .ref ac])), (ac, .inr (0, [.int 0, .int 0, .int 0, .int 0, .int 0, .int 0, .int 0, .int 0, .int 0, .int 0, .int 0, .int 0, .int 0]))] sz [.ref x, .int k]) (va_Qi (fun (r : Int32) (_ : Unit) => ¬ k < 0 ∧ ¬ 11 < k ∧ r = 0) (Bw D (va_A [(x, .inr (9, [.ref rd, .ref tx, .ref bu, .ref st, .ref pa, .int 0, .int 0, .null, .null])), (st, .inr (7, [.int 0, .int 60, .int 0, .int 576, .int 27, .int (-1), .int 1, .int 0, .ref aL, .ref aD, .ref aH, .ref pk, .ref nt, .ref ac])), (ac, .inr (0, [.int 0, .int 0, .int 0, .int 0, .int 0, .int 0, .int 0, .int 0, .int 0, .int 0, .int 0, .int 0, .int 0]))] sz) (fun (_ : Unit) => [])) (va_A [(x, .inr (9, [.ref rd, .ref tx, .ref bu, .ref st, .ref pa, .int 0, .int 0, .null, .null])), (st, .inr (7, [.int 0, .int 60, .int 0, .int 576, .int 27, .int (-1), .int 1, .int 0, .ref aL, .ref aD, .ref aH, .ref pk, .ref nt, .ref ac])), (ac, .inr (0, [.int 0, .int 0, .int 0, .int 0, .int 0, .int 0, .int 0, .int 0, .int 0, .int 0, .int 0, .int 0, .int 0]))] sz)) (XQ (fun E => E = "java/lang/IllegalArgumentException" ∧ (k < 0 ∨ 11 < k)) (va_A [(x, .inr (9, [.ref rd, .ref tx, .ref bu, .ref st, .ref pa, .int 0, .int 0, .null, .null])), (st, .inr (7, [.int 0, .int 60, .int 0, .int 576, .int 27, .int (-1), .int 1, .int 0, .ref aL, .ref aD, .ref aH, .ref pk, .ref nt, .ref ac])), (ac, .inr (0, [.int 0, .int 0, .int 0, .int 0, .int 0, .int 0, .int 0, .int 0, .int 0, .int 0, .int 0, .int 0, .int 0]))] sz)) 1 6 (va_A [(x, .inr (9, [.ref rd, .ref tx, .ref bu, .ref st, .ref pa, .int 0, .int 0, .null, .null])), (st, .inr (7, [.int 0, .int 60, .int 0, .int 576, .int 27, .int (-1), .int 1, .int 0, .ref aL, .ref aD, .ref aH, .ref pk, .ref nt, .ref ac])), (ac, .inr (0, [.int 0, .int 0, .int 0, .int 0, .int 0, .int 0, .int 0, .int 0, .int 0, .int 0, .int 0, .int 0, .int 0]))] sz) := by
  refine bodyX (by decide) (Nat.le_of_ble_eq_true rfl) (fun p e s m below meth c ls B hr hlk ht hsz Y hT hl => ?_)
  have hl : lv_has ls 2 [(0, .ref x), (1, .int k)] := hl
  have B : CallFix p m c cX9_account 2 s _ wALL RX9 := B
  generalize va_A [(x, .inr (9, [.ref rd, .ref tx, .ref bu, .ref st, .ref pa, .int 0, .int 0, .null, .null])), (st, .inr (7, [.int 0, .int 60, .int 0, .int 576, .int 27, .int (-1), .int 1, .int 0, .ref aL, .ref aD, .ref aH, .ref pk, .ref nt, .ref ac])), (ac, .inr (0, [.int 0, .int 0, .int 0, .int 0, .int 0, .int 0, .int 0, .int 0, .int 0, .int 0, .int 0, .int 0, .int 0]))] sz = A at Y hT ⊢
  refine lv_iload_n B.1 B.2.1 dX9_account_0 rfl (lv_at hl 1 rfl) ?_
  refine lv_iconst (v := 0) B.1 B.2.1 dX9_account_1 (by decide) ?_
  refine lv_bipush (v := 11) B.1 B.2.1 dX9_account_2 (by decide) ?_
  refine retVX (wc := []) (wr := [(x, .inr (9, [.ref rd, .ref tx, .ref bu, .ref st, .ref pa, .int 0, .int 0, .null, .null])), (st, .inr (7, [.int 0, .int 60, .int 0, .int 576, .int 27, .int (-1), .int 1, .int 0, .ref aL, .ref aD, .ref aH, .ref pk, .ref nt, .ref ac])), (ac, .inr (0, [.int 0, .int 0, .int 0, .int 0, .int 0, .int 0, .int 0, .int 0, .int 0, .int 0, .int 0, .int 0, .int 0]))]) ht hlk Y [] [0, 1, 2] rfl rfl (by decide) (by decide) (fun E h => h) (Nat.le_of_ble_eq_true rfl) (Nat.le_of_ble_eq_true rfl) (rSX (As := [.int k, .int 0, .int 11]) (rest := []) B Y hT [] (by decide) rfl (k_needRange l hl0 D τ _ k 0 11) q_928 q_929 q_1 q_930 rfl rfl hd_X9_needRange ⟨(Nat.le_of_ble_eq_true rfl), (Nat.le_of_ble_eq_true rfl)⟩ rfl hl.1 rfl (Nat.le_of_ble_eq_true rfl) dX9_account_4 ⟨(Nat.le_of_ble_eq_true rfl), (Nat.le_of_ble_eq_true rfl)⟩) (fun u H locs hw Y => ?_)
  have hw : ¬ k < 0 ∧ ¬ 11 < k := hw
  have Y : Wd D τ s A s.heap [(x, .inr (9, [.ref rd, .ref tx, .ref bu, .ref st, .ref pa, .int 0, .int 0, .null, .null])), (st, .inr (7, [.int 0, .int 60, .int 0, .int 576, .int 27, .int (-1), .int 1, .int 0, .ref aL, .ref aD, .ref aH, .ref pk, .ref nt, .ref ac])), (ac, .inr (0, [.int 0, .int 0, .int 0, .int 0, .int 0, .int 0, .int 0, .int 0, .int 0, .int 0, .int 0, .int 0, .int 0]))] H _ := Y
  refine W.widen (k := 1) (n := 6) (Nat.le_of_ble_eq_true rfl) (Nat.le_of_ble_eq_true rfl) ?_
  have hw0 := hw
  obtain ⟨n, hn, hna, hnb⟩ := i_rng (a := 0) (b := 11) (by decide) (by decide) hw.1 hw.2
  subst hn
  have hl : lv_has ls 2 [(0, .ref x), (1, .int (nI n))] := hl
  refine lv_aload_n B.1 B.2.1 dX9_account_7 rfl (lv_at hl 0 rfl) ?_
  refine gf_X9_30 B Y 0 rfl rfl dX9_account_8 ?_
  refine gf_X9_341 B Y 1 rfl rfl dX9_account_11 ?_
  refine lv_iload_n B.1 B.2.1 dX9_account_14 rfl (lv_at hl 1 rfl) ?_
  refine retI (wc := [(ac, .inr (0, [.int 0, .int 0, .int 0, .int 0, .int 0, .int 0, .int 0, .int 0, .int 0, .int 0, .int 0, .int 0, .int 0]))]) (wr := [(x, .inr (9, [.ref rd, .ref tx, .ref bu, .ref st, .ref pa, .int 0, .int 0, .null, .null])), (st, .inr (7, [.int 0, .int 60, .int 0, .int 576, .int 27, .int (-1), .int 1, .int 0, .ref aL, .ref aD, .ref aH, .ref pk, .ref nt, .ref ac]))]) Y [2] [0, 1] rfl rfl (by decide) (by decide) (rV (As := [.int (nI n)]) (rest := []) (q0 := 2) B Y [2] (by decide) rfl (k_numberOf l D τ _ ac n hnb) rfl rfl q_1293 q_1294 q_1295 q_8 q_1296 rfl rfl hd_X0_numberOf ⟨(Nat.le_of_ble_eq_true rfl), (Nat.le_of_ble_eq_true rfl)⟩ rfl hl.1 rfl (Nat.le_of_ble_eq_true rfl) dX9_account_15 ⟨(Nat.le_of_ble_eq_true rfl), (Nat.le_of_ble_eq_true rfl)⟩) (fun r u H locs hw Y => ?_)
  have hw : r = 0 := hw
  subst hw
  have Y : Wd D τ s A s.heap [(x, .inr (9, [.ref rd, .ref tx, .ref bu, .ref st, .ref pa, .int 0, .int 0, .null, .null])), (st, .inr (7, [.int 0, .int 60, .int 0, .int 576, .int 27, .int (-1), .int 1, .int 0, .ref aL, .ref aD, .ref aH, .ref pk, .ref nt, .ref ac])), (ac, .inr (0, [.int 0, .int 0, .int 0, .int 0, .int 0, .int 0, .int 0, .int 0, .int 0, .int 0, .int 0, .int 0, .int 0]))] H _ := Y
  exact vx_ret (endI B hr hlk Y () ⟨hw0.1, hw0.2, rfl⟩ [] (by decide) rfl (Nat.le_of_ble_eq_true rfl) (Nat.le_of_ble_eq_true rfl) dX9_account_18)

set_option maxHeartbeats 4000000 in
set_option maxRecDepth 100000 in
theorem k_slotInOrder (l : Launch) (D : va_G) (τ : Nat → ClassId) (sz : Nat) (pk k0 k1 k2 k3 k4 k5 k6 k7 k8 k9 : Nat) (k : Int32) : Met l yX5_slotInOrder (Cond.code yX5_slotInOrder cX5_slotInOrder 5 (some .int) :: wALL) { frames := 0, cells := 0, slots := 0, locals := 0 } (Pw D τ [(pk, .inr (5, [.ref k0, .ref k1, .ref k2, .ref k3, .ref k4, .ref k5, .ref k6, .ref k7, .ref k8, .ref k9, .int 0, .int (-1), .int 0]))] sz [.ref pk, .int k]) (va_Qi (fun (r : Int32) (_ : Unit) => r = (-1)) (Bw D (va_A [(pk, .inr (5, [.ref k0, .ref k1, .ref k2, .ref k3, .ref k4, .ref k5, .ref k6, .ref k7, .ref k8, .ref k9, .int 0, .int (-1), .int 0]))] sz) (fun (_ : Unit) => [(pk, .inr (5, [.ref k0, .ref k1, .ref k2, .ref k3, .ref k4, .ref k5, .ref k6, .ref k7, .ref k8, .ref k9, .int 0, .int (-1), .int 0]))])) (va_A [(pk, .inr (5, [.ref k0, .ref k1, .ref k2, .ref k3, .ref k4, .ref k5, .ref k6, .ref k7, .ref k8, .ref k9, .int 0, .int (-1), .int 0]))] sz)) 0 0 (va_A [(pk, .inr (5, [.ref k0, .ref k1, .ref k2, .ref k3, .ref k4, .ref k5, .ref k6, .ref k7, .ref k8, .ref k9, .int 0, .int (-1), .int 0]))] sz) := by
  refine bodyW (by decide) (Nat.le_of_ble_eq_true rfl) (fun p e s m below meth c ls B hr hlk hin hsz Y hl => ?_)
  have hl : lv_has ls 5 [(0, .ref pk), (1, .int k)] := hl
  have B : CallFix p m c cX5_slotInOrder 5 s _ wALL RX5 := B
  generalize va_A [(pk, .inr (5, [.ref k0, .ref k1, .ref k2, .ref k3, .ref k4, .ref k5, .ref k6, .ref k7, .ref k8, .ref k9, .int 0, .int (-1), .int 0]))] sz = A at Y ⊢
  refine lv_iload_n B.1 B.2.1 dX5_slotInOrder_0 rfl (lv_at hl 1 rfl) ?_
  refine lv_if_lt (tgt := 12) B.1 B.2.1 dX5_slotInOrder_1 (by decide) (fun c1 => ?_) (fun c1 => ?_)
  · refine lv_iconst (v := (-1)) B.1 B.2.1 dX5_slotInOrder_12 (by decide) ?_
    exact endI B hr hlk Y () rfl [0] (by decide) rfl (Nat.le_of_ble_eq_true rfl) (Nat.le_of_ble_eq_true rfl) dX5_slotInOrder_13
  · refine lv_iload_n B.1 B.2.1 dX5_slotInOrder_4 rfl (lv_at hl 1 rfl) ?_
    refine lv_aload_n B.1 B.2.1 dX5_slotInOrder_5 rfl (lv_at hl 0 rfl) ?_
    refine gf_X5_49 B Y 0 rfl rfl dX5_slotInOrder_6 ?_
    refine lv_icmp_lt (tgt := 14) B.1 B.2.1 dX5_slotInOrder_9 (by decide) (fun h => absurd h c1) (fun _ => ?_)
    refine lv_iconst (v := (-1)) B.1 B.2.1 dX5_slotInOrder_12 (by decide) ?_
    exact endI B hr hlk Y () rfl [0] (by decide) rfl (Nat.le_of_ble_eq_true rfl) (Nat.le_of_ble_eq_true rfl) dX5_slotInOrder_13

set_option maxHeartbeats 4000000 in
set_option maxRecDepth 100000 in
theorem m_packet (l : Launch) (hl0 : l.stackTraces = false) (D : va_G) (τ : Nat → ClassId) (sz : Nat) (x rd q0 q1 q2 q3 q4 tx to bu st pa aL aD aH l0 d0 p0 v0 p1 v1 p2 v2 p3 v3 pk k0 k1 k2 k3 k4 k5 k6 k7 k8 k9 nt n0 n1 n2 ac : Nat) (fL fD fH : Nat → Option Nat) (hS : fL 0 = some l0 ∧ fD 0 = some d0 ∧ fH 0 = some p0 ∧ fH 1 = some p1 ∧ fH 2 = some p2 ∧ fH 3 = some p3) (k y1 : Int32) : vx_Met l yX9_packet (Cond.code yX9_packet cX9_packet 4 (some .int) :: wALL) { frames := 7, cells := 1, slots := 6, locals := 162 } (PwX D τ [(x, .inr (9, [.ref rd, .ref tx, .ref bu, .ref st, .ref pa, .int 0, .int 0, .null, .null])), (st, .inr (7, [.int 0, .int 60, .int 0, .int 576, .int 27, .int (-1), .int 1, .int 0, .ref aL, .ref aD, .ref aH, .ref pk, .ref nt, .ref ac])), (pk, .inr (5, [.ref k0, .ref k1, .ref k2, .ref k3, .ref k4, .ref k5, .ref k6, .ref k7, .ref k8, .ref k9, .int 0, .int (-1), .int 0]))] sz [.ref x, .int k, .int y1]) (va_Qi (fun (r : Int32) (_ : Unit) => False) (Bw D (va_A [(x, .inr (9, [.ref rd, .ref tx, .ref bu, .ref st, .ref pa, .int 0, .int 0, .null, .null])), (st, .inr (7, [.int 0, .int 60, .int 0, .int 576, .int 27, .int (-1), .int 1, .int 0, .ref aL, .ref aD, .ref aH, .ref pk, .ref nt, .ref ac])), (pk, .inr (5, [.ref k0, .ref k1, .ref k2, .ref k3, .ref k4, .ref k5, .ref k6, .ref k7, .ref k8, .ref k9, .int 0, .int (-1), .int 0]))] sz) (fun (_ : Unit) => [])) (va_A [(x, .inr (9, [.ref rd, .ref tx, .ref bu, .ref st, .ref pa, .int 0, .int 0, .null, .null])), (st, .inr (7, [.int 0, .int 60, .int 0, .int 576, .int 27, .int (-1), .int 1, .int 0, .ref aL, .ref aD, .ref aH, .ref pk, .ref nt, .ref ac])), (pk, .inr (5, [.ref k0, .ref k1, .ref k2, .ref k3, .ref k4, .ref k5, .ref k6, .ref k7, .ref k8, .ref k9, .int 0, .int (-1), .int 0]))] sz)) (XQ (fun E => E = "java/lang/IndexOutOfBoundsException") (va_A [(x, .inr (9, [.ref rd, .ref tx, .ref bu, .ref st, .ref pa, .int 0, .int 0, .null, .null])), (st, .inr (7, [.int 0, .int 60, .int 0, .int 576, .int 27, .int (-1), .int 1, .int 0, .ref aL, .ref aD, .ref aH, .ref pk, .ref nt, .ref ac])), (pk, .inr (5, [.ref k0, .ref k1, .ref k2, .ref k3, .ref k4, .ref k5, .ref k6, .ref k7, .ref k8, .ref k9, .int 0, .int (-1), .int 0]))] sz)) 1 6 (va_A [(x, .inr (9, [.ref rd, .ref tx, .ref bu, .ref st, .ref pa, .int 0, .int 0, .null, .null])), (st, .inr (7, [.int 0, .int 60, .int 0, .int 576, .int 27, .int (-1), .int 1, .int 0, .ref aL, .ref aD, .ref aH, .ref pk, .ref nt, .ref ac])), (pk, .inr (5, [.ref k0, .ref k1, .ref k2, .ref k3, .ref k4, .ref k5, .ref k6, .ref k7, .ref k8, .ref k9, .int 0, .int (-1), .int 0]))] sz) := by
  refine bodyX (by decide) (Nat.le_of_ble_eq_true rfl) (fun p e s m below meth c ls B hr hlk ht hsz Y hT hl => ?_)
  have hl : lv_has ls 4 [(0, .ref x), (1, .int k), (2, .int y1)] := hl
  have B : CallFix p m c cX9_packet 4 s _ wALL RX9 := B
  generalize va_A [(x, .inr (9, [.ref rd, .ref tx, .ref bu, .ref st, .ref pa, .int 0, .int 0, .null, .null])), (st, .inr (7, [.int 0, .int 60, .int 0, .int 576, .int 27, .int (-1), .int 1, .int 0, .ref aL, .ref aD, .ref aH, .ref pk, .ref nt, .ref ac])), (pk, .inr (5, [.ref k0, .ref k1, .ref k2, .ref k3, .ref k4, .ref k5, .ref k6, .ref k7, .ref k8, .ref k9, .int 0, .int (-1), .int 0]))] sz = A at Y hT ⊢
  refine lv_aload_n B.1 B.2.1 dX9_packet_0 rfl (lv_at hl 0 rfl) ?_
  refine gf_X9_30 B Y 0 rfl rfl dX9_packet_1 ?_
  refine gf_X9_194 B Y 1 rfl rfl dX9_packet_4 ?_
  refine lv_iload_n B.1 B.2.1 dX9_packet_7 rfl (lv_at hl 1 rfl) ?_
  refine retI (wc := [(pk, .inr (5, [.ref k0, .ref k1, .ref k2, .ref k3, .ref k4, .ref k5, .ref k6, .ref k7, .ref k8, .ref k9, .int 0, .int (-1), .int 0]))]) (wr := [(x, .inr (9, [.ref rd, .ref tx, .ref bu, .ref st, .ref pa, .int 0, .int 0, .null, .null])), (st, .inr (7, [.int 0, .int 60, .int 0, .int 576, .int 27, .int (-1), .int 1, .int 0, .ref aL, .ref aD, .ref aH, .ref pk, .ref nt, .ref ac]))]) Y [2] [0, 1] rfl rfl (by decide) (by decide) (rV (As := [.int k]) (rest := []) (q0 := 2) B Y [2] (by decide) rfl (k_slotInOrder l D τ _ pk k0 k1 k2 k3 k4 k5 k6 k7 k8 k9 k) rfl rfl q_1226 q_1227 q_1228 q_5 q_1229 rfl rfl hd_X5_slotInOrder ⟨(Nat.le_of_ble_eq_true rfl), (Nat.le_of_ble_eq_true rfl)⟩ rfl hl.1 rfl (Nat.le_of_ble_eq_true rfl) dX9_packet_8 ⟨(Nat.le_of_ble_eq_true rfl), (Nat.le_of_ble_eq_true rfl)⟩) (fun r u H locs hw Y => ?_)
  have hw : r = (-1) := hw
  subst hw
  have Y : Wd D τ s A s.heap [(x, .inr (9, [.ref rd, .ref tx, .ref bu, .ref st, .ref pa, .int 0, .int 0, .null, .null])), (st, .inr (7, [.int 0, .int 60, .int 0, .int 576, .int 27, .int (-1), .int 1, .int 0, .ref aL, .ref aD, .ref aH, .ref pk, .ref nt, .ref ac])), (pk, .inr (5, [.ref k0, .ref k1, .ref k2, .ref k3, .ref k4, .ref k5, .ref k6, .ref k7, .ref k8, .ref k9, .int 0, .int (-1), .int 0]))] H _ := Y
  refine lv_istore_n (lv' := [(3, .int (-1)), (0, .ref x), (1, .int k), (2, .int y1)]) B.1 B.2.1 dX9_packet_11 rfl hl (by decide) rfl (fun ls hl => ?_)
  refine lv_iload_n B.1 B.2.1 dX9_packet_12 rfl (lv_at hl 0 rfl) ?_
  refine lv_iconst (v := (-1)) B.1 B.2.1 dX9_packet_13 (by decide) ?_
  refine lv_icmp_ne (tgt := 28) B.1 B.2.1 dX9_packet_14 (by decide) (fun h => absurd (by decide) h) (fun _ => ?_)
  exact t_throwW (names := ["java/lang/RuntimeException", "java/lang/Exception"]) (text := "there is no such packet") B hl0 Y hT (by decide) (by decide) q_1179 q_24 (by decide +kernel) th1_X9_281 th2_X9_281 th3_X9_281 hl.1 dX9_packet_17 dX9_packet_20 dX9_packet_21 dX9_packet_24 dX9_packet_27 ht hlk (Nat.le_of_ble_eq_true rfl) (Nat.le_of_ble_eq_true rfl) (Nat.le_of_ble_eq_true rfl) (Nat.le_of_ble_eq_true rfl) rfl (Nat.le_of_ble_eq_true rfl) (Nat.le_of_ble_eq_true rfl)

set_option maxHeartbeats 4000000 in
set_option maxRecDepth 100000 in
theorem m_gap (l : Launch) (D : va_G) (τ : Nat → ClassId) (sz : Nat) (x rd q0 q1 q2 q3 q4 tx to bu st pa aL aD aH l0 d0 p0 v0 p1 v1 p2 v2 p3 v3 pk k0 k1 k2 k3 k4 k5 k6 k7 k8 k9 nt n0 n1 n2 ac : Nat) (fL fD fH : Nat → Option Nat) (hS : fL 0 = some l0 ∧ fD 0 = some d0 ∧ fH 0 = some p0 ∧ fH 1 = some p1 ∧ fH 2 = some p2 ∧ fH 3 = some p3) : Met l yX9_gap (Cond.code yX9_gap cX9_gap 2 (some .int) :: wALL) { frames := 0, cells := 0, slots := 0, locals := 0 } (Pw D τ [(x, .inr (9, [.ref rd, .ref tx, .ref bu, .ref st, .ref pa, .int 0, .int 0, .null, .null])), (st, .inr (7, [.int 0, .int 60, .int 0, .int 576, .int 27, .int (-1), .int 1, .int 0, .ref aL, .ref aD, .ref aH, .ref pk, .ref nt, .ref ac])), (pk, .inr (5, [.ref k0, .ref k1, .ref k2, .ref k3, .ref k4, .ref k5, .ref k6, .ref k7, .ref k8, .ref k9, .int 0, .int (-1), .int 0])), (ac, .inr (0, [.int 0, .int 0, .int 0, .int 0, .int 0, .int 0, .int 0, .int 0, .int 0, .int 0, .int 0, .int 0, .int 0]))] sz [.ref x]) (va_Qi (fun (r : Int32) (_ : Unit) => r = 0) (Bw D (va_A [(x, .inr (9, [.ref rd, .ref tx, .ref bu, .ref st, .ref pa, .int 0, .int 0, .null, .null])), (st, .inr (7, [.int 0, .int 60, .int 0, .int 576, .int 27, .int (-1), .int 1, .int 0, .ref aL, .ref aD, .ref aH, .ref pk, .ref nt, .ref ac])), (pk, .inr (5, [.ref k0, .ref k1, .ref k2, .ref k3, .ref k4, .ref k5, .ref k6, .ref k7, .ref k8, .ref k9, .int 0, .int (-1), .int 0])), (ac, .inr (0, [.int 0, .int 0, .int 0, .int 0, .int 0, .int 0, .int 0, .int 0, .int 0, .int 0, .int 0, .int 0, .int 0]))] sz) (fun (_ : Unit) => [])) (va_A [(x, .inr (9, [.ref rd, .ref tx, .ref bu, .ref st, .ref pa, .int 0, .int 0, .null, .null])), (st, .inr (7, [.int 0, .int 60, .int 0, .int 576, .int 27, .int (-1), .int 1, .int 0, .ref aL, .ref aD, .ref aH, .ref pk, .ref nt, .ref ac])), (pk, .inr (5, [.ref k0, .ref k1, .ref k2, .ref k3, .ref k4, .ref k5, .ref k6, .ref k7, .ref k8, .ref k9, .int 0, .int (-1), .int 0])), (ac, .inr (0, [.int 0, .int 0, .int 0, .int 0, .int 0, .int 0, .int 0, .int 0, .int 0, .int 0, .int 0, .int 0, .int 0]))] sz)) 0 0 (va_A [(x, .inr (9, [.ref rd, .ref tx, .ref bu, .ref st, .ref pa, .int 0, .int 0, .null, .null])), (st, .inr (7, [.int 0, .int 60, .int 0, .int 576, .int 27, .int (-1), .int 1, .int 0, .ref aL, .ref aD, .ref aH, .ref pk, .ref nt, .ref ac])), (pk, .inr (5, [.ref k0, .ref k1, .ref k2, .ref k3, .ref k4, .ref k5, .ref k6, .ref k7, .ref k8, .ref k9, .int 0, .int (-1), .int 0])), (ac, .inr (0, [.int 0, .int 0, .int 0, .int 0, .int 0, .int 0, .int 0, .int 0, .int 0, .int 0, .int 0, .int 0, .int 0]))] sz) := by
  refine bodyW (by decide) (Nat.le_of_ble_eq_true rfl) (fun p e s m below meth c ls B hr hlk hin hsz Y hl => ?_)
  have hl : lv_has ls 2 [(0, .ref x)] := hl
  have B : CallFix p m c cX9_gap 2 s _ wALL RX9 := B
  generalize va_A [(x, .inr (9, [.ref rd, .ref tx, .ref bu, .ref st, .ref pa, .int 0, .int 0, .null, .null])), (st, .inr (7, [.int 0, .int 60, .int 0, .int 576, .int 27, .int (-1), .int 1, .int 0, .ref aL, .ref aD, .ref aH, .ref pk, .ref nt, .ref ac])), (pk, .inr (5, [.ref k0, .ref k1, .ref k2, .ref k3, .ref k4, .ref k5, .ref k6, .ref k7, .ref k8, .ref k9, .int 0, .int (-1), .int 0])), (ac, .inr (0, [.int 0, .int 0, .int 0, .int 0, .int 0, .int 0, .int 0, .int 0, .int 0, .int 0, .int 0, .int 0, .int 0]))] sz = A at Y ⊢
  refine lv_aload_n B.1 B.2.1 dX9_gap_0 rfl (lv_at hl 0 rfl) ?_
  refine gf_X9_30 B Y 0 rfl rfl dX9_gap_1 ?_
  refine gf_X9_341 B Y 1 rfl rfl dX9_gap_4 ?_
  refine lv_astore_n (lv' := [(1, .ref ac), (0, .ref x)]) B.1 B.2.1 dX9_gap_7 rfl hl (by decide) rfl (fun ls hl => ?_)
  refine lv_aload_n B.1 B.2.1 dX9_gap_8 rfl (lv_at hl 0 rfl) ?_
  refine gf_X9_349 B Y 3 rfl rfl dX9_gap_9 ?_
  refine lv_aload_n B.1 B.2.1 dX9_gap_12 rfl (lv_at hl 0 rfl) ?_
  refine gf_X9_350 B Y 3 rfl rfl dX9_gap_13 ?_
  refine lv_aload_n B.1 B.2.1 dX9_gap_16 rfl (lv_at hl 0 rfl) ?_
  refine gf_X9_351 B Y 3 rfl rfl dX9_gap_17 ?_
  refine lv_iadd B.1 B.2.1 dX9_gap_20 ?_
  refine lv_cv (v := 0) (by decide) ?_
  refine lv_aload_n B.1 B.2.1 dX9_gap_21 rfl (lv_at hl 1 rfl) ?_
  refine gf_X9_30 B Y 0 rfl rfl dX9_gap_22 ?_
  refine gf_X9_194 B Y 1 rfl rfl dX9_gap_25 ?_
  refine gf_X9_198 B Y 2 rfl rfl dX9_gap_28 ?_
  refine lv_iadd B.1 B.2.1 dX9_gap_31 ?_
  refine lv_cv (v := 0) (by decide) ?_
  refine lv_aload_n B.1 B.2.1 dX9_gap_32 rfl (lv_at hl 0 rfl) ?_
  refine gf_X9_354 B Y 3 rfl rfl dX9_gap_33 ?_
  refine lv_iadd B.1 B.2.1 dX9_gap_36 ?_
  refine lv_cv (v := 0) (by decide) ?_
  refine lv_isub B.1 B.2.1 dX9_gap_37 ?_
  refine lv_cv (v := 0) (by decide) ?_
  exact endI B hr hlk Y () rfl [] (by decide) rfl (Nat.le_of_ble_eq_true rfl) (Nat.le_of_ble_eq_true rfl) dX9_gap_38

set_option maxHeartbeats 4000000 in
set_option maxRecDepth 100000 in
theorem m_narrowest (l : Launch) (D : va_G) (τ : Nat → ClassId) (sz : Nat) (x rd q0 q1 q2 q3 q4 tx to bu st pa aL aD aH l0 d0 p0 v0 p1 v1 p2 v2 p3 v3 pk k0 k1 k2 k3 k4 k5 k6 k7 k8 k9 nt n0 n1 n2 ac : Nat) (fL fD fH : Nat → Option Nat) (hS : fL 0 = some l0 ∧ fD 0 = some d0 ∧ fH 0 = some p0 ∧ fH 1 = some p1 ∧ fH 2 = some p2 ∧ fH 3 = some p3) : Met l yX9_narrowest (Cond.code yX9_narrowest cX9_narrowest 4 (some .int) :: wALL) { frames := 1, cells := 0, slots := 0, locals := 21 } (Pw D τ [(x, .inr (9, [.ref rd, .ref tx, .ref bu, .ref st, .ref pa, .int 0, .int 0, .null, .null])), (st, .inr (7, [.int 0, .int 60, .int 0, .int 576, .int 27, .int (-1), .int 1, .int 0, .ref aL, .ref aD, .ref aH, .ref pk, .ref nt, .ref ac])), (aL, .inl (τ 3, 6, .inr (.inr (.inr (.inr (fL)))))), (l0, .inr (3, [.int 576, .int 1, .int 0, .int 0, .int 0, .int 0, .int 0, .int 0]))] sz [.ref x]) (va_Qi (fun (r : Int32) (_ : Unit) => r = 576) (Bw D (va_A [(x, .inr (9, [.ref rd, .ref tx, .ref bu, .ref st, .ref pa, .int 0, .int 0, .null, .null])), (st, .inr (7, [.int 0, .int 60, .int 0, .int 576, .int 27, .int (-1), .int 1, .int 0, .ref aL, .ref aD, .ref aH, .ref pk, .ref nt, .ref ac])), (aL, .inl (τ 3, 6, .inr (.inr (.inr (.inr (fL)))))), (l0, .inr (3, [.int 576, .int 1, .int 0, .int 0, .int 0, .int 0, .int 0, .int 0]))] sz) (fun (_ : Unit) => [])) (va_A [(x, .inr (9, [.ref rd, .ref tx, .ref bu, .ref st, .ref pa, .int 0, .int 0, .null, .null])), (st, .inr (7, [.int 0, .int 60, .int 0, .int 576, .int 27, .int (-1), .int 1, .int 0, .ref aL, .ref aD, .ref aH, .ref pk, .ref nt, .ref ac])), (aL, .inl (τ 3, 6, .inr (.inr (.inr (.inr (fL)))))), (l0, .inr (3, [.int 576, .int 1, .int 0, .int 0, .int 0, .int 0, .int 0, .int 0]))] sz)) 0 0 (va_A [(x, .inr (9, [.ref rd, .ref tx, .ref bu, .ref st, .ref pa, .int 0, .int 0, .null, .null])), (st, .inr (7, [.int 0, .int 60, .int 0, .int 576, .int 27, .int (-1), .int 1, .int 0, .ref aL, .ref aD, .ref aH, .ref pk, .ref nt, .ref ac])), (aL, .inl (τ 3, 6, .inr (.inr (.inr (.inr (fL)))))), (l0, .inr (3, [.int 576, .int 1, .int 0, .int 0, .int 0, .int 0, .int 0, .int 0]))] sz) := by
  refine bodyW (by decide) (Nat.le_of_ble_eq_true rfl) (fun p e s m below meth c ls B hr hlk hin hsz Y hl => ?_)
  have hl : lv_has ls 4 [(0, .ref x)] := hl
  have B : CallFix p m c cX9_narrowest 4 s _ wALL RX9 := B
  generalize va_A [(x, .inr (9, [.ref rd, .ref tx, .ref bu, .ref st, .ref pa, .int 0, .int 0, .null, .null])), (st, .inr (7, [.int 0, .int 60, .int 0, .int 576, .int 27, .int (-1), .int 1, .int 0, .ref aL, .ref aD, .ref aH, .ref pk, .ref nt, .ref ac])), (aL, .inl (τ 3, 6, .inr (.inr (.inr (.inr (fL)))))), (l0, .inr (3, [.int 576, .int 1, .int 0, .int 0, .int 0, .int 0, .int 0, .int 0]))] sz = A at Y ⊢
  refine lv_sipush (v := 1500) B.1 B.2.1 dX9_narrowest_0 (by decide) ?_
  refine lv_istore_n (lv' := [(1, .int 1500), (0, .ref x)]) B.1 B.2.1 dX9_narrowest_3 rfl hl (by decide) rfl (fun ls hl => ?_)
  refine lv_iconst (v := 0) B.1 B.2.1 dX9_narrowest_4 (by decide) ?_
  refine lv_istore_n (lv' := [(2, .int 0), (1, .int 1500), (0, .ref x)]) B.1 B.2.1 dX9_narrowest_5 rfl hl (by decide) rfl (fun ls hl => ?_)
  refine lv_iload_n B.1 B.2.1 dX9_narrowest_6 rfl (lv_at hl 0 rfl) ?_
  refine lv_aload_n B.1 B.2.1 dX9_narrowest_7 rfl (lv_at hl 2 rfl) ?_
  refine gf_X9_30 B Y 0 rfl rfl dX9_narrowest_8 ?_
  refine gf_X9_182 B Y 1 rfl rfl dX9_narrowest_11 ?_
  refine lv_icmp_ge (tgt := 49) B.1 B.2.1 dX9_narrowest_14 (by decide) (fun h => absurd h (by decide)) (fun _ => ?_)
  refine lv_aload_n B.1 B.2.1 dX9_narrowest_17 rfl (lv_at hl 2 rfl) ?_
  refine gf_X9_30 B Y 0 rfl rfl dX9_narrowest_18 ?_
  refine lv_iload_n B.1 B.2.1 dX9_narrowest_21 rfl (lv_at hl 0 rfl) ?_
  refine retQ (wc := [(st, .inr (7, [.int 0, .int 60, .int 0, .int 576, .int 27, .int (-1), .int 1, .int 0, .ref aL, .ref aD, .ref aH, .ref pk, .ref nt, .ref ac])), (aL, .inl (τ 3, 6, .inr (.inr (.inr (.inr (fL))))))]) (wr := [(x, .inr (9, [.ref rd, .ref tx, .ref bu, .ref st, .ref pa, .int 0, .int 0, .null, .null])), (l0, .inr (3, [.int 576, .int 1, .int 0, .int 0, .int 0, .int 0, .int 0, .int 0]))]) Y [1, 2] [0, 3] rfl rfl (by decide) (by decide) (rV (As := [.int 0]) (rest := []) (q0 := 1) B Y [1, 2] (by decide) rfl (k_X7_linkAt l D τ _ st 0 60 0 576 27 (-1) 0 aL aD aH pk nt ac fL l0 hS.1 0) rfl rfl q_499 q_452 q_453 q_4 q_454 rfl rfl hd_X7_linkAt ⟨(Nat.le_of_ble_eq_true rfl), (Nat.le_of_ble_eq_true rfl)⟩ rfl hl.1 rfl (Nat.le_of_ble_eq_true rfl) dX9_narrowest_22 ⟨(Nat.le_of_ble_eq_true rfl), (Nat.le_of_ble_eq_true rfl)⟩) (fun r u H locs hw Y => ?_)
  have hw : r = some l0 := hw.1 rfl
  subst hw
  show W _ _ _ _ _ _ _ _ _ _ _ _ _ _ _ (F0 m _ ls (.ref l0 :: []))
  have Y : Wd D τ s A s.heap [(x, .inr (9, [.ref rd, .ref tx, .ref bu, .ref st, .ref pa, .int 0, .int 0, .null, .null])), (l0, .inr (3, [.int 576, .int 1, .int 0, .int 0, .int 0, .int 0, .int 0, .int 0])), (st, .inr (7, [.int 0, .int 60, .int 0, .int 576, .int 27, .int (-1), .int 1, .int 0, .ref aL, .ref aD, .ref aH, .ref pk, .ref nt, .ref ac])), (aL, .inl (τ 3, 6, .inr (.inr (.inr (.inr (fL))))))] H _ := Y
  refine lv_astore_n (lv' := [(3, .ref l0), (2, .int 0), (1, .int 1500), (0, .ref x)]) B.1 B.2.1 dX9_narrowest_25 rfl hl (by decide) rfl (fun ls hl => ?_)
  refine lv_aload_n B.1 B.2.1 dX9_narrowest_26 rfl (lv_at hl 0 rfl) ?_
  refine lv_ifnull B.1 B.2.1 dX9_narrowest_27 ?_
  refine lv_aload_n B.1 B.2.1 dX9_narrowest_30 rfl (lv_at hl 0 rfl) ?_
  refine gf_X9_168 B Y 1 rfl rfl dX9_narrowest_31 ?_
  refine lv_iload_n B.1 B.2.1 dX9_narrowest_34 rfl (lv_at hl 2 rfl) ?_
  refine lv_icmp_ge (tgt := 43) B.1 B.2.1 dX9_narrowest_35 (by decide) (fun h => absurd h (by decide)) (fun _ => ?_)
  refine lv_aload_n B.1 B.2.1 dX9_narrowest_38 rfl (lv_at hl 0 rfl) ?_
  refine gf_X9_168 B Y 1 rfl rfl dX9_narrowest_39 ?_
  refine lv_istore_n (lv' := [(1, .int 576), (3, .ref l0), (2, .int 0), (0, .ref x)]) B.1 B.2.1 dX9_narrowest_42 rfl hl (by decide) rfl (fun ls hl => ?_)
  refine lv_iinc (v := 1) (lv' := [(2, .int 1), (1, .int 576), (3, .ref l0), (0, .ref x)]) B.1 B.2.1 dX9_narrowest_43 hl (k := 2) rfl (by decide) (by decide) rfl (fun ls hl => ?_)
  refine lv_goto (tgt := 6) B.1 B.2.1 dX9_narrowest_46 (by decide) ?_
  refine lv_iload_n B.1 B.2.1 dX9_narrowest_6 rfl (lv_at hl 0 rfl) ?_
  refine lv_aload_n B.1 B.2.1 dX9_narrowest_7 rfl (lv_at hl 3 rfl) ?_
  refine gf_X9_30 B Y 0 rfl rfl dX9_narrowest_8 ?_
  refine gf_X9_182 B Y 2 rfl rfl dX9_narrowest_11 ?_
  refine lv_icmp_ge (tgt := 49) B.1 B.2.1 dX9_narrowest_14 (by decide) (fun _ => ?_) (fun h => absurd (by decide) h)
  refine lv_iload_n B.1 B.2.1 dX9_narrowest_49 rfl (lv_at hl 1 rfl) ?_
  exact endI B hr hlk Y () rfl [] (by decide) rfl (Nat.le_of_ble_eq_true rfl) (Nat.le_of_ble_eq_true rfl) dX9_narrowest_50

set_option maxHeartbeats 4000000 in
set_option maxRecDepth 100000 in
theorem k_delaysAhead (l : Launch) (D : va_G) (τ : Nat → ClassId) (sz : Nat) (st : Nat) (x0 x1 x2 x3 x4 x5 x7 : Int32) (r8 r9 r10 r11 r12 r13 : Nat) (fL : Nat → Option Nat) (l0 : Nat) (hf : fL 0 = some l0) : Met l yX7_delaysAhead (Cond.code yX7_delaysAhead cX7_delaysAhead 4 (some .int) :: wALL) { frames := 0, cells := 0, slots := 0, locals := 0 } (Pw D τ [(st, .inr (7, [.int x0, .int x1, .int x2, .int x3, .int x4, .int x5, .int 1, .int x7, .ref r8, .ref r9, .ref r10, .ref r11, .ref r12, .ref r13])), (r8, .inl (τ 3, 6, .inr (.inr (.inr (.inr (fL)))))), (l0, .inr (3, [.int 576, .int 1, .int 0, .int 0, .int 0, .int 0, .int 0, .int 0]))] sz [.ref st, .int 1]) (va_Qi (fun (r : Int32) (_ : Unit) => r = 1) (Bw D (va_A [(st, .inr (7, [.int x0, .int x1, .int x2, .int x3, .int x4, .int x5, .int 1, .int x7, .ref r8, .ref r9, .ref r10, .ref r11, .ref r12, .ref r13])), (r8, .inl (τ 3, 6, .inr (.inr (.inr (.inr (fL)))))), (l0, .inr (3, [.int 576, .int 1, .int 0, .int 0, .int 0, .int 0, .int 0, .int 0]))] sz) (fun (_ : Unit) => [(st, .inr (7, [.int x0, .int x1, .int x2, .int x3, .int x4, .int x5, .int 1, .int x7, .ref r8, .ref r9, .ref r10, .ref r11, .ref r12, .ref r13])), (r8, .inl (τ 3, 6, .inr (.inr (.inr (.inr (fL)))))), (l0, .inr (3, [.int 576, .int 1, .int 0, .int 0, .int 0, .int 0, .int 0, .int 0]))])) (va_A [(st, .inr (7, [.int x0, .int x1, .int x2, .int x3, .int x4, .int x5, .int 1, .int x7, .ref r8, .ref r9, .ref r10, .ref r11, .ref r12, .ref r13])), (r8, .inl (τ 3, 6, .inr (.inr (.inr (.inr (fL)))))), (l0, .inr (3, [.int 576, .int 1, .int 0, .int 0, .int 0, .int 0, .int 0, .int 0]))] sz)) 0 0 (va_A [(st, .inr (7, [.int x0, .int x1, .int x2, .int x3, .int x4, .int x5, .int 1, .int x7, .ref r8, .ref r9, .ref r10, .ref r11, .ref r12, .ref r13])), (r8, .inl (τ 3, 6, .inr (.inr (.inr (.inr (fL)))))), (l0, .inr (3, [.int 576, .int 1, .int 0, .int 0, .int 0, .int 0, .int 0, .int 0]))] sz) := by
  refine bodyW (by decide) (Nat.le_of_ble_eq_true rfl) (fun p e s m below meth c ls B hr hlk hin hsz Y hl => ?_)
  have hl : lv_has ls 4 [(0, .ref st), (1, .int 1)] := hl
  have B : CallFix p m c cX7_delaysAhead 4 s _ wALL RX7 := B
  generalize va_A [(st, .inr (7, [.int x0, .int x1, .int x2, .int x3, .int x4, .int x5, .int 1, .int x7, .ref r8, .ref r9, .ref r10, .ref r11, .ref r12, .ref r13])), (r8, .inl (τ 3, 6, .inr (.inr (.inr (.inr (fL)))))), (l0, .inr (3, [.int 576, .int 1, .int 0, .int 0, .int 0, .int 0, .int 0, .int 0]))] sz = A at Y ⊢
  refine lv_iconst (v := 0) B.1 B.2.1 dX7_delaysAhead_0 (by decide) ?_
  refine lv_istore_n (lv' := [(2, .int 0), (0, .ref st), (1, .int 1)]) B.1 B.2.1 dX7_delaysAhead_1 rfl hl (by decide) rfl (fun ls hl => ?_)
  refine lv_iconst (v := 0) B.1 B.2.1 dX7_delaysAhead_2 (by decide) ?_
  refine lv_istore_n (lv' := [(3, .int 0), (2, .int 0), (0, .ref st), (1, .int 1)]) B.1 B.2.1 dX7_delaysAhead_3 rfl hl (by decide) rfl (fun ls hl => ?_)
  refine lv_iload_n B.1 B.2.1 dX7_delaysAhead_4 rfl (lv_at hl 0 rfl) ?_
  refine lv_iload_n B.1 B.2.1 dX7_delaysAhead_5 rfl (lv_at hl 3 rfl) ?_
  refine lv_icmp_ge (tgt := 41) B.1 B.2.1 dX7_delaysAhead_6 (by decide) (fun h => absurd h (by decide)) (fun _ => ?_)
  refine lv_iload_n B.1 B.2.1 dX7_delaysAhead_9 rfl (lv_at hl 0 rfl) ?_
  refine lv_aload_n B.1 B.2.1 dX7_delaysAhead_10 rfl (lv_at hl 2 rfl) ?_
  refine gf_X7_30 B Y 0 rfl rfl dX7_delaysAhead_11 ?_
  refine lv_icmp_ge (tgt := 41) B.1 B.2.1 dX7_delaysAhead_14 (by decide) (fun h => absurd h (by decide)) (fun _ => ?_)
  refine lv_iload_n B.1 B.2.1 dX7_delaysAhead_17 rfl (lv_at hl 0 rfl) ?_
  refine lv_bipush (v := 6) B.1 B.2.1 dX7_delaysAhead_18 (by decide) ?_
  refine lv_icmp_ge (tgt := 41) B.1 B.2.1 dX7_delaysAhead_20 (by decide) (fun h => absurd h (by decide)) (fun _ => ?_)
  refine lv_iload_n B.1 B.2.1 dX7_delaysAhead_23 rfl (lv_at hl 1 rfl) ?_
  refine lv_aload_n B.1 B.2.1 dX7_delaysAhead_24 rfl (lv_at hl 2 rfl) ?_
  refine gf_X7_38 B Y 0 rfl rfl dX7_delaysAhead_25 ?_
  refine lv_iload_n B.1 B.2.1 dX7_delaysAhead_28 rfl (lv_at hl 0 rfl) ?_
  refine t_aald (j := 0) (r := some l0) B Y 1 rfl 3 rfl (by decide) (by decide) (Nat.le_of_ble_eq_true rfl) hf dX7_delaysAhead_29 ?_
  show W _ _ _ _ _ _ _ _ _ _ _ _ _ _ _ (F0 m _ ls (.ref l0 :: .int 0 :: []))
  refine gf_X7_109 B Y 2 rfl rfl dX7_delaysAhead_30 ?_
  refine lv_iadd B.1 B.2.1 dX7_delaysAhead_33 ?_
  refine lv_cv (v := 1) (by decide) ?_
  refine lv_istore_n (lv' := [(2, .int 1), (3, .int 0), (0, .ref st), (1, .int 1)]) B.1 B.2.1 dX7_delaysAhead_34 rfl hl (by decide) rfl (fun ls hl => ?_)
  refine lv_iinc (v := 1) (lv' := [(3, .int 1), (2, .int 1), (0, .ref st), (1, .int 1)]) B.1 B.2.1 dX7_delaysAhead_35 hl (k := 1) rfl (by decide) (by decide) rfl (fun ls hl => ?_)
  refine lv_goto (tgt := 4) B.1 B.2.1 dX7_delaysAhead_38 (by decide) ?_
  refine lv_iload_n B.1 B.2.1 dX7_delaysAhead_4 rfl (lv_at hl 0 rfl) ?_
  refine lv_iload_n B.1 B.2.1 dX7_delaysAhead_5 rfl (lv_at hl 3 rfl) ?_
  refine lv_icmp_ge (tgt := 41) B.1 B.2.1 dX7_delaysAhead_6 (by decide) (fun _ => ?_) (fun h => absurd (by decide) h)
  refine lv_iload_n B.1 B.2.1 dX7_delaysAhead_41 rfl (lv_at hl 1 rfl) ?_
  exact endI B hr hlk Y () rfl [0, 1, 2] (by decide) rfl (Nat.le_of_ble_eq_true rfl) (Nat.le_of_ble_eq_true rfl) dX7_delaysAhead_42

set_option maxHeartbeats 4000000 in
set_option maxRecDepth 100000 in
theorem m_wholeDelay (l : Launch) (D : va_G) (τ : Nat → ClassId) (sz : Nat) (x rd q0 q1 q2 q3 q4 tx to bu st pa aL aD aH l0 d0 p0 v0 p1 v1 p2 v2 p3 v3 pk k0 k1 k2 k3 k4 k5 k6 k7 k8 k9 nt n0 n1 n2 ac : Nat) (fL fD fH : Nat → Option Nat) (hS : fL 0 = some l0 ∧ fD 0 = some d0 ∧ fH 0 = some p0 ∧ fH 1 = some p1 ∧ fH 2 = some p2 ∧ fH 3 = some p3) : Met l yX9_wholeDelay (Cond.code yX9_wholeDelay cX9_wholeDelay 1 (some .int) :: wALL) { frames := 1, cells := 0, slots := 0, locals := 23 } (Pw D τ [(x, .inr (9, [.ref rd, .ref tx, .ref bu, .ref st, .ref pa, .int 0, .int 0, .null, .null])), (st, .inr (7, [.int 0, .int 60, .int 0, .int 576, .int 27, .int (-1), .int 1, .int 0, .ref aL, .ref aD, .ref aH, .ref pk, .ref nt, .ref ac])), (aL, .inl (τ 3, 6, .inr (.inr (.inr (.inr (fL)))))), (l0, .inr (3, [.int 576, .int 1, .int 0, .int 0, .int 0, .int 0, .int 0, .int 0]))] sz [.ref x]) (va_Qi (fun (r : Int32) (_ : Unit) => r = 1) (Bw D (va_A [(x, .inr (9, [.ref rd, .ref tx, .ref bu, .ref st, .ref pa, .int 0, .int 0, .null, .null])), (st, .inr (7, [.int 0, .int 60, .int 0, .int 576, .int 27, .int (-1), .int 1, .int 0, .ref aL, .ref aD, .ref aH, .ref pk, .ref nt, .ref ac])), (aL, .inl (τ 3, 6, .inr (.inr (.inr (.inr (fL)))))), (l0, .inr (3, [.int 576, .int 1, .int 0, .int 0, .int 0, .int 0, .int 0, .int 0]))] sz) (fun (_ : Unit) => [])) (va_A [(x, .inr (9, [.ref rd, .ref tx, .ref bu, .ref st, .ref pa, .int 0, .int 0, .null, .null])), (st, .inr (7, [.int 0, .int 60, .int 0, .int 576, .int 27, .int (-1), .int 1, .int 0, .ref aL, .ref aD, .ref aH, .ref pk, .ref nt, .ref ac])), (aL, .inl (τ 3, 6, .inr (.inr (.inr (.inr (fL)))))), (l0, .inr (3, [.int 576, .int 1, .int 0, .int 0, .int 0, .int 0, .int 0, .int 0]))] sz)) 0 0 (va_A [(x, .inr (9, [.ref rd, .ref tx, .ref bu, .ref st, .ref pa, .int 0, .int 0, .null, .null])), (st, .inr (7, [.int 0, .int 60, .int 0, .int 576, .int 27, .int (-1), .int 1, .int 0, .ref aL, .ref aD, .ref aH, .ref pk, .ref nt, .ref ac])), (aL, .inl (τ 3, 6, .inr (.inr (.inr (.inr (fL)))))), (l0, .inr (3, [.int 576, .int 1, .int 0, .int 0, .int 0, .int 0, .int 0, .int 0]))] sz) := by
  refine bodyW (by decide) (Nat.le_of_ble_eq_true rfl) (fun p e s m below meth c ls B hr hlk hin hsz Y hl => ?_)
  have hl : lv_has ls 1 [(0, .ref x)] := hl
  have B : CallFix p m c cX9_wholeDelay 1 s _ wALL RX9 := B
  generalize va_A [(x, .inr (9, [.ref rd, .ref tx, .ref bu, .ref st, .ref pa, .int 0, .int 0, .null, .null])), (st, .inr (7, [.int 0, .int 60, .int 0, .int 576, .int 27, .int (-1), .int 1, .int 0, .ref aL, .ref aD, .ref aH, .ref pk, .ref nt, .ref ac])), (aL, .inl (τ 3, 6, .inr (.inr (.inr (.inr (fL)))))), (l0, .inr (3, [.int 576, .int 1, .int 0, .int 0, .int 0, .int 0, .int 0, .int 0]))] sz = A at Y ⊢
  refine lv_aload_n B.1 B.2.1 dX9_wholeDelay_0 rfl (lv_at hl 0 rfl) ?_
  refine gf_X9_30 B Y 0 rfl rfl dX9_wholeDelay_1 ?_
  refine lv_aload_n B.1 B.2.1 dX9_wholeDelay_4 rfl (lv_at hl 0 rfl) ?_
  refine gf_X9_30 B Y 0 rfl rfl dX9_wholeDelay_5 ?_
  refine gf_X9_182 B Y 1 rfl rfl dX9_wholeDelay_8 ?_
  refine retI (wc := [(st, .inr (7, [.int 0, .int 60, .int 0, .int 576, .int 27, .int (-1), .int 1, .int 0, .ref aL, .ref aD, .ref aH, .ref pk, .ref nt, .ref ac])), (aL, .inl (τ 3, 6, .inr (.inr (.inr (.inr (fL)))))), (l0, .inr (3, [.int 576, .int 1, .int 0, .int 0, .int 0, .int 0, .int 0, .int 0]))]) (wr := [(x, .inr (9, [.ref rd, .ref tx, .ref bu, .ref st, .ref pa, .int 0, .int 0, .null, .null]))]) Y [1, 2, 3] [0] rfl rfl (by decide) (by decide) (rV (As := [.int 1]) (rest := []) (q0 := 1) B Y [1, 2, 3] (by decide) rfl (k_delaysAhead l D τ _ st 0 60 0 576 27 (-1) 0 aL aD aH pk nt ac fL l0 hS.1) rfl rfl q_504 q_505 q_506 q_4 q_507 rfl rfl hd_X7_delaysAhead ⟨(Nat.le_of_ble_eq_true rfl), (Nat.le_of_ble_eq_true rfl)⟩ rfl hl.1 rfl (Nat.le_of_ble_eq_true rfl) dX9_wholeDelay_11 ⟨(Nat.le_of_ble_eq_true rfl), (Nat.le_of_ble_eq_true rfl)⟩) (fun r u H locs hw Y => ?_)
  have hw : r = 1 := hw
  subst hw
  have Y : Wd D τ s A s.heap [(x, .inr (9, [.ref rd, .ref tx, .ref bu, .ref st, .ref pa, .int 0, .int 0, .null, .null])), (st, .inr (7, [.int 0, .int 60, .int 0, .int 576, .int 27, .int (-1), .int 1, .int 0, .ref aL, .ref aD, .ref aH, .ref pk, .ref nt, .ref ac])), (aL, .inl (τ 3, 6, .inr (.inr (.inr (.inr (fL)))))), (l0, .inr (3, [.int 576, .int 1, .int 0, .int 0, .int 0, .int 0, .int 0, .int 0]))] H _ := Y
  exact endI B hr hlk Y () rfl [] (by decide) rfl (Nat.le_of_ble_eq_true rfl) (Nat.le_of_ble_eq_true rfl) dX9_wholeDelay_14

set_option maxHeartbeats 4000000 in
set_option maxRecDepth 100000 in
theorem m_nextProbe (l : Launch) (D : va_G) (τ : Nat → ClassId) (sz : Nat) (x rd q0 q1 q2 q3 q4 tx to bu st pa aL aD aH l0 d0 p0 v0 p1 v1 p2 v2 p3 v3 pk k0 k1 k2 k3 k4 k5 k6 k7 k8 k9 nt n0 n1 n2 ac : Nat) (fL fD fH : Nat → Option Nat) (hS : fL 0 = some l0 ∧ fD 0 = some d0 ∧ fH 0 = some p0 ∧ fH 1 = some p1 ∧ fH 2 = some p2 ∧ fH 3 = some p3) : Met l yX9_nextProbe (Cond.code yX9_nextProbe cX9_nextProbe 1 (some .int) :: wALL) { frames := 0, cells := 0, slots := 0, locals := 0 } (Pw D τ [(x, .inr (9, [.ref rd, .ref tx, .ref bu, .ref st, .ref pa, .int 0, .int 0, .null, .null])), (st, .inr (7, [.int 0, .int 60, .int 0, .int 576, .int 27, .int (-1), .int 1, .int 0, .ref aL, .ref aD, .ref aH, .ref pk, .ref nt, .ref ac]))] sz [.ref x]) (va_Qi (fun (r : Int32) (_ : Unit) => r = 1500) (Bw D (va_A [(x, .inr (9, [.ref rd, .ref tx, .ref bu, .ref st, .ref pa, .int 0, .int 0, .null, .null])), (st, .inr (7, [.int 0, .int 60, .int 0, .int 576, .int 27, .int (-1), .int 1, .int 0, .ref aL, .ref aD, .ref aH, .ref pk, .ref nt, .ref ac]))] sz) (fun (_ : Unit) => [])) (va_A [(x, .inr (9, [.ref rd, .ref tx, .ref bu, .ref st, .ref pa, .int 0, .int 0, .null, .null])), (st, .inr (7, [.int 0, .int 60, .int 0, .int 576, .int 27, .int (-1), .int 1, .int 0, .ref aL, .ref aD, .ref aH, .ref pk, .ref nt, .ref ac]))] sz)) 0 0 (va_A [(x, .inr (9, [.ref rd, .ref tx, .ref bu, .ref st, .ref pa, .int 0, .int 0, .null, .null])), (st, .inr (7, [.int 0, .int 60, .int 0, .int 576, .int 27, .int (-1), .int 1, .int 0, .ref aL, .ref aD, .ref aH, .ref pk, .ref nt, .ref ac]))] sz) := by
  refine bodyW (by decide) (Nat.le_of_ble_eq_true rfl) (fun p e s m below meth c ls B hr hlk hin hsz Y hl => ?_)
  have hl : lv_has ls 1 [(0, .ref x)] := hl
  have B : CallFix p m c cX9_nextProbe 1 s _ wALL RX9 := B
  generalize va_A [(x, .inr (9, [.ref rd, .ref tx, .ref bu, .ref st, .ref pa, .int 0, .int 0, .null, .null])), (st, .inr (7, [.int 0, .int 60, .int 0, .int 576, .int 27, .int (-1), .int 1, .int 0, .ref aL, .ref aD, .ref aH, .ref pk, .ref nt, .ref ac]))] sz = A at Y ⊢
  refine lv_aload_n B.1 B.2.1 dX9_nextProbe_0 rfl (lv_at hl 0 rfl) ?_
  refine gf_X9_30 B Y 0 rfl rfl dX9_nextProbe_1 ?_
  refine gf_X9_191 B Y 1 rfl rfl dX9_nextProbe_4 ?_
  refine lv_iconst (v := (-1)) B.1 B.2.1 dX9_nextProbe_7 (by decide) ?_
  refine lv_icmp_ne (tgt := 28) B.1 B.2.1 dX9_nextProbe_8 (by decide) (fun h => absurd (by decide) h) (fun _ => ?_)
  refine lv_aload_n B.1 B.2.1 dX9_nextProbe_11 rfl (lv_at hl 0 rfl) ?_
  refine gf_X9_30 B Y 0 rfl rfl dX9_nextProbe_12 ?_
  refine gf_X9_188 B Y 1 rfl rfl dX9_nextProbe_15 ?_
  refine lv_sipush (v := 1500) B.1 B.2.1 dX9_nextProbe_18 (by decide) ?_
  refine lv_icmp_ge (tgt := 28) B.1 B.2.1 dX9_nextProbe_21 (by decide) (fun h => absurd h (by decide)) (fun _ => ?_)
  refine lv_sipush (v := 1500) B.1 B.2.1 dX9_nextProbe_24 (by decide) ?_
  exact endI B hr hlk Y () rfl [] (by decide) rfl (Nat.le_of_ble_eq_true rfl) (Nat.le_of_ble_eq_true rfl) dX9_nextProbe_27

set_option maxHeartbeats 4000000 in
set_option maxRecDepth 100000 in
theorem m_isFound (l : Launch) (D : va_G) (τ : Nat → ClassId) (sz : Nat) (x rd q0 q1 q2 q3 q4 tx to bu st pa aL aD aH l0 d0 p0 v0 p1 v1 p2 v2 p3 v3 pk k0 k1 k2 k3 k4 k5 k6 k7 k8 k9 nt n0 n1 n2 ac : Nat) (fL fD fH : Nat → Option Nat) (hS : fL 0 = some l0 ∧ fD 0 = some d0 ∧ fH 0 = some p0 ∧ fH 1 = some p1 ∧ fH 2 = some p2 ∧ fH 3 = some p3) : Met l yX9_isFound (Cond.code yX9_isFound cX9_isFound 1 (some .boolean) :: wALL) { frames := 0, cells := 0, slots := 0, locals := 0 } (Pw D τ [(x, .inr (9, [.ref rd, .ref tx, .ref bu, .ref st, .ref pa, .int 0, .int 0, .null, .null])), (st, .inr (7, [.int 0, .int 60, .int 0, .int 576, .int 27, .int (-1), .int 1, .int 0, .ref aL, .ref aD, .ref aH, .ref pk, .ref nt, .ref ac]))] sz [.ref x]) (va_Qi (fun (r : Int32) (_ : Unit) => r = 0) (Bw D (va_A [(x, .inr (9, [.ref rd, .ref tx, .ref bu, .ref st, .ref pa, .int 0, .int 0, .null, .null])), (st, .inr (7, [.int 0, .int 60, .int 0, .int 576, .int 27, .int (-1), .int 1, .int 0, .ref aL, .ref aD, .ref aH, .ref pk, .ref nt, .ref ac]))] sz) (fun (_ : Unit) => [])) (va_A [(x, .inr (9, [.ref rd, .ref tx, .ref bu, .ref st, .ref pa, .int 0, .int 0, .null, .null])), (st, .inr (7, [.int 0, .int 60, .int 0, .int 576, .int 27, .int (-1), .int 1, .int 0, .ref aL, .ref aD, .ref aH, .ref pk, .ref nt, .ref ac]))] sz)) 0 0 (va_A [(x, .inr (9, [.ref rd, .ref tx, .ref bu, .ref st, .ref pa, .int 0, .int 0, .null, .null])), (st, .inr (7, [.int 0, .int 60, .int 0, .int 576, .int 27, .int (-1), .int 1, .int 0, .ref aL, .ref aD, .ref aH, .ref pk, .ref nt, .ref ac]))] sz) := by
  refine bodyW (by decide) (Nat.le_of_ble_eq_true rfl) (fun p e s m below meth c ls B hr hlk hin hsz Y hl => ?_)
  have hl : lv_has ls 1 [(0, .ref x)] := hl
  have B : CallFix p m c cX9_isFound 1 s _ wALL RX9 := B
  generalize va_A [(x, .inr (9, [.ref rd, .ref tx, .ref bu, .ref st, .ref pa, .int 0, .int 0, .null, .null])), (st, .inr (7, [.int 0, .int 60, .int 0, .int 576, .int 27, .int (-1), .int 1, .int 0, .ref aL, .ref aD, .ref aH, .ref pk, .ref nt, .ref ac]))] sz = A at Y ⊢
  refine lv_aload_n B.1 B.2.1 dX9_isFound_0 rfl (lv_at hl 0 rfl) ?_
  refine gf_X9_30 B Y 0 rfl rfl dX9_isFound_1 ?_
  refine gf_X9_191 B Y 1 rfl rfl dX9_isFound_4 ?_
  refine lv_aload_n B.1 B.2.1 dX9_isFound_7 rfl (lv_at hl 0 rfl) ?_
  refine gf_X9_30 B Y 0 rfl rfl dX9_isFound_8 ?_
  refine gf_X9_188 B Y 1 rfl rfl dX9_isFound_11 ?_
  refine lv_iconst (v := 1) B.1 B.2.1 dX9_isFound_14 (by decide) ?_
  refine lv_iadd B.1 B.2.1 dX9_isFound_15 ?_
  refine lv_cv (v := 28) (by decide) ?_
  refine lv_icmp_eq (tgt := 32) B.1 B.2.1 dX9_isFound_16 (by decide) (fun h => absurd h (by decide)) (fun _ => ?_)
  refine lv_aload_n B.1 B.2.1 dX9_isFound_19 rfl (lv_at hl 0 rfl) ?_
  refine gf_X9_30 B Y 0 rfl rfl dX9_isFound_20 ?_
  refine gf_X9_188 B Y 1 rfl rfl dX9_isFound_23 ?_
  refine lv_sipush (v := 1500) B.1 B.2.1 dX9_isFound_26 (by decide) ?_
  refine lv_icmp_ne (tgt := 36) B.1 B.2.1 dX9_isFound_29 (by decide) (fun _ => ?_) (fun h => absurd h (by decide))
  refine lv_iconst (v := 0) B.1 B.2.1 dX9_isFound_36 (by decide) ?_
  exact endZ B hr hlk Y (by decide) () rfl [] (by decide) rfl (Nat.le_of_ble_eq_true rfl) (Nat.le_of_ble_eq_true rfl) dX9_isFound_37

set_option maxHeartbeats 4000000 in
set_option maxRecDepth 100000 in
theorem k_byteAt (l : Launch) (D : va_G) (τ : Nat → ClassId) (sz : Nat) (tx to : Nat) (k : Int32) : Met l yX8_byteAt (Cond.code yX8_byteAt cX8_byteAt 2 (some .int) :: wALL) { frames := 0, cells := 0, slots := 0, locals := 0 } (Pw D τ [(tx, .inr (8, [.ref to, .int 0]))] sz [.ref tx, .int k]) (va_Qi (fun (r : Int32) (_ : Unit) => r = (-1)) (Bw D (va_A [(tx, .inr (8, [.ref to, .int 0]))] sz) (fun (_ : Unit) => [(tx, .inr (8, [.ref to, .int 0]))])) (va_A [(tx, .inr (8, [.ref to, .int 0]))] sz)) 0 0 (va_A [(tx, .inr (8, [.ref to, .int 0]))] sz) := by
  refine bodyW (by decide) (Nat.le_of_ble_eq_true rfl) (fun p e s m below meth c ls B hr hlk hin hsz Y hl => ?_)
  have hl : lv_has ls 2 [(0, .ref tx), (1, .int k)] := hl
  have B : CallFix p m c cX8_byteAt 2 s _ wALL RX8 := B
  generalize va_A [(tx, .inr (8, [.ref to, .int 0]))] sz = A at Y ⊢
  refine lv_iload_n B.1 B.2.1 dX8_byteAt_0 rfl (lv_at hl 1 rfl) ?_
  refine lv_if_lt (tgt := 32) B.1 B.2.1 dX8_byteAt_1 (by decide) (fun c1 => ?_) (fun c1 => ?_)
  · refine lv_iconst (v := (-1)) B.1 B.2.1 dX8_byteAt_32 (by decide) ?_
    exact endI B hr hlk Y () rfl [0] (by decide) rfl (Nat.le_of_ble_eq_true rfl) (Nat.le_of_ble_eq_true rfl) dX8_byteAt_33
  · refine lv_iload_n B.1 B.2.1 dX8_byteAt_4 rfl (lv_at hl 1 rfl) ?_
    refine lv_aload_n B.1 B.2.1 dX8_byteAt_5 rfl (lv_at hl 0 rfl) ?_
    refine gf_X8_15 B Y 0 rfl rfl dX8_byteAt_6 ?_
    refine lv_icmp_ge (tgt := 32) B.1 B.2.1 dX8_byteAt_9 (by decide) (fun _ => ?_) (fun h => absurd (i_nlt c1) h)
    refine lv_iconst (v := (-1)) B.1 B.2.1 dX8_byteAt_32 (by decide) ?_
    exact endI B hr hlk Y () rfl [0] (by decide) rfl (Nat.le_of_ble_eq_true rfl) (Nat.le_of_ble_eq_true rfl) dX8_byteAt_33

set_option maxHeartbeats 4000000 in
set_option maxRecDepth 100000 in
theorem m_outputByte (l : Launch) (D : va_G) (τ : Nat → ClassId) (sz : Nat) (x rd q0 q1 q2 q3 q4 tx to bu st pa aL aD aH l0 d0 p0 v0 p1 v1 p2 v2 p3 v3 pk k0 k1 k2 k3 k4 k5 k6 k7 k8 k9 nt n0 n1 n2 ac : Nat) (fL fD fH : Nat → Option Nat) (hS : fL 0 = some l0 ∧ fD 0 = some d0 ∧ fH 0 = some p0 ∧ fH 1 = some p1 ∧ fH 2 = some p2 ∧ fH 3 = some p3) (k : Int32) : Met l yX9_outputByte (Cond.code yX9_outputByte cX9_outputByte 2 (some .int) :: wALL) { frames := 1, cells := 0, slots := 0, locals := 21 } (Pw D τ [(x, .inr (9, [.ref rd, .ref tx, .ref bu, .ref st, .ref pa, .int 0, .int 0, .null, .null])), (tx, .inr (8, [.ref to, .int 0]))] sz [.ref x, .int k]) (va_Qi (fun (r : Int32) (_ : Unit) => r = (-1)) (Bw D (va_A [(x, .inr (9, [.ref rd, .ref tx, .ref bu, .ref st, .ref pa, .int 0, .int 0, .null, .null])), (tx, .inr (8, [.ref to, .int 0]))] sz) (fun (_ : Unit) => [])) (va_A [(x, .inr (9, [.ref rd, .ref tx, .ref bu, .ref st, .ref pa, .int 0, .int 0, .null, .null])), (tx, .inr (8, [.ref to, .int 0]))] sz)) 0 0 (va_A [(x, .inr (9, [.ref rd, .ref tx, .ref bu, .ref st, .ref pa, .int 0, .int 0, .null, .null])), (tx, .inr (8, [.ref to, .int 0]))] sz) := by
  refine bodyW (by decide) (Nat.le_of_ble_eq_true rfl) (fun p e s m below meth c ls B hr hlk hin hsz Y hl => ?_)
  have hl : lv_has ls 2 [(0, .ref x), (1, .int k)] := hl
  have B : CallFix p m c cX9_outputByte 2 s _ wALL RX9 := B
  generalize va_A [(x, .inr (9, [.ref rd, .ref tx, .ref bu, .ref st, .ref pa, .int 0, .int 0, .null, .null])), (tx, .inr (8, [.ref to, .int 0]))] sz = A at Y ⊢
  refine lv_aload_n B.1 B.2.1 dX9_outputByte_0 rfl (lv_at hl 0 rfl) ?_
  refine gf_X9_19 B Y 0 rfl rfl dX9_outputByte_1 ?_
  refine lv_iload_n B.1 B.2.1 dX9_outputByte_4 rfl (lv_at hl 1 rfl) ?_
  refine retI (wc := [(tx, .inr (8, [.ref to, .int 0]))]) (wr := [(x, .inr (9, [.ref rd, .ref tx, .ref bu, .ref st, .ref pa, .int 0, .int 0, .null, .null]))]) Y [1] [0] rfl rfl (by decide) (by decide) (rV (As := [.int k]) (rest := []) (q0 := 1) B Y [1] (by decide) rfl (k_byteAt l D τ _ tx to k) rfl rfl q_825 q_826 q_827 q_3 q_828 rfl rfl hd_X8_byteAt ⟨(Nat.le_of_ble_eq_true rfl), (Nat.le_of_ble_eq_true rfl)⟩ rfl hl.1 rfl (Nat.le_of_ble_eq_true rfl) dX9_outputByte_5 ⟨(Nat.le_of_ble_eq_true rfl), (Nat.le_of_ble_eq_true rfl)⟩) (fun r u H locs hw Y => ?_)
  have hw : r = (-1) := hw
  subst hw
  have Y : Wd D τ s A s.heap [(x, .inr (9, [.ref rd, .ref tx, .ref bu, .ref st, .ref pa, .int 0, .int 0, .null, .null])), (tx, .inr (8, [.ref to, .int 0]))] H _ := Y
  exact endI B hr hlk Y () rfl [] (by decide) rfl (Nat.le_of_ble_eq_true rfl) (Nat.le_of_ble_eq_true rfl) dX9_outputByte_8

set_option maxHeartbeats 4000000 in
set_option maxRecDepth 100000 in
theorem m_undo (l : Launch) (D : va_G) (τ : Nat → ClassId) (sz : Nat) (x rd q0 q1 q2 q3 q4 tx to bu st pa aL aD aH l0 d0 p0 v0 p1 v1 p2 v2 p3 v3 pk k0 k1 k2 k3 k4 k5 k6 k7 k8 k9 nt n0 n1 n2 ac : Nat) (fL fD fH : Nat → Option Nat) (hS : fL 0 = some l0 ∧ fD 0 = some d0 ∧ fH 0 = some p0 ∧ fH 1 = some p1 ∧ fH 2 = some p2 ∧ fH 3 = some p3) : Met l yX9_undo (Cond.code yX9_undo cX9_undo 2 (some .int) :: wALL) { frames := 0, cells := 0, slots := 0, locals := 0 } (Pw D τ [(x, .inr (9, [.ref rd, .ref tx, .ref bu, .ref st, .ref pa, .int 0, .int 0, .null, .null]))] sz [.ref x]) (va_Qi (fun (r : Int32) (_ : Unit) => r = (-1)) (Bw D (va_A [(x, .inr (9, [.ref rd, .ref tx, .ref bu, .ref st, .ref pa, .int 0, .int 0, .null, .null]))] sz) (fun (_ : Unit) => [])) (va_A [(x, .inr (9, [.ref rd, .ref tx, .ref bu, .ref st, .ref pa, .int 0, .int 0, .null, .null]))] sz)) 0 0 (va_A [(x, .inr (9, [.ref rd, .ref tx, .ref bu, .ref st, .ref pa, .int 0, .int 0, .null, .null]))] sz) := by
  refine bodyW (by decide) (Nat.le_of_ble_eq_true rfl) (fun p e s m below meth c ls B hr hlk hin hsz Y hl => ?_)
  have hl : lv_has ls 2 [(0, .ref x)] := hl
  have B : CallFix p m c cX9_undo 2 s _ wALL RX9 := B
  generalize va_A [(x, .inr (9, [.ref rd, .ref tx, .ref bu, .ref st, .ref pa, .int 0, .int 0, .null, .null]))] sz = A at Y ⊢
  refine lv_aload_n B.1 B.2.1 dX9_undo_0 rfl (lv_at hl 0 rfl) ?_
  refine gf_X9_42 B Y 0 rfl rfl dX9_undo_1 ?_
  refine lv_if_ne (tgt := 9) B.1 B.2.1 dX9_undo_4 (by decide) (fun h => absurd (by decide) h) (fun _ => ?_)
  refine lv_iconst (v := (-1)) B.1 B.2.1 dX9_undo_7 (by decide) ?_
  exact endI B hr hlk Y () rfl [] (by decide) rfl (Nat.le_of_ble_eq_true rfl) (Nat.le_of_ble_eq_true rfl) dX9_undo_8

set_option maxHeartbeats 4000000 in
set_option maxRecDepth 100000 in
theorem m_restore (l : Launch) (hl0 : l.stackTraces = false) (D : va_G) (τ : Nat → ClassId) (sz : Nat) (x rd q0 q1 q2 q3 q4 tx to bu st pa aL aD aH l0 d0 p0 v0 p1 v1 p2 v2 p3 v3 pk k0 k1 k2 k3 k4 k5 k6 k7 k8 k9 nt n0 n1 n2 ac : Nat) (fL fD fH : Nat → Option Nat) (hS : fL 0 = some l0 ∧ fD 0 = some d0 ∧ fH 0 = some p0 ∧ fH 1 = some p1 ∧ fH 2 = some p2 ∧ fH 3 = some p3) : vx_Met l yX9_restore (Cond.code yX9_restore cX9_restore 1 (some .int) :: wALL) { frames := 7, cells := 1, slots := 6, locals := 162 } (PwX D τ [(x, .inr (9, [.ref rd, .ref tx, .ref bu, .ref st, .ref pa, .int 0, .int 0, .null, .null]))] sz [.ref x]) (va_Qi (fun (r : Int32) (_ : Unit) => False) (Bw D (va_A [(x, .inr (9, [.ref rd, .ref tx, .ref bu, .ref st, .ref pa, .int 0, .int 0, .null, .null]))] sz) (fun (_ : Unit) => [])) (va_A [(x, .inr (9, [.ref rd, .ref tx, .ref bu, .ref st, .ref pa, .int 0, .int 0, .null, .null]))] sz)) (XQ (fun E => E = "java/lang/IllegalStateException") (va_A [(x, .inr (9, [.ref rd, .ref tx, .ref bu, .ref st, .ref pa, .int 0, .int 0, .null, .null]))] sz)) 1 6 (va_A [(x, .inr (9, [.ref rd, .ref tx, .ref bu, .ref st, .ref pa, .int 0, .int 0, .null, .null]))] sz) := by
  refine bodyX (by decide) (Nat.le_of_ble_eq_true rfl) (fun p e s m below meth c ls B hr hlk ht hsz Y hT hl => ?_)
  have hl : lv_has ls 1 [(0, .ref x)] := hl
  have B : CallFix p m c cX9_restore 1 s _ wALL RX9 := B
  generalize va_A [(x, .inr (9, [.ref rd, .ref tx, .ref bu, .ref st, .ref pa, .int 0, .int 0, .null, .null]))] sz = A at Y hT ⊢
  refine lv_aload_n B.1 B.2.1 dX9_restore_0 rfl (lv_at hl 0 rfl) ?_
  refine gf_X9_48 B Y 0 rfl rfl dX9_restore_1 ?_
  refine lv_ifnonnullN B.1 B.2.1 dX9_restore_4 ?_
  exact t_throwW (names := ["java/lang/RuntimeException", "java/lang/Exception"]) (text := "nothing was saved") B hl0 Y hT (by decide) (by decide) q_849 q_16 (by decide +kernel) th1_X9_66 th2_X9_66 th3_X9_66 hl.1 dX9_restore_7 dX9_restore_10 dX9_restore_11 dX9_restore_14 dX9_restore_17 ht hlk (Nat.le_of_ble_eq_true rfl) (Nat.le_of_ble_eq_true rfl) (Nat.le_of_ble_eq_true rfl) (Nat.le_of_ble_eq_true rfl) rfl (Nat.le_of_ble_eq_true rfl) (Nat.le_of_ble_eq_true rfl)

set_option maxHeartbeats 4000000 in
set_option maxRecDepth 100000 in
theorem m_truncate (l : Launch) (hl0 : l.stackTraces = false) (D : va_G) (τ : Nat → ClassId) (sz : Nat) (x rd q0 q1 q2 q3 q4 tx to bu st pa aL aD aH l0 d0 p0 v0 p1 v1 p2 v2 p3 v3 pk k0 k1 k2 k3 k4 k5 k6 k7 k8 k9 nt n0 n1 n2 ac : Nat) (fL fD fH : Nat → Option Nat) (hS : fL 0 = some l0 ∧ fD 0 = some d0 ∧ fH 0 = some p0 ∧ fH 1 = some p1 ∧ fH 2 = some p2 ∧ fH 3 = some p3) (k : Int32) : vx_Met l yX9_truncate (Cond.code yX9_truncate cX9_truncate 2 (some .int) :: wALL) { frames := 7, cells := 1, slots := 6, locals := 162 } (PwX D τ [(x, .inr (9, [.ref rd, .ref tx, .ref bu, .ref st, .ref pa, .int 0, .int 0, .null, .null])), (rd, .inr (6, [.ref q0, .int 0, .int 0, .int 0, .int 0, .int (-1), .int 0, .ref q1, .ref q2, .ref q3, .ref q4]))] sz [.ref x, .int k]) (va_Qi (fun (r : Int32) (_ : Unit) => ¬ k < 0 ∧ ¬ 0 < k ∧ r = k) (Bw D (va_A [(x, .inr (9, [.ref rd, .ref tx, .ref bu, .ref st, .ref pa, .int 0, .int 0, .null, .null])), (rd, .inr (6, [.ref q0, .int 0, .int 0, .int 0, .int 0, .int (-1), .int 0, .ref q1, .ref q2, .ref q3, .ref q4]))] sz) (fun (_ : Unit) => [])) (va_A [(x, .inr (9, [.ref rd, .ref tx, .ref bu, .ref st, .ref pa, .int 0, .int 0, .null, .null])), (rd, .inr (6, [.ref q0, .int 0, .int 0, .int 0, .int 0, .int (-1), .int 0, .ref q1, .ref q2, .ref q3, .ref q4]))] sz)) (XQ (fun E => E = "java/lang/IllegalArgumentException" ∧ (k < 0 ∨ 0 < k)) (va_A [(x, .inr (9, [.ref rd, .ref tx, .ref bu, .ref st, .ref pa, .int 0, .int 0, .null, .null])), (rd, .inr (6, [.ref q0, .int 0, .int 0, .int 0, .int 0, .int (-1), .int 0, .ref q1, .ref q2, .ref q3, .ref q4]))] sz)) 1 6 (va_A [(x, .inr (9, [.ref rd, .ref tx, .ref bu, .ref st, .ref pa, .int 0, .int 0, .null, .null])), (rd, .inr (6, [.ref q0, .int 0, .int 0, .int 0, .int 0, .int (-1), .int 0, .ref q1, .ref q2, .ref q3, .ref q4]))] sz) := by
  refine bodyX (by decide) (Nat.le_of_ble_eq_true rfl) (fun p e s m below meth c ls B hr hlk ht hsz Y hT hl => ?_)
  have hl : lv_has ls 2 [(0, .ref x), (1, .int k)] := hl
  have B : CallFix p m c cX9_truncate 2 s _ wALL RX9 := B
  generalize va_A [(x, .inr (9, [.ref rd, .ref tx, .ref bu, .ref st, .ref pa, .int 0, .int 0, .null, .null])), (rd, .inr (6, [.ref q0, .int 0, .int 0, .int 0, .int 0, .int (-1), .int 0, .ref q1, .ref q2, .ref q3, .ref q4]))] sz = A at Y hT ⊢
  refine lv_iload_n B.1 B.2.1 dX9_truncate_0 rfl (lv_at hl 1 rfl) ?_
  refine lv_iconst (v := 0) B.1 B.2.1 dX9_truncate_1 (by decide) ?_
  refine lv_aload_n B.1 B.2.1 dX9_truncate_2 rfl (lv_at hl 0 rfl) ?_
  refine gf_X9_10 B Y 0 rfl rfl dX9_truncate_3 ?_
  refine gf_X9_73 B Y 1 rfl rfl dX9_truncate_6 ?_
  refine retVX (wc := []) (wr := [(x, .inr (9, [.ref rd, .ref tx, .ref bu, .ref st, .ref pa, .int 0, .int 0, .null, .null])), (rd, .inr (6, [.ref q0, .int 0, .int 0, .int 0, .int 0, .int (-1), .int 0, .ref q1, .ref q2, .ref q3, .ref q4]))]) ht hlk Y [] [0, 1] rfl rfl (by decide) (by decide) (fun E h => h) (Nat.le_of_ble_eq_true rfl) (Nat.le_of_ble_eq_true rfl) (rSX (As := [.int k, .int 0, .int 0]) (rest := []) B Y hT [] (by decide) rfl (k_needRange l hl0 D τ _ k 0 0) q_928 q_929 q_1 q_930 rfl rfl hd_X9_needRange ⟨(Nat.le_of_ble_eq_true rfl), (Nat.le_of_ble_eq_true rfl)⟩ rfl hl.1 rfl (Nat.le_of_ble_eq_true rfl) dX9_truncate_9 ⟨(Nat.le_of_ble_eq_true rfl), (Nat.le_of_ble_eq_true rfl)⟩) (fun u H locs hw Y => ?_)
  have hw : ¬ k < 0 ∧ ¬ 0 < k := hw
  have Y : Wd D τ s A s.heap [(x, .inr (9, [.ref rd, .ref tx, .ref bu, .ref st, .ref pa, .int 0, .int 0, .null, .null])), (rd, .inr (6, [.ref q0, .int 0, .int 0, .int 0, .int 0, .int (-1), .int 0, .ref q1, .ref q2, .ref q3, .ref q4]))] H _ := Y
  refine W.widen (k := 1) (n := 6) (Nat.le_of_ble_eq_true rfl) (Nat.le_of_ble_eq_true rfl) ?_
  refine lv_aload_n B.1 B.2.1 dX9_truncate_12 rfl (lv_at hl 0 rfl) ?_
  refine gf_X9_10 B Y 0 rfl rfl dX9_truncate_13 ?_
  refine lv_iload_n B.1 B.2.1 dX9_truncate_16 rfl (lv_at hl 1 rfl) ?_
  refine pf_X9_73 (ws' := [(x, .inr (9, [.ref rd, .ref tx, .ref bu, .ref st, .ref pa, .int 0, .int 0, .null, .null])), (rd, .inr (6, [.ref q0, .int k, .int 0, .int 0, .int 0, .int (-1), .int 0, .ref q1, .ref q2, .ref q3, .ref q4]))]) B Y 1 rfl (Nat.le_of_ble_eq_true rfl) rfl dX9_truncate_17 (fun H locs Y => ?_)
  refine lv_iload_n B.1 B.2.1 dX9_truncate_20 rfl (lv_at hl 1 rfl) ?_
  exact vx_ret (endI B hr hlk Y () ⟨hw.1, hw.2, rfl⟩ [] (by decide) rfl (Nat.le_of_ble_eq_true rfl) (Nat.le_of_ble_eq_true rfl) dX9_truncate_21)

set_option maxHeartbeats 4000000 in
set_option maxRecDepth 100000 in
theorem k_hasRoom (l : Launch) (D : va_G) (τ : Nat → ClassId) (sz : Nat) (rd q0 q1 q2 q3 q4 : Nat) : Met l yX6_hasRoomForFive (Cond.code yX6_hasRoomForFive cX6_hasRoomForFive 1 (some .boolean) :: wALL) { frames := 0, cells := 0, slots := 0, locals := 0 } (Pw D τ [(rd, .inr (6, [.ref q0, .int 0, .int 0, .int 0, .int 0, .int (-1), .int 0, .ref q1, .ref q2, .ref q3, .ref q4]))] sz [.ref rd]) (va_Qi (fun (r : Int32) (_ : Unit) => r = 1) (Bw D (va_A [(rd, .inr (6, [.ref q0, .int 0, .int 0, .int 0, .int 0, .int (-1), .int 0, .ref q1, .ref q2, .ref q3, .ref q4]))] sz) (fun (_ : Unit) => [(rd, .inr (6, [.ref q0, .int 0, .int 0, .int 0, .int 0, .int (-1), .int 0, .ref q1, .ref q2, .ref q3, .ref q4]))])) (va_A [(rd, .inr (6, [.ref q0, .int 0, .int 0, .int 0, .int 0, .int (-1), .int 0, .ref q1, .ref q2, .ref q3, .ref q4]))] sz)) 0 0 (va_A [(rd, .inr (6, [.ref q0, .int 0, .int 0, .int 0, .int 0, .int (-1), .int 0, .ref q1, .ref q2, .ref q3, .ref q4]))] sz) := by
  refine bodyW (by decide) (Nat.le_of_ble_eq_true rfl) (fun p e s m below meth c ls B hr hlk hin hsz Y hl => ?_)
  have hl : lv_has ls 1 [(0, .ref rd)] := hl
  have B : CallFix p m c cX6_hasRoomForFive 1 s _ wALL RX6 := B
  generalize va_A [(rd, .inr (6, [.ref q0, .int 0, .int 0, .int 0, .int 0, .int (-1), .int 0, .ref q1, .ref q2, .ref q3, .ref q4]))] sz = A at Y ⊢
  refine lv_aload_n B.1 B.2.1 dX6_hasRoomForFive_0 rfl (lv_at hl 0 rfl) ?_
  refine gf_X6_15 B Y 0 rfl rfl dX6_hasRoomForFive_1 ?_
  refine lv_bipush (v := 20) B.1 B.2.1 dX6_hasRoomForFive_4 (by decide) ?_
  refine lv_iadd B.1 B.2.1 dX6_hasRoomForFive_6 ?_
  refine lv_cv (v := 20) (by decide) ?_
  refine lv_sipush (v := 500) B.1 B.2.1 dX6_hasRoomForFive_7 (by decide) ?_
  refine lv_icmp_gt (tgt := 17) B.1 B.2.1 dX6_hasRoomForFive_10 (by decide) (fun h => absurd h (by decide)) (fun _ => ?_)
  refine lv_iconst (v := 1) B.1 B.2.1 dX6_hasRoomForFive_13 (by decide) ?_
  refine lv_goto (tgt := 18) B.1 B.2.1 dX6_hasRoomForFive_14 (by decide) ?_
  exact endZ B hr hlk Y (by decide) () rfl [0] (by decide) rfl (Nat.le_of_ble_eq_true rfl) (Nat.le_of_ble_eq_true rfl) dX6_hasRoomForFive_18

set_option maxHeartbeats 4000000 in
set_option maxRecDepth 100000 in
theorem k_take0 (l : Launch) (D : va_G) (τ : Nat → ClassId) (sz : Nat) (rd q0 q1 q2 q3 q4 : Nat) (f : Nat → Int32) (v : Int32) : Met l yX6_takeNumber (Cond.code yX6_takeNumber cX6_takeNumber 3 none :: wALL) { frames := 0, cells := 0, slots := 0, locals := 0 } (Pw D τ [(rd, .inr (6, [.ref q0, .int 0, .int 0, .int 0, .int 0, .int (-1), .int 0, .ref q1, .ref q2, .ref q3, .ref q4])), (q0, .inl (τ 1, 500, .inl (f)))] sz [.ref rd, .int v]) (va_Qv (fun (u : Nat → Int32) => True) (Bw D (va_A [(rd, .inr (6, [.ref q0, .int 0, .int 0, .int 0, .int 0, .int (-1), .int 0, .ref q1, .ref q2, .ref q3, .ref q4])), (q0, .inl (τ 1, 500, .inl (f)))] sz) (fun (u : Nat → Int32) => [(rd, .inr (6, [.ref q0, .int 4, .int 0, .int 0, .int 0, .int (-1), .int 0, .ref q1, .ref q2, .ref q3, .ref q4])), (q0, .inl (τ 1, 500, .inl (u)))])) (va_A [(rd, .inr (6, [.ref q0, .int 0, .int 0, .int 0, .int 0, .int (-1), .int 0, .ref q1, .ref q2, .ref q3, .ref q4])), (q0, .inl (τ 1, 500, .inl (f)))] sz)) 0 0 (va_A [(rd, .inr (6, [.ref q0, .int 0, .int 0, .int 0, .int 0, .int (-1), .int 0, .ref q1, .ref q2, .ref q3, .ref q4])), (q0, .inl (τ 1, 500, .inl (f)))] sz) := by
  refine bodyW (by decide) (Nat.le_of_ble_eq_true rfl) (fun p e s m below meth c ls B hr hlk hin hsz Y hl => ?_)
  have hl : lv_has ls 3 [(0, .ref rd), (1, .int v)] := hl
  have B : CallFix p m c cX6_takeNumber 3 s _ wALL RX6 := B
  generalize va_A [(rd, .inr (6, [.ref q0, .int 0, .int 0, .int 0, .int 0, .int (-1), .int 0, .ref q1, .ref q2, .ref q3, .ref q4])), (q0, .inl (τ 1, 500, .inl (f)))] sz = A at Y ⊢
  refine lv_bipush (v := 24) B.1 B.2.1 dX6_takeNumber_0 (by decide) ?_
  refine lv_istore_n (lv' := [(2, .int 24), (0, .ref rd), (1, .int v)]) B.1 B.2.1 dX6_takeNumber_2 rfl hl (by decide) rfl (fun ls hl => ?_)
  refine lv_iload_n B.1 B.2.1 dX6_takeNumber_3 rfl (lv_at hl 0 rfl) ?_
  refine lv_if_lt (tgt := 53) B.1 B.2.1 dX6_takeNumber_4 (by decide) (fun h => absurd h (by decide)) (fun _ => ?_)
  refine lv_aload_n B.1 B.2.1 dX6_takeNumber_7 rfl (lv_at hl 1 rfl) ?_
  refine gf_X6_15 B Y 0 rfl rfl dX6_takeNumber_8 ?_
  refine lv_if_lt (tgt := 47) B.1 B.2.1 dX6_takeNumber_11 (by decide) (fun h => absurd h (by decide)) (fun _ => ?_)
  refine lv_aload_n B.1 B.2.1 dX6_takeNumber_14 rfl (lv_at hl 1 rfl) ?_
  refine gf_X6_15 B Y 0 rfl rfl dX6_takeNumber_15 ?_
  refine lv_sipush (v := 500) B.1 B.2.1 dX6_takeNumber_18 (by decide) ?_
  refine lv_icmp_ge (tgt := 47) B.1 B.2.1 dX6_takeNumber_21 (by decide) (fun h => absurd h (by decide)) (fun _ => ?_)
  refine lv_aload_n B.1 B.2.1 dX6_takeNumber_24 rfl (lv_at hl 1 rfl) ?_
  refine gf_X6_11 B Y 0 rfl rfl dX6_takeNumber_25 ?_
  refine lv_aload_n B.1 B.2.1 dX6_takeNumber_28 rfl (lv_at hl 1 rfl) ?_
  refine gf_X6_15 B Y 0 rfl rfl dX6_takeNumber_29 ?_
  refine lv_iload_n B.1 B.2.1 dX6_takeNumber_32 rfl (lv_at hl 2 rfl) ?_
  refine lv_iload_n B.1 B.2.1 dX6_takeNumber_33 rfl (lv_at hl 0 rfl) ?_
  refine lv_ishr B.1 B.2.1 dX6_takeNumber_34 ?_
  refine lv_topi (fun z1 ez1 => ?_)
  refine lv_i2b B.1 B.2.1 dX6_takeNumber_35 rfl ?_
  refine lv_topi (fun z2 ez2 => ?_)
  refine t_bast (j := 0) (g := upd (f) 0 (vp_nar .byte z2)) (ws' := [(rd, .inr (6, [.ref q0, .int 0, .int 0, .int 0, .int 0, .int (-1), .int 0, .ref q1, .ref q2, .ref q3, .ref q4])), (q0, .inl (τ 1, 500, .inl (upd (f) 0 (vp_nar .byte z2))))]) B Y 1 rfl (by decide) (by decide) (Nat.le_of_ble_eq_true rfl) rfl rfl dX6_takeNumber_36 (fun H locs Y => ?_)
  refine lv_aload_n B.1 B.2.1 dX6_takeNumber_37 rfl (lv_at hl 1 rfl) ?_
  refine lv_dup B.1 B.2.1 dX6_takeNumber_38 rfl ?_
  refine gf_X6_15 B Y 0 rfl rfl dX6_takeNumber_39 ?_
  refine lv_iconst (v := 1) B.1 B.2.1 dX6_takeNumber_42 (by decide) ?_
  refine lv_iadd B.1 B.2.1 dX6_takeNumber_43 ?_
  refine lv_cv (v := 1) (by decide) ?_
  refine pf_X6_15 (ws' := [(rd, .inr (6, [.ref q0, .int 1, .int 0, .int 0, .int 0, .int (-1), .int 0, .ref q1, .ref q2, .ref q3, .ref q4])), (q0, .inl (τ 1, 500, .inl (upd (f) 0 (vp_nar .byte z2))))]) B Y 0 rfl (Nat.le_of_ble_eq_true rfl) rfl dX6_takeNumber_44 (fun H locs Y => ?_)
  refine lv_iinc (v := 16) (lv' := [(2, .int 16), (0, .ref rd), (1, .int v)]) B.1 B.2.1 dX6_takeNumber_47 hl (k := 0) rfl (by decide) (by decide) rfl (fun ls hl => ?_)
  refine lv_goto (tgt := 3) B.1 B.2.1 dX6_takeNumber_50 (by decide) ?_
  refine lv_iload_n B.1 B.2.1 dX6_takeNumber_3 rfl (lv_at hl 0 rfl) ?_
  refine lv_if_lt (tgt := 53) B.1 B.2.1 dX6_takeNumber_4 (by decide) (fun h => absurd h (by decide)) (fun _ => ?_)
  refine lv_aload_n B.1 B.2.1 dX6_takeNumber_7 rfl (lv_at hl 1 rfl) ?_
  refine gf_X6_15 B Y 0 rfl rfl dX6_takeNumber_8 ?_
  refine lv_if_lt (tgt := 47) B.1 B.2.1 dX6_takeNumber_11 (by decide) (fun h => absurd h (by decide)) (fun _ => ?_)
  refine lv_aload_n B.1 B.2.1 dX6_takeNumber_14 rfl (lv_at hl 1 rfl) ?_
  refine gf_X6_15 B Y 0 rfl rfl dX6_takeNumber_15 ?_
  refine lv_sipush (v := 500) B.1 B.2.1 dX6_takeNumber_18 (by decide) ?_
  refine lv_icmp_ge (tgt := 47) B.1 B.2.1 dX6_takeNumber_21 (by decide) (fun h => absurd h (by decide)) (fun _ => ?_)
  refine lv_aload_n B.1 B.2.1 dX6_takeNumber_24 rfl (lv_at hl 1 rfl) ?_
  refine gf_X6_11 B Y 0 rfl rfl dX6_takeNumber_25 ?_
  refine lv_aload_n B.1 B.2.1 dX6_takeNumber_28 rfl (lv_at hl 1 rfl) ?_
  refine gf_X6_15 B Y 0 rfl rfl dX6_takeNumber_29 ?_
  refine lv_iload_n B.1 B.2.1 dX6_takeNumber_32 rfl (lv_at hl 2 rfl) ?_
  refine lv_iload_n B.1 B.2.1 dX6_takeNumber_33 rfl (lv_at hl 0 rfl) ?_
  refine lv_ishr B.1 B.2.1 dX6_takeNumber_34 ?_
  refine lv_topi (fun z3 ez3 => ?_)
  refine lv_i2b B.1 B.2.1 dX6_takeNumber_35 rfl ?_
  refine lv_topi (fun z4 ez4 => ?_)
  refine t_bast (j := 1) (g := upd (upd (f) 0 (vp_nar .byte z2)) 1 (vp_nar .byte z4)) (ws' := [(rd, .inr (6, [.ref q0, .int 1, .int 0, .int 0, .int 0, .int (-1), .int 0, .ref q1, .ref q2, .ref q3, .ref q4])), (q0, .inl (τ 1, 500, .inl (upd (upd (f) 0 (vp_nar .byte z2)) 1 (vp_nar .byte z4))))]) B Y 1 rfl (by decide) (by decide) (Nat.le_of_ble_eq_true rfl) rfl rfl dX6_takeNumber_36 (fun H locs Y => ?_)
  refine lv_aload_n B.1 B.2.1 dX6_takeNumber_37 rfl (lv_at hl 1 rfl) ?_
  refine lv_dup B.1 B.2.1 dX6_takeNumber_38 rfl ?_
  refine gf_X6_15 B Y 0 rfl rfl dX6_takeNumber_39 ?_
  refine lv_iconst (v := 1) B.1 B.2.1 dX6_takeNumber_42 (by decide) ?_
  refine lv_iadd B.1 B.2.1 dX6_takeNumber_43 ?_
  refine lv_cv (v := 2) (by decide) ?_
  refine pf_X6_15 (ws' := [(rd, .inr (6, [.ref q0, .int 2, .int 0, .int 0, .int 0, .int (-1), .int 0, .ref q1, .ref q2, .ref q3, .ref q4])), (q0, .inl (τ 1, 500, .inl (upd (upd (f) 0 (vp_nar .byte z2)) 1 (vp_nar .byte z4))))]) B Y 0 rfl (Nat.le_of_ble_eq_true rfl) rfl dX6_takeNumber_44 (fun H locs Y => ?_)
  refine lv_iinc (v := 8) (lv' := [(2, .int 8), (0, .ref rd), (1, .int v)]) B.1 B.2.1 dX6_takeNumber_47 hl (k := 0) rfl (by decide) (by decide) rfl (fun ls hl => ?_)
  refine lv_goto (tgt := 3) B.1 B.2.1 dX6_takeNumber_50 (by decide) ?_
  refine lv_iload_n B.1 B.2.1 dX6_takeNumber_3 rfl (lv_at hl 0 rfl) ?_
  refine lv_if_lt (tgt := 53) B.1 B.2.1 dX6_takeNumber_4 (by decide) (fun h => absurd h (by decide)) (fun _ => ?_)
  refine lv_aload_n B.1 B.2.1 dX6_takeNumber_7 rfl (lv_at hl 1 rfl) ?_
  refine gf_X6_15 B Y 0 rfl rfl dX6_takeNumber_8 ?_
  refine lv_if_lt (tgt := 47) B.1 B.2.1 dX6_takeNumber_11 (by decide) (fun h => absurd h (by decide)) (fun _ => ?_)
  refine lv_aload_n B.1 B.2.1 dX6_takeNumber_14 rfl (lv_at hl 1 rfl) ?_
  refine gf_X6_15 B Y 0 rfl rfl dX6_takeNumber_15 ?_
  refine lv_sipush (v := 500) B.1 B.2.1 dX6_takeNumber_18 (by decide) ?_
  refine lv_icmp_ge (tgt := 47) B.1 B.2.1 dX6_takeNumber_21 (by decide) (fun h => absurd h (by decide)) (fun _ => ?_)
  refine lv_aload_n B.1 B.2.1 dX6_takeNumber_24 rfl (lv_at hl 1 rfl) ?_
  refine gf_X6_11 B Y 0 rfl rfl dX6_takeNumber_25 ?_
  refine lv_aload_n B.1 B.2.1 dX6_takeNumber_28 rfl (lv_at hl 1 rfl) ?_
  refine gf_X6_15 B Y 0 rfl rfl dX6_takeNumber_29 ?_
  refine lv_iload_n B.1 B.2.1 dX6_takeNumber_32 rfl (lv_at hl 2 rfl) ?_
  refine lv_iload_n B.1 B.2.1 dX6_takeNumber_33 rfl (lv_at hl 0 rfl) ?_
  refine lv_ishr B.1 B.2.1 dX6_takeNumber_34 ?_
  refine lv_topi (fun z5 ez5 => ?_)
  refine lv_i2b B.1 B.2.1 dX6_takeNumber_35 rfl ?_
  refine lv_topi (fun z6 ez6 => ?_)
  refine t_bast (j := 2) (g := upd (upd (upd (f) 0 (vp_nar .byte z2)) 1 (vp_nar .byte z4)) 2 (vp_nar .byte z6)) (ws' := [(rd, .inr (6, [.ref q0, .int 2, .int 0, .int 0, .int 0, .int (-1), .int 0, .ref q1, .ref q2, .ref q3, .ref q4])), (q0, .inl (τ 1, 500, .inl (upd (upd (upd (f) 0 (vp_nar .byte z2)) 1 (vp_nar .byte z4)) 2 (vp_nar .byte z6))))]) B Y 1 rfl (by decide) (by decide) (Nat.le_of_ble_eq_true rfl) rfl rfl dX6_takeNumber_36 (fun H locs Y => ?_)
  refine lv_aload_n B.1 B.2.1 dX6_takeNumber_37 rfl (lv_at hl 1 rfl) ?_
  refine lv_dup B.1 B.2.1 dX6_takeNumber_38 rfl ?_
  refine gf_X6_15 B Y 0 rfl rfl dX6_takeNumber_39 ?_
  refine lv_iconst (v := 1) B.1 B.2.1 dX6_takeNumber_42 (by decide) ?_
  refine lv_iadd B.1 B.2.1 dX6_takeNumber_43 ?_
  refine lv_cv (v := 3) (by decide) ?_
  refine pf_X6_15 (ws' := [(rd, .inr (6, [.ref q0, .int 3, .int 0, .int 0, .int 0, .int (-1), .int 0, .ref q1, .ref q2, .ref q3, .ref q4])), (q0, .inl (τ 1, 500, .inl (upd (upd (upd (f) 0 (vp_nar .byte z2)) 1 (vp_nar .byte z4)) 2 (vp_nar .byte z6))))]) B Y 0 rfl (Nat.le_of_ble_eq_true rfl) rfl dX6_takeNumber_44 (fun H locs Y => ?_)
  refine lv_iinc (v := 0) (lv' := [(2, .int 0), (0, .ref rd), (1, .int v)]) B.1 B.2.1 dX6_takeNumber_47 hl (k := 0) rfl (by decide) (by decide) rfl (fun ls hl => ?_)
  refine lv_goto (tgt := 3) B.1 B.2.1 dX6_takeNumber_50 (by decide) ?_
  refine lv_iload_n B.1 B.2.1 dX6_takeNumber_3 rfl (lv_at hl 0 rfl) ?_
  refine lv_if_lt (tgt := 53) B.1 B.2.1 dX6_takeNumber_4 (by decide) (fun h => absurd h (by decide)) (fun _ => ?_)
  refine lv_aload_n B.1 B.2.1 dX6_takeNumber_7 rfl (lv_at hl 1 rfl) ?_
  refine gf_X6_15 B Y 0 rfl rfl dX6_takeNumber_8 ?_
  refine lv_if_lt (tgt := 47) B.1 B.2.1 dX6_takeNumber_11 (by decide) (fun h => absurd h (by decide)) (fun _ => ?_)
  refine lv_aload_n B.1 B.2.1 dX6_takeNumber_14 rfl (lv_at hl 1 rfl) ?_
  refine gf_X6_15 B Y 0 rfl rfl dX6_takeNumber_15 ?_
  refine lv_sipush (v := 500) B.1 B.2.1 dX6_takeNumber_18 (by decide) ?_
  refine lv_icmp_ge (tgt := 47) B.1 B.2.1 dX6_takeNumber_21 (by decide) (fun h => absurd h (by decide)) (fun _ => ?_)
  refine lv_aload_n B.1 B.2.1 dX6_takeNumber_24 rfl (lv_at hl 1 rfl) ?_
  refine gf_X6_11 B Y 0 rfl rfl dX6_takeNumber_25 ?_
  refine lv_aload_n B.1 B.2.1 dX6_takeNumber_28 rfl (lv_at hl 1 rfl) ?_
  refine gf_X6_15 B Y 0 rfl rfl dX6_takeNumber_29 ?_
  refine lv_iload_n B.1 B.2.1 dX6_takeNumber_32 rfl (lv_at hl 2 rfl) ?_
  refine lv_iload_n B.1 B.2.1 dX6_takeNumber_33 rfl (lv_at hl 0 rfl) ?_
  refine lv_ishr B.1 B.2.1 dX6_takeNumber_34 ?_
  refine lv_topi (fun z7 ez7 => ?_)
  refine lv_i2b B.1 B.2.1 dX6_takeNumber_35 rfl ?_
  refine lv_topi (fun z8 ez8 => ?_)
  refine t_bast (j := 3) (g := upd (upd (upd (upd (f) 0 (vp_nar .byte z2)) 1 (vp_nar .byte z4)) 2 (vp_nar .byte z6)) 3 (vp_nar .byte z8)) (ws' := [(rd, .inr (6, [.ref q0, .int 3, .int 0, .int 0, .int 0, .int (-1), .int 0, .ref q1, .ref q2, .ref q3, .ref q4])), (q0, .inl (τ 1, 500, .inl (upd (upd (upd (upd (f) 0 (vp_nar .byte z2)) 1 (vp_nar .byte z4)) 2 (vp_nar .byte z6)) 3 (vp_nar .byte z8))))]) B Y 1 rfl (by decide) (by decide) (Nat.le_of_ble_eq_true rfl) rfl rfl dX6_takeNumber_36 (fun H locs Y => ?_)
  refine lv_aload_n B.1 B.2.1 dX6_takeNumber_37 rfl (lv_at hl 1 rfl) ?_
  refine lv_dup B.1 B.2.1 dX6_takeNumber_38 rfl ?_
  refine gf_X6_15 B Y 0 rfl rfl dX6_takeNumber_39 ?_
  refine lv_iconst (v := 1) B.1 B.2.1 dX6_takeNumber_42 (by decide) ?_
  refine lv_iadd B.1 B.2.1 dX6_takeNumber_43 ?_
  refine lv_cv (v := 4) (by decide) ?_
  refine pf_X6_15 (ws' := [(rd, .inr (6, [.ref q0, .int 4, .int 0, .int 0, .int 0, .int (-1), .int 0, .ref q1, .ref q2, .ref q3, .ref q4])), (q0, .inl (τ 1, 500, .inl (upd (upd (upd (upd (f) 0 (vp_nar .byte z2)) 1 (vp_nar .byte z4)) 2 (vp_nar .byte z6)) 3 (vp_nar .byte z8))))]) B Y 0 rfl (Nat.le_of_ble_eq_true rfl) rfl dX6_takeNumber_44 (fun H locs Y => ?_)
  refine lv_iinc (v := (-8)) (lv' := [(2, .int (-8)), (0, .ref rd), (1, .int v)]) B.1 B.2.1 dX6_takeNumber_47 hl (k := 0) rfl (by decide) (by decide) rfl (fun ls hl => ?_)
  refine lv_goto (tgt := 3) B.1 B.2.1 dX6_takeNumber_50 (by decide) ?_
  refine lv_iload_n B.1 B.2.1 dX6_takeNumber_3 rfl (lv_at hl 0 rfl) ?_
  refine lv_if_lt (tgt := 53) B.1 B.2.1 dX6_takeNumber_4 (by decide) (fun _ => ?_) (fun h => absurd (by decide) h)
  exact endV B hr hlk Y (upd (upd (upd (upd (f) 0 (vp_nar .byte z2)) 1 (vp_nar .byte z4)) 2 (vp_nar .byte z6)) 3 (vp_nar .byte z8)) trivial [0, 1] (by decide) rfl (Nat.le_of_ble_eq_true rfl) (Nat.le_of_ble_eq_true rfl) dX6_takeNumber_53

set_option maxHeartbeats 4000000 in
set_option maxRecDepth 100000 in
theorem k_take4 (l : Launch) (D : va_G) (τ : Nat → ClassId) (sz : Nat) (rd q0 q1 q2 q3 q4 : Nat) (f : Nat → Int32) (v : Int32) : Met l yX6_takeNumber (Cond.code yX6_takeNumber cX6_takeNumber 3 none :: wALL) { frames := 0, cells := 0, slots := 0, locals := 0 } (Pw D τ [(rd, .inr (6, [.ref q0, .int 4, .int 0, .int 0, .int 0, .int (-1), .int 0, .ref q1, .ref q2, .ref q3, .ref q4])), (q0, .inl (τ 1, 500, .inl (f)))] sz [.ref rd, .int v]) (va_Qv (fun (u : Nat → Int32) => True) (Bw D (va_A [(rd, .inr (6, [.ref q0, .int 4, .int 0, .int 0, .int 0, .int (-1), .int 0, .ref q1, .ref q2, .ref q3, .ref q4])), (q0, .inl (τ 1, 500, .inl (f)))] sz) (fun (u : Nat → Int32) => [(rd, .inr (6, [.ref q0, .int 8, .int 0, .int 0, .int 0, .int (-1), .int 0, .ref q1, .ref q2, .ref q3, .ref q4])), (q0, .inl (τ 1, 500, .inl (u)))])) (va_A [(rd, .inr (6, [.ref q0, .int 4, .int 0, .int 0, .int 0, .int (-1), .int 0, .ref q1, .ref q2, .ref q3, .ref q4])), (q0, .inl (τ 1, 500, .inl (f)))] sz)) 0 0 (va_A [(rd, .inr (6, [.ref q0, .int 4, .int 0, .int 0, .int 0, .int (-1), .int 0, .ref q1, .ref q2, .ref q3, .ref q4])), (q0, .inl (τ 1, 500, .inl (f)))] sz) := by
  refine bodyW (by decide) (Nat.le_of_ble_eq_true rfl) (fun p e s m below meth c ls B hr hlk hin hsz Y hl => ?_)
  have hl : lv_has ls 3 [(0, .ref rd), (1, .int v)] := hl
  have B : CallFix p m c cX6_takeNumber 3 s _ wALL RX6 := B
  generalize va_A [(rd, .inr (6, [.ref q0, .int 4, .int 0, .int 0, .int 0, .int (-1), .int 0, .ref q1, .ref q2, .ref q3, .ref q4])), (q0, .inl (τ 1, 500, .inl (f)))] sz = A at Y ⊢
  refine lv_bipush (v := 24) B.1 B.2.1 dX6_takeNumber_0 (by decide) ?_
  refine lv_istore_n (lv' := [(2, .int 24), (0, .ref rd), (1, .int v)]) B.1 B.2.1 dX6_takeNumber_2 rfl hl (by decide) rfl (fun ls hl => ?_)
  refine lv_iload_n B.1 B.2.1 dX6_takeNumber_3 rfl (lv_at hl 0 rfl) ?_
  refine lv_if_lt (tgt := 53) B.1 B.2.1 dX6_takeNumber_4 (by decide) (fun h => absurd h (by decide)) (fun _ => ?_)
  refine lv_aload_n B.1 B.2.1 dX6_takeNumber_7 rfl (lv_at hl 1 rfl) ?_
  refine gf_X6_15 B Y 0 rfl rfl dX6_takeNumber_8 ?_
  refine lv_if_lt (tgt := 47) B.1 B.2.1 dX6_takeNumber_11 (by decide) (fun h => absurd h (by decide)) (fun _ => ?_)
  refine lv_aload_n B.1 B.2.1 dX6_takeNumber_14 rfl (lv_at hl 1 rfl) ?_
  refine gf_X6_15 B Y 0 rfl rfl dX6_takeNumber_15 ?_
  refine lv_sipush (v := 500) B.1 B.2.1 dX6_takeNumber_18 (by decide) ?_
  refine lv_icmp_ge (tgt := 47) B.1 B.2.1 dX6_takeNumber_21 (by decide) (fun h => absurd h (by decide)) (fun _ => ?_)
  refine lv_aload_n B.1 B.2.1 dX6_takeNumber_24 rfl (lv_at hl 1 rfl) ?_
  refine gf_X6_11 B Y 0 rfl rfl dX6_takeNumber_25 ?_
  refine lv_aload_n B.1 B.2.1 dX6_takeNumber_28 rfl (lv_at hl 1 rfl) ?_
  refine gf_X6_15 B Y 0 rfl rfl dX6_takeNumber_29 ?_
  refine lv_iload_n B.1 B.2.1 dX6_takeNumber_32 rfl (lv_at hl 2 rfl) ?_
  refine lv_iload_n B.1 B.2.1 dX6_takeNumber_33 rfl (lv_at hl 0 rfl) ?_
  refine lv_ishr B.1 B.2.1 dX6_takeNumber_34 ?_
  refine lv_topi (fun z1 ez1 => ?_)
  refine lv_i2b B.1 B.2.1 dX6_takeNumber_35 rfl ?_
  refine lv_topi (fun z2 ez2 => ?_)
  refine t_bast (j := 4) (g := upd (f) 4 (vp_nar .byte z2)) (ws' := [(rd, .inr (6, [.ref q0, .int 4, .int 0, .int 0, .int 0, .int (-1), .int 0, .ref q1, .ref q2, .ref q3, .ref q4])), (q0, .inl (τ 1, 500, .inl (upd (f) 4 (vp_nar .byte z2))))]) B Y 1 rfl (by decide) (by decide) (Nat.le_of_ble_eq_true rfl) rfl rfl dX6_takeNumber_36 (fun H locs Y => ?_)
  refine lv_aload_n B.1 B.2.1 dX6_takeNumber_37 rfl (lv_at hl 1 rfl) ?_
  refine lv_dup B.1 B.2.1 dX6_takeNumber_38 rfl ?_
  refine gf_X6_15 B Y 0 rfl rfl dX6_takeNumber_39 ?_
  refine lv_iconst (v := 1) B.1 B.2.1 dX6_takeNumber_42 (by decide) ?_
  refine lv_iadd B.1 B.2.1 dX6_takeNumber_43 ?_
  refine lv_cv (v := 5) (by decide) ?_
  refine pf_X6_15 (ws' := [(rd, .inr (6, [.ref q0, .int 5, .int 0, .int 0, .int 0, .int (-1), .int 0, .ref q1, .ref q2, .ref q3, .ref q4])), (q0, .inl (τ 1, 500, .inl (upd (f) 4 (vp_nar .byte z2))))]) B Y 0 rfl (Nat.le_of_ble_eq_true rfl) rfl dX6_takeNumber_44 (fun H locs Y => ?_)
  refine lv_iinc (v := 16) (lv' := [(2, .int 16), (0, .ref rd), (1, .int v)]) B.1 B.2.1 dX6_takeNumber_47 hl (k := 0) rfl (by decide) (by decide) rfl (fun ls hl => ?_)
  refine lv_goto (tgt := 3) B.1 B.2.1 dX6_takeNumber_50 (by decide) ?_
  refine lv_iload_n B.1 B.2.1 dX6_takeNumber_3 rfl (lv_at hl 0 rfl) ?_
  refine lv_if_lt (tgt := 53) B.1 B.2.1 dX6_takeNumber_4 (by decide) (fun h => absurd h (by decide)) (fun _ => ?_)
  refine lv_aload_n B.1 B.2.1 dX6_takeNumber_7 rfl (lv_at hl 1 rfl) ?_
  refine gf_X6_15 B Y 0 rfl rfl dX6_takeNumber_8 ?_
  refine lv_if_lt (tgt := 47) B.1 B.2.1 dX6_takeNumber_11 (by decide) (fun h => absurd h (by decide)) (fun _ => ?_)
  refine lv_aload_n B.1 B.2.1 dX6_takeNumber_14 rfl (lv_at hl 1 rfl) ?_
  refine gf_X6_15 B Y 0 rfl rfl dX6_takeNumber_15 ?_
  refine lv_sipush (v := 500) B.1 B.2.1 dX6_takeNumber_18 (by decide) ?_
  refine lv_icmp_ge (tgt := 47) B.1 B.2.1 dX6_takeNumber_21 (by decide) (fun h => absurd h (by decide)) (fun _ => ?_)
  refine lv_aload_n B.1 B.2.1 dX6_takeNumber_24 rfl (lv_at hl 1 rfl) ?_
  refine gf_X6_11 B Y 0 rfl rfl dX6_takeNumber_25 ?_
  refine lv_aload_n B.1 B.2.1 dX6_takeNumber_28 rfl (lv_at hl 1 rfl) ?_
  refine gf_X6_15 B Y 0 rfl rfl dX6_takeNumber_29 ?_
  refine lv_iload_n B.1 B.2.1 dX6_takeNumber_32 rfl (lv_at hl 2 rfl) ?_
  refine lv_iload_n B.1 B.2.1 dX6_takeNumber_33 rfl (lv_at hl 0 rfl) ?_
  refine lv_ishr B.1 B.2.1 dX6_takeNumber_34 ?_
  refine lv_topi (fun z3 ez3 => ?_)
  refine lv_i2b B.1 B.2.1 dX6_takeNumber_35 rfl ?_
  refine lv_topi (fun z4 ez4 => ?_)
  refine t_bast (j := 5) (g := upd (upd (f) 4 (vp_nar .byte z2)) 5 (vp_nar .byte z4)) (ws' := [(rd, .inr (6, [.ref q0, .int 5, .int 0, .int 0, .int 0, .int (-1), .int 0, .ref q1, .ref q2, .ref q3, .ref q4])), (q0, .inl (τ 1, 500, .inl (upd (upd (f) 4 (vp_nar .byte z2)) 5 (vp_nar .byte z4))))]) B Y 1 rfl (by decide) (by decide) (Nat.le_of_ble_eq_true rfl) rfl rfl dX6_takeNumber_36 (fun H locs Y => ?_)
  refine lv_aload_n B.1 B.2.1 dX6_takeNumber_37 rfl (lv_at hl 1 rfl) ?_
  refine lv_dup B.1 B.2.1 dX6_takeNumber_38 rfl ?_
  refine gf_X6_15 B Y 0 rfl rfl dX6_takeNumber_39 ?_
  refine lv_iconst (v := 1) B.1 B.2.1 dX6_takeNumber_42 (by decide) ?_
  refine lv_iadd B.1 B.2.1 dX6_takeNumber_43 ?_
  refine lv_cv (v := 6) (by decide) ?_
  refine pf_X6_15 (ws' := [(rd, .inr (6, [.ref q0, .int 6, .int 0, .int 0, .int 0, .int (-1), .int 0, .ref q1, .ref q2, .ref q3, .ref q4])), (q0, .inl (τ 1, 500, .inl (upd (upd (f) 4 (vp_nar .byte z2)) 5 (vp_nar .byte z4))))]) B Y 0 rfl (Nat.le_of_ble_eq_true rfl) rfl dX6_takeNumber_44 (fun H locs Y => ?_)
  refine lv_iinc (v := 8) (lv' := [(2, .int 8), (0, .ref rd), (1, .int v)]) B.1 B.2.1 dX6_takeNumber_47 hl (k := 0) rfl (by decide) (by decide) rfl (fun ls hl => ?_)
  refine lv_goto (tgt := 3) B.1 B.2.1 dX6_takeNumber_50 (by decide) ?_
  refine lv_iload_n B.1 B.2.1 dX6_takeNumber_3 rfl (lv_at hl 0 rfl) ?_
  refine lv_if_lt (tgt := 53) B.1 B.2.1 dX6_takeNumber_4 (by decide) (fun h => absurd h (by decide)) (fun _ => ?_)
  refine lv_aload_n B.1 B.2.1 dX6_takeNumber_7 rfl (lv_at hl 1 rfl) ?_
  refine gf_X6_15 B Y 0 rfl rfl dX6_takeNumber_8 ?_
  refine lv_if_lt (tgt := 47) B.1 B.2.1 dX6_takeNumber_11 (by decide) (fun h => absurd h (by decide)) (fun _ => ?_)
  refine lv_aload_n B.1 B.2.1 dX6_takeNumber_14 rfl (lv_at hl 1 rfl) ?_
  refine gf_X6_15 B Y 0 rfl rfl dX6_takeNumber_15 ?_
  refine lv_sipush (v := 500) B.1 B.2.1 dX6_takeNumber_18 (by decide) ?_
  refine lv_icmp_ge (tgt := 47) B.1 B.2.1 dX6_takeNumber_21 (by decide) (fun h => absurd h (by decide)) (fun _ => ?_)
  refine lv_aload_n B.1 B.2.1 dX6_takeNumber_24 rfl (lv_at hl 1 rfl) ?_
  refine gf_X6_11 B Y 0 rfl rfl dX6_takeNumber_25 ?_
  refine lv_aload_n B.1 B.2.1 dX6_takeNumber_28 rfl (lv_at hl 1 rfl) ?_
  refine gf_X6_15 B Y 0 rfl rfl dX6_takeNumber_29 ?_
  refine lv_iload_n B.1 B.2.1 dX6_takeNumber_32 rfl (lv_at hl 2 rfl) ?_
  refine lv_iload_n B.1 B.2.1 dX6_takeNumber_33 rfl (lv_at hl 0 rfl) ?_
  refine lv_ishr B.1 B.2.1 dX6_takeNumber_34 ?_
  refine lv_topi (fun z5 ez5 => ?_)
  refine lv_i2b B.1 B.2.1 dX6_takeNumber_35 rfl ?_
  refine lv_topi (fun z6 ez6 => ?_)
  refine t_bast (j := 6) (g := upd (upd (upd (f) 4 (vp_nar .byte z2)) 5 (vp_nar .byte z4)) 6 (vp_nar .byte z6)) (ws' := [(rd, .inr (6, [.ref q0, .int 6, .int 0, .int 0, .int 0, .int (-1), .int 0, .ref q1, .ref q2, .ref q3, .ref q4])), (q0, .inl (τ 1, 500, .inl (upd (upd (upd (f) 4 (vp_nar .byte z2)) 5 (vp_nar .byte z4)) 6 (vp_nar .byte z6))))]) B Y 1 rfl (by decide) (by decide) (Nat.le_of_ble_eq_true rfl) rfl rfl dX6_takeNumber_36 (fun H locs Y => ?_)
  refine lv_aload_n B.1 B.2.1 dX6_takeNumber_37 rfl (lv_at hl 1 rfl) ?_
  refine lv_dup B.1 B.2.1 dX6_takeNumber_38 rfl ?_
  refine gf_X6_15 B Y 0 rfl rfl dX6_takeNumber_39 ?_
  refine lv_iconst (v := 1) B.1 B.2.1 dX6_takeNumber_42 (by decide) ?_
  refine lv_iadd B.1 B.2.1 dX6_takeNumber_43 ?_
  refine lv_cv (v := 7) (by decide) ?_
  refine pf_X6_15 (ws' := [(rd, .inr (6, [.ref q0, .int 7, .int 0, .int 0, .int 0, .int (-1), .int 0, .ref q1, .ref q2, .ref q3, .ref q4])), (q0, .inl (τ 1, 500, .inl (upd (upd (upd (f) 4 (vp_nar .byte z2)) 5 (vp_nar .byte z4)) 6 (vp_nar .byte z6))))]) B Y 0 rfl (Nat.le_of_ble_eq_true rfl) rfl dX6_takeNumber_44 (fun H locs Y => ?_)
  refine lv_iinc (v := 0) (lv' := [(2, .int 0), (0, .ref rd), (1, .int v)]) B.1 B.2.1 dX6_takeNumber_47 hl (k := 0) rfl (by decide) (by decide) rfl (fun ls hl => ?_)
  refine lv_goto (tgt := 3) B.1 B.2.1 dX6_takeNumber_50 (by decide) ?_
  refine lv_iload_n B.1 B.2.1 dX6_takeNumber_3 rfl (lv_at hl 0 rfl) ?_
  refine lv_if_lt (tgt := 53) B.1 B.2.1 dX6_takeNumber_4 (by decide) (fun h => absurd h (by decide)) (fun _ => ?_)
  refine lv_aload_n B.1 B.2.1 dX6_takeNumber_7 rfl (lv_at hl 1 rfl) ?_
  refine gf_X6_15 B Y 0 rfl rfl dX6_takeNumber_8 ?_
  refine lv_if_lt (tgt := 47) B.1 B.2.1 dX6_takeNumber_11 (by decide) (fun h => absurd h (by decide)) (fun _ => ?_)
  refine lv_aload_n B.1 B.2.1 dX6_takeNumber_14 rfl (lv_at hl 1 rfl) ?_
  refine gf_X6_15 B Y 0 rfl rfl dX6_takeNumber_15 ?_
  refine lv_sipush (v := 500) B.1 B.2.1 dX6_takeNumber_18 (by decide) ?_
  refine lv_icmp_ge (tgt := 47) B.1 B.2.1 dX6_takeNumber_21 (by decide) (fun h => absurd h (by decide)) (fun _ => ?_)
  refine lv_aload_n B.1 B.2.1 dX6_takeNumber_24 rfl (lv_at hl 1 rfl) ?_
  refine gf_X6_11 B Y 0 rfl rfl dX6_takeNumber_25 ?_
  refine lv_aload_n B.1 B.2.1 dX6_takeNumber_28 rfl (lv_at hl 1 rfl) ?_
  refine gf_X6_15 B Y 0 rfl rfl dX6_takeNumber_29 ?_
  refine lv_iload_n B.1 B.2.1 dX6_takeNumber_32 rfl (lv_at hl 2 rfl) ?_
  refine lv_iload_n B.1 B.2.1 dX6_takeNumber_33 rfl (lv_at hl 0 rfl) ?_
  refine lv_ishr B.1 B.2.1 dX6_takeNumber_34 ?_
  refine lv_topi (fun z7 ez7 => ?_)
  refine lv_i2b B.1 B.2.1 dX6_takeNumber_35 rfl ?_
  refine lv_topi (fun z8 ez8 => ?_)
  refine t_bast (j := 7) (g := upd (upd (upd (upd (f) 4 (vp_nar .byte z2)) 5 (vp_nar .byte z4)) 6 (vp_nar .byte z6)) 7 (vp_nar .byte z8)) (ws' := [(rd, .inr (6, [.ref q0, .int 7, .int 0, .int 0, .int 0, .int (-1), .int 0, .ref q1, .ref q2, .ref q3, .ref q4])), (q0, .inl (τ 1, 500, .inl (upd (upd (upd (upd (f) 4 (vp_nar .byte z2)) 5 (vp_nar .byte z4)) 6 (vp_nar .byte z6)) 7 (vp_nar .byte z8))))]) B Y 1 rfl (by decide) (by decide) (Nat.le_of_ble_eq_true rfl) rfl rfl dX6_takeNumber_36 (fun H locs Y => ?_)
  refine lv_aload_n B.1 B.2.1 dX6_takeNumber_37 rfl (lv_at hl 1 rfl) ?_
  refine lv_dup B.1 B.2.1 dX6_takeNumber_38 rfl ?_
  refine gf_X6_15 B Y 0 rfl rfl dX6_takeNumber_39 ?_
  refine lv_iconst (v := 1) B.1 B.2.1 dX6_takeNumber_42 (by decide) ?_
  refine lv_iadd B.1 B.2.1 dX6_takeNumber_43 ?_
  refine lv_cv (v := 8) (by decide) ?_
  refine pf_X6_15 (ws' := [(rd, .inr (6, [.ref q0, .int 8, .int 0, .int 0, .int 0, .int (-1), .int 0, .ref q1, .ref q2, .ref q3, .ref q4])), (q0, .inl (τ 1, 500, .inl (upd (upd (upd (upd (f) 4 (vp_nar .byte z2)) 5 (vp_nar .byte z4)) 6 (vp_nar .byte z6)) 7 (vp_nar .byte z8))))]) B Y 0 rfl (Nat.le_of_ble_eq_true rfl) rfl dX6_takeNumber_44 (fun H locs Y => ?_)
  refine lv_iinc (v := (-8)) (lv' := [(2, .int (-8)), (0, .ref rd), (1, .int v)]) B.1 B.2.1 dX6_takeNumber_47 hl (k := 0) rfl (by decide) (by decide) rfl (fun ls hl => ?_)
  refine lv_goto (tgt := 3) B.1 B.2.1 dX6_takeNumber_50 (by decide) ?_
  refine lv_iload_n B.1 B.2.1 dX6_takeNumber_3 rfl (lv_at hl 0 rfl) ?_
  refine lv_if_lt (tgt := 53) B.1 B.2.1 dX6_takeNumber_4 (by decide) (fun _ => ?_) (fun h => absurd (by decide) h)
  exact endV B hr hlk Y (upd (upd (upd (upd (f) 4 (vp_nar .byte z2)) 5 (vp_nar .byte z4)) 6 (vp_nar .byte z6)) 7 (vp_nar .byte z8)) trivial [0, 1] (by decide) rfl (Nat.le_of_ble_eq_true rfl) (Nat.le_of_ble_eq_true rfl) dX6_takeNumber_53

set_option maxHeartbeats 4000000 in
set_option maxRecDepth 100000 in
theorem k_take8 (l : Launch) (D : va_G) (τ : Nat → ClassId) (sz : Nat) (rd q0 q1 q2 q3 q4 : Nat) (f : Nat → Int32) (v : Int32) : Met l yX6_takeNumber (Cond.code yX6_takeNumber cX6_takeNumber 3 none :: wALL) { frames := 0, cells := 0, slots := 0, locals := 0 } (Pw D τ [(rd, .inr (6, [.ref q0, .int 8, .int 0, .int 0, .int 0, .int (-1), .int 0, .ref q1, .ref q2, .ref q3, .ref q4])), (q0, .inl (τ 1, 500, .inl (f)))] sz [.ref rd, .int v]) (va_Qv (fun (u : Nat → Int32) => True) (Bw D (va_A [(rd, .inr (6, [.ref q0, .int 8, .int 0, .int 0, .int 0, .int (-1), .int 0, .ref q1, .ref q2, .ref q3, .ref q4])), (q0, .inl (τ 1, 500, .inl (f)))] sz) (fun (u : Nat → Int32) => [(rd, .inr (6, [.ref q0, .int 12, .int 0, .int 0, .int 0, .int (-1), .int 0, .ref q1, .ref q2, .ref q3, .ref q4])), (q0, .inl (τ 1, 500, .inl (u)))])) (va_A [(rd, .inr (6, [.ref q0, .int 8, .int 0, .int 0, .int 0, .int (-1), .int 0, .ref q1, .ref q2, .ref q3, .ref q4])), (q0, .inl (τ 1, 500, .inl (f)))] sz)) 0 0 (va_A [(rd, .inr (6, [.ref q0, .int 8, .int 0, .int 0, .int 0, .int (-1), .int 0, .ref q1, .ref q2, .ref q3, .ref q4])), (q0, .inl (τ 1, 500, .inl (f)))] sz) := by
  refine bodyW (by decide) (Nat.le_of_ble_eq_true rfl) (fun p e s m below meth c ls B hr hlk hin hsz Y hl => ?_)
  have hl : lv_has ls 3 [(0, .ref rd), (1, .int v)] := hl
  have B : CallFix p m c cX6_takeNumber 3 s _ wALL RX6 := B
  generalize va_A [(rd, .inr (6, [.ref q0, .int 8, .int 0, .int 0, .int 0, .int (-1), .int 0, .ref q1, .ref q2, .ref q3, .ref q4])), (q0, .inl (τ 1, 500, .inl (f)))] sz = A at Y ⊢
  refine lv_bipush (v := 24) B.1 B.2.1 dX6_takeNumber_0 (by decide) ?_
  refine lv_istore_n (lv' := [(2, .int 24), (0, .ref rd), (1, .int v)]) B.1 B.2.1 dX6_takeNumber_2 rfl hl (by decide) rfl (fun ls hl => ?_)
  refine lv_iload_n B.1 B.2.1 dX6_takeNumber_3 rfl (lv_at hl 0 rfl) ?_
  refine lv_if_lt (tgt := 53) B.1 B.2.1 dX6_takeNumber_4 (by decide) (fun h => absurd h (by decide)) (fun _ => ?_)
  refine lv_aload_n B.1 B.2.1 dX6_takeNumber_7 rfl (lv_at hl 1 rfl) ?_
  refine gf_X6_15 B Y 0 rfl rfl dX6_takeNumber_8 ?_
  refine lv_if_lt (tgt := 47) B.1 B.2.1 dX6_takeNumber_11 (by decide) (fun h => absurd h (by decide)) (fun _ => ?_)
  refine lv_aload_n B.1 B.2.1 dX6_takeNumber_14 rfl (lv_at hl 1 rfl) ?_
  refine gf_X6_15 B Y 0 rfl rfl dX6_takeNumber_15 ?_
  refine lv_sipush (v := 500) B.1 B.2.1 dX6_takeNumber_18 (by decide) ?_
  refine lv_icmp_ge (tgt := 47) B.1 B.2.1 dX6_takeNumber_21 (by decide) (fun h => absurd h (by decide)) (fun _ => ?_)
  refine lv_aload_n B.1 B.2.1 dX6_takeNumber_24 rfl (lv_at hl 1 rfl) ?_
  refine gf_X6_11 B Y 0 rfl rfl dX6_takeNumber_25 ?_
  refine lv_aload_n B.1 B.2.1 dX6_takeNumber_28 rfl (lv_at hl 1 rfl) ?_
  refine gf_X6_15 B Y 0 rfl rfl dX6_takeNumber_29 ?_
  refine lv_iload_n B.1 B.2.1 dX6_takeNumber_32 rfl (lv_at hl 2 rfl) ?_
  refine lv_iload_n B.1 B.2.1 dX6_takeNumber_33 rfl (lv_at hl 0 rfl) ?_
  refine lv_ishr B.1 B.2.1 dX6_takeNumber_34 ?_
  refine lv_topi (fun z1 ez1 => ?_)
  refine lv_i2b B.1 B.2.1 dX6_takeNumber_35 rfl ?_
  refine lv_topi (fun z2 ez2 => ?_)
  refine t_bast (j := 8) (g := upd (f) 8 (vp_nar .byte z2)) (ws' := [(rd, .inr (6, [.ref q0, .int 8, .int 0, .int 0, .int 0, .int (-1), .int 0, .ref q1, .ref q2, .ref q3, .ref q4])), (q0, .inl (τ 1, 500, .inl (upd (f) 8 (vp_nar .byte z2))))]) B Y 1 rfl (by decide) (by decide) (Nat.le_of_ble_eq_true rfl) rfl rfl dX6_takeNumber_36 (fun H locs Y => ?_)
  refine lv_aload_n B.1 B.2.1 dX6_takeNumber_37 rfl (lv_at hl 1 rfl) ?_
  refine lv_dup B.1 B.2.1 dX6_takeNumber_38 rfl ?_
  refine gf_X6_15 B Y 0 rfl rfl dX6_takeNumber_39 ?_
  refine lv_iconst (v := 1) B.1 B.2.1 dX6_takeNumber_42 (by decide) ?_
  refine lv_iadd B.1 B.2.1 dX6_takeNumber_43 ?_
  refine lv_cv (v := 9) (by decide) ?_
  refine pf_X6_15 (ws' := [(rd, .inr (6, [.ref q0, .int 9, .int 0, .int 0, .int 0, .int (-1), .int 0, .ref q1, .ref q2, .ref q3, .ref q4])), (q0, .inl (τ 1, 500, .inl (upd (f) 8 (vp_nar .byte z2))))]) B Y 0 rfl (Nat.le_of_ble_eq_true rfl) rfl dX6_takeNumber_44 (fun H locs Y => ?_)
  refine lv_iinc (v := 16) (lv' := [(2, .int 16), (0, .ref rd), (1, .int v)]) B.1 B.2.1 dX6_takeNumber_47 hl (k := 0) rfl (by decide) (by decide) rfl (fun ls hl => ?_)
  refine lv_goto (tgt := 3) B.1 B.2.1 dX6_takeNumber_50 (by decide) ?_
  refine lv_iload_n B.1 B.2.1 dX6_takeNumber_3 rfl (lv_at hl 0 rfl) ?_
  refine lv_if_lt (tgt := 53) B.1 B.2.1 dX6_takeNumber_4 (by decide) (fun h => absurd h (by decide)) (fun _ => ?_)
  refine lv_aload_n B.1 B.2.1 dX6_takeNumber_7 rfl (lv_at hl 1 rfl) ?_
  refine gf_X6_15 B Y 0 rfl rfl dX6_takeNumber_8 ?_
  refine lv_if_lt (tgt := 47) B.1 B.2.1 dX6_takeNumber_11 (by decide) (fun h => absurd h (by decide)) (fun _ => ?_)
  refine lv_aload_n B.1 B.2.1 dX6_takeNumber_14 rfl (lv_at hl 1 rfl) ?_
  refine gf_X6_15 B Y 0 rfl rfl dX6_takeNumber_15 ?_
  refine lv_sipush (v := 500) B.1 B.2.1 dX6_takeNumber_18 (by decide) ?_
  refine lv_icmp_ge (tgt := 47) B.1 B.2.1 dX6_takeNumber_21 (by decide) (fun h => absurd h (by decide)) (fun _ => ?_)
  refine lv_aload_n B.1 B.2.1 dX6_takeNumber_24 rfl (lv_at hl 1 rfl) ?_
  refine gf_X6_11 B Y 0 rfl rfl dX6_takeNumber_25 ?_
  refine lv_aload_n B.1 B.2.1 dX6_takeNumber_28 rfl (lv_at hl 1 rfl) ?_
  refine gf_X6_15 B Y 0 rfl rfl dX6_takeNumber_29 ?_
  refine lv_iload_n B.1 B.2.1 dX6_takeNumber_32 rfl (lv_at hl 2 rfl) ?_
  refine lv_iload_n B.1 B.2.1 dX6_takeNumber_33 rfl (lv_at hl 0 rfl) ?_
  refine lv_ishr B.1 B.2.1 dX6_takeNumber_34 ?_
  refine lv_topi (fun z3 ez3 => ?_)
  refine lv_i2b B.1 B.2.1 dX6_takeNumber_35 rfl ?_
  refine lv_topi (fun z4 ez4 => ?_)
  refine t_bast (j := 9) (g := upd (upd (f) 8 (vp_nar .byte z2)) 9 (vp_nar .byte z4)) (ws' := [(rd, .inr (6, [.ref q0, .int 9, .int 0, .int 0, .int 0, .int (-1), .int 0, .ref q1, .ref q2, .ref q3, .ref q4])), (q0, .inl (τ 1, 500, .inl (upd (upd (f) 8 (vp_nar .byte z2)) 9 (vp_nar .byte z4))))]) B Y 1 rfl (by decide) (by decide) (Nat.le_of_ble_eq_true rfl) rfl rfl dX6_takeNumber_36 (fun H locs Y => ?_)
  refine lv_aload_n B.1 B.2.1 dX6_takeNumber_37 rfl (lv_at hl 1 rfl) ?_
  refine lv_dup B.1 B.2.1 dX6_takeNumber_38 rfl ?_
  refine gf_X6_15 B Y 0 rfl rfl dX6_takeNumber_39 ?_
  refine lv_iconst (v := 1) B.1 B.2.1 dX6_takeNumber_42 (by decide) ?_
  refine lv_iadd B.1 B.2.1 dX6_takeNumber_43 ?_
  refine lv_cv (v := 10) (by decide) ?_
  refine pf_X6_15 (ws' := [(rd, .inr (6, [.ref q0, .int 10, .int 0, .int 0, .int 0, .int (-1), .int 0, .ref q1, .ref q2, .ref q3, .ref q4])), (q0, .inl (τ 1, 500, .inl (upd (upd (f) 8 (vp_nar .byte z2)) 9 (vp_nar .byte z4))))]) B Y 0 rfl (Nat.le_of_ble_eq_true rfl) rfl dX6_takeNumber_44 (fun H locs Y => ?_)
  refine lv_iinc (v := 8) (lv' := [(2, .int 8), (0, .ref rd), (1, .int v)]) B.1 B.2.1 dX6_takeNumber_47 hl (k := 0) rfl (by decide) (by decide) rfl (fun ls hl => ?_)
  refine lv_goto (tgt := 3) B.1 B.2.1 dX6_takeNumber_50 (by decide) ?_
  refine lv_iload_n B.1 B.2.1 dX6_takeNumber_3 rfl (lv_at hl 0 rfl) ?_
  refine lv_if_lt (tgt := 53) B.1 B.2.1 dX6_takeNumber_4 (by decide) (fun h => absurd h (by decide)) (fun _ => ?_)
  refine lv_aload_n B.1 B.2.1 dX6_takeNumber_7 rfl (lv_at hl 1 rfl) ?_
  refine gf_X6_15 B Y 0 rfl rfl dX6_takeNumber_8 ?_
  refine lv_if_lt (tgt := 47) B.1 B.2.1 dX6_takeNumber_11 (by decide) (fun h => absurd h (by decide)) (fun _ => ?_)
  refine lv_aload_n B.1 B.2.1 dX6_takeNumber_14 rfl (lv_at hl 1 rfl) ?_
  refine gf_X6_15 B Y 0 rfl rfl dX6_takeNumber_15 ?_
  refine lv_sipush (v := 500) B.1 B.2.1 dX6_takeNumber_18 (by decide) ?_
  refine lv_icmp_ge (tgt := 47) B.1 B.2.1 dX6_takeNumber_21 (by decide) (fun h => absurd h (by decide)) (fun _ => ?_)
  refine lv_aload_n B.1 B.2.1 dX6_takeNumber_24 rfl (lv_at hl 1 rfl) ?_
  refine gf_X6_11 B Y 0 rfl rfl dX6_takeNumber_25 ?_
  refine lv_aload_n B.1 B.2.1 dX6_takeNumber_28 rfl (lv_at hl 1 rfl) ?_
  refine gf_X6_15 B Y 0 rfl rfl dX6_takeNumber_29 ?_
  refine lv_iload_n B.1 B.2.1 dX6_takeNumber_32 rfl (lv_at hl 2 rfl) ?_
  refine lv_iload_n B.1 B.2.1 dX6_takeNumber_33 rfl (lv_at hl 0 rfl) ?_
  refine lv_ishr B.1 B.2.1 dX6_takeNumber_34 ?_
  refine lv_topi (fun z5 ez5 => ?_)
  refine lv_i2b B.1 B.2.1 dX6_takeNumber_35 rfl ?_
  refine lv_topi (fun z6 ez6 => ?_)
  refine t_bast (j := 10) (g := upd (upd (upd (f) 8 (vp_nar .byte z2)) 9 (vp_nar .byte z4)) 10 (vp_nar .byte z6)) (ws' := [(rd, .inr (6, [.ref q0, .int 10, .int 0, .int 0, .int 0, .int (-1), .int 0, .ref q1, .ref q2, .ref q3, .ref q4])), (q0, .inl (τ 1, 500, .inl (upd (upd (upd (f) 8 (vp_nar .byte z2)) 9 (vp_nar .byte z4)) 10 (vp_nar .byte z6))))]) B Y 1 rfl (by decide) (by decide) (Nat.le_of_ble_eq_true rfl) rfl rfl dX6_takeNumber_36 (fun H locs Y => ?_)
  refine lv_aload_n B.1 B.2.1 dX6_takeNumber_37 rfl (lv_at hl 1 rfl) ?_
  refine lv_dup B.1 B.2.1 dX6_takeNumber_38 rfl ?_
  refine gf_X6_15 B Y 0 rfl rfl dX6_takeNumber_39 ?_
  refine lv_iconst (v := 1) B.1 B.2.1 dX6_takeNumber_42 (by decide) ?_
  refine lv_iadd B.1 B.2.1 dX6_takeNumber_43 ?_
  refine lv_cv (v := 11) (by decide) ?_
  refine pf_X6_15 (ws' := [(rd, .inr (6, [.ref q0, .int 11, .int 0, .int 0, .int 0, .int (-1), .int 0, .ref q1, .ref q2, .ref q3, .ref q4])), (q0, .inl (τ 1, 500, .inl (upd (upd (upd (f) 8 (vp_nar .byte z2)) 9 (vp_nar .byte z4)) 10 (vp_nar .byte z6))))]) B Y 0 rfl (Nat.le_of_ble_eq_true rfl) rfl dX6_takeNumber_44 (fun H locs Y => ?_)
  refine lv_iinc (v := 0) (lv' := [(2, .int 0), (0, .ref rd), (1, .int v)]) B.1 B.2.1 dX6_takeNumber_47 hl (k := 0) rfl (by decide) (by decide) rfl (fun ls hl => ?_)
  refine lv_goto (tgt := 3) B.1 B.2.1 dX6_takeNumber_50 (by decide) ?_
  refine lv_iload_n B.1 B.2.1 dX6_takeNumber_3 rfl (lv_at hl 0 rfl) ?_
  refine lv_if_lt (tgt := 53) B.1 B.2.1 dX6_takeNumber_4 (by decide) (fun h => absurd h (by decide)) (fun _ => ?_)
  refine lv_aload_n B.1 B.2.1 dX6_takeNumber_7 rfl (lv_at hl 1 rfl) ?_
  refine gf_X6_15 B Y 0 rfl rfl dX6_takeNumber_8 ?_
  refine lv_if_lt (tgt := 47) B.1 B.2.1 dX6_takeNumber_11 (by decide) (fun h => absurd h (by decide)) (fun _ => ?_)
  refine lv_aload_n B.1 B.2.1 dX6_takeNumber_14 rfl (lv_at hl 1 rfl) ?_
  refine gf_X6_15 B Y 0 rfl rfl dX6_takeNumber_15 ?_
  refine lv_sipush (v := 500) B.1 B.2.1 dX6_takeNumber_18 (by decide) ?_
  refine lv_icmp_ge (tgt := 47) B.1 B.2.1 dX6_takeNumber_21 (by decide) (fun h => absurd h (by decide)) (fun _ => ?_)
  refine lv_aload_n B.1 B.2.1 dX6_takeNumber_24 rfl (lv_at hl 1 rfl) ?_
  refine gf_X6_11 B Y 0 rfl rfl dX6_takeNumber_25 ?_
  refine lv_aload_n B.1 B.2.1 dX6_takeNumber_28 rfl (lv_at hl 1 rfl) ?_
  refine gf_X6_15 B Y 0 rfl rfl dX6_takeNumber_29 ?_
  refine lv_iload_n B.1 B.2.1 dX6_takeNumber_32 rfl (lv_at hl 2 rfl) ?_
  refine lv_iload_n B.1 B.2.1 dX6_takeNumber_33 rfl (lv_at hl 0 rfl) ?_
  refine lv_ishr B.1 B.2.1 dX6_takeNumber_34 ?_
  refine lv_topi (fun z7 ez7 => ?_)
  refine lv_i2b B.1 B.2.1 dX6_takeNumber_35 rfl ?_
  refine lv_topi (fun z8 ez8 => ?_)
  refine t_bast (j := 11) (g := upd (upd (upd (upd (f) 8 (vp_nar .byte z2)) 9 (vp_nar .byte z4)) 10 (vp_nar .byte z6)) 11 (vp_nar .byte z8)) (ws' := [(rd, .inr (6, [.ref q0, .int 11, .int 0, .int 0, .int 0, .int (-1), .int 0, .ref q1, .ref q2, .ref q3, .ref q4])), (q0, .inl (τ 1, 500, .inl (upd (upd (upd (upd (f) 8 (vp_nar .byte z2)) 9 (vp_nar .byte z4)) 10 (vp_nar .byte z6)) 11 (vp_nar .byte z8))))]) B Y 1 rfl (by decide) (by decide) (Nat.le_of_ble_eq_true rfl) rfl rfl dX6_takeNumber_36 (fun H locs Y => ?_)
  refine lv_aload_n B.1 B.2.1 dX6_takeNumber_37 rfl (lv_at hl 1 rfl) ?_
  refine lv_dup B.1 B.2.1 dX6_takeNumber_38 rfl ?_
  refine gf_X6_15 B Y 0 rfl rfl dX6_takeNumber_39 ?_
  refine lv_iconst (v := 1) B.1 B.2.1 dX6_takeNumber_42 (by decide) ?_
  refine lv_iadd B.1 B.2.1 dX6_takeNumber_43 ?_
  refine lv_cv (v := 12) (by decide) ?_
  refine pf_X6_15 (ws' := [(rd, .inr (6, [.ref q0, .int 12, .int 0, .int 0, .int 0, .int (-1), .int 0, .ref q1, .ref q2, .ref q3, .ref q4])), (q0, .inl (τ 1, 500, .inl (upd (upd (upd (upd (f) 8 (vp_nar .byte z2)) 9 (vp_nar .byte z4)) 10 (vp_nar .byte z6)) 11 (vp_nar .byte z8))))]) B Y 0 rfl (Nat.le_of_ble_eq_true rfl) rfl dX6_takeNumber_44 (fun H locs Y => ?_)
  refine lv_iinc (v := (-8)) (lv' := [(2, .int (-8)), (0, .ref rd), (1, .int v)]) B.1 B.2.1 dX6_takeNumber_47 hl (k := 0) rfl (by decide) (by decide) rfl (fun ls hl => ?_)
  refine lv_goto (tgt := 3) B.1 B.2.1 dX6_takeNumber_50 (by decide) ?_
  refine lv_iload_n B.1 B.2.1 dX6_takeNumber_3 rfl (lv_at hl 0 rfl) ?_
  refine lv_if_lt (tgt := 53) B.1 B.2.1 dX6_takeNumber_4 (by decide) (fun _ => ?_) (fun h => absurd (by decide) h)
  exact endV B hr hlk Y (upd (upd (upd (upd (f) 8 (vp_nar .byte z2)) 9 (vp_nar .byte z4)) 10 (vp_nar .byte z6)) 11 (vp_nar .byte z8)) trivial [0, 1] (by decide) rfl (Nat.le_of_ble_eq_true rfl) (Nat.le_of_ble_eq_true rfl) dX6_takeNumber_53

set_option maxHeartbeats 4000000 in
set_option maxRecDepth 100000 in
theorem k_take12 (l : Launch) (D : va_G) (τ : Nat → ClassId) (sz : Nat) (rd q0 q1 q2 q3 q4 : Nat) (f : Nat → Int32) (v : Int32) : Met l yX6_takeNumber (Cond.code yX6_takeNumber cX6_takeNumber 3 none :: wALL) { frames := 0, cells := 0, slots := 0, locals := 0 } (Pw D τ [(rd, .inr (6, [.ref q0, .int 12, .int 0, .int 0, .int 0, .int (-1), .int 0, .ref q1, .ref q2, .ref q3, .ref q4])), (q0, .inl (τ 1, 500, .inl (f)))] sz [.ref rd, .int v]) (va_Qv (fun (u : Nat → Int32) => True) (Bw D (va_A [(rd, .inr (6, [.ref q0, .int 12, .int 0, .int 0, .int 0, .int (-1), .int 0, .ref q1, .ref q2, .ref q3, .ref q4])), (q0, .inl (τ 1, 500, .inl (f)))] sz) (fun (u : Nat → Int32) => [(rd, .inr (6, [.ref q0, .int 16, .int 0, .int 0, .int 0, .int (-1), .int 0, .ref q1, .ref q2, .ref q3, .ref q4])), (q0, .inl (τ 1, 500, .inl (u)))])) (va_A [(rd, .inr (6, [.ref q0, .int 12, .int 0, .int 0, .int 0, .int (-1), .int 0, .ref q1, .ref q2, .ref q3, .ref q4])), (q0, .inl (τ 1, 500, .inl (f)))] sz)) 0 0 (va_A [(rd, .inr (6, [.ref q0, .int 12, .int 0, .int 0, .int 0, .int (-1), .int 0, .ref q1, .ref q2, .ref q3, .ref q4])), (q0, .inl (τ 1, 500, .inl (f)))] sz) := by
  refine bodyW (by decide) (Nat.le_of_ble_eq_true rfl) (fun p e s m below meth c ls B hr hlk hin hsz Y hl => ?_)
  have hl : lv_has ls 3 [(0, .ref rd), (1, .int v)] := hl
  have B : CallFix p m c cX6_takeNumber 3 s _ wALL RX6 := B
  generalize va_A [(rd, .inr (6, [.ref q0, .int 12, .int 0, .int 0, .int 0, .int (-1), .int 0, .ref q1, .ref q2, .ref q3, .ref q4])), (q0, .inl (τ 1, 500, .inl (f)))] sz = A at Y ⊢
  refine lv_bipush (v := 24) B.1 B.2.1 dX6_takeNumber_0 (by decide) ?_
  refine lv_istore_n (lv' := [(2, .int 24), (0, .ref rd), (1, .int v)]) B.1 B.2.1 dX6_takeNumber_2 rfl hl (by decide) rfl (fun ls hl => ?_)
  refine lv_iload_n B.1 B.2.1 dX6_takeNumber_3 rfl (lv_at hl 0 rfl) ?_
  refine lv_if_lt (tgt := 53) B.1 B.2.1 dX6_takeNumber_4 (by decide) (fun h => absurd h (by decide)) (fun _ => ?_)
  refine lv_aload_n B.1 B.2.1 dX6_takeNumber_7 rfl (lv_at hl 1 rfl) ?_
  refine gf_X6_15 B Y 0 rfl rfl dX6_takeNumber_8 ?_
  refine lv_if_lt (tgt := 47) B.1 B.2.1 dX6_takeNumber_11 (by decide) (fun h => absurd h (by decide)) (fun _ => ?_)
  refine lv_aload_n B.1 B.2.1 dX6_takeNumber_14 rfl (lv_at hl 1 rfl) ?_
  refine gf_X6_15 B Y 0 rfl rfl dX6_takeNumber_15 ?_
  refine lv_sipush (v := 500) B.1 B.2.1 dX6_takeNumber_18 (by decide) ?_
  refine lv_icmp_ge (tgt := 47) B.1 B.2.1 dX6_takeNumber_21 (by decide) (fun h => absurd h (by decide)) (fun _ => ?_)
  refine lv_aload_n B.1 B.2.1 dX6_takeNumber_24 rfl (lv_at hl 1 rfl) ?_
  refine gf_X6_11 B Y 0 rfl rfl dX6_takeNumber_25 ?_
  refine lv_aload_n B.1 B.2.1 dX6_takeNumber_28 rfl (lv_at hl 1 rfl) ?_
  refine gf_X6_15 B Y 0 rfl rfl dX6_takeNumber_29 ?_
  refine lv_iload_n B.1 B.2.1 dX6_takeNumber_32 rfl (lv_at hl 2 rfl) ?_
  refine lv_iload_n B.1 B.2.1 dX6_takeNumber_33 rfl (lv_at hl 0 rfl) ?_
  refine lv_ishr B.1 B.2.1 dX6_takeNumber_34 ?_
  refine lv_topi (fun z1 ez1 => ?_)
  refine lv_i2b B.1 B.2.1 dX6_takeNumber_35 rfl ?_
  refine lv_topi (fun z2 ez2 => ?_)
  refine t_bast (j := 12) (g := upd (f) 12 (vp_nar .byte z2)) (ws' := [(rd, .inr (6, [.ref q0, .int 12, .int 0, .int 0, .int 0, .int (-1), .int 0, .ref q1, .ref q2, .ref q3, .ref q4])), (q0, .inl (τ 1, 500, .inl (upd (f) 12 (vp_nar .byte z2))))]) B Y 1 rfl (by decide) (by decide) (Nat.le_of_ble_eq_true rfl) rfl rfl dX6_takeNumber_36 (fun H locs Y => ?_)
  refine lv_aload_n B.1 B.2.1 dX6_takeNumber_37 rfl (lv_at hl 1 rfl) ?_
  refine lv_dup B.1 B.2.1 dX6_takeNumber_38 rfl ?_
  refine gf_X6_15 B Y 0 rfl rfl dX6_takeNumber_39 ?_
  refine lv_iconst (v := 1) B.1 B.2.1 dX6_takeNumber_42 (by decide) ?_
  refine lv_iadd B.1 B.2.1 dX6_takeNumber_43 ?_
  refine lv_cv (v := 13) (by decide) ?_
  refine pf_X6_15 (ws' := [(rd, .inr (6, [.ref q0, .int 13, .int 0, .int 0, .int 0, .int (-1), .int 0, .ref q1, .ref q2, .ref q3, .ref q4])), (q0, .inl (τ 1, 500, .inl (upd (f) 12 (vp_nar .byte z2))))]) B Y 0 rfl (Nat.le_of_ble_eq_true rfl) rfl dX6_takeNumber_44 (fun H locs Y => ?_)
  refine lv_iinc (v := 16) (lv' := [(2, .int 16), (0, .ref rd), (1, .int v)]) B.1 B.2.1 dX6_takeNumber_47 hl (k := 0) rfl (by decide) (by decide) rfl (fun ls hl => ?_)
  refine lv_goto (tgt := 3) B.1 B.2.1 dX6_takeNumber_50 (by decide) ?_
  refine lv_iload_n B.1 B.2.1 dX6_takeNumber_3 rfl (lv_at hl 0 rfl) ?_
  refine lv_if_lt (tgt := 53) B.1 B.2.1 dX6_takeNumber_4 (by decide) (fun h => absurd h (by decide)) (fun _ => ?_)
  refine lv_aload_n B.1 B.2.1 dX6_takeNumber_7 rfl (lv_at hl 1 rfl) ?_
  refine gf_X6_15 B Y 0 rfl rfl dX6_takeNumber_8 ?_
  refine lv_if_lt (tgt := 47) B.1 B.2.1 dX6_takeNumber_11 (by decide) (fun h => absurd h (by decide)) (fun _ => ?_)
  refine lv_aload_n B.1 B.2.1 dX6_takeNumber_14 rfl (lv_at hl 1 rfl) ?_
  refine gf_X6_15 B Y 0 rfl rfl dX6_takeNumber_15 ?_
  refine lv_sipush (v := 500) B.1 B.2.1 dX6_takeNumber_18 (by decide) ?_
  refine lv_icmp_ge (tgt := 47) B.1 B.2.1 dX6_takeNumber_21 (by decide) (fun h => absurd h (by decide)) (fun _ => ?_)
  refine lv_aload_n B.1 B.2.1 dX6_takeNumber_24 rfl (lv_at hl 1 rfl) ?_
  refine gf_X6_11 B Y 0 rfl rfl dX6_takeNumber_25 ?_
  refine lv_aload_n B.1 B.2.1 dX6_takeNumber_28 rfl (lv_at hl 1 rfl) ?_
  refine gf_X6_15 B Y 0 rfl rfl dX6_takeNumber_29 ?_
  refine lv_iload_n B.1 B.2.1 dX6_takeNumber_32 rfl (lv_at hl 2 rfl) ?_
  refine lv_iload_n B.1 B.2.1 dX6_takeNumber_33 rfl (lv_at hl 0 rfl) ?_
  refine lv_ishr B.1 B.2.1 dX6_takeNumber_34 ?_
  refine lv_topi (fun z3 ez3 => ?_)
  refine lv_i2b B.1 B.2.1 dX6_takeNumber_35 rfl ?_
  refine lv_topi (fun z4 ez4 => ?_)
  refine t_bast (j := 13) (g := upd (upd (f) 12 (vp_nar .byte z2)) 13 (vp_nar .byte z4)) (ws' := [(rd, .inr (6, [.ref q0, .int 13, .int 0, .int 0, .int 0, .int (-1), .int 0, .ref q1, .ref q2, .ref q3, .ref q4])), (q0, .inl (τ 1, 500, .inl (upd (upd (f) 12 (vp_nar .byte z2)) 13 (vp_nar .byte z4))))]) B Y 1 rfl (by decide) (by decide) (Nat.le_of_ble_eq_true rfl) rfl rfl dX6_takeNumber_36 (fun H locs Y => ?_)
  refine lv_aload_n B.1 B.2.1 dX6_takeNumber_37 rfl (lv_at hl 1 rfl) ?_
  refine lv_dup B.1 B.2.1 dX6_takeNumber_38 rfl ?_
  refine gf_X6_15 B Y 0 rfl rfl dX6_takeNumber_39 ?_
  refine lv_iconst (v := 1) B.1 B.2.1 dX6_takeNumber_42 (by decide) ?_
  refine lv_iadd B.1 B.2.1 dX6_takeNumber_43 ?_
  refine lv_cv (v := 14) (by decide) ?_
  refine pf_X6_15 (ws' := [(rd, .inr (6, [.ref q0, .int 14, .int 0, .int 0, .int 0, .int (-1), .int 0, .ref q1, .ref q2, .ref q3, .ref q4])), (q0, .inl (τ 1, 500, .inl (upd (upd (f) 12 (vp_nar .byte z2)) 13 (vp_nar .byte z4))))]) B Y 0 rfl (Nat.le_of_ble_eq_true rfl) rfl dX6_takeNumber_44 (fun H locs Y => ?_)
  refine lv_iinc (v := 8) (lv' := [(2, .int 8), (0, .ref rd), (1, .int v)]) B.1 B.2.1 dX6_takeNumber_47 hl (k := 0) rfl (by decide) (by decide) rfl (fun ls hl => ?_)
  refine lv_goto (tgt := 3) B.1 B.2.1 dX6_takeNumber_50 (by decide) ?_
  refine lv_iload_n B.1 B.2.1 dX6_takeNumber_3 rfl (lv_at hl 0 rfl) ?_
  refine lv_if_lt (tgt := 53) B.1 B.2.1 dX6_takeNumber_4 (by decide) (fun h => absurd h (by decide)) (fun _ => ?_)
  refine lv_aload_n B.1 B.2.1 dX6_takeNumber_7 rfl (lv_at hl 1 rfl) ?_
  refine gf_X6_15 B Y 0 rfl rfl dX6_takeNumber_8 ?_
  refine lv_if_lt (tgt := 47) B.1 B.2.1 dX6_takeNumber_11 (by decide) (fun h => absurd h (by decide)) (fun _ => ?_)
  refine lv_aload_n B.1 B.2.1 dX6_takeNumber_14 rfl (lv_at hl 1 rfl) ?_
  refine gf_X6_15 B Y 0 rfl rfl dX6_takeNumber_15 ?_
  refine lv_sipush (v := 500) B.1 B.2.1 dX6_takeNumber_18 (by decide) ?_
  refine lv_icmp_ge (tgt := 47) B.1 B.2.1 dX6_takeNumber_21 (by decide) (fun h => absurd h (by decide)) (fun _ => ?_)
  refine lv_aload_n B.1 B.2.1 dX6_takeNumber_24 rfl (lv_at hl 1 rfl) ?_
  refine gf_X6_11 B Y 0 rfl rfl dX6_takeNumber_25 ?_
  refine lv_aload_n B.1 B.2.1 dX6_takeNumber_28 rfl (lv_at hl 1 rfl) ?_
  refine gf_X6_15 B Y 0 rfl rfl dX6_takeNumber_29 ?_
  refine lv_iload_n B.1 B.2.1 dX6_takeNumber_32 rfl (lv_at hl 2 rfl) ?_
  refine lv_iload_n B.1 B.2.1 dX6_takeNumber_33 rfl (lv_at hl 0 rfl) ?_
  refine lv_ishr B.1 B.2.1 dX6_takeNumber_34 ?_
  refine lv_topi (fun z5 ez5 => ?_)
  refine lv_i2b B.1 B.2.1 dX6_takeNumber_35 rfl ?_
  refine lv_topi (fun z6 ez6 => ?_)
  refine t_bast (j := 14) (g := upd (upd (upd (f) 12 (vp_nar .byte z2)) 13 (vp_nar .byte z4)) 14 (vp_nar .byte z6)) (ws' := [(rd, .inr (6, [.ref q0, .int 14, .int 0, .int 0, .int 0, .int (-1), .int 0, .ref q1, .ref q2, .ref q3, .ref q4])), (q0, .inl (τ 1, 500, .inl (upd (upd (upd (f) 12 (vp_nar .byte z2)) 13 (vp_nar .byte z4)) 14 (vp_nar .byte z6))))]) B Y 1 rfl (by decide) (by decide) (Nat.le_of_ble_eq_true rfl) rfl rfl dX6_takeNumber_36 (fun H locs Y => ?_)
  refine lv_aload_n B.1 B.2.1 dX6_takeNumber_37 rfl (lv_at hl 1 rfl) ?_
  refine lv_dup B.1 B.2.1 dX6_takeNumber_38 rfl ?_
  refine gf_X6_15 B Y 0 rfl rfl dX6_takeNumber_39 ?_
  refine lv_iconst (v := 1) B.1 B.2.1 dX6_takeNumber_42 (by decide) ?_
  refine lv_iadd B.1 B.2.1 dX6_takeNumber_43 ?_
  refine lv_cv (v := 15) (by decide) ?_
  refine pf_X6_15 (ws' := [(rd, .inr (6, [.ref q0, .int 15, .int 0, .int 0, .int 0, .int (-1), .int 0, .ref q1, .ref q2, .ref q3, .ref q4])), (q0, .inl (τ 1, 500, .inl (upd (upd (upd (f) 12 (vp_nar .byte z2)) 13 (vp_nar .byte z4)) 14 (vp_nar .byte z6))))]) B Y 0 rfl (Nat.le_of_ble_eq_true rfl) rfl dX6_takeNumber_44 (fun H locs Y => ?_)
  refine lv_iinc (v := 0) (lv' := [(2, .int 0), (0, .ref rd), (1, .int v)]) B.1 B.2.1 dX6_takeNumber_47 hl (k := 0) rfl (by decide) (by decide) rfl (fun ls hl => ?_)
  refine lv_goto (tgt := 3) B.1 B.2.1 dX6_takeNumber_50 (by decide) ?_
  refine lv_iload_n B.1 B.2.1 dX6_takeNumber_3 rfl (lv_at hl 0 rfl) ?_
  refine lv_if_lt (tgt := 53) B.1 B.2.1 dX6_takeNumber_4 (by decide) (fun h => absurd h (by decide)) (fun _ => ?_)
  refine lv_aload_n B.1 B.2.1 dX6_takeNumber_7 rfl (lv_at hl 1 rfl) ?_
  refine gf_X6_15 B Y 0 rfl rfl dX6_takeNumber_8 ?_
  refine lv_if_lt (tgt := 47) B.1 B.2.1 dX6_takeNumber_11 (by decide) (fun h => absurd h (by decide)) (fun _ => ?_)
  refine lv_aload_n B.1 B.2.1 dX6_takeNumber_14 rfl (lv_at hl 1 rfl) ?_
  refine gf_X6_15 B Y 0 rfl rfl dX6_takeNumber_15 ?_
  refine lv_sipush (v := 500) B.1 B.2.1 dX6_takeNumber_18 (by decide) ?_
  refine lv_icmp_ge (tgt := 47) B.1 B.2.1 dX6_takeNumber_21 (by decide) (fun h => absurd h (by decide)) (fun _ => ?_)
  refine lv_aload_n B.1 B.2.1 dX6_takeNumber_24 rfl (lv_at hl 1 rfl) ?_
  refine gf_X6_11 B Y 0 rfl rfl dX6_takeNumber_25 ?_
  refine lv_aload_n B.1 B.2.1 dX6_takeNumber_28 rfl (lv_at hl 1 rfl) ?_
  refine gf_X6_15 B Y 0 rfl rfl dX6_takeNumber_29 ?_
  refine lv_iload_n B.1 B.2.1 dX6_takeNumber_32 rfl (lv_at hl 2 rfl) ?_
  refine lv_iload_n B.1 B.2.1 dX6_takeNumber_33 rfl (lv_at hl 0 rfl) ?_
  refine lv_ishr B.1 B.2.1 dX6_takeNumber_34 ?_
  refine lv_topi (fun z7 ez7 => ?_)
  refine lv_i2b B.1 B.2.1 dX6_takeNumber_35 rfl ?_
  refine lv_topi (fun z8 ez8 => ?_)
  refine t_bast (j := 15) (g := upd (upd (upd (upd (f) 12 (vp_nar .byte z2)) 13 (vp_nar .byte z4)) 14 (vp_nar .byte z6)) 15 (vp_nar .byte z8)) (ws' := [(rd, .inr (6, [.ref q0, .int 15, .int 0, .int 0, .int 0, .int (-1), .int 0, .ref q1, .ref q2, .ref q3, .ref q4])), (q0, .inl (τ 1, 500, .inl (upd (upd (upd (upd (f) 12 (vp_nar .byte z2)) 13 (vp_nar .byte z4)) 14 (vp_nar .byte z6)) 15 (vp_nar .byte z8))))]) B Y 1 rfl (by decide) (by decide) (Nat.le_of_ble_eq_true rfl) rfl rfl dX6_takeNumber_36 (fun H locs Y => ?_)
  refine lv_aload_n B.1 B.2.1 dX6_takeNumber_37 rfl (lv_at hl 1 rfl) ?_
  refine lv_dup B.1 B.2.1 dX6_takeNumber_38 rfl ?_
  refine gf_X6_15 B Y 0 rfl rfl dX6_takeNumber_39 ?_
  refine lv_iconst (v := 1) B.1 B.2.1 dX6_takeNumber_42 (by decide) ?_
  refine lv_iadd B.1 B.2.1 dX6_takeNumber_43 ?_
  refine lv_cv (v := 16) (by decide) ?_
  refine pf_X6_15 (ws' := [(rd, .inr (6, [.ref q0, .int 16, .int 0, .int 0, .int 0, .int (-1), .int 0, .ref q1, .ref q2, .ref q3, .ref q4])), (q0, .inl (τ 1, 500, .inl (upd (upd (upd (upd (f) 12 (vp_nar .byte z2)) 13 (vp_nar .byte z4)) 14 (vp_nar .byte z6)) 15 (vp_nar .byte z8))))]) B Y 0 rfl (Nat.le_of_ble_eq_true rfl) rfl dX6_takeNumber_44 (fun H locs Y => ?_)
  refine lv_iinc (v := (-8)) (lv' := [(2, .int (-8)), (0, .ref rd), (1, .int v)]) B.1 B.2.1 dX6_takeNumber_47 hl (k := 0) rfl (by decide) (by decide) rfl (fun ls hl => ?_)
  refine lv_goto (tgt := 3) B.1 B.2.1 dX6_takeNumber_50 (by decide) ?_
  refine lv_iload_n B.1 B.2.1 dX6_takeNumber_3 rfl (lv_at hl 0 rfl) ?_
  refine lv_if_lt (tgt := 53) B.1 B.2.1 dX6_takeNumber_4 (by decide) (fun _ => ?_) (fun h => absurd (by decide) h)
  exact endV B hr hlk Y (upd (upd (upd (upd (f) 12 (vp_nar .byte z2)) 13 (vp_nar .byte z4)) 14 (vp_nar .byte z6)) 15 (vp_nar .byte z8)) trivial [0, 1] (by decide) rfl (Nat.le_of_ble_eq_true rfl) (Nat.le_of_ble_eq_true rfl) dX6_takeNumber_53

set_option maxHeartbeats 4000000 in
set_option maxRecDepth 100000 in
theorem k_take16 (l : Launch) (D : va_G) (τ : Nat → ClassId) (sz : Nat) (rd q0 q1 q2 q3 q4 : Nat) (f : Nat → Int32) (v : Int32) : Met l yX6_takeNumber (Cond.code yX6_takeNumber cX6_takeNumber 3 none :: wALL) { frames := 0, cells := 0, slots := 0, locals := 0 } (Pw D τ [(rd, .inr (6, [.ref q0, .int 16, .int 0, .int 0, .int 0, .int (-1), .int 0, .ref q1, .ref q2, .ref q3, .ref q4])), (q0, .inl (τ 1, 500, .inl (f)))] sz [.ref rd, .int v]) (va_Qv (fun (u : Nat → Int32) => True) (Bw D (va_A [(rd, .inr (6, [.ref q0, .int 16, .int 0, .int 0, .int 0, .int (-1), .int 0, .ref q1, .ref q2, .ref q3, .ref q4])), (q0, .inl (τ 1, 500, .inl (f)))] sz) (fun (u : Nat → Int32) => [(rd, .inr (6, [.ref q0, .int 20, .int 0, .int 0, .int 0, .int (-1), .int 0, .ref q1, .ref q2, .ref q3, .ref q4])), (q0, .inl (τ 1, 500, .inl (u)))])) (va_A [(rd, .inr (6, [.ref q0, .int 16, .int 0, .int 0, .int 0, .int (-1), .int 0, .ref q1, .ref q2, .ref q3, .ref q4])), (q0, .inl (τ 1, 500, .inl (f)))] sz)) 0 0 (va_A [(rd, .inr (6, [.ref q0, .int 16, .int 0, .int 0, .int 0, .int (-1), .int 0, .ref q1, .ref q2, .ref q3, .ref q4])), (q0, .inl (τ 1, 500, .inl (f)))] sz) := by
  refine bodyW (by decide) (Nat.le_of_ble_eq_true rfl) (fun p e s m below meth c ls B hr hlk hin hsz Y hl => ?_)
  have hl : lv_has ls 3 [(0, .ref rd), (1, .int v)] := hl
  have B : CallFix p m c cX6_takeNumber 3 s _ wALL RX6 := B
  generalize va_A [(rd, .inr (6, [.ref q0, .int 16, .int 0, .int 0, .int 0, .int (-1), .int 0, .ref q1, .ref q2, .ref q3, .ref q4])), (q0, .inl (τ 1, 500, .inl (f)))] sz = A at Y ⊢
  refine lv_bipush (v := 24) B.1 B.2.1 dX6_takeNumber_0 (by decide) ?_
  refine lv_istore_n (lv' := [(2, .int 24), (0, .ref rd), (1, .int v)]) B.1 B.2.1 dX6_takeNumber_2 rfl hl (by decide) rfl (fun ls hl => ?_)
  refine lv_iload_n B.1 B.2.1 dX6_takeNumber_3 rfl (lv_at hl 0 rfl) ?_
  refine lv_if_lt (tgt := 53) B.1 B.2.1 dX6_takeNumber_4 (by decide) (fun h => absurd h (by decide)) (fun _ => ?_)
  refine lv_aload_n B.1 B.2.1 dX6_takeNumber_7 rfl (lv_at hl 1 rfl) ?_
  refine gf_X6_15 B Y 0 rfl rfl dX6_takeNumber_8 ?_
  refine lv_if_lt (tgt := 47) B.1 B.2.1 dX6_takeNumber_11 (by decide) (fun h => absurd h (by decide)) (fun _ => ?_)
  refine lv_aload_n B.1 B.2.1 dX6_takeNumber_14 rfl (lv_at hl 1 rfl) ?_
  refine gf_X6_15 B Y 0 rfl rfl dX6_takeNumber_15 ?_
  refine lv_sipush (v := 500) B.1 B.2.1 dX6_takeNumber_18 (by decide) ?_
  refine lv_icmp_ge (tgt := 47) B.1 B.2.1 dX6_takeNumber_21 (by decide) (fun h => absurd h (by decide)) (fun _ => ?_)
  refine lv_aload_n B.1 B.2.1 dX6_takeNumber_24 rfl (lv_at hl 1 rfl) ?_
  refine gf_X6_11 B Y 0 rfl rfl dX6_takeNumber_25 ?_
  refine lv_aload_n B.1 B.2.1 dX6_takeNumber_28 rfl (lv_at hl 1 rfl) ?_
  refine gf_X6_15 B Y 0 rfl rfl dX6_takeNumber_29 ?_
  refine lv_iload_n B.1 B.2.1 dX6_takeNumber_32 rfl (lv_at hl 2 rfl) ?_
  refine lv_iload_n B.1 B.2.1 dX6_takeNumber_33 rfl (lv_at hl 0 rfl) ?_
  refine lv_ishr B.1 B.2.1 dX6_takeNumber_34 ?_
  refine lv_topi (fun z1 ez1 => ?_)
  refine lv_i2b B.1 B.2.1 dX6_takeNumber_35 rfl ?_
  refine lv_topi (fun z2 ez2 => ?_)
  refine t_bast (j := 16) (g := upd (f) 16 (vp_nar .byte z2)) (ws' := [(rd, .inr (6, [.ref q0, .int 16, .int 0, .int 0, .int 0, .int (-1), .int 0, .ref q1, .ref q2, .ref q3, .ref q4])), (q0, .inl (τ 1, 500, .inl (upd (f) 16 (vp_nar .byte z2))))]) B Y 1 rfl (by decide) (by decide) (Nat.le_of_ble_eq_true rfl) rfl rfl dX6_takeNumber_36 (fun H locs Y => ?_)
  refine lv_aload_n B.1 B.2.1 dX6_takeNumber_37 rfl (lv_at hl 1 rfl) ?_
  refine lv_dup B.1 B.2.1 dX6_takeNumber_38 rfl ?_
  refine gf_X6_15 B Y 0 rfl rfl dX6_takeNumber_39 ?_
  refine lv_iconst (v := 1) B.1 B.2.1 dX6_takeNumber_42 (by decide) ?_
  refine lv_iadd B.1 B.2.1 dX6_takeNumber_43 ?_
  refine lv_cv (v := 17) (by decide) ?_
  refine pf_X6_15 (ws' := [(rd, .inr (6, [.ref q0, .int 17, .int 0, .int 0, .int 0, .int (-1), .int 0, .ref q1, .ref q2, .ref q3, .ref q4])), (q0, .inl (τ 1, 500, .inl (upd (f) 16 (vp_nar .byte z2))))]) B Y 0 rfl (Nat.le_of_ble_eq_true rfl) rfl dX6_takeNumber_44 (fun H locs Y => ?_)
  refine lv_iinc (v := 16) (lv' := [(2, .int 16), (0, .ref rd), (1, .int v)]) B.1 B.2.1 dX6_takeNumber_47 hl (k := 0) rfl (by decide) (by decide) rfl (fun ls hl => ?_)
  refine lv_goto (tgt := 3) B.1 B.2.1 dX6_takeNumber_50 (by decide) ?_
  refine lv_iload_n B.1 B.2.1 dX6_takeNumber_3 rfl (lv_at hl 0 rfl) ?_
  refine lv_if_lt (tgt := 53) B.1 B.2.1 dX6_takeNumber_4 (by decide) (fun h => absurd h (by decide)) (fun _ => ?_)
  refine lv_aload_n B.1 B.2.1 dX6_takeNumber_7 rfl (lv_at hl 1 rfl) ?_
  refine gf_X6_15 B Y 0 rfl rfl dX6_takeNumber_8 ?_
  refine lv_if_lt (tgt := 47) B.1 B.2.1 dX6_takeNumber_11 (by decide) (fun h => absurd h (by decide)) (fun _ => ?_)
  refine lv_aload_n B.1 B.2.1 dX6_takeNumber_14 rfl (lv_at hl 1 rfl) ?_
  refine gf_X6_15 B Y 0 rfl rfl dX6_takeNumber_15 ?_
  refine lv_sipush (v := 500) B.1 B.2.1 dX6_takeNumber_18 (by decide) ?_
  refine lv_icmp_ge (tgt := 47) B.1 B.2.1 dX6_takeNumber_21 (by decide) (fun h => absurd h (by decide)) (fun _ => ?_)
  refine lv_aload_n B.1 B.2.1 dX6_takeNumber_24 rfl (lv_at hl 1 rfl) ?_
  refine gf_X6_11 B Y 0 rfl rfl dX6_takeNumber_25 ?_
  refine lv_aload_n B.1 B.2.1 dX6_takeNumber_28 rfl (lv_at hl 1 rfl) ?_
  refine gf_X6_15 B Y 0 rfl rfl dX6_takeNumber_29 ?_
  refine lv_iload_n B.1 B.2.1 dX6_takeNumber_32 rfl (lv_at hl 2 rfl) ?_
  refine lv_iload_n B.1 B.2.1 dX6_takeNumber_33 rfl (lv_at hl 0 rfl) ?_
  refine lv_ishr B.1 B.2.1 dX6_takeNumber_34 ?_
  refine lv_topi (fun z3 ez3 => ?_)
  refine lv_i2b B.1 B.2.1 dX6_takeNumber_35 rfl ?_
  refine lv_topi (fun z4 ez4 => ?_)
  refine t_bast (j := 17) (g := upd (upd (f) 16 (vp_nar .byte z2)) 17 (vp_nar .byte z4)) (ws' := [(rd, .inr (6, [.ref q0, .int 17, .int 0, .int 0, .int 0, .int (-1), .int 0, .ref q1, .ref q2, .ref q3, .ref q4])), (q0, .inl (τ 1, 500, .inl (upd (upd (f) 16 (vp_nar .byte z2)) 17 (vp_nar .byte z4))))]) B Y 1 rfl (by decide) (by decide) (Nat.le_of_ble_eq_true rfl) rfl rfl dX6_takeNumber_36 (fun H locs Y => ?_)
  refine lv_aload_n B.1 B.2.1 dX6_takeNumber_37 rfl (lv_at hl 1 rfl) ?_
  refine lv_dup B.1 B.2.1 dX6_takeNumber_38 rfl ?_
  refine gf_X6_15 B Y 0 rfl rfl dX6_takeNumber_39 ?_
  refine lv_iconst (v := 1) B.1 B.2.1 dX6_takeNumber_42 (by decide) ?_
  refine lv_iadd B.1 B.2.1 dX6_takeNumber_43 ?_
  refine lv_cv (v := 18) (by decide) ?_
  refine pf_X6_15 (ws' := [(rd, .inr (6, [.ref q0, .int 18, .int 0, .int 0, .int 0, .int (-1), .int 0, .ref q1, .ref q2, .ref q3, .ref q4])), (q0, .inl (τ 1, 500, .inl (upd (upd (f) 16 (vp_nar .byte z2)) 17 (vp_nar .byte z4))))]) B Y 0 rfl (Nat.le_of_ble_eq_true rfl) rfl dX6_takeNumber_44 (fun H locs Y => ?_)
  refine lv_iinc (v := 8) (lv' := [(2, .int 8), (0, .ref rd), (1, .int v)]) B.1 B.2.1 dX6_takeNumber_47 hl (k := 0) rfl (by decide) (by decide) rfl (fun ls hl => ?_)
  refine lv_goto (tgt := 3) B.1 B.2.1 dX6_takeNumber_50 (by decide) ?_
  refine lv_iload_n B.1 B.2.1 dX6_takeNumber_3 rfl (lv_at hl 0 rfl) ?_
  refine lv_if_lt (tgt := 53) B.1 B.2.1 dX6_takeNumber_4 (by decide) (fun h => absurd h (by decide)) (fun _ => ?_)
  refine lv_aload_n B.1 B.2.1 dX6_takeNumber_7 rfl (lv_at hl 1 rfl) ?_
  refine gf_X6_15 B Y 0 rfl rfl dX6_takeNumber_8 ?_
  refine lv_if_lt (tgt := 47) B.1 B.2.1 dX6_takeNumber_11 (by decide) (fun h => absurd h (by decide)) (fun _ => ?_)
  refine lv_aload_n B.1 B.2.1 dX6_takeNumber_14 rfl (lv_at hl 1 rfl) ?_
  refine gf_X6_15 B Y 0 rfl rfl dX6_takeNumber_15 ?_
  refine lv_sipush (v := 500) B.1 B.2.1 dX6_takeNumber_18 (by decide) ?_
  refine lv_icmp_ge (tgt := 47) B.1 B.2.1 dX6_takeNumber_21 (by decide) (fun h => absurd h (by decide)) (fun _ => ?_)
  refine lv_aload_n B.1 B.2.1 dX6_takeNumber_24 rfl (lv_at hl 1 rfl) ?_
  refine gf_X6_11 B Y 0 rfl rfl dX6_takeNumber_25 ?_
  refine lv_aload_n B.1 B.2.1 dX6_takeNumber_28 rfl (lv_at hl 1 rfl) ?_
  refine gf_X6_15 B Y 0 rfl rfl dX6_takeNumber_29 ?_
  refine lv_iload_n B.1 B.2.1 dX6_takeNumber_32 rfl (lv_at hl 2 rfl) ?_
  refine lv_iload_n B.1 B.2.1 dX6_takeNumber_33 rfl (lv_at hl 0 rfl) ?_
  refine lv_ishr B.1 B.2.1 dX6_takeNumber_34 ?_
  refine lv_topi (fun z5 ez5 => ?_)
  refine lv_i2b B.1 B.2.1 dX6_takeNumber_35 rfl ?_
  refine lv_topi (fun z6 ez6 => ?_)
  refine t_bast (j := 18) (g := upd (upd (upd (f) 16 (vp_nar .byte z2)) 17 (vp_nar .byte z4)) 18 (vp_nar .byte z6)) (ws' := [(rd, .inr (6, [.ref q0, .int 18, .int 0, .int 0, .int 0, .int (-1), .int 0, .ref q1, .ref q2, .ref q3, .ref q4])), (q0, .inl (τ 1, 500, .inl (upd (upd (upd (f) 16 (vp_nar .byte z2)) 17 (vp_nar .byte z4)) 18 (vp_nar .byte z6))))]) B Y 1 rfl (by decide) (by decide) (Nat.le_of_ble_eq_true rfl) rfl rfl dX6_takeNumber_36 (fun H locs Y => ?_)
  refine lv_aload_n B.1 B.2.1 dX6_takeNumber_37 rfl (lv_at hl 1 rfl) ?_
  refine lv_dup B.1 B.2.1 dX6_takeNumber_38 rfl ?_
  refine gf_X6_15 B Y 0 rfl rfl dX6_takeNumber_39 ?_
  refine lv_iconst (v := 1) B.1 B.2.1 dX6_takeNumber_42 (by decide) ?_
  refine lv_iadd B.1 B.2.1 dX6_takeNumber_43 ?_
  refine lv_cv (v := 19) (by decide) ?_
  refine pf_X6_15 (ws' := [(rd, .inr (6, [.ref q0, .int 19, .int 0, .int 0, .int 0, .int (-1), .int 0, .ref q1, .ref q2, .ref q3, .ref q4])), (q0, .inl (τ 1, 500, .inl (upd (upd (upd (f) 16 (vp_nar .byte z2)) 17 (vp_nar .byte z4)) 18 (vp_nar .byte z6))))]) B Y 0 rfl (Nat.le_of_ble_eq_true rfl) rfl dX6_takeNumber_44 (fun H locs Y => ?_)
  refine lv_iinc (v := 0) (lv' := [(2, .int 0), (0, .ref rd), (1, .int v)]) B.1 B.2.1 dX6_takeNumber_47 hl (k := 0) rfl (by decide) (by decide) rfl (fun ls hl => ?_)
  refine lv_goto (tgt := 3) B.1 B.2.1 dX6_takeNumber_50 (by decide) ?_
  refine lv_iload_n B.1 B.2.1 dX6_takeNumber_3 rfl (lv_at hl 0 rfl) ?_
  refine lv_if_lt (tgt := 53) B.1 B.2.1 dX6_takeNumber_4 (by decide) (fun h => absurd h (by decide)) (fun _ => ?_)
  refine lv_aload_n B.1 B.2.1 dX6_takeNumber_7 rfl (lv_at hl 1 rfl) ?_
  refine gf_X6_15 B Y 0 rfl rfl dX6_takeNumber_8 ?_
  refine lv_if_lt (tgt := 47) B.1 B.2.1 dX6_takeNumber_11 (by decide) (fun h => absurd h (by decide)) (fun _ => ?_)
  refine lv_aload_n B.1 B.2.1 dX6_takeNumber_14 rfl (lv_at hl 1 rfl) ?_
  refine gf_X6_15 B Y 0 rfl rfl dX6_takeNumber_15 ?_
  refine lv_sipush (v := 500) B.1 B.2.1 dX6_takeNumber_18 (by decide) ?_
  refine lv_icmp_ge (tgt := 47) B.1 B.2.1 dX6_takeNumber_21 (by decide) (fun h => absurd h (by decide)) (fun _ => ?_)
  refine lv_aload_n B.1 B.2.1 dX6_takeNumber_24 rfl (lv_at hl 1 rfl) ?_
  refine gf_X6_11 B Y 0 rfl rfl dX6_takeNumber_25 ?_
  refine lv_aload_n B.1 B.2.1 dX6_takeNumber_28 rfl (lv_at hl 1 rfl) ?_
  refine gf_X6_15 B Y 0 rfl rfl dX6_takeNumber_29 ?_
  refine lv_iload_n B.1 B.2.1 dX6_takeNumber_32 rfl (lv_at hl 2 rfl) ?_
  refine lv_iload_n B.1 B.2.1 dX6_takeNumber_33 rfl (lv_at hl 0 rfl) ?_
  refine lv_ishr B.1 B.2.1 dX6_takeNumber_34 ?_
  refine lv_topi (fun z7 ez7 => ?_)
  refine lv_i2b B.1 B.2.1 dX6_takeNumber_35 rfl ?_
  refine lv_topi (fun z8 ez8 => ?_)
  refine t_bast (j := 19) (g := upd (upd (upd (upd (f) 16 (vp_nar .byte z2)) 17 (vp_nar .byte z4)) 18 (vp_nar .byte z6)) 19 (vp_nar .byte z8)) (ws' := [(rd, .inr (6, [.ref q0, .int 19, .int 0, .int 0, .int 0, .int (-1), .int 0, .ref q1, .ref q2, .ref q3, .ref q4])), (q0, .inl (τ 1, 500, .inl (upd (upd (upd (upd (f) 16 (vp_nar .byte z2)) 17 (vp_nar .byte z4)) 18 (vp_nar .byte z6)) 19 (vp_nar .byte z8))))]) B Y 1 rfl (by decide) (by decide) (Nat.le_of_ble_eq_true rfl) rfl rfl dX6_takeNumber_36 (fun H locs Y => ?_)
  refine lv_aload_n B.1 B.2.1 dX6_takeNumber_37 rfl (lv_at hl 1 rfl) ?_
  refine lv_dup B.1 B.2.1 dX6_takeNumber_38 rfl ?_
  refine gf_X6_15 B Y 0 rfl rfl dX6_takeNumber_39 ?_
  refine lv_iconst (v := 1) B.1 B.2.1 dX6_takeNumber_42 (by decide) ?_
  refine lv_iadd B.1 B.2.1 dX6_takeNumber_43 ?_
  refine lv_cv (v := 20) (by decide) ?_
  refine pf_X6_15 (ws' := [(rd, .inr (6, [.ref q0, .int 20, .int 0, .int 0, .int 0, .int (-1), .int 0, .ref q1, .ref q2, .ref q3, .ref q4])), (q0, .inl (τ 1, 500, .inl (upd (upd (upd (upd (f) 16 (vp_nar .byte z2)) 17 (vp_nar .byte z4)) 18 (vp_nar .byte z6)) 19 (vp_nar .byte z8))))]) B Y 0 rfl (Nat.le_of_ble_eq_true rfl) rfl dX6_takeNumber_44 (fun H locs Y => ?_)
  refine lv_iinc (v := (-8)) (lv' := [(2, .int (-8)), (0, .ref rd), (1, .int v)]) B.1 B.2.1 dX6_takeNumber_47 hl (k := 0) rfl (by decide) (by decide) rfl (fun ls hl => ?_)
  refine lv_goto (tgt := 3) B.1 B.2.1 dX6_takeNumber_50 (by decide) ?_
  refine lv_iload_n B.1 B.2.1 dX6_takeNumber_3 rfl (lv_at hl 0 rfl) ?_
  refine lv_if_lt (tgt := 53) B.1 B.2.1 dX6_takeNumber_4 (by decide) (fun _ => ?_) (fun h => absurd (by decide) h)
  exact endV B hr hlk Y (upd (upd (upd (upd (f) 16 (vp_nar .byte z2)) 17 (vp_nar .byte z4)) 18 (vp_nar .byte z6)) 19 (vp_nar .byte z8)) trivial [0, 1] (by decide) rfl (Nat.le_of_ble_eq_true rfl) (Nat.le_of_ble_eq_true rfl) dX6_takeNumber_53

set_option maxHeartbeats 4000000 in
set_option maxRecDepth 100000 in
theorem m_append (l : Launch) (D : va_G) (τ : Nat → ClassId) (sz : Nat) (x rd q0 q1 q2 q3 q4 tx to bu st pa aL aD aH l0 d0 p0 v0 p1 v1 p2 v2 p3 v3 pk k0 k1 k2 k3 k4 k5 k6 k7 k8 k9 nt n0 n1 n2 ac : Nat) (fL fD fH : Nat → Option Nat) (hS : fL 0 = some l0 ∧ fD 0 = some d0 ∧ fH 0 = some p0 ∧ fH 1 = some p1 ∧ fH 2 = some p2 ∧ fH 3 = some p3) (y0 y1 y2 y3 y4 : Int32) : Met l yX9_append (Cond.code yX9_append cX9_append 6 (some .int) :: wALL) { frames := 1, cells := 0, slots := 0, locals := 22 } (Pw D τ [(x, .inr (9, [.ref rd, .ref tx, .ref bu, .ref st, .ref pa, .int 0, .int 0, .null, .null])), (rd, .inr (6, [.ref q0, .int 0, .int 0, .int 0, .int 0, .int (-1), .int 0, .ref q1, .ref q2, .ref q3, .ref q4])), (q0, .inl (τ 1, 500, .inl (fun _ => 0)))] sz [.ref x, .int y0, .int y1, .int y2, .int y3, .int y4]) (va_Qi (fun (r : Int32) (_ : Unit) => r = 20) (Bw D (va_A [(x, .inr (9, [.ref rd, .ref tx, .ref bu, .ref st, .ref pa, .int 0, .int 0, .null, .null])), (rd, .inr (6, [.ref q0, .int 0, .int 0, .int 0, .int 0, .int (-1), .int 0, .ref q1, .ref q2, .ref q3, .ref q4])), (q0, .inl (τ 1, 500, .inl (fun _ => 0)))] sz) (fun (_ : Unit) => [])) (va_A [(x, .inr (9, [.ref rd, .ref tx, .ref bu, .ref st, .ref pa, .int 0, .int 0, .null, .null])), (rd, .inr (6, [.ref q0, .int 0, .int 0, .int 0, .int 0, .int (-1), .int 0, .ref q1, .ref q2, .ref q3, .ref q4])), (q0, .inl (τ 1, 500, .inl (fun _ => 0)))] sz)) 0 0 (va_A [(x, .inr (9, [.ref rd, .ref tx, .ref bu, .ref st, .ref pa, .int 0, .int 0, .null, .null])), (rd, .inr (6, [.ref q0, .int 0, .int 0, .int 0, .int 0, .int (-1), .int 0, .ref q1, .ref q2, .ref q3, .ref q4])), (q0, .inl (τ 1, 500, .inl (fun _ => 0)))] sz) := by
  refine bodyW (by decide) (Nat.le_of_ble_eq_true rfl) (fun p e s m below meth c ls B hr hlk hin hsz Y hl => ?_)
  have hl : lv_has ls 6 [(0, .ref x), (1, .int y0), (2, .int y1), (3, .int y2), (4, .int y3), (5, .int y4)] := hl
  have B : CallFix p m c cX9_append 6 s _ wALL RX9 := B
  generalize va_A [(x, .inr (9, [.ref rd, .ref tx, .ref bu, .ref st, .ref pa, .int 0, .int 0, .null, .null])), (rd, .inr (6, [.ref q0, .int 0, .int 0, .int 0, .int 0, .int (-1), .int 0, .ref q1, .ref q2, .ref q3, .ref q4])), (q0, .inl (τ 1, 500, .inl (fun _ => 0)))] sz = A at Y ⊢
  refine lv_aload_n B.1 B.2.1 dX9_append_0 rfl (lv_at hl 0 rfl) ?_
  refine gf_X9_10 B Y 0 rfl rfl dX9_append_1 ?_
  refine retI (wc := [(rd, .inr (6, [.ref q0, .int 0, .int 0, .int 0, .int 0, .int (-1), .int 0, .ref q1, .ref q2, .ref q3, .ref q4]))]) (wr := [(x, .inr (9, [.ref rd, .ref tx, .ref bu, .ref st, .ref pa, .int 0, .int 0, .null, .null])), (q0, .inl (τ 1, 500, .inl (fun _ => 0)))]) Y [1] [0, 2] rfl rfl (by decide) (by decide) (rV (As := []) (rest := []) (q0 := 1) B Y [1] (by decide) rfl (k_hasRoom l D τ _ rd q0 q1 q2 q3 q4) rfl rfl q_845 q_846 q_847 q_2 q_848 rfl rfl hd_X6_hasRoomForFive ⟨(Nat.le_of_ble_eq_true rfl), (Nat.le_of_ble_eq_true rfl)⟩ rfl hl.1 rfl (Nat.le_of_ble_eq_true rfl) dX9_append_4 ⟨(Nat.le_of_ble_eq_true rfl), (Nat.le_of_ble_eq_true rfl)⟩) (fun r u H locs hw Y => ?_)
  have hw : r = 1 := hw
  subst hw
  have Y : Wd D τ s A s.heap [(x, .inr (9, [.ref rd, .ref tx, .ref bu, .ref st, .ref pa, .int 0, .int 0, .null, .null])), (q0, .inl (τ 1, 500, .inl (fun _ => 0))), (rd, .inr (6, [.ref q0, .int 0, .int 0, .int 0, .int 0, .int (-1), .int 0, .ref q1, .ref q2, .ref q3, .ref q4]))] H _ := Y
  refine lv_if_ne (tgt := 20) B.1 B.2.1 dX9_append_7 (by decide) (fun _ => ?_) (fun h => absurd h (by decide))
  refine lv_aload_n B.1 B.2.1 dX9_append_20 rfl (lv_at hl 0 rfl) ?_
  refine gf_X9_10 B Y 0 rfl rfl dX9_append_21 ?_
  refine lv_iload_n B.1 B.2.1 dX9_append_24 rfl (lv_at hl 1 rfl) ?_
  refine retV (wc := [(rd, .inr (6, [.ref q0, .int 0, .int 0, .int 0, .int 0, .int (-1), .int 0, .ref q1, .ref q2, .ref q3, .ref q4])), (q0, .inl (τ 1, 500, .inl (fun _ => 0)))]) (wr := [(x, .inr (9, [.ref rd, .ref tx, .ref bu, .ref st, .ref pa, .int 0, .int 0, .null, .null]))]) Y [2, 1] [0] rfl rfl (by decide) (by decide) (rV (As := [.int y0]) (rest := []) (q0 := 2) B Y [2, 1] (by decide) rfl (k_take0 l D τ _ rd q0 q1 q2 q3 q4 (fun _ => 0) y0) rfl rfl q_916 q_917 q_918 q_2 q_919 rfl rfl hd_X6_takeNumber ⟨(Nat.le_of_ble_eq_true rfl), (Nat.le_of_ble_eq_true rfl)⟩ rfl hl.1 rfl (Nat.le_of_ble_eq_true rfl) dX9_append_25 ⟨(Nat.le_of_ble_eq_true rfl), (Nat.le_of_ble_eq_true rfl)⟩) (fun u H locs hw Y => ?_)
  obtain ⟨g1, rfl⟩ : ∃ z, z = u := ⟨_, rfl⟩
  have Y : Wd D τ s A s.heap [(x, .inr (9, [.ref rd, .ref tx, .ref bu, .ref st, .ref pa, .int 0, .int 0, .null, .null])), (rd, .inr (6, [.ref q0, .int 4, .int 0, .int 0, .int 0, .int (-1), .int 0, .ref q1, .ref q2, .ref q3, .ref q4])), (q0, .inl (τ 1, 500, .inl (g1)))] H _ := Y
  refine lv_aload_n B.1 B.2.1 dX9_append_28 rfl (lv_at hl 0 rfl) ?_
  refine gf_X9_10 B Y 0 rfl rfl dX9_append_29 ?_
  refine lv_iload_n B.1 B.2.1 dX9_append_32 rfl (lv_at hl 2 rfl) ?_
  refine retV (wc := [(rd, .inr (6, [.ref q0, .int 4, .int 0, .int 0, .int 0, .int (-1), .int 0, .ref q1, .ref q2, .ref q3, .ref q4])), (q0, .inl (τ 1, 500, .inl (g1)))]) (wr := [(x, .inr (9, [.ref rd, .ref tx, .ref bu, .ref st, .ref pa, .int 0, .int 0, .null, .null]))]) Y [1, 2] [0] rfl rfl (by decide) (by decide) (rV (As := [.int y1]) (rest := []) (q0 := 1) B Y [1, 2] (by decide) rfl (k_take4 l D τ _ rd q0 q1 q2 q3 q4 (g1) y1) rfl rfl q_916 q_917 q_918 q_2 q_919 rfl rfl hd_X6_takeNumber ⟨(Nat.le_of_ble_eq_true rfl), (Nat.le_of_ble_eq_true rfl)⟩ rfl hl.1 rfl (Nat.le_of_ble_eq_true rfl) dX9_append_33 ⟨(Nat.le_of_ble_eq_true rfl), (Nat.le_of_ble_eq_true rfl)⟩) (fun u H locs hw Y => ?_)
  obtain ⟨g2, rfl⟩ : ∃ z, z = u := ⟨_, rfl⟩
  have Y : Wd D τ s A s.heap [(x, .inr (9, [.ref rd, .ref tx, .ref bu, .ref st, .ref pa, .int 0, .int 0, .null, .null])), (rd, .inr (6, [.ref q0, .int 8, .int 0, .int 0, .int 0, .int (-1), .int 0, .ref q1, .ref q2, .ref q3, .ref q4])), (q0, .inl (τ 1, 500, .inl (g2)))] H _ := Y
  refine lv_aload_n B.1 B.2.1 dX9_append_36 rfl (lv_at hl 0 rfl) ?_
  refine gf_X9_10 B Y 0 rfl rfl dX9_append_37 ?_
  refine lv_iload_n B.1 B.2.1 dX9_append_40 rfl (lv_at hl 3 rfl) ?_
  refine retV (wc := [(rd, .inr (6, [.ref q0, .int 8, .int 0, .int 0, .int 0, .int (-1), .int 0, .ref q1, .ref q2, .ref q3, .ref q4])), (q0, .inl (τ 1, 500, .inl (g2)))]) (wr := [(x, .inr (9, [.ref rd, .ref tx, .ref bu, .ref st, .ref pa, .int 0, .int 0, .null, .null]))]) Y [1, 2] [0] rfl rfl (by decide) (by decide) (rV (As := [.int y2]) (rest := []) (q0 := 1) B Y [1, 2] (by decide) rfl (k_take8 l D τ _ rd q0 q1 q2 q3 q4 (g2) y2) rfl rfl q_916 q_917 q_918 q_2 q_919 rfl rfl hd_X6_takeNumber ⟨(Nat.le_of_ble_eq_true rfl), (Nat.le_of_ble_eq_true rfl)⟩ rfl hl.1 rfl (Nat.le_of_ble_eq_true rfl) dX9_append_41 ⟨(Nat.le_of_ble_eq_true rfl), (Nat.le_of_ble_eq_true rfl)⟩) (fun u H locs hw Y => ?_)
  obtain ⟨g3, rfl⟩ : ∃ z, z = u := ⟨_, rfl⟩
  have Y : Wd D τ s A s.heap [(x, .inr (9, [.ref rd, .ref tx, .ref bu, .ref st, .ref pa, .int 0, .int 0, .null, .null])), (rd, .inr (6, [.ref q0, .int 12, .int 0, .int 0, .int 0, .int (-1), .int 0, .ref q1, .ref q2, .ref q3, .ref q4])), (q0, .inl (τ 1, 500, .inl (g3)))] H _ := Y
  refine lv_aload_n B.1 B.2.1 dX9_append_44 rfl (lv_at hl 0 rfl) ?_
  refine gf_X9_10 B Y 0 rfl rfl dX9_append_45 ?_
  refine lv_iload B.1 B.2.1 dX9_append_48 (lv_at hl 4 rfl) ?_
  refine retV (wc := [(rd, .inr (6, [.ref q0, .int 12, .int 0, .int 0, .int 0, .int (-1), .int 0, .ref q1, .ref q2, .ref q3, .ref q4])), (q0, .inl (τ 1, 500, .inl (g3)))]) (wr := [(x, .inr (9, [.ref rd, .ref tx, .ref bu, .ref st, .ref pa, .int 0, .int 0, .null, .null]))]) Y [1, 2] [0] rfl rfl (by decide) (by decide) (rV (As := [.int y3]) (rest := []) (q0 := 1) B Y [1, 2] (by decide) rfl (k_take12 l D τ _ rd q0 q1 q2 q3 q4 (g3) y3) rfl rfl q_916 q_917 q_918 q_2 q_919 rfl rfl hd_X6_takeNumber ⟨(Nat.le_of_ble_eq_true rfl), (Nat.le_of_ble_eq_true rfl)⟩ rfl hl.1 rfl (Nat.le_of_ble_eq_true rfl) dX9_append_50 ⟨(Nat.le_of_ble_eq_true rfl), (Nat.le_of_ble_eq_true rfl)⟩) (fun u H locs hw Y => ?_)
  obtain ⟨g4, rfl⟩ : ∃ z, z = u := ⟨_, rfl⟩
  have Y : Wd D τ s A s.heap [(x, .inr (9, [.ref rd, .ref tx, .ref bu, .ref st, .ref pa, .int 0, .int 0, .null, .null])), (rd, .inr (6, [.ref q0, .int 16, .int 0, .int 0, .int 0, .int (-1), .int 0, .ref q1, .ref q2, .ref q3, .ref q4])), (q0, .inl (τ 1, 500, .inl (g4)))] H _ := Y
  refine lv_aload_n B.1 B.2.1 dX9_append_53 rfl (lv_at hl 0 rfl) ?_
  refine gf_X9_10 B Y 0 rfl rfl dX9_append_54 ?_
  refine lv_iload B.1 B.2.1 dX9_append_57 (lv_at hl 5 rfl) ?_
  refine retV (wc := [(rd, .inr (6, [.ref q0, .int 16, .int 0, .int 0, .int 0, .int (-1), .int 0, .ref q1, .ref q2, .ref q3, .ref q4])), (q0, .inl (τ 1, 500, .inl (g4)))]) (wr := [(x, .inr (9, [.ref rd, .ref tx, .ref bu, .ref st, .ref pa, .int 0, .int 0, .null, .null]))]) Y [1, 2] [0] rfl rfl (by decide) (by decide) (rV (As := [.int y4]) (rest := []) (q0 := 1) B Y [1, 2] (by decide) rfl (k_take16 l D τ _ rd q0 q1 q2 q3 q4 (g4) y4) rfl rfl q_916 q_917 q_918 q_2 q_919 rfl rfl hd_X6_takeNumber ⟨(Nat.le_of_ble_eq_true rfl), (Nat.le_of_ble_eq_true rfl)⟩ rfl hl.1 rfl (Nat.le_of_ble_eq_true rfl) dX9_append_59 ⟨(Nat.le_of_ble_eq_true rfl), (Nat.le_of_ble_eq_true rfl)⟩) (fun u H locs hw Y => ?_)
  obtain ⟨g5, rfl⟩ : ∃ z, z = u := ⟨_, rfl⟩
  have Y : Wd D τ s A s.heap [(x, .inr (9, [.ref rd, .ref tx, .ref bu, .ref st, .ref pa, .int 0, .int 0, .null, .null])), (rd, .inr (6, [.ref q0, .int 20, .int 0, .int 0, .int 0, .int (-1), .int 0, .ref q1, .ref q2, .ref q3, .ref q4])), (q0, .inl (τ 1, 500, .inl (g5)))] H _ := Y
  refine lv_aload_n B.1 B.2.1 dX9_append_62 rfl (lv_at hl 0 rfl) ?_
  refine gf_X9_10 B Y 0 rfl rfl dX9_append_63 ?_
  refine gf_X9_73 B Y 1 rfl rfl dX9_append_66 ?_
  exact endI B hr hlk Y () rfl [] (by decide) rfl (Nat.le_of_ble_eq_true rfl) (Nat.le_of_ble_eq_true rfl) dX9_append_69
