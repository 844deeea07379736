set_option maxHeartbeats 4000000 in
set_option maxRecDepth 100000 in
theorem lp_alb1 {p : Program} {l : Launch} {e : Env} {s : State} {m : MethodId} {args : Array Value} {below : List Frame} {meth : Method} {c : Code} {Q : State → Prop} {D : va_G} {τ : Nat → ClassId} {A : Nat → Prop} {H0 : Heap} (x rd q0 q1 q2 q3 q4 tx to bu st pa aL aD aH l0 d0 p0 v0 p1 v1 p2 v2 p3 v3 pk k0 k1 k2 k3 k4 k5 k6 k7 k8 k9 nt n0 n1 n2 ac : Nat) (fL fD fH : Nat → Option Nat) (hS : fL 0 = some l0 ∧ fD 0 = some d0 ∧ fH 0 = some p0 ∧ fH 1 = some p1 ∧ fH 2 = some p2 ∧ fH 3 = some p3) {b : Nat} (hb : b ≤ 1000) (B : CallFix p m c cX9_addLinkBurden 9 s args wALL RX9)
    (kx : ∀ (f : Nat → Int32) (H : Heap) (locs : List Loc) (ls : Array Slot), (∀ j : Nat, 0 < j → j ≤ b → f j = nI (bdN 1 0 j)) → lv_has ls 9 [(6, .int (nI 0)), (5, .int 552), (4, .ref l0), (0, .ref x), (1, .int 0), (2, .int (nI b)), (3, .int 0)] → Wd D τ s A H0 [(x, .inr (9, [.ref rd, .ref tx, .ref bu, .ref st, .ref pa, .int 0, .int 0, .null, .null])), (bu, .inl (τ 0, 1001, .inl (f))), (st, .inr (7, [.int 0, .int 60, .int 0, .int 576, .int 27, .int (-1), .int 1, .int 0, .ref aL, .ref aD, .ref aH, .ref pk, .ref nt, .ref ac])), (aL, .inl (τ 3, 6, .inr (.inr (.inr (.inr (fL)))))), (l0, .inr (3, [.int 576, .int 1, .int 0, .int 0, .int 0, .int 0, .int 0, .int 0]))] H locs → W p l e ({ frames := 3, cells := 0, slots := 0, locals := 83 } : Room) s m args below meth c H locs 0 0 Q (F0 m 107 ls [])) :
    ∀ (k : Nat) (f : Nat → Int32) (H : Heap) (locs : List Loc) (ls : Array Slot), k ≤ b → (∀ j : Nat, j ≤ k → f j = 1) → (∀ j : Nat, k < j → j ≤ b → f j = nI (bdN 1 0 j)) → lv_has ls 9 [(6, .int (nI k)), (5, .int 552), (4, .ref l0), (0, .ref x), (1, .int 0), (2, .int (nI b)), (3, .int 0)] → Wd D τ s A H0 [(x, .inr (9, [.ref rd, .ref tx, .ref bu, .ref st, .ref pa, .int 0, .int 0, .null, .null])), (bu, .inl (τ 0, 1001, .inl (f))), (st, .inr (7, [.int 0, .int 60, .int 0, .int 576, .int 27, .int (-1), .int 1, .int 0, .ref aL, .ref aD, .ref aH, .ref pk, .ref nt, .ref ac])), (aL, .inl (τ 3, 6, .inr (.inr (.inr (.inr (fL)))))), (l0, .inr (3, [.int 576, .int 1, .int 0, .int 0, .int 0, .int 0, .int 0, .int 0]))] H locs → W p l e ({ frames := 3, cells := 0, slots := 0, locals := 83 } : Room) s m args below meth c H locs 0 0 Q (F0 m 29 ls []) := by
  intro k
  induction k with
  | zero =>
    intro f H locs ls hk hA hB hl Y
    refine lv_iload B.1 B.2.1 dX9_addLinkBurden_29 (lv_at hl 0 rfl) ?_
    refine lv_iconst (v := 1) B.1 B.2.1 dX9_addLinkBurden_31 (by decide) ?_
    refine lv_icmp_lt (tgt := 107) B.1 B.2.1 dX9_addLinkBurden_32 (by decide) (fun _ => ?_) (fun h => absurd (by decide) h)
    exact kx f H locs ls hB (lv_sub hl [0, 1, 2, 3, 4, 5, 6] rfl) Y
  | succ k ih =>
    intro f H locs ls hk hA hB hl Y
    rcases Nat.lt_or_ge 556 (k + 1) with hc | hc
    · refine lv_iload B.1 B.2.1 dX9_addLinkBurden_29 (lv_at hl 0 rfl) ?_
      refine lv_iconst (v := 1) B.1 B.2.1 dX9_addLinkBurden_31 (by decide) ?_
      refine lv_icmp_lt (tgt := 107) B.1 B.2.1 dX9_addLinkBurden_32 (by decide) (fun h => absurd h (nI_nlt (b := 1) (by omega) (by omega))) (fun _ => ?_)
      refine lv_iload B.1 B.2.1 dX9_addLinkBurden_35 (lv_at hl 0 rfl) ?_
      refine lv_aload B.1 B.2.1 dX9_addLinkBurden_37 (lv_at hl 2 rfl) ?_
      refine gf_X9_168 B Y 4 rfl rfl dX9_addLinkBurden_39 ?_
      refine retI (wc := []) (wr := [(x, .inr (9, [.ref rd, .ref tx, .ref bu, .ref st, .ref pa, .int 0, .int 0, .null, .null])), (bu, .inl (τ 0, 1001, .inl (f))), (st, .inr (7, [.int 0, .int 60, .int 0, .int 576, .int 27, .int (-1), .int 1, .int 0, .ref aL, .ref aD, .ref aH, .ref pk, .ref nt, .ref ac])), (aL, .inl (τ 3, 6, .inr (.inr (.inr (.inr (fL)))))), (l0, .inr (3, [.int 576, .int 1, .int 0, .int 0, .int 0, .int 0, .int 0, .int 0]))]) Y [] [0, 1, 2, 3, 4] rfl rfl (by decide) (by decide) (rS (As := [.int (nI (k + 1)), .int 576]) (rest := []) B Y [] (by decide) rfl (k_cutsOf1 l D τ _ (k + 1) (by omega) (by omega)) q_1309 q_651 q_1 q_652 rfl rfl hd_X9_cutsOf ⟨(Nat.le_of_ble_eq_true rfl), (Nat.le_of_ble_eq_true rfl)⟩ rfl hl.1 rfl (Nat.le_of_ble_eq_true rfl) dX9_addLinkBurden_42 ⟨(Nat.le_of_ble_eq_true rfl), (Nat.le_of_ble_eq_true rfl)⟩) (fun r u H locs hw Y => ?_)
      have hw : r = 1 := hw
      subst hw
      have Y : Wd D τ s A H0 [(x, .inr (9, [.ref rd, .ref tx, .ref bu, .ref st, .ref pa, .int 0, .int 0, .null, .null])), (bu, .inl (τ 0, 1001, .inl (f))), (st, .inr (7, [.int 0, .int 60, .int 0, .int 576, .int 27, .int (-1), .int 1, .int 0, .ref aL, .ref aD, .ref aH, .ref pk, .ref nt, .ref ac])), (aL, .inl (τ 3, 6, .inr (.inr (.inr (.inr (fL)))))), (l0, .inr (3, [.int 576, .int 1, .int 0, .int 0, .int 0, .int 0, .int 0, .int 0]))] H _ := Y
      refine lv_istore (lv' := [(7, .int 1), (6, .int (nI (k + 1))), (5, .int 552), (4, .ref l0), (0, .ref x), (1, .int 0), (2, .int (nI b)), (3, .int 0)]) B.1 B.2.1 dX9_addLinkBurden_45 hl (by decide) rfl (fun ls hl => ?_)
      refine lv_iload B.1 B.2.1 dX9_addLinkBurden_47 (lv_at hl 0 rfl) ?_
      refine lv_aload_n B.1 B.2.1 dX9_addLinkBurden_49 rfl (lv_at hl 4 rfl) ?_
      refine gf_X9_23 B Y 0 rfl rfl dX9_addLinkBurden_50 ?_
      refine lv_iload B.1 B.2.1 dX9_addLinkBurden_53 (lv_at hl 2 rfl) ?_
      refine retI (wc := [(bu, .inl (τ 0, 1001, .inl (f)))]) (wr := [(x, .inr (9, [.ref rd, .ref tx, .ref bu, .ref st, .ref pa, .int 0, .int 0, .null, .null])), (st, .inr (7, [.int 0, .int 60, .int 0, .int 576, .int 27, .int (-1), .int 1, .int 0, .ref aL, .ref aD, .ref aH, .ref pk, .ref nt, .ref ac])), (aL, .inl (τ 3, 6, .inr (.inr (.inr (.inr (fL)))))), (l0, .inr (3, [.int 576, .int 1, .int 0, .int 0, .int 0, .int 0, .int 0, .int 0]))]) Y [1] [0, 2, 3, 4] rfl rfl (by decide) (by decide) (rS (As := [.ref bu, .int 552]) (rest := [.int 1]) B Y [1] (by decide) rfl (k_valueIn l D τ _ bu 1001 (f) (by decide) 552 552 rfl (by decide)) q_1236 q_618 q_1 q_619 rfl rfl hd_X9_valueIn ⟨(Nat.le_of_ble_eq_true rfl), (Nat.le_of_ble_eq_true rfl)⟩ rfl hl.1 rfl (Nat.le_of_ble_eq_true rfl) dX9_addLinkBurden_55 ⟨(Nat.le_of_ble_eq_true rfl), (Nat.le_of_ble_eq_true rfl)⟩) (fun r u H locs hw Y => ?_)
      have hw : r = 1 := (hw : r = _).trans (hA 552 (by omega))
      subst hw
      have Y : Wd D τ s A H0 [(x, .inr (9, [.ref rd, .ref tx, .ref bu, .ref st, .ref pa, .int 0, .int 0, .null, .null])), (st, .inr (7, [.int 0, .int 60, .int 0, .int 576, .int 27, .int (-1), .int 1, .int 0, .ref aL, .ref aD, .ref aH, .ref pk, .ref nt, .ref ac])), (aL, .inl (τ 3, 6, .inr (.inr (.inr (.inr (fL)))))), (l0, .inr (3, [.int 576, .int 1, .int 0, .int 0, .int 0, .int 0, .int 0, .int 0])), (bu, .inl (τ 0, 1001, .inl (f)))] H _ := Y
      refine lv_imul B.1 B.2.1 dX9_addLinkBurden_58 ?_
      refine lv_cv (v := 1) (by decide) ?_
      refine lv_aload_n B.1 B.2.1 dX9_addLinkBurden_59 rfl (lv_at hl 4 rfl) ?_
      refine gf_X9_23 B Y 0 rfl rfl dX9_addLinkBurden_60 ?_
      refine lv_iload B.1 B.2.1 dX9_addLinkBurden_63 (lv_at hl 1 rfl) ?_
      refine lv_iload B.1 B.2.1 dX9_addLinkBurden_65 (lv_at hl 0 rfl) ?_
      refine lv_iload B.1 B.2.1 dX9_addLinkBurden_67 (lv_at hl 2 rfl) ?_
      refine lv_imul B.1 B.2.1 dX9_addLinkBurden_69 ?_
      refine lv_cv (v := 552) (by decide) ?_
      refine lv_isub B.1 B.2.1 dX9_addLinkBurden_70 ?_
      refine lv_cv (v := (nI (k + 1 - 552))) (pk_sub (b := 552) (by omega)) ?_
      refine retI (wc := [(bu, .inl (τ 0, 1001, .inl (f)))]) (wr := [(x, .inr (9, [.ref rd, .ref tx, .ref bu, .ref st, .ref pa, .int 0, .int 0, .null, .null])), (st, .inr (7, [.int 0, .int 60, .int 0, .int 576, .int 27, .int (-1), .int 1, .int 0, .ref aL, .ref aD, .ref aH, .ref pk, .ref nt, .ref ac])), (aL, .inl (τ 3, 6, .inr (.inr (.inr (.inr (fL)))))), (l0, .inr (3, [.int 576, .int 1, .int 0, .int 0, .int 0, .int 0, .int 0, .int 0]))]) Y [4] [0, 1, 2, 3] rfl rfl (by decide) (by decide) (rS (As := [.ref bu, .int (nI (k + 1 - 552))]) (rest := [.int 1]) B Y [4] (by decide) rfl (k_valueIn l D τ _ bu 1001 (f) (by decide) (nI (k + 1 - 552)) (k + 1 - 552) rfl (by omega)) q_1236 q_618 q_1 q_619 rfl rfl hd_X9_valueIn ⟨(Nat.le_of_ble_eq_true rfl), (Nat.le_of_ble_eq_true rfl)⟩ rfl hl.1 rfl (Nat.le_of_ble_eq_true rfl) dX9_addLinkBurden_71 ⟨(Nat.le_of_ble_eq_true rfl), (Nat.le_of_ble_eq_true rfl)⟩) (fun r u H locs hw Y => ?_)
      have hw : r = 1 := (hw : r = _).trans (hA _ (by omega))
      subst hw
      have Y : Wd D τ s A H0 [(x, .inr (9, [.ref rd, .ref tx, .ref bu, .ref st, .ref pa, .int 0, .int 0, .null, .null])), (st, .inr (7, [.int 0, .int 60, .int 0, .int 576, .int 27, .int (-1), .int 1, .int 0, .ref aL, .ref aD, .ref aH, .ref pk, .ref nt, .ref ac])), (aL, .inl (τ 3, 6, .inr (.inr (.inr (.inr (fL)))))), (l0, .inr (3, [.int 576, .int 1, .int 0, .int 0, .int 0, .int 0, .int 0, .int 0])), (bu, .inl (τ 0, 1001, .inl (f)))] H _ := Y
      refine lv_iadd B.1 B.2.1 dX9_addLinkBurden_74 ?_
      refine lv_cv (v := 2) (by decide) ?_
      refine lv_istore (lv' := [(8, .int 2), (7, .int 1), (6, .int (nI (k + 1))), (5, .int 552), (4, .ref l0), (0, .ref x), (1, .int 0), (2, .int (nI b)), (3, .int 0)]) B.1 B.2.1 dX9_addLinkBurden_75 hl (by decide) rfl (fun ls hl => ?_)
      refine lv_aload_n B.1 B.2.1 dX9_addLinkBurden_77 rfl (lv_at hl 5 rfl) ?_
      refine gf_X9_23 B Y 0 rfl rfl dX9_addLinkBurden_78 ?_
      refine lv_iload B.1 B.2.1 dX9_addLinkBurden_81 (lv_at hl 2 rfl) ?_
      refine lv_iload B.1 B.2.1 dX9_addLinkBurden_83 (lv_at hl 0 rfl) ?_
      refine lv_iload_n B.1 B.2.1 dX9_addLinkBurden_85 rfl (lv_at hl 8 rfl) ?_
      refine lv_iload B.1 B.2.1 dX9_addLinkBurden_86 (lv_at hl 2 rfl) ?_
      refine lv_iload B.1 B.2.1 dX9_addLinkBurden_88 (lv_at hl 1 rfl) ?_
      refine lv_iconst (v := 1) B.1 B.2.1 dX9_addLinkBurden_90 (by decide) ?_
      refine lv_iadd B.1 B.2.1 dX9_addLinkBurden_91 ?_
      refine lv_cv (v := 2) (by decide) ?_
      refine lv_bipush (v := 20) B.1 B.2.1 dX9_addLinkBurden_92 (by decide) ?_
      refine lv_imul B.1 B.2.1 dX9_addLinkBurden_94 ?_
      refine lv_cv (v := 40) (by decide) ?_
      refine lv_iadd B.1 B.2.1 dX9_addLinkBurden_95 ?_
      refine lv_cv (v := (nI (k + 1 + 40))) (nI_add (k + 1) 40) ?_
      refine lv_imul B.1 B.2.1 dX9_addLinkBurden_96 ?_
      refine lv_cv (v := 0) (Int32.zero_mul) ?_
      refine lv_iadd B.1 B.2.1 dX9_addLinkBurden_97 ?_
      refine lv_cv (v := 2) (by decide) ?_
      refine retV (wc := [(bu, .inl (τ 0, 1001, .inl (f)))]) (wr := [(x, .inr (9, [.ref rd, .ref tx, .ref bu, .ref st, .ref pa, .int 0, .int 0, .null, .null])), (st, .inr (7, [.int 0, .int 60, .int 0, .int 576, .int 27, .int (-1), .int 1, .int 0, .ref aL, .ref aD, .ref aH, .ref pk, .ref nt, .ref ac])), (aL, .inl (τ 3, 6, .inr (.inr (.inr (.inr (fL)))))), (l0, .inr (3, [.int 576, .int 1, .int 0, .int 0, .int 0, .int 0, .int 0, .int 0]))]) Y [4] [0, 1, 2, 3] rfl rfl (by decide) (by decide) (rS (As := [.ref bu, .int (nI (k + 1)), .int 2]) (rest := []) B Y [4] (by decide) rfl (k_setIn l D τ _ bu 1001 (f) (by decide) (nI (k + 1)) 2 (k + 1) rfl (by omega)) q_1310 q_648 q_1 q_649 rfl rfl hd_X9_setIn ⟨(Nat.le_of_ble_eq_true rfl), (Nat.le_of_ble_eq_true rfl)⟩ rfl hl.1 rfl (Nat.le_of_ble_eq_true rfl) dX9_addLinkBurden_98 ⟨(Nat.le_of_ble_eq_true rfl), (Nat.le_of_ble_eq_true rfl)⟩) (fun u H locs hw Y => ?_)
      have Y : Wd D τ s A H0 [(x, .inr (9, [.ref rd, .ref tx, .ref bu, .ref st, .ref pa, .int 0, .int 0, .null, .null])), (st, .inr (7, [.int 0, .int 60, .int 0, .int 576, .int 27, .int (-1), .int 1, .int 0, .ref aL, .ref aD, .ref aH, .ref pk, .ref nt, .ref ac])), (aL, .inl (τ 3, 6, .inr (.inr (.inr (.inr (fL)))))), (l0, .inr (3, [.int 576, .int 1, .int 0, .int 0, .int 0, .int 0, .int 0, .int 0])), (bu, .inl (τ 0, 1001, .inl (upd (f) (k + 1) 2)))] H _ := Y
      refine lv_iinc (v := (nI k)) (lv' := [(6, .int (nI k)), (8, .int 2), (7, .int 1), (5, .int 552), (4, .ref l0), (0, .ref x), (1, .int 0), (2, .int (nI b)), (3, .int 0)]) B.1 B.2.1 dX9_addLinkBurden_101 hl (k := 2) rfl (pk_m1 k) (by decide) rfl (fun ls hl => ?_)
      refine lv_goto (tgt := 29) B.1 B.2.1 dX9_addLinkBurden_104 (by decide) ?_
      refine ih (upd (f) (k + 1) 2) H locs ls (by omega) (fun j hj => (pk_un (by omega)).trans (hA j (by omega))) (fun j h1 h2 => ?_) (lv_sub hl [0, 3, 4, 5, 6, 7, 8] rfl) (Y.sub [0, 4, 1, 2, 3] (by decide) rfl)
      by_cases e : j = k + 1
      · rw [e, pk_us]; unfold bdN cutN; rw [if_neg (by omega)]; simp only [Nat.zero_mul]; rfl
      · exact (pk_un e).trans (hB j (by omega) h2)
    · refine lv_iload B.1 B.2.1 dX9_addLinkBurden_29 (lv_at hl 0 rfl) ?_
      refine lv_iconst (v := 1) B.1 B.2.1 dX9_addLinkBurden_31 (by decide) ?_
      refine lv_icmp_lt (tgt := 107) B.1 B.2.1 dX9_addLinkBurden_32 (by decide) (fun h => absurd h (nI_nlt (b := 1) (by omega) (by omega))) (fun _ => ?_)
      refine lv_iload B.1 B.2.1 dX9_addLinkBurden_35 (lv_at hl 0 rfl) ?_
      refine lv_aload B.1 B.2.1 dX9_addLinkBurden_37 (lv_at hl 2 rfl) ?_
      refine gf_X9_168 B Y 4 rfl rfl dX9_addLinkBurden_39 ?_
      refine retI (wc := []) (wr := [(x, .inr (9, [.ref rd, .ref tx, .ref bu, .ref st, .ref pa, .int 0, .int 0, .null, .null])), (bu, .inl (τ 0, 1001, .inl (f))), (st, .inr (7, [.int 0, .int 60, .int 0, .int 576, .int 27, .int (-1), .int 1, .int 0, .ref aL, .ref aD, .ref aH, .ref pk, .ref nt, .ref ac])), (aL, .inl (τ 3, 6, .inr (.inr (.inr (.inr (fL)))))), (l0, .inr (3, [.int 576, .int 1, .int 0, .int 0, .int 0, .int 0, .int 0, .int 0]))]) Y [] [0, 1, 2, 3, 4] rfl rfl (by decide) (by decide) (rS (As := [.int (nI (k + 1)), .int 576]) (rest := []) B Y [] (by decide) rfl (k_cutsOf0 l D τ _ (k + 1) hc) q_1309 q_651 q_1 q_652 rfl rfl hd_X9_cutsOf ⟨(Nat.le_of_ble_eq_true rfl), (Nat.le_of_ble_eq_true rfl)⟩ rfl hl.1 rfl (Nat.le_of_ble_eq_true rfl) dX9_addLinkBurden_42 ⟨(Nat.le_of_ble_eq_true rfl), (Nat.le_of_ble_eq_true rfl)⟩) (fun r u H locs hw Y => ?_)
      have hw : r = 0 := hw
      subst hw
      have Y : Wd D τ s A H0 [(x, .inr (9, [.ref rd, .ref tx, .ref bu, .ref st, .ref pa, .int 0, .int 0, .null, .null])), (bu, .inl (τ 0, 1001, .inl (f))), (st, .inr (7, [.int 0, .int 60, .int 0, .int 576, .int 27, .int (-1), .int 1, .int 0, .ref aL, .ref aD, .ref aH, .ref pk, .ref nt, .ref ac])), (aL, .inl (τ 3, 6, .inr (.inr (.inr (.inr (fL)))))), (l0, .inr (3, [.int 576, .int 1, .int 0, .int 0, .int 0, .int 0, .int 0, .int 0]))] H _ := Y
      refine lv_istore (lv' := [(7, .int 0), (6, .int (nI (k + 1))), (5, .int 552), (4, .ref l0), (0, .ref x), (1, .int 0), (2, .int (nI b)), (3, .int 0)]) B.1 B.2.1 dX9_addLinkBurden_45 hl (by decide) rfl (fun ls hl => ?_)
      refine lv_iload B.1 B.2.1 dX9_addLinkBurden_47 (lv_at hl 0 rfl) ?_
      refine lv_aload_n B.1 B.2.1 dX9_addLinkBurden_49 rfl (lv_at hl 4 rfl) ?_
      refine gf_X9_23 B Y 0 rfl rfl dX9_addLinkBurden_50 ?_
      refine lv_iload B.1 B.2.1 dX9_addLinkBurden_53 (lv_at hl 2 rfl) ?_
      refine retI (wc := [(bu, .inl (τ 0, 1001, .inl (f)))]) (wr := [(x, .inr (9, [.ref rd, .ref tx, .ref bu, .ref st, .ref pa, .int 0, .int 0, .null, .null])), (st, .inr (7, [.int 0, .int 60, .int 0, .int 576, .int 27, .int (-1), .int 1, .int 0, .ref aL, .ref aD, .ref aH, .ref pk, .ref nt, .ref ac])), (aL, .inl (τ 3, 6, .inr (.inr (.inr (.inr (fL)))))), (l0, .inr (3, [.int 576, .int 1, .int 0, .int 0, .int 0, .int 0, .int 0, .int 0]))]) Y [1] [0, 2, 3, 4] rfl rfl (by decide) (by decide) (rS (As := [.ref bu, .int 552]) (rest := [.int 0]) B Y [1] (by decide) rfl (k_valueIn l D τ _ bu 1001 (f) (by decide) 552 552 rfl (by decide)) q_1236 q_618 q_1 q_619 rfl rfl hd_X9_valueIn ⟨(Nat.le_of_ble_eq_true rfl), (Nat.le_of_ble_eq_true rfl)⟩ rfl hl.1 rfl (Nat.le_of_ble_eq_true rfl) dX9_addLinkBurden_55 ⟨(Nat.le_of_ble_eq_true rfl), (Nat.le_of_ble_eq_true rfl)⟩) (fun r u H locs hw Y => ?_)
      have hw : r = ((f) 552) := hw
      subst hw
      have Y : Wd D τ s A H0 [(x, .inr (9, [.ref rd, .ref tx, .ref bu, .ref st, .ref pa, .int 0, .int 0, .null, .null])), (st, .inr (7, [.int 0, .int 60, .int 0, .int 576, .int 27, .int (-1), .int 1, .int 0, .ref aL, .ref aD, .ref aH, .ref pk, .ref nt, .ref ac])), (aL, .inl (τ 3, 6, .inr (.inr (.inr (.inr (fL)))))), (l0, .inr (3, [.int 576, .int 1, .int 0, .int 0, .int 0, .int 0, .int 0, .int 0])), (bu, .inl (τ 0, 1001, .inl (f)))] H _ := Y
      refine lv_imul B.1 B.2.1 dX9_addLinkBurden_58 ?_
      refine lv_cv (v := 0) (Int32.zero_mul) ?_
      refine lv_aload_n B.1 B.2.1 dX9_addLinkBurden_59 rfl (lv_at hl 4 rfl) ?_
      refine gf_X9_23 B Y 0 rfl rfl dX9_addLinkBurden_60 ?_
      refine lv_iload B.1 B.2.1 dX9_addLinkBurden_63 (lv_at hl 1 rfl) ?_
      refine lv_iload B.1 B.2.1 dX9_addLinkBurden_65 (lv_at hl 0 rfl) ?_
      refine lv_iload B.1 B.2.1 dX9_addLinkBurden_67 (lv_at hl 2 rfl) ?_
      refine lv_imul B.1 B.2.1 dX9_addLinkBurden_69 ?_
      refine lv_cv (v := 0) (by decide) ?_
      refine lv_isub B.1 B.2.1 dX9_addLinkBurden_70 ?_
      refine lv_cv (v := (nI (k + 1))) (Int32.sub_zero _) ?_
      refine retI (wc := [(bu, .inl (τ 0, 1001, .inl (f)))]) (wr := [(x, .inr (9, [.ref rd, .ref tx, .ref bu, .ref st, .ref pa, .int 0, .int 0, .null, .null])), (st, .inr (7, [.int 0, .int 60, .int 0, .int 576, .int 27, .int (-1), .int 1, .int 0, .ref aL, .ref aD, .ref aH, .ref pk, .ref nt, .ref ac])), (aL, .inl (τ 3, 6, .inr (.inr (.inr (.inr (fL)))))), (l0, .inr (3, [.int 576, .int 1, .int 0, .int 0, .int 0, .int 0, .int 0, .int 0]))]) Y [4] [0, 1, 2, 3] rfl rfl (by decide) (by decide) (rS (As := [.ref bu, .int (nI (k + 1))]) (rest := [.int 0]) B Y [4] (by decide) rfl (k_valueIn l D τ _ bu 1001 (f) (by decide) (nI (k + 1)) (k + 1) rfl (by omega)) q_1236 q_618 q_1 q_619 rfl rfl hd_X9_valueIn ⟨(Nat.le_of_ble_eq_true rfl), (Nat.le_of_ble_eq_true rfl)⟩ rfl hl.1 rfl (Nat.le_of_ble_eq_true rfl) dX9_addLinkBurden_71 ⟨(Nat.le_of_ble_eq_true rfl), (Nat.le_of_ble_eq_true rfl)⟩) (fun r u H locs hw Y => ?_)
      have hw : r = 1 := (hw : r = _).trans (hA _ (by omega))
      subst hw
      have Y : Wd D τ s A H0 [(x, .inr (9, [.ref rd, .ref tx, .ref bu, .ref st, .ref pa, .int 0, .int 0, .null, .null])), (st, .inr (7, [.int 0, .int 60, .int 0, .int 576, .int 27, .int (-1), .int 1, .int 0, .ref aL, .ref aD, .ref aH, .ref pk, .ref nt, .ref ac])), (aL, .inl (τ 3, 6, .inr (.inr (.inr (.inr (fL)))))), (l0, .inr (3, [.int 576, .int 1, .int 0, .int 0, .int 0, .int 0, .int 0, .int 0])), (bu, .inl (τ 0, 1001, .inl (f)))] H _ := Y
      refine lv_iadd B.1 B.2.1 dX9_addLinkBurden_74 ?_
      refine lv_cv (v := 1) (by decide) ?_
      refine lv_istore (lv' := [(8, .int 1), (7, .int 0), (6, .int (nI (k + 1))), (5, .int 552), (4, .ref l0), (0, .ref x), (1, .int 0), (2, .int (nI b)), (3, .int 0)]) B.1 B.2.1 dX9_addLinkBurden_75 hl (by decide) rfl (fun ls hl => ?_)
      refine lv_aload_n B.1 B.2.1 dX9_addLinkBurden_77 rfl (lv_at hl 5 rfl) ?_
      refine gf_X9_23 B Y 0 rfl rfl dX9_addLinkBurden_78 ?_
      refine lv_iload B.1 B.2.1 dX9_addLinkBurden_81 (lv_at hl 2 rfl) ?_
      refine lv_iload B.1 B.2.1 dX9_addLinkBurden_83 (lv_at hl 0 rfl) ?_
      refine lv_iload_n B.1 B.2.1 dX9_addLinkBurden_85 rfl (lv_at hl 8 rfl) ?_
      refine lv_iload B.1 B.2.1 dX9_addLinkBurden_86 (lv_at hl 2 rfl) ?_
      refine lv_iload B.1 B.2.1 dX9_addLinkBurden_88 (lv_at hl 1 rfl) ?_
      refine lv_iconst (v := 1) B.1 B.2.1 dX9_addLinkBurden_90 (by decide) ?_
      refine lv_iadd B.1 B.2.1 dX9_addLinkBurden_91 ?_
      refine lv_cv (v := 1) (by decide) ?_
      refine lv_bipush (v := 20) B.1 B.2.1 dX9_addLinkBurden_92 (by decide) ?_
      refine lv_imul B.1 B.2.1 dX9_addLinkBurden_94 ?_
      refine lv_cv (v := 20) (by decide) ?_
      refine lv_iadd B.1 B.2.1 dX9_addLinkBurden_95 ?_
      refine lv_cv (v := (nI (k + 1 + 20))) (nI_add (k + 1) 20) ?_
      refine lv_imul B.1 B.2.1 dX9_addLinkBurden_96 ?_
      refine lv_cv (v := 0) (Int32.zero_mul) ?_
      refine lv_iadd B.1 B.2.1 dX9_addLinkBurden_97 ?_
      refine lv_cv (v := 1) (by decide) ?_
      refine retV (wc := [(bu, .inl (τ 0, 1001, .inl (f)))]) (wr := [(x, .inr (9, [.ref rd, .ref tx, .ref bu, .ref st, .ref pa, .int 0, .int 0, .null, .null])), (st, .inr (7, [.int 0, .int 60, .int 0, .int 576, .int 27, .int (-1), .int 1, .int 0, .ref aL, .ref aD, .ref aH, .ref pk, .ref nt, .ref ac])), (aL, .inl (τ 3, 6, .inr (.inr (.inr (.inr (fL)))))), (l0, .inr (3, [.int 576, .int 1, .int 0, .int 0, .int 0, .int 0, .int 0, .int 0]))]) Y [4] [0, 1, 2, 3] rfl rfl (by decide) (by decide) (rS (As := [.ref bu, .int (nI (k + 1)), .int 1]) (rest := []) B Y [4] (by decide) rfl (k_setIn l D τ _ bu 1001 (f) (by decide) (nI (k + 1)) 1 (k + 1) rfl (by omega)) q_1310 q_648 q_1 q_649 rfl rfl hd_X9_setIn ⟨(Nat.le_of_ble_eq_true rfl), (Nat.le_of_ble_eq_true rfl)⟩ rfl hl.1 rfl (Nat.le_of_ble_eq_true rfl) dX9_addLinkBurden_98 ⟨(Nat.le_of_ble_eq_true rfl), (Nat.le_of_ble_eq_true rfl)⟩) (fun u H locs hw Y => ?_)
      have Y : Wd D τ s A H0 [(x, .inr (9, [.ref rd, .ref tx, .ref bu, .ref st, .ref pa, .int 0, .int 0, .null, .null])), (st, .inr (7, [.int 0, .int 60, .int 0, .int 576, .int 27, .int (-1), .int 1, .int 0, .ref aL, .ref aD, .ref aH, .ref pk, .ref nt, .ref ac])), (aL, .inl (τ 3, 6, .inr (.inr (.inr (.inr (fL)))))), (l0, .inr (3, [.int 576, .int 1, .int 0, .int 0, .int 0, .int 0, .int 0, .int 0])), (bu, .inl (τ 0, 1001, .inl (upd (f) (k + 1) 1)))] H _ := Y
      refine lv_iinc (v := (nI k)) (lv' := [(6, .int (nI k)), (8, .int 1), (7, .int 0), (5, .int 552), (4, .ref l0), (0, .ref x), (1, .int 0), (2, .int (nI b)), (3, .int 0)]) B.1 B.2.1 dX9_addLinkBurden_101 hl (k := 2) rfl (pk_m1 k) (by decide) rfl (fun ls hl => ?_)
      refine lv_goto (tgt := 29) B.1 B.2.1 dX9_addLinkBurden_104 (by decide) ?_
      refine ih (upd (f) (k + 1) 1) H locs ls (by omega) (fun j hj => (pk_un (by omega)).trans (hA j (by omega))) (fun j h1 h2 => ?_) (lv_sub hl [0, 3, 4, 5, 6, 7, 8] rfl) (Y.sub [0, 4, 1, 2, 3] (by decide) rfl)
      by_cases e : j = k + 1
      · rw [e, pk_us]; unfold bdN cutN; rw [if_pos hc]; simp only [Nat.zero_mul]; rfl
      · exact (pk_un e).trans (hB j (by omega) h2)

set_option maxHeartbeats 4000000 in
set_option maxRecDepth 100000 in
theorem k_addLinkBurden1 (l : Launch) (D : va_G) (τ : Nat → ClassId) (sz : Nat) (x rd q0 q1 q2 q3 q4 tx to bu st pa aL aD aH l0 d0 p0 v0 p1 v1 p2 v2 p3 v3 pk k0 k1 k2 k3 k4 k5 k6 k7 k8 k9 nt n0 n1 n2 ac : Nat) (fL fD fH : Nat → Option Nat) (hS : fL 0 = some l0 ∧ fD 0 = some d0 ∧ fH 0 = some p0 ∧ fH 1 = some p1 ∧ fH 2 = some p2 ∧ fH 3 = some p3) (b : Nat) (hb : b ≤ 1000) (f : Nat → Int32) (hA : (∀ j : Nat, j ≤ b → f j = 1)) : Met l yX9_addLinkBurden (Cond.code yX9_addLinkBurden cX9_addLinkBurden 9 none :: wALL) { frames := 3, cells := 0, slots := 0, locals := 83 } (Pw D τ [(x, .inr (9, [.ref rd, .ref tx, .ref bu, .ref st, .ref pa, .int 0, .int 0, .null, .null])), (bu, .inl (τ 0, 1001, .inl (f))), (st, .inr (7, [.int 0, .int 60, .int 0, .int 576, .int 27, .int (-1), .int 1, .int 0, .ref aL, .ref aD, .ref aH, .ref pk, .ref nt, .ref ac])), (aL, .inl (τ 3, 6, .inr (.inr (.inr (.inr (fL)))))), (l0, .inr (3, [.int 576, .int 1, .int 0, .int 0, .int 0, .int 0, .int 0, .int 0]))] sz [.ref x, .int 0, .int (nI b), .int 0]) (va_Qv (fun (g : Nat → Int32) => (∀ j : Nat, 0 < j → j ≤ b → g j = nI (bdN 1 0 j))) (Bw D (va_A [(x, .inr (9, [.ref rd, .ref tx, .ref bu, .ref st, .ref pa, .int 0, .int 0, .null, .null])), (bu, .inl (τ 0, 1001, .inl (f))), (st, .inr (7, [.int 0, .int 60, .int 0, .int 576, .int 27, .int (-1), .int 1, .int 0, .ref aL, .ref aD, .ref aH, .ref pk, .ref nt, .ref ac])), (aL, .inl (τ 3, 6, .inr (.inr (.inr (.inr (fL)))))), (l0, .inr (3, [.int 576, .int 1, .int 0, .int 0, .int 0, .int 0, .int 0, .int 0]))] sz) (fun (g : Nat → Int32) => [(x, .inr (9, [.ref rd, .ref tx, .ref bu, .ref st, .ref pa, .int 0, .int 0, .null, .null])), (bu, .inl (τ 0, 1001, .inl (g))), (st, .inr (7, [.int 0, .int 60, .int 0, .int 576, .int 27, .int (-1), .int 1, .int 0, .ref aL, .ref aD, .ref aH, .ref pk, .ref nt, .ref ac])), (aL, .inl (τ 3, 6, .inr (.inr (.inr (.inr (fL)))))), (l0, .inr (3, [.int 576, .int 1, .int 0, .int 0, .int 0, .int 0, .int 0, .int 0]))])) (va_A [(x, .inr (9, [.ref rd, .ref tx, .ref bu, .ref st, .ref pa, .int 0, .int 0, .null, .null])), (bu, .inl (τ 0, 1001, .inl (f))), (st, .inr (7, [.int 0, .int 60, .int 0, .int 576, .int 27, .int (-1), .int 1, .int 0, .ref aL, .ref aD, .ref aH, .ref pk, .ref nt, .ref ac])), (aL, .inl (τ 3, 6, .inr (.inr (.inr (.inr (fL)))))), (l0, .inr (3, [.int 576, .int 1, .int 0, .int 0, .int 0, .int 0, .int 0, .int 0]))] sz)) 0 0 (va_A [(x, .inr (9, [.ref rd, .ref tx, .ref bu, .ref st, .ref pa, .int 0, .int 0, .null, .null])), (bu, .inl (τ 0, 1001, .inl (f))), (st, .inr (7, [.int 0, .int 60, .int 0, .int 576, .int 27, .int (-1), .int 1, .int 0, .ref aL, .ref aD, .ref aH, .ref pk, .ref nt, .ref ac])), (aL, .inl (τ 3, 6, .inr (.inr (.inr (.inr (fL)))))), (l0, .inr (3, [.int 576, .int 1, .int 0, .int 0, .int 0, .int 0, .int 0, .int 0]))] sz) := by
  refine bodyW (by decide) (Nat.le_of_ble_eq_true rfl) (fun p e s m below meth c ls B hr hlk hin hsz Y hl => ?_)
  have hl : lv_has ls 9 [(0, .ref x), (1, .int 0), (2, .int (nI b)), (3, .int 0)] := hl
  have B : CallFix p m c cX9_addLinkBurden 9 s _ wALL RX9 := B
  generalize va_A [(x, .inr (9, [.ref rd, .ref tx, .ref bu, .ref st, .ref pa, .int 0, .int 0, .null, .null])), (bu, .inl (τ 0, 1001, .inl (f))), (st, .inr (7, [.int 0, .int 60, .int 0, .int 576, .int 27, .int (-1), .int 1, .int 0, .ref aL, .ref aD, .ref aH, .ref pk, .ref nt, .ref ac])), (aL, .inl (τ 3, 6, .inr (.inr (.inr (.inr (fL)))))), (l0, .inr (3, [.int 576, .int 1, .int 0, .int 0, .int 0, .int 0, .int 0, .int 0]))] sz = A at Y ⊢
  refine lv_aload_n B.1 B.2.1 dX9_addLinkBurden_0 rfl (lv_at hl 0 rfl) ?_
  refine gf_X9_30 B Y 0 rfl rfl dX9_addLinkBurden_1 ?_
  refine lv_iload_n B.1 B.2.1 dX9_addLinkBurden_4 rfl (lv_at hl 1 rfl) ?_
  refine retQ (wc := [(st, .inr (7, [.int 0, .int 60, .int 0, .int 576, .int 27, .int (-1), .int 1, .int 0, .ref aL, .ref aD, .ref aH, .ref pk, .ref nt, .ref ac])), (aL, .inl (τ 3, 6, .inr (.inr (.inr (.inr (fL))))))]) (wr := [(x, .inr (9, [.ref rd, .ref tx, .ref bu, .ref st, .ref pa, .int 0, .int 0, .null, .null])), (bu, .inl (τ 0, 1001, .inl (f))), (l0, .inr (3, [.int 576, .int 1, .int 0, .int 0, .int 0, .int 0, .int 0, .int 0]))]) Y [2, 3] [0, 1, 4] rfl rfl (by decide) (by decide) (rV (As := [.int 0]) (rest := []) (q0 := 2) B Y [2, 3] (by decide) rfl (k_X7_linkAt l D τ _ st 0 60 0 576 27 (-1) 0 aL aD aH pk nt ac fL l0 hS.1 0) rfl rfl q_499 q_452 q_453 q_4 q_454 rfl rfl hd_X7_linkAt ⟨(Nat.le_of_ble_eq_true rfl), (Nat.le_of_ble_eq_true rfl)⟩ rfl hl.1 rfl (Nat.le_of_ble_eq_true rfl) dX9_addLinkBurden_5 ⟨(Nat.le_of_ble_eq_true rfl), (Nat.le_of_ble_eq_true rfl)⟩) (fun r u H locs hw Y => ?_)
  have hw : r = some l0 := hw.1 rfl
  subst hw
  show W _ _ _ _ _ _ _ _ _ _ _ _ _ _ _ (F0 m _ ls (.ref l0 :: []))
  have Y : Wd D τ s A s.heap [(x, .inr (9, [.ref rd, .ref tx, .ref bu, .ref st, .ref pa, .int 0, .int 0, .null, .null])), (bu, .inl (τ 0, 1001, .inl (f))), (l0, .inr (3, [.int 576, .int 1, .int 0, .int 0, .int 0, .int 0, .int 0, .int 0])), (st, .inr (7, [.int 0, .int 60, .int 0, .int 576, .int 27, .int (-1), .int 1, .int 0, .ref aL, .ref aD, .ref aH, .ref pk, .ref nt, .ref ac])), (aL, .inl (τ 3, 6, .inr (.inr (.inr (.inr (fL))))))] H _ := Y
  refine lv_astore (lv' := [(4, .ref l0), (0, .ref x), (1, .int 0), (2, .int (nI b)), (3, .int 0)]) B.1 B.2.1 dX9_addLinkBurden_8 hl (by decide) rfl (fun ls hl => ?_)
  refine lv_aload B.1 B.2.1 dX9_addLinkBurden_10 (lv_at hl 0 rfl) ?_
  refine lv_ifnonnull (tgt := 16) B.1 B.2.1 dX9_addLinkBurden_12 (by decide) ?_
  refine lv_aload B.1 B.2.1 dX9_addLinkBurden_16 (lv_at hl 0 rfl) ?_
  refine gf_X9_168 B Y 2 rfl rfl dX9_addLinkBurden_18 ?_
  refine retI (wc := []) (wr := [(x, .inr (9, [.ref rd, .ref tx, .ref bu, .ref st, .ref pa, .int 0, .int 0, .null, .null])), (bu, .inl (τ 0, 1001, .inl (f))), (l0, .inr (3, [.int 576, .int 1, .int 0, .int 0, .int 0, .int 0, .int 0, .int 0])), (st, .inr (7, [.int 0, .int 60, .int 0, .int 576, .int 27, .int (-1), .int 1, .int 0, .ref aL, .ref aD, .ref aH, .ref pk, .ref nt, .ref ac])), (aL, .inl (τ 3, 6, .inr (.inr (.inr (.inr (fL))))))]) Y [] [0, 1, 2, 3, 4] rfl rfl (by decide) (by decide) (rS (As := [.int 576]) (rest := []) B Y [] (by decide) rfl (k_fullOf l D τ _) q_653 q_654 q_1 q_655 rfl rfl hd_X9_fullOf ⟨(Nat.le_of_ble_eq_true rfl), (Nat.le_of_ble_eq_true rfl)⟩ rfl hl.1 rfl (Nat.le_of_ble_eq_true rfl) dX9_addLinkBurden_21 ⟨(Nat.le_of_ble_eq_true rfl), (Nat.le_of_ble_eq_true rfl)⟩) (fun r u H locs hw Y => ?_)
  have hw : r = 552 := hw
  subst hw
  have Y : Wd D τ s A s.heap [(x, .inr (9, [.ref rd, .ref tx, .ref bu, .ref st, .ref pa, .int 0, .int 0, .null, .null])), (bu, .inl (τ 0, 1001, .inl (f))), (l0, .inr (3, [.int 576, .int 1, .int 0, .int 0, .int 0, .int 0, .int 0, .int 0])), (st, .inr (7, [.int 0, .int 60, .int 0, .int 576, .int 27, .int (-1), .int 1, .int 0, .ref aL, .ref aD, .ref aH, .ref pk, .ref nt, .ref ac])), (aL, .inl (τ 3, 6, .inr (.inr (.inr (.inr (fL))))))] H _ := Y
  refine lv_istore (lv' := [(5, .int 552), (4, .ref l0), (0, .ref x), (1, .int 0), (2, .int (nI b)), (3, .int 0)]) B.1 B.2.1 dX9_addLinkBurden_24 hl (by decide) rfl (fun ls hl => ?_)
  refine lv_iload_n B.1 B.2.1 dX9_addLinkBurden_26 rfl (lv_at hl 4 rfl) ?_
  refine lv_istore (lv' := [(6, .int (nI b)), (5, .int 552), (4, .ref l0), (0, .ref x), (1, .int 0), (2, .int (nI b)), (3, .int 0)]) B.1 B.2.1 dX9_addLinkBurden_27 hl (by decide) rfl (fun ls hl => ?_)
  refine lp_alb1 x rd q0 q1 q2 q3 q4 tx to bu st pa aL aD aH l0 d0 p0 v0 p1 v1 p2 v2 p3 v3 pk k0 k1 k2 k3 k4 k5 k6 k7 k8 k9 nt n0 n1 n2 ac fL fD fH hS hb B (fun f1 H locs ls hG hl Y => ?_) b f _ _ _ (Nat.le_refl b) hA (fun j h1 h2 => absurd h1 (by omega)) (lv_sub hl [0, 1, 2, 3, 4, 5, 6] rfl) (Y.sub [0, 1, 3, 4, 2] (by decide) rfl)
  exact endV B hr hlk Y f1 hG [0, 1, 2, 3, 4] (by decide) rfl (Nat.le_of_ble_eq_true rfl) (Nat.le_of_ble_eq_true rfl) dX9_addLinkBurden_107

set_option maxHeartbeats 4000000 in
set_option maxRecDepth 100000 in
theorem lp_alb0 {p : Program} {l : Launch} {e : Env} {s : State} {m : MethodId} {args : Array Value} {below : List Frame} {meth : Method} {c : Code} {Q : State → Prop} {D : va_G} {τ : Nat → ClassId} {A : Nat → Prop} {H0 : Heap} (x rd q0 q1 q2 q3 q4 tx to bu st pa aL aD aH l0 d0 p0 v0 p1 v1 p2 v2 p3 v3 pk k0 k1 k2 k3 k4 k5 k6 k7 k8 k9 nt n0 n1 n2 ac : Nat) (fL fD fH : Nat → Option Nat) (hS : fL 0 = some l0 ∧ fD 0 = some d0 ∧ fH 0 = some p0 ∧ fH 1 = some p1 ∧ fH 2 = some p2 ∧ fH 3 = some p3) {b : Nat} (hb : b ≤ 1000) (B : CallFix p m c cX9_addLinkBurden 9 s args wALL RX9)
    (kx : ∀ (f : Nat → Int32) (H : Heap) (locs : List Loc) (ls : Array Slot), (∀ j : Nat, 0 < j → j ≤ b → f j = nI (bdN 0 1 j)) → lv_has ls 9 [(6, .int (nI 0)), (5, .int 552), (4, .ref l0), (0, .ref x), (1, .int 0), (2, .int (nI b)), (3, .int 1)] → Wd D τ s A H0 [(x, .inr (9, [.ref rd, .ref tx, .ref bu, .ref st, .ref pa, .int 0, .int 0, .null, .null])), (bu, .inl (τ 0, 1001, .inl (f))), (st, .inr (7, [.int 0, .int 60, .int 0, .int 576, .int 27, .int (-1), .int 1, .int 0, .ref aL, .ref aD, .ref aH, .ref pk, .ref nt, .ref ac])), (aL, .inl (τ 3, 6, .inr (.inr (.inr (.inr (fL)))))), (l0, .inr (3, [.int 576, .int 1, .int 0, .int 0, .int 0, .int 0, .int 0, .int 0]))] H locs → W p l e ({ frames := 3, cells := 0, slots := 0, locals := 83 } : Room) s m args below meth c H locs 0 0 Q (F0 m 107 ls [])) :
    ∀ (k : Nat) (f : Nat → Int32) (H : Heap) (locs : List Loc) (ls : Array Slot), k ≤ b → (∀ j : Nat, j ≤ k → f j = 0) → (∀ j : Nat, k < j → j ≤ b → f j = nI (bdN 0 1 j)) → lv_has ls 9 [(6, .int (nI k)), (5, .int 552), (4, .ref l0), (0, .ref x), (1, .int 0), (2, .int (nI b)), (3, .int 1)] → Wd D τ s A H0 [(x, .inr (9, [.ref rd, .ref tx, .ref bu, .ref st, .ref pa, .int 0, .int 0, .null, .null])), (bu, .inl (τ 0, 1001, .inl (f))), (st, .inr (7, [.int 0, .int 60, .int 0, .int 576, .int 27, .int (-1), .int 1, .int 0, .ref aL, .ref aD, .ref aH, .ref pk, .ref nt, .ref ac])), (aL, .inl (τ 3, 6, .inr (.inr (.inr (.inr (fL)))))), (l0, .inr (3, [.int 576, .int 1, .int 0, .int 0, .int 0, .int 0, .int 0, .int 0]))] H locs → W p l e ({ frames := 3, cells := 0, slots := 0, locals := 83 } : Room) s m args below meth c H locs 0 0 Q (F0 m 29 ls []) := by
  intro k
  induction k with
  | zero =>
    intro f H locs ls hk hA hB hl Y
    refine lv_iload B.1 B.2.1 dX9_addLinkBurden_29 (lv_at hl 0 rfl) ?_
    refine lv_iconst (v := 1) B.1 B.2.1 dX9_addLinkBurden_31 (by decide) ?_
    refine lv_icmp_lt (tgt := 107) B.1 B.2.1 dX9_addLinkBurden_32 (by decide) (fun _ => ?_) (fun h => absurd (by decide) h)
    exact kx f H locs ls hB (lv_sub hl [0, 1, 2, 3, 4, 5, 6] rfl) Y
  | succ k ih =>
    intro f H locs ls hk hA hB hl Y
    rcases Nat.lt_or_ge 556 (k + 1) with hc | hc
    · refine lv_iload B.1 B.2.1 dX9_addLinkBurden_29 (lv_at hl 0 rfl) ?_
      refine lv_iconst (v := 1) B.1 B.2.1 dX9_addLinkBurden_31 (by decide) ?_
      refine lv_icmp_lt (tgt := 107) B.1 B.2.1 dX9_addLinkBurden_32 (by decide) (fun h => absurd h (nI_nlt (b := 1) (by omega) (by omega))) (fun _ => ?_)
      refine lv_iload B.1 B.2.1 dX9_addLinkBurden_35 (lv_at hl 0 rfl) ?_
      refine lv_aload B.1 B.2.1 dX9_addLinkBurden_37 (lv_at hl 2 rfl) ?_
      refine gf_X9_168 B Y 4 rfl rfl dX9_addLinkBurden_39 ?_
      refine retI (wc := []) (wr := [(x, .inr (9, [.ref rd, .ref tx, .ref bu, .ref st, .ref pa, .int 0, .int 0, .null, .null])), (bu, .inl (τ 0, 1001, .inl (f))), (st, .inr (7, [.int 0, .int 60, .int 0, .int 576, .int 27, .int (-1), .int 1, .int 0, .ref aL, .ref aD, .ref aH, .ref pk, .ref nt, .ref ac])), (aL, .inl (τ 3, 6, .inr (.inr (.inr (.inr (fL)))))), (l0, .inr (3, [.int 576, .int 1, .int 0, .int 0, .int 0, .int 0, .int 0, .int 0]))]) Y [] [0, 1, 2, 3, 4] rfl rfl (by decide) (by decide) (rS (As := [.int (nI (k + 1)), .int 576]) (rest := []) B Y [] (by decide) rfl (k_cutsOf1 l D τ _ (k + 1) (by omega) (by omega)) q_1309 q_651 q_1 q_652 rfl rfl hd_X9_cutsOf ⟨(Nat.le_of_ble_eq_true rfl), (Nat.le_of_ble_eq_true rfl)⟩ rfl hl.1 rfl (Nat.le_of_ble_eq_true rfl) dX9_addLinkBurden_42 ⟨(Nat.le_of_ble_eq_true rfl), (Nat.le_of_ble_eq_true rfl)⟩) (fun r u H locs hw Y => ?_)
      have hw : r = 1 := hw
      subst hw
      have Y : Wd D τ s A H0 [(x, .inr (9, [.ref rd, .ref tx, .ref bu, .ref st, .ref pa, .int 0, .int 0, .null, .null])), (bu, .inl (τ 0, 1001, .inl (f))), (st, .inr (7, [.int 0, .int 60, .int 0, .int 576, .int 27, .int (-1), .int 1, .int 0, .ref aL, .ref aD, .ref aH, .ref pk, .ref nt, .ref ac])), (aL, .inl (τ 3, 6, .inr (.inr (.inr (.inr (fL)))))), (l0, .inr (3, [.int 576, .int 1, .int 0, .int 0, .int 0, .int 0, .int 0, .int 0]))] H _ := Y
      refine lv_istore (lv' := [(7, .int 1), (6, .int (nI (k + 1))), (5, .int 552), (4, .ref l0), (0, .ref x), (1, .int 0), (2, .int (nI b)), (3, .int 1)]) B.1 B.2.1 dX9_addLinkBurden_45 hl (by decide) rfl (fun ls hl => ?_)
      refine lv_iload B.1 B.2.1 dX9_addLinkBurden_47 (lv_at hl 0 rfl) ?_
      refine lv_aload_n B.1 B.2.1 dX9_addLinkBurden_49 rfl (lv_at hl 4 rfl) ?_
      refine gf_X9_23 B Y 0 rfl rfl dX9_addLinkBurden_50 ?_
      refine lv_iload B.1 B.2.1 dX9_addLinkBurden_53 (lv_at hl 2 rfl) ?_
      refine retI (wc := [(bu, .inl (τ 0, 1001, .inl (f)))]) (wr := [(x, .inr (9, [.ref rd, .ref tx, .ref bu, .ref st, .ref pa, .int 0, .int 0, .null, .null])), (st, .inr (7, [.int 0, .int 60, .int 0, .int 576, .int 27, .int (-1), .int 1, .int 0, .ref aL, .ref aD, .ref aH, .ref pk, .ref nt, .ref ac])), (aL, .inl (τ 3, 6, .inr (.inr (.inr (.inr (fL)))))), (l0, .inr (3, [.int 576, .int 1, .int 0, .int 0, .int 0, .int 0, .int 0, .int 0]))]) Y [1] [0, 2, 3, 4] rfl rfl (by decide) (by decide) (rS (As := [.ref bu, .int 552]) (rest := [.int 1]) B Y [1] (by decide) rfl (k_valueIn l D τ _ bu 1001 (f) (by decide) 552 552 rfl (by decide)) q_1236 q_618 q_1 q_619 rfl rfl hd_X9_valueIn ⟨(Nat.le_of_ble_eq_true rfl), (Nat.le_of_ble_eq_true rfl)⟩ rfl hl.1 rfl (Nat.le_of_ble_eq_true rfl) dX9_addLinkBurden_55 ⟨(Nat.le_of_ble_eq_true rfl), (Nat.le_of_ble_eq_true rfl)⟩) (fun r u H locs hw Y => ?_)
      have hw : r = 0 := (hw : r = _).trans (hA 552 (by omega))
      subst hw
      have Y : Wd D τ s A H0 [(x, .inr (9, [.ref rd, .ref tx, .ref bu, .ref st, .ref pa, .int 0, .int 0, .null, .null])), (st, .inr (7, [.int 0, .int 60, .int 0, .int 576, .int 27, .int (-1), .int 1, .int 0, .ref aL, .ref aD, .ref aH, .ref pk, .ref nt, .ref ac])), (aL, .inl (τ 3, 6, .inr (.inr (.inr (.inr (fL)))))), (l0, .inr (3, [.int 576, .int 1, .int 0, .int 0, .int 0, .int 0, .int 0, .int 0])), (bu, .inl (τ 0, 1001, .inl (f)))] H _ := Y
      refine lv_imul B.1 B.2.1 dX9_addLinkBurden_58 ?_
      refine lv_cv (v := 0) (by decide) ?_
      refine lv_aload_n B.1 B.2.1 dX9_addLinkBurden_59 rfl (lv_at hl 4 rfl) ?_
      refine gf_X9_23 B Y 0 rfl rfl dX9_addLinkBurden_60 ?_
      refine lv_iload B.1 B.2.1 dX9_addLinkBurden_63 (lv_at hl 1 rfl) ?_
      refine lv_iload B.1 B.2.1 dX9_addLinkBurden_65 (lv_at hl 0 rfl) ?_
      refine lv_iload B.1 B.2.1 dX9_addLinkBurden_67 (lv_at hl 2 rfl) ?_
      refine lv_imul B.1 B.2.1 dX9_addLinkBurden_69 ?_
      refine lv_cv (v := 552) (by decide) ?_
      refine lv_isub B.1 B.2.1 dX9_addLinkBurden_70 ?_
      refine lv_cv (v := (nI (k + 1 - 552))) (pk_sub (b := 552) (by omega)) ?_
      refine retI (wc := [(bu, .inl (τ 0, 1001, .inl (f)))]) (wr := [(x, .inr (9, [.ref rd, .ref tx, .ref bu, .ref st, .ref pa, .int 0, .int 0, .null, .null])), (st, .inr (7, [.int 0, .int 60, .int 0, .int 576, .int 27, .int (-1), .int 1, .int 0, .ref aL, .ref aD, .ref aH, .ref pk, .ref nt, .ref ac])), (aL, .inl (τ 3, 6, .inr (.inr (.inr (.inr (fL)))))), (l0, .inr (3, [.int 576, .int 1, .int 0, .int 0, .int 0, .int 0, .int 0, .int 0]))]) Y [4] [0, 1, 2, 3] rfl rfl (by decide) (by decide) (rS (As := [.ref bu, .int (nI (k + 1 - 552))]) (rest := [.int 0]) B Y [4] (by decide) rfl (k_valueIn l D τ _ bu 1001 (f) (by decide) (nI (k + 1 - 552)) (k + 1 - 552) rfl (by omega)) q_1236 q_618 q_1 q_619 rfl rfl hd_X9_valueIn ⟨(Nat.le_of_ble_eq_true rfl), (Nat.le_of_ble_eq_true rfl)⟩ rfl hl.1 rfl (Nat.le_of_ble_eq_true rfl) dX9_addLinkBurden_71 ⟨(Nat.le_of_ble_eq_true rfl), (Nat.le_of_ble_eq_true rfl)⟩) (fun r u H locs hw Y => ?_)
      have hw : r = 0 := (hw : r = _).trans (hA _ (by omega))
      subst hw
      have Y : Wd D τ s A H0 [(x, .inr (9, [.ref rd, .ref tx, .ref bu, .ref st, .ref pa, .int 0, .int 0, .null, .null])), (st, .inr (7, [.int 0, .int 60, .int 0, .int 576, .int 27, .int (-1), .int 1, .int 0, .ref aL, .ref aD, .ref aH, .ref pk, .ref nt, .ref ac])), (aL, .inl (τ 3, 6, .inr (.inr (.inr (.inr (fL)))))), (l0, .inr (3, [.int 576, .int 1, .int 0, .int 0, .int 0, .int 0, .int 0, .int 0])), (bu, .inl (τ 0, 1001, .inl (f)))] H _ := Y
      refine lv_iadd B.1 B.2.1 dX9_addLinkBurden_74 ?_
      refine lv_cv (v := 0) (by decide) ?_
      refine lv_istore (lv' := [(8, .int 0), (7, .int 1), (6, .int (nI (k + 1))), (5, .int 552), (4, .ref l0), (0, .ref x), (1, .int 0), (2, .int (nI b)), (3, .int 1)]) B.1 B.2.1 dX9_addLinkBurden_75 hl (by decide) rfl (fun ls hl => ?_)
      refine lv_aload_n B.1 B.2.1 dX9_addLinkBurden_77 rfl (lv_at hl 5 rfl) ?_
      refine gf_X9_23 B Y 0 rfl rfl dX9_addLinkBurden_78 ?_
      refine lv_iload B.1 B.2.1 dX9_addLinkBurden_81 (lv_at hl 2 rfl) ?_
      refine lv_iload B.1 B.2.1 dX9_addLinkBurden_83 (lv_at hl 0 rfl) ?_
      refine lv_iload_n B.1 B.2.1 dX9_addLinkBurden_85 rfl (lv_at hl 8 rfl) ?_
      refine lv_iload B.1 B.2.1 dX9_addLinkBurden_86 (lv_at hl 2 rfl) ?_
      refine lv_iload B.1 B.2.1 dX9_addLinkBurden_88 (lv_at hl 1 rfl) ?_
      refine lv_iconst (v := 1) B.1 B.2.1 dX9_addLinkBurden_90 (by decide) ?_
      refine lv_iadd B.1 B.2.1 dX9_addLinkBurden_91 ?_
      refine lv_cv (v := 2) (by decide) ?_
      refine lv_bipush (v := 20) B.1 B.2.1 dX9_addLinkBurden_92 (by decide) ?_
      refine lv_imul B.1 B.2.1 dX9_addLinkBurden_94 ?_
      refine lv_cv (v := 40) (by decide) ?_
      refine lv_iadd B.1 B.2.1 dX9_addLinkBurden_95 ?_
      refine lv_cv (v := (nI (k + 1 + 40))) (nI_add (k + 1) 40) ?_
      refine lv_imul B.1 B.2.1 dX9_addLinkBurden_96 ?_
      refine lv_cv (v := (nI (k + 1 + 40))) (Int32.one_mul _) ?_
      refine lv_iadd B.1 B.2.1 dX9_addLinkBurden_97 ?_
      refine lv_cv (v := (nI (k + 1 + 40))) (Int32.zero_add _) ?_
      refine retV (wc := [(bu, .inl (τ 0, 1001, .inl (f)))]) (wr := [(x, .inr (9, [.ref rd, .ref tx, .ref bu, .ref st, .ref pa, .int 0, .int 0, .null, .null])), (st, .inr (7, [.int 0, .int 60, .int 0, .int 576, .int 27, .int (-1), .int 1, .int 0, .ref aL, .ref aD, .ref aH, .ref pk, .ref nt, .ref ac])), (aL, .inl (τ 3, 6, .inr (.inr (.inr (.inr (fL)))))), (l0, .inr (3, [.int 576, .int 1, .int 0, .int 0, .int 0, .int 0, .int 0, .int 0]))]) Y [4] [0, 1, 2, 3] rfl rfl (by decide) (by decide) (rS (As := [.ref bu, .int (nI (k + 1)), .int (nI (k + 1 + 40))]) (rest := []) B Y [4] (by decide) rfl (k_setIn l D τ _ bu 1001 (f) (by decide) (nI (k + 1)) (nI (k + 1 + 40)) (k + 1) rfl (by omega)) q_1310 q_648 q_1 q_649 rfl rfl hd_X9_setIn ⟨(Nat.le_of_ble_eq_true rfl), (Nat.le_of_ble_eq_true rfl)⟩ rfl hl.1 rfl (Nat.le_of_ble_eq_true rfl) dX9_addLinkBurden_98 ⟨(Nat.le_of_ble_eq_true rfl), (Nat.le_of_ble_eq_true rfl)⟩) (fun u H locs hw Y => ?_)
      have Y : Wd D τ s A H0 [(x, .inr (9, [.ref rd, .ref tx, .ref bu, .ref st, .ref pa, .int 0, .int 0, .null, .null])), (st, .inr (7, [.int 0, .int 60, .int 0, .int 576, .int 27, .int (-1), .int 1, .int 0, .ref aL, .ref aD, .ref aH, .ref pk, .ref nt, .ref ac])), (aL, .inl (τ 3, 6, .inr (.inr (.inr (.inr (fL)))))), (l0, .inr (3, [.int 576, .int 1, .int 0, .int 0, .int 0, .int 0, .int 0, .int 0])), (bu, .inl (τ 0, 1001, .inl (upd (f) (k + 1) (nI (k + 1 + 40)))))] H _ := Y
      refine lv_iinc (v := (nI k)) (lv' := [(6, .int (nI k)), (8, .int 0), (7, .int 1), (5, .int 552), (4, .ref l0), (0, .ref x), (1, .int 0), (2, .int (nI b)), (3, .int 1)]) B.1 B.2.1 dX9_addLinkBurden_101 hl (k := 2) rfl (pk_m1 k) (by decide) rfl (fun ls hl => ?_)
      refine lv_goto (tgt := 29) B.1 B.2.1 dX9_addLinkBurden_104 (by decide) ?_
      refine ih (upd (f) (k + 1) (nI (k + 1 + 40))) H locs ls (by omega) (fun j hj => (pk_un (by omega)).trans (hA j (by omega))) (fun j h1 h2 => ?_) (lv_sub hl [0, 3, 4, 5, 6, 7, 8] rfl) (Y.sub [0, 4, 1, 2, 3] (by decide) rfl)
      by_cases e : j = k + 1
      · rw [e, pk_us]; unfold bdN cutN; rw [if_neg (by omega)]; congr 1; omega
      · exact (pk_un e).trans (hB j (by omega) h2)
    · refine lv_iload B.1 B.2.1 dX9_addLinkBurden_29 (lv_at hl 0 rfl) ?_
      refine lv_iconst (v := 1) B.1 B.2.1 dX9_addLinkBurden_31 (by decide) ?_
      refine lv_icmp_lt (tgt := 107) B.1 B.2.1 dX9_addLinkBurden_32 (by decide) (fun h => absurd h (nI_nlt (b := 1) (by omega) (by omega))) (fun _ => ?_)
      refine lv_iload B.1 B.2.1 dX9_addLinkBurden_35 (lv_at hl 0 rfl) ?_
      refine lv_aload B.1 B.2.1 dX9_addLinkBurden_37 (lv_at hl 2 rfl) ?_
      refine gf_X9_168 B Y 4 rfl rfl dX9_addLinkBurden_39 ?_
      refine retI (wc := []) (wr := [(x, .inr (9, [.ref rd, .ref tx, .ref bu, .ref st, .ref pa, .int 0, .int 0, .null, .null])), (bu, .inl (τ 0, 1001, .inl (f))), (st, .inr (7, [.int 0, .int 60, .int 0, .int 576, .int 27, .int (-1), .int 1, .int 0, .ref aL, .ref aD, .ref aH, .ref pk, .ref nt, .ref ac])), (aL, .inl (τ 3, 6, .inr (.inr (.inr (.inr (fL)))))), (l0, .inr (3, [.int 576, .int 1, .int 0, .int 0, .int 0, .int 0, .int 0, .int 0]))]) Y [] [0, 1, 2, 3, 4] rfl rfl (by decide) (by decide) (rS (As := [.int (nI (k + 1)), .int 576]) (rest := []) B Y [] (by decide) rfl (k_cutsOf0 l D τ _ (k + 1) hc) q_1309 q_651 q_1 q_652 rfl rfl hd_X9_cutsOf ⟨(Nat.le_of_ble_eq_true rfl), (Nat.le_of_ble_eq_true rfl)⟩ rfl hl.1 rfl (Nat.le_of_ble_eq_true rfl) dX9_addLinkBurden_42 ⟨(Nat.le_of_ble_eq_true rfl), (Nat.le_of_ble_eq_true rfl)⟩) (fun r u H locs hw Y => ?_)
      have hw : r = 0 := hw
      subst hw
      have Y : Wd D τ s A H0 [(x, .inr (9, [.ref rd, .ref tx, .ref bu, .ref st, .ref pa, .int 0, .int 0, .null, .null])), (bu, .inl (τ 0, 1001, .inl (f))), (st, .inr (7, [.int 0, .int 60, .int 0, .int 576, .int 27, .int (-1), .int 1, .int 0, .ref aL, .ref aD, .ref aH, .ref pk, .ref nt, .ref ac])), (aL, .inl (τ 3, 6, .inr (.inr (.inr (.inr (fL)))))), (l0, .inr (3, [.int 576, .int 1, .int 0, .int 0, .int 0, .int 0, .int 0, .int 0]))] H _ := Y
      refine lv_istore (lv' := [(7, .int 0), (6, .int (nI (k + 1))), (5, .int 552), (4, .ref l0), (0, .ref x), (1, .int 0), (2, .int (nI b)), (3, .int 1)]) B.1 B.2.1 dX9_addLinkBurden_45 hl (by decide) rfl (fun ls hl => ?_)
      refine lv_iload B.1 B.2.1 dX9_addLinkBurden_47 (lv_at hl 0 rfl) ?_
      refine lv_aload_n B.1 B.2.1 dX9_addLinkBurden_49 rfl (lv_at hl 4 rfl) ?_
      refine gf_X9_23 B Y 0 rfl rfl dX9_addLinkBurden_50 ?_
      refine lv_iload B.1 B.2.1 dX9_addLinkBurden_53 (lv_at hl 2 rfl) ?_
      refine retI (wc := [(bu, .inl (τ 0, 1001, .inl (f)))]) (wr := [(x, .inr (9, [.ref rd, .ref tx, .ref bu, .ref st, .ref pa, .int 0, .int 0, .null, .null])), (st, .inr (7, [.int 0, .int 60, .int 0, .int 576, .int 27, .int (-1), .int 1, .int 0, .ref aL, .ref aD, .ref aH, .ref pk, .ref nt, .ref ac])), (aL, .inl (τ 3, 6, .inr (.inr (.inr (.inr (fL)))))), (l0, .inr (3, [.int 576, .int 1, .int 0, .int 0, .int 0, .int 0, .int 0, .int 0]))]) Y [1] [0, 2, 3, 4] rfl rfl (by decide) (by decide) (rS (As := [.ref bu, .int 552]) (rest := [.int 0]) B Y [1] (by decide) rfl (k_valueIn l D τ _ bu 1001 (f) (by decide) 552 552 rfl (by decide)) q_1236 q_618 q_1 q_619 rfl rfl hd_X9_valueIn ⟨(Nat.le_of_ble_eq_true rfl), (Nat.le_of_ble_eq_true rfl)⟩ rfl hl.1 rfl (Nat.le_of_ble_eq_true rfl) dX9_addLinkBurden_55 ⟨(Nat.le_of_ble_eq_true rfl), (Nat.le_of_ble_eq_true rfl)⟩) (fun r u H locs hw Y => ?_)
      have hw : r = ((f) 552) := hw
      subst hw
      have Y : Wd D τ s A H0 [(x, .inr (9, [.ref rd, .ref tx, .ref bu, .ref st, .ref pa, .int 0, .int 0, .null, .null])), (st, .inr (7, [.int 0, .int 60, .int 0, .int 576, .int 27, .int (-1), .int 1, .int 0, .ref aL, .ref aD, .ref aH, .ref pk, .ref nt, .ref ac])), (aL, .inl (τ 3, 6, .inr (.inr (.inr (.inr (fL)))))), (l0, .inr (3, [.int 576, .int 1, .int 0, .int 0, .int 0, .int 0, .int 0, .int 0])), (bu, .inl (τ 0, 1001, .inl (f)))] H _ := Y
      refine lv_imul B.1 B.2.1 dX9_addLinkBurden_58 ?_
      refine lv_cv (v := 0) (Int32.zero_mul) ?_
      refine lv_aload_n B.1 B.2.1 dX9_addLinkBurden_59 rfl (lv_at hl 4 rfl) ?_
      refine gf_X9_23 B Y 0 rfl rfl dX9_addLinkBurden_60 ?_
      refine lv_iload B.1 B.2.1 dX9_addLinkBurden_63 (lv_at hl 1 rfl) ?_
      refine lv_iload B.1 B.2.1 dX9_addLinkBurden_65 (lv_at hl 0 rfl) ?_
      refine lv_iload B.1 B.2.1 dX9_addLinkBurden_67 (lv_at hl 2 rfl) ?_
      refine lv_imul B.1 B.2.1 dX9_addLinkBurden_69 ?_
      refine lv_cv (v := 0) (by decide) ?_
      refine lv_isub B.1 B.2.1 dX9_addLinkBurden_70 ?_
      refine lv_cv (v := (nI (k + 1))) (Int32.sub_zero _) ?_
      refine retI (wc := [(bu, .inl (τ 0, 1001, .inl (f)))]) (wr := [(x, .inr (9, [.ref rd, .ref tx, .ref bu, .ref st, .ref pa, .int 0, .int 0, .null, .null])), (st, .inr (7, [.int 0, .int 60, .int 0, .int 576, .int 27, .int (-1), .int 1, .int 0, .ref aL, .ref aD, .ref aH, .ref pk, .ref nt, .ref ac])), (aL, .inl (τ 3, 6, .inr (.inr (.inr (.inr (fL)))))), (l0, .inr (3, [.int 576, .int 1, .int 0, .int 0, .int 0, .int 0, .int 0, .int 0]))]) Y [4] [0, 1, 2, 3] rfl rfl (by decide) (by decide) (rS (As := [.ref bu, .int (nI (k + 1))]) (rest := [.int 0]) B Y [4] (by decide) rfl (k_valueIn l D τ _ bu 1001 (f) (by decide) (nI (k + 1)) (k + 1) rfl (by omega)) q_1236 q_618 q_1 q_619 rfl rfl hd_X9_valueIn ⟨(Nat.le_of_ble_eq_true rfl), (Nat.le_of_ble_eq_true rfl)⟩ rfl hl.1 rfl (Nat.le_of_ble_eq_true rfl) dX9_addLinkBurden_71 ⟨(Nat.le_of_ble_eq_true rfl), (Nat.le_of_ble_eq_true rfl)⟩) (fun r u H locs hw Y => ?_)
      have hw : r = 0 := (hw : r = _).trans (hA _ (by omega))
      subst hw
      have Y : Wd D τ s A H0 [(x, .inr (9, [.ref rd, .ref tx, .ref bu, .ref st, .ref pa, .int 0, .int 0, .null, .null])), (st, .inr (7, [.int 0, .int 60, .int 0, .int 576, .int 27, .int (-1), .int 1, .int 0, .ref aL, .ref aD, .ref aH, .ref pk, .ref nt, .ref ac])), (aL, .inl (τ 3, 6, .inr (.inr (.inr (.inr (fL)))))), (l0, .inr (3, [.int 576, .int 1, .int 0, .int 0, .int 0, .int 0, .int 0, .int 0])), (bu, .inl (τ 0, 1001, .inl (f)))] H _ := Y
      refine lv_iadd B.1 B.2.1 dX9_addLinkBurden_74 ?_
      refine lv_cv (v := 0) (by decide) ?_
      refine lv_istore (lv' := [(8, .int 0), (7, .int 0), (6, .int (nI (k + 1))), (5, .int 552), (4, .ref l0), (0, .ref x), (1, .int 0), (2, .int (nI b)), (3, .int 1)]) B.1 B.2.1 dX9_addLinkBurden_75 hl (by decide) rfl (fun ls hl => ?_)
      refine lv_aload_n B.1 B.2.1 dX9_addLinkBurden_77 rfl (lv_at hl 5 rfl) ?_
      refine gf_X9_23 B Y 0 rfl rfl dX9_addLinkBurden_78 ?_
      refine lv_iload B.1 B.2.1 dX9_addLinkBurden_81 (lv_at hl 2 rfl) ?_
      refine lv_iload B.1 B.2.1 dX9_addLinkBurden_83 (lv_at hl 0 rfl) ?_
      refine lv_iload_n B.1 B.2.1 dX9_addLinkBurden_85 rfl (lv_at hl 8 rfl) ?_
      refine lv_iload B.1 B.2.1 dX9_addLinkBurden_86 (lv_at hl 2 rfl) ?_
      refine lv_iload B.1 B.2.1 dX9_addLinkBurden_88 (lv_at hl 1 rfl) ?_
      refine lv_iconst (v := 1) B.1 B.2.1 dX9_addLinkBurden_90 (by decide) ?_
      refine lv_iadd B.1 B.2.1 dX9_addLinkBurden_91 ?_
      refine lv_cv (v := 1) (by decide) ?_
      refine lv_bipush (v := 20) B.1 B.2.1 dX9_addLinkBurden_92 (by decide) ?_
      refine lv_imul B.1 B.2.1 dX9_addLinkBurden_94 ?_
      refine lv_cv (v := 20) (by decide) ?_
      refine lv_iadd B.1 B.2.1 dX9_addLinkBurden_95 ?_
      refine lv_cv (v := (nI (k + 1 + 20))) (nI_add (k + 1) 20) ?_
      refine lv_imul B.1 B.2.1 dX9_addLinkBurden_96 ?_
      refine lv_cv (v := (nI (k + 1 + 20))) (Int32.one_mul _) ?_
      refine lv_iadd B.1 B.2.1 dX9_addLinkBurden_97 ?_
      refine lv_cv (v := (nI (k + 1 + 20))) (Int32.zero_add _) ?_
      refine retV (wc := [(bu, .inl (τ 0, 1001, .inl (f)))]) (wr := [(x, .inr (9, [.ref rd, .ref tx, .ref bu, .ref st, .ref pa, .int 0, .int 0, .null, .null])), (st, .inr (7, [.int 0, .int 60, .int 0, .int 576, .int 27, .int (-1), .int 1, .int 0, .ref aL, .ref aD, .ref aH, .ref pk, .ref nt, .ref ac])), (aL, .inl (τ 3, 6, .inr (.inr (.inr (.inr (fL)))))), (l0, .inr (3, [.int 576, .int 1, .int 0, .int 0, .int 0, .int 0, .int 0, .int 0]))]) Y [4] [0, 1, 2, 3] rfl rfl (by decide) (by decide) (rS (As := [.ref bu, .int (nI (k + 1)), .int (nI (k + 1 + 20))]) (rest := []) B Y [4] (by decide) rfl (k_setIn l D τ _ bu 1001 (f) (by decide) (nI (k + 1)) (nI (k + 1 + 20)) (k + 1) rfl (by omega)) q_1310 q_648 q_1 q_649 rfl rfl hd_X9_setIn ⟨(Nat.le_of_ble_eq_true rfl), (Nat.le_of_ble_eq_true rfl)⟩ rfl hl.1 rfl (Nat.le_of_ble_eq_true rfl) dX9_addLinkBurden_98 ⟨(Nat.le_of_ble_eq_true rfl), (Nat.le_of_ble_eq_true rfl)⟩) (fun u H locs hw Y => ?_)
      have Y : Wd D τ s A H0 [(x, .inr (9, [.ref rd, .ref tx, .ref bu, .ref st, .ref pa, .int 0, .int 0, .null, .null])), (st, .inr (7, [.int 0, .int 60, .int 0, .int 576, .int 27, .int (-1), .int 1, .int 0, .ref aL, .ref aD, .ref aH, .ref pk, .ref nt, .ref ac])), (aL, .inl (τ 3, 6, .inr (.inr (.inr (.inr (fL)))))), (l0, .inr (3, [.int 576, .int 1, .int 0, .int 0, .int 0, .int 0, .int 0, .int 0])), (bu, .inl (τ 0, 1001, .inl (upd (f) (k + 1) (nI (k + 1 + 20)))))] H _ := Y
      refine lv_iinc (v := (nI k)) (lv' := [(6, .int (nI k)), (8, .int 0), (7, .int 0), (5, .int 552), (4, .ref l0), (0, .ref x), (1, .int 0), (2, .int (nI b)), (3, .int 1)]) B.1 B.2.1 dX9_addLinkBurden_101 hl (k := 2) rfl (pk_m1 k) (by decide) rfl (fun ls hl => ?_)
      refine lv_goto (tgt := 29) B.1 B.2.1 dX9_addLinkBurden_104 (by decide) ?_
      refine ih (upd (f) (k + 1) (nI (k + 1 + 20))) H locs ls (by omega) (fun j hj => (pk_un (by omega)).trans (hA j (by omega))) (fun j h1 h2 => ?_) (lv_sub hl [0, 3, 4, 5, 6, 7, 8] rfl) (Y.sub [0, 4, 1, 2, 3] (by decide) rfl)
      by_cases e : j = k + 1
      · rw [e, pk_us]; unfold bdN cutN; rw [if_pos hc]; congr 1; omega
      · exact (pk_un e).trans (hB j (by omega) h2)

set_option maxHeartbeats 4000000 in
set_option maxRecDepth 100000 in
theorem k_addLinkBurden0 (l : Launch) (D : va_G) (τ : Nat → ClassId) (sz : Nat) (x rd q0 q1 q2 q3 q4 tx to bu st pa aL aD aH l0 d0 p0 v0 p1 v1 p2 v2 p3 v3 pk k0 k1 k2 k3 k4 k5 k6 k7 k8 k9 nt n0 n1 n2 ac : Nat) (fL fD fH : Nat → Option Nat) (hS : fL 0 = some l0 ∧ fD 0 = some d0 ∧ fH 0 = some p0 ∧ fH 1 = some p1 ∧ fH 2 = some p2 ∧ fH 3 = some p3) (b : Nat) (hb : b ≤ 1000) (f : Nat → Int32) (hA : (∀ j : Nat, j ≤ b → f j = 0)) : Met l yX9_addLinkBurden (Cond.code yX9_addLinkBurden cX9_addLinkBurden 9 none :: wALL) { frames := 3, cells := 0, slots := 0, locals := 83 } (Pw D τ [(x, .inr (9, [.ref rd, .ref tx, .ref bu, .ref st, .ref pa, .int 0, .int 0, .null, .null])), (bu, .inl (τ 0, 1001, .inl (f))), (st, .inr (7, [.int 0, .int 60, .int 0, .int 576, .int 27, .int (-1), .int 1, .int 0, .ref aL, .ref aD, .ref aH, .ref pk, .ref nt, .ref ac])), (aL, .inl (τ 3, 6, .inr (.inr (.inr (.inr (fL)))))), (l0, .inr (3, [.int 576, .int 1, .int 0, .int 0, .int 0, .int 0, .int 0, .int 0]))] sz [.ref x, .int 0, .int (nI b), .int 1]) (va_Qv (fun (g : Nat → Int32) => (∀ j : Nat, 0 < j → j ≤ b → g j = nI (bdN 0 1 j))) (Bw D (va_A [(x, .inr (9, [.ref rd, .ref tx, .ref bu, .ref st, .ref pa, .int 0, .int 0, .null, .null])), (bu, .inl (τ 0, 1001, .inl (f))), (st, .inr (7, [.int 0, .int 60, .int 0, .int 576, .int 27, .int (-1), .int 1, .int 0, .ref aL, .ref aD, .ref aH, .ref pk, .ref nt, .ref ac])), (aL, .inl (τ 3, 6, .inr (.inr (.inr (.inr (fL)))))), (l0, .inr (3, [.int 576, .int 1, .int 0, .int 0, .int 0, .int 0, .int 0, .int 0]))] sz) (fun (g : Nat → Int32) => [(x, .inr (9, [.ref rd, .ref tx, .ref bu, .ref st, .ref pa, .int 0, .int 0, .null, .null])), (bu, .inl (τ 0, 1001, .inl (g))), (st, .inr (7, [.int 0, .int 60, .int 0, .int 576, .int 27, .int (-1), .int 1, .int 0, .ref aL, .ref aD, .ref aH, .ref pk, .ref nt, .ref ac])), (aL, .inl (τ 3, 6, .inr (.inr (.inr (.inr (fL)))))), (l0, .inr (3, [.int 576, .int 1, .int 0, .int 0, .int 0, .int 0, .int 0, .int 0]))])) (va_A [(x, .inr (9, [.ref rd, .ref tx, .ref bu, .ref st, .ref pa, .int 0, .int 0, .null, .null])), (bu, .inl (τ 0, 1001, .inl (f))), (st, .inr (7, [.int 0, .int 60, .int 0, .int 576, .int 27, .int (-1), .int 1, .int 0, .ref aL, .ref aD, .ref aH, .ref pk, .ref nt, .ref ac])), (aL, .inl (τ 3, 6, .inr (.inr (.inr (.inr (fL)))))), (l0, .inr (3, [.int 576, .int 1, .int 0, .int 0, .int 0, .int 0, .int 0, .int 0]))] sz)) 0 0 (va_A [(x, .inr (9, [.ref rd, .ref tx, .ref bu, .ref st, .ref pa, .int 0, .int 0, .null, .null])), (bu, .inl (τ 0, 1001, .inl (f))), (st, .inr (7, [.int 0, .int 60, .int 0, .int 576, .int 27, .int (-1), .int 1, .int 0, .ref aL, .ref aD, .ref aH, .ref pk, .ref nt, .ref ac])), (aL, .inl (τ 3, 6, .inr (.inr (.inr (.inr (fL)))))), (l0, .inr (3, [.int 576, .int 1, .int 0, .int 0, .int 0, .int 0, .int 0, .int 0]))] sz) := by
  refine bodyW (by decide) (Nat.le_of_ble_eq_true rfl) (fun p e s m below meth c ls B hr hlk hin hsz Y hl => ?_)
  have hl : lv_has ls 9 [(0, .ref x), (1, .int 0), (2, .int (nI b)), (3, .int 1)] := hl
  have B : CallFix p m c cX9_addLinkBurden 9 s _ wALL RX9 := B
  generalize va_A [(x, .inr (9, [.ref rd, .ref tx, .ref bu, .ref st, .ref pa, .int 0, .int 0, .null, .null])), (bu, .inl (τ 0, 1001, .inl (f))), (st, .inr (7, [.int 0, .int 60, .int 0, .int 576, .int 27, .int (-1), .int 1, .int 0, .ref aL, .ref aD, .ref aH, .ref pk, .ref nt, .ref ac])), (aL, .inl (τ 3, 6, .inr (.inr (.inr (.inr (fL)))))), (l0, .inr (3, [.int 576, .int 1, .int 0, .int 0, .int 0, .int 0, .int 0, .int 0]))] sz = A at Y ⊢
  refine lv_aload_n B.1 B.2.1 dX9_addLinkBurden_0 rfl (lv_at hl 0 rfl) ?_
  refine gf_X9_30 B Y 0 rfl rfl dX9_addLinkBurden_1 ?_
  refine lv_iload_n B.1 B.2.1 dX9_addLinkBurden_4 rfl (lv_at hl 1 rfl) ?_
  refine retQ (wc := [(st, .inr (7, [.int 0, .int 60, .int 0, .int 576, .int 27, .int (-1), .int 1, .int 0, .ref aL, .ref aD, .ref aH, .ref pk, .ref nt, .ref ac])), (aL, .inl (τ 3, 6, .inr (.inr (.inr (.inr (fL))))))]) (wr := [(x, .inr (9, [.ref rd, .ref tx, .ref bu, .ref st, .ref pa, .int 0, .int 0, .null, .null])), (bu, .inl (τ 0, 1001, .inl (f))), (l0, .inr (3, [.int 576, .int 1, .int 0, .int 0, .int 0, .int 0, .int 0, .int 0]))]) Y [2, 3] [0, 1, 4] rfl rfl (by decide) (by decide) (rV (As := [.int 0]) (rest := []) (q0 := 2) B Y [2, 3] (by decide) rfl (k_X7_linkAt l D τ _ st 0 60 0 576 27 (-1) 0 aL aD aH pk nt ac fL l0 hS.1 0) rfl rfl q_499 q_452 q_453 q_4 q_454 rfl rfl hd_X7_linkAt ⟨(Nat.le_of_ble_eq_true rfl), (Nat.le_of_ble_eq_true rfl)⟩ rfl hl.1 rfl (Nat.le_of_ble_eq_true rfl) dX9_addLinkBurden_5 ⟨(Nat.le_of_ble_eq_true rfl), (Nat.le_of_ble_eq_true rfl)⟩) (fun r u H locs hw Y => ?_)
  have hw : r = some l0 := hw.1 rfl
  subst hw
  show W _ _ _ _ _ _ _ _ _ _ _ _ _ _ _ (F0 m _ ls (.ref l0 :: []))
  have Y : Wd D τ s A s.heap [(x, .inr (9, [.ref rd, .ref tx, .ref bu, .ref st, .ref pa, .int 0, .int 0, .null, .null])), (bu, .inl (τ 0, 1001, .inl (f))), (l0, .inr (3, [.int 576, .int 1, .int 0, .int 0, .int 0, .int 0, .int 0, .int 0])), (st, .inr (7, [.int 0, .int 60, .int 0, .int 576, .int 27, .int (-1), .int 1, .int 0, .ref aL, .ref aD, .ref aH, .ref pk, .ref nt, .ref ac])), (aL, .inl (τ 3, 6, .inr (.inr (.inr (.inr (fL))))))] H _ := Y
  refine lv_astore (lv' := [(4, .ref l0), (0, .ref x), (1, .int 0), (2, .int (nI b)), (3, .int 1)]) B.1 B.2.1 dX9_addLinkBurden_8 hl (by decide) rfl (fun ls hl => ?_)
  refine lv_aload B.1 B.2.1 dX9_addLinkBurden_10 (lv_at hl 0 rfl) ?_
  refine lv_ifnonnull (tgt := 16) B.1 B.2.1 dX9_addLinkBurden_12 (by decide) ?_
  refine lv_aload B.1 B.2.1 dX9_addLinkBurden_16 (lv_at hl 0 rfl) ?_
  refine gf_X9_168 B Y 2 rfl rfl dX9_addLinkBurden_18 ?_
  refine retI (wc := []) (wr := [(x, .inr (9, [.ref rd, .ref tx, .ref bu, .ref st, .ref pa, .int 0, .int 0, .null, .null])), (bu, .inl (τ 0, 1001, .inl (f))), (l0, .inr (3, [.int 576, .int 1, .int 0, .int 0, .int 0, .int 0, .int 0, .int 0])), (st, .inr (7, [.int 0, .int 60, .int 0, .int 576, .int 27, .int (-1), .int 1, .int 0, .ref aL, .ref aD, .ref aH, .ref pk, .ref nt, .ref ac])), (aL, .inl (τ 3, 6, .inr (.inr (.inr (.inr (fL))))))]) Y [] [0, 1, 2, 3, 4] rfl rfl (by decide) (by decide) (rS (As := [.int 576]) (rest := []) B Y [] (by decide) rfl (k_fullOf l D τ _) q_653 q_654 q_1 q_655 rfl rfl hd_X9_fullOf ⟨(Nat.le_of_ble_eq_true rfl), (Nat.le_of_ble_eq_true rfl)⟩ rfl hl.1 rfl (Nat.le_of_ble_eq_true rfl) dX9_addLinkBurden_21 ⟨(Nat.le_of_ble_eq_true rfl), (Nat.le_of_ble_eq_true rfl)⟩) (fun r u H locs hw Y => ?_)
  have hw : r = 552 := hw
  subst hw
  have Y : Wd D τ s A s.heap [(x, .inr (9, [.ref rd, .ref tx, .ref bu, .ref st, .ref pa, .int 0, .int 0, .null, .null])), (bu, .inl (τ 0, 1001, .inl (f))), (l0, .inr (3, [.int 576, .int 1, .int 0, .int 0, .int 0, .int 0, .int 0, .int 0])), (st, .inr (7, [.int 0, .int 60, .int 0, .int 576, .int 27, .int (-1), .int 1, .int 0, .ref aL, .ref aD, .ref aH, .ref pk, .ref nt, .ref ac])), (aL, .inl (τ 3, 6, .inr (.inr (.inr (.inr (fL))))))] H _ := Y
  refine lv_istore (lv' := [(5, .int 552), (4, .ref l0), (0, .ref x), (1, .int 0), (2, .int (nI b)), (3, .int 1)]) B.1 B.2.1 dX9_addLinkBurden_24 hl (by decide) rfl (fun ls hl => ?_)
  refine lv_iload_n B.1 B.2.1 dX9_addLinkBurden_26 rfl (lv_at hl 4 rfl) ?_
  refine lv_istore (lv' := [(6, .int (nI b)), (5, .int 552), (4, .ref l0), (0, .ref x), (1, .int 0), (2, .int (nI b)), (3, .int 1)]) B.1 B.2.1 dX9_addLinkBurden_27 hl (by decide) rfl (fun ls hl => ?_)
  refine lp_alb0 x rd q0 q1 q2 q3 q4 tx to bu st pa aL aD aH l0 d0 p0 v0 p1 v1 p2 v2 p3 v3 pk k0 k1 k2 k3 k4 k5 k6 k7 k8 k9 nt n0 n1 n2 ac fL fD fH hS hb B (fun f1 H locs ls hG hl Y => ?_) b f _ _ _ (Nat.le_refl b) hA (fun j h1 h2 => absurd h1 (by omega)) (lv_sub hl [0, 1, 2, 3, 4, 5, 6] rfl) (Y.sub [0, 1, 3, 4, 2] (by decide) rfl)
  exact endV B hr hlk Y f1 hG [0, 1, 2, 3, 4] (by decide) rfl (Nat.le_of_ble_eq_true rfl) (Nat.le_of_ble_eq_true rfl) dX9_addLinkBurden_107

set_option maxHeartbeats 4000000 in
set_option maxRecDepth 100000 in
theorem m_pieces (l : Launch) (hl0 : l.stackTraces = false) (D : va_G) (τ : Nat → ClassId) (sz : Nat) (x rd q0 q1 q2 q3 q4 tx to bu st pa aL aD aH l0 d0 p0 v0 p1 v1 p2 v2 p3 v3 pk k0 k1 k2 k3 k4 k5 k6 k7 k8 k9 nt n0 n1 n2 ac : Nat) (fL fD fH : Nat → Option Nat) (hS : fL 0 = some l0 ∧ fD 0 = some d0 ∧ fH 0 = some p0 ∧ fH 1 = some p1 ∧ fH 2 = some p2 ∧ fH 3 = some p3) (k g : Int32) : vx_Met l yX9_pieces (Cond.code yX9_pieces cX9_pieces 4 (some .int) :: wALL) { frames := 7, cells := 2, slots := 12, locals := 162 } (PwX D τ [(x, .inr (9, [.ref rd, .ref tx, .ref bu, .ref st, .ref pa, .int 0, .int 0, .null, .null])), (bu, .inl (τ 0, 1001, .inl (fun _ => 0))), (st, .inr (7, [.int 0, .int 60, .int 0, .int 576, .int 27, .int (-1), .int 1, .int 0, .ref aL, .ref aD, .ref aH, .ref pk, .ref nt, .ref ac])), (aL, .inl (τ 3, 6, .inr (.inr (.inr (.inr (fL)))))), (l0, .inr (3, [.int 576, .int 1, .int 0, .int 0, .int 0, .int 0, .int 0, .int 0]))] sz [.ref x, .int k, .int g]) (va_Qi (fun (r : Int32) (_ : Unit) => g = 0 ∧ ∃ b : Nat, 1 ≤ b ∧ b ≤ 1000 ∧ k = nI b ∧ r = nI (bdN 1 0 b)) (Bw D (va_A [(x, .inr (9, [.ref rd, .ref tx, .ref bu, .ref st, .ref pa, .int 0, .int 0, .null, .null])), (bu, .inl (τ 0, 1001, .inl (fun _ => 0))), (st, .inr (7, [.int 0, .int 60, .int 0, .int 576, .int 27, .int (-1), .int 1, .int 0, .ref aL, .ref aD, .ref aH, .ref pk, .ref nt, .ref ac])), (aL, .inl (τ 3, 6, .inr (.inr (.inr (.inr (fL)))))), (l0, .inr (3, [.int 576, .int 1, .int 0, .int 0, .int 0, .int 0, .int 0, .int 0]))] sz) (fun (_ : Unit) => [])) (va_A [(x, .inr (9, [.ref rd, .ref tx, .ref bu, .ref st, .ref pa, .int 0, .int 0, .null, .null])), (bu, .inl (τ 0, 1001, .inl (fun _ => 0))), (st, .inr (7, [.int 0, .int 60, .int 0, .int 576, .int 27, .int (-1), .int 1, .int 0, .ref aL, .ref aD, .ref aH, .ref pk, .ref nt, .ref ac])), (aL, .inl (τ 3, 6, .inr (.inr (.inr (.inr (fL)))))), (l0, .inr (3, [.int 576, .int 1, .int 0, .int 0, .int 0, .int 0, .int 0, .int 0]))] sz)) (XQ (fun E => (E = "java/lang/IndexOutOfBoundsException" ∧ g ≠ 0) ∨ (E = "java/lang/IllegalArgumentException" ∧ g = 0 ∧ (k < 1 ∨ 1000 < k))) (va_A [(x, .inr (9, [.ref rd, .ref tx, .ref bu, .ref st, .ref pa, .int 0, .int 0, .null, .null])), (bu, .inl (τ 0, 1001, .inl (fun _ => 0))), (st, .inr (7, [.int 0, .int 60, .int 0, .int 576, .int 27, .int (-1), .int 1, .int 0, .ref aL, .ref aD, .ref aH, .ref pk, .ref nt, .ref ac])), (aL, .inl (τ 3, 6, .inr (.inr (.inr (.inr (fL)))))), (l0, .inr (3, [.int 576, .int 1, .int 0, .int 0, .int 0, .int 0, .int 0, .int 0]))] sz)) 2 12 (va_A [(x, .inr (9, [.ref rd, .ref tx, .ref bu, .ref st, .ref pa, .int 0, .int 0, .null, .null])), (bu, .inl (τ 0, 1001, .inl (fun _ => 0))), (st, .inr (7, [.int 0, .int 60, .int 0, .int 576, .int 27, .int (-1), .int 1, .int 0, .ref aL, .ref aD, .ref aH, .ref pk, .ref nt, .ref ac])), (aL, .inl (τ 3, 6, .inr (.inr (.inr (.inr (fL)))))), (l0, .inr (3, [.int 576, .int 1, .int 0, .int 0, .int 0, .int 0, .int 0, .int 0]))] sz) := by
  refine bodyX (by decide) (Nat.le_of_ble_eq_true rfl) (fun p e s m below meth c ls B hr hlk ht hsz Y hT hl => ?_)
  have hl : lv_has ls 4 [(0, .ref x), (1, .int k), (2, .int g)] := hl
  have B : CallFix p m c cX9_pieces 4 s _ wALL RX9 := B
  generalize va_A [(x, .inr (9, [.ref rd, .ref tx, .ref bu, .ref st, .ref pa, .int 0, .int 0, .null, .null])), (bu, .inl (τ 0, 1001, .inl (fun _ => 0))), (st, .inr (7, [.int 0, .int 60, .int 0, .int 576, .int 27, .int (-1), .int 1, .int 0, .ref aL, .ref aD, .ref aH, .ref pk, .ref nt, .ref ac])), (aL, .inl (τ 3, 6, .inr (.inr (.inr (.inr (fL)))))), (l0, .inr (3, [.int 576, .int 1, .int 0, .int 0, .int 0, .int 0, .int 0, .int 0]))] sz = A at Y hT ⊢
  refine lv_aload_n B.1 B.2.1 dX9_pieces_0 rfl (lv_at hl 0 rfl) ?_
  refine lv_iload_n B.1 B.2.1 dX9_pieces_1 rfl (lv_at hl 2 rfl) ?_
  refine retQX (wc := [(x, .inr (9, [.ref rd, .ref tx, .ref bu, .ref st, .ref pa, .int 0, .int 0, .null, .null])), (st, .inr (7, [.int 0, .int 60, .int 0, .int 576, .int 27, .int (-1), .int 1, .int 0, .ref aL, .ref aD, .ref aH, .ref pk, .ref nt, .ref ac])), (aL, .inl (τ 3, 6, .inr (.inr (.inr (.inr (fL))))))]) (wr := [(bu, .inl (τ 0, 1001, .inl (fun _ => 0))), (l0, .inr (3, [.int 576, .int 1, .int 0, .int 0, .int 0, .int 0, .int 0, .int 0]))]) ht hlk Y [0, 2, 3] [1, 4] rfl rfl (by decide) (by decide) (fun E h => Or.inl h) (Nat.le_of_ble_eq_true rfl) (Nat.le_of_ble_eq_true rfl) (rVX (As := [.int g]) (rest := []) (q0 := 0) B Y hT [0, 2, 3] (by decide) rfl (k_needLink l hl0 D τ _ x rd q0 q1 q2 q3 q4 tx to bu st pa aL aD aH l0 d0 p0 v0 p1 v1 p2 v2 p3 v3 pk k0 k1 k2 k3 k4 k5 k6 k7 k8 k9 nt n0 n1 n2 ac fL fD fH hS g) rfl rfl q_1175 q_1177 qp_35 q_1 q_1178 rfl rfl hd_X9_needLink ⟨(Nat.le_of_ble_eq_true rfl), (Nat.le_of_ble_eq_true rfl)⟩ rfl hl.1 rfl (Nat.le_of_ble_eq_true rfl) dX9_pieces_2 ⟨(Nat.le_of_ble_eq_true rfl), (Nat.le_of_ble_eq_true rfl)⟩) (fun r u H locs hw Y => ?_)
  have hk : g = 0 := hw.1
  have hw : r = some l0 := hw.2
  subst hw
  subst hk
  show W _ _ _ _ _ _ _ _ _ _ _ _ _ _ _ (F0 m _ ls (.ref l0 :: []))
  have hl : lv_has ls 4 [(0, .ref x), (1, .int k), (2, .int 0)] := hl
  have Y : Wd D τ s A s.heap [(bu, .inl (τ 0, 1001, .inl (fun _ => 0))), (l0, .inr (3, [.int 576, .int 1, .int 0, .int 0, .int 0, .int 0, .int 0, .int 0])), (x, .inr (9, [.ref rd, .ref tx, .ref bu, .ref st, .ref pa, .int 0, .int 0, .null, .null])), (st, .inr (7, [.int 0, .int 60, .int 0, .int 576, .int 27, .int (-1), .int 1, .int 0, .ref aL, .ref aD, .ref aH, .ref pk, .ref nt, .ref ac])), (aL, .inl (τ 3, 6, .inr (.inr (.inr (.inr (fL))))))] H _ := Y
  refine W.widen (k := 1) (n := 6) (Nat.le_of_ble_eq_true rfl) (Nat.le_of_ble_eq_true rfl) ?_
  refine lv_pop B.1 B.2.1 dX9_pieces_5 rfl ?_
  refine lv_iload_n B.1 B.2.1 dX9_pieces_6 rfl (lv_at hl 1 rfl) ?_
  refine lv_iconst (v := 1) B.1 B.2.1 dX9_pieces_7 (by decide) ?_
  refine lv_sipush (v := 1000) B.1 B.2.1 dX9_pieces_8 (by decide) ?_
  refine retVX (wc := []) (wr := [(bu, .inl (τ 0, 1001, .inl (fun _ => 0))), (l0, .inr (3, [.int 576, .int 1, .int 0, .int 0, .int 0, .int 0, .int 0, .int 0])), (x, .inr (9, [.ref rd, .ref tx, .ref bu, .ref st, .ref pa, .int 0, .int 0, .null, .null])), (st, .inr (7, [.int 0, .int 60, .int 0, .int 576, .int 27, .int (-1), .int 1, .int 0, .ref aL, .ref aD, .ref aH, .ref pk, .ref nt, .ref ac])), (aL, .inl (τ 3, 6, .inr (.inr (.inr (.inr (fL))))))]) ht hlk Y [] [0, 1, 2, 3, 4] rfl rfl (by decide) (by decide) (fun E h => Or.inr ⟨h.1, rfl, h.2⟩) (Nat.le_of_ble_eq_true rfl) (Nat.le_of_ble_eq_true rfl) (rSX (As := [.int k, .int 1, .int 1000]) (rest := []) B Y hT [] (by decide) rfl (k_needRange l hl0 D τ _ k 1 1000) q_928 q_929 q_1 q_930 rfl rfl hd_X9_needRange ⟨(Nat.le_of_ble_eq_true rfl), (Nat.le_of_ble_eq_true rfl)⟩ rfl hl.1 rfl (Nat.le_of_ble_eq_true rfl) dX9_pieces_11 ⟨(Nat.le_of_ble_eq_true rfl), (Nat.le_of_ble_eq_true rfl)⟩) (fun u H locs hw Y => ?_)
  have hw : ¬ k < 1 ∧ ¬ 1000 < k := hw
  have Y : Wd D τ s A s.heap [(bu, .inl (τ 0, 1001, .inl (fun _ => 0))), (l0, .inr (3, [.int 576, .int 1, .int 0, .int 0, .int 0, .int 0, .int 0, .int 0])), (x, .inr (9, [.ref rd, .ref tx, .ref bu, .ref st, .ref pa, .int 0, .int 0, .null, .null])), (st, .inr (7, [.int 0, .int 60, .int 0, .int 576, .int 27, .int (-1), .int 1, .int 0, .ref aL, .ref aD, .ref aH, .ref pk, .ref nt, .ref ac])), (aL, .inl (τ 3, 6, .inr (.inr (.inr (.inr (fL))))))] H _ := Y
  refine W.widen (k := 2) (n := 12) (Nat.le_of_ble_eq_true rfl) (Nat.le_of_ble_eq_true rfl) ?_
  obtain ⟨b, hb, hba, hbb⟩ := i_rng (a := 1) (b := 1000) (by decide) (by decide) hw.1 hw.2
  subst hb
  have hl : lv_has ls 4 [(0, .ref x), (1, .int (nI b)), (2, .int 0)] := hl
  refine lv_aload_n B.1 B.2.1 dX9_pieces_14 rfl (lv_at hl 0 rfl) ?_
  refine gf_X9_23 B Y 2 rfl rfl dX9_pieces_15 ?_
  refine lv_iconst (v := 1) B.1 B.2.1 dX9_pieces_18 (by decide) ?_
  refine retV (wc := [(bu, .inl (τ 0, 1001, .inl (fun _ => 0)))]) (wr := [(l0, .inr (3, [.int 576, .int 1, .int 0, .int 0, .int 0, .int 0, .int 0, .int 0])), (x, .inr (9, [.ref rd, .ref tx, .ref bu, .ref st, .ref pa, .int 0, .int 0, .null, .null])), (st, .inr (7, [.int 0, .int 60, .int 0, .int 576, .int 27, .int (-1), .int 1, .int 0, .ref aL, .ref aD, .ref aH, .ref pk, .ref nt, .ref ac])), (aL, .inl (τ 3, 6, .inr (.inr (.inr (.inr (fL))))))]) Y [0] [1, 2, 3, 4] rfl rfl (by decide) (by decide) (rS (As := [.ref bu, .int 1]) (rest := []) B Y [0] (by decide) rfl (k_fill l D τ _ bu 1001 (fun _ => 0) 1 (by decide)) q_1304 q_113 q_6 q_114 rfl rfl hd_J7_fill_53178 ⟨(Nat.le_of_ble_eq_true rfl), (Nat.le_of_ble_eq_true rfl)⟩ rfl hl.1 rfl (Nat.le_of_ble_eq_true rfl) dX9_pieces_19 ⟨(Nat.le_of_ble_eq_true rfl), (Nat.le_of_ble_eq_true rfl)⟩) (fun u H locs hw Y => ?_)
  have Y : Wd D τ s A s.heap [(l0, .inr (3, [.int 576, .int 1, .int 0, .int 0, .int 0, .int 0, .int 0, .int 0])), (x, .inr (9, [.ref rd, .ref tx, .ref bu, .ref st, .ref pa, .int 0, .int 0, .null, .null])), (st, .inr (7, [.int 0, .int 60, .int 0, .int 576, .int 27, .int (-1), .int 1, .int 0, .ref aL, .ref aD, .ref aH, .ref pk, .ref nt, .ref ac])), (aL, .inl (τ 3, 6, .inr (.inr (.inr (.inr (fL)))))), (bu, .inl (τ 0, 1001, .inl (fil (fun _ => 1) (fun _ => 0) 1001)))] H _ := Y
  refine lv_iload_n B.1 B.2.1 dX9_pieces_22 rfl (lv_at hl 2 rfl) ?_
  refine lv_istore_n (lv' := [(3, .int 0), (0, .ref x), (1, .int (nI b)), (2, .int 0)]) B.1 B.2.1 dX9_pieces_23 rfl hl (by decide) rfl (fun ls hl => ?_)
  refine lv_iload_n B.1 B.2.1 dX9_pieces_24 rfl (lv_at hl 0 rfl) ?_
  refine lv_if_lt (tgt := 41) B.1 B.2.1 dX9_pieces_25 (by decide) (fun h => absurd h (by decide)) (fun _ => ?_)
  refine lv_aload_n B.1 B.2.1 dX9_pieces_28 rfl (lv_at hl 1 rfl) ?_
  refine lv_iload_n B.1 B.2.1 dX9_pieces_29 rfl (lv_at hl 0 rfl) ?_
  refine lv_iload_n B.1 B.2.1 dX9_pieces_30 rfl (lv_at hl 2 rfl) ?_
  refine lv_iconst (v := 0) B.1 B.2.1 dX9_pieces_31 (by decide) ?_
  refine retV (wc := [(x, .inr (9, [.ref rd, .ref tx, .ref bu, .ref st, .ref pa, .int 0, .int 0, .null, .null])), (bu, .inl (τ 0, 1001, .inl (fil (fun _ => 1) (fun _ => 0) 1001))), (st, .inr (7, [.int 0, .int 60, .int 0, .int 576, .int 27, .int (-1), .int 1, .int 0, .ref aL, .ref aD, .ref aH, .ref pk, .ref nt, .ref ac])), (aL, .inl (τ 3, 6, .inr (.inr (.inr (.inr (fL)))))), (l0, .inr (3, [.int 576, .int 1, .int 0, .int 0, .int 0, .int 0, .int 0, .int 0]))]) (wr := []) Y [1, 4, 2, 3, 0] [] rfl rfl (by decide) (by decide) (rV (As := [.int 0, .int (nI b), .int 0]) (rest := []) (q0 := 1) B Y [1, 4, 2, 3, 0] (by decide) rfl (k_addLinkBurden1 l D τ _ x rd q0 q1 q2 q3 q4 tx to bu st pa aL aD aH l0 d0 p0 v0 p1 v1 p2 v2 p3 v3 pk k0 k1 k2 k3 k4 k5 k6 k7 k8 k9 nt n0 n1 n2 ac fL fD fH hS b hbb (fil (fun _ => 1) (fun _ => 0) 1001) (fun j hj => fil_all _ _ (by omega))) rfl rfl q_1305 q_1307 qp_40 q_1 q_1308 rfl rfl hd_X9_addLinkBurden ⟨(Nat.le_of_ble_eq_true rfl), (Nat.le_of_ble_eq_true rfl)⟩ rfl hl.1 rfl (Nat.le_of_ble_eq_true rfl) dX9_pieces_32 ⟨(Nat.le_of_ble_eq_true rfl), (Nat.le_of_ble_eq_true rfl)⟩) (fun u H locs hw Y => ?_)
  obtain ⟨g2, rfl⟩ : ∃ z, z = u := ⟨_, rfl⟩
  have hg2 : ∀ j : Nat, 0 < j → j ≤ b → g2 j = nI (bdN 1 0 j) := hw
  have Y : Wd D τ s A s.heap [(x, .inr (9, [.ref rd, .ref tx, .ref bu, .ref st, .ref pa, .int 0, .int 0, .null, .null])), (bu, .inl (τ 0, 1001, .inl (g2))), (st, .inr (7, [.int 0, .int 60, .int 0, .int 576, .int 27, .int (-1), .int 1, .int 0, .ref aL, .ref aD, .ref aH, .ref pk, .ref nt, .ref ac])), (aL, .inl (τ 3, 6, .inr (.inr (.inr (.inr (fL)))))), (l0, .inr (3, [.int 576, .int 1, .int 0, .int 0, .int 0, .int 0, .int 0, .int 0]))] H _ := Y
  refine lv_iinc (v := (-1)) (lv' := [(3, .int (-1)), (0, .ref x), (1, .int (nI b)), (2, .int 0)]) B.1 B.2.1 dX9_pieces_35 hl (k := 0) rfl (by decide) (by decide) rfl (fun ls hl => ?_)
  refine lv_goto (tgt := 24) B.1 B.2.1 dX9_pieces_38 (by decide) ?_
  refine lv_iload_n B.1 B.2.1 dX9_pieces_24 rfl (lv_at hl 0 rfl) ?_
  refine lv_if_lt (tgt := 41) B.1 B.2.1 dX9_pieces_25 (by decide) (fun _ => ?_) (fun h => absurd (by decide) h)
  refine lv_aload_n B.1 B.2.1 dX9_pieces_41 rfl (lv_at hl 1 rfl) ?_
  refine gf_X9_23 B Y 0 rfl rfl dX9_pieces_42 ?_
  refine lv_iload_n B.1 B.2.1 dX9_pieces_45 rfl (lv_at hl 2 rfl) ?_
  refine retI (wc := [(bu, .inl (τ 0, 1001, .inl (g2)))]) (wr := [(x, .inr (9, [.ref rd, .ref tx, .ref bu, .ref st, .ref pa, .int 0, .int 0, .null, .null])), (st, .inr (7, [.int 0, .int 60, .int 0, .int 576, .int 27, .int (-1), .int 1, .int 0, .ref aL, .ref aD, .ref aH, .ref pk, .ref nt, .ref ac])), (aL, .inl (τ 3, 6, .inr (.inr (.inr (.inr (fL)))))), (l0, .inr (3, [.int 576, .int 1, .int 0, .int 0, .int 0, .int 0, .int 0, .int 0]))]) Y [1] [0, 2, 3, 4] rfl rfl (by decide) (by decide) (rS (As := [.ref bu, .int (nI b)]) (rest := []) B Y [1] (by decide) rfl (k_valueIn l D τ _ bu 1001 (g2) (by decide) (nI b) b rfl (by omega)) q_1236 q_618 q_1 q_619 rfl rfl hd_X9_valueIn ⟨(Nat.le_of_ble_eq_true rfl), (Nat.le_of_ble_eq_true rfl)⟩ rfl hl.1 rfl (Nat.le_of_ble_eq_true rfl) dX9_pieces_46 ⟨(Nat.le_of_ble_eq_true rfl), (Nat.le_of_ble_eq_true rfl)⟩) (fun r u H locs hw Y => ?_)
  have hw : r = (nI (bdN 1 0 b)) := (hw : r = _).trans (hg2 b (by omega) (by omega))
  subst hw
  have Y : Wd D τ s A s.heap [(x, .inr (9, [.ref rd, .ref tx, .ref bu, .ref st, .ref pa, .int 0, .int 0, .null, .null])), (st, .inr (7, [.int 0, .int 60, .int 0, .int 576, .int 27, .int (-1), .int 1, .int 0, .ref aL, .ref aD, .ref aH, .ref pk, .ref nt, .ref ac])), (aL, .inl (τ 3, 6, .inr (.inr (.inr (.inr (fL)))))), (l0, .inr (3, [.int 576, .int 1, .int 0, .int 0, .int 0, .int 0, .int 0, .int 0])), (bu, .inl (τ 0, 1001, .inl (g2)))] H _ := Y
  exact vx_ret (endI B hr hlk Y () ⟨rfl, b, hba, hbb, rfl, rfl⟩ [] (by decide) rfl (Nat.le_of_ble_eq_true rfl) (Nat.le_of_ble_eq_true rfl) dX9_pieces_49)

set_option maxHeartbeats 4000000 in
set_option maxRecDepth 100000 in
theorem k_weighUpTo (l : Launch) (D : va_G) (τ : Nat → ClassId) (sz : Nat) (x rd q0 q1 q2 q3 q4 tx to bu st pa aL aD aH l0 d0 p0 v0 p1 v1 p2 v2 p3 v3 pk k0 k1 k2 k3 k4 k5 k6 k7 k8 k9 nt n0 n1 n2 ac : Nat) (fL fD fH : Nat → Option Nat) (hS : fL 0 = some l0 ∧ fD 0 = some d0 ∧ fH 0 = some p0 ∧ fH 1 = some p1 ∧ fH 2 = some p2 ∧ fH 3 = some p3) (b : Nat) (hb : b ≤ 1000) : Met l yX9_weighUpTo (Cond.code yX9_weighUpTo cX9_weighUpTo 3 none :: wALL) { frames := 4, cells := 0, slots := 0, locals := 111 } (Pw D τ [(x, .inr (9, [.ref rd, .ref tx, .ref bu, .ref st, .ref pa, .int 0, .int 0, .null, .null])), (bu, .inl (τ 0, 1001, .inl (fun _ => 0))), (st, .inr (7, [.int 0, .int 60, .int 0, .int 576, .int 27, .int (-1), .int 1, .int 0, .ref aL, .ref aD, .ref aH, .ref pk, .ref nt, .ref ac])), (aL, .inl (τ 3, 6, .inr (.inr (.inr (.inr (fL)))))), (l0, .inr (3, [.int 576, .int 1, .int 0, .int 0, .int 0, .int 0, .int 0, .int 0]))] sz [.ref x, .int (nI b)]) (va_Qv (fun (g : Nat → Int32) => ∀ j : Nat, 0 < j → j ≤ b → g j = nI (bdN 0 1 j)) (Bw D (va_A [(x, .inr (9, [.ref rd, .ref tx, .ref bu, .ref st, .ref pa, .int 0, .int 0, .null, .null])), (bu, .inl (τ 0, 1001, .inl (fun _ => 0))), (st, .inr (7, [.int 0, .int 60, .int 0, .int 576, .int 27, .int (-1), .int 1, .int 0, .ref aL, .ref aD, .ref aH, .ref pk, .ref nt, .ref ac])), (aL, .inl (τ 3, 6, .inr (.inr (.inr (.inr (fL)))))), (l0, .inr (3, [.int 576, .int 1, .int 0, .int 0, .int 0, .int 0, .int 0, .int 0]))] sz) (fun (g : Nat → Int32) => [(x, .inr (9, [.ref rd, .ref tx, .ref bu, .ref st, .ref pa, .int 0, .int 0, .null, .null])), (bu, .inl (τ 0, 1001, .inl (g))), (st, .inr (7, [.int 0, .int 60, .int 0, .int 576, .int 27, .int (-1), .int 1, .int 0, .ref aL, .ref aD, .ref aH, .ref pk, .ref nt, .ref ac])), (aL, .inl (τ 3, 6, .inr (.inr (.inr (.inr (fL)))))), (l0, .inr (3, [.int 576, .int 1, .int 0, .int 0, .int 0, .int 0, .int 0, .int 0]))])) (va_A [(x, .inr (9, [.ref rd, .ref tx, .ref bu, .ref st, .ref pa, .int 0, .int 0, .null, .null])), (bu, .inl (τ 0, 1001, .inl (fun _ => 0))), (st, .inr (7, [.int 0, .int 60, .int 0, .int 576, .int 27, .int (-1), .int 1, .int 0, .ref aL, .ref aD, .ref aH, .ref pk, .ref nt, .ref ac])), (aL, .inl (τ 3, 6, .inr (.inr (.inr (.inr (fL)))))), (l0, .inr (3, [.int 576, .int 1, .int 0, .int 0, .int 0, .int 0, .int 0, .int 0]))] sz)) 0 0 (va_A [(x, .inr (9, [.ref rd, .ref tx, .ref bu, .ref st, .ref pa, .int 0, .int 0, .null, .null])), (bu, .inl (τ 0, 1001, .inl (fun _ => 0))), (st, .inr (7, [.int 0, .int 60, .int 0, .int 576, .int 27, .int (-1), .int 1, .int 0, .ref aL, .ref aD, .ref aH, .ref pk, .ref nt, .ref ac])), (aL, .inl (τ 3, 6, .inr (.inr (.inr (.inr (fL)))))), (l0, .inr (3, [.int 576, .int 1, .int 0, .int 0, .int 0, .int 0, .int 0, .int 0]))] sz) := by
  refine bodyW (by decide) (Nat.le_of_ble_eq_true rfl) (fun p e s m below meth c ls B hr hlk hin hsz Y hl => ?_)
  have hl : lv_has ls 3 [(0, .ref x), (1, .int (nI b))] := hl
  have B : CallFix p m c cX9_weighUpTo 3 s _ wALL RX9 := B
  generalize va_A [(x, .inr (9, [.ref rd, .ref tx, .ref bu, .ref st, .ref pa, .int 0, .int 0, .null, .null])), (bu, .inl (τ 0, 1001, .inl (fun _ => 0))), (st, .inr (7, [.int 0, .int 60, .int 0, .int 576, .int 27, .int (-1), .int 1, .int 0, .ref aL, .ref aD, .ref aH, .ref pk, .ref nt, .ref ac])), (aL, .inl (τ 3, 6, .inr (.inr (.inr (.inr (fL)))))), (l0, .inr (3, [.int 576, .int 1, .int 0, .int 0, .int 0, .int 0, .int 0, .int 0]))] sz = A at Y ⊢
  refine lv_aload_n B.1 B.2.1 dX9_weighUpTo_0 rfl (lv_at hl 0 rfl) ?_
  refine gf_X9_23 B Y 0 rfl rfl dX9_weighUpTo_1 ?_
  refine lv_iconst (v := 0) B.1 B.2.1 dX9_weighUpTo_4 (by decide) ?_
  refine retV (wc := [(bu, .inl (τ 0, 1001, .inl (fun _ => 0)))]) (wr := [(x, .inr (9, [.ref rd, .ref tx, .ref bu, .ref st, .ref pa, .int 0, .int 0, .null, .null])), (st, .inr (7, [.int 0, .int 60, .int 0, .int 576, .int 27, .int (-1), .int 1, .int 0, .ref aL, .ref aD, .ref aH, .ref pk, .ref nt, .ref ac])), (aL, .inl (τ 3, 6, .inr (.inr (.inr (.inr (fL)))))), (l0, .inr (3, [.int 576, .int 1, .int 0, .int 0, .int 0, .int 0, .int 0, .int 0]))]) Y [1] [0, 2, 3, 4] rfl rfl (by decide) (by decide) (rS (As := [.ref bu, .int 0]) (rest := []) B Y [1] (by decide) rfl (k_fill l D τ _ bu 1001 (fun _ => 0) 0 (by decide)) q_1304 q_113 q_6 q_114 rfl rfl hd_J7_fill_53178 ⟨(Nat.le_of_ble_eq_true rfl), (Nat.le_of_ble_eq_true rfl)⟩ rfl hl.1 rfl (Nat.le_of_ble_eq_true rfl) dX9_weighUpTo_5 ⟨(Nat.le_of_ble_eq_true rfl), (Nat.le_of_ble_eq_true rfl)⟩) (fun u H locs hw Y => ?_)
  have Y : Wd D τ s A s.heap [(x, .inr (9, [.ref rd, .ref tx, .ref bu, .ref st, .ref pa, .int 0, .int 0, .null, .null])), (st, .inr (7, [.int 0, .int 60, .int 0, .int 576, .int 27, .int (-1), .int 1, .int 0, .ref aL, .ref aD, .ref aH, .ref pk, .ref nt, .ref ac])), (aL, .inl (τ 3, 6, .inr (.inr (.inr (.inr (fL)))))), (l0, .inr (3, [.int 576, .int 1, .int 0, .int 0, .int 0, .int 0, .int 0, .int 0])), (bu, .inl (τ 0, 1001, .inl (fil (fun _ => 0) (fun _ => 0) 1001)))] H _ := Y
  refine lv_aload_n B.1 B.2.1 dX9_weighUpTo_8 rfl (lv_at hl 0 rfl) ?_
  refine gf_X9_30 B Y 0 rfl rfl dX9_weighUpTo_9 ?_
  refine gf_X9_182 B Y 1 rfl rfl dX9_weighUpTo_12 ?_
  refine lv_iconst (v := 1) B.1 B.2.1 dX9_weighUpTo_15 (by decide) ?_
  refine lv_isub B.1 B.2.1 dX9_weighUpTo_16 ?_
  refine lv_cv (v := 0) (by decide) ?_
  refine lv_istore_n (lv' := [(2, .int 0), (0, .ref x), (1, .int (nI b))]) B.1 B.2.1 dX9_weighUpTo_17 rfl hl (by decide) rfl (fun ls hl => ?_)
  refine lv_iload_n B.1 B.2.1 dX9_weighUpTo_18 rfl (lv_at hl 0 rfl) ?_
  refine lv_if_lt (tgt := 35) B.1 B.2.1 dX9_weighUpTo_19 (by decide) (fun h => absurd h (by decide)) (fun _ => ?_)
  refine lv_aload_n B.1 B.2.1 dX9_weighUpTo_22 rfl (lv_at hl 1 rfl) ?_
  refine lv_iload_n B.1 B.2.1 dX9_weighUpTo_23 rfl (lv_at hl 0 rfl) ?_
  refine lv_iload_n B.1 B.2.1 dX9_weighUpTo_24 rfl (lv_at hl 2 rfl) ?_
  refine lv_iconst (v := 1) B.1 B.2.1 dX9_weighUpTo_25 (by decide) ?_
  refine retV (wc := [(x, .inr (9, [.ref rd, .ref tx, .ref bu, .ref st, .ref pa, .int 0, .int 0, .null, .null])), (bu, .inl (τ 0, 1001, .inl (fil (fun _ => 0) (fun _ => 0) 1001))), (st, .inr (7, [.int 0, .int 60, .int 0, .int 576, .int 27, .int (-1), .int 1, .int 0, .ref aL, .ref aD, .ref aH, .ref pk, .ref nt, .ref ac])), (aL, .inl (τ 3, 6, .inr (.inr (.inr (.inr (fL)))))), (l0, .inr (3, [.int 576, .int 1, .int 0, .int 0, .int 0, .int 0, .int 0, .int 0]))]) (wr := []) Y [0, 4, 1, 2, 3] [] rfl rfl (by decide) (by decide) (rV (As := [.int 0, .int (nI b), .int 1]) (rest := []) (q0 := 0) B Y [0, 4, 1, 2, 3] (by decide) rfl (k_addLinkBurden0 l D τ _ x rd q0 q1 q2 q3 q4 tx to bu st pa aL aD aH l0 d0 p0 v0 p1 v1 p2 v2 p3 v3 pk k0 k1 k2 k3 k4 k5 k6 k7 k8 k9 nt n0 n1 n2 ac fL fD fH hS b hb (fil (fun _ => 0) (fun _ => 0) 1001) (fun j hj => fil_all _ _ (by omega))) rfl rfl q_1305 q_1307 qp_40 q_1 q_1308 rfl rfl hd_X9_addLinkBurden ⟨(Nat.le_of_ble_eq_true rfl), (Nat.le_of_ble_eq_true rfl)⟩ rfl hl.1 rfl (Nat.le_of_ble_eq_true rfl) dX9_weighUpTo_26 ⟨(Nat.le_of_ble_eq_true rfl), (Nat.le_of_ble_eq_true rfl)⟩) (fun u H locs hw Y => ?_)
  obtain ⟨g1, rfl⟩ : ∃ z, z = u := ⟨_, rfl⟩
  have hg1 : ∀ j : Nat, 0 < j → j ≤ b → g1 j = nI (bdN 0 1 j) := hw
  have Y : Wd D τ s A s.heap [(x, .inr (9, [.ref rd, .ref tx, .ref bu, .ref st, .ref pa, .int 0, .int 0, .null, .null])), (bu, .inl (τ 0, 1001, .inl (g1))), (st, .inr (7, [.int 0, .int 60, .int 0, .int 576, .int 27, .int (-1), .int 1, .int 0, .ref aL, .ref aD, .ref aH, .ref pk, .ref nt, .ref ac])), (aL, .inl (τ 3, 6, .inr (.inr (.inr (.inr (fL)))))), (l0, .inr (3, [.int 576, .int 1, .int 0, .int 0, .int 0, .int 0, .int 0, .int 0]))] H _ := Y
  refine lv_iinc (v := (-1)) (lv' := [(2, .int (-1)), (0, .ref x), (1, .int (nI b))]) B.1 B.2.1 dX9_weighUpTo_29 hl (k := 0) rfl (by decide) (by decide) rfl (fun ls hl => ?_)
  refine lv_goto (tgt := 18) B.1 B.2.1 dX9_weighUpTo_32 (by decide) ?_
  refine lv_iload_n B.1 B.2.1 dX9_weighUpTo_18 rfl (lv_at hl 0 rfl) ?_
  refine lv_if_lt (tgt := 35) B.1 B.2.1 dX9_weighUpTo_19 (by decide) (fun _ => ?_) (fun h => absurd (by decide) h)
  exact endV B hr hlk Y g1 hg1 [0, 1, 2, 3, 4] (by decide) rfl (Nat.le_of_ble_eq_true rfl) (Nat.le_of_ble_eq_true rfl) dX9_weighUpTo_35

set_option maxHeartbeats 4000000 in
set_option maxRecDepth 100000 in
theorem m_burden (l : Launch) (hl0 : l.stackTraces = false) (D : va_G) (τ : Nat → ClassId) (sz : Nat) (x rd q0 q1 q2 q3 q4 tx to bu st pa aL aD aH l0 d0 p0 v0 p1 v1 p2 v2 p3 v3 pk k0 k1 k2 k3 k4 k5 k6 k7 k8 k9 nt n0 n1 n2 ac : Nat) (fL fD fH : Nat → Option Nat) (hS : fL 0 = some l0 ∧ fD 0 = some d0 ∧ fH 0 = some p0 ∧ fH 1 = some p1 ∧ fH 2 = some p2 ∧ fH 3 = some p3) (k : Int32) : vx_Met l yX9_burden (Cond.code yX9_burden cX9_burden 2 (some .int) :: wALL) { frames := 7, cells := 1, slots := 6, locals := 162 } (PwX D τ [(x, .inr (9, [.ref rd, .ref tx, .ref bu, .ref st, .ref pa, .int 0, .int 0, .null, .null])), (bu, .inl (τ 0, 1001, .inl (fun _ => 0))), (st, .inr (7, [.int 0, .int 60, .int 0, .int 576, .int 27, .int (-1), .int 1, .int 0, .ref aL, .ref aD, .ref aH, .ref pk, .ref nt, .ref ac])), (aL, .inl (τ 3, 6, .inr (.inr (.inr (.inr (fL)))))), (l0, .inr (3, [.int 576, .int 1, .int 0, .int 0, .int 0, .int 0, .int 0, .int 0]))] sz [.ref x, .int k]) (va_Qi (fun (r : Int32) (_ : Unit) => ∃ b : Nat, 1 ≤ b ∧ b ≤ 1000 ∧ k = nI b ∧ r = nI (bdN 0 1 b)) (Bw D (va_A [(x, .inr (9, [.ref rd, .ref tx, .ref bu, .ref st, .ref pa, .int 0, .int 0, .null, .null])), (bu, .inl (τ 0, 1001, .inl (fun _ => 0))), (st, .inr (7, [.int 0, .int 60, .int 0, .int 576, .int 27, .int (-1), .int 1, .int 0, .ref aL, .ref aD, .ref aH, .ref pk, .ref nt, .ref ac])), (aL, .inl (τ 3, 6, .inr (.inr (.inr (.inr (fL)))))), (l0, .inr (3, [.int 576, .int 1, .int 0, .int 0, .int 0, .int 0, .int 0, .int 0]))] sz) (fun (_ : Unit) => [])) (va_A [(x, .inr (9, [.ref rd, .ref tx, .ref bu, .ref st, .ref pa, .int 0, .int 0, .null, .null])), (bu, .inl (τ 0, 1001, .inl (fun _ => 0))), (st, .inr (7, [.int 0, .int 60, .int 0, .int 576, .int 27, .int (-1), .int 1, .int 0, .ref aL, .ref aD, .ref aH, .ref pk, .ref nt, .ref ac])), (aL, .inl (τ 3, 6, .inr (.inr (.inr (.inr (fL)))))), (l0, .inr (3, [.int 576, .int 1, .int 0, .int 0, .int 0, .int 0, .int 0, .int 0]))] sz)) (XQ (fun E => E = "java/lang/IllegalArgumentException" ∧ (k < 1 ∨ 1000 < k)) (va_A [(x, .inr (9, [.ref rd, .ref tx, .ref bu, .ref st, .ref pa, .int 0, .int 0, .null, .null])), (bu, .inl (τ 0, 1001, .inl (fun _ => 0))), (st, .inr (7, [.int 0, .int 60, .int 0, .int 576, .int 27, .int (-1), .int 1, .int 0, .ref aL, .ref aD, .ref aH, .ref pk, .ref nt, .ref ac])), (aL, .inl (τ 3, 6, .inr (.inr (.inr (.inr (fL)))))), (l0, .inr (3, [.int 576, .int 1, .int 0, .int 0, .int 0, .int 0, .int 0, .int 0]))] sz)) 1 6 (va_A [(x, .inr (9, [.ref rd, .ref tx, .ref bu, .ref st, .ref pa, .int 0, .int 0, .null, .null])), (bu, .inl (τ 0, 1001, .inl (fun _ => 0))), (st, .inr (7, [.int 0, .int 60, .int 0, .int 576, .int 27, .int (-1), .int 1, .int 0, .ref aL, .ref aD, .ref aH, .ref pk, .ref nt, .ref ac])), (aL, .inl (τ 3, 6, .inr (.inr (.inr (.inr (fL)))))), (l0, .inr (3, [.int 576, .int 1, .int 0, .int 0, .int 0, .int 0, .int 0, .int 0]))] sz) := by
  refine bodyX (by decide) (Nat.le_of_ble_eq_true rfl) (fun p e s m below meth c ls B hr hlk ht hsz Y hT hl => ?_)
  have hl : lv_has ls 2 [(0, .ref x), (1, .int k)] := hl
  have B : CallFix p m c cX9_burden 2 s _ wALL RX9 := B
  generalize va_A [(x, .inr (9, [.ref rd, .ref tx, .ref bu, .ref st, .ref pa, .int 0, .int 0, .null, .null])), (bu, .inl (τ 0, 1001, .inl (fun _ => 0))), (st, .inr (7, [.int 0, .int 60, .int 0, .int 576, .int 27, .int (-1), .int 1, .int 0, .ref aL, .ref aD, .ref aH, .ref pk, .ref nt, .ref ac])), (aL, .inl (τ 3, 6, .inr (.inr (.inr (.inr (fL)))))), (l0, .inr (3, [.int 576, .int 1, .int 0, .int 0, .int 0, .int 0, .int 0, .int 0]))] sz = A at Y hT ⊢
  refine lv_iload_n B.1 B.2.1 dX9_burden_0 rfl (lv_at hl 1 rfl) ?_
  refine lv_iconst (v := 1) B.1 B.2.1 dX9_burden_1 (by decide) ?_
  refine lv_sipush (v := 1000) B.1 B.2.1 dX9_burden_2 (by decide) ?_
  refine retVX (wc := []) (wr := [(x, .inr (9, [.ref rd, .ref tx, .ref bu, .ref st, .ref pa, .int 0, .int 0, .null, .null])), (bu, .inl (τ 0, 1001, .inl (fun _ => 0))), (st, .inr (7, [.int 0, .int 60, .int 0, .int 576, .int 27, .int (-1), .int 1, .int 0, .ref aL, .ref aD, .ref aH, .ref pk, .ref nt, .ref ac])), (aL, .inl (τ 3, 6, .inr (.inr (.inr (.inr (fL)))))), (l0, .inr (3, [.int 576, .int 1, .int 0, .int 0, .int 0, .int 0, .int 0, .int 0]))]) ht hlk Y [] [0, 1, 2, 3, 4] rfl rfl (by decide) (by decide) (fun E h => h) (Nat.le_of_ble_eq_true rfl) (Nat.le_of_ble_eq_true rfl) (rSX (As := [.int k, .int 1, .int 1000]) (rest := []) B Y hT [] (by decide) rfl (k_needRange l hl0 D τ _ k 1 1000) q_928 q_929 q_1 q_930 rfl rfl hd_X9_needRange ⟨(Nat.le_of_ble_eq_true rfl), (Nat.le_of_ble_eq_true rfl)⟩ rfl hl.1 rfl (Nat.le_of_ble_eq_true rfl) dX9_burden_5 ⟨(Nat.le_of_ble_eq_true rfl), (Nat.le_of_ble_eq_true rfl)⟩) (fun u H locs hw Y => ?_)
  have hw : ¬ k < 1 ∧ ¬ 1000 < k := hw
  have Y : Wd D τ s A s.heap [(x, .inr (9, [.ref rd, .ref tx, .ref bu, .ref st, .ref pa, .int 0, .int 0, .null, .null])), (bu, .inl (τ 0, 1001, .inl (fun _ => 0))), (st, .inr (7, [.int 0, .int 60, .int 0, .int 576, .int 27, .int (-1), .int 1, .int 0, .ref aL, .ref aD, .ref aH, .ref pk, .ref nt, .ref ac])), (aL, .inl (τ 3, 6, .inr (.inr (.inr (.inr (fL)))))), (l0, .inr (3, [.int 576, .int 1, .int 0, .int 0, .int 0, .int 0, .int 0, .int 0]))] H _ := Y
  refine W.widen (k := 1) (n := 6) (Nat.le_of_ble_eq_true rfl) (Nat.le_of_ble_eq_true rfl) ?_
  obtain ⟨b, hb, hba, hbb⟩ := i_rng (a := 1) (b := 1000) (by decide) (by decide) hw.1 hw.2
  subst hb
  have hl : lv_has ls 2 [(0, .ref x), (1, .int (nI b))] := hl
  refine lv_aload_n B.1 B.2.1 dX9_burden_8 rfl (lv_at hl 0 rfl) ?_
  refine lv_iload_n B.1 B.2.1 dX9_burden_9 rfl (lv_at hl 1 rfl) ?_
  refine retV (wc := [(x, .inr (9, [.ref rd, .ref tx, .ref bu, .ref st, .ref pa, .int 0, .int 0, .null, .null])), (bu, .inl (τ 0, 1001, .inl (fun _ => 0))), (st, .inr (7, [.int 0, .int 60, .int 0, .int 576, .int 27, .int (-1), .int 1, .int 0, .ref aL, .ref aD, .ref aH, .ref pk, .ref nt, .ref ac])), (aL, .inl (τ 3, 6, .inr (.inr (.inr (.inr (fL)))))), (l0, .inr (3, [.int 576, .int 1, .int 0, .int 0, .int 0, .int 0, .int 0, .int 0]))]) (wr := []) Y [0, 1, 2, 3, 4] [] rfl rfl (by decide) (by decide) (rV (As := [.int (nI b)]) (rest := []) (q0 := 0) B Y [0, 1, 2, 3, 4] (by decide) rfl (k_weighUpTo l D τ _ x rd q0 q1 q2 q3 q4 tx to bu st pa aL aD aH l0 d0 p0 v0 p1 v1 p2 v2 p3 v3 pk k0 k1 k2 k3 k4 k5 k6 k7 k8 k9 nt n0 n1 n2 ac fL fD fH hS b hbb) rfl rfl q_1318 q_1320 qp_41 q_1 q_1321 rfl rfl hd_X9_weighUpTo ⟨(Nat.le_of_ble_eq_true rfl), (Nat.le_of_ble_eq_true rfl)⟩ rfl hl.1 rfl (Nat.le_of_ble_eq_true rfl) dX9_burden_10 ⟨(Nat.le_of_ble_eq_true rfl), (Nat.le_of_ble_eq_true rfl)⟩) (fun u H locs hw Y => ?_)
  obtain ⟨g1, rfl⟩ : ∃ z, z = u := ⟨_, rfl⟩
  have hg1 : ∀ j : Nat, 0 < j → j ≤ b → g1 j = nI (bdN 0 1 j) := hw
  have Y : Wd D τ s A s.heap [(x, .inr (9, [.ref rd, .ref tx, .ref bu, .ref st, .ref pa, .int 0, .int 0, .null, .null])), (bu, .inl (τ 0, 1001, .inl (g1))), (st, .inr (7, [.int 0, .int 60, .int 0, .int 576, .int 27, .int (-1), .int 1, .int 0, .ref aL, .ref aD, .ref aH, .ref pk, .ref nt, .ref ac])), (aL, .inl (τ 3, 6, .inr (.inr (.inr (.inr (fL)))))), (l0, .inr (3, [.int 576, .int 1, .int 0, .int 0, .int 0, .int 0, .int 0, .int 0]))] H _ := Y
  refine lv_aload_n B.1 B.2.1 dX9_burden_13 rfl (lv_at hl 0 rfl) ?_
  refine gf_X9_23 B Y 0 rfl rfl dX9_burden_14 ?_
  refine lv_iload_n B.1 B.2.1 dX9_burden_17 rfl (lv_at hl 1 rfl) ?_
  refine retI (wc := [(bu, .inl (τ 0, 1001, .inl (g1)))]) (wr := [(x, .inr (9, [.ref rd, .ref tx, .ref bu, .ref st, .ref pa, .int 0, .int 0, .null, .null])), (st, .inr (7, [.int 0, .int 60, .int 0, .int 576, .int 27, .int (-1), .int 1, .int 0, .ref aL, .ref aD, .ref aH, .ref pk, .ref nt, .ref ac])), (aL, .inl (τ 3, 6, .inr (.inr (.inr (.inr (fL)))))), (l0, .inr (3, [.int 576, .int 1, .int 0, .int 0, .int 0, .int 0, .int 0, .int 0]))]) Y [1] [0, 2, 3, 4] rfl rfl (by decide) (by decide) (rS (As := [.ref bu, .int (nI b)]) (rest := []) B Y [1] (by decide) rfl (k_valueIn l D τ _ bu 1001 (g1) (by decide) (nI b) b rfl (by omega)) q_1236 q_618 q_1 q_619 rfl rfl hd_X9_valueIn ⟨(Nat.le_of_ble_eq_true rfl), (Nat.le_of_ble_eq_true rfl)⟩ rfl hl.1 rfl (Nat.le_of_ble_eq_true rfl) dX9_burden_18 ⟨(Nat.le_of_ble_eq_true rfl), (Nat.le_of_ble_eq_true rfl)⟩) (fun r u H locs hw Y => ?_)
  have hw : r = (nI (bdN 0 1 b)) := (hw : r = _).trans (hg1 b (by omega) (by omega))
  subst hw
  have Y : Wd D τ s A s.heap [(x, .inr (9, [.ref rd, .ref tx, .ref bu, .ref st, .ref pa, .int 0, .int 0, .null, .null])), (st, .inr (7, [.int 0, .int 60, .int 0, .int 576, .int 27, .int (-1), .int 1, .int 0, .ref aL, .ref aD, .ref aH, .ref pk, .ref nt, .ref ac])), (aL, .inl (τ 3, 6, .inr (.inr (.inr (.inr (fL)))))), (l0, .inr (3, [.int 576, .int 1, .int 0, .int 0, .int 0, .int 0, .int 0, .int 0])), (bu, .inl (τ 0, 1001, .inl (g1)))] H _ := Y
  exact vx_ret (endI B hr hlk Y () ⟨b, hba, hbb, rfl, rfl⟩ [] (by decide) rfl (Nat.le_of_ble_eq_true rfl) (Nat.le_of_ble_eq_true rfl) dX9_burden_21)

set_option maxHeartbeats 4000000 in
set_option maxRecDepth 100000 in
theorem k_wholeBurden (l : Launch) (D : va_G) (τ : Nat → ClassId) (sz : Nat) (x rd q0 q1 q2 q3 q4 tx to bu st pa aL aD aH l0 d0 p0 v0 p1 v1 p2 v2 p3 v3 pk k0 k1 k2 k3 k4 k5 k6 k7 k8 k9 nt n0 n1 n2 ac : Nat) (fL fD fH : Nat → Option Nat) (hS : fL 0 = some l0 ∧ fD 0 = some d0 ∧ fH 0 = some p0 ∧ fH 1 = some p1 ∧ fH 2 = some p2 ∧ fH 3 = some p3) (f : Nat → Int32) (M n e9 : Nat) (hM : M ≤ 1000) (hG : ∀ j : Nat, 0 < j → j ≤ M → f j = nI (bdN 0 1 j)) (hn : n ≤ 3000) (h1 : 1 ≤ e9) (h2 : e9 ≤ M) : Met l yX9_wholeBurden (Cond.code yX9_wholeBurden cX9_wholeBurden 4 (some .int) :: wALL) { frames := 1, cells := 0, slots := 0, locals := 21 } (Pw D τ [(x, .inr (9, [.ref rd, .ref tx, .ref bu, .ref st, .ref pa, .int 0, .int 0, .null, .null])), (bu, .inl (τ 0, 1001, .inl (f)))] sz [.ref x, .int (nI n), .int (nI e9)]) (va_Qi (fun (r : Int32) (_ : Unit) => r = nI (wbN n e9)) (Bw D (va_A [(x, .inr (9, [.ref rd, .ref tx, .ref bu, .ref st, .ref pa, .int 0, .int 0, .null, .null])), (bu, .inl (τ 0, 1001, .inl (f)))] sz) (fun (_ : Unit) => [(x, .inr (9, [.ref rd, .ref tx, .ref bu, .ref st, .ref pa, .int 0, .int 0, .null, .null])), (bu, .inl (τ 0, 1001, .inl (f)))])) (va_A [(x, .inr (9, [.ref rd, .ref tx, .ref bu, .ref st, .ref pa, .int 0, .int 0, .null, .null])), (bu, .inl (τ 0, 1001, .inl (f)))] sz)) 0 0 (va_A [(x, .inr (9, [.ref rd, .ref tx, .ref bu, .ref st, .ref pa, .int 0, .int 0, .null, .null])), (bu, .inl (τ 0, 1001, .inl (f)))] sz) := by
  refine bodyW (by decide) (Nat.le_of_ble_eq_true rfl) (fun p e s m below meth c ls B hr hlk hin hsz Y hl => ?_)
  have hl : lv_has ls 4 [(0, .ref x), (1, .int (nI n)), (2, .int (nI e9))] := hl
  have B : CallFix p m c cX9_wholeBurden 4 s _ wALL RX9 := B
  generalize va_A [(x, .inr (9, [.ref rd, .ref tx, .ref bu, .ref st, .ref pa, .int 0, .int 0, .null, .null])), (bu, .inl (τ 0, 1001, .inl (f)))] sz = A at Y ⊢
  by_cases hq : n % e9 = 0
  · have hlt := Nat.mod_lt n h1
    refine lv_iload_n B.1 B.2.1 dX9_wholeBurden_0 rfl (lv_at hl 2 rfl) ?_
    refine lv_iconst (v := 1) B.1 B.2.1 dX9_wholeBurden_1 (by decide) ?_
    refine lv_icmp_ge (tgt := 7) B.1 B.2.1 dX9_wholeBurden_2 (by decide) (fun _ => ?_) (fun h => absurd (nI_le (a := 1) h1 (by omega)) h)
    refine lv_iload_n B.1 B.2.1 dX9_wholeBurden_7 rfl (lv_at hl 1 rfl) ?_
    refine lv_iload_n B.1 B.2.1 dX9_wholeBurden_8 rfl (lv_at hl 2 rfl) ?_
    refine lv_irem B.1 B.2.1 dX9_wholeBurden_9 (nI_ne0 (by omega) (by omega)) ?_
    refine lv_cv (v := (nI (n % e9))) (pk_rem (by omega) (by omega) (by omega)) ?_
    refine lv_istore_n (lv' := [(3, .int (nI (n % e9))), (0, .ref x), (1, .int (nI n)), (2, .int (nI e9))]) B.1 B.2.1 dX9_wholeBurden_10 rfl hl (by decide) rfl (fun ls hl => ?_)
    refine lv_iload_n B.1 B.2.1 dX9_wholeBurden_11 rfl (lv_at hl 2 rfl) ?_
    refine lv_iload_n B.1 B.2.1 dX9_wholeBurden_12 rfl (lv_at hl 3 rfl) ?_
    refine lv_idiv B.1 B.2.1 dX9_wholeBurden_13 (nI_ne0 (by omega) (by omega)) ?_
    refine lv_cv (v := (nI (n / e9))) (pk_div (by omega) (by omega) (by omega)) ?_
    refine lv_aload_n B.1 B.2.1 dX9_wholeBurden_14 rfl (lv_at hl 1 rfl) ?_
    refine gf_X9_23 B Y 0 rfl rfl dX9_wholeBurden_15 ?_
    refine lv_iload_n B.1 B.2.1 dX9_wholeBurden_18 rfl (lv_at hl 3 rfl) ?_
    refine retI (wc := [(bu, .inl (τ 0, 1001, .inl (f)))]) (wr := [(x, .inr (9, [.ref rd, .ref tx, .ref bu, .ref st, .ref pa, .int 0, .int 0, .null, .null]))]) Y [1] [0] rfl rfl (by decide) (by decide) (rS (As := [.ref bu, .int (nI e9)]) (rest := [.int (nI (n / e9))]) B Y [1] (by decide) rfl (k_valueIn l D τ _ bu 1001 (f) (by decide) (nI e9) e9 rfl (by omega)) q_1236 q_618 q_1 q_619 rfl rfl hd_X9_valueIn ⟨(Nat.le_of_ble_eq_true rfl), (Nat.le_of_ble_eq_true rfl)⟩ rfl hl.1 rfl (Nat.le_of_ble_eq_true rfl) dX9_wholeBurden_19 ⟨(Nat.le_of_ble_eq_true rfl), (Nat.le_of_ble_eq_true rfl)⟩) (fun r u H locs hw Y => ?_)
    have hw : r = (nI (bdN 0 1 e9)) := (hw : r = _).trans (hG e9 (by omega) h2)
    subst hw
    have Y : Wd D τ s A s.heap [(x, .inr (9, [.ref rd, .ref tx, .ref bu, .ref st, .ref pa, .int 0, .int 0, .null, .null])), (bu, .inl (τ 0, 1001, .inl (f)))] H _ := Y
    refine lv_imul B.1 B.2.1 dX9_wholeBurden_22 ?_
    refine lv_cv (v := (nI (n / e9 * bdN 0 1 e9))) (pk_mul _ _) ?_
    refine lv_iload_n B.1 B.2.1 dX9_wholeBurden_23 rfl (lv_at hl 0 rfl) ?_
    refine lv_if_ne (tgt := 31) B.1 B.2.1 dX9_wholeBurden_24 (by decide) (fun h => absurd (by rw [hq]; rfl) h) (fun _ => ?_)
    refine lv_iconst (v := 0) B.1 B.2.1 dX9_wholeBurden_27 (by decide) ?_
    refine lv_goto (tgt := 39) B.1 B.2.1 dX9_wholeBurden_28 (by decide) ?_
    refine lv_iadd B.1 B.2.1 dX9_wholeBurden_39 ?_
    refine lv_cv (v := (nI (n / e9 * bdN 0 1 e9))) (Int32.add_zero _) ?_
    exact endI B hr hlk Y () (by unfold wbN; rw [if_pos hq, Nat.add_zero]) [0, 1] (by decide) rfl (Nat.le_of_ble_eq_true rfl) (Nat.le_of_ble_eq_true rfl) dX9_wholeBurden_40
  · have hlt := Nat.mod_lt n h1
    refine lv_iload_n B.1 B.2.1 dX9_wholeBurden_0 rfl (lv_at hl 2 rfl) ?_
    refine lv_iconst (v := 1) B.1 B.2.1 dX9_wholeBurden_1 (by decide) ?_
    refine lv_icmp_ge (tgt := 7) B.1 B.2.1 dX9_wholeBurden_2 (by decide) (fun _ => ?_) (fun h => absurd (nI_le (a := 1) h1 (by omega)) h)
    refine lv_iload_n B.1 B.2.1 dX9_wholeBurden_7 rfl (lv_at hl 1 rfl) ?_
    refine lv_iload_n B.1 B.2.1 dX9_wholeBurden_8 rfl (lv_at hl 2 rfl) ?_
    refine lv_irem B.1 B.2.1 dX9_wholeBurden_9 (nI_ne0 (by omega) (by omega)) ?_
    refine lv_cv (v := (nI (n % e9))) (pk_rem (by omega) (by omega) (by omega)) ?_
    refine lv_istore_n (lv' := [(3, .int (nI (n % e9))), (0, .ref x), (1, .int (nI n)), (2, .int (nI e9))]) B.1 B.2.1 dX9_wholeBurden_10 rfl hl (by decide) rfl (fun ls hl => ?_)
    refine lv_iload_n B.1 B.2.1 dX9_wholeBurden_11 rfl (lv_at hl 2 rfl) ?_
    refine lv_iload_n B.1 B.2.1 dX9_wholeBurden_12 rfl (lv_at hl 3 rfl) ?_
    refine lv_idiv B.1 B.2.1 dX9_wholeBurden_13 (nI_ne0 (by omega) (by omega)) ?_
    refine lv_cv (v := (nI (n / e9))) (pk_div (by omega) (by omega) (by omega)) ?_
    refine lv_aload_n B.1 B.2.1 dX9_wholeBurden_14 rfl (lv_at hl 1 rfl) ?_
    refine gf_X9_23 B Y 0 rfl rfl dX9_wholeBurden_15 ?_
    refine lv_iload_n B.1 B.2.1 dX9_wholeBurden_18 rfl (lv_at hl 3 rfl) ?_
    refine retI (wc := [(bu, .inl (τ 0, 1001, .inl (f)))]) (wr := [(x, .inr (9, [.ref rd, .ref tx, .ref bu, .ref st, .ref pa, .int 0, .int 0, .null, .null]))]) Y [1] [0] rfl rfl (by decide) (by decide) (rS (As := [.ref bu, .int (nI e9)]) (rest := [.int (nI (n / e9))]) B Y [1] (by decide) rfl (k_valueIn l D τ _ bu 1001 (f) (by decide) (nI e9) e9 rfl (by omega)) q_1236 q_618 q_1 q_619 rfl rfl hd_X9_valueIn ⟨(Nat.le_of_ble_eq_true rfl), (Nat.le_of_ble_eq_true rfl)⟩ rfl hl.1 rfl (Nat.le_of_ble_eq_true rfl) dX9_wholeBurden_19 ⟨(Nat.le_of_ble_eq_true rfl), (Nat.le_of_ble_eq_true rfl)⟩) (fun r u H locs hw Y => ?_)
    have hw : r = (nI (bdN 0 1 e9)) := (hw : r = _).trans (hG e9 (by omega) h2)
    subst hw
    have Y : Wd D τ s A s.heap [(x, .inr (9, [.ref rd, .ref tx, .ref bu, .ref st, .ref pa, .int 0, .int 0, .null, .null])), (bu, .inl (τ 0, 1001, .inl (f)))] H _ := Y
    refine lv_imul B.1 B.2.1 dX9_wholeBurden_22 ?_
    refine lv_cv (v := (nI (n / e9 * bdN 0 1 e9))) (pk_mul _ _) ?_
    refine lv_iload_n B.1 B.2.1 dX9_wholeBurden_23 rfl (lv_at hl 0 rfl) ?_
    refine lv_if_ne (tgt := 31) B.1 B.2.1 dX9_wholeBurden_24 (by decide) (fun _ => ?_) (fun h => absurd h (nI_ne0 (Nat.pos_of_ne_zero hq) (by omega)))
    refine lv_aload_n B.1 B.2.1 dX9_wholeBurden_31 rfl (lv_at hl 1 rfl) ?_
    refine gf_X9_23 B Y 0 rfl rfl dX9_wholeBurden_32 ?_
    refine lv_iload_n B.1 B.2.1 dX9_wholeBurden_35 rfl (lv_at hl 0 rfl) ?_
    refine retI (wc := [(bu, .inl (τ 0, 1001, .inl (f)))]) (wr := [(x, .inr (9, [.ref rd, .ref tx, .ref bu, .ref st, .ref pa, .int 0, .int 0, .null, .null]))]) Y [1] [0] rfl rfl (by decide) (by decide) (rS (As := [.ref bu, .int (nI (n % e9))]) (rest := [.int (nI (n / e9 * bdN 0 1 e9))]) B Y [1] (by decide) rfl (k_valueIn l D τ _ bu 1001 (f) (by decide) (nI (n % e9)) (n % e9) rfl (by omega)) q_1236 q_618 q_1 q_619 rfl rfl hd_X9_valueIn ⟨(Nat.le_of_ble_eq_true rfl), (Nat.le_of_ble_eq_true rfl)⟩ rfl hl.1 rfl (Nat.le_of_ble_eq_true rfl) dX9_wholeBurden_36 ⟨(Nat.le_of_ble_eq_true rfl), (Nat.le_of_ble_eq_true rfl)⟩) (fun r u H locs hw Y => ?_)
    have hw : r = (nI (bdN 0 1 (n % e9))) := (hw : r = _).trans (hG (n % e9) (Nat.pos_of_ne_zero hq) (by omega))
    subst hw
    have Y : Wd D τ s A s.heap [(x, .inr (9, [.ref rd, .ref tx, .ref bu, .ref st, .ref pa, .int 0, .int 0, .null, .null])), (bu, .inl (τ 0, 1001, .inl (f)))] H _ := Y
    refine lv_iadd B.1 B.2.1 dX9_wholeBurden_39 ?_
    refine lv_cv (v := (nI (n / e9 * bdN 0 1 e9 + bdN 0 1 (n % e9)))) (nI_add _ _) ?_
    exact endI B hr hlk Y () (by unfold wbN; rw [if_neg hq]) [0, 1] (by decide) rfl (Nat.le_of_ble_eq_true rfl) (Nat.le_of_ble_eq_true rfl) dX9_wholeBurden_40

set_option maxHeartbeats 4000000 in
set_option maxRecDepth 100000 in
theorem lp_best {p : Program} {l : Launch} {e : Env} {s : State} {m : MethodId} {args : Array Value} {below : List Frame} {meth : Method} {c : Code} {Q : State → Prop} {D : va_G} {τ : Nat → ClassId} {A : Nat → Prop} {H0 : Heap} (x rd q0 q1 q2 q3 q4 tx to bu st pa aL aD aH l0 d0 p0 v0 p1 v1 p2 v2 p3 v3 pk k0 k1 k2 k3 k4 k5 k6 k7 k8 k9 nt n0 n1 n2 ac : Nat) (fL fD fH : Nat → Option Nat) (hS : fL 0 = some l0 ∧ fD 0 = some d0 ∧ fH 0 = some p0 ∧ fH 1 = some p1 ∧ fH 2 = some p2 ∧ fH 3 = some p3) {f : Nat → Int32} {M n : Nat} (hM : M ≤ 1000) (hM1 : 1 ≤ M) (hG : ∀ j : Nat, 0 < j → j ≤ M → f j = nI (bdN 0 1 j)) (hn : n ≤ 3000) (B : CallFix p m c cX9_bestLong 5 s args wALL RX9)
    (kx : ∀ (H : Heap) (locs : List Loc) (ls : Array Slot), lv_has ls 5 [(4, .int (nI (M + 1))), (3, .int (nI (bestN n M))), (2, .int (nI M)), (0, .ref x), (1, .int (nI n))] → Wd D τ s A H0 [(x, .inr (9, [.ref rd, .ref tx, .ref bu, .ref st, .ref pa, .int 0, .int 0, .null, .null])), (bu, .inl (τ 0, 1001, .inl (f)))] H locs → W p l e ({ frames := 7, cells := 1, slots := 6, locals := 162 } : Room) s m args below meth c H locs 1 6 Q (F0 m 57 ls [])) :
    ∀ (k i : Nat) (H : Heap) (locs : List Loc) (ls : Array Slot), i + k = M → lv_has ls 5 [(4, .int (nI (i + 1))), (3, .int (nI (bestN n i))), (2, .int (nI M)), (0, .ref x), (1, .int (nI n))] → Wd D τ s A H0 [(x, .inr (9, [.ref rd, .ref tx, .ref bu, .ref st, .ref pa, .int 0, .int 0, .null, .null])), (bu, .inl (τ 0, 1001, .inl (f)))] H locs → W p l e ({ frames := 7, cells := 1, slots := 6, locals := 162 } : Room) s m args below meth c H locs 1 6 Q (F0 m 26 ls []) := by
  intro k
  induction k with
  | zero =>
    intro i H locs ls hi hl Y
    have hi : i = M := by omega
    rw [hi] at hl
    refine lv_iload B.1 B.2.1 dX9_bestLong_26 (lv_at hl 0 rfl) ?_
    refine lv_iload_n B.1 B.2.1 dX9_bestLong_28 rfl (lv_at hl 2 rfl) ?_
    refine lv_icmp_gt (tgt := 57) B.1 B.2.1 dX9_bestLong_29 (by decide) (fun _ => ?_) (fun h => absurd (nI_lt (by omega) (by omega)) h)
    exact kx H locs ls (lv_sub hl [0, 1, 2, 3, 4] rfl) Y
  | succ k ih =>
    intro i H locs ls hi hl Y
    have hb1 := bestN_in n i
    have hb2 : bestN n i ≤ M := by omega
    refine lv_iload B.1 B.2.1 dX9_bestLong_26 (lv_at hl 0 rfl) ?_
    refine lv_iload_n B.1 B.2.1 dX9_bestLong_28 rfl (lv_at hl 2 rfl) ?_
    refine lv_icmp_gt (tgt := 57) B.1 B.2.1 dX9_bestLong_29 (by decide) (fun h => absurd h (nI_nlt (by omega) (by omega))) (fun _ => ?_)
    refine lv_aload_n B.1 B.2.1 dX9_bestLong_32 rfl (lv_at hl 3 rfl) ?_
    refine lv_iload_n B.1 B.2.1 dX9_bestLong_33 rfl (lv_at hl 4 rfl) ?_
    refine lv_iload B.1 B.2.1 dX9_bestLong_34 (lv_at hl 0 rfl) ?_
    refine retI (wc := [(x, .inr (9, [.ref rd, .ref tx, .ref bu, .ref st, .ref pa, .int 0, .int 0, .null, .null])), (bu, .inl (τ 0, 1001, .inl (f)))]) (wr := []) Y [0, 1] [] rfl rfl (by decide) (by decide) (rV (As := [.int (nI n), .int (nI (i + 1))]) (rest := []) (q0 := 0) B Y [0, 1] (by decide) rfl (k_wholeBurden l D τ _ x rd q0 q1 q2 q3 q4 tx to bu st pa aL aD aH l0 d0 p0 v0 p1 v1 p2 v2 p3 v3 pk k0 k1 k2 k3 k4 k5 k6 k7 k8 k9 nt n0 n1 n2 ac fL fD fH hS (f) M n (i + 1) hM hG hn (by omega) (by omega)) rfl rfl q_1330 q_1332 qp_42 q_1 q_1333 rfl rfl hd_X9_wholeBurden ⟨(Nat.le_of_ble_eq_true rfl), (Nat.le_of_ble_eq_true rfl)⟩ rfl hl.1 rfl (Nat.le_of_ble_eq_true rfl) dX9_bestLong_36 ⟨(Nat.le_of_ble_eq_true rfl), (Nat.le_of_ble_eq_true rfl)⟩) (fun r u H locs hw Y => ?_)
    have hw : r = nI (wbN n (i + 1)) := hw
    subst hw
    have Y : Wd D τ s A H0 [(x, .inr (9, [.ref rd, .ref tx, .ref bu, .ref st, .ref pa, .int 0, .int 0, .null, .null])), (bu, .inl (τ 0, 1001, .inl (f)))] H _ := Y
    refine lv_aload_n B.1 B.2.1 dX9_bestLong_39 rfl (lv_at hl 3 rfl) ?_
    refine lv_iload_n B.1 B.2.1 dX9_bestLong_40 rfl (lv_at hl 4 rfl) ?_
    refine lv_iload_n B.1 B.2.1 dX9_bestLong_41 rfl (lv_at hl 1 rfl) ?_
    refine retI (wc := [(x, .inr (9, [.ref rd, .ref tx, .ref bu, .ref st, .ref pa, .int 0, .int 0, .null, .null])), (bu, .inl (τ 0, 1001, .inl (f)))]) (wr := []) Y [0, 1] [] rfl rfl (by decide) (by decide) (rV (As := [.int (nI n), .int (nI (bestN n i))]) (rest := [.int (nI (wbN n (i + 1)))]) (q0 := 0) B Y [0, 1] (by decide) rfl (k_wholeBurden l D τ _ x rd q0 q1 q2 q3 q4 tx to bu st pa aL aD aH l0 d0 p0 v0 p1 v1 p2 v2 p3 v3 pk k0 k1 k2 k3 k4 k5 k6 k7 k8 k9 nt n0 n1 n2 ac fL fD fH hS (f) M n (bestN n i) hM hG hn hb1.1 hb2) rfl rfl q_1330 q_1332 qp_42 q_1 q_1333 rfl rfl hd_X9_wholeBurden ⟨(Nat.le_of_ble_eq_true rfl), (Nat.le_of_ble_eq_true rfl)⟩ rfl hl.1 rfl (Nat.le_of_ble_eq_true rfl) dX9_bestLong_42 ⟨(Nat.le_of_ble_eq_true rfl), (Nat.le_of_ble_eq_true rfl)⟩) (fun r u H locs hw Y => ?_)
    have hw : r = nI (wbN n (bestN n i)) := hw
    subst hw
    have Y : Wd D τ s A H0 [(x, .inr (9, [.ref rd, .ref tx, .ref bu, .ref st, .ref pa, .int 0, .int 0, .null, .null])), (bu, .inl (τ 0, 1001, .inl (f)))] H _ := Y
    refine lv_icmp_gt (tgt := 51) B.1 B.2.1 dX9_bestLong_45 (by decide) (fun c1 => ?_) (fun c1 => ?_)
    · refine lv_iinc (v := (nI (i + 1 + 1))) (lv' := [(4, .int (nI (i + 1 + 1))), (3, .int (nI (bestN n i))), (2, .int (nI M)), (0, .ref x), (1, .int (nI n))]) B.1 B.2.1 dX9_bestLong_51 hl (k := 0) rfl (nI_1 _) (by decide) rfl (fun ls hl => ?_)
      refine lv_goto (tgt := 26) B.1 B.2.1 dX9_bestLong_54 (by decide) ?_
      have e : bestN n (i + 1) = bestN n i := by show (if _ then _ else _) = _; exact if_neg (fun q => Nat.not_lt.mpr q ((nI_ltI (Nat.lt_of_lt_of_le (wbN_lt hn hb1.1 (by omega)) (by decide)) (Nat.lt_of_lt_of_le (wbN_lt hn (by omega) (by omega)) (by decide))).mp c1))
      refine ih (i + 1) H locs ls (by omega) ?_ Y
      rw [e]
      exact lv_sub hl [0, 1, 2, 3, 4] rfl
    · refine lv_iload B.1 B.2.1 dX9_bestLong_48 (lv_at hl 0 rfl) ?_
      refine lv_istore_n (lv' := [(3, .int (nI (i + 1))), (4, .int (nI (i + 1))), (2, .int (nI M)), (0, .ref x), (1, .int (nI n))]) B.1 B.2.1 dX9_bestLong_50 rfl hl (by decide) rfl (fun ls hl => ?_)
      refine lv_iinc (v := (nI (i + 1 + 1))) (lv' := [(4, .int (nI (i + 1 + 1))), (3, .int (nI (i + 1))), (2, .int (nI M)), (0, .ref x), (1, .int (nI n))]) B.1 B.2.1 dX9_bestLong_51 hl (k := 1) rfl (nI_1 _) (by decide) rfl (fun ls hl => ?_)
      refine lv_goto (tgt := 26) B.1 B.2.1 dX9_bestLong_54 (by decide) ?_
      have e : bestN n (i + 1) = i + 1 := by show (if _ then _ else _) = _; exact if_pos (Nat.not_lt.mp (fun q => c1 ((nI_ltI (Nat.lt_of_lt_of_le (wbN_lt hn hb1.1 (by omega)) (by decide)) (Nat.lt_of_lt_of_le (wbN_lt hn (by omega) (by omega)) (by decide))).mpr q)))
      refine ih (i + 1) H locs ls (by omega) ?_ Y
      rw [e]
      exact lv_sub hl [0, 1, 2, 3, 4] rfl

set_option maxHeartbeats 4000000 in
set_option maxRecDepth 100000 in
theorem m_bestLong (l : Launch) (hl0 : l.stackTraces = false) (D : va_G) (τ : Nat → ClassId) (sz : Nat) (x rd q0 q1 q2 q3 q4 tx to bu st pa aL aD aH l0 d0 p0 v0 p1 v1 p2 v2 p3 v3 pk k0 k1 k2 k3 k4 k5 k6 k7 k8 k9 nt n0 n1 n2 ac : Nat) (fL fD fH : Nat → Option Nat) (hS : fL 0 = some l0 ∧ fD 0 = some d0 ∧ fH 0 = some p0 ∧ fH 1 = some p1 ∧ fH 2 = some p2 ∧ fH 3 = some p3) (k : Int32) : vx_Met l yX9_bestLong (Cond.code yX9_bestLong cX9_bestLong 5 (some .int) :: wALL) { frames := 7, cells := 1, slots := 6, locals := 162 } (PwX D τ [(x, .inr (9, [.ref rd, .ref tx, .ref bu, .ref st, .ref pa, .int 0, .int 0, .null, .null])), (bu, .inl (τ 0, 1001, .inl (fun _ => 0))), (st, .inr (7, [.int 0, .int 60, .int 0, .int 576, .int 27, .int (-1), .int 1, .int 0, .ref aL, .ref aD, .ref aH, .ref pk, .ref nt, .ref ac])), (aL, .inl (τ 3, 6, .inr (.inr (.inr (.inr (fL)))))), (l0, .inr (3, [.int 576, .int 1, .int 0, .int 0, .int 0, .int 0, .int 0, .int 0]))] sz [.ref x, .int k]) (va_Qi (fun (r : Int32) (_ : Unit) => ∃ n : Nat, 1 ≤ n ∧ n ≤ 3000 ∧ k = nI n ∧ r = nI (bestN n (min n 1000))) (Bw D (va_A [(x, .inr (9, [.ref rd, .ref tx, .ref bu, .ref st, .ref pa, .int 0, .int 0, .null, .null])), (bu, .inl (τ 0, 1001, .inl (fun _ => 0))), (st, .inr (7, [.int 0, .int 60, .int 0, .int 576, .int 27, .int (-1), .int 1, .int 0, .ref aL, .ref aD, .ref aH, .ref pk, .ref nt, .ref ac])), (aL, .inl (τ 3, 6, .inr (.inr (.inr (.inr (fL)))))), (l0, .inr (3, [.int 576, .int 1, .int 0, .int 0, .int 0, .int 0, .int 0, .int 0]))] sz) (fun (_ : Unit) => [])) (va_A [(x, .inr (9, [.ref rd, .ref tx, .ref bu, .ref st, .ref pa, .int 0, .int 0, .null, .null])), (bu, .inl (τ 0, 1001, .inl (fun _ => 0))), (st, .inr (7, [.int 0, .int 60, .int 0, .int 576, .int 27, .int (-1), .int 1, .int 0, .ref aL, .ref aD, .ref aH, .ref pk, .ref nt, .ref ac])), (aL, .inl (τ 3, 6, .inr (.inr (.inr (.inr (fL)))))), (l0, .inr (3, [.int 576, .int 1, .int 0, .int 0, .int 0, .int 0, .int 0, .int 0]))] sz)) (XQ (fun E => E = "java/lang/IllegalArgumentException" ∧ (k < 1 ∨ 3000 < k)) (va_A [(x, .inr (9, [.ref rd, .ref tx, .ref bu, .ref st, .ref pa, .int 0, .int 0, .null, .null])), (bu, .inl (τ 0, 1001, .inl (fun _ => 0))), (st, .inr (7, [.int 0, .int 60, .int 0, .int 576, .int 27, .int (-1), .int 1, .int 0, .ref aL, .ref aD, .ref aH, .ref pk, .ref nt, .ref ac])), (aL, .inl (τ 3, 6, .inr (.inr (.inr (.inr (fL)))))), (l0, .inr (3, [.int 576, .int 1, .int 0, .int 0, .int 0, .int 0, .int 0, .int 0]))] sz)) 1 6 (va_A [(x, .inr (9, [.ref rd, .ref tx, .ref bu, .ref st, .ref pa, .int 0, .int 0, .null, .null])), (bu, .inl (τ 0, 1001, .inl (fun _ => 0))), (st, .inr (7, [.int 0, .int 60, .int 0, .int 576, .int 27, .int (-1), .int 1, .int 0, .ref aL, .ref aD, .ref aH, .ref pk, .ref nt, .ref ac])), (aL, .inl (τ 3, 6, .inr (.inr (.inr (.inr (fL)))))), (l0, .inr (3, [.int 576, .int 1, .int 0, .int 0, .int 0, .int 0, .int 0, .int 0]))] sz) := by
  refine bodyX (by decide) (Nat.le_of_ble_eq_true rfl) (fun p e s m below meth c ls B hr hlk ht hsz Y hT hl => ?_)
  have hl : lv_has ls 5 [(0, .ref x), (1, .int k)] := hl
  have B : CallFix p m c cX9_bestLong 5 s _ wALL RX9 := B
  generalize va_A [(x, .inr (9, [.ref rd, .ref tx, .ref bu, .ref st, .ref pa, .int 0, .int 0, .null, .null])), (bu, .inl (τ 0, 1001, .inl (fun _ => 0))), (st, .inr (7, [.int 0, .int 60, .int 0, .int 576, .int 27, .int (-1), .int 1, .int 0, .ref aL, .ref aD, .ref aH, .ref pk, .ref nt, .ref ac])), (aL, .inl (τ 3, 6, .inr (.inr (.inr (.inr (fL)))))), (l0, .inr (3, [.int 576, .int 1, .int 0, .int 0, .int 0, .int 0, .int 0, .int 0]))] sz = A at Y hT ⊢
  refine lv_iload_n B.1 B.2.1 dX9_bestLong_0 rfl (lv_at hl 1 rfl) ?_
  refine lv_iconst (v := 1) B.1 B.2.1 dX9_bestLong_1 (by decide) ?_
  refine lv_sipush (v := 3000) B.1 B.2.1 dX9_bestLong_2 (by decide) ?_
  refine retVX (wc := []) (wr := [(x, .inr (9, [.ref rd, .ref tx, .ref bu, .ref st, .ref pa, .int 0, .int 0, .null, .null])), (bu, .inl (τ 0, 1001, .inl (fun _ => 0))), (st, .inr (7, [.int 0, .int 60, .int 0, .int 576, .int 27, .int (-1), .int 1, .int 0, .ref aL, .ref aD, .ref aH, .ref pk, .ref nt, .ref ac])), (aL, .inl (τ 3, 6, .inr (.inr (.inr (.inr (fL)))))), (l0, .inr (3, [.int 576, .int 1, .int 0, .int 0, .int 0, .int 0, .int 0, .int 0]))]) ht hlk Y [] [0, 1, 2, 3, 4] rfl rfl (by decide) (by decide) (fun E h => h) (Nat.le_of_ble_eq_true rfl) (Nat.le_of_ble_eq_true rfl) (rSX (As := [.int k, .int 1, .int 3000]) (rest := []) B Y hT [] (by decide) rfl (k_needRange l hl0 D τ _ k 1 3000) q_928 q_929 q_1 q_930 rfl rfl hd_X9_needRange ⟨(Nat.le_of_ble_eq_true rfl), (Nat.le_of_ble_eq_true rfl)⟩ rfl hl.1 rfl (Nat.le_of_ble_eq_true rfl) dX9_bestLong_5 ⟨(Nat.le_of_ble_eq_true rfl), (Nat.le_of_ble_eq_true rfl)⟩) (fun u H locs hw Y => ?_)
  have hw : ¬ k < 1 ∧ ¬ 3000 < k := hw
  have Y : Wd D τ s A s.heap [(x, .inr (9, [.ref rd, .ref tx, .ref bu, .ref st, .ref pa, .int 0, .int 0, .null, .null])), (bu, .inl (τ 0, 1001, .inl (fun _ => 0))), (st, .inr (7, [.int 0, .int 60, .int 0, .int 576, .int 27, .int (-1), .int 1, .int 0, .ref aL, .ref aD, .ref aH, .ref pk, .ref nt, .ref ac])), (aL, .inl (τ 3, 6, .inr (.inr (.inr (.inr (fL)))))), (l0, .inr (3, [.int 576, .int 1, .int 0, .int 0, .int 0, .int 0, .int 0, .int 0]))] H _ := Y
  refine W.widen (k := 1) (n := 6) (Nat.le_of_ble_eq_true rfl) (Nat.le_of_ble_eq_true rfl) ?_
  obtain ⟨n, hn, hna, hnb⟩ := i_rng (a := 1) (b := 3000) (by decide) (by decide) hw.1 hw.2
  subst hn
  have hl : lv_has ls 5 [(0, .ref x), (1, .int (nI n))] := hl
  refine lv_iload_n B.1 B.2.1 dX9_bestLong_8 rfl (lv_at hl 1 rfl) ?_
  refine lv_sipush (v := 1000) B.1 B.2.1 dX9_bestLong_9 (by decide) ?_
  refine t_mmin (v := (nI (min n 1000))) B q_1329 q_545 q_22 q_546 hl.1 (Nat.le_of_ble_eq_true rfl) (Nat.le_of_ble_eq_true rfl) (Nat.le_of_ble_eq_true rfl) (Nat.le_of_ble_eq_true rfl) (i_min1000 n (by omega)) dX9_bestLong_12 ?_
  refine lv_istore_n (lv' := [(2, .int (nI (min n 1000))), (0, .ref x), (1, .int (nI n))]) B.1 B.2.1 dX9_bestLong_15 rfl hl (by decide) rfl (fun ls hl => ?_)
  refine lv_aload_n B.1 B.2.1 dX9_bestLong_16 rfl (lv_at hl 1 rfl) ?_
  refine lv_iload_n B.1 B.2.1 dX9_bestLong_17 rfl (lv_at hl 0 rfl) ?_
  refine retV (wc := [(x, .inr (9, [.ref rd, .ref tx, .ref bu, .ref st, .ref pa, .int 0, .int 0, .null, .null])), (bu, .inl (τ 0, 1001, .inl (fun _ => 0))), (st, .inr (7, [.int 0, .int 60, .int 0, .int 576, .int 27, .int (-1), .int 1, .int 0, .ref aL, .ref aD, .ref aH, .ref pk, .ref nt, .ref ac])), (aL, .inl (τ 3, 6, .inr (.inr (.inr (.inr (fL)))))), (l0, .inr (3, [.int 576, .int 1, .int 0, .int 0, .int 0, .int 0, .int 0, .int 0]))]) (wr := []) Y [0, 1, 2, 3, 4] [] rfl rfl (by decide) (by decide) (rV (As := [.int (nI (min n 1000))]) (rest := []) (q0 := 0) B Y [0, 1, 2, 3, 4] (by decide) rfl (k_weighUpTo l D τ _ x rd q0 q1 q2 q3 q4 tx to bu st pa aL aD aH l0 d0 p0 v0 p1 v1 p2 v2 p3 v3 pk k0 k1 k2 k3 k4 k5 k6 k7 k8 k9 nt n0 n1 n2 ac fL fD fH hS (min n 1000) (by omega)) rfl rfl q_1318 q_1320 qp_41 q_1 q_1321 rfl rfl hd_X9_weighUpTo ⟨(Nat.le_of_ble_eq_true rfl), (Nat.le_of_ble_eq_true rfl)⟩ rfl hl.1 rfl (Nat.le_of_ble_eq_true rfl) dX9_bestLong_18 ⟨(Nat.le_of_ble_eq_true rfl), (Nat.le_of_ble_eq_true rfl)⟩) (fun u H locs hw Y => ?_)
  obtain ⟨g1, rfl⟩ : ∃ z, z = u := ⟨_, rfl⟩
  have hg1 : ∀ j : Nat, 0 < j → j ≤ (min n 1000) → g1 j = nI (bdN 0 1 j) := hw
  have Y : Wd D τ s A s.heap [(x, .inr (9, [.ref rd, .ref tx, .ref bu, .ref st, .ref pa, .int 0, .int 0, .null, .null])), (bu, .inl (τ 0, 1001, .inl (g1))), (st, .inr (7, [.int 0, .int 60, .int 0, .int 576, .int 27, .int (-1), .int 1, .int 0, .ref aL, .ref aD, .ref aH, .ref pk, .ref nt, .ref ac])), (aL, .inl (τ 3, 6, .inr (.inr (.inr (.inr (fL)))))), (l0, .inr (3, [.int 576, .int 1, .int 0, .int 0, .int 0, .int 0, .int 0, .int 0]))] H _ := Y
  refine lv_iconst (v := 1) B.1 B.2.1 dX9_bestLong_21 (by decide) ?_
  refine lv_istore_n (lv' := [(3, .int 1), (2, .int (nI (min n 1000))), (0, .ref x), (1, .int (nI n))]) B.1 B.2.1 dX9_bestLong_22 rfl hl (by decide) rfl (fun ls hl => ?_)
  refine lv_iconst (v := 1) B.1 B.2.1 dX9_bestLong_23 (by decide) ?_
  refine lv_istore (lv' := [(4, .int 1), (3, .int 1), (2, .int (nI (min n 1000))), (0, .ref x), (1, .int (nI n))]) B.1 B.2.1 dX9_bestLong_24 hl (by decide) rfl (fun ls hl => ?_)
  refine lp_best x rd q0 q1 q2 q3 q4 tx to bu st pa aL aD aH l0 d0 p0 v0 p1 v1 p2 v2 p3 v3 pk k0 k1 k2 k3 k4 k5 k6 k7 k8 k9 nt n0 n1 n2 ac fL fD fH hS (M := min n 1000) (n := n) (by omega) (by omega) hg1 hnb B (fun H locs ls hl Y => ?_) (min n 1000) 0 _ _ _ (by omega) (lv_sub hl [0, 1, 2, 3, 4] rfl) (Y.sub [0, 1] (by decide) rfl)
  refine lv_iload_n B.1 B.2.1 dX9_bestLong_57 rfl (lv_at hl 1 rfl) ?_
  exact vx_ret (endI B hr hlk Y () ⟨n, hna, hnb, rfl, rfl⟩ [] (by decide) rfl (Nat.le_of_ble_eq_true rfl) (Nat.le_of_ble_eq_true rfl) dX9_bestLong_58)
