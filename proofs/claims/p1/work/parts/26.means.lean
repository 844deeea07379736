set_option maxHeartbeats 4000000 in
set_option maxRecDepth 100000 in
theorem m_trueShare (l : Launch) (D : va_G) (τ : Nat → ClassId) (sz : Nat) (x rd q0 q1 q2 q3 q4 tx to bu st pa aL aD aH l0 d0 p0 v0 p1 v1 p2 v2 p3 v3 pk k0 k1 k2 k3 k4 k5 k6 k7 k8 k9 nt n0 n1 n2 ac : Nat) (fL fD fH : Nat → Option Nat) (hS : fL 0 = some l0 ∧ fD 0 = some d0 ∧ fH 0 = some p0 ∧ fH 1 = some p1 ∧ fH 2 = some p2 ∧ fH 3 = some p3) : Met l yX9_trueShare (Cond.code yX9_trueShare cX9_trueShare 2 (some .float) :: wALL) { frames := 2, cells := 0, slots := 0, locals := 43 } (Pw D τ [(x, .inr (9, [.ref rd, .ref tx, .ref bu, .ref st, .ref pa, .int 0, .int 0, .null, .null])), (st, .inr (7, [.int 0, .int 60, .int 0, .int 576, .int 27, .int (-1), .int 1, .int 0, .ref aL, .ref aD, .ref aH, .ref pk, .ref nt, .ref ac]))] sz [.ref x]) (va_Qf (fun (r : UInt32) (_ : Unit) => r = FP.fconst0) (Bw D (va_A [(x, .inr (9, [.ref rd, .ref tx, .ref bu, .ref st, .ref pa, .int 0, .int 0, .null, .null])), (st, .inr (7, [.int 0, .int 60, .int 0, .int 576, .int 27, .int (-1), .int 1, .int 0, .ref aL, .ref aD, .ref aH, .ref pk, .ref nt, .ref ac]))] sz) (fun (_ : Unit) => [])) (va_A [(x, .inr (9, [.ref rd, .ref tx, .ref bu, .ref st, .ref pa, .int 0, .int 0, .null, .null])), (st, .inr (7, [.int 0, .int 60, .int 0, .int 576, .int 27, .int (-1), .int 1, .int 0, .ref aL, .ref aD, .ref aH, .ref pk, .ref nt, .ref ac]))] sz)) 0 0 (va_A [(x, .inr (9, [.ref rd, .ref tx, .ref bu, .ref st, .ref pa, .int 0, .int 0, .null, .null])), (st, .inr (7, [.int 0, .int 60, .int 0, .int 576, .int 27, .int (-1), .int 1, .int 0, .ref aL, .ref aD, .ref aH, .ref pk, .ref nt, .ref ac]))] sz) := by
  refine bodyW (by decide) (Nat.le_of_ble_eq_true rfl) (fun p e s m below meth c ls B hr hlk hin hsz Y hl => ?_)
  have hl : lv_has ls 2 [(0, .ref x)] := hl
  have B : CallFix p m c cX9_trueShare 2 s _ wALL RX9 := B
  generalize va_A [(x, .inr (9, [.ref rd, .ref tx, .ref bu, .ref st, .ref pa, .int 0, .int 0, .null, .null])), (st, .inr (7, [.int 0, .int 60, .int 0, .int 576, .int 27, .int (-1), .int 1, .int 0, .ref aL, .ref aD, .ref aH, .ref pk, .ref nt, .ref ac]))] sz = A at Y ⊢
  refine lv_aload_n B.1 B.2.1 dX9_trueShare_0 rfl (lv_at hl 0 rfl) ?_
  refine gf_X9_30 B Y 0 rfl rfl dX9_trueShare_1 ?_
  refine retI (wc := [(st, .inr (7, [.int 0, .int 60, .int 0, .int 576, .int 27, .int (-1), .int 1, .int 0, .ref aL, .ref aD, .ref aH, .ref pk, .ref nt, .ref ac]))]) (wr := [(x, .inr (9, [.ref rd, .ref tx, .ref bu, .ref st, .ref pa, .int 0, .int 0, .null, .null]))]) Y [1] [0] rfl rfl (by decide) (by decide) (rV (As := []) (rest := []) (q0 := 1) B Y [1] (by decide) rfl (k_handedCount l D τ _ st 0 60 0 576 27 (-1) 1 aL aD aH pk nt ac) rfl rfl q_771 q_772 q_773 q_4 q_774 rfl rfl hd_X7_handedCount ⟨(Nat.le_of_ble_eq_true rfl), (Nat.le_of_ble_eq_true rfl)⟩ rfl hl.1 rfl (Nat.le_of_ble_eq_true rfl) dX9_trueShare_4 ⟨(Nat.le_of_ble_eq_true rfl), (Nat.le_of_ble_eq_true rfl)⟩) (fun r u H locs hw Y => ?_)
  have hw : r = 0 := hw
  subst hw
  have Y : Wd D τ s A s.heap [(x, .inr (9, [.ref rd, .ref tx, .ref bu, .ref st, .ref pa, .int 0, .int 0, .null, .null])), (st, .inr (7, [.int 0, .int 60, .int 0, .int 576, .int 27, .int (-1), .int 1, .int 0, .ref aL, .ref aD, .ref aH, .ref pk, .ref nt, .ref ac]))] H _ := Y
  refine lv_istore_n (lv' := [(1, .int 0), (0, .ref x)]) B.1 B.2.1 dX9_trueShare_7 rfl hl (by decide) rfl (fun ls hl => ?_)
  refine lv_iload_n B.1 B.2.1 dX9_trueShare_8 rfl (lv_at hl 0 rfl) ?_
  refine lv_if_ne (tgt := 16) B.1 B.2.1 dX9_trueShare_9 (by decide) (fun h => absurd (by decide) h) (fun _ => ?_)
  refine lv_fconst0 B.1 B.2.1 dX9_trueShare_12 ?_
  refine lv_goto (tgt := 28) B.1 B.2.1 dX9_trueShare_13 (by decide) ?_
  exact endF B hr hlk Y () rfl [] (by decide) rfl (Nat.le_of_ble_eq_true rfl) (Nat.le_of_ble_eq_true rfl) dX9_trueShare_28

set_option maxHeartbeats 4000000 in
set_option maxRecDepth 100000 in
theorem m_meanTries (l : Launch) (D : va_G) (τ : Nat → ClassId) (sz : Nat) (x rd q0 q1 q2 q3 q4 tx to bu st pa aL aD aH l0 d0 p0 v0 p1 v1 p2 v2 p3 v3 pk k0 k1 k2 k3 k4 k5 k6 k7 k8 k9 nt n0 n1 n2 ac : Nat) (fL fD fH : Nat → Option Nat) (hS : fL 0 = some l0 ∧ fD 0 = some d0 ∧ fH 0 = some p0 ∧ fH 1 = some p1 ∧ fH 2 = some p2 ∧ fH 3 = some p3) : Met l yX9_meanTries (Cond.code yX9_meanTries cX9_meanTries 1 (some .double) :: wALL) { frames := 0, cells := 0, slots := 0, locals := 0 } (Pw D τ [(x, .inr (9, [.ref rd, .ref tx, .ref bu, .ref st, .ref pa, .int 0, .int 0, .null, .null])), (st, .inr (7, [.int 0, .int 60, .int 0, .int 576, .int 27, .int (-1), .int 1, .int 0, .ref aL, .ref aD, .ref aH, .ref pk, .ref nt, .ref ac]))] sz [.ref x]) (va_Qd (fun (r : UInt64) (_ : Unit) => r = FP.dconst0) (Bw D (va_A [(x, .inr (9, [.ref rd, .ref tx, .ref bu, .ref st, .ref pa, .int 0, .int 0, .null, .null])), (st, .inr (7, [.int 0, .int 60, .int 0, .int 576, .int 27, .int (-1), .int 1, .int 0, .ref aL, .ref aD, .ref aH, .ref pk, .ref nt, .ref ac]))] sz) (fun (_ : Unit) => [])) (va_A [(x, .inr (9, [.ref rd, .ref tx, .ref bu, .ref st, .ref pa, .int 0, .int 0, .null, .null])), (st, .inr (7, [.int 0, .int 60, .int 0, .int 576, .int 27, .int (-1), .int 1, .int 0, .ref aL, .ref aD, .ref aH, .ref pk, .ref nt, .ref ac]))] sz)) 0 0 (va_A [(x, .inr (9, [.ref rd, .ref tx, .ref bu, .ref st, .ref pa, .int 0, .int 0, .null, .null])), (st, .inr (7, [.int 0, .int 60, .int 0, .int 576, .int 27, .int (-1), .int 1, .int 0, .ref aL, .ref aD, .ref aH, .ref pk, .ref nt, .ref ac]))] sz) := by
  refine bodyW (by decide) (Nat.le_of_ble_eq_true rfl) (fun p e s m below meth c ls B hr hlk hin hsz Y hl => ?_)
  have hl : lv_has ls 1 [(0, .ref x)] := hl
  have B : CallFix p m c cX9_meanTries 1 s _ wALL RX9 := B
  generalize va_A [(x, .inr (9, [.ref rd, .ref tx, .ref bu, .ref st, .ref pa, .int 0, .int 0, .null, .null])), (st, .inr (7, [.int 0, .int 60, .int 0, .int 576, .int 27, .int (-1), .int 1, .int 0, .ref aL, .ref aD, .ref aH, .ref pk, .ref nt, .ref ac]))] sz = A at Y ⊢
  refine lv_aload_n B.1 B.2.1 dX9_meanTries_0 rfl (lv_at hl 0 rfl) ?_
  refine gf_X9_30 B Y 0 rfl rfl dX9_meanTries_1 ?_
  refine gf_X9_113 B Y 1 rfl rfl dX9_meanTries_4 ?_
  refine lv_if_ne (tgt := 14) B.1 B.2.1 dX9_meanTries_7 (by decide) (fun h => absurd (by decide) h) (fun _ => ?_)
  refine lv_dconst0 B.1 B.2.1 dX9_meanTries_10 ?_
  refine lv_goto (tgt := 31) B.1 B.2.1 dX9_meanTries_11 (by decide) ?_
  exact endD B hr hlk Y () rfl [] (by decide) rfl (Nat.le_of_ble_eq_true rfl) (Nat.le_of_ble_eq_true rfl) dX9_meanTries_31
