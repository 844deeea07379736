set_option maxHeartbeats 8000000 in
set_option maxRecDepth 100000 in
theorem whole_start {p : Program} {e : Env} {s : State} {m : MethodId} {below : List Frame} {meth : Method} {c : Code} (l : Launch) (hflags : l.flags = flags0) {b L : Nat} {xs : Nat → Int32} (hL : L ≤ 6) (C0 : lw_At p s m meth c b L xs) : W p l e room_1 s m #[Value.ref b] below meth c s.heap [] 0 0 (lw_Z below #[Value.ref b] s) (entryFrame m ([Value.ref b] : List Value).toArray 9) := by
  have hl0 : l.stackTraces = false := by unfold Launch.stackTraces; rw [hflags]; decide
  obtain ⟨D, τ, adK, adV, hG, hEz⟩ := start_of C0
  obtain ⟨hx, hb, hr, hml, hown, hts, hX, hbl, hlk, hgv⟩ := id C0
  have B : CallFix p m c cL_law 9 s #[Value.ref b] wALL RL := ⟨hx, hb, hml, hown, fun w h => hts w (List.mem_filter.mp h).1⟩
  obtain ⟨A, hAd⟩ : ∃ A : Nat → Prop, A = fun q => s.heap.size ≤ q := ⟨_, rfl⟩
  rw [← hAd] at hEz
  have hA0 : ∀ q, A q → s.heap.size ≤ q := by rw [hAd]; exact fun q h => h
  have hA1 : ∀ q, s.heap.size ≤ q → A q := by rw [hAd]; exact fun q h => h
  have hbA : ¬ A b := fun h => absurd hbl (Nat.not_lt.mpr (hA0 b h))
  have Y : Wd D τ s A s.heap [] s.heap [] := ⟨hG, (fun k q h => by simp at h), ⟨fun i j p q h => by simp at h, fun k q h => by simp at h⟩, va_S.rf, hA1⟩
  have hl := lv_entry ([.ref b]) (n := 9) (Nat.le_of_ble_eq_true rfl)
  rw [lg_entry_eq]
  generalize (lg_sl ([.ref b]) ++ List.replicate (9 - (lg_sl ([.ref b])).length) Slot.unset).toArray = ls at hl ⊢
  have hl : lv_has ls 9 [(0, .ref b)] := hl
  refine t_new (ci := 9) (fs := [.null, .null, .null, .null, .null, .int 0, .int 0, .null, .null]) B Y inX9 tyX9_ok q_25 q_26 q_1 rfl nwX9 (Nat.le_of_ble_eq_true rfl) (Nat.le_of_ble_eq_true rfl) dL_law_0 (fun x H Y => ?_)
  have Y : Wd D τ s A s.heap [(x, .inr (9, [.null, .null, .null, .null, .null, .int 0, .int 0, .null, .null]))] H _ := Y
  refine W.widen (k := 1) (n := 9) (Nat.le_of_ble_eq_true rfl) (Nat.le_of_ble_eq_true rfl) ?_
  refine lv_dup B.1 B.2.1 dL_law_3 rfl ?_
  refine retV (wc := [(x, .inr (9, [.null, .null, .null, .null, .null, .int 0, .int 0, .null, .null]))]) (wr := []) Y [0] [] rfl rfl (by decide) (by decide) (rI (As := []) (rest := [.ref x]) B Y [0] (by decide) rfl (k_X9_init l D τ _ x) q_27 q_28 q_1 q_29 rfl rfl rfl hd_X9_init ⟨(Nat.le_of_ble_eq_true rfl), (Nat.le_of_ble_eq_true rfl)⟩ rfl hl.1 rfl (Nat.le_of_ble_eq_true rfl) dL_law_4 ⟨(Nat.le_of_ble_eq_true rfl), (Nat.le_of_ble_eq_true rfl)⟩) (fun u H locs hw Y => ?_)
  obtain ⟨fL, fD, fH, aL, aD, aH, l0, d0, p0, v0, p1, v1, p2, v2, p3, v3, pk, k0, k1, k2, k3, k4, k5, k6, k7, k8, k9, nt, n0, n1, n2, ac, rd, q0, q1, q2, q3, q4, tx, to, bu, st, pa⟩ := u
  have hS : fL 0 = some l0 ∧ fD 0 = some d0 ∧ fH 0 = some p0 ∧ fH 1 = some p1 ∧ fH 2 = some p2 ∧ fH 3 = some p3 := hw
  have Y : Wd D τ s A s.heap [(x, .inr (9, [.ref rd, .ref tx, .ref bu, .ref st, .ref pa, .int 0, .int 0, .null, .null])), (rd, .inr (6, [.ref q0, .int 0, .int 0, .int 0, .int 0, .int (-1), .int 0, .ref q1, .ref q2, .ref q3, .ref q4])), (q0, .inl (τ 1, 500, .inl (fun _ => 0))), (q1, .inl (τ 0, 48, .inl (fun _ => 0))), (q2, .inl (τ 0, 192, .inl (fun _ => 0))), (q3, .inl (τ 2, 48, .inl (fun _ => 0))), (q4, .inl (τ 0, 10, .inl (fun _ => 0))), (tx, .inr (8, [.ref to, .int 0])), (to, .inl (τ 1, 2048, .inl (fun _ => 0))), (bu, .inl (τ 0, 1001, .inl (fun _ => 0))), (pa, .inl (τ 6, 8, .inr (.inr (.inr (.inr (fun _ => none)))))), (st, .inr (7, [.int 0, .int 60, .int 0, .int 576, .int 27, .int (-1), .int 1, .int 0, .ref aL, .ref aD, .ref aH, .ref pk, .ref nt, .ref ac])), (aL, .inl (τ 3, 6, .inr (.inr (.inr (.inr (fL)))))), (aD, .inl (τ 4, 40, .inr (.inr (.inr (.inr (fD)))))), (aH, .inl (τ 5, 4, .inr (.inr (.inr (.inr (fH)))))), (l0, .inr (3, [.int 576, .int 1, .int 0, .int 0, .int 0, .int 0, .int 0, .int 0])), (d0, .inr (1, [.int 0, .int 0, .int 0, .int 0, .int 0, .int 0, .int (-1), .int 0])), (p0, .inr (2, [.int (-1), .int 0, .int (-1), .int 0, .int 0, .int 0, .int 0, .ref v0])), (v0, .inl (τ 0, 0, .inl (fun _ => 0))), (p1, .inr (2, [.int (-1), .int 0, .int (-1), .int 0, .int 0, .int 0, .int 0, .ref v1])), (v1, .inl (τ 0, 0, .inl (fun _ => 0))), (p2, .inr (2, [.int (-1), .int 0, .int (-1), .int 0, .int 0, .int 0, .int 0, .ref v2])), (v2, .inl (τ 0, 0, .inl (fun _ => 0))), (p3, .inr (2, [.int (-1), .int 0, .int (-1), .int 0, .int 0, .int 0, .int 0, .ref v3])), (v3, .inl (τ 0, 0, .inl (fun _ => 0))), (pk, .inr (5, [.ref k0, .ref k1, .ref k2, .ref k3, .ref k4, .ref k5, .ref k6, .ref k7, .ref k8, .ref k9, .int 0, .int (-1), .int 0])), (k0, .inl (τ 0, 300, .inl (fun _ => 0))), (k1, .inl (τ 0, 300, .inl (fun _ => 0))), (k2, .inl (τ 0, 300, .inl (fun _ => 0))), (k3, .inl (τ 0, 300, .inl (fun _ => 0))), (k4, .inl (τ 0, 300, .inl (fun _ => 0))), (k5, .inl (τ 0, 300, .inl (fun _ => 0))), (k6, .inl (τ 0, 6, .inl (fil (fun _ => (-1)) (fun _ => 0) 6))), (k7, .inl (τ 0, 6, .inl (fil (fun _ => (-1)) (fun _ => 0) 6))), (k8, .inl (τ 0, 6, .inl (fun _ => 0))), (k9, .inl (τ 0, 6, .inl (fun _ => 0))), (nt, .inr (4, [.ref n0, .ref n1, .ref n2, .int 0, .int 1000000])), (n0, .inl (τ 0, 16, .inl (fun _ => 0))), (n1, .inl (τ 0, 16, .inl (fun _ => 0))), (n2, .inl (τ 0, 16, .inl (fun _ => 0))), (ac, .inr (0, [.int 0, .int 0, .int 0, .int 0, .int 0, .int 0, .int 0, .int 0, .int 0, .int 0, .int 0, .int 0, .int 0]))] H _ := Y
  refine W.widen (k := 85) (n := 6244) (Nat.le_of_ble_eq_true rfl) (Nat.le_of_ble_eq_true rfl) ?_
  refine lv_astore_n (lv' := [(1, .ref x), (0, .ref b)]) B.1 B.2.1 dL_law_7 rfl hl (by decide) rfl (fun ls hl => ?_)
  refine t_new (ci := 10) (fs := [.null, .null, .null, .null, .null, .int 0, .int 0, .int 0, .null, .int 0, .int 0, .int 0, .int 0, .int 0, .int 0, .int 0, .int 0, .int 0, .int 0, .null, .null, .null, .null, .int 0, .null, .null, .int 0, .int 0, .null, .int 0]) B Y inX10 tyX10_ok q_1467 q_1468 q_12 rfl nwX10 (Nat.le_of_ble_eq_true rfl) (Nat.le_of_ble_eq_true rfl) dL_law_8 (fun mo H Y => ?_)
  have Y : Wd D τ s A s.heap [(x, .inr (9, [.ref rd, .ref tx, .ref bu, .ref st, .ref pa, .int 0, .int 0, .null, .null])), (rd, .inr (6, [.ref q0, .int 0, .int 0, .int 0, .int 0, .int (-1), .int 0, .ref q1, .ref q2, .ref q3, .ref q4])), (q0, .inl (τ 1, 500, .inl (fun _ => 0))), (q1, .inl (τ 0, 48, .inl (fun _ => 0))), (q2, .inl (τ 0, 192, .inl (fun _ => 0))), (q3, .inl (τ 2, 48, .inl (fun _ => 0))), (q4, .inl (τ 0, 10, .inl (fun _ => 0))), (tx, .inr (8, [.ref to, .int 0])), (to, .inl (τ 1, 2048, .inl (fun _ => 0))), (bu, .inl (τ 0, 1001, .inl (fun _ => 0))), (pa, .inl (τ 6, 8, .inr (.inr (.inr (.inr (fun _ => none)))))), (st, .inr (7, [.int 0, .int 60, .int 0, .int 576, .int 27, .int (-1), .int 1, .int 0, .ref aL, .ref aD, .ref aH, .ref pk, .ref nt, .ref ac])), (aL, .inl (τ 3, 6, .inr (.inr (.inr (.inr (fL)))))), (aD, .inl (τ 4, 40, .inr (.inr (.inr (.inr (fD)))))), (aH, .inl (τ 5, 4, .inr (.inr (.inr (.inr (fH)))))), (l0, .inr (3, [.int 576, .int 1, .int 0, .int 0, .int 0, .int 0, .int 0, .int 0])), (d0, .inr (1, [.int 0, .int 0, .int 0, .int 0, .int 0, .int 0, .int (-1), .int 0])), (p0, .inr (2, [.int (-1), .int 0, .int (-1), .int 0, .int 0, .int 0, .int 0, .ref v0])), (v0, .inl (τ 0, 0, .inl (fun _ => 0))), (p1, .inr (2, [.int (-1), .int 0, .int (-1), .int 0, .int 0, .int 0, .int 0, .ref v1])), (v1, .inl (τ 0, 0, .inl (fun _ => 0))), (p2, .inr (2, [.int (-1), .int 0, .int (-1), .int 0, .int 0, .int 0, .int 0, .ref v2])), (v2, .inl (τ 0, 0, .inl (fun _ => 0))), (p3, .inr (2, [.int (-1), .int 0, .int (-1), .int 0, .int 0, .int 0, .int 0, .ref v3])), (v3, .inl (τ 0, 0, .inl (fun _ => 0))), (pk, .inr (5, [.ref k0, .ref k1, .ref k2, .ref k3, .ref k4, .ref k5, .ref k6, .ref k7, .ref k8, .ref k9, .int 0, .int (-1), .int 0])), (k0, .inl (τ 0, 300, .inl (fun _ => 0))), (k1, .inl (τ 0, 300, .inl (fun _ => 0))), (k2, .inl (τ 0, 300, .inl (fun _ => 0))), (k3, .inl (τ 0, 300, .inl (fun _ => 0))), (k4, .inl (τ 0, 300, .inl (fun _ => 0))), (k5, .inl (τ 0, 300, .inl (fun _ => 0))), (k6, .inl (τ 0, 6, .inl (fil (fun _ => (-1)) (fun _ => 0) 6))), (k7, .inl (τ 0, 6, .inl (fil (fun _ => (-1)) (fun _ => 0) 6))), (k8, .inl (τ 0, 6, .inl (fun _ => 0))), (k9, .inl (τ 0, 6, .inl (fun _ => 0))), (nt, .inr (4, [.ref n0, .ref n1, .ref n2, .int 0, .int 1000000])), (n0, .inl (τ 0, 16, .inl (fun _ => 0))), (n1, .inl (τ 0, 16, .inl (fun _ => 0))), (n2, .inl (τ 0, 16, .inl (fun _ => 0))), (ac, .inr (0, [.int 0, .int 0, .int 0, .int 0, .int 0, .int 0, .int 0, .int 0, .int 0, .int 0, .int 0, .int 0, .int 0])), (mo, .inr (10, [.null, .null, .null, .null, .null, .int 0, .int 0, .int 0, .null, .int 0, .int 0, .int 0, .int 0, .int 0, .int 0, .int 0, .int 0, .int 0, .int 0, .null, .null, .null, .null, .int 0, .null, .null, .int 0, .int 0, .null, .int 0]))] H _ := Y
  refine W.widen (k := 86) (n := 6274) (Nat.le_of_ble_eq_true rfl) (Nat.le_of_ble_eq_true rfl) ?_
  refine lv_dup B.1 B.2.1 dL_law_11 rfl ?_
  refine retV (wc := [(mo, .inr (10, [.null, .null, .null, .null, .null, .int 0, .int 0, .int 0, .null, .int 0, .int 0, .int 0, .int 0, .int 0, .int 0, .int 0, .int 0, .int 0, .int 0, .null, .null, .null, .null, .int 0, .null, .null, .int 0, .int 0, .null, .int 0]))]) (wr := [(x, .inr (9, [.ref rd, .ref tx, .ref bu, .ref st, .ref pa, .int 0, .int 0, .null, .null])), (rd, .inr (6, [.ref q0, .int 0, .int 0, .int 0, .int 0, .int (-1), .int 0, .ref q1, .ref q2, .ref q3, .ref q4])), (q0, .inl (τ 1, 500, .inl (fun _ => 0))), (q1, .inl (τ 0, 48, .inl (fun _ => 0))), (q2, .inl (τ 0, 192, .inl (fun _ => 0))), (q3, .inl (τ 2, 48, .inl (fun _ => 0))), (q4, .inl (τ 0, 10, .inl (fun _ => 0))), (tx, .inr (8, [.ref to, .int 0])), (to, .inl (τ 1, 2048, .inl (fun _ => 0))), (bu, .inl (τ 0, 1001, .inl (fun _ => 0))), (pa, .inl (τ 6, 8, .inr (.inr (.inr (.inr (fun _ => none)))))), (st, .inr (7, [.int 0, .int 60, .int 0, .int 576, .int 27, .int (-1), .int 1, .int 0, .ref aL, .ref aD, .ref aH, .ref pk, .ref nt, .ref ac])), (aL, .inl (τ 3, 6, .inr (.inr (.inr (.inr (fL)))))), (aD, .inl (τ 4, 40, .inr (.inr (.inr (.inr (fD)))))), (aH, .inl (τ 5, 4, .inr (.inr (.inr (.inr (fH)))))), (l0, .inr (3, [.int 576, .int 1, .int 0, .int 0, .int 0, .int 0, .int 0, .int 0])), (d0, .inr (1, [.int 0, .int 0, .int 0, .int 0, .int 0, .int 0, .int (-1), .int 0])), (p0, .inr (2, [.int (-1), .int 0, .int (-1), .int 0, .int 0, .int 0, .int 0, .ref v0])), (v0, .inl (τ 0, 0, .inl (fun _ => 0))), (p1, .inr (2, [.int (-1), .int 0, .int (-1), .int 0, .int 0, .int 0, .int 0, .ref v1])), (v1, .inl (τ 0, 0, .inl (fun _ => 0))), (p2, .inr (2, [.int (-1), .int 0, .int (-1), .int 0, .int 0, .int 0, .int 0, .ref v2])), (v2, .inl (τ 0, 0, .inl (fun _ => 0))), (p3, .inr (2, [.int (-1), .int 0, .int (-1), .int 0, .int 0, .int 0, .int 0, .ref v3])), (v3, .inl (τ 0, 0, .inl (fun _ => 0))), (pk, .inr (5, [.ref k0, .ref k1, .ref k2, .ref k3, .ref k4, .ref k5, .ref k6, .ref k7, .ref k8, .ref k9, .int 0, .int (-1), .int 0])), (k0, .inl (τ 0, 300, .inl (fun _ => 0))), (k1, .inl (τ 0, 300, .inl (fun _ => 0))), (k2, .inl (τ 0, 300, .inl (fun _ => 0))), (k3, .inl (τ 0, 300, .inl (fun _ => 0))), (k4, .inl (τ 0, 300, .inl (fun _ => 0))), (k5, .inl (τ 0, 300, .inl (fun _ => 0))), (k6, .inl (τ 0, 6, .inl (fil (fun _ => (-1)) (fun _ => 0) 6))), (k7, .inl (τ 0, 6, .inl (fil (fun _ => (-1)) (fun _ => 0) 6))), (k8, .inl (τ 0, 6, .inl (fun _ => 0))), (k9, .inl (τ 0, 6, .inl (fun _ => 0))), (nt, .inr (4, [.ref n0, .ref n1, .ref n2, .int 0, .int 1000000])), (n0, .inl (τ 0, 16, .inl (fun _ => 0))), (n1, .inl (τ 0, 16, .inl (fun _ => 0))), (n2, .inl (τ 0, 16, .inl (fun _ => 0))), (ac, .inr (0, [.int 0, .int 0, .int 0, .int 0, .int 0, .int 0, .int 0, .int 0, .int 0, .int 0, .int 0, .int 0, .int 0]))]) Y [41] [0, 1, 2, 3, 4, 5, 6, 7, 8, 9, 10, 11, 12, 13, 14, 15, 16, 17, 18, 19, 20, 21, 22, 23, 24, 25, 26, 27, 28, 29, 30, 31, 32, 33, 34, 35, 36, 37, 38, 39, 40] rfl rfl (by decide) (by decide) (rI (As := []) (rest := [.ref mo]) B Y [41] (by decide) rfl (k_X10_init l D τ _ mo) q_1469 q_1470 q_12 q_1471 rfl rfl rfl hd_X10_init ⟨(Nat.le_of_ble_eq_true rfl), (Nat.le_of_ble_eq_true rfl)⟩ rfl hl.1 rfl (Nat.le_of_ble_eq_true rfl) dL_law_12 ⟨(Nat.le_of_ble_eq_true rfl), (Nat.le_of_ble_eq_true rfl)⟩) (fun u H locs hw Y => ?_)
  obtain ⟨e0, e1, e2, e3, e4, e5, e6, e7, e8, e9, e10, e11, e12⟩ := u
  have Y : Wd D τ s A s.heap [(x, .inr (9, [.ref rd, .ref tx, .ref bu, .ref st, .ref pa, .int 0, .int 0, .null, .null])), (rd, .inr (6, [.ref q0, .int 0, .int 0, .int 0, .int 0, .int (-1), .int 0, .ref q1, .ref q2, .ref q3, .ref q4])), (q0, .inl (τ 1, 500, .inl (fun _ => 0))), (q1, .inl (τ 0, 48, .inl (fun _ => 0))), (q2, .inl (τ 0, 192, .inl (fun _ => 0))), (q3, .inl (τ 2, 48, .inl (fun _ => 0))), (q4, .inl (τ 0, 10, .inl (fun _ => 0))), (tx, .inr (8, [.ref to, .int 0])), (to, .inl (τ 1, 2048, .inl (fun _ => 0))), (bu, .inl (τ 0, 1001, .inl (fun _ => 0))), (pa, .inl (τ 6, 8, .inr (.inr (.inr (.inr (fun _ => none)))))), (st, .inr (7, [.int 0, .int 60, .int 0, .int 576, .int 27, .int (-1), .int 1, .int 0, .ref aL, .ref aD, .ref aH, .ref pk, .ref nt, .ref ac])), (aL, .inl (τ 3, 6, .inr (.inr (.inr (.inr (fL)))))), (aD, .inl (τ 4, 40, .inr (.inr (.inr (.inr (fD)))))), (aH, .inl (τ 5, 4, .inr (.inr (.inr (.inr (fH)))))), (l0, .inr (3, [.int 576, .int 1, .int 0, .int 0, .int 0, .int 0, .int 0, .int 0])), (d0, .inr (1, [.int 0, .int 0, .int 0, .int 0, .int 0, .int 0, .int (-1), .int 0])), (p0, .inr (2, [.int (-1), .int 0, .int (-1), .int 0, .int 0, .int 0, .int 0, .ref v0])), (v0, .inl (τ 0, 0, .inl (fun _ => 0))), (p1, .inr (2, [.int (-1), .int 0, .int (-1), .int 0, .int 0, .int 0, .int 0, .ref v1])), (v1, .inl (τ 0, 0, .inl (fun _ => 0))), (p2, .inr (2, [.int (-1), .int 0, .int (-1), .int 0, .int 0, .int 0, .int 0, .ref v2])), (v2, .inl (τ 0, 0, .inl (fun _ => 0))), (p3, .inr (2, [.int (-1), .int 0, .int (-1), .int 0, .int 0, .int 0, .int 0, .ref v3])), (v3, .inl (τ 0, 0, .inl (fun _ => 0))), (pk, .inr (5, [.ref k0, .ref k1, .ref k2, .ref k3, .ref k4, .ref k5, .ref k6, .ref k7, .ref k8, .ref k9, .int 0, .int (-1), .int 0])), (k0, .inl (τ 0, 300, .inl (fun _ => 0))), (k1, .inl (τ 0, 300, .inl (fun _ => 0))), (k2, .inl (τ 0, 300, .inl (fun _ => 0))), (k3, .inl (τ 0, 300, .inl (fun _ => 0))), (k4, .inl (τ 0, 300, .inl (fun _ => 0))), (k5, .inl (τ 0, 300, .inl (fun _ => 0))), (k6, .inl (τ 0, 6, .inl (fil (fun _ => (-1)) (fun _ => 0) 6))), (k7, .inl (τ 0, 6, .inl (fil (fun _ => (-1)) (fun _ => 0) 6))), (k8, .inl (τ 0, 6, .inl (fun _ => 0))), (k9, .inl (τ 0, 6, .inl (fun _ => 0))), (nt, .inr (4, [.ref n0, .ref n1, .ref n2, .int 0, .int 1000000])), (n0, .inl (τ 0, 16, .inl (fun _ => 0))), (n1, .inl (τ 0, 16, .inl (fun _ => 0))), (n2, .inl (τ 0, 16, .inl (fun _ => 0))), (ac, .inr (0, [.int 0, .int 0, .int 0, .int 0, .int 0, .int 0, .int 0, .int 0, .int 0, .int 0, .int 0, .int 0, .int 0])), (mo, .inr (10, [.ref e0, .ref e1, .ref e2, .ref e3, .ref e4, .int 0, .int 0, .int 0, .ref e5, .int 0, .int 0, .int 0, .int 0, .int 0, .int 0, .int 0, .int (-1), .int 0, .int 0, .ref e6, .ref e7, .ref e8, .ref e9, .int 0, .ref e10, .ref e11, .int 0, .int 0, .ref e12, .int 0])), (e0, .inl (τ 0, 16816, .inl (S0))), (e1, .inl (τ 0, 16816, .inl (fun _ => 0))), (e2, .inl (τ 0, 16816, .inl (fun _ => 0))), (e3, .inl (τ 0, 16816, .inl (fun _ => 0))), (e4, .inl (τ 0, 134528, .inl (fun _ => 0))), (e5, .inl (τ 0, 500, .inl (fun _ => 0))), (e6, .inl (τ 0, 40, .inl (fun _ => 0))), (e7, .inl (τ 0, 40, .inl (fun _ => 0))), (e8, .inl (τ 2, 40, .inl (fun _ => 0))), (e9, .inl (τ 0, 180, .inl (fun _ => 0))), (e10, .inl (τ 0, 200, .inl (fun _ => 0))), (e11, .inl (τ 0, 200, .inl (fun _ => 0))), (e12, .inl (τ 0, 8000, .inl (fun _ => 0)))] H _ := Y
  refine W.widen (k := 99) (n := 217266) (Nat.le_of_ble_eq_true rfl) (Nat.le_of_ble_eq_true rfl) ?_
  refine lv_astore_n (lv' := [(2, .ref mo), (1, .ref x), (0, .ref b)]) B.1 B.2.1 dL_law_15 rfl hl (by decide) rfl (fun ls hl => ?_)
  refine lv_iconst (v := 1) B.1 B.2.1 dL_law_16 (by decide) ?_
  refine t_newl (N' := 1) B Y q_2201 (by decide) (by decide) (Nat.le_of_ble_eq_true rfl) (Nat.le_of_ble_eq_true rfl) (Nat.le_of_ble_eq_true rfl) dL_law_17 (fun ou H Y => ?_)
  have Y : Wd D τ s A s.heap [(x, .inr (9, [.ref rd, .ref tx, .ref bu, .ref st, .ref pa, .int 0, .int 0, .null, .null])), (rd, .inr (6, [.ref q0, .int 0, .int 0, .int 0, .int 0, .int (-1), .int 0, .ref q1, .ref q2, .ref q3, .ref q4])), (q0, .inl (τ 1, 500, .inl (fun _ => 0))), (q1, .inl (τ 0, 48, .inl (fun _ => 0))), (q2, .inl (τ 0, 192, .inl (fun _ => 0))), (q3, .inl (τ 2, 48, .inl (fun _ => 0))), (q4, .inl (τ 0, 10, .inl (fun _ => 0))), (tx, .inr (8, [.ref to, .int 0])), (to, .inl (τ 1, 2048, .inl (fun _ => 0))), (bu, .inl (τ 0, 1001, .inl (fun _ => 0))), (pa, .inl (τ 6, 8, .inr (.inr (.inr (.inr (fun _ => none)))))), (st, .inr (7, [.int 0, .int 60, .int 0, .int 576, .int 27, .int (-1), .int 1, .int 0, .ref aL, .ref aD, .ref aH, .ref pk, .ref nt, .ref ac])), (aL, .inl (τ 3, 6, .inr (.inr (.inr (.inr (fL)))))), (aD, .inl (τ 4, 40, .inr (.inr (.inr (.inr (fD)))))), (aH, .inl (τ 5, 4, .inr (.inr (.inr (.inr (fH)))))), (l0, .inr (3, [.int 576, .int 1, .int 0, .int 0, .int 0, .int 0, .int 0, .int 0])), (d0, .inr (1, [.int 0, .int 0, .int 0, .int 0, .int 0, .int 0, .int (-1), .int 0])), (p0, .inr (2, [.int (-1), .int 0, .int (-1), .int 0, .int 0, .int 0, .int 0, .ref v0])), (v0, .inl (τ 0, 0, .inl (fun _ => 0))), (p1, .inr (2, [.int (-1), .int 0, .int (-1), .int 0, .int 0, .int 0, .int 0, .ref v1])), (v1, .inl (τ 0, 0, .inl (fun _ => 0))), (p2, .inr (2, [.int (-1), .int 0, .int (-1), .int 0, .int 0, .int 0, .int 0, .ref v2])), (v2, .inl (τ 0, 0, .inl (fun _ => 0))), (p3, .inr (2, [.int (-1), .int 0, .int (-1), .int 0, .int 0, .int 0, .int 0, .ref v3])), (v3, .inl (τ 0, 0, .inl (fun _ => 0))), (pk, .inr (5, [.ref k0, .ref k1, .ref k2, .ref k3, .ref k4, .ref k5, .ref k6, .ref k7, .ref k8, .ref k9, .int 0, .int (-1), .int 0])), (k0, .inl (τ 0, 300, .inl (fun _ => 0))), (k1, .inl (τ 0, 300, .inl (fun _ => 0))), (k2, .inl (τ 0, 300, .inl (fun _ => 0))), (k3, .inl (τ 0, 300, .inl (fun _ => 0))), (k4, .inl (τ 0, 300, .inl (fun _ => 0))), (k5, .inl (τ 0, 300, .inl (fun _ => 0))), (k6, .inl (τ 0, 6, .inl (fil (fun _ => (-1)) (fun _ => 0) 6))), (k7, .inl (τ 0, 6, .inl (fil (fun _ => (-1)) (fun _ => 0) 6))), (k8, .inl (τ 0, 6, .inl (fun _ => 0))), (k9, .inl (τ 0, 6, .inl (fun _ => 0))), (nt, .inr (4, [.ref n0, .ref n1, .ref n2, .int 0, .int 1000000])), (n0, .inl (τ 0, 16, .inl (fun _ => 0))), (n1, .inl (τ 0, 16, .inl (fun _ => 0))), (n2, .inl (τ 0, 16, .inl (fun _ => 0))), (ac, .inr (0, [.int 0, .int 0, .int 0, .int 0, .int 0, .int 0, .int 0, .int 0, .int 0, .int 0, .int 0, .int 0, .int 0])), (mo, .inr (10, [.ref e0, .ref e1, .ref e2, .ref e3, .ref e4, .int 0, .int 0, .int 0, .ref e5, .int 0, .int 0, .int 0, .int 0, .int 0, .int 0, .int 0, .int (-1), .int 0, .int 0, .ref e6, .ref e7, .ref e8, .ref e9, .int 0, .ref e10, .ref e11, .int 0, .int 0, .ref e12, .int 0])), (e0, .inl (τ 0, 16816, .inl (S0))), (e1, .inl (τ 0, 16816, .inl (fun _ => 0))), (e2, .inl (τ 0, 16816, .inl (fun _ => 0))), (e3, .inl (τ 0, 16816, .inl (fun _ => 0))), (e4, .inl (τ 0, 134528, .inl (fun _ => 0))), (e5, .inl (τ 0, 500, .inl (fun _ => 0))), (e6, .inl (τ 0, 40, .inl (fun _ => 0))), (e7, .inl (τ 0, 40, .inl (fun _ => 0))), (e8, .inl (τ 2, 40, .inl (fun _ => 0))), (e9, .inl (τ 0, 180, .inl (fun _ => 0))), (e10, .inl (τ 0, 200, .inl (fun _ => 0))), (e11, .inl (τ 0, 200, .inl (fun _ => 0))), (e12, .inl (τ 0, 8000, .inl (fun _ => 0))), (ou, .inl (τ 7, 1, .inr (.inl (fun _ => 0))))] H _ := Y
  refine W.widen (k := 100) (n := 217267) (Nat.le_of_ble_eq_true rfl) (Nat.le_of_ble_eq_true rfl) ?_
  refine lv_astore_n (lv' := [(3, .ref ou), (2, .ref mo), (1, .ref x), (0, .ref b)]) B.1 B.2.1 dL_law_19 rfl hl (by decide) rfl (fun ls hl => ?_)
  refine lv_iconst (v := 0) B.1 B.2.1 dL_law_20 (by decide) ?_
  refine lv_istore (lv' := [(4, .int 0), (3, .ref ou), (2, .ref mo), (1, .ref x), (0, .ref b)]) B.1 B.2.1 dL_law_21 hl (by decide) rfl (fun ls hl => ?_)
  rcases (show L = 0 ∨ L = 1 ∨ L = 2 ∨ L = 3 ∨ L = 4 ∨ L = 5 ∨ L = 6 by omega) with rfl | rfl | rfl | rfl | rfl | rfl | rfl
  · refine lv_iload B.1 B.2.1 dL_law_23 (lv_at hl 0 rfl) ?_
    refine lv_aload_n B.1 B.2.1 dL_law_25 rfl (lv_at hl 4 rfl) ?_
    refine t_slen B Y hX hbl hbA dL_law_26 ?_
    refine lv_cv (v := 0) (by decide) ?_
    refine lv_bipush (v := 6) B.1 B.2.1 dL_law_27 (by decide) ?_
    refine lv_isub B.1 B.2.1 dL_law_29 ?_
    refine lv_cv (v := (-6)) (by decide) ?_
    refine lv_icmp_gt (tgt := 2658) B.1 B.2.1 dL_law_30 (by decide) (fun _ => ?_) (fun h => absurd (by decide) h)
    exact law_ret B hr hlk hA0 (Nat.le_of_ble_eq_true rfl) (Nat.le_of_ble_eq_true rfl) Y
  · refine lv_iload B.1 B.2.1 dL_law_23 (lv_at hl 0 rfl) ?_
    refine lv_aload_n B.1 B.2.1 dL_law_25 rfl (lv_at hl 4 rfl) ?_
    refine t_slen B Y hX hbl hbA dL_law_26 ?_
    refine lv_cv (v := 1) (by decide) ?_
    refine lv_bipush (v := 6) B.1 B.2.1 dL_law_27 (by decide) ?_
    refine lv_isub B.1 B.2.1 dL_law_29 ?_
    refine lv_cv (v := (-5)) (by decide) ?_
    refine lv_icmp_gt (tgt := 2658) B.1 B.2.1 dL_law_30 (by decide) (fun _ => ?_) (fun h => absurd (by decide) h)
    exact law_ret B hr hlk hA0 (Nat.le_of_ble_eq_true rfl) (Nat.le_of_ble_eq_true rfl) Y
  · refine lv_iload B.1 B.2.1 dL_law_23 (lv_at hl 0 rfl) ?_
    refine lv_aload_n B.1 B.2.1 dL_law_25 rfl (lv_at hl 4 rfl) ?_
    refine t_slen B Y hX hbl hbA dL_law_26 ?_
    refine lv_cv (v := 2) (by decide) ?_
    refine lv_bipush (v := 6) B.1 B.2.1 dL_law_27 (by decide) ?_
    refine lv_isub B.1 B.2.1 dL_law_29 ?_
    refine lv_cv (v := (-4)) (by decide) ?_
    refine lv_icmp_gt (tgt := 2658) B.1 B.2.1 dL_law_30 (by decide) (fun _ => ?_) (fun h => absurd (by decide) h)
    exact law_ret B hr hlk hA0 (Nat.le_of_ble_eq_true rfl) (Nat.le_of_ble_eq_true rfl) Y
  · refine lv_iload B.1 B.2.1 dL_law_23 (lv_at hl 0 rfl) ?_
    refine lv_aload_n B.1 B.2.1 dL_law_25 rfl (lv_at hl 4 rfl) ?_
    refine t_slen B Y hX hbl hbA dL_law_26 ?_
    refine lv_cv (v := 3) (by decide) ?_
    refine lv_bipush (v := 6) B.1 B.2.1 dL_law_27 (by decide) ?_
    refine lv_isub B.1 B.2.1 dL_law_29 ?_
    refine lv_cv (v := (-3)) (by decide) ?_
    refine lv_icmp_gt (tgt := 2658) B.1 B.2.1 dL_law_30 (by decide) (fun _ => ?_) (fun h => absurd (by decide) h)
    exact law_ret B hr hlk hA0 (Nat.le_of_ble_eq_true rfl) (Nat.le_of_ble_eq_true rfl) Y
  · refine lv_iload B.1 B.2.1 dL_law_23 (lv_at hl 0 rfl) ?_
    refine lv_aload_n B.1 B.2.1 dL_law_25 rfl (lv_at hl 4 rfl) ?_
    refine t_slen B Y hX hbl hbA dL_law_26 ?_
    refine lv_cv (v := 4) (by decide) ?_
    refine lv_bipush (v := 6) B.1 B.2.1 dL_law_27 (by decide) ?_
    refine lv_isub B.1 B.2.1 dL_law_29 ?_
    refine lv_cv (v := (-2)) (by decide) ?_
    refine lv_icmp_gt (tgt := 2658) B.1 B.2.1 dL_law_30 (by decide) (fun _ => ?_) (fun h => absurd (by decide) h)
    exact law_ret B hr hlk hA0 (Nat.le_of_ble_eq_true rfl) (Nat.le_of_ble_eq_true rfl) Y
  · refine lv_iload B.1 B.2.1 dL_law_23 (lv_at hl 0 rfl) ?_
    refine lv_aload_n B.1 B.2.1 dL_law_25 rfl (lv_at hl 4 rfl) ?_
    refine t_slen B Y hX hbl hbA dL_law_26 ?_
    refine lv_cv (v := 5) (by decide) ?_
    refine lv_bipush (v := 6) B.1 B.2.1 dL_law_27 (by decide) ?_
    refine lv_isub B.1 B.2.1 dL_law_29 ?_
    refine lv_cv (v := (-1)) (by decide) ?_
    refine lv_icmp_gt (tgt := 2658) B.1 B.2.1 dL_law_30 (by decide) (fun _ => ?_) (fun h => absurd (by decide) h)
    exact law_ret B hr hlk hA0 (Nat.le_of_ble_eq_true rfl) (Nat.le_of_ble_eq_true rfl) Y
  · refine lv_iload B.1 B.2.1 dL_law_23 (lv_at hl 0 rfl) ?_
    refine lv_aload_n B.1 B.2.1 dL_law_25 rfl (lv_at hl 4 rfl) ?_
    refine t_slen B Y hX hbl hbA dL_law_26 ?_
    refine lv_cv (v := 6) (by decide) ?_
    refine lv_bipush (v := 6) B.1 B.2.1 dL_law_27 (by decide) ?_
    refine lv_isub B.1 B.2.1 dL_law_29 ?_
    refine lv_cv (v := 0) (by decide) ?_
    refine lv_icmp_gt (tgt := 2658) B.1 B.2.1 dL_law_30 (by decide) (fun h => absurd h (by decide)) (fun _ => ?_)
    refine lv_aload_n B.1 B.2.1 dL_law_33 rfl (lv_at hl 4 rfl) ?_
    refine lv_iload B.1 B.2.1 dL_law_34 (lv_at hl 0 rfl) ?_
    refine t_sld (j := 0) B Y hX hbl hbA (by decide) (by decide) (Nat.le_of_ble_eq_true rfl) dL_law_36 ?_
    refine lv_bipush (v := 63) B.1 B.2.1 dL_law_37 (by decide) ?_
    refine lv_iand B.1 B.2.1 dL_law_39 ?_
    obtain ⟨j, hj, ej⟩ := pk_andE (xs 0) (m := 63) 6 (by decide)
    refine lv_cv (v := nI j) ej ?_
    rcases Nat.lt_or_ge j 48 with h48 | h48
    · rcases (show j = 0 ∨ j = 1 ∨ j = 2 ∨ j = 3 ∨ j = 4 ∨ j = 5 ∨ j = 6 ∨ j = 7 ∨ j = 8 ∨ j = 9 ∨ j = 10 ∨ j = 11 ∨ j = 12 ∨ j = 13 ∨ j = 14 ∨ j = 15 ∨ j = 16 ∨ j = 17 ∨ j = 18 ∨ j = 19 ∨ j = 20 ∨ j = 21 ∨ j = 22 ∨ j = 23 ∨ j = 24 ∨ j = 25 ∨ j = 26 ∨ j = 27 ∨ j = 28 ∨ j = 29 ∨ j = 30 ∨ j = 31 ∨ j = 32 ∨ j = 33 ∨ j = 34 ∨ j = 35 ∨ j = 36 ∨ j = 37 ∨ j = 38 ∨ j = 39 ∨ j = 40 ∨ j = 41 ∨ j = 42 ∨ j = 43 ∨ j = 44 ∨ j = 45 ∨ j = 46 ∨ j = 47 by omega) with rfl | rfl | rfl | rfl | rfl | rfl | rfl | rfl | rfl | rfl | rfl | rfl | rfl | rfl | rfl | rfl | rfl | rfl | rfl | rfl | rfl | rfl | rfl | rfl | rfl | rfl | rfl | rfl | rfl | rfl | rfl | rfl | rfl | rfl | rfl | rfl | rfl | rfl | rfl | rfl | rfl | rfl | rfl | rfl | rfl | rfl | rfl | rfl
      · refine lv_tableIn (off := 208) (tgt := 248) B.1 B.2.1 dL_law_40 (by decide) (by decide) rfl (by decide) ?_
        exact law_c0 hl0 B hr hlk hX hbl hbA hA0 hEz hS (lv_sub hl [0, 1, 2, 3, 4] rfl) Y
      · refine lv_tableIn (off := 312) (tgt := 352) B.1 B.2.1 dL_law_40 (by decide) (by decide) rfl (by decide) ?_
        exact law_c1 hl0 B hr hlk hX hbl hbA hA0 hEz hS (lv_sub hl [0, 1, 2, 3, 4] rfl) Y
      · refine lv_tableIn (off := 368) (tgt := 408) B.1 B.2.1 dL_law_40 (by decide) (by decide) rfl (by decide) ?_
        exact law_c2 hl0 B hr hlk hX hbl hbA hA0 hEz hS (lv_sub hl [0, 1, 2, 3, 4] rfl) Y
      · refine lv_tableIn (off := 412) (tgt := 452) B.1 B.2.1 dL_law_40 (by decide) (by decide) rfl (by decide) ?_
        exact law_c3 hl0 B hr hlk hX hbl hbA hA0 hEz hS (lv_sub hl [0, 1, 2, 3, 4] rfl) Y
      · refine lv_tableIn (off := 456) (tgt := 496) B.1 B.2.1 dL_law_40 (by decide) (by decide) rfl (by decide) ?_
        exact law_c4 hl0 B hr hlk hX hbl hbA hA0 hEz hS (lv_sub hl [0, 1, 2, 3, 4] rfl) Y
      · refine lv_tableIn (off := 469) (tgt := 509) B.1 B.2.1 dL_law_40 (by decide) (by decide) rfl (by decide) ?_
        exact law_c5 hl0 B hr hlk hX hbl hbA hA0 hEz hS (lv_sub hl [0, 1, 2, 3, 4] rfl) Y
      · refine lv_tableIn (off := 482) (tgt := 522) B.1 B.2.1 dL_law_40 (by decide) (by decide) rfl (by decide) ?_
        exact law_c6 hl0 B hr hlk hX hbl hbA hA0 hEz hS (lv_sub hl [0, 1, 2, 3, 4] rfl) Y
      · refine lv_tableIn (off := 538) (tgt := 578) B.1 B.2.1 dL_law_40 (by decide) (by decide) rfl (by decide) ?_
        exact law_c7 hl0 B hr hlk hX hbl hbA hA0 hEz hS (lv_sub hl [0, 1, 2, 3, 4] rfl) Y
      · refine lv_tableIn (off := 606) (tgt := 646) B.1 B.2.1 dL_law_40 (by decide) (by decide) rfl (by decide) ?_
        exact law_c8 hl0 B hr hlk hX hbl hbA hA0 hEz hS (lv_sub hl [0, 1, 2, 3, 4] rfl) Y
      · refine lv_tableIn (off := 674) (tgt := 714) B.1 B.2.1 dL_law_40 (by decide) (by decide) rfl (by decide) ?_
        exact law_c9 hl0 B hr hlk hX hbl hbA hA0 hEz hS (lv_sub hl [0, 1, 2, 3, 4] rfl) Y
      · refine lv_tableIn (off := 742) (tgt := 782) B.1 B.2.1 dL_law_40 (by decide) (by decide) rfl (by decide) ?_
        exact law_c10 hl0 B hr hlk hX hbl hbA hA0 hEz hS (lv_sub hl [0, 1, 2, 3, 4] rfl) Y
      · refine lv_tableIn (off := 810) (tgt := 850) B.1 B.2.1 dL_law_40 (by decide) (by decide) rfl (by decide) ?_
        exact law_c11 hl0 B hr hlk hX hbl hbA hA0 hEz hS (lv_sub hl [0, 1, 2, 3, 4] rfl) Y
      · refine lv_tableIn (off := 878) (tgt := 918) B.1 B.2.1 dL_law_40 (by decide) (by decide) rfl (by decide) ?_
        exact law_c12 hl0 B hr hlk hX hbl hbA hA0 hEz hS (lv_sub hl [0, 1, 2, 3, 4] rfl) Y
      · refine lv_tableIn (off := 958) (tgt := 998) B.1 B.2.1 dL_law_40 (by decide) (by decide) rfl (by decide) ?_
        exact law_c13 hl0 B hr hlk hX hbl hbA hA0 hEz hS (lv_sub hl [0, 1, 2, 3, 4] rfl) Y
      · refine lv_tableIn (off := 1026) (tgt := 1066) B.1 B.2.1 dL_law_40 (by decide) (by decide) rfl (by decide) ?_
        exact law_c14 hl0 B hr hlk hX hbl hbA hA0 hEz hS (lv_sub hl [0, 1, 2, 3, 4] rfl) Y
      · refine lv_tableIn (off := 1082) (tgt := 1122) B.1 B.2.1 dL_law_40 (by decide) (by decide) rfl (by decide) ?_
        exact law_c15 hl0 B hr hlk hX hbl hbA hA0 hEz hS (lv_sub hl [0, 1, 2, 3, 4] rfl) Y
      · refine lv_tableIn (off := 1095) (tgt := 1135) B.1 B.2.1 dL_law_40 (by decide) (by decide) rfl (by decide) ?_
        exact law_c16 hl0 B hr hlk hX hbl hbA hA0 hEz hS (lv_sub hl [0, 1, 2, 3, 4] rfl) Y
      · refine lv_tableIn (off := 1108) (tgt := 1148) B.1 B.2.1 dL_law_40 (by decide) (by decide) rfl (by decide) ?_
        exact law_c17 hl0 B hr hlk hX hbl hbA hA0 hEz hS (lv_sub hl [0, 1, 2, 3, 4] rfl) Y
      · refine lv_tableIn (off := 1121) (tgt := 1161) B.1 B.2.1 dL_law_40 (by decide) (by decide) rfl (by decide) ?_
        exact law_c18 hl0 B hr hlk hX hbl hbA hA0 hEz hS (lv_sub hl [0, 1, 2, 3, 4] rfl) Y
      · refine lv_tableIn (off := 1189) (tgt := 1229) B.1 B.2.1 dL_law_40 (by decide) (by decide) rfl (by decide) ?_
        exact law_c19 hl0 B hr hlk hX hbl hbA hA0 hEz hS (lv_sub hl [0, 1, 2, 3, 4] rfl) Y
      · refine lv_tableIn (off := 1245) (tgt := 1285) B.1 B.2.1 dL_law_40 (by decide) (by decide) rfl (by decide) ?_
        exact law_c20 hl0 B hr hlk hX hbl hbA hA0 hEz hS (lv_sub hl [0, 1, 2, 3, 4] rfl) Y
      · refine lv_tableIn (off := 1301) (tgt := 1341) B.1 B.2.1 dL_law_40 (by decide) (by decide) rfl (by decide) ?_
        exact law_c21 hl0 B hr hlk hX hbl hbA hA0 hEz hS (lv_sub hl [0, 1, 2, 3, 4] rfl) Y
      · refine lv_tableIn (off := 1314) (tgt := 1354) B.1 B.2.1 dL_law_40 (by decide) (by decide) rfl (by decide) ?_
        exact law_c22 hl0 B hr hlk hX hbl hbA hA0 hEz hS (lv_sub hl [0, 1, 2, 3, 4] rfl) Y
      · refine lv_tableIn (off := 1327) (tgt := 1367) B.1 B.2.1 dL_law_40 (by decide) (by decide) rfl (by decide) ?_
        exact law_c23 hl0 B hr hlk hX hbl hbA hA0 hEz hS (lv_sub hl [0, 1, 2, 3, 4] rfl) Y
      · refine lv_tableIn (off := 1383) (tgt := 1423) B.1 B.2.1 dL_law_40 (by decide) (by decide) rfl (by decide) ?_
        exact law_c24 hl0 B hr hlk hX hbl hbA hA0 hEz hS (lv_sub hl [0, 1, 2, 3, 4] rfl) Y
      · refine lv_tableIn (off := 1470) (tgt := 1510) B.1 B.2.1 dL_law_40 (by decide) (by decide) rfl (by decide) ?_
        exact law_c25 hl0 B hr hlk hX hbl hbA hA0 hEz hS (lv_sub hl [0, 1, 2, 3, 4] rfl) Y
      · refine lv_tableIn (off := 1526) (tgt := 1566) B.1 B.2.1 dL_law_40 (by decide) (by decide) rfl (by decide) ?_
        exact law_c26 hl0 B hr hlk hX hbl hbA hA0 hEz hS (lv_sub hl [0, 1, 2, 3, 4] rfl) Y
      · refine lv_tableIn (off := 1582) (tgt := 1622) B.1 B.2.1 dL_law_40 (by decide) (by decide) rfl (by decide) ?_
        exact law_c27 hl0 B hr hlk hX hbl hbA hA0 hEz hS (lv_sub hl [0, 1, 2, 3, 4] rfl) Y
      · refine lv_tableIn (off := 1595) (tgt := 1635) B.1 B.2.1 dL_law_40 (by decide) (by decide) rfl (by decide) ?_
        exact law_c28 hl0 B hr hlk hX hbl hbA hA0 hEz hS (lv_sub hl [0, 1, 2, 3, 4] rfl) Y
      · refine lv_tableIn (off := 1651) (tgt := 1691) B.1 B.2.1 dL_law_40 (by decide) (by decide) rfl (by decide) ?_
        exact law_c29 hl0 B hr hlk hX hbl hbA hA0 hEz hS (lv_sub hl [0, 1, 2, 3, 4] rfl) Y
      · refine lv_tableIn (off := 1719) (tgt := 1759) B.1 B.2.1 dL_law_40 (by decide) (by decide) rfl (by decide) ?_
        exact law_c30 hl0 B hr hlk hX hbl hbA hA0 hEz hS (lv_sub hl [0, 1, 2, 3, 4] rfl) Y
      · refine lv_tableIn (off := 1762) (tgt := 1802) B.1 B.2.1 dL_law_40 (by decide) (by decide) rfl (by decide) ?_
        exact law_c31 hl0 B hr hlk hX hbl hbA hA0 hEz hS (lv_sub hl [0, 1, 2, 3, 4] rfl) Y
      · refine lv_tableIn (off := 1803) (tgt := 1843) B.1 B.2.1 dL_law_40 (by decide) (by decide) rfl (by decide) ?_
        exact law_c32 hl0 B hr hlk hX hbl hbA hA0 hEz hS (lv_sub hl [0, 1, 2, 3, 4] rfl) Y
      · refine lv_tableIn (off := 1899) (tgt := 1939) B.1 B.2.1 dL_law_40 (by decide) (by decide) rfl (by decide) ?_
        exact law_c33 hl0 B hr hlk hX hbl hbA hA0 hEz hS (lv_sub hl [0, 1, 2, 3, 4] rfl) Y
      · refine lv_tableIn (off := 1955) (tgt := 1995) B.1 B.2.1 dL_law_40 (by decide) (by decide) rfl (by decide) ?_
        exact law_c34 hl0 B hr hlk hX hbl hbA hA0 hEz hS (lv_sub hl [0, 1, 2, 3, 4] rfl) Y
      · refine lv_tableIn (off := 2011) (tgt := 2051) B.1 B.2.1 dL_law_40 (by decide) (by decide) rfl (by decide) ?_
        exact law_c35 hl0 B hr hlk hX hbl hbA hA0 hEz hS (lv_sub hl [0, 1, 2, 3, 4] rfl) Y
      · refine lv_tableIn (off := 2131) (tgt := 2171) B.1 B.2.1 dL_law_40 (by decide) (by decide) rfl (by decide) ?_
        exact law_c36 hl0 B hr hlk hX hbl hbA hA0 hEz hS (lv_sub hl [0, 1, 2, 3, 4] rfl) Y
      · refine lv_tableIn (off := 2199) (tgt := 2239) B.1 B.2.1 dL_law_40 (by decide) (by decide) rfl (by decide) ?_
        exact law_c37 hl0 B hr hlk hX hbl hbA hA0 hEz hS (lv_sub hl [0, 1, 2, 3, 4] rfl) Y
      · refine lv_tableIn (off := 2267) (tgt := 2307) B.1 B.2.1 dL_law_40 (by decide) (by decide) rfl (by decide) ?_
        exact law_c38 hl0 B hr hlk hX hbl hbA hA0 hEz hS (lv_sub hl [0, 1, 2, 3, 4] rfl) Y
      · refine lv_tableIn (off := 2323) (tgt := 2363) B.1 B.2.1 dL_law_40 (by decide) (by decide) rfl (by decide) ?_
        exact law_c39 hl0 B hr hlk hX hbl hbA hA0 hEz hS (lv_sub hl [0, 1, 2, 3, 4] rfl) Y
      · refine lv_tableIn (off := 2379) (tgt := 2419) B.1 B.2.1 dL_law_40 (by decide) (by decide) rfl (by decide) ?_
        exact law_c40 hl0 B hr hlk hX hbl hbA hA0 hEz hS (lv_sub hl [0, 1, 2, 3, 4] rfl) Y
      · refine lv_tableIn (off := 2392) (tgt := 2432) B.1 B.2.1 dL_law_40 (by decide) (by decide) rfl (by decide) ?_
        exact law_c41 hl0 B hr hlk hX hbl hbA hA0 hEz hS (lv_sub hl [0, 1, 2, 3, 4] rfl) Y
      · refine lv_tableIn (off := 2448) (tgt := 2488) B.1 B.2.1 dL_law_40 (by decide) (by decide) rfl (by decide) ?_
        exact law_c42 hl0 B hr hlk hX hbl hbA hA0 hEz hS (lv_sub hl [0, 1, 2, 3, 4] rfl) Y
      · refine lv_tableIn (off := 2504) (tgt := 2544) B.1 B.2.1 dL_law_40 (by decide) (by decide) rfl (by decide) ?_
        exact law_c43 hl0 B hr hlk hX hbl hbA hA0 hEz hS (lv_sub hl [0, 1, 2, 3, 4] rfl) Y
      · refine lv_tableIn (off := 2517) (tgt := 2557) B.1 B.2.1 dL_law_40 (by decide) (by decide) rfl (by decide) ?_
        exact law_c44 hl0 B hr hlk hX hbl hbA hA0 hEz hS (lv_sub hl [0, 1, 2, 3, 4] rfl) Y
      · refine lv_tableIn (off := 2542) (tgt := 2582) B.1 B.2.1 dL_law_40 (by decide) (by decide) rfl (by decide) ?_
        exact law_c45 hl0 B hr hlk hX hbl hbA hA0 hEz hS (lv_sub hl [0, 1, 2, 3, 4] rfl) Y
      · refine lv_tableIn (off := 2555) (tgt := 2595) B.1 B.2.1 dL_law_40 (by decide) (by decide) rfl (by decide) ?_
        exact law_c46 hl0 B hr hlk hX hbl hbA hA0 hEz hS (lv_sub hl [0, 1, 2, 3, 4] rfl) Y
      · refine lv_tableIn (off := 2568) (tgt := 2608) B.1 B.2.1 dL_law_40 (by decide) (by decide) rfl (by decide) ?_
        exact law_c47 hl0 B hr hlk hX hbl hbA hA0 hEz hS (lv_sub hl [0, 1, 2, 3, 4] rfl) Y
    · refine lv_tableOut (tgt := 2652) B.1 B.2.1 dL_law_40 (Or.inr (by rw [nI_toInt (by omega)]; omega)) (by decide) ?_
      exact law_end B hr hlk hX hbl hbA hA0 (Nat.le_of_ble_eq_true rfl) (Nat.le_of_ble_eq_true rfl) (lv_sub hl [0, 1, 2, 3, 4] rfl) Y
