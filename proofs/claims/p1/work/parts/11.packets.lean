set_option maxHeartbeats 4000000 in
set_option maxRecDepth 100000 in
theorem lp_fill {p : Program} {l : Launch} {e : Env} {s : State} {m : MethodId} {args : Array Value} {below : List Frame} {meth : Method} {c : Code} {Q : State → Prop} {D : va_G} {τ : Nat → ClassId} {A : Nat → Prop} {H0 : Heap} {a n : Nat} {f : Nat → Int32} {v : Int32} (hn : n < 2 ^ 31) (B : CallFix p m c cJ7_fill_53178 4 s args wALL RJ7)
    (kx : ∀ (H : Heap) (locs : List Loc) (ls : Array Slot), lv_has ls 4 [(2, .int (nI n)), (3, .int (nI n)), (0, .ref a), (1, .int v)] → Wd D τ s A H0 [(a, .inl (τ 0, n, .inl (fil (fun _ => v) f n)))] H locs → W p l e ({ frames := 0, cells := 0, slots := 0, locals := 0 } : Room) s m args below meth c H locs 0 0 Q (F0 m 20 ls [])) :
    ∀ (k i : Nat) (H : Heap) (locs : List Loc) (ls : Array Slot), i + k = n → lv_has ls 4 [(2, .int (nI i)), (3, .int (nI n)), (0, .ref a), (1, .int v)] → Wd D τ s A H0 [(a, .inl (τ 0, n, .inl (fil (fun _ => v) f i)))] H locs → W p l e ({ frames := 0, cells := 0, slots := 0, locals := 0 } : Room) s m args below meth c H locs 0 0 Q (F0 m 5 ls []) := by
  intro k
  induction k with
  | zero =>
    intro i H locs ls hi hl Y
    have hi : i = n := by omega
    rw [hi] at hl Y
    refine lv_iload_n B.1 B.2.1 dJ7_fill_53178_5 rfl (lv_at hl 0 rfl) ?_
    refine lv_iload_n B.1 B.2.1 dJ7_fill_53178_6 rfl (lv_at hl 1 rfl) ?_
    refine lv_icmp_ge (tgt := 20) B.1 B.2.1 dJ7_fill_53178_7 (by decide) (fun _ => ?_) (fun h => absurd (nI_le (Nat.le_refl _) hn) h)
    exact kx H locs ls (lv_sub hl [0, 1, 2, 3] rfl) Y
  | succ k ih =>
    intro i H locs ls hi hl Y
    have hlt : i < n := by omega
    refine lv_iload_n B.1 B.2.1 dJ7_fill_53178_5 rfl (lv_at hl 0 rfl) ?_
    refine lv_iload_n B.1 B.2.1 dJ7_fill_53178_6 rfl (lv_at hl 1 rfl) ?_
    refine lv_icmp_ge (tgt := 20) B.1 B.2.1 dJ7_fill_53178_7 (by decide) (fun h => absurd h (nI_ge hlt hn)) (fun _ => ?_)
    refine lv_aload_n B.1 B.2.1 dJ7_fill_53178_10 rfl (lv_at hl 2 rfl) ?_
    refine lv_iload_n B.1 B.2.1 dJ7_fill_53178_11 rfl (lv_at hl 0 rfl) ?_
    refine lv_iload_n B.1 B.2.1 dJ7_fill_53178_12 rfl (lv_at hl 3 rfl) ?_
    refine t_iast (j := i) (g := fil (fun _ => v) f (i + 1)) (ws' := [(a, .inl (τ 0, n, .inl (fil (fun _ => v) f (i + 1))))]) B Y 0 rfl (nI_pos (Nat.lt_trans hlt hn)) (nI_clamp (Nat.lt_trans hlt hn)) hlt (fil_s _ _ _ _ rfl) rfl dJ7_fill_53178_13 (fun H locs Y => ?_)
    refine lv_iinc (v := (nI (i + 1))) (lv' := [(2, .int (nI (i + 1))), (3, .int (nI n)), (0, .ref a), (1, .int v)]) B.1 B.2.1 dJ7_fill_53178_14 hl (k := 0) rfl (nI_1 i) (by decide) rfl (fun ls hl => ?_)
    refine lv_goto (tgt := 5) B.1 B.2.1 dJ7_fill_53178_17 (by decide) ?_
    exact ih (i + 1) H locs ls (by omega) (lv_sub hl [0, 1, 2, 3] rfl) Y

set_option maxHeartbeats 4000000 in
set_option maxRecDepth 100000 in
theorem k_fill (l : Launch) (D : va_G) (τ : Nat → ClassId) (sz : Nat) (a n : Nat) (f : Nat → Int32) (v : Int32) (hn : n < 2 ^ 31) : Met l yJ7_fill_53178 (Cond.code yJ7_fill_53178 cJ7_fill_53178 4 none :: wALL) { frames := 0, cells := 0, slots := 0, locals := 0 } (Pw D τ [(a, .inl (τ 0, n, .inl (f)))] sz [.ref a, .int v]) (va_Qv (fun (_ : Unit) => True) (Bw D (va_A [(a, .inl (τ 0, n, .inl (f)))] sz) (fun (_ : Unit) => [(a, .inl (τ 0, n, .inl (fil (fun _ => v) f n)))])) (va_A [(a, .inl (τ 0, n, .inl (f)))] sz)) 0 0 (va_A [(a, .inl (τ 0, n, .inl (f)))] sz) := by
  refine bodyW (by decide) (Nat.le_of_ble_eq_true rfl) (fun p e s m below meth c ls B hr hlk hin hsz Y hl => ?_)
  have hl : lv_has ls 4 [(0, .ref a), (1, .int v)] := hl
  have B : CallFix p m c cJ7_fill_53178 4 s _ wALL RJ7 := B
  generalize va_A [(a, .inl (τ 0, n, .inl (f)))] sz = A at Y ⊢
  refine lv_iconst (v := 0) B.1 B.2.1 dJ7_fill_53178_0 (by decide) ?_
  refine lv_istore_n (lv' := [(2, .int 0), (0, .ref a), (1, .int v)]) B.1 B.2.1 dJ7_fill_53178_1 rfl hl (by decide) rfl (fun ls hl => ?_)
  refine lv_aload_n B.1 B.2.1 dJ7_fill_53178_2 rfl (lv_at hl 1 rfl) ?_
  refine t_alen (v := (nI n)) B Y 0 rfl 0 rfl rfl dJ7_fill_53178_3 ?_
  refine lv_istore_n (lv' := [(3, .int (nI n)), (2, .int 0), (0, .ref a), (1, .int v)]) B.1 B.2.1 dJ7_fill_53178_4 rfl hl (by decide) rfl (fun ls hl => ?_)
  rw [← fil_0 (fun _ => v) f] at Y
  refine lp_fill hn B (fun H locs ls hl Y => ?_) n 0 _ _ _ (by omega) (lv_sub hl [1, 0, 2, 3] rfl) Y
  exact endV B hr hlk Y () trivial [0] (by decide) rfl (Nat.le_of_ble_eq_true rfl) (Nat.le_of_ble_eq_true rfl) dJ7_fill_53178_20

set_option maxHeartbeats 4000000 in
set_option maxRecDepth 100000 in
theorem k_X5_init (l : Launch) (D : va_G) (τ : Nat → ClassId) (sz : Nat) (h0 : Nat) : Met l yX5_init (Cond.code yX5_init cX5_init 1 none :: wALL) { frames := 2, cells := 10, slots := 1824, locals := 60 } (Pw D τ [(h0, .inr (5, [.null, .null, .null, .null, .null, .null, .null, .null, .null, .null, .int 0, .int 0, .int 0]))] sz [.ref h0]) (va_Qv (fun (q : Nat × Nat × Nat × Nat × Nat × Nat × Nat × Nat × Nat × Nat) => True) (Bw D (va_A [(h0, .inr (5, [.null, .null, .null, .null, .null, .null, .null, .null, .null, .null, .int 0, .int 0, .int 0]))] sz) (fun (q : Nat × Nat × Nat × Nat × Nat × Nat × Nat × Nat × Nat × Nat) => [(h0, .inr (5, [.ref q.1, .ref q.2.1, .ref q.2.2.1, .ref q.2.2.2.1, .ref q.2.2.2.2.1, .ref q.2.2.2.2.2.1, .ref q.2.2.2.2.2.2.1, .ref q.2.2.2.2.2.2.2.1, .ref q.2.2.2.2.2.2.2.2.1, .ref q.2.2.2.2.2.2.2.2.2, .int 0, .int (-1), .int 0])), (q.1, .inl (τ 0, 300, .inl (fun _ => 0))), (q.2.1, .inl (τ 0, 300, .inl (fun _ => 0))), (q.2.2.1, .inl (τ 0, 300, .inl (fun _ => 0))), (q.2.2.2.1, .inl (τ 0, 300, .inl (fun _ => 0))), (q.2.2.2.2.1, .inl (τ 0, 300, .inl (fun _ => 0))), (q.2.2.2.2.2.1, .inl (τ 0, 300, .inl (fun _ => 0))), (q.2.2.2.2.2.2.1, .inl (τ 0, 6, .inl (fil (fun _ => (-1)) (fun _ => 0) 6))), (q.2.2.2.2.2.2.2.1, .inl (τ 0, 6, .inl (fil (fun _ => (-1)) (fun _ => 0) 6))), (q.2.2.2.2.2.2.2.2.1, .inl (τ 0, 6, .inl (fun _ => 0))), (q.2.2.2.2.2.2.2.2.2, .inl (τ 0, 6, .inl (fun _ => 0)))])) (va_A [(h0, .inr (5, [.null, .null, .null, .null, .null, .null, .null, .null, .null, .null, .int 0, .int 0, .int 0]))] sz)) 10 1824 (va_A [(h0, .inr (5, [.null, .null, .null, .null, .null, .null, .null, .null, .null, .null, .int 0, .int 0, .int 0]))] sz) := by
  refine bodyW (by decide) (Nat.le_of_ble_eq_true rfl) (fun p e s m below meth c ls B hr hlk hin hsz Y hl => ?_)
  have hl : lv_has ls 1 [(0, .ref h0)] := hl
  have B : CallFix p m c cX5_init 1 s _ wALL RX5 := B
  generalize va_A [(h0, .inr (5, [.null, .null, .null, .null, .null, .null, .null, .null, .null, .null, .int 0, .int 0, .int 0]))] sz = A at Y ⊢
  refine lv_aload_n B.1 B.2.1 dX5_init_0 rfl (lv_at hl 0 rfl) ?_
  refine t_objInit B q_111 q_31 q_32 hl.1 (Nat.le_of_ble_eq_true rfl) dX5_init_1 (Nat.le_of_ble_eq_true rfl) (Nat.le_of_ble_eq_true rfl) ?_
  refine lv_aload_n B.1 B.2.1 dX5_init_4 rfl (lv_at hl 0 rfl) ?_
  refine lv_sipush (v := 300) B.1 B.2.1 dX5_init_5 (by decide) ?_
  refine t_newi (N' := 300) B Y q_78 (by decide) (by decide) (Nat.le_of_ble_eq_true rfl) (Nat.le_of_ble_eq_true rfl) (Nat.le_of_ble_eq_true rfl) dX5_init_8 (fun a1 H Y => ?_)
  have Y : Wd D τ s A s.heap [(h0, .inr (5, [.null, .null, .null, .null, .null, .null, .null, .null, .null, .null, .int 0, .int 0, .int 0])), (a1, .inl (τ 0, 300, .inl (fun _ => 0)))] H _ := Y
  refine W.widen (k := 1) (n := 300) (Nat.le_of_ble_eq_true rfl) (Nat.le_of_ble_eq_true rfl) ?_
  refine pf_X5_9 (ws' := [(h0, .inr (5, [.ref a1, .null, .null, .null, .null, .null, .null, .null, .null, .null, .int 0, .int 0, .int 0])), (a1, .inl (τ 0, 300, .inl (fun _ => 0)))]) B hin Y rfl rfl 0 rfl (Nat.le_of_ble_eq_true rfl) rfl dX5_init_10 (fun H locs Y => ?_)
  refine lv_aload_n B.1 B.2.1 dX5_init_13 rfl (lv_at hl 0 rfl) ?_
  refine lv_sipush (v := 300) B.1 B.2.1 dX5_init_14 (by decide) ?_
  refine t_newi (N' := 300) B Y q_78 (by decide) (by decide) (Nat.le_of_ble_eq_true rfl) (Nat.le_of_ble_eq_true rfl) (Nat.le_of_ble_eq_true rfl) dX5_init_17 (fun a2 H Y => ?_)
  have Y : Wd D τ s A s.heap [(h0, .inr (5, [.ref a1, .null, .null, .null, .null, .null, .null, .null, .null, .null, .int 0, .int 0, .int 0])), (a1, .inl (τ 0, 300, .inl (fun _ => 0))), (a2, .inl (τ 0, 300, .inl (fun _ => 0)))] H _ := Y
  refine W.widen (k := 2) (n := 600) (Nat.le_of_ble_eq_true rfl) (Nat.le_of_ble_eq_true rfl) ?_
  refine pf_X5_15 (ws' := [(h0, .inr (5, [.ref a1, .ref a2, .null, .null, .null, .null, .null, .null, .null, .null, .int 0, .int 0, .int 0])), (a1, .inl (τ 0, 300, .inl (fun _ => 0))), (a2, .inl (τ 0, 300, .inl (fun _ => 0)))]) B hin Y rfl rfl 0 rfl (Nat.le_of_ble_eq_true rfl) rfl dX5_init_19 (fun H locs Y => ?_)
  refine lv_aload_n B.1 B.2.1 dX5_init_22 rfl (lv_at hl 0 rfl) ?_
  refine lv_sipush (v := 300) B.1 B.2.1 dX5_init_23 (by decide) ?_
  refine t_newi (N' := 300) B Y q_78 (by decide) (by decide) (Nat.le_of_ble_eq_true rfl) (Nat.le_of_ble_eq_true rfl) (Nat.le_of_ble_eq_true rfl) dX5_init_26 (fun a3 H Y => ?_)
  have Y : Wd D τ s A s.heap [(h0, .inr (5, [.ref a1, .ref a2, .null, .null, .null, .null, .null, .null, .null, .null, .int 0, .int 0, .int 0])), (a1, .inl (τ 0, 300, .inl (fun _ => 0))), (a2, .inl (τ 0, 300, .inl (fun _ => 0))), (a3, .inl (τ 0, 300, .inl (fun _ => 0)))] H _ := Y
  refine W.widen (k := 3) (n := 900) (Nat.le_of_ble_eq_true rfl) (Nat.le_of_ble_eq_true rfl) ?_
  refine pf_X5_18 (ws' := [(h0, .inr (5, [.ref a1, .ref a2, .ref a3, .null, .null, .null, .null, .null, .null, .null, .int 0, .int 0, .int 0])), (a1, .inl (τ 0, 300, .inl (fun _ => 0))), (a2, .inl (τ 0, 300, .inl (fun _ => 0))), (a3, .inl (τ 0, 300, .inl (fun _ => 0)))]) B hin Y rfl rfl 0 rfl (Nat.le_of_ble_eq_true rfl) rfl dX5_init_28 (fun H locs Y => ?_)
  refine lv_aload_n B.1 B.2.1 dX5_init_31 rfl (lv_at hl 0 rfl) ?_
  refine lv_sipush (v := 300) B.1 B.2.1 dX5_init_32 (by decide) ?_
  refine t_newi (N' := 300) B Y q_78 (by decide) (by decide) (Nat.le_of_ble_eq_true rfl) (Nat.le_of_ble_eq_true rfl) (Nat.le_of_ble_eq_true rfl) dX5_init_35 (fun a4 H Y => ?_)
  have Y : Wd D τ s A s.heap [(h0, .inr (5, [.ref a1, .ref a2, .ref a3, .null, .null, .null, .null, .null, .null, .null, .int 0, .int 0, .int 0])), (a1, .inl (τ 0, 300, .inl (fun _ => 0))), (a2, .inl (τ 0, 300, .inl (fun _ => 0))), (a3, .inl (τ 0, 300, .inl (fun _ => 0))), (a4, .inl (τ 0, 300, .inl (fun _ => 0)))] H _ := Y
  refine W.widen (k := 4) (n := 1200) (Nat.le_of_ble_eq_true rfl) (Nat.le_of_ble_eq_true rfl) ?_
  refine pf_X5_21 (ws' := [(h0, .inr (5, [.ref a1, .ref a2, .ref a3, .ref a4, .null, .null, .null, .null, .null, .null, .int 0, .int 0, .int 0])), (a1, .inl (τ 0, 300, .inl (fun _ => 0))), (a2, .inl (τ 0, 300, .inl (fun _ => 0))), (a3, .inl (τ 0, 300, .inl (fun _ => 0))), (a4, .inl (τ 0, 300, .inl (fun _ => 0)))]) B hin Y rfl rfl 0 rfl (Nat.le_of_ble_eq_true rfl) rfl dX5_init_37 (fun H locs Y => ?_)
  refine lv_aload_n B.1 B.2.1 dX5_init_40 rfl (lv_at hl 0 rfl) ?_
  refine lv_sipush (v := 300) B.1 B.2.1 dX5_init_41 (by decide) ?_
  refine t_newi (N' := 300) B Y q_78 (by decide) (by decide) (Nat.le_of_ble_eq_true rfl) (Nat.le_of_ble_eq_true rfl) (Nat.le_of_ble_eq_true rfl) dX5_init_44 (fun a5 H Y => ?_)
  have Y : Wd D τ s A s.heap [(h0, .inr (5, [.ref a1, .ref a2, .ref a3, .ref a4, .null, .null, .null, .null, .null, .null, .int 0, .int 0, .int 0])), (a1, .inl (τ 0, 300, .inl (fun _ => 0))), (a2, .inl (τ 0, 300, .inl (fun _ => 0))), (a3, .inl (τ 0, 300, .inl (fun _ => 0))), (a4, .inl (τ 0, 300, .inl (fun _ => 0))), (a5, .inl (τ 0, 300, .inl (fun _ => 0)))] H _ := Y
  refine W.widen (k := 5) (n := 1500) (Nat.le_of_ble_eq_true rfl) (Nat.le_of_ble_eq_true rfl) ?_
  refine pf_X5_24 (ws' := [(h0, .inr (5, [.ref a1, .ref a2, .ref a3, .ref a4, .ref a5, .null, .null, .null, .null, .null, .int 0, .int 0, .int 0])), (a1, .inl (τ 0, 300, .inl (fun _ => 0))), (a2, .inl (τ 0, 300, .inl (fun _ => 0))), (a3, .inl (τ 0, 300, .inl (fun _ => 0))), (a4, .inl (τ 0, 300, .inl (fun _ => 0))), (a5, .inl (τ 0, 300, .inl (fun _ => 0)))]) B hin Y rfl rfl 0 rfl (Nat.le_of_ble_eq_true rfl) rfl dX5_init_46 (fun H locs Y => ?_)
  refine lv_aload_n B.1 B.2.1 dX5_init_49 rfl (lv_at hl 0 rfl) ?_
  refine lv_sipush (v := 300) B.1 B.2.1 dX5_init_50 (by decide) ?_
  refine t_newi (N' := 300) B Y q_78 (by decide) (by decide) (Nat.le_of_ble_eq_true rfl) (Nat.le_of_ble_eq_true rfl) (Nat.le_of_ble_eq_true rfl) dX5_init_53 (fun a6 H Y => ?_)
  have Y : Wd D τ s A s.heap [(h0, .inr (5, [.ref a1, .ref a2, .ref a3, .ref a4, .ref a5, .null, .null, .null, .null, .null, .int 0, .int 0, .int 0])), (a1, .inl (τ 0, 300, .inl (fun _ => 0))), (a2, .inl (τ 0, 300, .inl (fun _ => 0))), (a3, .inl (τ 0, 300, .inl (fun _ => 0))), (a4, .inl (τ 0, 300, .inl (fun _ => 0))), (a5, .inl (τ 0, 300, .inl (fun _ => 0))), (a6, .inl (τ 0, 300, .inl (fun _ => 0)))] H _ := Y
  refine W.widen (k := 6) (n := 1800) (Nat.le_of_ble_eq_true rfl) (Nat.le_of_ble_eq_true rfl) ?_
  refine pf_X5_27 (ws' := [(h0, .inr (5, [.ref a1, .ref a2, .ref a3, .ref a4, .ref a5, .ref a6, .null, .null, .null, .null, .int 0, .int 0, .int 0])), (a1, .inl (τ 0, 300, .inl (fun _ => 0))), (a2, .inl (τ 0, 300, .inl (fun _ => 0))), (a3, .inl (τ 0, 300, .inl (fun _ => 0))), (a4, .inl (τ 0, 300, .inl (fun _ => 0))), (a5, .inl (τ 0, 300, .inl (fun _ => 0))), (a6, .inl (τ 0, 300, .inl (fun _ => 0)))]) B hin Y rfl rfl 0 rfl (Nat.le_of_ble_eq_true rfl) rfl dX5_init_55 (fun H locs Y => ?_)
  refine lv_aload_n B.1 B.2.1 dX5_init_58 rfl (lv_at hl 0 rfl) ?_
  refine lv_bipush (v := 6) B.1 B.2.1 dX5_init_59 (by decide) ?_
  refine t_newi (N' := 6) B Y q_78 (by decide) (by decide) (Nat.le_of_ble_eq_true rfl) (Nat.le_of_ble_eq_true rfl) (Nat.le_of_ble_eq_true rfl) dX5_init_61 (fun a7 H Y => ?_)
  have Y : Wd D τ s A s.heap [(h0, .inr (5, [.ref a1, .ref a2, .ref a3, .ref a4, .ref a5, .ref a6, .null, .null, .null, .null, .int 0, .int 0, .int 0])), (a1, .inl (τ 0, 300, .inl (fun _ => 0))), (a2, .inl (τ 0, 300, .inl (fun _ => 0))), (a3, .inl (τ 0, 300, .inl (fun _ => 0))), (a4, .inl (τ 0, 300, .inl (fun _ => 0))), (a5, .inl (τ 0, 300, .inl (fun _ => 0))), (a6, .inl (τ 0, 300, .inl (fun _ => 0))), (a7, .inl (τ 0, 6, .inl (fun _ => 0)))] H _ := Y
  refine W.widen (k := 7) (n := 1806) (Nat.le_of_ble_eq_true rfl) (Nat.le_of_ble_eq_true rfl) ?_
  refine pf_X5_30 (ws' := [(h0, .inr (5, [.ref a1, .ref a2, .ref a3, .ref a4, .ref a5, .ref a6, .ref a7, .null, .null, .null, .int 0, .int 0, .int 0])), (a1, .inl (τ 0, 300, .inl (fun _ => 0))), (a2, .inl (τ 0, 300, .inl (fun _ => 0))), (a3, .inl (τ 0, 300, .inl (fun _ => 0))), (a4, .inl (τ 0, 300, .inl (fun _ => 0))), (a5, .inl (τ 0, 300, .inl (fun _ => 0))), (a6, .inl (τ 0, 300, .inl (fun _ => 0))), (a7, .inl (τ 0, 6, .inl (fun _ => 0)))]) B hin Y rfl rfl 0 rfl (Nat.le_of_ble_eq_true rfl) rfl dX5_init_63 (fun H locs Y => ?_)
  refine lv_aload_n B.1 B.2.1 dX5_init_66 rfl (lv_at hl 0 rfl) ?_
  refine lv_bipush (v := 6) B.1 B.2.1 dX5_init_67 (by decide) ?_
  refine t_newi (N' := 6) B Y q_78 (by decide) (by decide) (Nat.le_of_ble_eq_true rfl) (Nat.le_of_ble_eq_true rfl) (Nat.le_of_ble_eq_true rfl) dX5_init_69 (fun a8 H Y => ?_)
  have Y : Wd D τ s A s.heap [(h0, .inr (5, [.ref a1, .ref a2, .ref a3, .ref a4, .ref a5, .ref a6, .ref a7, .null, .null, .null, .int 0, .int 0, .int 0])), (a1, .inl (τ 0, 300, .inl (fun _ => 0))), (a2, .inl (τ 0, 300, .inl (fun _ => 0))), (a3, .inl (τ 0, 300, .inl (fun _ => 0))), (a4, .inl (τ 0, 300, .inl (fun _ => 0))), (a5, .inl (τ 0, 300, .inl (fun _ => 0))), (a6, .inl (τ 0, 300, .inl (fun _ => 0))), (a7, .inl (τ 0, 6, .inl (fun _ => 0))), (a8, .inl (τ 0, 6, .inl (fun _ => 0)))] H _ := Y
  refine W.widen (k := 8) (n := 1812) (Nat.le_of_ble_eq_true rfl) (Nat.le_of_ble_eq_true rfl) ?_
  refine pf_X5_33 (ws' := [(h0, .inr (5, [.ref a1, .ref a2, .ref a3, .ref a4, .ref a5, .ref a6, .ref a7, .ref a8, .null, .null, .int 0, .int 0, .int 0])), (a1, .inl (τ 0, 300, .inl (fun _ => 0))), (a2, .inl (τ 0, 300, .inl (fun _ => 0))), (a3, .inl (τ 0, 300, .inl (fun _ => 0))), (a4, .inl (τ 0, 300, .inl (fun _ => 0))), (a5, .inl (τ 0, 300, .inl (fun _ => 0))), (a6, .inl (τ 0, 300, .inl (fun _ => 0))), (a7, .inl (τ 0, 6, .inl (fun _ => 0))), (a8, .inl (τ 0, 6, .inl (fun _ => 0)))]) B hin Y rfl rfl 0 rfl (Nat.le_of_ble_eq_true rfl) rfl dX5_init_71 (fun H locs Y => ?_)
  refine lv_aload_n B.1 B.2.1 dX5_init_74 rfl (lv_at hl 0 rfl) ?_
  refine lv_bipush (v := 6) B.1 B.2.1 dX5_init_75 (by decide) ?_
  refine t_newi (N' := 6) B Y q_78 (by decide) (by decide) (Nat.le_of_ble_eq_true rfl) (Nat.le_of_ble_eq_true rfl) (Nat.le_of_ble_eq_true rfl) dX5_init_77 (fun a9 H Y => ?_)
  have Y : Wd D τ s A s.heap [(h0, .inr (5, [.ref a1, .ref a2, .ref a3, .ref a4, .ref a5, .ref a6, .ref a7, .ref a8, .null, .null, .int 0, .int 0, .int 0])), (a1, .inl (τ 0, 300, .inl (fun _ => 0))), (a2, .inl (τ 0, 300, .inl (fun _ => 0))), (a3, .inl (τ 0, 300, .inl (fun _ => 0))), (a4, .inl (τ 0, 300, .inl (fun _ => 0))), (a5, .inl (τ 0, 300, .inl (fun _ => 0))), (a6, .inl (τ 0, 300, .inl (fun _ => 0))), (a7, .inl (τ 0, 6, .inl (fun _ => 0))), (a8, .inl (τ 0, 6, .inl (fun _ => 0))), (a9, .inl (τ 0, 6, .inl (fun _ => 0)))] H _ := Y
  refine W.widen (k := 9) (n := 1818) (Nat.le_of_ble_eq_true rfl) (Nat.le_of_ble_eq_true rfl) ?_
  refine pf_X5_36 (ws' := [(h0, .inr (5, [.ref a1, .ref a2, .ref a3, .ref a4, .ref a5, .ref a6, .ref a7, .ref a8, .ref a9, .null, .int 0, .int 0, .int 0])), (a1, .inl (τ 0, 300, .inl (fun _ => 0))), (a2, .inl (τ 0, 300, .inl (fun _ => 0))), (a3, .inl (τ 0, 300, .inl (fun _ => 0))), (a4, .inl (τ 0, 300, .inl (fun _ => 0))), (a5, .inl (τ 0, 300, .inl (fun _ => 0))), (a6, .inl (τ 0, 300, .inl (fun _ => 0))), (a7, .inl (τ 0, 6, .inl (fun _ => 0))), (a8, .inl (τ 0, 6, .inl (fun _ => 0))), (a9, .inl (τ 0, 6, .inl (fun _ => 0)))]) B hin Y rfl rfl 0 rfl (Nat.le_of_ble_eq_true rfl) rfl dX5_init_79 (fun H locs Y => ?_)
  refine lv_aload_n B.1 B.2.1 dX5_init_82 rfl (lv_at hl 0 rfl) ?_
  refine lv_bipush (v := 6) B.1 B.2.1 dX5_init_83 (by decide) ?_
  refine t_newi (N' := 6) B Y q_78 (by decide) (by decide) (Nat.le_of_ble_eq_true rfl) (Nat.le_of_ble_eq_true rfl) (Nat.le_of_ble_eq_true rfl) dX5_init_85 (fun a10 H Y => ?_)
  have Y : Wd D τ s A s.heap [(h0, .inr (5, [.ref a1, .ref a2, .ref a3, .ref a4, .ref a5, .ref a6, .ref a7, .ref a8, .ref a9, .null, .int 0, .int 0, .int 0])), (a1, .inl (τ 0, 300, .inl (fun _ => 0))), (a2, .inl (τ 0, 300, .inl (fun _ => 0))), (a3, .inl (τ 0, 300, .inl (fun _ => 0))), (a4, .inl (τ 0, 300, .inl (fun _ => 0))), (a5, .inl (τ 0, 300, .inl (fun _ => 0))), (a6, .inl (τ 0, 300, .inl (fun _ => 0))), (a7, .inl (τ 0, 6, .inl (fun _ => 0))), (a8, .inl (τ 0, 6, .inl (fun _ => 0))), (a9, .inl (τ 0, 6, .inl (fun _ => 0))), (a10, .inl (τ 0, 6, .inl (fun _ => 0)))] H _ := Y
  refine W.widen (k := 10) (n := 1824) (Nat.le_of_ble_eq_true rfl) (Nat.le_of_ble_eq_true rfl) ?_
  refine pf_X5_39 (ws' := [(h0, .inr (5, [.ref a1, .ref a2, .ref a3, .ref a4, .ref a5, .ref a6, .ref a7, .ref a8, .ref a9, .ref a10, .int 0, .int 0, .int 0])), (a1, .inl (τ 0, 300, .inl (fun _ => 0))), (a2, .inl (τ 0, 300, .inl (fun _ => 0))), (a3, .inl (τ 0, 300, .inl (fun _ => 0))), (a4, .inl (τ 0, 300, .inl (fun _ => 0))), (a5, .inl (τ 0, 300, .inl (fun _ => 0))), (a6, .inl (τ 0, 300, .inl (fun _ => 0))), (a7, .inl (τ 0, 6, .inl (fun _ => 0))), (a8, .inl (τ 0, 6, .inl (fun _ => 0))), (a9, .inl (τ 0, 6, .inl (fun _ => 0))), (a10, .inl (τ 0, 6, .inl (fun _ => 0)))]) B hin Y rfl rfl 0 rfl (Nat.le_of_ble_eq_true rfl) rfl dX5_init_87 (fun H locs Y => ?_)
  refine lv_aload_n B.1 B.2.1 dX5_init_90 rfl (lv_at hl 0 rfl) ?_
  refine lv_iconst (v := 0) B.1 B.2.1 dX5_init_91 (by decide) ?_
  refine pf_X5_42 (ws' := [(h0, .inr (5, [.ref a1, .ref a2, .ref a3, .ref a4, .ref a5, .ref a6, .ref a7, .ref a8, .ref a9, .ref a10, .int 0, .int 0, .int 0])), (a1, .inl (τ 0, 300, .inl (fun _ => 0))), (a2, .inl (τ 0, 300, .inl (fun _ => 0))), (a3, .inl (τ 0, 300, .inl (fun _ => 0))), (a4, .inl (τ 0, 300, .inl (fun _ => 0))), (a5, .inl (τ 0, 300, .inl (fun _ => 0))), (a6, .inl (τ 0, 300, .inl (fun _ => 0))), (a7, .inl (τ 0, 6, .inl (fun _ => 0))), (a8, .inl (τ 0, 6, .inl (fun _ => 0))), (a9, .inl (τ 0, 6, .inl (fun _ => 0))), (a10, .inl (τ 0, 6, .inl (fun _ => 0)))]) B Y 0 rfl (Nat.le_of_ble_eq_true rfl) rfl dX5_init_92 (fun H locs Y => ?_)
  refine lv_aload_n B.1 B.2.1 dX5_init_95 rfl (lv_at hl 0 rfl) ?_
  refine lv_iconst (v := (-1)) B.1 B.2.1 dX5_init_96 (by decide) ?_
  refine pf_X5_46 (ws' := [(h0, .inr (5, [.ref a1, .ref a2, .ref a3, .ref a4, .ref a5, .ref a6, .ref a7, .ref a8, .ref a9, .ref a10, .int 0, .int (-1), .int 0])), (a1, .inl (τ 0, 300, .inl (fun _ => 0))), (a2, .inl (τ 0, 300, .inl (fun _ => 0))), (a3, .inl (τ 0, 300, .inl (fun _ => 0))), (a4, .inl (τ 0, 300, .inl (fun _ => 0))), (a5, .inl (τ 0, 300, .inl (fun _ => 0))), (a6, .inl (τ 0, 300, .inl (fun _ => 0))), (a7, .inl (τ 0, 6, .inl (fun _ => 0))), (a8, .inl (τ 0, 6, .inl (fun _ => 0))), (a9, .inl (τ 0, 6, .inl (fun _ => 0))), (a10, .inl (τ 0, 6, .inl (fun _ => 0)))]) B Y 0 rfl (Nat.le_of_ble_eq_true rfl) rfl dX5_init_97 (fun H locs Y => ?_)
  refine lv_aload_n B.1 B.2.1 dX5_init_100 rfl (lv_at hl 0 rfl) ?_
  refine lv_iconst (v := 0) B.1 B.2.1 dX5_init_101 (by decide) ?_
  refine pf_X5_49 (ws' := [(h0, .inr (5, [.ref a1, .ref a2, .ref a3, .ref a4, .ref a5, .ref a6, .ref a7, .ref a8, .ref a9, .ref a10, .int 0, .int (-1), .int 0])), (a1, .inl (τ 0, 300, .inl (fun _ => 0))), (a2, .inl (τ 0, 300, .inl (fun _ => 0))), (a3, .inl (τ 0, 300, .inl (fun _ => 0))), (a4, .inl (τ 0, 300, .inl (fun _ => 0))), (a5, .inl (τ 0, 300, .inl (fun _ => 0))), (a6, .inl (τ 0, 300, .inl (fun _ => 0))), (a7, .inl (τ 0, 6, .inl (fun _ => 0))), (a8, .inl (τ 0, 6, .inl (fun _ => 0))), (a9, .inl (τ 0, 6, .inl (fun _ => 0))), (a10, .inl (τ 0, 6, .inl (fun _ => 0)))]) B Y 0 rfl (Nat.le_of_ble_eq_true rfl) rfl dX5_init_102 (fun H locs Y => ?_)
  refine lv_aload_n B.1 B.2.1 dX5_init_105 rfl (lv_at hl 0 rfl) ?_
  refine gf_X5_30 B Y 0 rfl rfl dX5_init_106 ?_
  refine lv_iconst (v := (-1)) B.1 B.2.1 dX5_init_109 (by decide) ?_
  refine retV (wc := [(a7, .inl (τ 0, 6, .inl (fun _ => 0)))]) (wr := [(h0, .inr (5, [.ref a1, .ref a2, .ref a3, .ref a4, .ref a5, .ref a6, .ref a7, .ref a8, .ref a9, .ref a10, .int 0, .int (-1), .int 0])), (a1, .inl (τ 0, 300, .inl (fun _ => 0))), (a2, .inl (τ 0, 300, .inl (fun _ => 0))), (a3, .inl (τ 0, 300, .inl (fun _ => 0))), (a4, .inl (τ 0, 300, .inl (fun _ => 0))), (a5, .inl (τ 0, 300, .inl (fun _ => 0))), (a6, .inl (τ 0, 300, .inl (fun _ => 0))), (a8, .inl (τ 0, 6, .inl (fun _ => 0))), (a9, .inl (τ 0, 6, .inl (fun _ => 0))), (a10, .inl (τ 0, 6, .inl (fun _ => 0)))]) Y [7] [0, 1, 2, 3, 4, 5, 6, 8, 9, 10] rfl rfl (by decide) (by decide) (rS (As := [.ref a7, .int (-1)]) (rest := []) B Y [7] (by decide) rfl (k_fill l D τ _ a7 6 (fun _ => 0) (-1) (by decide)) q_112 q_113 q_6 q_114 rfl rfl hd_J7_fill_53178 ⟨(Nat.le_of_ble_eq_true rfl), (Nat.le_of_ble_eq_true rfl)⟩ rfl hl.1 rfl (Nat.le_of_ble_eq_true rfl) dX5_init_110 ⟨(Nat.le_of_ble_eq_true rfl), (Nat.le_of_ble_eq_true rfl)⟩) (fun u H locs hw Y => ?_)
  have Y : Wd D τ s A s.heap [(h0, .inr (5, [.ref a1, .ref a2, .ref a3, .ref a4, .ref a5, .ref a6, .ref a7, .ref a8, .ref a9, .ref a10, .int 0, .int (-1), .int 0])), (a1, .inl (τ 0, 300, .inl (fun _ => 0))), (a2, .inl (τ 0, 300, .inl (fun _ => 0))), (a3, .inl (τ 0, 300, .inl (fun _ => 0))), (a4, .inl (τ 0, 300, .inl (fun _ => 0))), (a5, .inl (τ 0, 300, .inl (fun _ => 0))), (a6, .inl (τ 0, 300, .inl (fun _ => 0))), (a8, .inl (τ 0, 6, .inl (fun _ => 0))), (a9, .inl (τ 0, 6, .inl (fun _ => 0))), (a10, .inl (τ 0, 6, .inl (fun _ => 0))), (a7, .inl (τ 0, 6, .inl (fil (fun _ => (-1)) (fun _ => 0) 6)))] H _ := Y
  refine lv_aload_n B.1 B.2.1 dX5_init_113 rfl (lv_at hl 0 rfl) ?_
  refine gf_X5_33 B Y 0 rfl rfl dX5_init_114 ?_
  refine lv_iconst (v := (-1)) B.1 B.2.1 dX5_init_117 (by decide) ?_
  refine retV (wc := [(a8, .inl (τ 0, 6, .inl (fun _ => 0)))]) (wr := [(h0, .inr (5, [.ref a1, .ref a2, .ref a3, .ref a4, .ref a5, .ref a6, .ref a7, .ref a8, .ref a9, .ref a10, .int 0, .int (-1), .int 0])), (a1, .inl (τ 0, 300, .inl (fun _ => 0))), (a2, .inl (τ 0, 300, .inl (fun _ => 0))), (a3, .inl (τ 0, 300, .inl (fun _ => 0))), (a4, .inl (τ 0, 300, .inl (fun _ => 0))), (a5, .inl (τ 0, 300, .inl (fun _ => 0))), (a6, .inl (τ 0, 300, .inl (fun _ => 0))), (a9, .inl (τ 0, 6, .inl (fun _ => 0))), (a10, .inl (τ 0, 6, .inl (fun _ => 0))), (a7, .inl (τ 0, 6, .inl (fil (fun _ => (-1)) (fun _ => 0) 6)))]) Y [7] [0, 1, 2, 3, 4, 5, 6, 8, 9, 10] rfl rfl (by decide) (by decide) (rS (As := [.ref a8, .int (-1)]) (rest := []) B Y [7] (by decide) rfl (k_fill l D τ _ a8 6 (fun _ => 0) (-1) (by decide)) q_112 q_113 q_6 q_114 rfl rfl hd_J7_fill_53178 ⟨(Nat.le_of_ble_eq_true rfl), (Nat.le_of_ble_eq_true rfl)⟩ rfl hl.1 rfl (Nat.le_of_ble_eq_true rfl) dX5_init_118 ⟨(Nat.le_of_ble_eq_true rfl), (Nat.le_of_ble_eq_true rfl)⟩) (fun u H locs hw Y => ?_)
  have Y : Wd D τ s A s.heap [(h0, .inr (5, [.ref a1, .ref a2, .ref a3, .ref a4, .ref a5, .ref a6, .ref a7, .ref a8, .ref a9, .ref a10, .int 0, .int (-1), .int 0])), (a1, .inl (τ 0, 300, .inl (fun _ => 0))), (a2, .inl (τ 0, 300, .inl (fun _ => 0))), (a3, .inl (τ 0, 300, .inl (fun _ => 0))), (a4, .inl (τ 0, 300, .inl (fun _ => 0))), (a5, .inl (τ 0, 300, .inl (fun _ => 0))), (a6, .inl (τ 0, 300, .inl (fun _ => 0))), (a9, .inl (τ 0, 6, .inl (fun _ => 0))), (a10, .inl (τ 0, 6, .inl (fun _ => 0))), (a7, .inl (τ 0, 6, .inl (fil (fun _ => (-1)) (fun _ => 0) 6))), (a8, .inl (τ 0, 6, .inl (fil (fun _ => (-1)) (fun _ => 0) 6)))] H _ := Y
  exact endV B hr hlk Y (a1, a2, a3, a4, a5, a6, a7, a8, a9, a10) trivial [0, 1, 2, 3, 4, 5, 6, 9, 10, 7, 8] (by decide) rfl (Nat.le_of_ble_eq_true rfl) (Nat.le_of_ble_eq_true rfl) dX5_init_121
