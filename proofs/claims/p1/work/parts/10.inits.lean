set_option maxHeartbeats 4000000 in
set_option maxRecDepth 100000 in
theorem k_X0_init (l : Launch) (D : va_G) (τ : Nat → ClassId) (sz : Nat) (h0 : Nat) : Met l yX0_init (Cond.code yX0_init cX0_init 1 none :: wALL) { frames := 1, cells := 0, slots := 0, locals := 20 } (Pw D τ [(h0, .inr (0, [.int 0, .int 0, .int 0, .int 0, .int 0, .int 0, .int 0, .int 0, .int 0, .int 0, .int 0, .int 0, .int 0]))] sz [.ref h0]) (va_Qv (fun (_ : Unit) => True) (Bw D (va_A [(h0, .inr (0, [.int 0, .int 0, .int 0, .int 0, .int 0, .int 0, .int 0, .int 0, .int 0, .int 0, .int 0, .int 0, .int 0]))] sz) (fun (_ : Unit) => [(h0, .inr (0, [.int 0, .int 0, .int 0, .int 0, .int 0, .int 0, .int 0, .int 0, .int 0, .int 0, .int 0, .int 0, .int 0]))])) (va_A [(h0, .inr (0, [.int 0, .int 0, .int 0, .int 0, .int 0, .int 0, .int 0, .int 0, .int 0, .int 0, .int 0, .int 0, .int 0]))] sz)) 0 0 (va_A [(h0, .inr (0, [.int 0, .int 0, .int 0, .int 0, .int 0, .int 0, .int 0, .int 0, .int 0, .int 0, .int 0, .int 0, .int 0]))] sz) := by
  refine bodyW (by decide) (Nat.le_of_ble_eq_true rfl) (fun p e s m below meth c ls B hr hlk hin hsz Y hl => ?_)
  have hl : lv_has ls 1 [(0, .ref h0)] := hl
  have B : CallFix p m c cX0_init 1 s _ wALL RX0 := B
  generalize va_A [(h0, .inr (0, [.int 0, .int 0, .int 0, .int 0, .int 0, .int 0, .int 0, .int 0, .int 0, .int 0, .int 0, .int 0, .int 0]))] sz = A at Y ⊢
  refine lv_aload_n B.1 B.2.1 dX0_init_0 rfl (lv_at hl 0 rfl) ?_
  refine t_objInit B q_196 q_31 q_32 hl.1 (Nat.le_of_ble_eq_true rfl) dX0_init_1 (Nat.le_of_ble_eq_true rfl) (Nat.le_of_ble_eq_true rfl) ?_
  refine lv_aload_n B.1 B.2.1 dX0_init_4 rfl (lv_at hl 0 rfl) ?_
  refine lv_iconst (v := 0) B.1 B.2.1 dX0_init_5 (by decide) ?_
  refine pf_X0_7 (ws' := [(h0, .inr (0, [.int 0, .int 0, .int 0, .int 0, .int 0, .int 0, .int 0, .int 0, .int 0, .int 0, .int 0, .int 0, .int 0]))]) B Y 0 rfl (Nat.le_of_ble_eq_true rfl) rfl dX0_init_6 (fun H locs Y => ?_)
  refine lv_aload_n B.1 B.2.1 dX0_init_9 rfl (lv_at hl 0 rfl) ?_
  refine lv_iconst (v := 0) B.1 B.2.1 dX0_init_10 (by decide) ?_
  refine pf_X0_13 (ws' := [(h0, .inr (0, [.int 0, .int 0, .int 0, .int 0, .int 0, .int 0, .int 0, .int 0, .int 0, .int 0, .int 0, .int 0, .int 0]))]) B Y 0 rfl (Nat.le_of_ble_eq_true rfl) rfl dX0_init_11 (fun H locs Y => ?_)
  refine lv_aload_n B.1 B.2.1 dX0_init_14 rfl (lv_at hl 0 rfl) ?_
  refine lv_iconst (v := 0) B.1 B.2.1 dX0_init_15 (by decide) ?_
  refine pf_X0_16 (ws' := [(h0, .inr (0, [.int 0, .int 0, .int 0, .int 0, .int 0, .int 0, .int 0, .int 0, .int 0, .int 0, .int 0, .int 0, .int 0]))]) B Y 0 rfl (Nat.le_of_ble_eq_true rfl) rfl dX0_init_16 (fun H locs Y => ?_)
  refine lv_aload_n B.1 B.2.1 dX0_init_19 rfl (lv_at hl 0 rfl) ?_
  refine lv_iconst (v := 0) B.1 B.2.1 dX0_init_20 (by decide) ?_
  refine pf_X0_19 (ws' := [(h0, .inr (0, [.int 0, .int 0, .int 0, .int 0, .int 0, .int 0, .int 0, .int 0, .int 0, .int 0, .int 0, .int 0, .int 0]))]) B Y 0 rfl (Nat.le_of_ble_eq_true rfl) rfl dX0_init_21 (fun H locs Y => ?_)
  refine lv_aload_n B.1 B.2.1 dX0_init_24 rfl (lv_at hl 0 rfl) ?_
  refine lv_iconst (v := 0) B.1 B.2.1 dX0_init_25 (by decide) ?_
  refine pf_X0_22 (ws' := [(h0, .inr (0, [.int 0, .int 0, .int 0, .int 0, .int 0, .int 0, .int 0, .int 0, .int 0, .int 0, .int 0, .int 0, .int 0]))]) B Y 0 rfl (Nat.le_of_ble_eq_true rfl) rfl dX0_init_26 (fun H locs Y => ?_)
  refine lv_aload_n B.1 B.2.1 dX0_init_29 rfl (lv_at hl 0 rfl) ?_
  refine lv_iconst (v := 0) B.1 B.2.1 dX0_init_30 (by decide) ?_
  refine pf_X0_25 (ws' := [(h0, .inr (0, [.int 0, .int 0, .int 0, .int 0, .int 0, .int 0, .int 0, .int 0, .int 0, .int 0, .int 0, .int 0, .int 0]))]) B Y 0 rfl (Nat.le_of_ble_eq_true rfl) rfl dX0_init_31 (fun H locs Y => ?_)
  refine lv_aload_n B.1 B.2.1 dX0_init_34 rfl (lv_at hl 0 rfl) ?_
  refine lv_iconst (v := 0) B.1 B.2.1 dX0_init_35 (by decide) ?_
  refine pf_X0_28 (ws' := [(h0, .inr (0, [.int 0, .int 0, .int 0, .int 0, .int 0, .int 0, .int 0, .int 0, .int 0, .int 0, .int 0, .int 0, .int 0]))]) B Y 0 rfl (Nat.le_of_ble_eq_true rfl) rfl dX0_init_36 (fun H locs Y => ?_)
  refine lv_aload_n B.1 B.2.1 dX0_init_39 rfl (lv_at hl 0 rfl) ?_
  refine lv_iconst (v := 0) B.1 B.2.1 dX0_init_40 (by decide) ?_
  refine pf_X0_31 (ws' := [(h0, .inr (0, [.int 0, .int 0, .int 0, .int 0, .int 0, .int 0, .int 0, .int 0, .int 0, .int 0, .int 0, .int 0, .int 0]))]) B Y 0 rfl (Nat.le_of_ble_eq_true rfl) rfl dX0_init_41 (fun H locs Y => ?_)
  refine lv_aload_n B.1 B.2.1 dX0_init_44 rfl (lv_at hl 0 rfl) ?_
  refine lv_iconst (v := 0) B.1 B.2.1 dX0_init_45 (by decide) ?_
  refine pf_X0_34 (ws' := [(h0, .inr (0, [.int 0, .int 0, .int 0, .int 0, .int 0, .int 0, .int 0, .int 0, .int 0, .int 0, .int 0, .int 0, .int 0]))]) B Y 0 rfl (Nat.le_of_ble_eq_true rfl) rfl dX0_init_46 (fun H locs Y => ?_)
  refine lv_aload_n B.1 B.2.1 dX0_init_49 rfl (lv_at hl 0 rfl) ?_
  refine lv_iconst (v := 0) B.1 B.2.1 dX0_init_50 (by decide) ?_
  refine pf_X0_37 (ws' := [(h0, .inr (0, [.int 0, .int 0, .int 0, .int 0, .int 0, .int 0, .int 0, .int 0, .int 0, .int 0, .int 0, .int 0, .int 0]))]) B Y 0 rfl (Nat.le_of_ble_eq_true rfl) rfl dX0_init_51 (fun H locs Y => ?_)
  refine lv_aload_n B.1 B.2.1 dX0_init_54 rfl (lv_at hl 0 rfl) ?_
  refine lv_iconst (v := 0) B.1 B.2.1 dX0_init_55 (by decide) ?_
  refine pf_X0_40 (ws' := [(h0, .inr (0, [.int 0, .int 0, .int 0, .int 0, .int 0, .int 0, .int 0, .int 0, .int 0, .int 0, .int 0, .int 0, .int 0]))]) B Y 0 rfl (Nat.le_of_ble_eq_true rfl) rfl dX0_init_56 (fun H locs Y => ?_)
  refine lv_aload_n B.1 B.2.1 dX0_init_59 rfl (lv_at hl 0 rfl) ?_
  refine lv_iconst (v := 0) B.1 B.2.1 dX0_init_60 (by decide) ?_
  refine pf_X0_43 (ws' := [(h0, .inr (0, [.int 0, .int 0, .int 0, .int 0, .int 0, .int 0, .int 0, .int 0, .int 0, .int 0, .int 0, .int 0, .int 0]))]) B Y 0 rfl (Nat.le_of_ble_eq_true rfl) rfl dX0_init_61 (fun H locs Y => ?_)
  refine lv_aload_n B.1 B.2.1 dX0_init_64 rfl (lv_at hl 0 rfl) ?_
  refine lv_iconst (v := 0) B.1 B.2.1 dX0_init_65 (by decide) ?_
  refine pf_X0_46 (ws' := [(h0, .inr (0, [.int 0, .int 0, .int 0, .int 0, .int 0, .int 0, .int 0, .int 0, .int 0, .int 0, .int 0, .int 0, .int 0]))]) B Y 0 rfl (Nat.le_of_ble_eq_true rfl) rfl dX0_init_66 (fun H locs Y => ?_)
  exact endV B hr hlk Y () trivial [0] (by decide) rfl (Nat.le_of_ble_eq_true rfl) (Nat.le_of_ble_eq_true rfl) dX0_init_69

set_option maxHeartbeats 4000000 in
set_option maxRecDepth 100000 in
theorem k_X3_init (l : Launch) (D : va_G) (τ : Nat → ClassId) (sz : Nat) (h0 : Nat) : Met l yX3_init (Cond.code yX3_init cX3_init 1 none :: wALL) { frames := 1, cells := 0, slots := 0, locals := 20 } (Pw D τ [(h0, .inr (3, [.int 0, .int 0, .int 0, .int 0, .int 0, .int 0, .int 0, .int 0]))] sz [.ref h0]) (va_Qv (fun (_ : Unit) => True) (Bw D (va_A [(h0, .inr (3, [.int 0, .int 0, .int 0, .int 0, .int 0, .int 0, .int 0, .int 0]))] sz) (fun (_ : Unit) => [(h0, .inr (3, [.int 0, .int 0, .int 0, .int 0, .int 0, .int 0, .int 0, .int 0]))])) (va_A [(h0, .inr (3, [.int 0, .int 0, .int 0, .int 0, .int 0, .int 0, .int 0, .int 0]))] sz)) 0 0 (va_A [(h0, .inr (3, [.int 0, .int 0, .int 0, .int 0, .int 0, .int 0, .int 0, .int 0]))] sz) := by
  refine bodyW (by decide) (Nat.le_of_ble_eq_true rfl) (fun p e s m below meth c ls B hr hlk hin hsz Y hl => ?_)
  have hl : lv_has ls 1 [(0, .ref h0)] := hl
  have B : CallFix p m c cX3_init 1 s _ wALL RX3 := B
  generalize va_A [(h0, .inr (3, [.int 0, .int 0, .int 0, .int 0, .int 0, .int 0, .int 0, .int 0]))] sz = A at Y ⊢
  refine lv_aload_n B.1 B.2.1 dX3_init_0 rfl (lv_at hl 0 rfl) ?_
  refine t_objInit B q_258 q_31 q_32 hl.1 (Nat.le_of_ble_eq_true rfl) dX3_init_1 (Nat.le_of_ble_eq_true rfl) (Nat.le_of_ble_eq_true rfl) ?_
  refine lv_aload_n B.1 B.2.1 dX3_init_4 rfl (lv_at hl 0 rfl) ?_
  refine lv_iconst (v := 0) B.1 B.2.1 dX3_init_5 (by decide) ?_
  refine pf_X3_7 (ws' := [(h0, .inr (3, [.int 0, .int 0, .int 0, .int 0, .int 0, .int 0, .int 0, .int 0]))]) B Y 0 rfl (Nat.le_of_ble_eq_true rfl) rfl dX3_init_6 (fun H locs Y => ?_)
  refine lv_aload_n B.1 B.2.1 dX3_init_9 rfl (lv_at hl 0 rfl) ?_
  refine lv_iconst (v := 0) B.1 B.2.1 dX3_init_10 (by decide) ?_
  refine pf_X3_13 (ws' := [(h0, .inr (3, [.int 0, .int 0, .int 0, .int 0, .int 0, .int 0, .int 0, .int 0]))]) B Y 0 rfl (Nat.le_of_ble_eq_true rfl) rfl dX3_init_11 (fun H locs Y => ?_)
  refine lv_aload_n B.1 B.2.1 dX3_init_14 rfl (lv_at hl 0 rfl) ?_
  refine lv_iconst (v := 0) B.1 B.2.1 dX3_init_15 (by decide) ?_
  refine pf_X3_16 (ws' := [(h0, .inr (3, [.int 0, .int 0, .int 0, .int 0, .int 0, .int 0, .int 0, .int 0]))]) B Y 0 rfl (Nat.le_of_ble_eq_true rfl) rfl dX3_init_16 (fun H locs Y => ?_)
  refine lv_aload_n B.1 B.2.1 dX3_init_19 rfl (lv_at hl 0 rfl) ?_
  refine lv_iconst (v := 0) B.1 B.2.1 dX3_init_20 (by decide) ?_
  refine pf_X3_19 (ws' := [(h0, .inr (3, [.int 0, .int 0, .int 0, .int 0, .int 0, .int 0, .int 0, .int 0]))]) B Y 0 rfl (Nat.le_of_ble_eq_true rfl) rfl dX3_init_21 (fun H locs Y => ?_)
  refine lv_aload_n B.1 B.2.1 dX3_init_24 rfl (lv_at hl 0 rfl) ?_
  refine lv_iconst (v := 0) B.1 B.2.1 dX3_init_25 (by decide) ?_
  refine pf_X3_22 (ws' := [(h0, .inr (3, [.int 0, .int 0, .int 0, .int 0, .int 0, .int 0, .int 0, .int 0]))]) B Y 0 rfl (Nat.le_of_ble_eq_true rfl) rfl dX3_init_26 (fun H locs Y => ?_)
  refine lv_aload_n B.1 B.2.1 dX3_init_29 rfl (lv_at hl 0 rfl) ?_
  refine lv_iconst (v := 0) B.1 B.2.1 dX3_init_30 (by decide) ?_
  refine pf_X3_25 (ws' := [(h0, .inr (3, [.int 0, .int 0, .int 0, .int 0, .int 0, .int 0, .int 0, .int 0]))]) B Y 0 rfl (Nat.le_of_ble_eq_true rfl) rfl dX3_init_31 (fun H locs Y => ?_)
  refine lv_aload_n B.1 B.2.1 dX3_init_34 rfl (lv_at hl 0 rfl) ?_
  refine lv_iconst (v := 0) B.1 B.2.1 dX3_init_35 (by decide) ?_
  refine pf_X3_28 (ws' := [(h0, .inr (3, [.int 0, .int 0, .int 0, .int 0, .int 0, .int 0, .int 0, .int 0]))]) B Y 0 rfl (Nat.le_of_ble_eq_true rfl) rfl dX3_init_36 (fun H locs Y => ?_)
  refine lv_aload_n B.1 B.2.1 dX3_init_39 rfl (lv_at hl 0 rfl) ?_
  refine lv_iconst (v := 0) B.1 B.2.1 dX3_init_40 (by decide) ?_
  refine pf_X3_31 (ws' := [(h0, .inr (3, [.int 0, .int 0, .int 0, .int 0, .int 0, .int 0, .int 0, .int 0]))]) B Y 0 rfl (Nat.le_of_ble_eq_true rfl) rfl dX3_init_41 (fun H locs Y => ?_)
  exact endV B hr hlk Y () trivial [0] (by decide) rfl (Nat.le_of_ble_eq_true rfl) (Nat.le_of_ble_eq_true rfl) dX3_init_44

set_option maxHeartbeats 4000000 in
set_option maxRecDepth 100000 in
theorem k_X1_init (l : Launch) (D : va_G) (τ : Nat → ClassId) (sz : Nat) (h0 : Nat) : Met l yX1_init (Cond.code yX1_init cX1_init 1 none :: wALL) { frames := 1, cells := 0, slots := 0, locals := 20 } (Pw D τ [(h0, .inr (1, [.int 0, .int 0, .int 0, .int 0, .int 0, .int 0, .int 0, .int 0]))] sz [.ref h0]) (va_Qv (fun (_ : Unit) => True) (Bw D (va_A [(h0, .inr (1, [.int 0, .int 0, .int 0, .int 0, .int 0, .int 0, .int 0, .int 0]))] sz) (fun (_ : Unit) => [(h0, .inr (1, [.int 0, .int 0, .int 0, .int 0, .int 0, .int 0, .int (-1), .int 0]))])) (va_A [(h0, .inr (1, [.int 0, .int 0, .int 0, .int 0, .int 0, .int 0, .int 0, .int 0]))] sz)) 0 0 (va_A [(h0, .inr (1, [.int 0, .int 0, .int 0, .int 0, .int 0, .int 0, .int 0, .int 0]))] sz) := by
  refine bodyW (by decide) (Nat.le_of_ble_eq_true rfl) (fun p e s m below meth c ls B hr hlk hin hsz Y hl => ?_)
  have hl : lv_has ls 1 [(0, .ref h0)] := hl
  have B : CallFix p m c cX1_init 1 s _ wALL RX1 := B
  generalize va_A [(h0, .inr (1, [.int 0, .int 0, .int 0, .int 0, .int 0, .int 0, .int 0, .int 0]))] sz = A at Y ⊢
  refine lv_aload_n B.1 B.2.1 dX1_init_0 rfl (lv_at hl 0 rfl) ?_
  refine t_objInit B q_304 q_31 q_32 hl.1 (Nat.le_of_ble_eq_true rfl) dX1_init_1 (Nat.le_of_ble_eq_true rfl) (Nat.le_of_ble_eq_true rfl) ?_
  refine lv_aload_n B.1 B.2.1 dX1_init_4 rfl (lv_at hl 0 rfl) ?_
  refine lv_iconst (v := 0) B.1 B.2.1 dX1_init_5 (by decide) ?_
  refine pf_X1_9 (ws' := [(h0, .inr (1, [.int 0, .int 0, .int 0, .int 0, .int 0, .int 0, .int 0, .int 0]))]) B Y 0 rfl (Nat.le_of_ble_eq_true rfl) rfl dX1_init_6 (fun H locs Y => ?_)
  refine lv_aload_n B.1 B.2.1 dX1_init_9 rfl (lv_at hl 0 rfl) ?_
  refine lv_iconst (v := 0) B.1 B.2.1 dX1_init_10 (by decide) ?_
  refine pf_X1_15 (ws' := [(h0, .inr (1, [.int 0, .int 0, .int 0, .int 0, .int 0, .int 0, .int 0, .int 0]))]) B Y 0 rfl (Nat.le_of_ble_eq_true rfl) rfl dX1_init_11 (fun H locs Y => ?_)
  refine lv_aload_n B.1 B.2.1 dX1_init_14 rfl (lv_at hl 0 rfl) ?_
  refine lv_iconst (v := 0) B.1 B.2.1 dX1_init_15 (by decide) ?_
  refine pf_X1_18 (ws' := [(h0, .inr (1, [.int 0, .int 0, .int 0, .int 0, .int 0, .int 0, .int 0, .int 0]))]) B Y (by decide) (by decide) 0 rfl (Nat.le_of_ble_eq_true rfl) rfl dX1_init_16 (fun H locs Y => ?_)
  refine lv_aload_n B.1 B.2.1 dX1_init_19 rfl (lv_at hl 0 rfl) ?_
  refine lv_iconst (v := 0) B.1 B.2.1 dX1_init_20 (by decide) ?_
  refine pf_X1_22 (ws' := [(h0, .inr (1, [.int 0, .int 0, .int 0, .int 0, .int 0, .int 0, .int 0, .int 0]))]) B Y 0 rfl (Nat.le_of_ble_eq_true rfl) rfl dX1_init_21 (fun H locs Y => ?_)
  refine lv_aload_n B.1 B.2.1 dX1_init_24 rfl (lv_at hl 0 rfl) ?_
  refine lv_iconst (v := 0) B.1 B.2.1 dX1_init_25 (by decide) ?_
  refine pf_X1_25 (ws' := [(h0, .inr (1, [.int 0, .int 0, .int 0, .int 0, .int 0, .int 0, .int 0, .int 0]))]) B Y 0 rfl (Nat.le_of_ble_eq_true rfl) rfl dX1_init_26 (fun H locs Y => ?_)
  refine lv_aload_n B.1 B.2.1 dX1_init_29 rfl (lv_at hl 0 rfl) ?_
  refine lv_iconst (v := 0) B.1 B.2.1 dX1_init_30 (by decide) ?_
  refine pf_X1_28 (ws' := [(h0, .inr (1, [.int 0, .int 0, .int 0, .int 0, .int 0, .int 0, .int 0, .int 0]))]) B Y 0 rfl (Nat.le_of_ble_eq_true rfl) rfl dX1_init_31 (fun H locs Y => ?_)
  refine lv_aload_n B.1 B.2.1 dX1_init_34 rfl (lv_at hl 0 rfl) ?_
  refine lv_iconst (v := (-1)) B.1 B.2.1 dX1_init_35 (by decide) ?_
  refine pf_X1_31 (ws' := [(h0, .inr (1, [.int 0, .int 0, .int 0, .int 0, .int 0, .int 0, .int (-1), .int 0]))]) B Y 0 rfl (Nat.le_of_ble_eq_true rfl) rfl dX1_init_36 (fun H locs Y => ?_)
  refine lv_aload_n B.1 B.2.1 dX1_init_39 rfl (lv_at hl 0 rfl) ?_
  refine lv_iconst (v := 0) B.1 B.2.1 dX1_init_40 (by decide) ?_
  refine pf_X1_34 (ws' := [(h0, .inr (1, [.int 0, .int 0, .int 0, .int 0, .int 0, .int 0, .int (-1), .int 0]))]) B Y 0 rfl (Nat.le_of_ble_eq_true rfl) rfl dX1_init_41 (fun H locs Y => ?_)
  exact endV B hr hlk Y () trivial [0] (by decide) rfl (Nat.le_of_ble_eq_true rfl) (Nat.le_of_ble_eq_true rfl) dX1_init_44

set_option maxHeartbeats 4000000 in
set_option maxRecDepth 100000 in
theorem k_X2_init (l : Launch) (D : va_G) (τ : Nat → ClassId) (sz : Nat) (h0 : Nat) : Met l yX2_init (Cond.code yX2_init cX2_init 1 none :: wALL) { frames := 1, cells := 1, slots := 0, locals := 20 } (Pw D τ [(h0, .inr (2, [.int 0, .int 0, .int 0, .int 0, .int 0, .int 0, .int 0, .null]))] sz [.ref h0]) (va_Qv (fun (q : Nat) => True) (Bw D (va_A [(h0, .inr (2, [.int 0, .int 0, .int 0, .int 0, .int 0, .int 0, .int 0, .null]))] sz) (fun (q : Nat) => [(h0, .inr (2, [.int (-1), .int 0, .int (-1), .int 0, .int 0, .int 0, .int 0, .ref q])), (q, .inl (τ 0, 0, .inl (fun _ => 0)))])) (va_A [(h0, .inr (2, [.int 0, .int 0, .int 0, .int 0, .int 0, .int 0, .int 0, .null]))] sz)) 1 0 (va_A [(h0, .inr (2, [.int 0, .int 0, .int 0, .int 0, .int 0, .int 0, .int 0, .null]))] sz) := by
  refine bodyW (by decide) (Nat.le_of_ble_eq_true rfl) (fun p e s m below meth c ls B hr hlk hin hsz Y hl => ?_)
  have hl : lv_has ls 1 [(0, .ref h0)] := hl
  have B : CallFix p m c cX2_init 1 s _ wALL RX2 := B
  generalize va_A [(h0, .inr (2, [.int 0, .int 0, .int 0, .int 0, .int 0, .int 0, .int 0, .null]))] sz = A at Y ⊢
  refine lv_aload_n B.1 B.2.1 dX2_init_0 rfl (lv_at hl 0 rfl) ?_
  refine t_objInit B q_347 q_31 q_32 hl.1 (Nat.le_of_ble_eq_true rfl) dX2_init_1 (Nat.le_of_ble_eq_true rfl) (Nat.le_of_ble_eq_true rfl) ?_
  refine lv_aload_n B.1 B.2.1 dX2_init_4 rfl (lv_at hl 0 rfl) ?_
  refine lv_iconst (v := (-1)) B.1 B.2.1 dX2_init_5 (by decide) ?_
  refine pf_X2_11 (ws' := [(h0, .inr (2, [.int (-1), .int 0, .int 0, .int 0, .int 0, .int 0, .int 0, .null]))]) B Y 0 rfl (Nat.le_of_ble_eq_true rfl) rfl dX2_init_6 (fun H locs Y => ?_)
  refine lv_aload_n B.1 B.2.1 dX2_init_9 rfl (lv_at hl 0 rfl) ?_
  refine lv_iconst (v := 0) B.1 B.2.1 dX2_init_10 (by decide) ?_
  refine pf_X2_15 (ws' := [(h0, .inr (2, [.int (-1), .int 0, .int 0, .int 0, .int 0, .int 0, .int 0, .null]))]) B Y 0 rfl (Nat.le_of_ble_eq_true rfl) rfl dX2_init_11 (fun H locs Y => ?_)
  refine lv_aload_n B.1 B.2.1 dX2_init_14 rfl (lv_at hl 0 rfl) ?_
  refine lv_iconst (v := (-1)) B.1 B.2.1 dX2_init_15 (by decide) ?_
  refine pf_X2_18 (ws' := [(h0, .inr (2, [.int (-1), .int 0, .int (-1), .int 0, .int 0, .int 0, .int 0, .null]))]) B Y 0 rfl (Nat.le_of_ble_eq_true rfl) rfl dX2_init_16 (fun H locs Y => ?_)
  refine lv_aload_n B.1 B.2.1 dX2_init_19 rfl (lv_at hl 0 rfl) ?_
  refine lv_iconst (v := 0) B.1 B.2.1 dX2_init_20 (by decide) ?_
  refine pf_X2_21 (ws' := [(h0, .inr (2, [.int (-1), .int 0, .int (-1), .int 0, .int 0, .int 0, .int 0, .null]))]) B Y 0 rfl (Nat.le_of_ble_eq_true rfl) rfl dX2_init_21 (fun H locs Y => ?_)
  refine lv_aload_n B.1 B.2.1 dX2_init_24 rfl (lv_at hl 0 rfl) ?_
  refine lv_iconst (v := 0) B.1 B.2.1 dX2_init_25 (by decide) ?_
  refine pf_X2_24 (ws' := [(h0, .inr (2, [.int (-1), .int 0, .int (-1), .int 0, .int 0, .int 0, .int 0, .null]))]) B Y 0 rfl (Nat.le_of_ble_eq_true rfl) rfl dX2_init_26 (fun H locs Y => ?_)
  refine lv_aload_n B.1 B.2.1 dX2_init_29 rfl (lv_at hl 0 rfl) ?_
  refine lv_iconst (v := 0) B.1 B.2.1 dX2_init_30 (by decide) ?_
  refine pf_X2_27 (ws' := [(h0, .inr (2, [.int (-1), .int 0, .int (-1), .int 0, .int 0, .int 0, .int 0, .null]))]) B Y 0 rfl (Nat.le_of_ble_eq_true rfl) rfl dX2_init_31 (fun H locs Y => ?_)
  refine lv_aload_n B.1 B.2.1 dX2_init_34 rfl (lv_at hl 0 rfl) ?_
  refine lv_iconst (v := 0) B.1 B.2.1 dX2_init_35 (by decide) ?_
  refine pf_X2_30 (ws' := [(h0, .inr (2, [.int (-1), .int 0, .int (-1), .int 0, .int 0, .int 0, .int 0, .null]))]) B Y 0 rfl (Nat.le_of_ble_eq_true rfl) rfl dX2_init_36 (fun H locs Y => ?_)
  refine lv_aload_n B.1 B.2.1 dX2_init_39 rfl (lv_at hl 0 rfl) ?_
  refine lv_iconst (v := 0) B.1 B.2.1 dX2_init_40 (by decide) ?_
  refine t_newi (N' := 0) B Y q_78 (by decide) (by decide) (Nat.le_of_ble_eq_true rfl) (Nat.le_of_ble_eq_true rfl) (Nat.le_of_ble_eq_true rfl) dX2_init_41 (fun a1 H Y => ?_)
  have Y : Wd D τ s A s.heap [(h0, .inr (2, [.int (-1), .int 0, .int (-1), .int 0, .int 0, .int 0, .int 0, .null])), (a1, .inl (τ 0, 0, .inl (fun _ => 0)))] H _ := Y
  refine W.widen (k := 1) (n := 0) (Nat.le_of_ble_eq_true rfl) (Nat.le_of_ble_eq_true rfl) ?_
  refine pf_X2_33 (ws' := [(h0, .inr (2, [.int (-1), .int 0, .int (-1), .int 0, .int 0, .int 0, .int 0, .ref a1])), (a1, .inl (τ 0, 0, .inl (fun _ => 0)))]) B Y rfl rfl 0 rfl (Nat.le_of_ble_eq_true rfl) rfl dX2_init_43 (fun H locs Y => ?_)
  exact endV B hr hlk Y a1 trivial [0, 1] (by decide) rfl (Nat.le_of_ble_eq_true rfl) (Nat.le_of_ble_eq_true rfl) dX2_init_46

set_option maxHeartbeats 4000000 in
set_option maxRecDepth 100000 in
theorem k_X4_init (l : Launch) (D : va_G) (τ : Nat → ClassId) (sz : Nat) (h0 : Nat) : Met l yX4_init (Cond.code yX4_init cX4_init 1 none :: wALL) { frames := 1, cells := 3, slots := 48, locals := 20 } (Pw D τ [(h0, .inr (4, [.null, .null, .null, .int 0, .int 0]))] sz [.ref h0]) (va_Qv (fun (q : Nat × Nat × Nat) => True) (Bw D (va_A [(h0, .inr (4, [.null, .null, .null, .int 0, .int 0]))] sz) (fun (q : Nat × Nat × Nat) => [(h0, .inr (4, [.ref q.1, .ref q.2.1, .ref q.2.2, .int 0, .int 1000000])), (q.1, .inl (τ 0, 16, .inl (fun _ => 0))), (q.2.1, .inl (τ 0, 16, .inl (fun _ => 0))), (q.2.2, .inl (τ 0, 16, .inl (fun _ => 0)))])) (va_A [(h0, .inr (4, [.null, .null, .null, .int 0, .int 0]))] sz)) 3 48 (va_A [(h0, .inr (4, [.null, .null, .null, .int 0, .int 0]))] sz) := by
  refine bodyW (by decide) (Nat.le_of_ble_eq_true rfl) (fun p e s m below meth c ls B hr hlk hin hsz Y hl => ?_)
  have hl : lv_has ls 1 [(0, .ref h0)] := hl
  have B : CallFix p m c cX4_init 1 s _ wALL RX4 := B
  generalize va_A [(h0, .inr (4, [.null, .null, .null, .int 0, .int 0]))] sz = A at Y ⊢
  refine lv_aload_n B.1 B.2.1 dX4_init_0 rfl (lv_at hl 0 rfl) ?_
  refine t_objInit B q_170 q_31 q_32 hl.1 (Nat.le_of_ble_eq_true rfl) dX4_init_1 (Nat.le_of_ble_eq_true rfl) (Nat.le_of_ble_eq_true rfl) ?_
  refine lv_aload_n B.1 B.2.1 dX4_init_4 rfl (lv_at hl 0 rfl) ?_
  refine lv_bipush (v := 16) B.1 B.2.1 dX4_init_5 (by decide) ?_
  refine t_newi (N' := 16) B Y q_78 (by decide) (by decide) (Nat.le_of_ble_eq_true rfl) (Nat.le_of_ble_eq_true rfl) (Nat.le_of_ble_eq_true rfl) dX4_init_7 (fun a1 H Y => ?_)
  have Y : Wd D τ s A s.heap [(h0, .inr (4, [.null, .null, .null, .int 0, .int 0])), (a1, .inl (τ 0, 16, .inl (fun _ => 0)))] H _ := Y
  refine W.widen (k := 1) (n := 16) (Nat.le_of_ble_eq_true rfl) (Nat.le_of_ble_eq_true rfl) ?_
  refine pf_X4_9 (ws' := [(h0, .inr (4, [.ref a1, .null, .null, .int 0, .int 0])), (a1, .inl (τ 0, 16, .inl (fun _ => 0)))]) B Y rfl rfl 0 rfl (Nat.le_of_ble_eq_true rfl) rfl dX4_init_9 (fun H locs Y => ?_)
  refine lv_aload_n B.1 B.2.1 dX4_init_12 rfl (lv_at hl 0 rfl) ?_
  refine lv_bipush (v := 16) B.1 B.2.1 dX4_init_13 (by decide) ?_
  refine t_newi (N' := 16) B Y q_78 (by decide) (by decide) (Nat.le_of_ble_eq_true rfl) (Nat.le_of_ble_eq_true rfl) (Nat.le_of_ble_eq_true rfl) dX4_init_15 (fun a2 H Y => ?_)
  have Y : Wd D τ s A s.heap [(h0, .inr (4, [.ref a1, .null, .null, .int 0, .int 0])), (a1, .inl (τ 0, 16, .inl (fun _ => 0))), (a2, .inl (τ 0, 16, .inl (fun _ => 0)))] H _ := Y
  refine W.widen (k := 2) (n := 32) (Nat.le_of_ble_eq_true rfl) (Nat.le_of_ble_eq_true rfl) ?_
  refine pf_X4_15 (ws' := [(h0, .inr (4, [.ref a1, .ref a2, .null, .int 0, .int 0])), (a1, .inl (τ 0, 16, .inl (fun _ => 0))), (a2, .inl (τ 0, 16, .inl (fun _ => 0)))]) B Y rfl rfl 0 rfl (Nat.le_of_ble_eq_true rfl) rfl dX4_init_17 (fun H locs Y => ?_)
  refine lv_aload_n B.1 B.2.1 dX4_init_20 rfl (lv_at hl 0 rfl) ?_
  refine lv_bipush (v := 16) B.1 B.2.1 dX4_init_21 (by decide) ?_
  refine t_newi (N' := 16) B Y q_78 (by decide) (by decide) (Nat.le_of_ble_eq_true rfl) (Nat.le_of_ble_eq_true rfl) (Nat.le_of_ble_eq_true rfl) dX4_init_23 (fun a3 H Y => ?_)
  have Y : Wd D τ s A s.heap [(h0, .inr (4, [.ref a1, .ref a2, .null, .int 0, .int 0])), (a1, .inl (τ 0, 16, .inl (fun _ => 0))), (a2, .inl (τ 0, 16, .inl (fun _ => 0))), (a3, .inl (τ 0, 16, .inl (fun _ => 0)))] H _ := Y
  refine W.widen (k := 3) (n := 48) (Nat.le_of_ble_eq_true rfl) (Nat.le_of_ble_eq_true rfl) ?_
  refine pf_X4_18 (ws' := [(h0, .inr (4, [.ref a1, .ref a2, .ref a3, .int 0, .int 0])), (a1, .inl (τ 0, 16, .inl (fun _ => 0))), (a2, .inl (τ 0, 16, .inl (fun _ => 0))), (a3, .inl (τ 0, 16, .inl (fun _ => 0)))]) B Y rfl rfl 0 rfl (Nat.le_of_ble_eq_true rfl) rfl dX4_init_25 (fun H locs Y => ?_)
  refine lv_aload_n B.1 B.2.1 dX4_init_28 rfl (lv_at hl 0 rfl) ?_
  refine lv_iconst (v := 0) B.1 B.2.1 dX4_init_29 (by decide) ?_
  refine pf_X4_21 (ws' := [(h0, .inr (4, [.ref a1, .ref a2, .ref a3, .int 0, .int 0])), (a1, .inl (τ 0, 16, .inl (fun _ => 0))), (a2, .inl (τ 0, 16, .inl (fun _ => 0))), (a3, .inl (τ 0, 16, .inl (fun _ => 0)))]) B Y 0 rfl (Nat.le_of_ble_eq_true rfl) rfl dX4_init_30 (fun H locs Y => ?_)
  refine lv_aload_n B.1 B.2.1 dX4_init_33 rfl (lv_at hl 0 rfl) ?_
  refine lv_ldc B.1 B.2.1 B.2.2.2.1 (B.2.2.2.2 _ q_171) dX4_init_34 ?_
  refine pf_X4_26 (ws' := [(h0, .inr (4, [.ref a1, .ref a2, .ref a3, .int 0, .int 1000000])), (a1, .inl (τ 0, 16, .inl (fun _ => 0))), (a2, .inl (τ 0, 16, .inl (fun _ => 0))), (a3, .inl (τ 0, 16, .inl (fun _ => 0)))]) B Y 0 rfl (Nat.le_of_ble_eq_true rfl) rfl dX4_init_36 (fun H locs Y => ?_)
  exact endV B hr hlk Y (a1, a2, a3) trivial [0, 1, 2, 3] (by decide) rfl (Nat.le_of_ble_eq_true rfl) (Nat.le_of_ble_eq_true rfl) dX4_init_39
