set_option maxHeartbeats 4000000 in
set_option maxRecDepth 100000 in
theorem k_putSign0 (l : Launch) (D : va_G) (τ : Nat → ClassId) (sz : Nat) (tx to : Nat) (f : Nat → Int32) (v : Int32) : Met l yX8_putSign (Cond.code yX8_putSign cX8_putSign 2 none :: wALL) { frames := 0, cells := 0, slots := 0, locals := 0 } (Pw D τ [(tx, .inr (8, [.ref to, .int 0])), (to, .inl (τ 1, 2048, .inl (f)))] sz [.ref tx, .int v]) (va_Qv (fun (u : Nat → Int32) => True) (Bw D (va_A [(tx, .inr (8, [.ref to, .int 0])), (to, .inl (τ 1, 2048, .inl (f)))] sz) (fun (u : Nat → Int32) => [(tx, .inr (8, [.ref to, .int 1])), (to, .inl (τ 1, 2048, .inl (u)))])) (va_A [(tx, .inr (8, [.ref to, .int 0])), (to, .inl (τ 1, 2048, .inl (f)))] sz)) 0 0 (va_A [(tx, .inr (8, [.ref to, .int 0])), (to, .inl (τ 1, 2048, .inl (f)))] sz) := by
  refine bodyW (by decide) (Nat.le_of_ble_eq_true rfl) (fun p e s m below meth c ls B hr hlk hin hsz Y hl => ?_)
  have hl : lv_has ls 2 [(0, .ref tx), (1, .int v)] := hl
  have B : CallFix p m c cX8_putSign 2 s _ wALL RX8 := B
  generalize va_A [(tx, .inr (8, [.ref to, .int 0])), (to, .inl (τ 1, 2048, .inl (f)))] sz = A at Y ⊢
  refine lv_aload_n B.1 B.2.1 dX8_putSign_0 rfl (lv_at hl 0 rfl) ?_
  refine gf_X8_15 B Y 0 rfl rfl dX8_putSign_1 ?_
  refine lv_if_lt (tgt := 38) B.1 B.2.1 dX8_putSign_4 (by decide) (fun h => absurd h (by decide)) (fun _ => ?_)
  refine lv_aload_n B.1 B.2.1 dX8_putSign_7 rfl (lv_at hl 0 rfl) ?_
  refine gf_X8_15 B Y 0 rfl rfl dX8_putSign_8 ?_
  refine lv_sipush (v := 2048) B.1 B.2.1 dX8_putSign_11 (by decide) ?_
  refine lv_icmp_ge (tgt := 38) B.1 B.2.1 dX8_putSign_14 (by decide) (fun h => absurd h (by decide)) (fun _ => ?_)
  refine lv_aload_n B.1 B.2.1 dX8_putSign_17 rfl (lv_at hl 0 rfl) ?_
  refine gf_X8_11 B Y 0 rfl rfl dX8_putSign_18 ?_
  refine lv_aload_n B.1 B.2.1 dX8_putSign_21 rfl (lv_at hl 0 rfl) ?_
  refine gf_X8_15 B Y 0 rfl rfl dX8_putSign_22 ?_
  refine lv_iload_n B.1 B.2.1 dX8_putSign_25 rfl (lv_at hl 1 rfl) ?_
  refine lv_i2b B.1 B.2.1 dX8_putSign_26 rfl ?_
  refine lv_topi (fun z1 ez1 => ?_)
  refine t_bast (j := 0) (g := upd (f) 0 (vp_nar .byte z1)) (ws' := [(tx, .inr (8, [.ref to, .int 0])), (to, .inl (τ 1, 2048, .inl (upd (f) 0 (vp_nar .byte z1))))]) B Y 1 rfl (by decide) (by decide) (Nat.le_of_ble_eq_true rfl) rfl rfl dX8_putSign_27 (fun H locs Y => ?_)
  refine lv_aload_n B.1 B.2.1 dX8_putSign_28 rfl (lv_at hl 0 rfl) ?_
  refine lv_dup B.1 B.2.1 dX8_putSign_29 rfl ?_
  refine gf_X8_15 B Y 0 rfl rfl dX8_putSign_30 ?_
  refine lv_iconst (v := 1) B.1 B.2.1 dX8_putSign_33 (by decide) ?_
  refine lv_iadd B.1 B.2.1 dX8_putSign_34 ?_
  refine lv_cv (v := 1) (by decide) ?_
  refine pf_X8_15 (ws' := [(tx, .inr (8, [.ref to, .int 1])), (to, .inl (τ 1, 2048, .inl (upd (f) 0 (vp_nar .byte z1))))]) B Y 0 rfl (Nat.le_of_ble_eq_true rfl) rfl dX8_putSign_35 (fun H locs Y => ?_)
  exact endV B hr hlk Y (upd (f) 0 (vp_nar .byte z1)) trivial [0, 1] (by decide) rfl (Nat.le_of_ble_eq_true rfl) (Nat.le_of_ble_eq_true rfl) dX8_putSign_38

set_option maxHeartbeats 4000000 in
set_option maxRecDepth 100000 in
theorem k_putSign1 (l : Launch) (D : va_G) (τ : Nat → ClassId) (sz : Nat) (tx to : Nat) (f : Nat → Int32) (v : Int32) : Met l yX8_putSign (Cond.code yX8_putSign cX8_putSign 2 none :: wALL) { frames := 0, cells := 0, slots := 0, locals := 0 } (Pw D τ [(tx, .inr (8, [.ref to, .int 1])), (to, .inl (τ 1, 2048, .inl (f)))] sz [.ref tx, .int v]) (va_Qv (fun (u : Nat → Int32) => True) (Bw D (va_A [(tx, .inr (8, [.ref to, .int 1])), (to, .inl (τ 1, 2048, .inl (f)))] sz) (fun (u : Nat → Int32) => [(tx, .inr (8, [.ref to, .int 2])), (to, .inl (τ 1, 2048, .inl (u)))])) (va_A [(tx, .inr (8, [.ref to, .int 1])), (to, .inl (τ 1, 2048, .inl (f)))] sz)) 0 0 (va_A [(tx, .inr (8, [.ref to, .int 1])), (to, .inl (τ 1, 2048, .inl (f)))] sz) := by
  refine bodyW (by decide) (Nat.le_of_ble_eq_true rfl) (fun p e s m below meth c ls B hr hlk hin hsz Y hl => ?_)
  have hl : lv_has ls 2 [(0, .ref tx), (1, .int v)] := hl
  have B : CallFix p m c cX8_putSign 2 s _ wALL RX8 := B
  generalize va_A [(tx, .inr (8, [.ref to, .int 1])), (to, .inl (τ 1, 2048, .inl (f)))] sz = A at Y ⊢
  refine lv_aload_n B.1 B.2.1 dX8_putSign_0 rfl (lv_at hl 0 rfl) ?_
  refine gf_X8_15 B Y 0 rfl rfl dX8_putSign_1 ?_
  refine lv_if_lt (tgt := 38) B.1 B.2.1 dX8_putSign_4 (by decide) (fun h => absurd h (by decide)) (fun _ => ?_)
  refine lv_aload_n B.1 B.2.1 dX8_putSign_7 rfl (lv_at hl 0 rfl) ?_
  refine gf_X8_15 B Y 0 rfl rfl dX8_putSign_8 ?_
  refine lv_sipush (v := 2048) B.1 B.2.1 dX8_putSign_11 (by decide) ?_
  refine lv_icmp_ge (tgt := 38) B.1 B.2.1 dX8_putSign_14 (by decide) (fun h => absurd h (by decide)) (fun _ => ?_)
  refine lv_aload_n B.1 B.2.1 dX8_putSign_17 rfl (lv_at hl 0 rfl) ?_
  refine gf_X8_11 B Y 0 rfl rfl dX8_putSign_18 ?_
  refine lv_aload_n B.1 B.2.1 dX8_putSign_21 rfl (lv_at hl 0 rfl) ?_
  refine gf_X8_15 B Y 0 rfl rfl dX8_putSign_22 ?_
  refine lv_iload_n B.1 B.2.1 dX8_putSign_25 rfl (lv_at hl 1 rfl) ?_
  refine lv_i2b B.1 B.2.1 dX8_putSign_26 rfl ?_
  refine lv_topi (fun z1 ez1 => ?_)
  refine t_bast (j := 1) (g := upd (f) 1 (vp_nar .byte z1)) (ws' := [(tx, .inr (8, [.ref to, .int 1])), (to, .inl (τ 1, 2048, .inl (upd (f) 1 (vp_nar .byte z1))))]) B Y 1 rfl (by decide) (by decide) (Nat.le_of_ble_eq_true rfl) rfl rfl dX8_putSign_27 (fun H locs Y => ?_)
  refine lv_aload_n B.1 B.2.1 dX8_putSign_28 rfl (lv_at hl 0 rfl) ?_
  refine lv_dup B.1 B.2.1 dX8_putSign_29 rfl ?_
  refine gf_X8_15 B Y 0 rfl rfl dX8_putSign_30 ?_
  refine lv_iconst (v := 1) B.1 B.2.1 dX8_putSign_33 (by decide) ?_
  refine lv_iadd B.1 B.2.1 dX8_putSign_34 ?_
  refine lv_cv (v := 2) (by decide) ?_
  refine pf_X8_15 (ws' := [(tx, .inr (8, [.ref to, .int 2])), (to, .inl (τ 1, 2048, .inl (upd (f) 1 (vp_nar .byte z1))))]) B Y 0 rfl (Nat.le_of_ble_eq_true rfl) rfl dX8_putSign_35 (fun H locs Y => ?_)
  exact endV B hr hlk Y (upd (f) 1 (vp_nar .byte z1)) trivial [0, 1] (by decide) rfl (Nat.le_of_ble_eq_true rfl) (Nat.le_of_ble_eq_true rfl) dX8_putSign_38

set_option maxHeartbeats 4000000 in
set_option maxRecDepth 100000 in
theorem k_putSign2 (l : Launch) (D : va_G) (τ : Nat → ClassId) (sz : Nat) (tx to : Nat) (f : Nat → Int32) (v : Int32) : Met l yX8_putSign (Cond.code yX8_putSign cX8_putSign 2 none :: wALL) { frames := 0, cells := 0, slots := 0, locals := 0 } (Pw D τ [(tx, .inr (8, [.ref to, .int 2])), (to, .inl (τ 1, 2048, .inl (f)))] sz [.ref tx, .int v]) (va_Qv (fun (u : Nat → Int32) => True) (Bw D (va_A [(tx, .inr (8, [.ref to, .int 2])), (to, .inl (τ 1, 2048, .inl (f)))] sz) (fun (u : Nat → Int32) => [(tx, .inr (8, [.ref to, .int 3])), (to, .inl (τ 1, 2048, .inl (u)))])) (va_A [(tx, .inr (8, [.ref to, .int 2])), (to, .inl (τ 1, 2048, .inl (f)))] sz)) 0 0 (va_A [(tx, .inr (8, [.ref to, .int 2])), (to, .inl (τ 1, 2048, .inl (f)))] sz) := by
  refine bodyW (by decide) (Nat.le_of_ble_eq_true rfl) (fun p e s m below meth c ls B hr hlk hin hsz Y hl => ?_)
  have hl : lv_has ls 2 [(0, .ref tx), (1, .int v)] := hl
  have B : CallFix p m c cX8_putSign 2 s _ wALL RX8 := B
  generalize va_A [(tx, .inr (8, [.ref to, .int 2])), (to, .inl (τ 1, 2048, .inl (f)))] sz = A at Y ⊢
  refine lv_aload_n B.1 B.2.1 dX8_putSign_0 rfl (lv_at hl 0 rfl) ?_
  refine gf_X8_15 B Y 0 rfl rfl dX8_putSign_1 ?_
  refine lv_if_lt (tgt := 38) B.1 B.2.1 dX8_putSign_4 (by decide) (fun h => absurd h (by decide)) (fun _ => ?_)
  refine lv_aload_n B.1 B.2.1 dX8_putSign_7 rfl (lv_at hl 0 rfl) ?_
  refine gf_X8_15 B Y 0 rfl rfl dX8_putSign_8 ?_
  refine lv_sipush (v := 2048) B.1 B.2.1 dX8_putSign_11 (by decide) ?_
  refine lv_icmp_ge (tgt := 38) B.1 B.2.1 dX8_putSign_14 (by decide) (fun h => absurd h (by decide)) (fun _ => ?_)
  refine lv_aload_n B.1 B.2.1 dX8_putSign_17 rfl (lv_at hl 0 rfl) ?_
  refine gf_X8_11 B Y 0 rfl rfl dX8_putSign_18 ?_
  refine lv_aload_n B.1 B.2.1 dX8_putSign_21 rfl (lv_at hl 0 rfl) ?_
  refine gf_X8_15 B Y 0 rfl rfl dX8_putSign_22 ?_
  refine lv_iload_n B.1 B.2.1 dX8_putSign_25 rfl (lv_at hl 1 rfl) ?_
  refine lv_i2b B.1 B.2.1 dX8_putSign_26 rfl ?_
  refine lv_topi (fun z1 ez1 => ?_)
  refine t_bast (j := 2) (g := upd (f) 2 (vp_nar .byte z1)) (ws' := [(tx, .inr (8, [.ref to, .int 2])), (to, .inl (τ 1, 2048, .inl (upd (f) 2 (vp_nar .byte z1))))]) B Y 1 rfl (by decide) (by decide) (Nat.le_of_ble_eq_true rfl) rfl rfl dX8_putSign_27 (fun H locs Y => ?_)
  refine lv_aload_n B.1 B.2.1 dX8_putSign_28 rfl (lv_at hl 0 rfl) ?_
  refine lv_dup B.1 B.2.1 dX8_putSign_29 rfl ?_
  refine gf_X8_15 B Y 0 rfl rfl dX8_putSign_30 ?_
  refine lv_iconst (v := 1) B.1 B.2.1 dX8_putSign_33 (by decide) ?_
  refine lv_iadd B.1 B.2.1 dX8_putSign_34 ?_
  refine lv_cv (v := 3) (by decide) ?_
  refine pf_X8_15 (ws' := [(tx, .inr (8, [.ref to, .int 3])), (to, .inl (τ 1, 2048, .inl (upd (f) 2 (vp_nar .byte z1))))]) B Y 0 rfl (Nat.le_of_ble_eq_true rfl) rfl dX8_putSign_35 (fun H locs Y => ?_)
  exact endV B hr hlk Y (upd (f) 2 (vp_nar .byte z1)) trivial [0, 1] (by decide) rfl (Nat.le_of_ble_eq_true rfl) (Nat.le_of_ble_eq_true rfl) dX8_putSign_38

set_option maxHeartbeats 4000000 in
set_option maxRecDepth 100000 in
theorem k_putSign3 (l : Launch) (D : va_G) (τ : Nat → ClassId) (sz : Nat) (tx to : Nat) (f : Nat → Int32) (v : Int32) : Met l yX8_putSign (Cond.code yX8_putSign cX8_putSign 2 none :: wALL) { frames := 0, cells := 0, slots := 0, locals := 0 } (Pw D τ [(tx, .inr (8, [.ref to, .int 3])), (to, .inl (τ 1, 2048, .inl (f)))] sz [.ref tx, .int v]) (va_Qv (fun (u : Nat → Int32) => True) (Bw D (va_A [(tx, .inr (8, [.ref to, .int 3])), (to, .inl (τ 1, 2048, .inl (f)))] sz) (fun (u : Nat → Int32) => [(tx, .inr (8, [.ref to, .int 4])), (to, .inl (τ 1, 2048, .inl (u)))])) (va_A [(tx, .inr (8, [.ref to, .int 3])), (to, .inl (τ 1, 2048, .inl (f)))] sz)) 0 0 (va_A [(tx, .inr (8, [.ref to, .int 3])), (to, .inl (τ 1, 2048, .inl (f)))] sz) := by
  refine bodyW (by decide) (Nat.le_of_ble_eq_true rfl) (fun p e s m below meth c ls B hr hlk hin hsz Y hl => ?_)
  have hl : lv_has ls 2 [(0, .ref tx), (1, .int v)] := hl
  have B : CallFix p m c cX8_putSign 2 s _ wALL RX8 := B
  generalize va_A [(tx, .inr (8, [.ref to, .int 3])), (to, .inl (τ 1, 2048, .inl (f)))] sz = A at Y ⊢
  refine lv_aload_n B.1 B.2.1 dX8_putSign_0 rfl (lv_at hl 0 rfl) ?_
  refine gf_X8_15 B Y 0 rfl rfl dX8_putSign_1 ?_
  refine lv_if_lt (tgt := 38) B.1 B.2.1 dX8_putSign_4 (by decide) (fun h => absurd h (by decide)) (fun _ => ?_)
  refine lv_aload_n B.1 B.2.1 dX8_putSign_7 rfl (lv_at hl 0 rfl) ?_
  refine gf_X8_15 B Y 0 rfl rfl dX8_putSign_8 ?_
  refine lv_sipush (v := 2048) B.1 B.2.1 dX8_putSign_11 (by decide) ?_
  refine lv_icmp_ge (tgt := 38) B.1 B.2.1 dX8_putSign_14 (by decide) (fun h => absurd h (by decide)) (fun _ => ?_)
  refine lv_aload_n B.1 B.2.1 dX8_putSign_17 rfl (lv_at hl 0 rfl) ?_
  refine gf_X8_11 B Y 0 rfl rfl dX8_putSign_18 ?_
  refine lv_aload_n B.1 B.2.1 dX8_putSign_21 rfl (lv_at hl 0 rfl) ?_
  refine gf_X8_15 B Y 0 rfl rfl dX8_putSign_22 ?_
  refine lv_iload_n B.1 B.2.1 dX8_putSign_25 rfl (lv_at hl 1 rfl) ?_
  refine lv_i2b B.1 B.2.1 dX8_putSign_26 rfl ?_
  refine lv_topi (fun z1 ez1 => ?_)
  refine t_bast (j := 3) (g := upd (f) 3 (vp_nar .byte z1)) (ws' := [(tx, .inr (8, [.ref to, .int 3])), (to, .inl (τ 1, 2048, .inl (upd (f) 3 (vp_nar .byte z1))))]) B Y 1 rfl (by decide) (by decide) (Nat.le_of_ble_eq_true rfl) rfl rfl dX8_putSign_27 (fun H locs Y => ?_)
  refine lv_aload_n B.1 B.2.1 dX8_putSign_28 rfl (lv_at hl 0 rfl) ?_
  refine lv_dup B.1 B.2.1 dX8_putSign_29 rfl ?_
  refine gf_X8_15 B Y 0 rfl rfl dX8_putSign_30 ?_
  refine lv_iconst (v := 1) B.1 B.2.1 dX8_putSign_33 (by decide) ?_
  refine lv_iadd B.1 B.2.1 dX8_putSign_34 ?_
  refine lv_cv (v := 4) (by decide) ?_
  refine pf_X8_15 (ws' := [(tx, .inr (8, [.ref to, .int 4])), (to, .inl (τ 1, 2048, .inl (upd (f) 3 (vp_nar .byte z1))))]) B Y 0 rfl (Nat.le_of_ble_eq_true rfl) rfl dX8_putSign_35 (fun H locs Y => ?_)
  exact endV B hr hlk Y (upd (f) 3 (vp_nar .byte z1)) trivial [0, 1] (by decide) rfl (Nat.le_of_ble_eq_true rfl) (Nat.le_of_ble_eq_true rfl) dX8_putSign_38

set_option maxHeartbeats 4000000 in
set_option maxRecDepth 100000 in
theorem k_putSign4 (l : Launch) (D : va_G) (τ : Nat → ClassId) (sz : Nat) (tx to : Nat) (f : Nat → Int32) (v : Int32) : Met l yX8_putSign (Cond.code yX8_putSign cX8_putSign 2 none :: wALL) { frames := 0, cells := 0, slots := 0, locals := 0 } (Pw D τ [(tx, .inr (8, [.ref to, .int 4])), (to, .inl (τ 1, 2048, .inl (f)))] sz [.ref tx, .int v]) (va_Qv (fun (u : Nat → Int32) => True) (Bw D (va_A [(tx, .inr (8, [.ref to, .int 4])), (to, .inl (τ 1, 2048, .inl (f)))] sz) (fun (u : Nat → Int32) => [(tx, .inr (8, [.ref to, .int 5])), (to, .inl (τ 1, 2048, .inl (u)))])) (va_A [(tx, .inr (8, [.ref to, .int 4])), (to, .inl (τ 1, 2048, .inl (f)))] sz)) 0 0 (va_A [(tx, .inr (8, [.ref to, .int 4])), (to, .inl (τ 1, 2048, .inl (f)))] sz) := by
  refine bodyW (by decide) (Nat.le_of_ble_eq_true rfl) (fun p e s m below meth c ls B hr hlk hin hsz Y hl => ?_)
  have hl : lv_has ls 2 [(0, .ref tx), (1, .int v)] := hl
  have B : CallFix p m c cX8_putSign 2 s _ wALL RX8 := B
  generalize va_A [(tx, .inr (8, [.ref to, .int 4])), (to, .inl (τ 1, 2048, .inl (f)))] sz = A at Y ⊢
  refine lv_aload_n B.1 B.2.1 dX8_putSign_0 rfl (lv_at hl 0 rfl) ?_
  refine gf_X8_15 B Y 0 rfl rfl dX8_putSign_1 ?_
  refine lv_if_lt (tgt := 38) B.1 B.2.1 dX8_putSign_4 (by decide) (fun h => absurd h (by decide)) (fun _ => ?_)
  refine lv_aload_n B.1 B.2.1 dX8_putSign_7 rfl (lv_at hl 0 rfl) ?_
  refine gf_X8_15 B Y 0 rfl rfl dX8_putSign_8 ?_
  refine lv_sipush (v := 2048) B.1 B.2.1 dX8_putSign_11 (by decide) ?_
  refine lv_icmp_ge (tgt := 38) B.1 B.2.1 dX8_putSign_14 (by decide) (fun h => absurd h (by decide)) (fun _ => ?_)
  refine lv_aload_n B.1 B.2.1 dX8_putSign_17 rfl (lv_at hl 0 rfl) ?_
  refine gf_X8_11 B Y 0 rfl rfl dX8_putSign_18 ?_
  refine lv_aload_n B.1 B.2.1 dX8_putSign_21 rfl (lv_at hl 0 rfl) ?_
  refine gf_X8_15 B Y 0 rfl rfl dX8_putSign_22 ?_
  refine lv_iload_n B.1 B.2.1 dX8_putSign_25 rfl (lv_at hl 1 rfl) ?_
  refine lv_i2b B.1 B.2.1 dX8_putSign_26 rfl ?_
  refine lv_topi (fun z1 ez1 => ?_)
  refine t_bast (j := 4) (g := upd (f) 4 (vp_nar .byte z1)) (ws' := [(tx, .inr (8, [.ref to, .int 4])), (to, .inl (τ 1, 2048, .inl (upd (f) 4 (vp_nar .byte z1))))]) B Y 1 rfl (by decide) (by decide) (Nat.le_of_ble_eq_true rfl) rfl rfl dX8_putSign_27 (fun H locs Y => ?_)
  refine lv_aload_n B.1 B.2.1 dX8_putSign_28 rfl (lv_at hl 0 rfl) ?_
  refine lv_dup B.1 B.2.1 dX8_putSign_29 rfl ?_
  refine gf_X8_15 B Y 0 rfl rfl dX8_putSign_30 ?_
  refine lv_iconst (v := 1) B.1 B.2.1 dX8_putSign_33 (by decide) ?_
  refine lv_iadd B.1 B.2.1 dX8_putSign_34 ?_
  refine lv_cv (v := 5) (by decide) ?_
  refine pf_X8_15 (ws' := [(tx, .inr (8, [.ref to, .int 5])), (to, .inl (τ 1, 2048, .inl (upd (f) 4 (vp_nar .byte z1))))]) B Y 0 rfl (Nat.le_of_ble_eq_true rfl) rfl dX8_putSign_35 (fun H locs Y => ?_)
  exact endV B hr hlk Y (upd (f) 4 (vp_nar .byte z1)) trivial [0, 1] (by decide) rfl (Nat.le_of_ble_eq_true rfl) (Nat.le_of_ble_eq_true rfl) dX8_putSign_38

set_option maxHeartbeats 4000000 in
set_option maxRecDepth 100000 in
theorem k_putNumber576 (l : Launch) (D : va_G) (τ : Nat → ClassId) (sz : Nat) (tx to : Nat) (f : Nat → Int32) : Met l yX8_putNumber (Cond.code yX8_putNumber cX8_putNumber 3 none :: wALL) { frames := 1, cells := 0, slots := 0, locals := 25 } (Pw D τ [(tx, .inr (8, [.ref to, .int 0])), (to, .inl (τ 1, 2048, .inl (f)))] sz [.ref tx, .int 576]) (va_Qv (fun (u : Nat → Int32) => True) (Bw D (va_A [(tx, .inr (8, [.ref to, .int 0])), (to, .inl (τ 1, 2048, .inl (f)))] sz) (fun (u : Nat → Int32) => [(tx, .inr (8, [.ref to, .int 3])), (to, .inl (τ 1, 2048, .inl (u)))])) (va_A [(tx, .inr (8, [.ref to, .int 0])), (to, .inl (τ 1, 2048, .inl (f)))] sz)) 0 0 (va_A [(tx, .inr (8, [.ref to, .int 0])), (to, .inl (τ 1, 2048, .inl (f)))] sz) := by
  refine bodyW (by decide) (Nat.le_of_ble_eq_true rfl) (fun p e s m below meth c ls B hr hlk hin hsz Y hl => ?_)
  have hl : lv_has ls 3 [(0, .ref tx), (1, .int 576)] := hl
  have B : CallFix p m c cX8_putNumber 3 s _ wALL RX8 := B
  generalize va_A [(tx, .inr (8, [.ref to, .int 0])), (to, .inl (τ 1, 2048, .inl (f)))] sz = A at Y ⊢
  refine lv_iconst (v := 1) B.1 B.2.1 dX8_putNumber_0 (by decide) ?_
  refine lv_istore_n (lv' := [(2, .int 1), (0, .ref tx), (1, .int 576)]) B.1 B.2.1 dX8_putNumber_1 rfl hl (by decide) rfl (fun ls hl => ?_)
  refine lv_iload_n B.1 B.2.1 dX8_putNumber_2 rfl (lv_at hl 0 rfl) ?_
  refine lv_iload_n B.1 B.2.1 dX8_putNumber_3 rfl (lv_at hl 2 rfl) ?_
  refine lv_bipush (v := 10) B.1 B.2.1 dX8_putNumber_4 (by decide) ?_
  refine lv_idiv B.1 B.2.1 dX8_putNumber_6 (by decide) ?_
  refine lv_cv (v := 57) (by decide) ?_
  refine lv_icmp_gt (tgt := 24) B.1 B.2.1 dX8_putNumber_7 (by decide) (fun h => absurd h (by decide)) (fun _ => ?_)
  refine lv_iload_n B.1 B.2.1 dX8_putNumber_10 rfl (lv_at hl 0 rfl) ?_
  refine lv_ldc B.1 B.2.1 B.2.2.2.1 (B.2.2.2.2 _ q_815) dX8_putNumber_11 ?_
  refine lv_icmp_ge (tgt := 24) B.1 B.2.1 dX8_putNumber_13 (by decide) (fun h => absurd h (by decide)) (fun _ => ?_)
  refine lv_iload_n B.1 B.2.1 dX8_putNumber_16 rfl (lv_at hl 0 rfl) ?_
  refine lv_bipush (v := 10) B.1 B.2.1 dX8_putNumber_17 (by decide) ?_
  refine lv_imul B.1 B.2.1 dX8_putNumber_19 ?_
  refine lv_cv (v := 10) (by decide) ?_
  refine lv_istore_n (lv' := [(2, .int 10), (0, .ref tx), (1, .int 576)]) B.1 B.2.1 dX8_putNumber_20 rfl hl (by decide) rfl (fun ls hl => ?_)
  refine lv_goto (tgt := 2) B.1 B.2.1 dX8_putNumber_21 (by decide) ?_
  refine lv_iload_n B.1 B.2.1 dX8_putNumber_2 rfl (lv_at hl 0 rfl) ?_
  refine lv_iload_n B.1 B.2.1 dX8_putNumber_3 rfl (lv_at hl 2 rfl) ?_
  refine lv_bipush (v := 10) B.1 B.2.1 dX8_putNumber_4 (by decide) ?_
  refine lv_idiv B.1 B.2.1 dX8_putNumber_6 (by decide) ?_
  refine lv_cv (v := 57) (by decide) ?_
  refine lv_icmp_gt (tgt := 24) B.1 B.2.1 dX8_putNumber_7 (by decide) (fun h => absurd h (by decide)) (fun _ => ?_)
  refine lv_iload_n B.1 B.2.1 dX8_putNumber_10 rfl (lv_at hl 0 rfl) ?_
  refine lv_ldc B.1 B.2.1 B.2.2.2.1 (B.2.2.2.2 _ q_815) dX8_putNumber_11 ?_
  refine lv_icmp_ge (tgt := 24) B.1 B.2.1 dX8_putNumber_13 (by decide) (fun h => absurd h (by decide)) (fun _ => ?_)
  refine lv_iload_n B.1 B.2.1 dX8_putNumber_16 rfl (lv_at hl 0 rfl) ?_
  refine lv_bipush (v := 10) B.1 B.2.1 dX8_putNumber_17 (by decide) ?_
  refine lv_imul B.1 B.2.1 dX8_putNumber_19 ?_
  refine lv_cv (v := 100) (by decide) ?_
  refine lv_istore_n (lv' := [(2, .int 100), (0, .ref tx), (1, .int 576)]) B.1 B.2.1 dX8_putNumber_20 rfl hl (by decide) rfl (fun ls hl => ?_)
  refine lv_goto (tgt := 2) B.1 B.2.1 dX8_putNumber_21 (by decide) ?_
  refine lv_iload_n B.1 B.2.1 dX8_putNumber_2 rfl (lv_at hl 0 rfl) ?_
  refine lv_iload_n B.1 B.2.1 dX8_putNumber_3 rfl (lv_at hl 2 rfl) ?_
  refine lv_bipush (v := 10) B.1 B.2.1 dX8_putNumber_4 (by decide) ?_
  refine lv_idiv B.1 B.2.1 dX8_putNumber_6 (by decide) ?_
  refine lv_cv (v := 57) (by decide) ?_
  refine lv_icmp_gt (tgt := 24) B.1 B.2.1 dX8_putNumber_7 (by decide) (fun _ => ?_) (fun h => absurd (by decide) h)
  refine lv_iload_n B.1 B.2.1 dX8_putNumber_24 rfl (lv_at hl 0 rfl) ?_
  refine lv_if_le (tgt := 49) B.1 B.2.1 dX8_putNumber_25 (by decide) (fun h => absurd h (by decide)) (fun _ => ?_)
  refine lv_aload_n B.1 B.2.1 dX8_putNumber_28 rfl (lv_at hl 1 rfl) ?_
  refine lv_bipush (v := 48) B.1 B.2.1 dX8_putNumber_29 (by decide) ?_
  refine lv_iload_n B.1 B.2.1 dX8_putNumber_31 rfl (lv_at hl 2 rfl) ?_
  refine lv_iload_n B.1 B.2.1 dX8_putNumber_32 rfl (lv_at hl 0 rfl) ?_
  refine lv_idiv B.1 B.2.1 dX8_putNumber_33 (by decide) ?_
  refine lv_cv (v := 5) (by decide) ?_
  refine lv_bipush (v := 10) B.1 B.2.1 dX8_putNumber_34 (by decide) ?_
  refine lv_irem B.1 B.2.1 dX8_putNumber_36 (by decide) ?_
  refine lv_cv (v := 5) (by decide) ?_
  refine lv_iadd B.1 B.2.1 dX8_putNumber_37 ?_
  refine lv_cv (v := 53) (by decide) ?_
  refine retV (wc := [(tx, .inr (8, [.ref to, .int 0])), (to, .inl (τ 1, 2048, .inl (f)))]) (wr := []) Y [0, 1] [] rfl rfl (by decide) (by decide) (rV (As := [.int 53]) (rest := []) (q0 := 0) B Y [0, 1] (by decide) rfl (k_putSign0 l D τ _ tx to (f) 53) rfl rfl q_816 q_808 q_809 q_3 q_810 rfl rfl hd_X8_putSign ⟨(Nat.le_of_ble_eq_true rfl), (Nat.le_of_ble_eq_true rfl)⟩ rfl hl.1 rfl (Nat.le_of_ble_eq_true rfl) dX8_putNumber_38 ⟨(Nat.le_of_ble_eq_true rfl), (Nat.le_of_ble_eq_true rfl)⟩) (fun u H locs hw Y => ?_)
  obtain ⟨g1, rfl⟩ : ∃ z, z = u := ⟨_, rfl⟩
  have Y : Wd D τ s A s.heap [(tx, .inr (8, [.ref to, .int 1])), (to, .inl (τ 1, 2048, .inl (g1)))] H _ := Y
  refine lv_iload_n B.1 B.2.1 dX8_putNumber_41 rfl (lv_at hl 0 rfl) ?_
  refine lv_bipush (v := 10) B.1 B.2.1 dX8_putNumber_42 (by decide) ?_
  refine lv_idiv B.1 B.2.1 dX8_putNumber_44 (by decide) ?_
  refine lv_cv (v := 10) (by decide) ?_
  refine lv_istore_n (lv' := [(2, .int 10), (0, .ref tx), (1, .int 576)]) B.1 B.2.1 dX8_putNumber_45 rfl hl (by decide) rfl (fun ls hl => ?_)
  refine lv_goto (tgt := 24) B.1 B.2.1 dX8_putNumber_46 (by decide) ?_
  refine lv_iload_n B.1 B.2.1 dX8_putNumber_24 rfl (lv_at hl 0 rfl) ?_
  refine lv_if_le (tgt := 49) B.1 B.2.1 dX8_putNumber_25 (by decide) (fun h => absurd h (by decide)) (fun _ => ?_)
  refine lv_aload_n B.1 B.2.1 dX8_putNumber_28 rfl (lv_at hl 1 rfl) ?_
  refine lv_bipush (v := 48) B.1 B.2.1 dX8_putNumber_29 (by decide) ?_
  refine lv_iload_n B.1 B.2.1 dX8_putNumber_31 rfl (lv_at hl 2 rfl) ?_
  refine lv_iload_n B.1 B.2.1 dX8_putNumber_32 rfl (lv_at hl 0 rfl) ?_
  refine lv_idiv B.1 B.2.1 dX8_putNumber_33 (by decide) ?_
  refine lv_cv (v := 57) (by decide) ?_
  refine lv_bipush (v := 10) B.1 B.2.1 dX8_putNumber_34 (by decide) ?_
  refine lv_irem B.1 B.2.1 dX8_putNumber_36 (by decide) ?_
  refine lv_cv (v := 7) (by decide) ?_
  refine lv_iadd B.1 B.2.1 dX8_putNumber_37 ?_
  refine lv_cv (v := 55) (by decide) ?_
  refine retV (wc := [(tx, .inr (8, [.ref to, .int 1])), (to, .inl (τ 1, 2048, .inl (g1)))]) (wr := []) Y [0, 1] [] rfl rfl (by decide) (by decide) (rV (As := [.int 55]) (rest := []) (q0 := 0) B Y [0, 1] (by decide) rfl (k_putSign1 l D τ _ tx to (g1) 55) rfl rfl q_816 q_808 q_809 q_3 q_810 rfl rfl hd_X8_putSign ⟨(Nat.le_of_ble_eq_true rfl), (Nat.le_of_ble_eq_true rfl)⟩ rfl hl.1 rfl (Nat.le_of_ble_eq_true rfl) dX8_putNumber_38 ⟨(Nat.le_of_ble_eq_true rfl), (Nat.le_of_ble_eq_true rfl)⟩) (fun u H locs hw Y => ?_)
  obtain ⟨g2, rfl⟩ : ∃ z, z = u := ⟨_, rfl⟩
  have Y : Wd D τ s A s.heap [(tx, .inr (8, [.ref to, .int 2])), (to, .inl (τ 1, 2048, .inl (g2)))] H _ := Y
  refine lv_iload_n B.1 B.2.1 dX8_putNumber_41 rfl (lv_at hl 0 rfl) ?_
  refine lv_bipush (v := 10) B.1 B.2.1 dX8_putNumber_42 (by decide) ?_
  refine lv_idiv B.1 B.2.1 dX8_putNumber_44 (by decide) ?_
  refine lv_cv (v := 1) (by decide) ?_
  refine lv_istore_n (lv' := [(2, .int 1), (0, .ref tx), (1, .int 576)]) B.1 B.2.1 dX8_putNumber_45 rfl hl (by decide) rfl (fun ls hl => ?_)
  refine lv_goto (tgt := 24) B.1 B.2.1 dX8_putNumber_46 (by decide) ?_
  refine lv_iload_n B.1 B.2.1 dX8_putNumber_24 rfl (lv_at hl 0 rfl) ?_
  refine lv_if_le (tgt := 49) B.1 B.2.1 dX8_putNumber_25 (by decide) (fun h => absurd h (by decide)) (fun _ => ?_)
  refine lv_aload_n B.1 B.2.1 dX8_putNumber_28 rfl (lv_at hl 1 rfl) ?_
  refine lv_bipush (v := 48) B.1 B.2.1 dX8_putNumber_29 (by decide) ?_
  refine lv_iload_n B.1 B.2.1 dX8_putNumber_31 rfl (lv_at hl 2 rfl) ?_
  refine lv_iload_n B.1 B.2.1 dX8_putNumber_32 rfl (lv_at hl 0 rfl) ?_
  refine lv_idiv B.1 B.2.1 dX8_putNumber_33 (by decide) ?_
  refine lv_cv (v := 576) (by decide) ?_
  refine lv_bipush (v := 10) B.1 B.2.1 dX8_putNumber_34 (by decide) ?_
  refine lv_irem B.1 B.2.1 dX8_putNumber_36 (by decide) ?_
  refine lv_cv (v := 6) (by decide) ?_
  refine lv_iadd B.1 B.2.1 dX8_putNumber_37 ?_
  refine lv_cv (v := 54) (by decide) ?_
  refine retV (wc := [(tx, .inr (8, [.ref to, .int 2])), (to, .inl (τ 1, 2048, .inl (g2)))]) (wr := []) Y [0, 1] [] rfl rfl (by decide) (by decide) (rV (As := [.int 54]) (rest := []) (q0 := 0) B Y [0, 1] (by decide) rfl (k_putSign2 l D τ _ tx to (g2) 54) rfl rfl q_816 q_808 q_809 q_3 q_810 rfl rfl hd_X8_putSign ⟨(Nat.le_of_ble_eq_true rfl), (Nat.le_of_ble_eq_true rfl)⟩ rfl hl.1 rfl (Nat.le_of_ble_eq_true rfl) dX8_putNumber_38 ⟨(Nat.le_of_ble_eq_true rfl), (Nat.le_of_ble_eq_true rfl)⟩) (fun u H locs hw Y => ?_)
  obtain ⟨g3, rfl⟩ : ∃ z, z = u := ⟨_, rfl⟩
  have Y : Wd D τ s A s.heap [(tx, .inr (8, [.ref to, .int 3])), (to, .inl (τ 1, 2048, .inl (g3)))] H _ := Y
  refine lv_iload_n B.1 B.2.1 dX8_putNumber_41 rfl (lv_at hl 0 rfl) ?_
  refine lv_bipush (v := 10) B.1 B.2.1 dX8_putNumber_42 (by decide) ?_
  refine lv_idiv B.1 B.2.1 dX8_putNumber_44 (by decide) ?_
  refine lv_cv (v := 0) (by decide) ?_
  refine lv_istore_n (lv' := [(2, .int 0), (0, .ref tx), (1, .int 576)]) B.1 B.2.1 dX8_putNumber_45 rfl hl (by decide) rfl (fun ls hl => ?_)
  refine lv_goto (tgt := 24) B.1 B.2.1 dX8_putNumber_46 (by decide) ?_
  refine lv_iload_n B.1 B.2.1 dX8_putNumber_24 rfl (lv_at hl 0 rfl) ?_
  refine lv_if_le (tgt := 49) B.1 B.2.1 dX8_putNumber_25 (by decide) (fun _ => ?_) (fun h => absurd (by decide) h)
  exact endV B hr hlk Y (g3) trivial [0, 1] (by decide) rfl (Nat.le_of_ble_eq_true rfl) (Nat.le_of_ble_eq_true rfl) dX8_putNumber_49

set_option maxHeartbeats 4000000 in
set_option maxRecDepth 100000 in
theorem k_putNumber0 (l : Launch) (D : va_G) (τ : Nat → ClassId) (sz : Nat) (tx to : Nat) (f : Nat → Int32) : Met l yX8_putNumber (Cond.code yX8_putNumber cX8_putNumber 3 none :: wALL) { frames := 1, cells := 0, slots := 0, locals := 25 } (Pw D τ [(tx, .inr (8, [.ref to, .int 4])), (to, .inl (τ 1, 2048, .inl (f)))] sz [.ref tx, .int 0]) (va_Qv (fun (u : Nat → Int32) => True) (Bw D (va_A [(tx, .inr (8, [.ref to, .int 4])), (to, .inl (τ 1, 2048, .inl (f)))] sz) (fun (u : Nat → Int32) => [(tx, .inr (8, [.ref to, .int 5])), (to, .inl (τ 1, 2048, .inl (u)))])) (va_A [(tx, .inr (8, [.ref to, .int 4])), (to, .inl (τ 1, 2048, .inl (f)))] sz)) 0 0 (va_A [(tx, .inr (8, [.ref to, .int 4])), (to, .inl (τ 1, 2048, .inl (f)))] sz) := by
  refine bodyW (by decide) (Nat.le_of_ble_eq_true rfl) (fun p e s m below meth c ls B hr hlk hin hsz Y hl => ?_)
  have hl : lv_has ls 3 [(0, .ref tx), (1, .int 0)] := hl
  have B : CallFix p m c cX8_putNumber 3 s _ wALL RX8 := B
  generalize va_A [(tx, .inr (8, [.ref to, .int 4])), (to, .inl (τ 1, 2048, .inl (f)))] sz = A at Y ⊢
  refine lv_iconst (v := 1) B.1 B.2.1 dX8_putNumber_0 (by decide) ?_
  refine lv_istore_n (lv' := [(2, .int 1), (0, .ref tx), (1, .int 0)]) B.1 B.2.1 dX8_putNumber_1 rfl hl (by decide) rfl (fun ls hl => ?_)
  refine lv_iload_n B.1 B.2.1 dX8_putNumber_2 rfl (lv_at hl 0 rfl) ?_
  refine lv_iload_n B.1 B.2.1 dX8_putNumber_3 rfl (lv_at hl 2 rfl) ?_
  refine lv_bipush (v := 10) B.1 B.2.1 dX8_putNumber_4 (by decide) ?_
  refine lv_idiv B.1 B.2.1 dX8_putNumber_6 (by decide) ?_
  refine lv_cv (v := 0) (by decide) ?_
  refine lv_icmp_gt (tgt := 24) B.1 B.2.1 dX8_putNumber_7 (by decide) (fun _ => ?_) (fun h => absurd (by decide) h)
  refine lv_iload_n B.1 B.2.1 dX8_putNumber_24 rfl (lv_at hl 0 rfl) ?_
  refine lv_if_le (tgt := 49) B.1 B.2.1 dX8_putNumber_25 (by decide) (fun h => absurd h (by decide)) (fun _ => ?_)
  refine lv_aload_n B.1 B.2.1 dX8_putNumber_28 rfl (lv_at hl 1 rfl) ?_
  refine lv_bipush (v := 48) B.1 B.2.1 dX8_putNumber_29 (by decide) ?_
  refine lv_iload_n B.1 B.2.1 dX8_putNumber_31 rfl (lv_at hl 2 rfl) ?_
  refine lv_iload_n B.1 B.2.1 dX8_putNumber_32 rfl (lv_at hl 0 rfl) ?_
  refine lv_idiv B.1 B.2.1 dX8_putNumber_33 (by decide) ?_
  refine lv_cv (v := 0) (by decide) ?_
  refine lv_bipush (v := 10) B.1 B.2.1 dX8_putNumber_34 (by decide) ?_
  refine lv_irem B.1 B.2.1 dX8_putNumber_36 (by decide) ?_
  refine lv_cv (v := 0) (by decide) ?_
  refine lv_iadd B.1 B.2.1 dX8_putNumber_37 ?_
  refine lv_cv (v := 48) (by decide) ?_
  refine retV (wc := [(tx, .inr (8, [.ref to, .int 4])), (to, .inl (τ 1, 2048, .inl (f)))]) (wr := []) Y [0, 1] [] rfl rfl (by decide) (by decide) (rV (As := [.int 48]) (rest := []) (q0 := 0) B Y [0, 1] (by decide) rfl (k_putSign4 l D τ _ tx to (f) 48) rfl rfl q_816 q_808 q_809 q_3 q_810 rfl rfl hd_X8_putSign ⟨(Nat.le_of_ble_eq_true rfl), (Nat.le_of_ble_eq_true rfl)⟩ rfl hl.1 rfl (Nat.le_of_ble_eq_true rfl) dX8_putNumber_38 ⟨(Nat.le_of_ble_eq_true rfl), (Nat.le_of_ble_eq_true rfl)⟩) (fun u H locs hw Y => ?_)
  obtain ⟨g1, rfl⟩ : ∃ z, z = u := ⟨_, rfl⟩
  have Y : Wd D τ s A s.heap [(tx, .inr (8, [.ref to, .int 5])), (to, .inl (τ 1, 2048, .inl (g1)))] H _ := Y
  refine lv_iload_n B.1 B.2.1 dX8_putNumber_41 rfl (lv_at hl 0 rfl) ?_
  refine lv_bipush (v := 10) B.1 B.2.1 dX8_putNumber_42 (by decide) ?_
  refine lv_idiv B.1 B.2.1 dX8_putNumber_44 (by decide) ?_
  refine lv_cv (v := 0) (by decide) ?_
  refine lv_istore_n (lv' := [(2, .int 0), (0, .ref tx), (1, .int 0)]) B.1 B.2.1 dX8_putNumber_45 rfl hl (by decide) rfl (fun ls hl => ?_)
  refine lv_goto (tgt := 24) B.1 B.2.1 dX8_putNumber_46 (by decide) ?_
  refine lv_iload_n B.1 B.2.1 dX8_putNumber_24 rfl (lv_at hl 0 rfl) ?_
  refine lv_if_le (tgt := 49) B.1 B.2.1 dX8_putNumber_25 (by decide) (fun _ => ?_) (fun h => absurd (by decide) h)
  exact endV B hr hlk Y (g1) trivial [0, 1] (by decide) rfl (Nat.le_of_ble_eq_true rfl) (Nat.le_of_ble_eq_true rfl) dX8_putNumber_49

set_option maxHeartbeats 4000000 in
set_option maxRecDepth 100000 in
theorem m_writePath (l : Launch) (D : va_G) (τ : Nat → ClassId) (sz : Nat) (x rd q0 q1 q2 q3 q4 tx to bu st pa aL aD aH l0 d0 p0 v0 p1 v1 p2 v2 p3 v3 pk k0 k1 k2 k3 k4 k5 k6 k7 k8 k9 nt n0 n1 n2 ac : Nat) (fL fD fH : Nat → Option Nat) (hS : fL 0 = some l0 ∧ fD 0 = some d0 ∧ fH 0 = some p0 ∧ fH 1 = some p1 ∧ fH 2 = some p2 ∧ fH 3 = some p3) : Met l yX9_writePath (Cond.code yX9_writePath cX9_writePath 3 (some .int) :: wALL) { frames := 2, cells := 0, slots := 0, locals := 48 } (Pw D τ [(x, .inr (9, [.ref rd, .ref tx, .ref bu, .ref st, .ref pa, .int 0, .int 0, .null, .null])), (tx, .inr (8, [.ref to, .int 0])), (to, .inl (τ 1, 2048, .inl (fun _ => 0))), (st, .inr (7, [.int 0, .int 60, .int 0, .int 576, .int 27, .int (-1), .int 1, .int 0, .ref aL, .ref aD, .ref aH, .ref pk, .ref nt, .ref ac])), (aL, .inl (τ 3, 6, .inr (.inr (.inr (.inr (fL)))))), (l0, .inr (3, [.int 576, .int 1, .int 0, .int 0, .int 0, .int 0, .int 0, .int 0])), (pk, .inr (5, [.ref k0, .ref k1, .ref k2, .ref k3, .ref k4, .ref k5, .ref k6, .ref k7, .ref k8, .ref k9, .int 0, .int (-1), .int 0])), (k0, .inl (τ 0, 300, .inl (fun _ => 0))), (k1, .inl (τ 0, 300, .inl (fun _ => 0))), (k2, .inl (τ 0, 300, .inl (fun _ => 0))), (k3, .inl (τ 0, 300, .inl (fun _ => 0))), (k4, .inl (τ 0, 300, .inl (fun _ => 0))), (k5, .inl (τ 0, 300, .inl (fun _ => 0))), (k6, .inl (τ 0, 6, .inl (fil (fun _ => (-1)) (fun _ => 0) 6))), (k7, .inl (τ 0, 6, .inl (fil (fun _ => (-1)) (fun _ => 0) 6))), (k8, .inl (τ 0, 6, .inl (fun _ => 0))), (k9, .inl (τ 0, 6, .inl (fun _ => 0)))] sz [.ref x]) (va_Qi (fun (r : Int32) (_ : Unit) => r = 5) (Bw D (va_A [(x, .inr (9, [.ref rd, .ref tx, .ref bu, .ref st, .ref pa, .int 0, .int 0, .null, .null])), (tx, .inr (8, [.ref to, .int 0])), (to, .inl (τ 1, 2048, .inl (fun _ => 0))), (st, .inr (7, [.int 0, .int 60, .int 0, .int 576, .int 27, .int (-1), .int 1, .int 0, .ref aL, .ref aD, .ref aH, .ref pk, .ref nt, .ref ac])), (aL, .inl (τ 3, 6, .inr (.inr (.inr (.inr (fL)))))), (l0, .inr (3, [.int 576, .int 1, .int 0, .int 0, .int 0, .int 0, .int 0, .int 0])), (pk, .inr (5, [.ref k0, .ref k1, .ref k2, .ref k3, .ref k4, .ref k5, .ref k6, .ref k7, .ref k8, .ref k9, .int 0, .int (-1), .int 0])), (k0, .inl (τ 0, 300, .inl (fun _ => 0))), (k1, .inl (τ 0, 300, .inl (fun _ => 0))), (k2, .inl (τ 0, 300, .inl (fun _ => 0))), (k3, .inl (τ 0, 300, .inl (fun _ => 0))), (k4, .inl (τ 0, 300, .inl (fun _ => 0))), (k5, .inl (τ 0, 300, .inl (fun _ => 0))), (k6, .inl (τ 0, 6, .inl (fil (fun _ => (-1)) (fun _ => 0) 6))), (k7, .inl (τ 0, 6, .inl (fil (fun _ => (-1)) (fun _ => 0) 6))), (k8, .inl (τ 0, 6, .inl (fun _ => 0))), (k9, .inl (τ 0, 6, .inl (fun _ => 0)))] sz) (fun (_ : Unit) => [])) (va_A [(x, .inr (9, [.ref rd, .ref tx, .ref bu, .ref st, .ref pa, .int 0, .int 0, .null, .null])), (tx, .inr (8, [.ref to, .int 0])), (to, .inl (τ 1, 2048, .inl (fun _ => 0))), (st, .inr (7, [.int 0, .int 60, .int 0, .int 576, .int 27, .int (-1), .int 1, .int 0, .ref aL, .ref aD, .ref aH, .ref pk, .ref nt, .ref ac])), (aL, .inl (τ 3, 6, .inr (.inr (.inr (.inr (fL)))))), (l0, .inr (3, [.int 576, .int 1, .int 0, .int 0, .int 0, .int 0, .int 0, .int 0])), (pk, .inr (5, [.ref k0, .ref k1, .ref k2, .ref k3, .ref k4, .ref k5, .ref k6, .ref k7, .ref k8, .ref k9, .int 0, .int (-1), .int 0])), (k0, .inl (τ 0, 300, .inl (fun _ => 0))), (k1, .inl (τ 0, 300, .inl (fun _ => 0))), (k2, .inl (τ 0, 300, .inl (fun _ => 0))), (k3, .inl (τ 0, 300, .inl (fun _ => 0))), (k4, .inl (τ 0, 300, .inl (fun _ => 0))), (k5, .inl (τ 0, 300, .inl (fun _ => 0))), (k6, .inl (τ 0, 6, .inl (fil (fun _ => (-1)) (fun _ => 0) 6))), (k7, .inl (τ 0, 6, .inl (fil (fun _ => (-1)) (fun _ => 0) 6))), (k8, .inl (τ 0, 6, .inl (fun _ => 0))), (k9, .inl (τ 0, 6, .inl (fun _ => 0)))] sz)) 0 0 (va_A [(x, .inr (9, [.ref rd, .ref tx, .ref bu, .ref st, .ref pa, .int 0, .int 0, .null, .null])), (tx, .inr (8, [.ref to, .int 0])), (to, .inl (τ 1, 2048, .inl (fun _ => 0))), (st, .inr (7, [.int 0, .int 60, .int 0, .int 576, .int 27, .int (-1), .int 1, .int 0, .ref aL, .ref aD, .ref aH, .ref pk, .ref nt, .ref ac])), (aL, .inl (τ 3, 6, .inr (.inr (.inr (.inr (fL)))))), (l0, .inr (3, [.int 576, .int 1, .int 0, .int 0, .int 0, .int 0, .int 0, .int 0])), (pk, .inr (5, [.ref k0, .ref k1, .ref k2, .ref k3, .ref k4, .ref k5, .ref k6, .ref k7, .ref k8, .ref k9, .int 0, .int (-1), .int 0])), (k0, .inl (τ 0, 300, .inl (fun _ => 0))), (k1, .inl (τ 0, 300, .inl (fun _ => 0))), (k2, .inl (τ 0, 300, .inl (fun _ => 0))), (k3, .inl (τ 0, 300, .inl (fun _ => 0))), (k4, .inl (τ 0, 300, .inl (fun _ => 0))), (k5, .inl (τ 0, 300, .inl (fun _ => 0))), (k6, .inl (τ 0, 6, .inl (fil (fun _ => (-1)) (fun _ => 0) 6))), (k7, .inl (τ 0, 6, .inl (fil (fun _ => (-1)) (fun _ => 0) 6))), (k8, .inl (τ 0, 6, .inl (fun _ => 0))), (k9, .inl (τ 0, 6, .inl (fun _ => 0)))] sz) := by
  refine bodyW (by decide) (Nat.le_of_ble_eq_true rfl) (fun p e s m below meth c ls B hr hlk hin hsz Y hl => ?_)
  have hl : lv_has ls 3 [(0, .ref x)] := hl
  have B : CallFix p m c cX9_writePath 3 s _ wALL RX9 := B
  generalize va_A [(x, .inr (9, [.ref rd, .ref tx, .ref bu, .ref st, .ref pa, .int 0, .int 0, .null, .null])), (tx, .inr (8, [.ref to, .int 0])), (to, .inl (τ 1, 2048, .inl (fun _ => 0))), (st, .inr (7, [.int 0, .int 60, .int 0, .int 576, .int 27, .int (-1), .int 1, .int 0, .ref aL, .ref aD, .ref aH, .ref pk, .ref nt, .ref ac])), (aL, .inl (τ 3, 6, .inr (.inr (.inr (.inr (fL)))))), (l0, .inr (3, [.int 576, .int 1, .int 0, .int 0, .int 0, .int 0, .int 0, .int 0])), (pk, .inr (5, [.ref k0, .ref k1, .ref k2, .ref k3, .ref k4, .ref k5, .ref k6, .ref k7, .ref k8, .ref k9, .int 0, .int (-1), .int 0])), (k0, .inl (τ 0, 300, .inl (fun _ => 0))), (k1, .inl (τ 0, 300, .inl (fun _ => 0))), (k2, .inl (τ 0, 300, .inl (fun _ => 0))), (k3, .inl (τ 0, 300, .inl (fun _ => 0))), (k4, .inl (τ 0, 300, .inl (fun _ => 0))), (k5, .inl (τ 0, 300, .inl (fun _ => 0))), (k6, .inl (τ 0, 6, .inl (fil (fun _ => (-1)) (fun _ => 0) 6))), (k7, .inl (τ 0, 6, .inl (fil (fun _ => (-1)) (fun _ => 0) 6))), (k8, .inl (τ 0, 6, .inl (fun _ => 0))), (k9, .inl (τ 0, 6, .inl (fun _ => 0)))] sz = A at Y ⊢
  refine lv_aload_n B.1 B.2.1 dX9_writePath_0 rfl (lv_at hl 0 rfl) ?_
  refine gf_X9_19 B Y 0 rfl rfl dX9_writePath_1 ?_
  refine lv_iconst (v := 0) B.1 B.2.1 dX9_writePath_4 (by decide) ?_
  refine pf_X9_419 (ws' := [(x, .inr (9, [.ref rd, .ref tx, .ref bu, .ref st, .ref pa, .int 0, .int 0, .null, .null])), (tx, .inr (8, [.ref to, .int 0])), (to, .inl (τ 1, 2048, .inl (fun _ => 0))), (st, .inr (7, [.int 0, .int 60, .int 0, .int 576, .int 27, .int (-1), .int 1, .int 0, .ref aL, .ref aD, .ref aH, .ref pk, .ref nt, .ref ac])), (aL, .inl (τ 3, 6, .inr (.inr (.inr (.inr (fL)))))), (l0, .inr (3, [.int 576, .int 1, .int 0, .int 0, .int 0, .int 0, .int 0, .int 0])), (pk, .inr (5, [.ref k0, .ref k1, .ref k2, .ref k3, .ref k4, .ref k5, .ref k6, .ref k7, .ref k8, .ref k9, .int 0, .int (-1), .int 0])), (k0, .inl (τ 0, 300, .inl (fun _ => 0))), (k1, .inl (τ 0, 300, .inl (fun _ => 0))), (k2, .inl (τ 0, 300, .inl (fun _ => 0))), (k3, .inl (τ 0, 300, .inl (fun _ => 0))), (k4, .inl (τ 0, 300, .inl (fun _ => 0))), (k5, .inl (τ 0, 300, .inl (fun _ => 0))), (k6, .inl (τ 0, 6, .inl (fil (fun _ => (-1)) (fun _ => 0) 6))), (k7, .inl (τ 0, 6, .inl (fil (fun _ => (-1)) (fun _ => 0) 6))), (k8, .inl (τ 0, 6, .inl (fun _ => 0))), (k9, .inl (τ 0, 6, .inl (fun _ => 0)))]) B Y 1 rfl (Nat.le_of_ble_eq_true rfl) rfl dX9_writePath_5 (fun H locs Y => ?_)
  refine lv_iconst (v := 0) B.1 B.2.1 dX9_writePath_8 (by decide) ?_
  refine lv_istore_n (lv' := [(1, .int 0), (0, .ref x)]) B.1 B.2.1 dX9_writePath_9 rfl hl (by decide) rfl (fun ls hl => ?_)
  refine lv_iload_n B.1 B.2.1 dX9_writePath_10 rfl (lv_at hl 0 rfl) ?_
  refine lv_aload_n B.1 B.2.1 dX9_writePath_11 rfl (lv_at hl 1 rfl) ?_
  refine gf_X9_30 B Y 0 rfl rfl dX9_writePath_12 ?_
  refine gf_X9_182 B Y 3 rfl rfl dX9_writePath_15 ?_
  refine lv_icmp_ge (tgt := 94) B.1 B.2.1 dX9_writePath_18 (by decide) (fun h => absurd h (by decide)) (fun _ => ?_)
  refine lv_aload_n B.1 B.2.1 dX9_writePath_21 rfl (lv_at hl 1 rfl) ?_
  refine gf_X9_30 B Y 0 rfl rfl dX9_writePath_22 ?_
  refine lv_iload_n B.1 B.2.1 dX9_writePath_25 rfl (lv_at hl 0 rfl) ?_
  refine retQ (wc := [(st, .inr (7, [.int 0, .int 60, .int 0, .int 576, .int 27, .int (-1), .int 1, .int 0, .ref aL, .ref aD, .ref aH, .ref pk, .ref nt, .ref ac])), (aL, .inl (τ 3, 6, .inr (.inr (.inr (.inr (fL))))))]) (wr := [(x, .inr (9, [.ref rd, .ref tx, .ref bu, .ref st, .ref pa, .int 0, .int 0, .null, .null])), (tx, .inr (8, [.ref to, .int 0])), (to, .inl (τ 1, 2048, .inl (fun _ => 0))), (l0, .inr (3, [.int 576, .int 1, .int 0, .int 0, .int 0, .int 0, .int 0, .int 0])), (pk, .inr (5, [.ref k0, .ref k1, .ref k2, .ref k3, .ref k4, .ref k5, .ref k6, .ref k7, .ref k8, .ref k9, .int 0, .int (-1), .int 0])), (k0, .inl (τ 0, 300, .inl (fun _ => 0))), (k1, .inl (τ 0, 300, .inl (fun _ => 0))), (k2, .inl (τ 0, 300, .inl (fun _ => 0))), (k3, .inl (τ 0, 300, .inl (fun _ => 0))), (k4, .inl (τ 0, 300, .inl (fun _ => 0))), (k5, .inl (τ 0, 300, .inl (fun _ => 0))), (k6, .inl (τ 0, 6, .inl (fil (fun _ => (-1)) (fun _ => 0) 6))), (k7, .inl (τ 0, 6, .inl (fil (fun _ => (-1)) (fun _ => 0) 6))), (k8, .inl (τ 0, 6, .inl (fun _ => 0))), (k9, .inl (τ 0, 6, .inl (fun _ => 0)))]) Y [3, 4] [0, 1, 2, 5, 6, 7, 8, 9, 10, 11, 12, 13, 14, 15, 16] rfl rfl (by decide) (by decide) (rV (As := [.int 0]) (rest := []) (q0 := 3) B Y [3, 4] (by decide) rfl (k_X7_linkAt l D τ _ st 0 60 0 576 27 (-1) 0 aL aD aH pk nt ac fL l0 hS.1 0) rfl rfl q_499 q_452 q_453 q_4 q_454 rfl rfl hd_X7_linkAt ⟨(Nat.le_of_ble_eq_true rfl), (Nat.le_of_ble_eq_true rfl)⟩ rfl hl.1 rfl (Nat.le_of_ble_eq_true rfl) dX9_writePath_26 ⟨(Nat.le_of_ble_eq_true rfl), (Nat.le_of_ble_eq_true rfl)⟩) (fun r u H locs hw Y => ?_)
  have hw : r = some l0 := hw.1 rfl
  subst hw
  show W _ _ _ _ _ _ _ _ _ _ _ _ _ _ _ (F0 m _ ls (.ref l0 :: []))
  have Y : Wd D τ s A s.heap [(x, .inr (9, [.ref rd, .ref tx, .ref bu, .ref st, .ref pa, .int 0, .int 0, .null, .null])), (tx, .inr (8, [.ref to, .int 0])), (to, .inl (τ 1, 2048, .inl (fun _ => 0))), (l0, .inr (3, [.int 576, .int 1, .int 0, .int 0, .int 0, .int 0, .int 0, .int 0])), (pk, .inr (5, [.ref k0, .ref k1, .ref k2, .ref k3, .ref k4, .ref k5, .ref k6, .ref k7, .ref k8, .ref k9, .int 0, .int (-1), .int 0])), (k0, .inl (τ 0, 300, .inl (fun _ => 0))), (k1, .inl (τ 0, 300, .inl (fun _ => 0))), (k2, .inl (τ 0, 300, .inl (fun _ => 0))), (k3, .inl (τ 0, 300, .inl (fun _ => 0))), (k4, .inl (τ 0, 300, .inl (fun _ => 0))), (k5, .inl (τ 0, 300, .inl (fun _ => 0))), (k6, .inl (τ 0, 6, .inl (fil (fun _ => (-1)) (fun _ => 0) 6))), (k7, .inl (τ 0, 6, .inl (fil (fun _ => (-1)) (fun _ => 0) 6))), (k8, .inl (τ 0, 6, .inl (fun _ => 0))), (k9, .inl (τ 0, 6, .inl (fun _ => 0))), (st, .inr (7, [.int 0, .int 60, .int 0, .int 576, .int 27, .int (-1), .int 1, .int 0, .ref aL, .ref aD, .ref aH, .ref pk, .ref nt, .ref ac])), (aL, .inl (τ 3, 6, .inr (.inr (.inr (.inr (fL))))))] H _ := Y
  refine lv_astore_n (lv' := [(2, .ref l0), (1, .int 0), (0, .ref x)]) B.1 B.2.1 dX9_writePath_29 rfl hl (by decide) rfl (fun ls hl => ?_)
  refine lv_aload_n B.1 B.2.1 dX9_writePath_30 rfl (lv_at hl 0 rfl) ?_
  refine lv_ifnonnull (tgt := 37) B.1 B.2.1 dX9_writePath_31 (by decide) ?_
  refine lv_iload_n B.1 B.2.1 dX9_writePath_37 rfl (lv_at hl 1 rfl) ?_
  refine lv_if_le (tgt := 50) B.1 B.2.1 dX9_writePath_38 (by decide) (fun _ => ?_) (fun h => absurd (by decide) h)
  refine lv_aload_n B.1 B.2.1 dX9_writePath_50 rfl (lv_at hl 2 rfl) ?_
  refine gf_X9_19 B Y 0 rfl rfl dX9_writePath_51 ?_
  refine lv_aload_n B.1 B.2.1 dX9_writePath_54 rfl (lv_at hl 0 rfl) ?_
  refine gf_X9_168 B Y 3 rfl rfl dX9_writePath_55 ?_
  refine retV (wc := [(tx, .inr (8, [.ref to, .int 0])), (to, .inl (τ 1, 2048, .inl (fun _ => 0)))]) (wr := [(x, .inr (9, [.ref rd, .ref tx, .ref bu, .ref st, .ref pa, .int 0, .int 0, .null, .null])), (l0, .inr (3, [.int 576, .int 1, .int 0, .int 0, .int 0, .int 0, .int 0, .int 0])), (pk, .inr (5, [.ref k0, .ref k1, .ref k2, .ref k3, .ref k4, .ref k5, .ref k6, .ref k7, .ref k8, .ref k9, .int 0, .int (-1), .int 0])), (k0, .inl (τ 0, 300, .inl (fun _ => 0))), (k1, .inl (τ 0, 300, .inl (fun _ => 0))), (k2, .inl (τ 0, 300, .inl (fun _ => 0))), (k3, .inl (τ 0, 300, .inl (fun _ => 0))), (k4, .inl (τ 0, 300, .inl (fun _ => 0))), (k5, .inl (τ 0, 300, .inl (fun _ => 0))), (k6, .inl (τ 0, 6, .inl (fil (fun _ => (-1)) (fun _ => 0) 6))), (k7, .inl (τ 0, 6, .inl (fil (fun _ => (-1)) (fun _ => 0) 6))), (k8, .inl (τ 0, 6, .inl (fun _ => 0))), (k9, .inl (τ 0, 6, .inl (fun _ => 0))), (st, .inr (7, [.int 0, .int 60, .int 0, .int 576, .int 27, .int (-1), .int 1, .int 0, .ref aL, .ref aD, .ref aH, .ref pk, .ref nt, .ref ac])), (aL, .inl (τ 3, 6, .inr (.inr (.inr (.inr (fL))))))]) Y [1, 2] [0, 3, 4, 5, 6, 7, 8, 9, 10, 11, 12, 13, 14, 15, 16] rfl rfl (by decide) (by decide) (rV (As := [.int 576]) (rest := []) (q0 := 1) B Y [1, 2] (by decide) rfl (k_putNumber576 l D τ _ tx to (fun _ => 0)) rfl rfl q_811 q_812 q_813 q_3 q_814 rfl rfl hd_X8_putNumber ⟨(Nat.le_of_ble_eq_true rfl), (Nat.le_of_ble_eq_true rfl)⟩ rfl hl.1 rfl (Nat.le_of_ble_eq_true rfl) dX9_writePath_58 ⟨(Nat.le_of_ble_eq_true rfl), (Nat.le_of_ble_eq_true rfl)⟩) (fun u H locs hw Y => ?_)
  obtain ⟨g1, rfl⟩ : ∃ z, z = u := ⟨_, rfl⟩
  have Y : Wd D τ s A s.heap [(x, .inr (9, [.ref rd, .ref tx, .ref bu, .ref st, .ref pa, .int 0, .int 0, .null, .null])), (l0, .inr (3, [.int 576, .int 1, .int 0, .int 0, .int 0, .int 0, .int 0, .int 0])), (pk, .inr (5, [.ref k0, .ref k1, .ref k2, .ref k3, .ref k4, .ref k5, .ref k6, .ref k7, .ref k8, .ref k9, .int 0, .int (-1), .int 0])), (k0, .inl (τ 0, 300, .inl (fun _ => 0))), (k1, .inl (τ 0, 300, .inl (fun _ => 0))), (k2, .inl (τ 0, 300, .inl (fun _ => 0))), (k3, .inl (τ 0, 300, .inl (fun _ => 0))), (k4, .inl (τ 0, 300, .inl (fun _ => 0))), (k5, .inl (τ 0, 300, .inl (fun _ => 0))), (k6, .inl (τ 0, 6, .inl (fil (fun _ => (-1)) (fun _ => 0) 6))), (k7, .inl (τ 0, 6, .inl (fil (fun _ => (-1)) (fun _ => 0) 6))), (k8, .inl (τ 0, 6, .inl (fun _ => 0))), (k9, .inl (τ 0, 6, .inl (fun _ => 0))), (st, .inr (7, [.int 0, .int 60, .int 0, .int 576, .int 27, .int (-1), .int 1, .int 0, .ref aL, .ref aD, .ref aH, .ref pk, .ref nt, .ref ac])), (aL, .inl (τ 3, 6, .inr (.inr (.inr (.inr (fL)))))), (tx, .inr (8, [.ref to, .int 3])), (to, .inl (τ 1, 2048, .inl (g1)))] H _ := Y
  refine lv_aload_n B.1 B.2.1 dX9_writePath_61 rfl (lv_at hl 2 rfl) ?_
  refine gf_X9_19 B Y 0 rfl rfl dX9_writePath_62 ?_
  refine lv_bipush (v := 42) B.1 B.2.1 dX9_writePath_65 (by decide) ?_
  refine retV (wc := [(tx, .inr (8, [.ref to, .int 3])), (to, .inl (τ 1, 2048, .inl (g1)))]) (wr := [(x, .inr (9, [.ref rd, .ref tx, .ref bu, .ref st, .ref pa, .int 0, .int 0, .null, .null])), (l0, .inr (3, [.int 576, .int 1, .int 0, .int 0, .int 0, .int 0, .int 0, .int 0])), (pk, .inr (5, [.ref k0, .ref k1, .ref k2, .ref k3, .ref k4, .ref k5, .ref k6, .ref k7, .ref k8, .ref k9, .int 0, .int (-1), .int 0])), (k0, .inl (τ 0, 300, .inl (fun _ => 0))), (k1, .inl (τ 0, 300, .inl (fun _ => 0))), (k2, .inl (τ 0, 300, .inl (fun _ => 0))), (k3, .inl (τ 0, 300, .inl (fun _ => 0))), (k4, .inl (τ 0, 300, .inl (fun _ => 0))), (k5, .inl (τ 0, 300, .inl (fun _ => 0))), (k6, .inl (τ 0, 6, .inl (fil (fun _ => (-1)) (fun _ => 0) 6))), (k7, .inl (τ 0, 6, .inl (fil (fun _ => (-1)) (fun _ => 0) 6))), (k8, .inl (τ 0, 6, .inl (fun _ => 0))), (k9, .inl (τ 0, 6, .inl (fun _ => 0))), (st, .inr (7, [.int 0, .int 60, .int 0, .int 576, .int 27, .int (-1), .int 1, .int 0, .ref aL, .ref aD, .ref aH, .ref pk, .ref nt, .ref ac])), (aL, .inl (τ 3, 6, .inr (.inr (.inr (.inr (fL))))))]) Y [15, 16] [0, 1, 2, 3, 4, 5, 6, 7, 8, 9, 10, 11, 12, 13, 14] rfl rfl (by decide) (by decide) (rV (As := [.int 42]) (rest := []) (q0 := 15) B Y [15, 16] (by decide) rfl (k_putSign3 l D τ _ tx to (g1) 42) rfl rfl q_807 q_808 q_809 q_3 q_810 rfl rfl hd_X8_putSign ⟨(Nat.le_of_ble_eq_true rfl), (Nat.le_of_ble_eq_true rfl)⟩ rfl hl.1 rfl (Nat.le_of_ble_eq_true rfl) dX9_writePath_67 ⟨(Nat.le_of_ble_eq_true rfl), (Nat.le_of_ble_eq_true rfl)⟩) (fun u H locs hw Y => ?_)
  obtain ⟨g2, rfl⟩ : ∃ z, z = u := ⟨_, rfl⟩
  have Y : Wd D τ s A s.heap [(x, .inr (9, [.ref rd, .ref tx, .ref bu, .ref st, .ref pa, .int 0, .int 0, .null, .null])), (l0, .inr (3, [.int 576, .int 1, .int 0, .int 0, .int 0, .int 0, .int 0, .int 0])), (pk, .inr (5, [.ref k0, .ref k1, .ref k2, .ref k3, .ref k4, .ref k5, .ref k6, .ref k7, .ref k8, .ref k9, .int 0, .int (-1), .int 0])), (k0, .inl (τ 0, 300, .inl (fun _ => 0))), (k1, .inl (τ 0, 300, .inl (fun _ => 0))), (k2, .inl (τ 0, 300, .inl (fun _ => 0))), (k3, .inl (τ 0, 300, .inl (fun _ => 0))), (k4, .inl (τ 0, 300, .inl (fun _ => 0))), (k5, .inl (τ 0, 300, .inl (fun _ => 0))), (k6, .inl (τ 0, 6, .inl (fil (fun _ => (-1)) (fun _ => 0) 6))), (k7, .inl (τ 0, 6, .inl (fil (fun _ => (-1)) (fun _ => 0) 6))), (k8, .inl (τ 0, 6, .inl (fun _ => 0))), (k9, .inl (τ 0, 6, .inl (fun _ => 0))), (st, .inr (7, [.int 0, .int 60, .int 0, .int 576, .int 27, .int (-1), .int 1, .int 0, .ref aL, .ref aD, .ref aH, .ref pk, .ref nt, .ref ac])), (aL, .inl (τ 3, 6, .inr (.inr (.inr (.inr (fL)))))), (tx, .inr (8, [.ref to, .int 4])), (to, .inl (τ 1, 2048, .inl (g2)))] H _ := Y
  refine lv_aload_n B.1 B.2.1 dX9_writePath_70 rfl (lv_at hl 2 rfl) ?_
  refine gf_X9_19 B Y 0 rfl rfl dX9_writePath_71 ?_
  refine lv_aload_n B.1 B.2.1 dX9_writePath_74 rfl (lv_at hl 2 rfl) ?_
  refine gf_X9_30 B Y 0 rfl rfl dX9_writePath_75 ?_
  refine gf_X9_194 B Y 13 rfl rfl dX9_writePath_78 ?_
  refine lv_iload_n B.1 B.2.1 dX9_writePath_81 rfl (lv_at hl 1 rfl) ?_
  refine retI (wc := [(pk, .inr (5, [.ref k0, .ref k1, .ref k2, .ref k3, .ref k4, .ref k5, .ref k6, .ref k7, .ref k8, .ref k9, .int 0, .int (-1), .int 0])), (k8, .inl (τ 0, 6, .inl (fun _ => 0)))]) (wr := [(x, .inr (9, [.ref rd, .ref tx, .ref bu, .ref st, .ref pa, .int 0, .int 0, .null, .null])), (l0, .inr (3, [.int 576, .int 1, .int 0, .int 0, .int 0, .int 0, .int 0, .int 0])), (k0, .inl (τ 0, 300, .inl (fun _ => 0))), (k1, .inl (τ 0, 300, .inl (fun _ => 0))), (k2, .inl (τ 0, 300, .inl (fun _ => 0))), (k3, .inl (τ 0, 300, .inl (fun _ => 0))), (k4, .inl (τ 0, 300, .inl (fun _ => 0))), (k5, .inl (τ 0, 300, .inl (fun _ => 0))), (k6, .inl (τ 0, 6, .inl (fil (fun _ => (-1)) (fun _ => 0) 6))), (k7, .inl (τ 0, 6, .inl (fil (fun _ => (-1)) (fun _ => 0) 6))), (k9, .inl (τ 0, 6, .inl (fun _ => 0))), (st, .inr (7, [.int 0, .int 60, .int 0, .int 576, .int 27, .int (-1), .int 1, .int 0, .ref aL, .ref aD, .ref aH, .ref pk, .ref nt, .ref ac])), (aL, .inl (τ 3, 6, .inr (.inr (.inr (.inr (fL)))))), (tx, .inr (8, [.ref to, .int 4])), (to, .inl (τ 1, 2048, .inl (g2)))]) Y [2, 11] [0, 1, 3, 4, 5, 6, 7, 8, 9, 10, 12, 13, 14, 15, 16] rfl rfl (by decide) (by decide) (rV (As := [.int 0]) (rest := [.ref tx]) (q0 := 2) B Y [2, 11] (by decide) rfl (k_waitingOn l D τ _ pk k0 k1 k2 k3 k4 k5 k6 k7 k8 k9) rfl rfl q_817 q_818 q_819 q_5 q_820 rfl rfl hd_X5_waitingOn ⟨(Nat.le_of_ble_eq_true rfl), (Nat.le_of_ble_eq_true rfl)⟩ rfl hl.1 rfl (Nat.le_of_ble_eq_true rfl) dX9_writePath_82 ⟨(Nat.le_of_ble_eq_true rfl), (Nat.le_of_ble_eq_true rfl)⟩) (fun r u H locs hw Y => ?_)
  have hw : r = 0 := hw
  subst hw
  have Y : Wd D τ s A s.heap [(x, .inr (9, [.ref rd, .ref tx, .ref bu, .ref st, .ref pa, .int 0, .int 0, .null, .null])), (l0, .inr (3, [.int 576, .int 1, .int 0, .int 0, .int 0, .int 0, .int 0, .int 0])), (k0, .inl (τ 0, 300, .inl (fun _ => 0))), (k1, .inl (τ 0, 300, .inl (fun _ => 0))), (k2, .inl (τ 0, 300, .inl (fun _ => 0))), (k3, .inl (τ 0, 300, .inl (fun _ => 0))), (k4, .inl (τ 0, 300, .inl (fun _ => 0))), (k5, .inl (τ 0, 300, .inl (fun _ => 0))), (k6, .inl (τ 0, 6, .inl (fil (fun _ => (-1)) (fun _ => 0) 6))), (k7, .inl (τ 0, 6, .inl (fil (fun _ => (-1)) (fun _ => 0) 6))), (k9, .inl (τ 0, 6, .inl (fun _ => 0))), (st, .inr (7, [.int 0, .int 60, .int 0, .int 576, .int 27, .int (-1), .int 1, .int 0, .ref aL, .ref aD, .ref aH, .ref pk, .ref nt, .ref ac])), (aL, .inl (τ 3, 6, .inr (.inr (.inr (.inr (fL)))))), (tx, .inr (8, [.ref to, .int 4])), (to, .inl (τ 1, 2048, .inl (g2))), (pk, .inr (5, [.ref k0, .ref k1, .ref k2, .ref k3, .ref k4, .ref k5, .ref k6, .ref k7, .ref k8, .ref k9, .int 0, .int (-1), .int 0])), (k8, .inl (τ 0, 6, .inl (fun _ => 0)))] H _ := Y
  refine retV (wc := [(tx, .inr (8, [.ref to, .int 4])), (to, .inl (τ 1, 2048, .inl (g2)))]) (wr := [(x, .inr (9, [.ref rd, .ref tx, .ref bu, .ref st, .ref pa, .int 0, .int 0, .null, .null])), (l0, .inr (3, [.int 576, .int 1, .int 0, .int 0, .int 0, .int 0, .int 0, .int 0])), (k0, .inl (τ 0, 300, .inl (fun _ => 0))), (k1, .inl (τ 0, 300, .inl (fun _ => 0))), (k2, .inl (τ 0, 300, .inl (fun _ => 0))), (k3, .inl (τ 0, 300, .inl (fun _ => 0))), (k4, .inl (τ 0, 300, .inl (fun _ => 0))), (k5, .inl (τ 0, 300, .inl (fun _ => 0))), (k6, .inl (τ 0, 6, .inl (fil (fun _ => (-1)) (fun _ => 0) 6))), (k7, .inl (τ 0, 6, .inl (fil (fun _ => (-1)) (fun _ => 0) 6))), (k9, .inl (τ 0, 6, .inl (fun _ => 0))), (st, .inr (7, [.int 0, .int 60, .int 0, .int 576, .int 27, .int (-1), .int 1, .int 0, .ref aL, .ref aD, .ref aH, .ref pk, .ref nt, .ref ac])), (aL, .inl (τ 3, 6, .inr (.inr (.inr (.inr (fL)))))), (pk, .inr (5, [.ref k0, .ref k1, .ref k2, .ref k3, .ref k4, .ref k5, .ref k6, .ref k7, .ref k8, .ref k9, .int 0, .int (-1), .int 0])), (k8, .inl (τ 0, 6, .inl (fun _ => 0)))]) Y [13, 14] [0, 1, 2, 3, 4, 5, 6, 7, 8, 9, 10, 11, 12, 15, 16] rfl rfl (by decide) (by decide) (rV (As := [.int 0]) (rest := []) (q0 := 13) B Y [13, 14] (by decide) rfl (k_putNumber0 l D τ _ tx to (g2)) rfl rfl q_811 q_812 q_813 q_3 q_814 rfl rfl hd_X8_putNumber ⟨(Nat.le_of_ble_eq_true rfl), (Nat.le_of_ble_eq_true rfl)⟩ rfl hl.1 rfl (Nat.le_of_ble_eq_true rfl) dX9_writePath_85 ⟨(Nat.le_of_ble_eq_true rfl), (Nat.le_of_ble_eq_true rfl)⟩) (fun u H locs hw Y => ?_)
  obtain ⟨g3, rfl⟩ : ∃ z, z = u := ⟨_, rfl⟩
  have Y : Wd D τ s A s.heap [(x, .inr (9, [.ref rd, .ref tx, .ref bu, .ref st, .ref pa, .int 0, .int 0, .null, .null])), (l0, .inr (3, [.int 576, .int 1, .int 0, .int 0, .int 0, .int 0, .int 0, .int 0])), (k0, .inl (τ 0, 300, .inl (fun _ => 0))), (k1, .inl (τ 0, 300, .inl (fun _ => 0))), (k2, .inl (τ 0, 300, .inl (fun _ => 0))), (k3, .inl (τ 0, 300, .inl (fun _ => 0))), (k4, .inl (τ 0, 300, .inl (fun _ => 0))), (k5, .inl (τ 0, 300, .inl (fun _ => 0))), (k6, .inl (τ 0, 6, .inl (fil (fun _ => (-1)) (fun _ => 0) 6))), (k7, .inl (τ 0, 6, .inl (fil (fun _ => (-1)) (fun _ => 0) 6))), (k9, .inl (τ 0, 6, .inl (fun _ => 0))), (st, .inr (7, [.int 0, .int 60, .int 0, .int 576, .int 27, .int (-1), .int 1, .int 0, .ref aL, .ref aD, .ref aH, .ref pk, .ref nt, .ref ac])), (aL, .inl (τ 3, 6, .inr (.inr (.inr (.inr (fL)))))), (pk, .inr (5, [.ref k0, .ref k1, .ref k2, .ref k3, .ref k4, .ref k5, .ref k6, .ref k7, .ref k8, .ref k9, .int 0, .int (-1), .int 0])), (k8, .inl (τ 0, 6, .inl (fun _ => 0))), (tx, .inr (8, [.ref to, .int 5])), (to, .inl (τ 1, 2048, .inl (g3)))] H _ := Y
  refine lv_iinc (v := 1) (lv' := [(1, .int 1), (2, .ref l0), (0, .ref x)]) B.1 B.2.1 dX9_writePath_88 hl (k := 1) rfl (by decide) (by decide) rfl (fun ls hl => ?_)
  refine lv_goto (tgt := 10) B.1 B.2.1 dX9_writePath_91 (by decide) ?_
  refine lv_iload_n B.1 B.2.1 dX9_writePath_10 rfl (lv_at hl 0 rfl) ?_
  refine lv_aload_n B.1 B.2.1 dX9_writePath_11 rfl (lv_at hl 2 rfl) ?_
  refine gf_X9_30 B Y 0 rfl rfl dX9_writePath_12 ?_
  refine gf_X9_182 B Y 11 rfl rfl dX9_writePath_15 ?_
  refine lv_icmp_ge (tgt := 94) B.1 B.2.1 dX9_writePath_18 (by decide) (fun _ => ?_) (fun h => absurd (by decide) h)
  refine lv_aload_n B.1 B.2.1 dX9_writePath_94 rfl (lv_at hl 2 rfl) ?_
  refine gf_X9_19 B Y 0 rfl rfl dX9_writePath_95 ?_
  refine gf_X9_419 B Y 15 rfl rfl dX9_writePath_98 ?_
  exact endI B hr hlk Y () rfl [] (by decide) rfl (Nat.le_of_ble_eq_true rfl) (Nat.le_of_ble_eq_true rfl) dX9_writePath_101
