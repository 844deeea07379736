theorem SbR.app {T X : List Int} {cap : Nat} {f fk : Nat → Int32} (h : SbR T cap f) (hc : T.length + X.length ≤ cap) (hk : ∀ j : Nat, j < X.length → fk j = iI (X.getD j 0)) (hf : ∀ j : Nat, fits .byte (.int (fk j)) = true) : SbR (T ++ X) cap (va_cpy fk f 0 T.length X.length) := by
  obtain ⟨a1, a2, a3, a4⟩ := h
  refine ⟨by rw [List.length_append]; exact hc, a2, fun j hj => ?_, fun j => fit_cpy hf a4 j⟩
  rw [List.length_append] at hj
  unfold va_cpy
  by_cases q : j < T.length
  · rw [if_neg (by omega), a3 j q, getD_l0 q]
  · rw [if_pos ⟨by omega, by omega⟩, hk _ (by omega), getD_r0 (by omega), Nat.zero_add]
theorem SbR.put {T : List Int} {cap : Nat} {f : Nat → Int32} {ch : Int} (h : SbR T cap f) (hc : T.length + 1 ≤ cap) (h0 : 0 ≤ ch ∧ ch ≤ 127) : SbR (T ++ [ch]) cap (upd f T.length (iI ch)) := by
  obtain ⟨a1, a2, a3, a4⟩ := h
  refine ⟨by rw [List.length_append]; exact hc, a2, fun j hj => ?_, fun j => ?_⟩
  · rw [List.length_append] at hj
    have hj : j < T.length + 1 := hj
    unfold upd
    by_cases q : j = T.length
    · subst q; rw [if_pos rfl, getD_r0 (Nat.le_refl _), Nat.sub_self]; rfl
    · rw [if_neg q, a3 j (by omega), getD_l0 (by omega)]
  · unfold upd
    split
    · exact fit_lo h0
    · exact a4 j
set_option maxHeartbeats 4000000 in
set_option maxRecDepth 100000 in
theorem k5_infl (l : Launch) (D : va_G) (τ : Nat → ClassId) (sz : Nat) (K : Nat → Nat) (sb va : Nat) (cnt : Int) (i : Nat) (hi : i < 20) : Met l yJ5_inflateIfNeededFor_a7421 (Cond.code yJ5_inflateIfNeededFor_a7421 cJ5_inflateIfNeededFor_a7421 2 none :: wALL) { frames := 1, cells := 0, slots := 0, locals := 20 } (PwE (KJ K) D τ (bl [[(sb, .inr (1, [.ref va, .int (iI (0)), .int (iI (0)), .int (iI (cnt))]))]]) sz [.ref sb, .ref (K (2 * i))]) (va_Qv (fun (_ : Unit) => True) (Bb D (va_A (bl [[(sb, .inr (1, [.ref va, .int (iI (0)), .int (iI (0)), .int (iI (cnt))]))]]) sz) (fun (_ : Unit) => [[(sb, .inr (1, [.ref va, .int (iI (0)), .int (iI (0)), .int (iI (cnt))]))]])) (va_A (bl [[(sb, .inr (1, [.ref va, .int (iI (0)), .int (iI (0)), .int (iI (cnt))]))]]) sz)) 0 0 (va_A (bl [[(sb, .inr (1, [.ref va, .int (iI (0)), .int (iI (0)), .int (iI (cnt))]))]]) sz) := by
  refine bodyE (by decide +kernel) (Nat.le_of_ble_eq_true rfl) (fun p e s m below meth c ls B hr hlk hin hsz Y hK hl => ?_)
  have hl : lv_has ls 2 [(0, .ref sb), (1, .ref (K (2 * i)))] := hl
  have B : CallFix p m c cJ5_inflateIfNeededFor_a7421 2 s _ wALL RJ5 := B
  generalize va_A (bl [[(sb, .inr (1, [.ref va, .int (iI (0)), .int (iI (0)), .int (iI (cnt))]))]]) sz = A at Y hK ⊢
  have hE := hK.1
  refine va_gets B.1 B.2.1 hE.cmp Y.2.2.2.1 B.2.2.2.1 (B.2.2.2.2 _ q_1282) (fun _ h => h) dJ5_inflateIfNeededFor_a7421_0 ?_
  refine lv_if_eq (tgt := 21) B.1 B.2.1 dJ5_inflateIfNeededFor_a7421_3 (by decide) (fun h => absurd h (by decide)) (fun _ => ?_)
  refine lv_aload_n B.1 B.2.1 dJ5_inflateIfNeededFor_a7421_6 rfl (lv_at hl 0 rfl) ?_
  refine gf_J5_22 B Y 0 rfl rfl dJ5_inflateIfNeededFor_a7421_7 ?_
  refine lv_aload_n B.1 B.2.1 dJ5_inflateIfNeededFor_a7421_10 rfl (lv_at hl 1 rfl) ?_
  refine qI (Cs := []) (Rs := [[(sb, .inr (1, [.ref va, .int (iI (0)), .int (iI (0)), .int (iI (cnt))]))]]) Y [] [0] (by decide) rfl (cVK (As := []) (rest := [.int (iI (0))]) (vk_recv (hE.str i hi) (i := 0) (by decide) Y.2.2.2.1) (Ke.ok K) hE B Y [] (by decide) rfl (k_coderK l D τ _ K i hi) q_1370 q_705 q_706 q_15 q_707 rfl rfl hd_J0_coder_7d493 ⟨(Nat.le_of_ble_eq_true rfl), (Nat.le_of_ble_eq_true rfl)⟩ rfl hl.1 rfl (Nat.le_of_ble_eq_true rfl) dJ5_inflateIfNeededFor_a7421_11 ⟨(Nat.le_of_ble_eq_true rfl), (Nat.le_of_ble_eq_true rfl)⟩) (fun r u H locs hw Y => ?_)
  subst hw
  have Y : Wd D τ s A s.heap (bl [[(sb, .inr (1, [.ref va, .int (iI (0)), .int (iI (0)), .int (iI (cnt))]))]]) _ _ := Y
  refine lv_icmp_eq (tgt := 21) B.1 B.2.1 dJ5_inflateIfNeededFor_a7421_14 (by decide) (fun _ => ?_) (fun h => absurd (by decide) h) 
  exact eV B hr hlk Y () trivial [0] (by decide) rfl (Nat.le_of_ble_eq_true rfl) (Nat.le_of_ble_eq_true rfl) dJ5_inflateIfNeededFor_a7421_21

set_option maxHeartbeats 4000000 in
set_option maxRecDepth 100000 in
theorem k0_getBytes (l : Launch) (D : va_G) (τ : Nat → ClassId) (sz : Nat) (K : Nat → Nat) (i : Nat) (hi : i < 20) (a n dd : Nat) (g : Nat → Int32) (h1 : dd + (ksZ i).length ≤ n) (h2 : n ≤ 1002) : Met l yJ0_getBytes_840e7 (Cond.code yJ0_getBytes_840e7 cJ0_getBytes_840e7 4 none :: wALL) { frames := 1, cells := 0, slots := 0, locals := 60 } (PwE (Ke K) D τ (bl [[(a, .inl (τ 1, n, .inl (g)))]]) sz [.ref (K (2 * i)), .ref a, .int (iI ((dd : Nat) : Int)), .int (iI (0))]) (va_Qv (fun (_ : Unit) => True) (Bb D (va_A (bl [[(a, .inl (τ 1, n, .inl (g)))]]) sz) (fun (_ : Unit) => [[(a, .inl (τ 1, n, .inl (va_cpy (fun j => (ksBl.getD i []).getD j 0) g 0 dd (ksZ i).length)))]])) (va_A (bl [[(a, .inl (τ 1, n, .inl (g)))]]) sz)) 0 0 (va_A (bl [[(a, .inl (τ 1, n, .inl (g)))]]) sz) := by
  refine bodyE (by decide +kernel) (Nat.le_of_ble_eq_true rfl) (fun p e s m below meth c ls B hr hlk hin hsz Y hE hl => ?_)
  have hl : lv_has ls 4 [(0, .ref (K (2 * i))), (1, .ref a), (2, .int (iI ((dd : Nat) : Int))), (3, .int (iI (0)))] := hl
  have B : CallFix p m c cJ0_getBytes_840e7 4 s _ wALL RJ0 := B
  generalize va_A (bl [[(a, .inl (τ 1, n, .inl (g)))]]) sz = A at Y hE ⊢
  refine lv_aload_n B.1 B.2.1 dJ0_getBytes_840e7_0 rfl (lv_at hl 0 rfl) ?_
  refine qI (Cs := []) (Rs := [[(a, .inl (τ 1, n, .inl (g)))]]) Y [] [0] (by decide) rfl (cVK (As := []) (rest := []) (vk_recv (hE.str i hi) (i := 0) (by decide) Y.2.2.2.1) (Ke.ok K) hE B Y [] (by decide) rfl (k_coderK l D τ _ K i hi) q_704 q_705 q_706 q_15 q_707 rfl rfl hd_J0_coder_7d493 ⟨(Nat.le_of_ble_eq_true rfl), (Nat.le_of_ble_eq_true rfl)⟩ rfl hl.1 rfl (Nat.le_of_ble_eq_true rfl) dJ0_getBytes_840e7_1 ⟨(Nat.le_of_ble_eq_true rfl), (Nat.le_of_ble_eq_true rfl)⟩) (fun r u H locs hw Y => ?_)
  subst hw
  have Y : Wd D τ s A s.heap (bl [[(a, .inl (τ 1, n, .inl (g)))]]) _ _ := Y
  refine lv_iload_n B.1 B.2.1 dJ0_getBytes_840e7_4 rfl (lv_at hl 3 rfl) ?_
  refine lv_icmp_ne (tgt := 28) B.1 B.2.1 dJ0_getBytes_840e7_5 (by decide) (fun h => absurd (by decide) h) (fun _ => ?_)
  refine lv_aload_n B.1 B.2.1 dJ0_getBytes_840e7_8 rfl (lv_at hl 0 rfl) ?_
  refine vk_getf B.1 B.2.1 (hE.val i hi) Y.2.2.2.1 B.2.2.2.1 (B.2.2.2.2 _ q_1493) (fun _ h => h) dJ0_getBytes_840e7_9 ?_
  refine lv_iconst (v := (iI (0))) B.1 B.2.1 dJ0_getBytes_840e7_12 (by decide) ?_
  refine lv_aload_n B.1 B.2.1 dJ0_getBytes_840e7_13 rfl (lv_at hl 1 rfl) ?_
  refine lv_iload_n B.1 B.2.1 dJ0_getBytes_840e7_14 rfl (lv_at hl 2 rfl) ?_
  refine lv_iload_n B.1 B.2.1 dJ0_getBytes_840e7_15 rfl (lv_at hl 3 rfl) ?_
  refine lv_ishl B.1 B.2.1 dJ0_getBytes_840e7_16 ?_
  refine lv_cv (v := (iI ((dd : Nat) : Int))) iI_shl0 ?_
  refine lv_aload_n B.1 B.2.1 dJ0_getBytes_840e7_17 rfl (lv_at hl 0 rfl) ?_
  refine vk_getf B.1 B.2.1 (hE.val i hi) Y.2.2.2.1 B.2.2.2.1 (B.2.2.2.2 _ q_1493) (fun _ h => h) dJ0_getBytes_840e7_18 ?_
  refine va_tlen (v := (iI (((ksZ i).length : Nat) : Int))) B.1 B.2.1 (hE.byt i hi) Y.2.2.2.1 (by rw [ksB_len]; exact iI_nat _) dJ0_getBytes_840e7_21 ?_
  refine b_copyk (n' := (ksZ i).length) (d' := dd) (h := va_cpy (fun j => (ksBl.getD i []).getD j 0) (g) 0 dd ((ksZ i).length)) (B' := [[(a, .inl (τ 1, n, .inl (va_cpy (fun j => (ksBl.getD i []).getD j 0) (g) 0 dd ((ksZ i).length))))]]) (hE.byt i hi) (fit_k i) B Y q_1394 q_622 q_621 q_18 hl.1 0 rfl (iI_pos (by omega)) (iI_clamp (by omega)) (iI_pos (by omega)) (iI_clamp (by omega)) (by rw [ksB_len]; omega) (by omega) rfl rfl (Nat.le_of_ble_eq_true rfl) (Nat.le_of_ble_eq_true rfl) dJ0_getBytes_840e7_22 (fun H locs Y => ?_)
  refine lv_goto (tgt := 43) B.1 B.2.1 dJ0_getBytes_840e7_25 (by decide) ?_
  exact eV B hr hlk Y () trivial [0] (by decide) rfl (Nat.le_of_ble_eq_true rfl) (Nat.le_of_ble_eq_true rfl) dJ0_getBytes_840e7_43

set_option maxHeartbeats 4000000 in
set_option maxRecDepth 100000 in
theorem k5_putStr (l : Launch) (D : va_G) (τ : Nat → ClassId) (sz : Nat) (K : Nat → Nat) (sb va cap dd : Nat) (cnt : Int) (f : Nat → Int32) (i : Nat) (hi : i < 20) (h1 : dd + (ksZ i).length ≤ cap) (h2 : cap ≤ 1002) : Met l yJ5_putStringAt_47b60 (Cond.code yJ5_putStringAt_47b60 cJ5_putStringAt_47b60 3 none :: wALL) { frames := 2, cells := 0, slots := 0, locals := 83 } (PwE (KJ K) D τ (bl [[(sb, .inr (1, [.ref va, .int (iI (0)), .int (iI (0)), .int (iI (cnt))]))], [(va, .inl (τ 1, cap, .inl (f)))]]) sz [.ref sb, .int (iI ((dd : Nat) : Int)), .ref (K (2 * i))]) (va_Qv (fun (_ : Unit) => True) (Bb D (va_A (bl [[(sb, .inr (1, [.ref va, .int (iI (0)), .int (iI (0)), .int (iI (cnt))]))], [(va, .inl (τ 1, cap, .inl (f)))]]) sz) (fun (_ : Unit) => [[(sb, .inr (1, [.ref va, .int (iI (0)), .int (iI (0)), .int (iI (cnt))]))], [(va, .inl (τ 1, cap, .inl (va_cpy (fun j => (ksBl.getD i []).getD j 0) f 0 dd (ksZ i).length)))]])) (va_A (bl [[(sb, .inr (1, [.ref va, .int (iI (0)), .int (iI (0)), .int (iI (cnt))]))], [(va, .inl (τ 1, cap, .inl (f)))]]) sz)) 0 0 (va_A (bl [[(sb, .inr (1, [.ref va, .int (iI (0)), .int (iI (0)), .int (iI (cnt))]))], [(va, .inl (τ 1, cap, .inl (f)))]]) sz) := by
  refine bodyE (by decide +kernel) (Nat.le_of_ble_eq_true rfl) (fun p e s m below meth c ls B hr hlk hin hsz Y hK hl => ?_)
  have hl : lv_has ls 3 [(0, .ref sb), (1, .int (iI ((dd : Nat) : Int))), (2, .ref (K (2 * i)))] := hl
  have B : CallFix p m c cJ5_putStringAt_47b60 3 s _ wALL RJ5 := B
  generalize va_A (bl [[(sb, .inr (1, [.ref va, .int (iI (0)), .int (iI (0)), .int (iI (cnt))]))], [(va, .inl (τ 1, cap, .inl (f)))]]) sz = A at Y hK ⊢
  have hE := hK.1
  refine lv_aload_n B.1 B.2.1 dJ5_putStringAt_47b60_0 rfl (lv_at hl 0 rfl) ?_
  refine lv_aload_n B.1 B.2.1 dJ5_putStringAt_47b60_1 rfl (lv_at hl 2 rfl) ?_
  refine qV (Cs := [[(sb, .inr (1, [.ref va, .int (iI (0)), .int (iI (0)), .int (iI (cnt))]))]]) (Rs := [[(va, .inl (τ 1, cap, .inl (f)))]]) Y [0] [1] (by decide) rfl (cVU (As := [.ref (K (2 * i))]) (rest := []) (q0 := 0) (KJ.ok K) hK B Y [0] (by decide) rfl (k5_infl l D τ _ K sb va cnt i hi) rfl q_1366 q_1368 (hK.sel (by decide +kernel)) q_13 q_1369 q_1554 rfl rfl hd_J5_inflateIfNeededFor_a7421 ⟨(Nat.le_of_ble_eq_true rfl), (Nat.le_of_ble_eq_true rfl)⟩ rfl hl.1 rfl (Nat.le_of_ble_eq_true rfl) dJ5_putStringAt_47b60_2 ⟨(Nat.le_of_ble_eq_true rfl), (Nat.le_of_ble_eq_true rfl)⟩) (fun u H locs hw Y => ?_)
  have Y : Wd D τ s A s.heap (bl [[(sb, .inr (1, [.ref va, .int (iI (0)), .int (iI (0)), .int (iI (cnt))]))], [(va, .inl (τ 1, cap, .inl (f)))]]) _ _ := Y
  refine lv_aload_n B.1 B.2.1 dJ5_putStringAt_47b60_5 rfl (lv_at hl 2 rfl) ?_
  refine lv_aload_n B.1 B.2.1 dJ5_putStringAt_47b60_6 rfl (lv_at hl 0 rfl) ?_
  refine gf_J5_15 B Y 0 rfl rfl dJ5_putStringAt_47b60_7 ?_
  refine lv_iload_n B.1 B.2.1 dJ5_putStringAt_47b60_10 rfl (lv_at hl 1 rfl) ?_
  refine lv_aload_n B.1 B.2.1 dJ5_putStringAt_47b60_11 rfl (lv_at hl 0 rfl) ?_
  refine gf_J5_22 B Y 0 rfl rfl dJ5_putStringAt_47b60_12 ?_
  refine qV (Cs := [[(va, .inl (τ 1, cap, .inl (f)))]]) (Rs := [[(sb, .inr (1, [.ref va, .int (iI (0)), .int (iI (0)), .int (iI (cnt))]))]]) Y [1] [0] (by decide) rfl (cVK (As := [.ref va, .int (iI ((dd : Nat) : Int)), .int (iI (0))]) (rest := []) (vk_recv (hE.str i hi) (i := 0) (by decide) Y.2.2.2.1) (Ke.ok K) hE B Y [1] (by decide) rfl (k0_getBytes l D τ _ K i hi va cap dd (f) (by omega) (by omega)) q_1390 q_1391 q_1392 q_15 q_1393 rfl rfl hd_J0_getBytes_840e7 ⟨(Nat.le_of_ble_eq_true rfl), (Nat.le_of_ble_eq_true rfl)⟩ rfl hl.1 rfl (Nat.le_of_ble_eq_true rfl) dJ5_putStringAt_47b60_15 ⟨(Nat.le_of_ble_eq_true rfl), (Nat.le_of_ble_eq_true rfl)⟩) (fun u H locs hw Y => ?_)
  have Y : Wd D τ s A s.heap (bl [[(va, .inl (τ 1, cap, .inl (va_cpy (fun j => (ksBl.getD i []).getD j 0) (f) 0 dd (ksZ i).length)))], [(sb, .inr (1, [.ref va, .int (iI (0)), .int (iI (0)), .int (iI (cnt))]))]]) _ _ := Y
  exact eV B hr hlk Y () trivial [1, 0] (by decide) rfl (Nat.le_of_ble_eq_true rfl) (Nat.le_of_ble_eq_true rfl) dJ5_putStringAt_47b60_18

set_option maxHeartbeats 4000000 in
set_option maxRecDepth 100000 in
theorem k5_appStr (l : Launch) (D : va_G) (τ : Nat → ClassId) (sz : Nat) (K : Nat → Nat) (sb va cap : Nat) (T : List Int) (f : Nat → Int32) (hS : SbR T cap f) (i : Nat) (hi : i < 20) (hl5 : T.length + (ksZ i).length ≤ 500) : Met l yJ5_append_cf1ce (Cond.code yJ5_append_cf1ce cJ5_append_cf1ce 3 (some (.object "java/lang/AbstractStringBuilder")) :: wALL) { frames := 4, cells := 1, slots := 2006, locals := 130 } (PwE (KJ K) D τ (bl [[(sb, .inr (1, [.ref va, .int (iI (0)), .int (iI (0)), .int (iI (((T.length : Nat) : Int)))]))], [(va, .inl (τ 1, cap, .inl (f)))]]) sz [.ref sb, .ref (K (2 * i))]) (va_Qq (fun (r : Option Nat) (u : (Nat × Nat × (Nat → Int32))) => r = some sb ∧ SbR (T ++ ksZ i) u.2.1 u.2.2) (Bb D (va_A (bl [[(sb, .inr (1, [.ref va, .int (iI (0)), .int (iI (0)), .int (iI (((T.length : Nat) : Int)))]))], [(va, .inl (τ 1, cap, .inl (f)))]]) sz) (fun (u : (Nat × Nat × (Nat → Int32))) => [[(sb, .inr (1, [.ref u.1, .int (iI (0)), .int (iI (0)), .int (iI ((((T ++ ksZ i).length : Nat) : Int)))]))], [(u.1, .inl (τ 1, u.2.1, .inl (u.2.2)))]])) (va_A (bl [[(sb, .inr (1, [.ref va, .int (iI (0)), .int (iI (0)), .int (iI (((T.length : Nat) : Int)))]))], [(va, .inl (τ 1, cap, .inl (f)))]]) sz)) 1 2006 (va_A (bl [[(sb, .inr (1, [.ref va, .int (iI (0)), .int (iI (0)), .int (iI (((T.length : Nat) : Int)))]))], [(va, .inl (τ 1, cap, .inl (f)))]]) sz) := by
  refine bodyE (by decide +kernel) (Nat.le_of_ble_eq_true rfl) (fun p e s m below meth c ls B hr hlk hin hsz Y hK hl => ?_)
  have hl : lv_has ls 3 [(0, .ref sb), (1, .ref (K (2 * i)))] := hl
  have B : CallFix p m c cJ5_append_cf1ce 3 s _ wALL RJ5 := B
  generalize va_A (bl [[(sb, .inr (1, [.ref va, .int (iI (0)), .int (iI (0)), .int (iI (((T.length : Nat) : Int)))]))], [(va, .inl (τ 1, cap, .inl (f)))]]) sz = A at Y hK ⊢
  have hE := hK.1
  have hln := ksZ_le i
  refine lv_aload_n B.1 B.2.1 dJ5_append_cf1ce_0 rfl (lv_at hl 1 rfl) ?_
  refine lv_ifnonnull (tgt := 9) B.1 B.2.1 dJ5_append_cf1ce_1 (by decide) ?_
  refine lv_aload_n B.1 B.2.1 dJ5_append_cf1ce_9 rfl (lv_at hl 1 rfl) ?_
  refine qI (Cs := []) (Rs := [[(sb, .inr (1, [.ref va, .int (iI (0)), .int (iI (0)), .int (iI (((T.length : Nat) : Int)))]))], [(va, .inl (τ 1, cap, .inl (f)))]]) Y [] [0, 1] (by decide) rfl (cVK (As := []) (rest := []) (vk_recv (hE.str i hi) (i := 0) (by decide) Y.2.2.2.1) (Ke.ok K) hE B Y [] (by decide) rfl (k_lenK l D τ _ K i hi) q_1361 q_701 q_702 q_15 q_703 rfl rfl hd_J0_length_8abf5 ⟨(Nat.le_of_ble_eq_true rfl), (Nat.le_of_ble_eq_true rfl)⟩ rfl hl.1 rfl (Nat.le_of_ble_eq_true rfl) dJ5_append_cf1ce_10 ⟨(Nat.le_of_ble_eq_true rfl), (Nat.le_of_ble_eq_true rfl)⟩) (fun r u H locs hw Y => ?_)
  subst hw
  have Y : Wd D τ s A s.heap (bl [[(sb, .inr (1, [.ref va, .int (iI (0)), .int (iI (0)), .int (iI (((T.length : Nat) : Int)))]))], [(va, .inl (τ 1, cap, .inl (f)))]]) _ _ := Y
  refine lv_istore_n (lv' := [(2, .int (iI (((ksZ i).length : Nat) : Int))), (0, .ref sb), (1, .ref (K (2 * i)))]) B.1 B.2.1 dJ5_append_cf1ce_13 rfl hl (by decide) rfl (fun ls hl => ?_)
  refine lv_aload_n B.1 B.2.1 dJ5_append_cf1ce_14 rfl (lv_at hl 1 rfl) ?_
  refine lv_aload_n B.1 B.2.1 dJ5_append_cf1ce_15 rfl (lv_at hl 1 rfl) ?_
  refine gf_J5_79 B Y 0 rfl rfl dJ5_append_cf1ce_16 ?_
  refine lv_iload_n B.1 B.2.1 dJ5_append_cf1ce_19 rfl (lv_at hl 0 rfl) ?_
  refine lv_iadd B.1 B.2.1 dJ5_append_cf1ce_20 ?_
  refine lv_cv (v := (iI (((T.length + (ksZ i).length) : Nat) : Int))) (iI_add _ _) ?_
  refine qV (Cs := [[(sb, .inr (1, [.ref va, .int (iI (0)), .int (iI (0)), .int (iI (((T.length : Nat) : Int)))]))], [(va, .inl (τ 1, cap, .inl (f)))]]) (Rs := []) Y [0, 1] [] (by decide) rfl (cVU (As := [.int (iI (((T.length + (ksZ i).length) : Nat) : Int))]) (rest := []) (q0 := 0) (KJ.ok K) hK B Y [0, 1] (by decide) rfl (k5_ensure l D τ _ K sb va cap (T.length + (ksZ i).length) T (f) hS (by omega)) rfl q_1316 q_1318 (hK.sel (by decide +kernel)) q_13 q_1319 q_1551 rfl rfl hd_J5_ensureCapacityInternal_d00df ⟨(Nat.le_of_ble_eq_true rfl), (Nat.le_of_ble_eq_true rfl)⟩ rfl hl.1 rfl (Nat.le_of_ble_eq_true rfl) dJ5_append_cf1ce_21 ⟨(Nat.le_of_ble_eq_true rfl), (Nat.le_of_ble_eq_true rfl)⟩) (fun u6 H locs hw Y => ?_)
  obtain ⟨hS6, hm6⟩ := hw
  have Y : Wd D τ s A s.heap (bl [[(sb, .inr (1, [.ref u6.1, .int (iI (0)), .int (iI (0)), .int (iI (((T.length : Nat) : Int)))]))], [(u6.1, .inl (τ 1, u6.2.1, .inl (u6.2.2)))]]) _ _ := Y
  refine W.widen (k := 1) (n := 2006) (Nat.le_of_ble_eq_true rfl) (Nat.le_of_ble_eq_true rfl) ?_
  have hc6 := hS6.2.1
  refine lv_aload_n B.1 B.2.1 dJ5_append_cf1ce_24 rfl (lv_at hl 1 rfl) ?_
  refine lv_aload_n B.1 B.2.1 dJ5_append_cf1ce_25 rfl (lv_at hl 1 rfl) ?_
  refine gf_J5_79 B Y 0 rfl rfl dJ5_append_cf1ce_26 ?_
  refine lv_aload_n B.1 B.2.1 dJ5_append_cf1ce_29 rfl (lv_at hl 2 rfl) ?_
  refine qV (Cs := [[(sb, .inr (1, [.ref u6.1, .int (iI (0)), .int (iI (0)), .int (iI (((T.length : Nat) : Int)))]))], [(u6.1, .inl (τ 1, u6.2.1, .inl (u6.2.2)))]]) (Rs := []) Y [0, 1] [] (by decide) rfl (cVU (As := [.int (iI (((T.length : Nat) : Int))), .ref (K (2 * i))]) (rest := []) (q0 := 0) (KJ.ok K) hK B Y [0, 1] (by decide) rfl (k5_putStr l D τ _ K sb u6.1 u6.2.1 T.length (((T.length : Nat) : Int)) (u6.2.2) i hi (by omega) (by omega)) rfl q_1362 q_1364 (hK.sel (by decide +kernel)) q_13 q_1365 q_1553 rfl rfl hd_J5_putStringAt_47b60 ⟨(Nat.le_of_ble_eq_true rfl), (Nat.le_of_ble_eq_true rfl)⟩ rfl hl.1 rfl (Nat.le_of_ble_eq_true rfl) dJ5_append_cf1ce_30 ⟨(Nat.le_of_ble_eq_true rfl), (Nat.le_of_ble_eq_true rfl)⟩) (fun u H locs hw Y => ?_)
  have Y : Wd D τ s A s.heap (bl [[(sb, .inr (1, [.ref u6.1, .int (iI (0)), .int (iI (0)), .int (iI (((T.length : Nat) : Int)))]))], [(u6.1, .inl (τ 1, u6.2.1, .inl (va_cpy (fun j => (ksBl.getD i []).getD j 0) (u6.2.2) 0 T.length (ksZ i).length)))]]) _ _ := Y
  refine lv_aload_n B.1 B.2.1 dJ5_append_cf1ce_33 rfl (lv_at hl 1 rfl) ?_
  refine lv_dup B.1 B.2.1 dJ5_append_cf1ce_34 rfl ?_
  refine gf_J5_79 B Y 0 rfl rfl dJ5_append_cf1ce_35 ?_
  refine lv_iload_n B.1 B.2.1 dJ5_append_cf1ce_38 rfl (lv_at hl 0 rfl) ?_
  refine lv_iadd B.1 B.2.1 dJ5_append_cf1ce_39 ?_
  refine lv_cv (v := (iI (((T.length + (ksZ i).length) : Nat) : Int))) (iI_add _ _) ?_
  refine pf_J5_79 (B' := [[(sb, .inr (1, [.ref u6.1, .int (iI (0)), .int (iI (0)), .int (iI (((T.length + (ksZ i).length) : Nat) : Int))]))], [(u6.1, .inl (τ 1, u6.2.1, .inl (va_cpy (fun j => (ksBl.getD i []).getD j 0) (u6.2.2) 0 T.length (ksZ i).length)))]]) B Y 0 rfl (Nat.le_of_ble_eq_true rfl) rfl dJ5_append_cf1ce_40 (fun H locs Y => ?_)
  refine lv_aload_n B.1 B.2.1 dJ5_append_cf1ce_43 rfl (lv_at hl 1 rfl) ?_
  rw [← List.length_append] at Y
  exact eQ (r := some sb) B hr hlk Y (u6.1, u6.2.1, va_cpy (fun j => (ksBl.getD i []).getD j 0) u6.2.2 0 T.length (ksZ i).length) ⟨rfl, SbR.app hS6 (by omega) (fun j _ => ksB_at i j) (fit_k i)⟩ [0, 1] (by decide) rfl (Nat.le_of_ble_eq_true rfl) (Nat.le_of_ble_eq_true rfl) dJ5_append_cf1ce_44

set_option maxHeartbeats 4000000 in
set_option maxRecDepth 100000 in
theorem k4_appStr (l : Launch) (D : va_G) (τ : Nat → ClassId) (sz : Nat) (K : Nat → Nat) (sb va cap : Nat) (T : List Int) (f : Nat → Int32) (hS : SbR T cap f) (i : Nat) (hi : i < 20) (hl5 : T.length + (ksZ i).length ≤ 500) : Met l yJ4_append_15ec4 (Cond.code yJ4_append_15ec4 cJ4_append_15ec4 2 (some (.object "java/lang/StringBuilder")) :: wALL) { frames := 5, cells := 1, slots := 2006, locals := 152 } (PwE (KJ K) D τ (bl [[(sb, .inr (1, [.ref va, .int (iI (0)), .int (iI (0)), .int (iI (((T.length : Nat) : Int)))]))], [(va, .inl (τ 1, cap, .inl (f)))]]) sz [.ref sb, .ref (K (2 * i))]) (va_Qq (fun (r : Option Nat) (u : (Nat × Nat × (Nat → Int32))) => r = some sb ∧ SbR (T ++ ksZ i) u.2.1 u.2.2) (Bb D (va_A (bl [[(sb, .inr (1, [.ref va, .int (iI (0)), .int (iI (0)), .int (iI (((T.length : Nat) : Int)))]))], [(va, .inl (τ 1, cap, .inl (f)))]]) sz) (fun (u : (Nat × Nat × (Nat → Int32))) => [[(sb, .inr (1, [.ref u.1, .int (iI (0)), .int (iI (0)), .int (iI ((((T ++ ksZ i).length : Nat) : Int)))]))], [(u.1, .inl (τ 1, u.2.1, .inl (u.2.2)))]])) (va_A (bl [[(sb, .inr (1, [.ref va, .int (iI (0)), .int (iI (0)), .int (iI (((T.length : Nat) : Int)))]))], [(va, .inl (τ 1, cap, .inl (f)))]]) sz)) 1 2006 (va_A (bl [[(sb, .inr (1, [.ref va, .int (iI (0)), .int (iI (0)), .int (iI (((T.length : Nat) : Int)))]))], [(va, .inl (τ 1, cap, .inl (f)))]]) sz) := by
  refine bodyE (by decide +kernel) (Nat.le_of_ble_eq_true rfl) (fun p e s m below meth c ls B hr hlk hin hsz Y hK hl => ?_)
  have hl : lv_has ls 2 [(0, .ref sb), (1, .ref (K (2 * i)))] := hl
  have B : CallFix p m c cJ4_append_15ec4 2 s _ wALL RJ4 := B
  generalize va_A (bl [[(sb, .inr (1, [.ref va, .int (iI (0)), .int (iI (0)), .int (iI (((T.length : Nat) : Int)))]))], [(va, .inl (τ 1, cap, .inl (f)))]]) sz = A at Y hK ⊢
  have hE := hK.1
  refine lv_aload_n B.1 B.2.1 dJ4_append_15ec4_0 rfl (lv_at hl 0 rfl) ?_
  refine lv_aload_n B.1 B.2.1 dJ4_append_15ec4_1 rfl (lv_at hl 1 rfl) ?_
  refine qQ (Cs := [[(sb, .inr (1, [.ref va, .int (iI (0)), .int (iI (0)), .int (iI (((T.length : Nat) : Int)))]))], [(va, .inl (τ 1, cap, .inl (f)))]]) (Rs := []) Y [0, 1] [] (by decide) rfl (cSU (As := [.ref (K (2 * i))]) (rest := []) (q0 := 0) (KJ.ok K) hK B Y [0, 1] (by decide) rfl (k5_appStr l D τ _ K sb va cap T (f) hS i hi (by omega)) rfl q_1309 q_1310 q_13 q_1311 q_1549 q_1302 (by decide) rfl rfl hd_J5_append_cf1ce ⟨(Nat.le_of_ble_eq_true rfl), (Nat.le_of_ble_eq_true rfl)⟩ rfl hl.1 rfl (Nat.le_of_ble_eq_true rfl) dJ4_append_15ec4_2 ⟨(Nat.le_of_ble_eq_true rfl), (Nat.le_of_ble_eq_true rfl)⟩) (fun r u6 H locs hw Y => ?_)
  obtain ⟨hw, hS6⟩ := hw
  subst hw
  have Y : Wd D τ s A s.heap (bl [[(sb, .inr (1, [.ref u6.1, .int (iI (0)), .int (iI (0)), .int (iI ((((T ++ ksZ i).length : Nat) : Int)))]))], [(u6.1, .inl (τ 1, u6.2.1, .inl (u6.2.2)))]]) _ _ := Y
  refine W.widen (k := 1) (n := 2006) (Nat.le_of_ble_eq_true rfl) (Nat.le_of_ble_eq_true rfl) ?_
  show W _ _ _ _ _ _ _ _ _ _ _ _ _ _ _ (F0 m _ ls (.ref sb :: []))
  refine lv_pop B.1 B.2.1 dJ4_append_15ec4_5 rfl ?_
  refine lv_aload_n B.1 B.2.1 dJ4_append_15ec4_6 rfl (lv_at hl 0 rfl) ?_
  exact eQ (r := some sb) B hr hlk Y u6 ⟨rfl, hS6⟩ [0, 1] (by decide) rfl (Nat.le_of_ble_eq_true rfl) (Nat.le_of_ble_eq_true rfl) dJ4_append_15ec4_7

set_option maxHeartbeats 4000000 in
set_option maxRecDepth 100000 in
theorem k1_can (l : Launch) (D : va_G) (τ : Nat → ClassId) (sz : Nat) (ch : Int) (h0 : 0 ≤ ch ∧ ch ≤ 127) : Met l yJ1_canEncode_fc78d (Cond.code yJ1_canEncode_fc78d cJ1_canEncode_fc78d 1 (some .boolean) :: wALL) { frames := 0, cells := 0, slots := 0, locals := 0 } (Pw D τ (bl []) sz [.int (iI (ch))]) (va_Qi (fun (r : Int32) (_ : Unit) => r = 1) (Bb D (va_A (bl []) sz) (fun (_ : Unit) => [])) (va_A (bl []) sz)) 0 0 (va_A (bl []) sz) := by
  refine bodyWF (by decide +kernel) (Nat.le_of_ble_eq_true rfl) (fun p e s m below meth c ls B hr hlk hin hsz Y hl => ?_)
  have hl : lv_has ls 1 [(0, .int (iI (ch)))] := hl
  have B : CallFix p m c cJ1_canEncode_fc78d 1 s _ wALL RJ1 := B
  generalize va_A (bl []) sz = A at Y ⊢
  refine lv_iload_n B.1 B.2.1 dJ1_canEncode_fc78d_0 rfl (lv_at hl 0 rfl) ?_
  refine lv_sipush (v := (iI (255))) B.1 B.2.1 dJ1_canEncode_fc78d_1 (by decide) ?_
  refine lv_icmp_gt (tgt := 11) B.1 B.2.1 dJ1_canEncode_fc78d_4 (by decide) (fun h => absurd h (mt (iI_lt (a := 255) (b := ch) (by omega) (by omega) (by omega) (by omega)).mp (by omega))) (fun _ => ?_)
  refine lv_iconst (v := (iI (1))) B.1 B.2.1 dJ1_canEncode_fc78d_7 (by decide) ?_
  refine lv_goto (tgt := 12) B.1 B.2.1 dJ1_canEncode_fc78d_8 (by decide) ?_
  exact eZ B hr hlk Y (by decide) () rfl [] (by decide) rfl (Nat.le_of_ble_eq_true rfl) (Nat.le_of_ble_eq_true rfl) dJ1_canEncode_fc78d_12

set_option maxHeartbeats 4000000 in
set_option maxRecDepth 100000 in
theorem k5_appChr (l : Launch) (D : va_G) (τ : Nat → ClassId) (sz : Nat) (K : Nat → Nat) (sb va cap : Nat) (T : List Int) (f : Nat → Int32) (hS : SbR T cap f) (ch : Int) (h0 : 0 ≤ ch ∧ ch ≤ 127) (hl5 : T.length + 1 ≤ 500) : Met l yJ5_append_3fe6f (Cond.code yJ5_append_3fe6f cJ5_append_3fe6f 2 (some (.object "java/lang/AbstractStringBuilder")) :: wALL) { frames := 4, cells := 1, slots := 2006, locals := 130 } (PwE (KJ K) D τ (bl [[(sb, .inr (1, [.ref va, .int (iI (0)), .int (iI (0)), .int (iI (((T.length : Nat) : Int)))]))], [(va, .inl (τ 1, cap, .inl (f)))]]) sz [.ref sb, .int (iI (ch))]) (va_Qq (fun (r : Option Nat) (u : (Nat × Nat × (Nat → Int32))) => r = some sb ∧ SbR (T ++ [ch]) u.2.1 u.2.2) (Bb D (va_A (bl [[(sb, .inr (1, [.ref va, .int (iI (0)), .int (iI (0)), .int (iI (((T.length : Nat) : Int)))]))], [(va, .inl (τ 1, cap, .inl (f)))]]) sz) (fun (u : (Nat × Nat × (Nat → Int32))) => [[(sb, .inr (1, [.ref u.1, .int (iI (0)), .int (iI (0)), .int (iI ((((T ++ [ch]).length : Nat) : Int)))]))], [(u.1, .inl (τ 1, u.2.1, .inl (u.2.2)))]])) (va_A (bl [[(sb, .inr (1, [.ref va, .int (iI (0)), .int (iI (0)), .int (iI (((T.length : Nat) : Int)))]))], [(va, .inl (τ 1, cap, .inl (f)))]]) sz)) 1 2006 (va_A (bl [[(sb, .inr (1, [.ref va, .int (iI (0)), .int (iI (0)), .int (iI (((T.length : Nat) : Int)))]))], [(va, .inl (τ 1, cap, .inl (f)))]]) sz) := by
  refine bodyE (by decide +kernel) (Nat.le_of_ble_eq_true rfl) (fun p e s m below meth c ls B hr hlk hin hsz Y hK hl => ?_)
  have hl : lv_has ls 2 [(0, .ref sb), (1, .int (iI (ch)))] := hl
  have B : CallFix p m c cJ5_append_3fe6f 2 s _ wALL RJ5 := B
  generalize va_A (bl [[(sb, .inr (1, [.ref va, .int (iI (0)), .int (iI (0)), .int (iI (((T.length : Nat) : Int)))]))], [(va, .inl (τ 1, cap, .inl (f)))]]) sz = A at Y hK ⊢
  have hE := hK.1
  refine lv_aload_n B.1 B.2.1 dJ5_append_3fe6f_0 rfl (lv_at hl 0 rfl) ?_
  refine lv_aload_n B.1 B.2.1 dJ5_append_3fe6f_1 rfl (lv_at hl 0 rfl) ?_
  refine gf_J5_79 B Y 0 rfl rfl dJ5_append_3fe6f_2 ?_
  refine lv_iconst (v := (iI (1))) B.1 B.2.1 dJ5_append_3fe6f_5 (by decide) ?_
  refine lv_iadd B.1 B.2.1 dJ5_append_3fe6f_6 ?_
  refine lv_cv (v := (iI (((T.length + 1) : Nat) : Int))) (iI_inc _) ?_
  refine qV (Cs := [[(sb, .inr (1, [.ref va, .int (iI (0)), .int (iI (0)), .int (iI (((T.length : Nat) : Int)))]))], [(va, .inl (τ 1, cap, .inl (f)))]]) (Rs := []) Y [0, 1] [] (by decide) rfl (cVU (As := [.int (iI (((T.length + 1) : Nat) : Int))]) (rest := []) (q0 := 0) (KJ.ok K) hK B Y [0, 1] (by decide) rfl (k5_ensure l D τ _ K sb va cap (T.length + 1) T (f) hS (by omega)) rfl q_1316 q_1318 (hK.sel (by decide +kernel)) q_13 q_1319 q_1551 rfl rfl hd_J5_ensureCapacityInternal_d00df ⟨(Nat.le_of_ble_eq_true rfl), (Nat.le_of_ble_eq_true rfl)⟩ rfl hl.1 rfl (Nat.le_of_ble_eq_true rfl) dJ5_append_3fe6f_7 ⟨(Nat.le_of_ble_eq_true rfl), (Nat.le_of_ble_eq_true rfl)⟩) (fun u6 H locs hw Y => ?_)
  obtain ⟨hS6, hm6⟩ := hw
  have Y : Wd D τ s A s.heap (bl [[(sb, .inr (1, [.ref u6.1, .int (iI (0)), .int (iI (0)), .int (iI (((T.length : Nat) : Int)))]))], [(u6.1, .inl (τ 1, u6.2.1, .inl (u6.2.2)))]]) _ _ := Y
  refine W.widen (k := 1) (n := 2006) (Nat.le_of_ble_eq_true rfl) (Nat.le_of_ble_eq_true rfl) ?_
  have hc6 := hS6.2.1
  refine lv_aload_n B.1 B.2.1 dJ5_append_3fe6f_10 rfl (lv_at hl 0 rfl) ?_
  refine qI (Cs := [[(sb, .inr (1, [.ref u6.1, .int (iI (0)), .int (iI (0)), .int (iI (((T.length : Nat) : Int)))]))]]) (Rs := [[(u6.1, .inl (τ 1, u6.2.1, .inl (u6.2.2)))]]) Y [0] [1] (by decide) rfl (cVU (As := []) (rest := []) (q0 := 0) (KJ.ok K) hK B Y [0] (by decide) rfl (k5_isLat l D τ _ K sb u6.1 ((T.length : Nat) : Int)) rfl q_1341 q_1342 (B.2.2.2.2 _ q_1344) q_13 q_1345 q_1343 rfl rfl hd_J5_isLatin1_aae02 ⟨(Nat.le_of_ble_eq_true rfl), (Nat.le_of_ble_eq_true rfl)⟩ rfl hl.1 rfl (Nat.le_of_ble_eq_true rfl) dJ5_append_3fe6f_11 ⟨(Nat.le_of_ble_eq_true rfl), (Nat.le_of_ble_eq_true rfl)⟩) (fun r u H locs hw Y => ?_)
  subst hw
  have Y : Wd D τ s A s.heap (bl [[(sb, .inr (1, [.ref u6.1, .int (iI (0)), .int (iI (0)), .int (iI (((T.length : Nat) : Int)))]))], [(u6.1, .inl (τ 1, u6.2.1, .inl (u6.2.2)))]]) _ _ := Y
  refine lv_if_eq (tgt := 45) B.1 B.2.1 dJ5_append_3fe6f_14 (by decide) (fun h => absurd h (by decide)) (fun _ => ?_)
  refine lv_iload_n B.1 B.2.1 dJ5_append_3fe6f_17 rfl (lv_at hl 1 rfl) ?_
  refine qI (Cs := []) (Rs := [[(sb, .inr (1, [.ref u6.1, .int (iI (0)), .int (iI (0)), .int (iI (((T.length : Nat) : Int)))]))], [(u6.1, .inl (τ 1, u6.2.1, .inl (u6.2.2)))]]) Y [] [0, 1] (by decide) rfl (cS (As := [.int (iI (ch))]) (rest := []) B Y [] (by decide) rfl (k1_can l D τ _ (ch) (by omega)) q_1429 q_1430 q_20 q_1431 rfl rfl hd_J1_canEncode_fc78d ⟨(Nat.le_of_ble_eq_true rfl), (Nat.le_of_ble_eq_true rfl)⟩ rfl hl.1 rfl (Nat.le_of_ble_eq_true rfl) dJ5_append_3fe6f_18 ⟨(Nat.le_of_ble_eq_true rfl), (Nat.le_of_ble_eq_true rfl)⟩) (fun r u H locs hw Y => ?_)
  subst hw
  have Y : Wd D τ s A s.heap (bl [[(sb, .inr (1, [.ref u6.1, .int (iI (0)), .int (iI (0)), .int (iI (((T.length : Nat) : Int)))]))], [(u6.1, .inl (τ 1, u6.2.1, .inl (u6.2.2)))]]) _ _ := Y
  refine lv_if_eq (tgt := 45) B.1 B.2.1 dJ5_append_3fe6f_21 (by decide) (fun h => absurd h (by decide)) (fun _ => ?_)
  refine lv_aload_n B.1 B.2.1 dJ5_append_3fe6f_24 rfl (lv_at hl 0 rfl) ?_
  refine gf_J5_15 B Y 0 rfl rfl dJ5_append_3fe6f_25 ?_
  refine lv_aload_n B.1 B.2.1 dJ5_append_3fe6f_28 rfl (lv_at hl 0 rfl) ?_
  refine lv_dup B.1 B.2.1 dJ5_append_3fe6f_29 rfl ?_
  refine gf_J5_79 B Y 0 rfl rfl dJ5_append_3fe6f_30 ?_
  refine lv_dup_x1 B.1 B.2.1 dJ5_append_3fe6f_33 rfl rfl ?_
  refine lv_iconst (v := (iI (1))) B.1 B.2.1 dJ5_append_3fe6f_34 (by decide) ?_
  refine lv_iadd B.1 B.2.1 dJ5_append_3fe6f_35 ?_
  refine lv_cv (v := (iI (((T.length + 1) : Nat) : Int))) (iI_inc _) ?_
  refine pf_J5_79 (B' := [[(sb, .inr (1, [.ref u6.1, .int (iI (0)), .int (iI (0)), .int (iI (((T.length + 1) : Nat) : Int))]))], [(u6.1, .inl (τ 1, u6.2.1, .inl (u6.2.2)))]]) B Y 0 rfl (Nat.le_of_ble_eq_true rfl) rfl dJ5_append_3fe6f_36 (fun H locs Y => ?_)
  refine lv_iload_n B.1 B.2.1 dJ5_append_3fe6f_39 rfl (lv_at hl 1 rfl) ?_
  refine lv_i2b (v := (iI (ch))) B.1 B.2.1 dJ5_append_3fe6f_40 (i2b_lo (by omega) (by omega) (by omega) (by omega)) ?_
  refine b_bast (j := T.length) (g := upd (u6.2.2) T.length (iI ch)) (B' := [[(sb, .inr (1, [.ref u6.1, .int (iI (0)), .int (iI (0)), .int (iI (((T.length + 1) : Nat) : Int))]))], [(u6.1, .inl (τ 1, u6.2.1, .inl (upd (u6.2.2) T.length (iI ch))))]]) B Y 1 rfl (iI_pos (by omega)) (iI_clamp (by omega)) (by omega) (by rw [nar_lo (by omega) (by omega)]) rfl dJ5_append_3fe6f_41 (fun H locs Y => ?_)
  refine lv_goto (tgt := 75) B.1 B.2.1 dJ5_append_3fe6f_42 (by decide) ?_
  refine lv_aload_n B.1 B.2.1 dJ5_append_3fe6f_75 rfl (lv_at hl 0 rfl) ?_
  rw [show T.length + 1 = (T ++ [ch]).length from by rw [List.length_append]; rfl] at Y
  exact eQ (r := some sb) B hr hlk Y (u6.1, u6.2.1, upd u6.2.2 T.length (iI ch)) ⟨rfl, SbR.put hS6 (by omega) h0⟩ [0, 1] (by decide) rfl (Nat.le_of_ble_eq_true rfl) (Nat.le_of_ble_eq_true rfl) dJ5_append_3fe6f_76

set_option maxHeartbeats 4000000 in
set_option maxRecDepth 100000 in
theorem k4_appChr (l : Launch) (D : va_G) (τ : Nat → ClassId) (sz : Nat) (K : Nat → Nat) (sb va cap : Nat) (T : List Int) (f : Nat → Int32) (hS : SbR T cap f) (ch : Int) (h0 : 0 ≤ ch ∧ ch ≤ 127) (hl5 : T.length + 1 ≤ 500) : Met l yJ4_append_cf468 (Cond.code yJ4_append_cf468 cJ4_append_cf468 2 (some (.object "java/lang/StringBuilder")) :: wALL) { frames := 5, cells := 1, slots := 2006, locals := 151 } (PwE (KJ K) D τ (bl [[(sb, .inr (1, [.ref va, .int (iI (0)), .int (iI (0)), .int (iI (((T.length : Nat) : Int)))]))], [(va, .inl (τ 1, cap, .inl (f)))]]) sz [.ref sb, .int (iI (ch))]) (va_Qq (fun (r : Option Nat) (u : (Nat × Nat × (Nat → Int32))) => r = some sb ∧ SbR (T ++ [ch]) u.2.1 u.2.2) (Bb D (va_A (bl [[(sb, .inr (1, [.ref va, .int (iI (0)), .int (iI (0)), .int (iI (((T.length : Nat) : Int)))]))], [(va, .inl (τ 1, cap, .inl (f)))]]) sz) (fun (u : (Nat × Nat × (Nat → Int32))) => [[(sb, .inr (1, [.ref u.1, .int (iI (0)), .int (iI (0)), .int (iI ((((T ++ [ch]).length : Nat) : Int)))]))], [(u.1, .inl (τ 1, u.2.1, .inl (u.2.2)))]])) (va_A (bl [[(sb, .inr (1, [.ref va, .int (iI (0)), .int (iI (0)), .int (iI (((T.length : Nat) : Int)))]))], [(va, .inl (τ 1, cap, .inl (f)))]]) sz)) 1 2006 (va_A (bl [[(sb, .inr (1, [.ref va, .int (iI (0)), .int (iI (0)), .int (iI (((T.length : Nat) : Int)))]))], [(va, .inl (τ 1, cap, .inl (f)))]]) sz) := by
  refine bodyE (by decide +kernel) (Nat.le_of_ble_eq_true rfl) (fun p e s m below meth c ls B hr hlk hin hsz Y hK hl => ?_)
  have hl : lv_has ls 2 [(0, .ref sb), (1, .int (iI (ch)))] := hl
  have B : CallFix p m c cJ4_append_cf468 2 s _ wALL RJ4 := B
  generalize va_A (bl [[(sb, .inr (1, [.ref va, .int (iI (0)), .int (iI (0)), .int (iI (((T.length : Nat) : Int)))]))], [(va, .inl (τ 1, cap, .inl (f)))]]) sz = A at Y hK ⊢
  have hE := hK.1
  refine lv_aload_n B.1 B.2.1 dJ4_append_cf468_0 rfl (lv_at hl 0 rfl) ?_
  refine lv_iload_n B.1 B.2.1 dJ4_append_cf468_1 rfl (lv_at hl 1 rfl) ?_
  refine qQ (Cs := [[(sb, .inr (1, [.ref va, .int (iI (0)), .int (iI (0)), .int (iI (((T.length : Nat) : Int)))]))], [(va, .inl (τ 1, cap, .inl (f)))]]) (Rs := []) Y [0, 1] [] (by decide) rfl (cSU (As := [.int (iI (ch))]) (rest := []) (q0 := 0) (KJ.ok K) hK B Y [0, 1] (by decide) rfl (k5_appChr l D τ _ K sb va cap T (f) hS (ch) (by omega) (by omega)) rfl q_1426 q_1427 q_13 q_1428 q_1557 q_1302 (by decide) rfl rfl hd_J5_append_3fe6f ⟨(Nat.le_of_ble_eq_true rfl), (Nat.le_of_ble_eq_true rfl)⟩ rfl hl.1 rfl (Nat.le_of_ble_eq_true rfl) dJ4_append_cf468_2 ⟨(Nat.le_of_ble_eq_true rfl), (Nat.le_of_ble_eq_true rfl)⟩) (fun r u6 H locs hw Y => ?_)
  obtain ⟨hw, hS6⟩ := hw
  subst hw
  have Y : Wd D τ s A s.heap (bl [[(sb, .inr (1, [.ref u6.1, .int (iI (0)), .int (iI (0)), .int (iI ((((T ++ [ch]).length : Nat) : Int)))]))], [(u6.1, .inl (τ 1, u6.2.1, .inl (u6.2.2)))]]) _ _ := Y
  refine W.widen (k := 1) (n := 2006) (Nat.le_of_ble_eq_true rfl) (Nat.le_of_ble_eq_true rfl) ?_
  show W _ _ _ _ _ _ _ _ _ _ _ _ _ _ _ (F0 m _ ls (.ref sb :: []))
  refine lv_pop B.1 B.2.1 dJ4_append_cf468_5 rfl ?_
  refine lv_aload_n B.1 B.2.1 dJ4_append_cf468_6 rfl (lv_at hl 0 rfl) ?_
  exact eQ (r := some sb) B hr hlk Y u6 ⟨rfl, hS6⟩ [0, 1] (by decide) rfl (Nat.le_of_ble_eq_true rfl) (Nat.le_of_ble_eq_true rfl) dJ4_append_cf468_7

set_option maxHeartbeats 4000000 in
set_option maxRecDepth 100000 in
theorem k5_init (l : Launch) (D : va_G) (τ : Nat → ClassId) (sz : Nat) (K : Nat → Nat) (sb : Nat) : Met l yJ5_init_d00df (Cond.code yJ5_init_d00df cJ5_init_d00df 2 none :: wALL) { frames := 1, cells := 1, slots := 16, locals := 60 } (PwE (KJ K) D τ (bl [[(sb, .inr (1, [.null, .int (iI (0)), .int (iI (0)), .int (iI (0))]))]]) sz [.ref sb, .int (iI (16))]) (va_Qv (fun (u : Nat) => True) (Bb D (va_A (bl [[(sb, .inr (1, [.null, .int (iI (0)), .int (iI (0)), .int (iI (0))]))]]) sz) (fun (u : Nat) => [[(sb, .inr (1, [.ref u, .int (iI (0)), .int (iI (0)), .int (iI (0))]))], [(u, .inl (τ 1, 16, .inl (fun _ => 0)))]])) (va_A (bl [[(sb, .inr (1, [.null, .int (iI (0)), .int (iI (0)), .int (iI (0))]))]]) sz)) 1 16 (va_A (bl [[(sb, .inr (1, [.null, .int (iI (0)), .int (iI (0)), .int (iI (0))]))]]) sz) := by
  refine bodyE (by decide +kernel) (Nat.le_of_ble_eq_true rfl) (fun p e s m below meth c ls B hr hlk hin hsz Y hK hl => ?_)
  have hl : lv_has ls 2 [(0, .ref sb), (1, .int (iI (16)))] := hl
  have B : CallFix p m c cJ5_init_d00df 2 s _ wALL RJ5 := B
  generalize va_A (bl [[(sb, .inr (1, [.null, .int (iI (0)), .int (iI (0)), .int (iI (0))]))]]) sz = A at Y hK ⊢
  have hE := hK.1
  refine lv_aload_n B.1 B.2.1 dJ5_init_d00df_0 rfl (lv_at hl 0 rfl) ?_
  refine t_objInit B q_1281 q_35 q_36 hl.1 (Nat.le_of_ble_eq_true rfl) dJ5_init_d00df_1 (Nat.le_of_ble_eq_true rfl) (Nat.le_of_ble_eq_true rfl) ?_
  refine va_gets B.1 B.2.1 hE.cmp Y.2.2.2.1 B.2.2.2.1 (B.2.2.2.2 _ q_1282) (fun _ h => h) dJ5_init_d00df_4 ?_
  refine lv_if_eq (tgt := 25) B.1 B.2.1 dJ5_init_d00df_7 (by decide) (fun h => absurd h (by decide)) (fun _ => ?_)
  refine lv_aload_n B.1 B.2.1 dJ5_init_d00df_10 rfl (lv_at hl 0 rfl) ?_
  refine lv_iload_n B.1 B.2.1 dJ5_init_d00df_11 rfl (lv_at hl 1 rfl) ?_
  refine b_newb (N' := 16) B Y q_79 (by decide) (by decide) (by decide) (Nat.le_of_ble_eq_true rfl) (Nat.le_of_ble_eq_true rfl) dJ5_init_d00df_12 (fun v2 H Y => ?_)
  refine W.widen (k := 1) (n := 16) (Nat.le_of_ble_eq_true rfl) (Nat.le_of_ble_eq_true rfl) ?_
  have Y : Wd D τ s A s.heap (bl [[(sb, .inr (1, [.null, .int (iI (0)), .int (iI (0)), .int (iI (0))]))], [(v2, .inl (τ 1, 16, .inl (fun _ => 0)))]]) _ _ := Y
  refine pf_J5_15 (B' := [[(sb, .inr (1, [.ref v2, .int (iI (0)), .int (iI (0)), .int (iI (0))]))], [(v2, .inl (τ 1, 16, .inl (fun _ => 0)))]]) B Y rfl rfl 0 rfl (Nat.le_of_ble_eq_true rfl) rfl dJ5_init_d00df_14 (fun H locs Y => ?_)
  refine lv_aload_n B.1 B.2.1 dJ5_init_d00df_17 rfl (lv_at hl 0 rfl) ?_
  refine lv_iconst (v := (iI (0))) B.1 B.2.1 dJ5_init_d00df_18 (by decide) ?_
  refine pf_J5_22 (B' := [[(sb, .inr (1, [.ref v2, .int (iI (0)), .int (iI (0)), .int (iI (0))]))], [(v2, .inl (τ 1, 16, .inl (fun _ => 0)))]]) B Y rfl rfl 0 rfl (Nat.le_of_ble_eq_true rfl) rfl dJ5_init_d00df_19 (fun H locs Y => ?_)
  refine lv_goto (tgt := 38) B.1 B.2.1 dJ5_init_d00df_22 (by decide) ?_
  exact eV B hr hlk Y v2 trivial [0, 1] (by decide) rfl (Nat.le_of_ble_eq_true rfl) (Nat.le_of_ble_eq_true rfl) dJ5_init_d00df_38

set_option maxHeartbeats 4000000 in
set_option maxRecDepth 100000 in
theorem k4_init (l : Launch) (D : va_G) (τ : Nat → ClassId) (sz : Nat) (K : Nat → Nat) (sb : Nat) : Met l yJ4_init_da8c8 (Cond.code yJ4_init_da8c8 cJ4_init_da8c8 1 none :: wALL) { frames := 2, cells := 1, slots := 16, locals := 81 } (PwE (KJ K) D τ (bl [[(sb, .inr (1, [.null, .int (iI (0)), .int (iI (0)), .int (iI (0))]))]]) sz [.ref sb]) (va_Qv (fun (u : Nat) => True) (Bb D (va_A (bl [[(sb, .inr (1, [.null, .int (iI (0)), .int (iI (0)), .int (iI (0))]))]]) sz) (fun (u : Nat) => [[(sb, .inr (1, [.ref u, .int (iI (0)), .int (iI (0)), .int (iI (0))]))], [(u, .inl (τ 1, 16, .inl (fun _ => 0)))]])) (va_A (bl [[(sb, .inr (1, [.null, .int (iI (0)), .int (iI (0)), .int (iI (0))]))]]) sz)) 1 16 (va_A (bl [[(sb, .inr (1, [.null, .int (iI (0)), .int (iI (0)), .int (iI (0))]))]]) sz) := by
  refine bodyE (by decide +kernel) (Nat.le_of_ble_eq_true rfl) (fun p e s m below meth c ls B hr hlk hin hsz Y hK hl => ?_)
  have hl : lv_has ls 1 [(0, .ref sb)] := hl
  have B : CallFix p m c cJ4_init_da8c8 1 s _ wALL RJ4 := B
  generalize va_A (bl [[(sb, .inr (1, [.null, .int (iI (0)), .int (iI (0)), .int (iI (0))]))]]) sz = A at Y hK ⊢
  have hE := hK.1
  refine lv_aload_n B.1 B.2.1 dJ4_init_da8c8_0 rfl (lv_at hl 0 rfl) ?_
  refine lv_bipush (v := (iI (16))) B.1 B.2.1 dJ4_init_da8c8_1 (by decide) ?_
  refine qV (Cs := [[(sb, .inr (1, [.null, .int (iI (0)), .int (iI (0)), .int (iI (0))]))]]) (Rs := []) Y [0] [] (by decide) rfl (cIE (As := [.int (iI (16))]) (rest := []) (KJ.ok K) hK B Y [0] (by decide) rfl (k5_init l D τ _ K sb) q_1278 q_1279 q_13 q_1280 rfl rfl rfl hd_J5_init_d00df ⟨(Nat.le_of_ble_eq_true rfl), (Nat.le_of_ble_eq_true rfl)⟩ rfl hl.1 rfl (Nat.le_of_ble_eq_true rfl) dJ4_init_da8c8_3 ⟨(Nat.le_of_ble_eq_true rfl), (Nat.le_of_ble_eq_true rfl)⟩) (fun u7 H locs hw Y => ?_)
  have Y : Wd D τ s A s.heap (bl [[(sb, .inr (1, [.ref u7, .int (iI (0)), .int (iI (0)), .int (iI (0))]))], [(u7, .inl (τ 1, 16, .inl (fun _ => 0)))]]) _ _ := Y
  refine W.widen (k := 1) (n := 16) (Nat.le_of_ble_eq_true rfl) (Nat.le_of_ble_eq_true rfl) ?_
  exact eV B hr hlk Y u7 trivial [0, 1] (by decide) rfl (Nat.le_of_ble_eq_true rfl) (Nat.le_of_ble_eq_true rfl) dJ4_init_da8c8_6

