/-! J0_length_8abf5 -/
theorem dJ0_length_8abf5_0 : decode cJ0_length_8abf5 0 = .ok (.aload_n 0, 1) := by decide +kernel
theorem dJ0_length_8abf5_1 : decode cJ0_length_8abf5 1 = .ok (.getfield 9, 3) := by decide +kernel
theorem dJ0_length_8abf5_4 : decode cJ0_length_8abf5 4 = .ok (.arraylength, 1) := by decide +kernel
theorem dJ0_length_8abf5_5 : decode cJ0_length_8abf5 5 = .ok (.aload_n 0, 1) := by decide +kernel
theorem dJ0_length_8abf5_6 : decode cJ0_length_8abf5 6 = .ok (.invokevirtual 335, 3) := by decide +kernel
theorem dJ0_length_8abf5_9 : decode cJ0_length_8abf5 9 = .ok (.ishr, 1) := by decide +kernel
theorem dJ0_length_8abf5_10 : decode cJ0_length_8abf5 10 = .ok (.ireturn, 1) := by decide +kernel
/-! J0_coder_7d493 -/
theorem dJ0_coder_7d493_0 : decode cJ0_coder_7d493 0 = .ok (.getstatic 38, 3) := by decide +kernel
theorem dJ0_coder_7d493_3 : decode cJ0_coder_7d493 3 = .ok (.ifCond .eq 10, 3) := by decide +kernel
theorem dJ0_coder_7d493_6 : decode cJ0_coder_7d493 6 = .ok (.aload_n 0, 1) := by decide +kernel
theorem dJ0_coder_7d493_7 : decode cJ0_coder_7d493 7 = .ok (.getfield 15, 3) := by decide +kernel
theorem dJ0_coder_7d493_10 : decode cJ0_coder_7d493 10 = .ok (.goto 4, 3) := by decide +kernel
theorem dJ0_coder_7d493_13 : decode cJ0_coder_7d493 13 = .ok (.iconst 1, 1) := by decide +kernel
theorem dJ0_coder_7d493_14 : decode cJ0_coder_7d493 14 = .ok (.ireturn, 1) := by decide +kernel

set_option maxHeartbeats 4000000 in
set_option maxRecDepth 100000 in
theorem k_coder (l : Launch) (D : va_G) (τ : Nat → ClassId) (sz : Nat) (adK adV : Nat → Nat) (i : Nat) (hi : i < 4) : Met l yJ0_coder_7d493 (Cond.code yJ0_coder_7d493 cJ0_coder_7d493 1 (some .byte) :: wALL) { frames := 0, cells := 0, slots := 0, locals := 0 } (PwE (Sk adK adV) D τ [] sz [.ref (adK i)]) (va_Qi (fun (r : Int32) (_ : Unit) => r = 0) (Bw D (va_A [] sz) (fun (_ : Unit) => [])) (va_A [] sz)) 0 0 (va_A [] sz) := by
  refine bodyE (by decide +kernel) (Nat.le_of_ble_eq_true rfl) (fun p e s m below meth c ls B hr hlk hin hsz Y hE hl => ?_)
  have hl : lv_has ls 1 [(0, .ref (adK i))] := hl
  have B : CallFix p m c cJ0_coder_7d493 1 s _ wALL RJ0 := B
  generalize va_A [] sz = A at Y hE ⊢
  refine va_gets B.1 B.2.1 hE.2.2 Y.2.2.2.1 B.2.2.2.1 (B.2.2.2.2 _ q_1008) (fun _ h => h) dJ0_coder_7d493_0 ?_
  refine lv_if_eq (tgt := 13) B.1 B.2.1 dJ0_coder_7d493_3 (by decide) (fun h => absurd h (by decide)) (fun _ => ?_)
  refine lv_aload_n B.1 B.2.1 dJ0_coder_7d493_6 rfl (lv_at hl 0 rfl) ?_
  refine vk_getf B.1 B.2.1 ((hE.1 i hi).1 0 (by decide)).2.1 Y.2.2.2.1 B.2.2.2.1 (B.2.2.2.2 _ q_2204) (fun _ h => h) dJ0_coder_7d493_7 ?_
  refine lv_goto (tgt := 14) B.1 B.2.1 dJ0_coder_7d493_10 (by decide) ?_
  exact endY B hr hlk Y (by decide) () rfl [] (by decide) rfl (Nat.le_of_ble_eq_true rfl) (Nat.le_of_ble_eq_true rfl) dJ0_coder_7d493_14

set_option maxHeartbeats 4000000 in
set_option maxRecDepth 100000 in
theorem k_length0 (l : Launch) (D : va_G) (τ : Nat → ClassId) (sz : Nat) (adK adV : Nat → Nat) : Met l yJ0_length_8abf5 (Cond.code yJ0_length_8abf5 cJ0_length_8abf5 1 (some .int) :: wALL) { frames := 1, cells := 0, slots := 0, locals := 40 } (PwE (Sk adK adV) D τ [] sz [.ref (adK 0)]) (va_Qi (fun (r : Int32) (_ : Unit) => r = 4) (Bw D (va_A [] sz) (fun (_ : Unit) => [])) (va_A [] sz)) 0 0 (va_A [] sz) := by
  refine bodyE (by decide +kernel) (Nat.le_of_ble_eq_true rfl) (fun p e s m below meth c ls B hr hlk hin hsz Y hE hl => ?_)
  have hl : lv_has ls 1 [(0, .ref (adK 0))] := hl
  have B : CallFix p m c cJ0_length_8abf5 1 s _ wALL RJ0 := B
  generalize va_A [] sz = A at Y hE ⊢
  refine lv_aload_n B.1 B.2.1 dJ0_length_8abf5_0 rfl (lv_at hl 0 rfl) ?_
  refine vk_getf B.1 B.2.1 ((hE.1 0 (by decide)).1 0 (by decide)).2.2.1 Y.2.2.2.1 B.2.2.2.1 (B.2.2.2.2 _ q_2203) (fun _ h => h) dJ0_length_8abf5_1 ?_
  refine va_tlen (v := 4) B.1 B.2.1 ((hE.1 0 (by decide)).1 0 (by decide)).2.2.2 Y.2.2.2.1 (by decide) dJ0_length_8abf5_4 ?_
  refine lv_aload_n B.1 B.2.1 dJ0_length_8abf5_5 rfl (lv_at hl 0 rfl) ?_
  refine retI (wc := []) (wr := []) Y [] [] rfl rfl (by decide) (by decide) (rVE (Sk.ok adK adV) hE (vk_recv (i := 0) (hE.1 0 (by decide)) (by decide) Y.2.2.2.1) (As := []) (rest := [.int 4]) B Y [] (by decide) rfl (k_coder l D τ _ adK adV 0 (by decide)) q_1004 q_1005 q_1006 q_18 q_1007 rfl rfl hd_J0_coder_7d493 ⟨(Nat.le_of_ble_eq_true rfl), (Nat.le_of_ble_eq_true rfl)⟩ rfl hl.1 rfl (Nat.le_of_ble_eq_true rfl) dJ0_length_8abf5_6 ⟨(Nat.le_of_ble_eq_true rfl), (Nat.le_of_ble_eq_true rfl)⟩) (fun r u H locs hw Y => ?_)
  have hw : r = 0 := hw
  subst hw
  have Y : Wd D τ s A s.heap [] H _ := Y
  refine lv_ishr B.1 B.2.1 dJ0_length_8abf5_9 ?_
  refine lv_cv (v := 4) (by decide) ?_
  exact endI B hr hlk Y () rfl [] (by decide) rfl (Nat.le_of_ble_eq_true rfl) (Nat.le_of_ble_eq_true rfl) dJ0_length_8abf5_10

set_option maxHeartbeats 4000000 in
set_option maxRecDepth 100000 in
theorem k_length1 (l : Launch) (D : va_G) (τ : Nat → ClassId) (sz : Nat) (adK adV : Nat → Nat) : Met l yJ0_length_8abf5 (Cond.code yJ0_length_8abf5 cJ0_length_8abf5 1 (some .int) :: wALL) { frames := 1, cells := 0, slots := 0, locals := 40 } (PwE (Sk adK adV) D τ [] sz [.ref (adK 1)]) (va_Qi (fun (r : Int32) (_ : Unit) => r = 4) (Bw D (va_A [] sz) (fun (_ : Unit) => [])) (va_A [] sz)) 0 0 (va_A [] sz) := by
  refine bodyE (by decide +kernel) (Nat.le_of_ble_eq_true rfl) (fun p e s m below meth c ls B hr hlk hin hsz Y hE hl => ?_)
  have hl : lv_has ls 1 [(0, .ref (adK 1))] := hl
  have B : CallFix p m c cJ0_length_8abf5 1 s _ wALL RJ0 := B
  generalize va_A [] sz = A at Y hE ⊢
  refine lv_aload_n B.1 B.2.1 dJ0_length_8abf5_0 rfl (lv_at hl 0 rfl) ?_
  refine vk_getf B.1 B.2.1 ((hE.1 1 (by decide)).1 0 (by decide)).2.2.1 Y.2.2.2.1 B.2.2.2.1 (B.2.2.2.2 _ q_2203) (fun _ h => h) dJ0_length_8abf5_1 ?_
  refine va_tlen (v := 4) B.1 B.2.1 ((hE.1 1 (by decide)).1 0 (by decide)).2.2.2 Y.2.2.2.1 (by decide) dJ0_length_8abf5_4 ?_
  refine lv_aload_n B.1 B.2.1 dJ0_length_8abf5_5 rfl (lv_at hl 0 rfl) ?_
  refine retI (wc := []) (wr := []) Y [] [] rfl rfl (by decide) (by decide) (rVE (Sk.ok adK adV) hE (vk_recv (i := 0) (hE.1 1 (by decide)) (by decide) Y.2.2.2.1) (As := []) (rest := [.int 4]) B Y [] (by decide) rfl (k_coder l D τ _ adK adV 1 (by decide)) q_1004 q_1005 q_1006 q_18 q_1007 rfl rfl hd_J0_coder_7d493 ⟨(Nat.le_of_ble_eq_true rfl), (Nat.le_of_ble_eq_true rfl)⟩ rfl hl.1 rfl (Nat.le_of_ble_eq_true rfl) dJ0_length_8abf5_6 ⟨(Nat.le_of_ble_eq_true rfl), (Nat.le_of_ble_eq_true rfl)⟩) (fun r u H locs hw Y => ?_)
  have hw : r = 0 := hw
  subst hw
  have Y : Wd D τ s A s.heap [] H _ := Y
  refine lv_ishr B.1 B.2.1 dJ0_length_8abf5_9 ?_
  refine lv_cv (v := 4) (by decide) ?_
  exact endI B hr hlk Y () rfl [] (by decide) rfl (Nat.le_of_ble_eq_true rfl) (Nat.le_of_ble_eq_true rfl) dJ0_length_8abf5_10

set_option maxHeartbeats 4000000 in
set_option maxRecDepth 100000 in
theorem k_length2 (l : Launch) (D : va_G) (τ : Nat → ClassId) (sz : Nat) (adK adV : Nat → Nat) : Met l yJ0_length_8abf5 (Cond.code yJ0_length_8abf5 cJ0_length_8abf5 1 (some .int) :: wALL) { frames := 1, cells := 0, slots := 0, locals := 40 } (PwE (Sk adK adV) D τ [] sz [.ref (adK 2)]) (va_Qi (fun (r : Int32) (_ : Unit) => r = 6) (Bw D (va_A [] sz) (fun (_ : Unit) => [])) (va_A [] sz)) 0 0 (va_A [] sz) := by
  refine bodyE (by decide +kernel) (Nat.le_of_ble_eq_true rfl) (fun p e s m below meth c ls B hr hlk hin hsz Y hE hl => ?_)
  have hl : lv_has ls 1 [(0, .ref (adK 2))] := hl
  have B : CallFix p m c cJ0_length_8abf5 1 s _ wALL RJ0 := B
  generalize va_A [] sz = A at Y hE ⊢
  refine lv_aload_n B.1 B.2.1 dJ0_length_8abf5_0 rfl (lv_at hl 0 rfl) ?_
  refine vk_getf B.1 B.2.1 ((hE.1 2 (by decide)).1 0 (by decide)).2.2.1 Y.2.2.2.1 B.2.2.2.1 (B.2.2.2.2 _ q_2203) (fun _ h => h) dJ0_length_8abf5_1 ?_
  refine va_tlen (v := 6) B.1 B.2.1 ((hE.1 2 (by decide)).1 0 (by decide)).2.2.2 Y.2.2.2.1 (by decide) dJ0_length_8abf5_4 ?_
  refine lv_aload_n B.1 B.2.1 dJ0_length_8abf5_5 rfl (lv_at hl 0 rfl) ?_
  refine retI (wc := []) (wr := []) Y [] [] rfl rfl (by decide) (by decide) (rVE (Sk.ok adK adV) hE (vk_recv (i := 0) (hE.1 2 (by decide)) (by decide) Y.2.2.2.1) (As := []) (rest := [.int 6]) B Y [] (by decide) rfl (k_coder l D τ _ adK adV 2 (by decide)) q_1004 q_1005 q_1006 q_18 q_1007 rfl rfl hd_J0_coder_7d493 ⟨(Nat.le_of_ble_eq_true rfl), (Nat.le_of_ble_eq_true rfl)⟩ rfl hl.1 rfl (Nat.le_of_ble_eq_true rfl) dJ0_length_8abf5_6 ⟨(Nat.le_of_ble_eq_true rfl), (Nat.le_of_ble_eq_true rfl)⟩) (fun r u H locs hw Y => ?_)
  have hw : r = 0 := hw
  subst hw
  have Y : Wd D τ s A s.heap [] H _ := Y
  refine lv_ishr B.1 B.2.1 dJ0_length_8abf5_9 ?_
  refine lv_cv (v := 6) (by decide) ?_
  exact endI B hr hlk Y () rfl [] (by decide) rfl (Nat.le_of_ble_eq_true rfl) (Nat.le_of_ble_eq_true rfl) dJ0_length_8abf5_10

set_option maxHeartbeats 4000000 in
set_option maxRecDepth 100000 in
theorem k_length3 (l : Launch) (D : va_G) (τ : Nat → ClassId) (sz : Nat) (adK adV : Nat → Nat) : Met l yJ0_length_8abf5 (Cond.code yJ0_length_8abf5 cJ0_length_8abf5 1 (some .int) :: wALL) { frames := 1, cells := 0, slots := 0, locals := 40 } (PwE (Sk adK adV) D τ [] sz [.ref (adK 3)]) (va_Qi (fun (r : Int32) (_ : Unit) => r = 4) (Bw D (va_A [] sz) (fun (_ : Unit) => [])) (va_A [] sz)) 0 0 (va_A [] sz) := by
  refine bodyE (by decide +kernel) (Nat.le_of_ble_eq_true rfl) (fun p e s m below meth c ls B hr hlk hin hsz Y hE hl => ?_)
  have hl : lv_has ls 1 [(0, .ref (adK 3))] := hl
  have B : CallFix p m c cJ0_length_8abf5 1 s _ wALL RJ0 := B
  generalize va_A [] sz = A at Y hE ⊢
  refine lv_aload_n B.1 B.2.1 dJ0_length_8abf5_0 rfl (lv_at hl 0 rfl) ?_
  refine vk_getf B.1 B.2.1 ((hE.1 3 (by decide)).1 0 (by decide)).2.2.1 Y.2.2.2.1 B.2.2.2.1 (B.2.2.2.2 _ q_2203) (fun _ h => h) dJ0_length_8abf5_1 ?_
  refine va_tlen (v := 4) B.1 B.2.1 ((hE.1 3 (by decide)).1 0 (by decide)).2.2.2 Y.2.2.2.1 (by decide) dJ0_length_8abf5_4 ?_
  refine lv_aload_n B.1 B.2.1 dJ0_length_8abf5_5 rfl (lv_at hl 0 rfl) ?_
  refine retI (wc := []) (wr := []) Y [] [] rfl rfl (by decide) (by decide) (rVE (Sk.ok adK adV) hE (vk_recv (i := 0) (hE.1 3 (by decide)) (by decide) Y.2.2.2.1) (As := []) (rest := [.int 4]) B Y [] (by decide) rfl (k_coder l D τ _ adK adV 3 (by decide)) q_1004 q_1005 q_1006 q_18 q_1007 rfl rfl hd_J0_coder_7d493 ⟨(Nat.le_of_ble_eq_true rfl), (Nat.le_of_ble_eq_true rfl)⟩ rfl hl.1 rfl (Nat.le_of_ble_eq_true rfl) dJ0_length_8abf5_6 ⟨(Nat.le_of_ble_eq_true rfl), (Nat.le_of_ble_eq_true rfl)⟩) (fun r u H locs hw Y => ?_)
  have hw : r = 0 := hw
  subst hw
  have Y : Wd D τ s A s.heap [] H _ := Y
  refine lv_ishr B.1 B.2.1 dJ0_length_8abf5_9 ?_
  refine lv_cv (v := 4) (by decide) ?_
  exact endI B hr hlk Y () rfl [] (by decide) rfl (Nat.le_of_ble_eq_true rfl) (Nat.le_of_ble_eq_true rfl) dJ0_length_8abf5_10

set_option maxHeartbeats 4000000 in
set_option maxRecDepth 100000 in
theorem k_isWord0 (l : Launch) (D : va_G) (τ : Nat → ClassId) (sz : Nat) (rd q0 q1 q2 q3 q4 : Nat) (adK adV : Nat → Nat) : Met l yX6_isWord (Cond.code yX6_isWord cX6_isWord 5 (some .boolean) :: wALL) { frames := 2, cells := 0, slots := 0, locals := 60 } (PwE (Sk adK adV) D τ [(rd, .inr (6, [.ref q0, .int 0, .int 0, .int 0, .int 0, .int (-1), .int 0, .ref q1, .ref q2, .ref q3, .ref q4]))] sz [.ref rd, .int 0, .ref (adK 0)]) (va_Qi (fun (r : Int32) (_ : Unit) => r = 0) (Bw D (va_A [(rd, .inr (6, [.ref q0, .int 0, .int 0, .int 0, .int 0, .int (-1), .int 0, .ref q1, .ref q2, .ref q3, .ref q4]))] sz) (fun (_ : Unit) => [(rd, .inr (6, [.ref q0, .int 0, .int 0, .int 0, .int 0, .int (-1), .int 0, .ref q1, .ref q2, .ref q3, .ref q4]))])) (va_A [(rd, .inr (6, [.ref q0, .int 0, .int 0, .int 0, .int 0, .int (-1), .int 0, .ref q1, .ref q2, .ref q3, .ref q4]))] sz)) 0 0 (va_A [(rd, .inr (6, [.ref q0, .int 0, .int 0, .int 0, .int 0, .int (-1), .int 0, .ref q1, .ref q2, .ref q3, .ref q4]))] sz) := by
  refine bodyE (by decide +kernel) (Nat.le_of_ble_eq_true rfl) (fun p e s m below meth c ls B hr hlk hin hsz Y hE hl => ?_)
  have hl : lv_has ls 5 [(0, .ref rd), (1, .int 0), (2, .ref (adK 0))] := hl
  have B : CallFix p m c cX6_isWord 5 s _ wALL RX6 := B
  generalize va_A [(rd, .inr (6, [.ref q0, .int 0, .int 0, .int 0, .int 0, .int (-1), .int 0, .ref q1, .ref q2, .ref q3, .ref q4]))] sz = A at Y hE ⊢
  refine lv_aload_n B.1 B.2.1 dX6_isWord_0 rfl (lv_at hl 0 rfl) ?_
  refine gf_X6_19 B Y 0 rfl rfl dX6_isWord_1 ?_
  refine lv_iload_n B.1 B.2.1 dX6_isWord_4 rfl (lv_at hl 1 rfl) ?_
  refine lv_isub B.1 B.2.1 dX6_isWord_5 ?_
  refine lv_cv (v := 0) (by decide) ?_
  refine lv_aload_n B.1 B.2.1 dX6_isWord_6 rfl (lv_at hl 2 rfl) ?_
  refine retI (wc := []) (wr := [(rd, .inr (6, [.ref q0, .int 0, .int 0, .int 0, .int 0, .int (-1), .int 0, .ref q1, .ref q2, .ref q3, .ref q4]))]) Y [] [0] rfl rfl (by decide) (by decide) (rVE (Sk.ok adK adV) hE (vk_recv (i := 0) (hE.1 0 (by decide)) (by decide) Y.2.2.2.1) (As := []) (rest := [.int 0]) B Y [] (by decide) rfl (k_length0 l D τ _ adK adV) q_1000 q_1001 q_1002 q_18 q_1003 rfl rfl hd_J0_length_8abf5 ⟨(Nat.le_of_ble_eq_true rfl), (Nat.le_of_ble_eq_true rfl)⟩ rfl hl.1 rfl (Nat.le_of_ble_eq_true rfl) dX6_isWord_7 ⟨(Nat.le_of_ble_eq_true rfl), (Nat.le_of_ble_eq_true rfl)⟩) (fun r u H locs hw Y => ?_)
  have hw : r = 4 := hw
  subst hw
  have Y : Wd D τ s A s.heap [(rd, .inr (6, [.ref q0, .int 0, .int 0, .int 0, .int 0, .int (-1), .int 0, .ref q1, .ref q2, .ref q3, .ref q4]))] H _ := Y
  refine lv_icmp_eq (tgt := 15) B.1 B.2.1 dX6_isWord_10 (by decide) (fun h => absurd h (by decide)) (fun _ => ?_)
  refine lv_iconst (v := 0) B.1 B.2.1 dX6_isWord_13 (by decide) ?_
  exact endZ B hr hlk Y (by decide) () rfl [0] (by decide) rfl (Nat.le_of_ble_eq_true rfl) (Nat.le_of_ble_eq_true rfl) dX6_isWord_14

set_option maxHeartbeats 4000000 in
set_option maxRecDepth 100000 in
theorem k_wordOf0 (l : Launch) (D : va_G) (τ : Nat → ClassId) (sz : Nat) (adK adV : Nat → Nat) : Met l yX6_wordOf (Cond.code yX6_wordOf cX6_wordOf 1 (some (.object "java/lang/String")) :: wALL) { frames := 0, cells := 0, slots := 0, locals := 0 } (PwE (Sk adK adV) D τ [] sz [.int 0]) (va_Qq (fun (r : Option Nat) (_ : Unit) => r = some (adK 0)) (Bw D (va_A [] sz) (fun (_ : Unit) => [])) (va_A [] sz)) 0 0 (va_A [] sz) := by
  refine bodyE (by decide +kernel) (Nat.le_of_ble_eq_true rfl) (fun p e s m below meth c ls B hr hlk hin hsz Y hE hl => ?_)
  have hl : lv_has ls 1 [(0, .int 0)] := hl
  have B : CallFix p m c cX6_wordOf 1 s _ wALL RX6 := B
  generalize va_A [] sz = A at Y hE ⊢
  refine lv_iload_n B.1 B.2.1 dX6_wordOf_0 rfl (lv_at hl 0 rfl) ?_
  refine lv_tableIn (off := 51) (tgt := 52) B.1 B.2.1 dX6_wordOf_1 (by decide) (by decide) rfl (by decide) ?_
  refine va_ldcS (tx := "link") B.1 B.2.1 B.2.2.2.1 (hE.2.1 0 (by decide)) dX6_wordOf_52 ?_
  exact endQ (r := some (adK 0)) B hr hlk Y () rfl [] (by decide) rfl (Nat.le_of_ble_eq_true rfl) (Nat.le_of_ble_eq_true rfl) dX6_wordOf_54

set_option maxHeartbeats 4000000 in
set_option maxRecDepth 100000 in
theorem k_isWord1 (l : Launch) (D : va_G) (τ : Nat → ClassId) (sz : Nat) (rd q0 q1 q2 q3 q4 : Nat) (adK adV : Nat → Nat) : Met l yX6_isWord (Cond.code yX6_isWord cX6_isWord 5 (some .boolean) :: wALL) { frames := 2, cells := 0, slots := 0, locals := 60 } (PwE (Sk adK adV) D τ [(rd, .inr (6, [.ref q0, .int 0, .int 0, .int 0, .int 0, .int (-1), .int 0, .ref q1, .ref q2, .ref q3, .ref q4]))] sz [.ref rd, .int 0, .ref (adK 1)]) (va_Qi (fun (r : Int32) (_ : Unit) => r = 0) (Bw D (va_A [(rd, .inr (6, [.ref q0, .int 0, .int 0, .int 0, .int 0, .int (-1), .int 0, .ref q1, .ref q2, .ref q3, .ref q4]))] sz) (fun (_ : Unit) => [(rd, .inr (6, [.ref q0, .int 0, .int 0, .int 0, .int 0, .int (-1), .int 0, .ref q1, .ref q2, .ref q3, .ref q4]))])) (va_A [(rd, .inr (6, [.ref q0, .int 0, .int 0, .int 0, .int 0, .int (-1), .int 0, .ref q1, .ref q2, .ref q3, .ref q4]))] sz)) 0 0 (va_A [(rd, .inr (6, [.ref q0, .int 0, .int 0, .int 0, .int 0, .int (-1), .int 0, .ref q1, .ref q2, .ref q3, .ref q4]))] sz) := by
  refine bodyE (by decide +kernel) (Nat.le_of_ble_eq_true rfl) (fun p e s m below meth c ls B hr hlk hin hsz Y hE hl => ?_)
  have hl : lv_has ls 5 [(0, .ref rd), (1, .int 0), (2, .ref (adK 1))] := hl
  have B : CallFix p m c cX6_isWord 5 s _ wALL RX6 := B
  generalize va_A [(rd, .inr (6, [.ref q0, .int 0, .int 0, .int 0, .int 0, .int (-1), .int 0, .ref q1, .ref q2, .ref q3, .ref q4]))] sz = A at Y hE ⊢
  refine lv_aload_n B.1 B.2.1 dX6_isWord_0 rfl (lv_at hl 0 rfl) ?_
  refine gf_X6_19 B Y 0 rfl rfl dX6_isWord_1 ?_
  refine lv_iload_n B.1 B.2.1 dX6_isWord_4 rfl (lv_at hl 1 rfl) ?_
  refine lv_isub B.1 B.2.1 dX6_isWord_5 ?_
  refine lv_cv (v := 0) (by decide) ?_
  refine lv_aload_n B.1 B.2.1 dX6_isWord_6 rfl (lv_at hl 2 rfl) ?_
  refine retI (wc := []) (wr := [(rd, .inr (6, [.ref q0, .int 0, .int 0, .int 0, .int 0, .int (-1), .int 0, .ref q1, .ref q2, .ref q3, .ref q4]))]) Y [] [0] rfl rfl (by decide) (by decide) (rVE (Sk.ok adK adV) hE (vk_recv (i := 0) (hE.1 1 (by decide)) (by decide) Y.2.2.2.1) (As := []) (rest := [.int 0]) B Y [] (by decide) rfl (k_length1 l D τ _ adK adV) q_1000 q_1001 q_1002 q_18 q_1003 rfl rfl hd_J0_length_8abf5 ⟨(Nat.le_of_ble_eq_true rfl), (Nat.le_of_ble_eq_true rfl)⟩ rfl hl.1 rfl (Nat.le_of_ble_eq_true rfl) dX6_isWord_7 ⟨(Nat.le_of_ble_eq_true rfl), (Nat.le_of_ble_eq_true rfl)⟩) (fun r u H locs hw Y => ?_)
  have hw : r = 4 := hw
  subst hw
  have Y : Wd D τ s A s.heap [(rd, .inr (6, [.ref q0, .int 0, .int 0, .int 0, .int 0, .int (-1), .int 0, .ref q1, .ref q2, .ref q3, .ref q4]))] H _ := Y
  refine lv_icmp_eq (tgt := 15) B.1 B.2.1 dX6_isWord_10 (by decide) (fun h => absurd h (by decide)) (fun _ => ?_)
  refine lv_iconst (v := 0) B.1 B.2.1 dX6_isWord_13 (by decide) ?_
  exact endZ B hr hlk Y (by decide) () rfl [0] (by decide) rfl (Nat.le_of_ble_eq_true rfl) (Nat.le_of_ble_eq_true rfl) dX6_isWord_14

set_option maxHeartbeats 4000000 in
set_option maxRecDepth 100000 in
theorem k_wordOf1 (l : Launch) (D : va_G) (τ : Nat → ClassId) (sz : Nat) (adK adV : Nat → Nat) : Met l yX6_wordOf (Cond.code yX6_wordOf cX6_wordOf 1 (some (.object "java/lang/String")) :: wALL) { frames := 0, cells := 0, slots := 0, locals := 0 } (PwE (Sk adK adV) D τ [] sz [.int 1]) (va_Qq (fun (r : Option Nat) (_ : Unit) => r = some (adK 1)) (Bw D (va_A [] sz) (fun (_ : Unit) => [])) (va_A [] sz)) 0 0 (va_A [] sz) := by
  refine bodyE (by decide +kernel) (Nat.le_of_ble_eq_true rfl) (fun p e s m below meth c ls B hr hlk hin hsz Y hE hl => ?_)
  have hl : lv_has ls 1 [(0, .int 1)] := hl
  have B : CallFix p m c cX6_wordOf 1 s _ wALL RX6 := B
  generalize va_A [] sz = A at Y hE ⊢
  refine lv_iload_n B.1 B.2.1 dX6_wordOf_0 rfl (lv_at hl 0 rfl) ?_
  refine lv_tableIn (off := 54) (tgt := 55) B.1 B.2.1 dX6_wordOf_1 (by decide) (by decide) rfl (by decide) ?_
  refine va_ldcS (tx := "life") B.1 B.2.1 B.2.2.2.1 (hE.2.1 1 (by decide)) dX6_wordOf_55 ?_
  exact endQ (r := some (adK 1)) B hr hlk Y () rfl [] (by decide) rfl (Nat.le_of_ble_eq_true rfl) (Nat.le_of_ble_eq_true rfl) dX6_wordOf_57

set_option maxHeartbeats 4000000 in
set_option maxRecDepth 100000 in
theorem k_isWord2 (l : Launch) (D : va_G) (τ : Nat → ClassId) (sz : Nat) (rd q0 q1 q2 q3 q4 : Nat) (adK adV : Nat → Nat) : Met l yX6_isWord (Cond.code yX6_isWord cX6_isWord 5 (some .boolean) :: wALL) { frames := 2, cells := 0, slots := 0, locals := 60 } (PwE (Sk adK adV) D τ [(rd, .inr (6, [.ref q0, .int 0, .int 0, .int 0, .int 0, .int (-1), .int 0, .ref q1, .ref q2, .ref q3, .ref q4]))] sz [.ref rd, .int 0, .ref (adK 2)]) (va_Qi (fun (r : Int32) (_ : Unit) => r = 0) (Bw D (va_A [(rd, .inr (6, [.ref q0, .int 0, .int 0, .int 0, .int 0, .int (-1), .int 0, .ref q1, .ref q2, .ref q3, .ref q4]))] sz) (fun (_ : Unit) => [(rd, .inr (6, [.ref q0, .int 0, .int 0, .int 0, .int 0, .int (-1), .int 0, .ref q1, .ref q2, .ref q3, .ref q4]))])) (va_A [(rd, .inr (6, [.ref q0, .int 0, .int 0, .int 0, .int 0, .int (-1), .int 0, .ref q1, .ref q2, .ref q3, .ref q4]))] sz)) 0 0 (va_A [(rd, .inr (6, [.ref q0, .int 0, .int 0, .int 0, .int 0, .int (-1), .int 0, .ref q1, .ref q2, .ref q3, .ref q4]))] sz) := by
  refine bodyE (by decide +kernel) (Nat.le_of_ble_eq_true rfl) (fun p e s m below meth c ls B hr hlk hin hsz Y hE hl => ?_)
  have hl : lv_has ls 5 [(0, .ref rd), (1, .int 0), (2, .ref (adK 2))] := hl
  have B : CallFix p m c cX6_isWord 5 s _ wALL RX6 := B
  generalize va_A [(rd, .inr (6, [.ref q0, .int 0, .int 0, .int 0, .int 0, .int (-1), .int 0, .ref q1, .ref q2, .ref q3, .ref q4]))] sz = A at Y hE ⊢
  refine lv_aload_n B.1 B.2.1 dX6_isWord_0 rfl (lv_at hl 0 rfl) ?_
  refine gf_X6_19 B Y 0 rfl rfl dX6_isWord_1 ?_
  refine lv_iload_n B.1 B.2.1 dX6_isWord_4 rfl (lv_at hl 1 rfl) ?_
  refine lv_isub B.1 B.2.1 dX6_isWord_5 ?_
  refine lv_cv (v := 0) (by decide) ?_
  refine lv_aload_n B.1 B.2.1 dX6_isWord_6 rfl (lv_at hl 2 rfl) ?_
  refine retI (wc := []) (wr := [(rd, .inr (6, [.ref q0, .int 0, .int 0, .int 0, .int 0, .int (-1), .int 0, .ref q1, .ref q2, .ref q3, .ref q4]))]) Y [] [0] rfl rfl (by decide) (by decide) (rVE (Sk.ok adK adV) hE (vk_recv (i := 0) (hE.1 2 (by decide)) (by decide) Y.2.2.2.1) (As := []) (rest := [.int 0]) B Y [] (by decide) rfl (k_length2 l D τ _ adK adV) q_1000 q_1001 q_1002 q_18 q_1003 rfl rfl hd_J0_length_8abf5 ⟨(Nat.le_of_ble_eq_true rfl), (Nat.le_of_ble_eq_true rfl)⟩ rfl hl.1 rfl (Nat.le_of_ble_eq_true rfl) dX6_isWord_7 ⟨(Nat.le_of_ble_eq_true rfl), (Nat.le_of_ble_eq_true rfl)⟩) (fun r u H locs hw Y => ?_)
  have hw : r = 6 := hw
  subst hw
  have Y : Wd D τ s A s.heap [(rd, .inr (6, [.ref q0, .int 0, .int 0, .int 0, .int 0, .int (-1), .int 0, .ref q1, .ref q2, .ref q3, .ref q4]))] H _ := Y
  refine lv_icmp_eq (tgt := 15) B.1 B.2.1 dX6_isWord_10 (by decide) (fun h => absurd h (by decide)) (fun _ => ?_)
  refine lv_iconst (v := 0) B.1 B.2.1 dX6_isWord_13 (by decide) ?_
  exact endZ B hr hlk Y (by decide) () rfl [0] (by decide) rfl (Nat.le_of_ble_eq_true rfl) (Nat.le_of_ble_eq_true rfl) dX6_isWord_14

set_option maxHeartbeats 4000000 in
set_option maxRecDepth 100000 in
theorem k_wordOf2 (l : Launch) (D : va_G) (τ : Nat → ClassId) (sz : Nat) (adK adV : Nat → Nat) : Met l yX6_wordOf (Cond.code yX6_wordOf cX6_wordOf 1 (some (.object "java/lang/String")) :: wALL) { frames := 0, cells := 0, slots := 0, locals := 0 } (PwE (Sk adK adV) D τ [] sz [.int 2]) (va_Qq (fun (r : Option Nat) (_ : Unit) => r = some (adK 2)) (Bw D (va_A [] sz) (fun (_ : Unit) => [])) (va_A [] sz)) 0 0 (va_A [] sz) := by
  refine bodyE (by decide +kernel) (Nat.le_of_ble_eq_true rfl) (fun p e s m below meth c ls B hr hlk hin hsz Y hE hl => ?_)
  have hl : lv_has ls 1 [(0, .int 2)] := hl
  have B : CallFix p m c cX6_wordOf 1 s _ wALL RX6 := B
  generalize va_A [] sz = A at Y hE ⊢
  refine lv_iload_n B.1 B.2.1 dX6_wordOf_0 rfl (lv_at hl 0 rfl) ?_
  refine lv_tableIn (off := 57) (tgt := 58) B.1 B.2.1 dX6_wordOf_1 (by decide) (by decide) rfl (by decide) ?_
  refine va_ldcS (tx := "policy") B.1 B.2.1 B.2.2.2.1 (hE.2.1 2 (by decide)) dX6_wordOf_58 ?_
  exact endQ (r := some (adK 2)) B hr hlk Y () rfl [] (by decide) rfl (Nat.le_of_ble_eq_true rfl) (Nat.le_of_ble_eq_true rfl) dX6_wordOf_60

set_option maxHeartbeats 4000000 in
set_option maxRecDepth 100000 in
theorem k_isWord3 (l : Launch) (D : va_G) (τ : Nat → ClassId) (sz : Nat) (rd q0 q1 q2 q3 q4 : Nat) (adK adV : Nat → Nat) : Met l yX6_isWord (Cond.code yX6_isWord cX6_isWord 5 (some .boolean) :: wALL) { frames := 2, cells := 0, slots := 0, locals := 60 } (PwE (Sk adK adV) D τ [(rd, .inr (6, [.ref q0, .int 0, .int 0, .int 0, .int 0, .int (-1), .int 0, .ref q1, .ref q2, .ref q3, .ref q4]))] sz [.ref rd, .int 0, .ref (adK 3)]) (va_Qi (fun (r : Int32) (_ : Unit) => r = 0) (Bw D (va_A [(rd, .inr (6, [.ref q0, .int 0, .int 0, .int 0, .int 0, .int (-1), .int 0, .ref q1, .ref q2, .ref q3, .ref q4]))] sz) (fun (_ : Unit) => [(rd, .inr (6, [.ref q0, .int 0, .int 0, .int 0, .int 0, .int (-1), .int 0, .ref q1, .ref q2, .ref q3, .ref q4]))])) (va_A [(rd, .inr (6, [.ref q0, .int 0, .int 0, .int 0, .int 0, .int (-1), .int 0, .ref q1, .ref q2, .ref q3, .ref q4]))] sz)) 0 0 (va_A [(rd, .inr (6, [.ref q0, .int 0, .int 0, .int 0, .int 0, .int (-1), .int 0, .ref q1, .ref q2, .ref q3, .ref q4]))] sz) := by
  refine bodyE (by decide +kernel) (Nat.le_of_ble_eq_true rfl) (fun p e s m below meth c ls B hr hlk hin hsz Y hE hl => ?_)
  have hl : lv_has ls 5 [(0, .ref rd), (1, .int 0), (2, .ref (adK 3))] := hl
  have B : CallFix p m c cX6_isWord 5 s _ wALL RX6 := B
  generalize va_A [(rd, .inr (6, [.ref q0, .int 0, .int 0, .int 0, .int 0, .int (-1), .int 0, .ref q1, .ref q2, .ref q3, .ref q4]))] sz = A at Y hE ⊢
  refine lv_aload_n B.1 B.2.1 dX6_isWord_0 rfl (lv_at hl 0 rfl) ?_
  refine gf_X6_19 B Y 0 rfl rfl dX6_isWord_1 ?_
  refine lv_iload_n B.1 B.2.1 dX6_isWord_4 rfl (lv_at hl 1 rfl) ?_
  refine lv_isub B.1 B.2.1 dX6_isWord_5 ?_
  refine lv_cv (v := 0) (by decide) ?_
  refine lv_aload_n B.1 B.2.1 dX6_isWord_6 rfl (lv_at hl 2 rfl) ?_
  refine retI (wc := []) (wr := [(rd, .inr (6, [.ref q0, .int 0, .int 0, .int 0, .int 0, .int (-1), .int 0, .ref q1, .ref q2, .ref q3, .ref q4]))]) Y [] [0] rfl rfl (by decide) (by decide) (rVE (Sk.ok adK adV) hE (vk_recv (i := 0) (hE.1 3 (by decide)) (by decide) Y.2.2.2.1) (As := []) (rest := [.int 0]) B Y [] (by decide) rfl (k_length3 l D τ _ adK adV) q_1000 q_1001 q_1002 q_18 q_1003 rfl rfl hd_J0_length_8abf5 ⟨(Nat.le_of_ble_eq_true rfl), (Nat.le_of_ble_eq_true rfl)⟩ rfl hl.1 rfl (Nat.le_of_ble_eq_true rfl) dX6_isWord_7 ⟨(Nat.le_of_ble_eq_true rfl), (Nat.le_of_ble_eq_true rfl)⟩) (fun r u H locs hw Y => ?_)
  have hw : r = 4 := hw
  subst hw
  have Y : Wd D τ s A s.heap [(rd, .inr (6, [.ref q0, .int 0, .int 0, .int 0, .int 0, .int (-1), .int 0, .ref q1, .ref q2, .ref q3, .ref q4]))] H _ := Y
  refine lv_icmp_eq (tgt := 15) B.1 B.2.1 dX6_isWord_10 (by decide) (fun h => absurd h (by decide)) (fun _ => ?_)
  refine lv_iconst (v := 0) B.1 B.2.1 dX6_isWord_13 (by decide) ?_
  exact endZ B hr hlk Y (by decide) () rfl [0] (by decide) rfl (Nat.le_of_ble_eq_true rfl) (Nat.le_of_ble_eq_true rfl) dX6_isWord_14

set_option maxHeartbeats 4000000 in
set_option maxRecDepth 100000 in
theorem k_wordOf3 (l : Launch) (D : va_G) (τ : Nat → ClassId) (sz : Nat) (adK adV : Nat → Nat) : Met l yX6_wordOf (Cond.code yX6_wordOf cX6_wordOf 1 (some (.object "java/lang/String")) :: wALL) { frames := 0, cells := 0, slots := 0, locals := 0 } (PwE (Sk adK adV) D τ [] sz [.int 3]) (va_Qq (fun (r : Option Nat) (_ : Unit) => r = some (adK 3)) (Bw D (va_A [] sz) (fun (_ : Unit) => [])) (va_A [] sz)) 0 0 (va_A [] sz) := by
  refine bodyE (by decide +kernel) (Nat.le_of_ble_eq_true rfl) (fun p e s m below meth c ls B hr hlk hin hsz Y hE hl => ?_)
  have hl : lv_has ls 1 [(0, .int 3)] := hl
  have B : CallFix p m c cX6_wordOf 1 s _ wALL RX6 := B
  generalize va_A [] sz = A at Y hE ⊢
  refine lv_iload_n B.1 B.2.1 dX6_wordOf_0 rfl (lv_at hl 0 rfl) ?_
  refine lv_tableIn (off := 60) (tgt := 61) B.1 B.2.1 dX6_wordOf_1 (by decide) (by decide) rfl (by decide) ?_
  refine va_ldcS (tx := "send") B.1 B.2.1 B.2.2.2.1 (hE.2.1 3 (by decide)) dX6_wordOf_61 ?_
  exact endQ (r := some (adK 3)) B hr hlk Y () rfl [] (by decide) rfl (Nat.le_of_ble_eq_true rfl) (Nat.le_of_ble_eq_true rfl) dX6_wordOf_63

set_option maxHeartbeats 4000000 in
set_option maxRecDepth 100000 in
theorem k_skipWord (l : Launch) (D : va_G) (τ : Nat → ClassId) (sz : Nat) (rd q0 q1 q2 q3 q4 : Nat) : Met l yX6_skipWord (Cond.code yX6_skipWord cX6_skipWord 1 none :: wALL) { frames := 0, cells := 0, slots := 0, locals := 0 } (Pw D τ [(rd, .inr (6, [.ref q0, .int 0, .int 0, .int 0, .int 0, .int (-1), .int 0, .ref q1, .ref q2, .ref q3, .ref q4]))] sz [.ref rd]) (va_Qv (fun (_ : Unit) => True) (Bw D (va_A [(rd, .inr (6, [.ref q0, .int 0, .int 0, .int 0, .int 0, .int (-1), .int 0, .ref q1, .ref q2, .ref q3, .ref q4]))] sz) (fun (_ : Unit) => [(rd, .inr (6, [.ref q0, .int 0, .int 0, .int 0, .int 0, .int (-1), .int 0, .ref q1, .ref q2, .ref q3, .ref q4]))])) (va_A [(rd, .inr (6, [.ref q0, .int 0, .int 0, .int 0, .int 0, .int (-1), .int 0, .ref q1, .ref q2, .ref q3, .ref q4]))] sz)) 0 0 (va_A [(rd, .inr (6, [.ref q0, .int 0, .int 0, .int 0, .int 0, .int (-1), .int 0, .ref q1, .ref q2, .ref q3, .ref q4]))] sz) := by
  refine bodyW (by decide) (Nat.le_of_ble_eq_true rfl) (fun p e s m below meth c ls B hr hlk hin hsz Y hl => ?_)
  have hl : lv_has ls 1 [(0, .ref rd)] := hl
  have B : CallFix p m c cX6_skipWord 1 s _ wALL RX6 := B
  generalize va_A [(rd, .inr (6, [.ref q0, .int 0, .int 0, .int 0, .int 0, .int (-1), .int 0, .ref q1, .ref q2, .ref q3, .ref q4]))] sz = A at Y ⊢
  refine lv_aload_n B.1 B.2.1 dX6_skipWord_0 rfl (lv_at hl 0 rfl) ?_
  refine gf_X6_19 B Y 0 rfl rfl dX6_skipWord_1 ?_
  refine lv_aload_n B.1 B.2.1 dX6_skipWord_4 rfl (lv_at hl 0 rfl) ?_
  refine gf_X6_15 B Y 0 rfl rfl dX6_skipWord_5 ?_
  refine lv_icmp_ge (tgt := 31) B.1 B.2.1 dX6_skipWord_8 (by decide) (fun _ => ?_) (fun h => absurd (by decide) h)
  exact endV B hr hlk Y () trivial [0] (by decide) rfl (Nat.le_of_ble_eq_true rfl) (Nat.le_of_ble_eq_true rfl) dX6_skipWord_31

set_option maxHeartbeats 4000000 in
set_option maxRecDepth 100000 in
theorem k_readKind (l : Launch) (D : va_G) (τ : Nat → ClassId) (sz : Nat) (rd q0 q1 q2 q3 q4 : Nat) (adK adV : Nat → Nat) : Met l yX6_readKind (Cond.code yX6_readKind cX6_readKind 4 (some .int) :: wALL) { frames := 3, cells := 0, slots := 0, locals := 84 } (PwE (Sk adK adV) D τ [(rd, .inr (6, [.ref q0, .int 0, .int 0, .int 0, .int 0, .int (-1), .int 0, .ref q1, .ref q2, .ref q3, .ref q4]))] sz [.ref rd]) (va_Qi (fun (r : Int32) (_ : Unit) => r = (-1)) (Bw D (va_A [(rd, .inr (6, [.ref q0, .int 0, .int 0, .int 0, .int 0, .int (-1), .int 0, .ref q1, .ref q2, .ref q3, .ref q4]))] sz) (fun (_ : Unit) => [(rd, .inr (6, [.ref q0, .int 0, .int 0, .int 0, .int 0, .int (-1), .int 0, .ref q1, .ref q2, .ref q3, .ref q4]))])) (va_A [(rd, .inr (6, [.ref q0, .int 0, .int 0, .int 0, .int 0, .int (-1), .int 0, .ref q1, .ref q2, .ref q3, .ref q4]))] sz)) 0 0 (va_A [(rd, .inr (6, [.ref q0, .int 0, .int 0, .int 0, .int 0, .int (-1), .int 0, .ref q1, .ref q2, .ref q3, .ref q4]))] sz) := by
  refine bodyE (by decide +kernel) (Nat.le_of_ble_eq_true rfl) (fun p e s m below meth c ls B hr hlk hin hsz Y hE hl => ?_)
  have hl : lv_has ls 4 [(0, .ref rd)] := hl
  have B : CallFix p m c cX6_readKind 4 s _ wALL RX6 := B
  generalize va_A [(rd, .inr (6, [.ref q0, .int 0, .int 0, .int 0, .int 0, .int (-1), .int 0, .ref q1, .ref q2, .ref q3, .ref q4]))] sz = A at Y hE ⊢
  refine lv_aload_n B.1 B.2.1 dX6_readKind_0 rfl (lv_at hl 0 rfl) ?_
  refine gf_X6_19 B Y 0 rfl rfl dX6_readKind_1 ?_
  refine lv_istore_n (lv' := [(1, .int 0), (0, .ref rd)]) B.1 B.2.1 dX6_readKind_4 rfl hl (by decide) rfl (fun ls hl => ?_)
  refine lv_aload_n B.1 B.2.1 dX6_readKind_5 rfl (lv_at hl 1 rfl) ?_
  refine retV (wc := [(rd, .inr (6, [.ref q0, .int 0, .int 0, .int 0, .int 0, .int (-1), .int 0, .ref q1, .ref q2, .ref q3, .ref q4]))]) (wr := []) Y [0] [] rfl rfl (by decide) (by decide) (rV (As := []) (rest := []) (q0 := 0) B Y [0] (by decide) rfl (k_skipWord l D τ _ rd q0 q1 q2 q3 q4) rfl rfl q_975 q_977 qp_21 q_2 q_978 rfl rfl hd_X6_skipWord ⟨(Nat.le_of_ble_eq_true rfl), (Nat.le_of_ble_eq_true rfl)⟩ rfl hl.1 rfl (Nat.le_of_ble_eq_true rfl) dX6_readKind_6 ⟨(Nat.le_of_ble_eq_true rfl), (Nat.le_of_ble_eq_true rfl)⟩) (fun u H locs hw Y => ?_)
  have Y : Wd D τ s A s.heap [(rd, .inr (6, [.ref q0, .int 0, .int 0, .int 0, .int 0, .int (-1), .int 0, .ref q1, .ref q2, .ref q3, .ref q4]))] H _ := Y
  refine lv_iconst (v := 0) B.1 B.2.1 dX6_readKind_9 (by decide) ?_
  refine lv_istore_n (lv' := [(2, .int 0), (1, .int 0), (0, .ref rd)]) B.1 B.2.1 dX6_readKind_10 rfl hl (by decide) rfl (fun ls hl => ?_)
  refine lv_iload_n B.1 B.2.1 dX6_readKind_11 rfl (lv_at hl 0 rfl) ?_
  refine lv_bipush (v := 10) B.1 B.2.1 dX6_readKind_12 (by decide) ?_
  refine lv_icmp_ge (tgt := 76) B.1 B.2.1 dX6_readKind_14 (by decide) (fun h => absurd h (by decide)) (fun _ => ?_)
  refine lv_aload_n B.1 B.2.1 dX6_readKind_17 rfl (lv_at hl 2 rfl) ?_
  refine gf_X6_22 B Y 0 rfl rfl dX6_readKind_18 ?_
  refine lv_if_eq (tgt := 37) B.1 B.2.1 dX6_readKind_21 (by decide) (fun _ => ?_) (fun h => absurd (by decide) h)
  refine lv_iload_n B.1 B.2.1 dX6_readKind_37 rfl (lv_at hl 0 rfl) ?_
  refine lv_iconst (v := 3) B.1 B.2.1 dX6_readKind_38 (by decide) ?_
  refine lv_icmp_gt (tgt := 46) B.1 B.2.1 dX6_readKind_39 (by decide) (fun h => absurd h (by decide)) (fun _ => ?_)
  refine lv_iconst (v := 1) B.1 B.2.1 dX6_readKind_42 (by decide) ?_
  refine lv_goto (tgt := 47) B.1 B.2.1 dX6_readKind_43 (by decide) ?_
  refine lv_istore_n (lv' := [(3, .int 1), (2, .int 0), (1, .int 0), (0, .ref rd)]) B.1 B.2.1 dX6_readKind_47 rfl hl (by decide) rfl (fun ls hl => ?_)
  refine lv_iload_n B.1 B.2.1 dX6_readKind_48 rfl (lv_at hl 0 rfl) ?_
  refine lv_if_eq (tgt := 70) B.1 B.2.1 dX6_readKind_49 (by decide) (fun h => absurd h (by decide)) (fun _ => ?_)
  refine lv_aload_n B.1 B.2.1 dX6_readKind_52 rfl (lv_at hl 3 rfl) ?_
  refine lv_iload_n B.1 B.2.1 dX6_readKind_53 rfl (lv_at hl 2 rfl) ?_
  refine lv_iload_n B.1 B.2.1 dX6_readKind_54 rfl (lv_at hl 1 rfl) ?_
  refine retQ (wc := []) (wr := [(rd, .inr (6, [.ref q0, .int 0, .int 0, .int 0, .int 0, .int (-1), .int 0, .ref q1, .ref q2, .ref q3, .ref q4]))]) Y [] [0] rfl rfl (by decide) (by decide) (rSE (Sk.ok adK adV) hE (As := [.int 0]) (rest := [.int 0, .ref rd]) B Y [] (by decide) rfl (k_wordOf0 l D τ _ adK adV) q_983 q_984 q_2 q_985 rfl rfl hd_X6_wordOf ⟨(Nat.le_of_ble_eq_true rfl), (Nat.le_of_ble_eq_true rfl)⟩ rfl hl.1 rfl (Nat.le_of_ble_eq_true rfl) dX6_readKind_55 ⟨(Nat.le_of_ble_eq_true rfl), (Nat.le_of_ble_eq_true rfl)⟩) (fun r u H locs hw Y => ?_)
  have hw : r = some (adK 0) := hw
  subst hw
  show W _ _ _ _ _ _ _ _ _ _ _ _ _ _ _ (F0 m _ ls (.ref (adK 0) :: .int 0 :: .ref rd :: []))
  have Y : Wd D τ s A s.heap [(rd, .inr (6, [.ref q0, .int 0, .int 0, .int 0, .int 0, .int (-1), .int 0, .ref q1, .ref q2, .ref q3, .ref q4]))] H _ := Y
  refine retI (wc := [(rd, .inr (6, [.ref q0, .int 0, .int 0, .int 0, .int 0, .int (-1), .int 0, .ref q1, .ref q2, .ref q3, .ref q4]))]) (wr := []) Y [0] [] rfl rfl (by decide) (by decide) (rVE (Sk.ok adK adV) hE (va_recv (q0 := 0) Y.1.1 Y.2.1 rfl rfl) (As := [.int 0, .ref (adK 0)]) (rest := []) B Y [0] (by decide) rfl (k_isWord0 l D τ _ rd q0 q1 q2 q3 q4 adK adV) q_996 q_998 qp_23 q_2 q_999 rfl rfl hd_X6_isWord ⟨(Nat.le_of_ble_eq_true rfl), (Nat.le_of_ble_eq_true rfl)⟩ rfl hl.1 rfl (Nat.le_of_ble_eq_true rfl) dX6_readKind_58 ⟨(Nat.le_of_ble_eq_true rfl), (Nat.le_of_ble_eq_true rfl)⟩) (fun r u H locs hw Y => ?_)
  have hw : r = 0 := hw
  subst hw
  have Y : Wd D τ s A s.heap [(rd, .inr (6, [.ref q0, .int 0, .int 0, .int 0, .int 0, .int (-1), .int 0, .ref q1, .ref q2, .ref q3, .ref q4]))] H _ := Y
  refine lv_if_eq (tgt := 70) B.1 B.2.1 dX6_readKind_61 (by decide) (fun _ => ?_) (fun h => absurd (by decide) h)
  refine lv_iinc (v := 1) (lv' := [(2, .int 1), (3, .int 1), (1, .int 0), (0, .ref rd)]) B.1 B.2.1 dX6_readKind_70 hl (k := 1) rfl (by decide) (by decide) rfl (fun ls hl => ?_)
  refine lv_goto (tgt := 11) B.1 B.2.1 dX6_readKind_73 (by decide) ?_
  refine lv_iload_n B.1 B.2.1 dX6_readKind_11 rfl (lv_at hl 0 rfl) ?_
  refine lv_bipush (v := 10) B.1 B.2.1 dX6_readKind_12 (by decide) ?_
  refine lv_icmp_ge (tgt := 76) B.1 B.2.1 dX6_readKind_14 (by decide) (fun h => absurd h (by decide)) (fun _ => ?_)
  refine lv_aload_n B.1 B.2.1 dX6_readKind_17 rfl (lv_at hl 3 rfl) ?_
  refine gf_X6_22 B Y 0 rfl rfl dX6_readKind_18 ?_
  refine lv_if_eq (tgt := 37) B.1 B.2.1 dX6_readKind_21 (by decide) (fun _ => ?_) (fun h => absurd (by decide) h)
  refine lv_iload_n B.1 B.2.1 dX6_readKind_37 rfl (lv_at hl 0 rfl) ?_
  refine lv_iconst (v := 3) B.1 B.2.1 dX6_readKind_38 (by decide) ?_
  refine lv_icmp_gt (tgt := 46) B.1 B.2.1 dX6_readKind_39 (by decide) (fun h => absurd h (by decide)) (fun _ => ?_)
  refine lv_iconst (v := 1) B.1 B.2.1 dX6_readKind_42 (by decide) ?_
  refine lv_goto (tgt := 47) B.1 B.2.1 dX6_readKind_43 (by decide) ?_
  refine lv_istore_n (lv' := [(3, .int 1), (2, .int 1), (1, .int 0), (0, .ref rd)]) B.1 B.2.1 dX6_readKind_47 rfl hl (by decide) rfl (fun ls hl => ?_)
  refine lv_iload_n B.1 B.2.1 dX6_readKind_48 rfl (lv_at hl 0 rfl) ?_
  refine lv_if_eq (tgt := 70) B.1 B.2.1 dX6_readKind_49 (by decide) (fun h => absurd h (by decide)) (fun _ => ?_)
  refine lv_aload_n B.1 B.2.1 dX6_readKind_52 rfl (lv_at hl 3 rfl) ?_
  refine lv_iload_n B.1 B.2.1 dX6_readKind_53 rfl (lv_at hl 2 rfl) ?_
  refine lv_iload_n B.1 B.2.1 dX6_readKind_54 rfl (lv_at hl 1 rfl) ?_
  refine retQ (wc := []) (wr := [(rd, .inr (6, [.ref q0, .int 0, .int 0, .int 0, .int 0, .int (-1), .int 0, .ref q1, .ref q2, .ref q3, .ref q4]))]) Y [] [0] rfl rfl (by decide) (by decide) (rSE (Sk.ok adK adV) hE (As := [.int 1]) (rest := [.int 0, .ref rd]) B Y [] (by decide) rfl (k_wordOf1 l D τ _ adK adV) q_983 q_984 q_2 q_985 rfl rfl hd_X6_wordOf ⟨(Nat.le_of_ble_eq_true rfl), (Nat.le_of_ble_eq_true rfl)⟩ rfl hl.1 rfl (Nat.le_of_ble_eq_true rfl) dX6_readKind_55 ⟨(Nat.le_of_ble_eq_true rfl), (Nat.le_of_ble_eq_true rfl)⟩) (fun r u H locs hw Y => ?_)
  have hw : r = some (adK 1) := hw
  subst hw
  show W _ _ _ _ _ _ _ _ _ _ _ _ _ _ _ (F0 m _ ls (.ref (adK 1) :: .int 0 :: .ref rd :: []))
  have Y : Wd D τ s A s.heap [(rd, .inr (6, [.ref q0, .int 0, .int 0, .int 0, .int 0, .int (-1), .int 0, .ref q1, .ref q2, .ref q3, .ref q4]))] H _ := Y
  refine retI (wc := [(rd, .inr (6, [.ref q0, .int 0, .int 0, .int 0, .int 0, .int (-1), .int 0, .ref q1, .ref q2, .ref q3, .ref q4]))]) (wr := []) Y [0] [] rfl rfl (by decide) (by decide) (rVE (Sk.ok adK adV) hE (va_recv (q0 := 0) Y.1.1 Y.2.1 rfl rfl) (As := [.int 0, .ref (adK 1)]) (rest := []) B Y [0] (by decide) rfl (k_isWord1 l D τ _ rd q0 q1 q2 q3 q4 adK adV) q_996 q_998 qp_23 q_2 q_999 rfl rfl hd_X6_isWord ⟨(Nat.le_of_ble_eq_true rfl), (Nat.le_of_ble_eq_true rfl)⟩ rfl hl.1 rfl (Nat.le_of_ble_eq_true rfl) dX6_readKind_58 ⟨(Nat.le_of_ble_eq_true rfl), (Nat.le_of_ble_eq_true rfl)⟩) (fun r u H locs hw Y => ?_)
  have hw : r = 0 := hw
  subst hw
  have Y : Wd D τ s A s.heap [(rd, .inr (6, [.ref q0, .int 0, .int 0, .int 0, .int 0, .int (-1), .int 0, .ref q1, .ref q2, .ref q3, .ref q4]))] H _ := Y
  refine lv_if_eq (tgt := 70) B.1 B.2.1 dX6_readKind_61 (by decide) (fun _ => ?_) (fun h => absurd (by decide) h)
  refine lv_iinc (v := 2) (lv' := [(2, .int 2), (3, .int 1), (1, .int 0), (0, .ref rd)]) B.1 B.2.1 dX6_readKind_70 hl (k := 1) rfl (by decide) (by decide) rfl (fun ls hl => ?_)
  refine lv_goto (tgt := 11) B.1 B.2.1 dX6_readKind_73 (by decide) ?_
  refine lv_iload_n B.1 B.2.1 dX6_readKind_11 rfl (lv_at hl 0 rfl) ?_
  refine lv_bipush (v := 10) B.1 B.2.1 dX6_readKind_12 (by decide) ?_
  refine lv_icmp_ge (tgt := 76) B.1 B.2.1 dX6_readKind_14 (by decide) (fun h => absurd h (by decide)) (fun _ => ?_)
  refine lv_aload_n B.1 B.2.1 dX6_readKind_17 rfl (lv_at hl 3 rfl) ?_
  refine gf_X6_22 B Y 0 rfl rfl dX6_readKind_18 ?_
  refine lv_if_eq (tgt := 37) B.1 B.2.1 dX6_readKind_21 (by decide) (fun _ => ?_) (fun h => absurd (by decide) h)
  refine lv_iload_n B.1 B.2.1 dX6_readKind_37 rfl (lv_at hl 0 rfl) ?_
  refine lv_iconst (v := 3) B.1 B.2.1 dX6_readKind_38 (by decide) ?_
  refine lv_icmp_gt (tgt := 46) B.1 B.2.1 dX6_readKind_39 (by decide) (fun h => absurd h (by decide)) (fun _ => ?_)
  refine lv_iconst (v := 1) B.1 B.2.1 dX6_readKind_42 (by decide) ?_
  refine lv_goto (tgt := 47) B.1 B.2.1 dX6_readKind_43 (by decide) ?_
  refine lv_istore_n (lv' := [(3, .int 1), (2, .int 2), (1, .int 0), (0, .ref rd)]) B.1 B.2.1 dX6_readKind_47 rfl hl (by decide) rfl (fun ls hl => ?_)
  refine lv_iload_n B.1 B.2.1 dX6_readKind_48 rfl (lv_at hl 0 rfl) ?_
  refine lv_if_eq (tgt := 70) B.1 B.2.1 dX6_readKind_49 (by decide) (fun h => absurd h (by decide)) (fun _ => ?_)
  refine lv_aload_n B.1 B.2.1 dX6_readKind_52 rfl (lv_at hl 3 rfl) ?_
  refine lv_iload_n B.1 B.2.1 dX6_readKind_53 rfl (lv_at hl 2 rfl) ?_
  refine lv_iload_n B.1 B.2.1 dX6_readKind_54 rfl (lv_at hl 1 rfl) ?_
  refine retQ (wc := []) (wr := [(rd, .inr (6, [.ref q0, .int 0, .int 0, .int 0, .int 0, .int (-1), .int 0, .ref q1, .ref q2, .ref q3, .ref q4]))]) Y [] [0] rfl rfl (by decide) (by decide) (rSE (Sk.ok adK adV) hE (As := [.int 2]) (rest := [.int 0, .ref rd]) B Y [] (by decide) rfl (k_wordOf2 l D τ _ adK adV) q_983 q_984 q_2 q_985 rfl rfl hd_X6_wordOf ⟨(Nat.le_of_ble_eq_true rfl), (Nat.le_of_ble_eq_true rfl)⟩ rfl hl.1 rfl (Nat.le_of_ble_eq_true rfl) dX6_readKind_55 ⟨(Nat.le_of_ble_eq_true rfl), (Nat.le_of_ble_eq_true rfl)⟩) (fun r u H locs hw Y => ?_)
  have hw : r = some (adK 2) := hw
  subst hw
  show W _ _ _ _ _ _ _ _ _ _ _ _ _ _ _ (F0 m _ ls (.ref (adK 2) :: .int 0 :: .ref rd :: []))
  have Y : Wd D τ s A s.heap [(rd, .inr (6, [.ref q0, .int 0, .int 0, .int 0, .int 0, .int (-1), .int 0, .ref q1, .ref q2, .ref q3, .ref q4]))] H _ := Y
  refine retI (wc := [(rd, .inr (6, [.ref q0, .int 0, .int 0, .int 0, .int 0, .int (-1), .int 0, .ref q1, .ref q2, .ref q3, .ref q4]))]) (wr := []) Y [0] [] rfl rfl (by decide) (by decide) (rVE (Sk.ok adK adV) hE (va_recv (q0 := 0) Y.1.1 Y.2.1 rfl rfl) (As := [.int 0, .ref (adK 2)]) (rest := []) B Y [0] (by decide) rfl (k_isWord2 l D τ _ rd q0 q1 q2 q3 q4 adK adV) q_996 q_998 qp_23 q_2 q_999 rfl rfl hd_X6_isWord ⟨(Nat.le_of_ble_eq_true rfl), (Nat.le_of_ble_eq_true rfl)⟩ rfl hl.1 rfl (Nat.le_of_ble_eq_true rfl) dX6_readKind_58 ⟨(Nat.le_of_ble_eq_true rfl), (Nat.le_of_ble_eq_true rfl)⟩) (fun r u H locs hw Y => ?_)
  have hw : r = 0 := hw
  subst hw
  have Y : Wd D τ s A s.heap [(rd, .inr (6, [.ref q0, .int 0, .int 0, .int 0, .int 0, .int (-1), .int 0, .ref q1, .ref q2, .ref q3, .ref q4]))] H _ := Y
  refine lv_if_eq (tgt := 70) B.1 B.2.1 dX6_readKind_61 (by decide) (fun _ => ?_) (fun h => absurd (by decide) h)
  refine lv_iinc (v := 3) (lv' := [(2, .int 3), (3, .int 1), (1, .int 0), (0, .ref rd)]) B.1 B.2.1 dX6_readKind_70 hl (k := 1) rfl (by decide) (by decide) rfl (fun ls hl => ?_)
  refine lv_goto (tgt := 11) B.1 B.2.1 dX6_readKind_73 (by decide) ?_
  refine lv_iload_n B.1 B.2.1 dX6_readKind_11 rfl (lv_at hl 0 rfl) ?_
  refine lv_bipush (v := 10) B.1 B.2.1 dX6_readKind_12 (by decide) ?_
  refine lv_icmp_ge (tgt := 76) B.1 B.2.1 dX6_readKind_14 (by decide) (fun h => absurd h (by decide)) (fun _ => ?_)
  refine lv_aload_n B.1 B.2.1 dX6_readKind_17 rfl (lv_at hl 3 rfl) ?_
  refine gf_X6_22 B Y 0 rfl rfl dX6_readKind_18 ?_
  refine lv_if_eq (tgt := 37) B.1 B.2.1 dX6_readKind_21 (by decide) (fun _ => ?_) (fun h => absurd (by decide) h)
  refine lv_iload_n B.1 B.2.1 dX6_readKind_37 rfl (lv_at hl 0 rfl) ?_
  refine lv_iconst (v := 3) B.1 B.2.1 dX6_readKind_38 (by decide) ?_
  refine lv_icmp_gt (tgt := 46) B.1 B.2.1 dX6_readKind_39 (by decide) (fun h => absurd h (by decide)) (fun _ => ?_)
  refine lv_iconst (v := 1) B.1 B.2.1 dX6_readKind_42 (by decide) ?_
  refine lv_goto (tgt := 47) B.1 B.2.1 dX6_readKind_43 (by decide) ?_
  refine lv_istore_n (lv' := [(3, .int 1), (2, .int 3), (1, .int 0), (0, .ref rd)]) B.1 B.2.1 dX6_readKind_47 rfl hl (by decide) rfl (fun ls hl => ?_)
  refine lv_iload_n B.1 B.2.1 dX6_readKind_48 rfl (lv_at hl 0 rfl) ?_
  refine lv_if_eq (tgt := 70) B.1 B.2.1 dX6_readKind_49 (by decide) (fun h => absurd h (by decide)) (fun _ => ?_)
  refine lv_aload_n B.1 B.2.1 dX6_readKind_52 rfl (lv_at hl 3 rfl) ?_
  refine lv_iload_n B.1 B.2.1 dX6_readKind_53 rfl (lv_at hl 2 rfl) ?_
  refine lv_iload_n B.1 B.2.1 dX6_readKind_54 rfl (lv_at hl 1 rfl) ?_
  refine retQ (wc := []) (wr := [(rd, .inr (6, [.ref q0, .int 0, .int 0, .int 0, .int 0, .int (-1), .int 0, .ref q1, .ref q2, .ref q3, .ref q4]))]) Y [] [0] rfl rfl (by decide) (by decide) (rSE (Sk.ok adK adV) hE (As := [.int 3]) (rest := [.int 0, .ref rd]) B Y [] (by decide) rfl (k_wordOf3 l D τ _ adK adV) q_983 q_984 q_2 q_985 rfl rfl hd_X6_wordOf ⟨(Nat.le_of_ble_eq_true rfl), (Nat.le_of_ble_eq_true rfl)⟩ rfl hl.1 rfl (Nat.le_of_ble_eq_true rfl) dX6_readKind_55 ⟨(Nat.le_of_ble_eq_true rfl), (Nat.le_of_ble_eq_true rfl)⟩) (fun r u H locs hw Y => ?_)
  have hw : r = some (adK 3) := hw
  subst hw
  show W _ _ _ _ _ _ _ _ _ _ _ _ _ _ _ (F0 m _ ls (.ref (adK 3) :: .int 0 :: .ref rd :: []))
  have Y : Wd D τ s A s.heap [(rd, .inr (6, [.ref q0, .int 0, .int 0, .int 0, .int 0, .int (-1), .int 0, .ref q1, .ref q2, .ref q3, .ref q4]))] H _ := Y
  refine retI (wc := [(rd, .inr (6, [.ref q0, .int 0, .int 0, .int 0, .int 0, .int (-1), .int 0, .ref q1, .ref q2, .ref q3, .ref q4]))]) (wr := []) Y [0] [] rfl rfl (by decide) (by decide) (rVE (Sk.ok adK adV) hE (va_recv (q0 := 0) Y.1.1 Y.2.1 rfl rfl) (As := [.int 0, .ref (adK 3)]) (rest := []) B Y [0] (by decide) rfl (k_isWord3 l D τ _ rd q0 q1 q2 q3 q4 adK adV) q_996 q_998 qp_23 q_2 q_999 rfl rfl hd_X6_isWord ⟨(Nat.le_of_ble_eq_true rfl), (Nat.le_of_ble_eq_true rfl)⟩ rfl hl.1 rfl (Nat.le_of_ble_eq_true rfl) dX6_readKind_58 ⟨(Nat.le_of_ble_eq_true rfl), (Nat.le_of_ble_eq_true rfl)⟩) (fun r u H locs hw Y => ?_)
  have hw : r = 0 := hw
  subst hw
  have Y : Wd D τ s A s.heap [(rd, .inr (6, [.ref q0, .int 0, .int 0, .int 0, .int 0, .int (-1), .int 0, .ref q1, .ref q2, .ref q3, .ref q4]))] H _ := Y
  refine lv_if_eq (tgt := 70) B.1 B.2.1 dX6_readKind_61 (by decide) (fun _ => ?_) (fun h => absurd (by decide) h)
  refine lv_iinc (v := 4) (lv' := [(2, .int 4), (3, .int 1), (1, .int 0), (0, .ref rd)]) B.1 B.2.1 dX6_readKind_70 hl (k := 1) rfl (by decide) (by decide) rfl (fun ls hl => ?_)
  refine lv_goto (tgt := 11) B.1 B.2.1 dX6_readKind_73 (by decide) ?_
  refine lv_iload_n B.1 B.2.1 dX6_readKind_11 rfl (lv_at hl 0 rfl) ?_
  refine lv_bipush (v := 10) B.1 B.2.1 dX6_readKind_12 (by decide) ?_
  refine lv_icmp_ge (tgt := 76) B.1 B.2.1 dX6_readKind_14 (by decide) (fun h => absurd h (by decide)) (fun _ => ?_)
  refine lv_aload_n B.1 B.2.1 dX6_readKind_17 rfl (lv_at hl 3 rfl) ?_
  refine gf_X6_22 B Y 0 rfl rfl dX6_readKind_18 ?_
  refine lv_if_eq (tgt := 37) B.1 B.2.1 dX6_readKind_21 (by decide) (fun _ => ?_) (fun h => absurd (by decide) h)
  refine lv_iload_n B.1 B.2.1 dX6_readKind_37 rfl (lv_at hl 0 rfl) ?_
  refine lv_iconst (v := 3) B.1 B.2.1 dX6_readKind_38 (by decide) ?_
  refine lv_icmp_gt (tgt := 46) B.1 B.2.1 dX6_readKind_39 (by decide) (fun _ => ?_) (fun h => absurd (by decide) h)
  refine lv_iconst (v := 0) B.1 B.2.1 dX6_readKind_46 (by decide) ?_
  refine lv_istore_n (lv' := [(3, .int 0), (2, .int 4), (1, .int 0), (0, .ref rd)]) B.1 B.2.1 dX6_readKind_47 rfl hl (by decide) rfl (fun ls hl => ?_)
  refine lv_iload_n B.1 B.2.1 dX6_readKind_48 rfl (lv_at hl 0 rfl) ?_
  refine lv_if_eq (tgt := 70) B.1 B.2.1 dX6_readKind_49 (by decide) (fun _ => ?_) (fun h => absurd (by decide) h)
  refine lv_iinc (v := 5) (lv' := [(2, .int 5), (3, .int 0), (1, .int 0), (0, .ref rd)]) B.1 B.2.1 dX6_readKind_70 hl (k := 1) rfl (by decide) (by decide) rfl (fun ls hl => ?_)
  refine lv_goto (tgt := 11) B.1 B.2.1 dX6_readKind_73 (by decide) ?_
  refine lv_iload_n B.1 B.2.1 dX6_readKind_11 rfl (lv_at hl 0 rfl) ?_
  refine lv_bipush (v := 10) B.1 B.2.1 dX6_readKind_12 (by decide) ?_
  refine lv_icmp_ge (tgt := 76) B.1 B.2.1 dX6_readKind_14 (by decide) (fun h => absurd h (by decide)) (fun _ => ?_)
  refine lv_aload_n B.1 B.2.1 dX6_readKind_17 rfl (lv_at hl 3 rfl) ?_
  refine gf_X6_22 B Y 0 rfl rfl dX6_readKind_18 ?_
  refine lv_if_eq (tgt := 37) B.1 B.2.1 dX6_readKind_21 (by decide) (fun _ => ?_) (fun h => absurd (by decide) h)
  refine lv_iload_n B.1 B.2.1 dX6_readKind_37 rfl (lv_at hl 0 rfl) ?_
  refine lv_iconst (v := 3) B.1 B.2.1 dX6_readKind_38 (by decide) ?_
  refine lv_icmp_gt (tgt := 46) B.1 B.2.1 dX6_readKind_39 (by decide) (fun _ => ?_) (fun h => absurd (by decide) h)
  refine lv_iconst (v := 0) B.1 B.2.1 dX6_readKind_46 (by decide) ?_
  refine lv_istore_n (lv' := [(3, .int 0), (2, .int 5), (1, .int 0), (0, .ref rd)]) B.1 B.2.1 dX6_readKind_47 rfl hl (by decide) rfl (fun ls hl => ?_)
  refine lv_iload_n B.1 B.2.1 dX6_readKind_48 rfl (lv_at hl 0 rfl) ?_
  refine lv_if_eq (tgt := 70) B.1 B.2.1 dX6_readKind_49 (by decide) (fun _ => ?_) (fun h => absurd (by decide) h)
  refine lv_iinc (v := 6) (lv' := [(2, .int 6), (3, .int 0), (1, .int 0), (0, .ref rd)]) B.1 B.2.1 dX6_readKind_70 hl (k := 1) rfl (by decide) (by decide) rfl (fun ls hl => ?_)
  refine lv_goto (tgt := 11) B.1 B.2.1 dX6_readKind_73 (by decide) ?_
  refine lv_iload_n B.1 B.2.1 dX6_readKind_11 rfl (lv_at hl 0 rfl) ?_
  refine lv_bipush (v := 10) B.1 B.2.1 dX6_readKind_12 (by decide) ?_
  refine lv_icmp_ge (tgt := 76) B.1 B.2.1 dX6_readKind_14 (by decide) (fun h => absurd h (by decide)) (fun _ => ?_)
  refine lv_aload_n B.1 B.2.1 dX6_readKind_17 rfl (lv_at hl 3 rfl) ?_
  refine gf_X6_22 B Y 0 rfl rfl dX6_readKind_18 ?_
  refine lv_if_eq (tgt := 37) B.1 B.2.1 dX6_readKind_21 (by decide) (fun _ => ?_) (fun h => absurd (by decide) h)
  refine lv_iload_n B.1 B.2.1 dX6_readKind_37 rfl (lv_at hl 0 rfl) ?_
  refine lv_iconst (v := 3) B.1 B.2.1 dX6_readKind_38 (by decide) ?_
  refine lv_icmp_gt (tgt := 46) B.1 B.2.1 dX6_readKind_39 (by decide) (fun _ => ?_) (fun h => absurd (by decide) h)
  refine lv_iconst (v := 0) B.1 B.2.1 dX6_readKind_46 (by decide) ?_
  refine lv_istore_n (lv' := [(3, .int 0), (2, .int 6), (1, .int 0), (0, .ref rd)]) B.1 B.2.1 dX6_readKind_47 rfl hl (by decide) rfl (fun ls hl => ?_)
  refine lv_iload_n B.1 B.2.1 dX6_readKind_48 rfl (lv_at hl 0 rfl) ?_
  refine lv_if_eq (tgt := 70) B.1 B.2.1 dX6_readKind_49 (by decide) (fun _ => ?_) (fun h => absurd (by decide) h)
  refine lv_iinc (v := 7) (lv' := [(2, .int 7), (3, .int 0), (1, .int 0), (0, .ref rd)]) B.1 B.2.1 dX6_readKind_70 hl (k := 1) rfl (by decide) (by decide) rfl (fun ls hl => ?_)
  refine lv_goto (tgt := 11) B.1 B.2.1 dX6_readKind_73 (by decide) ?_
  refine lv_iload_n B.1 B.2.1 dX6_readKind_11 rfl (lv_at hl 0 rfl) ?_
  refine lv_bipush (v := 10) B.1 B.2.1 dX6_readKind_12 (by decide) ?_
  refine lv_icmp_ge (tgt := 76) B.1 B.2.1 dX6_readKind_14 (by decide) (fun h => absurd h (by decide)) (fun _ => ?_)
  refine lv_aload_n B.1 B.2.1 dX6_readKind_17 rfl (lv_at hl 3 rfl) ?_
  refine gf_X6_22 B Y 0 rfl rfl dX6_readKind_18 ?_
  refine lv_if_eq (tgt := 37) B.1 B.2.1 dX6_readKind_21 (by decide) (fun _ => ?_) (fun h => absurd (by decide) h)
  refine lv_iload_n B.1 B.2.1 dX6_readKind_37 rfl (lv_at hl 0 rfl) ?_
  refine lv_iconst (v := 3) B.1 B.2.1 dX6_readKind_38 (by decide) ?_
  refine lv_icmp_gt (tgt := 46) B.1 B.2.1 dX6_readKind_39 (by decide) (fun _ => ?_) (fun h => absurd (by decide) h)
  refine lv_iconst (v := 0) B.1 B.2.1 dX6_readKind_46 (by decide) ?_
  refine lv_istore_n (lv' := [(3, .int 0), (2, .int 7), (1, .int 0), (0, .ref rd)]) B.1 B.2.1 dX6_readKind_47 rfl hl (by decide) rfl (fun ls hl => ?_)
  refine lv_iload_n B.1 B.2.1 dX6_readKind_48 rfl (lv_at hl 0 rfl) ?_
  refine lv_if_eq (tgt := 70) B.1 B.2.1 dX6_readKind_49 (by decide) (fun _ => ?_) (fun h => absurd (by decide) h)
  refine lv_iinc (v := 8) (lv' := [(2, .int 8), (3, .int 0), (1, .int 0), (0, .ref rd)]) B.1 B.2.1 dX6_readKind_70 hl (k := 1) rfl (by decide) (by decide) rfl (fun ls hl => ?_)
  refine lv_goto (tgt := 11) B.1 B.2.1 dX6_readKind_73 (by decide) ?_
  refine lv_iload_n B.1 B.2.1 dX6_readKind_11 rfl (lv_at hl 0 rfl) ?_
  refine lv_bipush (v := 10) B.1 B.2.1 dX6_readKind_12 (by decide) ?_
  refine lv_icmp_ge (tgt := 76) B.1 B.2.1 dX6_readKind_14 (by decide) (fun h => absurd h (by decide)) (fun _ => ?_)
  refine lv_aload_n B.1 B.2.1 dX6_readKind_17 rfl (lv_at hl 3 rfl) ?_
  refine gf_X6_22 B Y 0 rfl rfl dX6_readKind_18 ?_
  refine lv_if_eq (tgt := 37) B.1 B.2.1 dX6_readKind_21 (by decide) (fun _ => ?_) (fun h => absurd (by decide) h)
  refine lv_iload_n B.1 B.2.1 dX6_readKind_37 rfl (lv_at hl 0 rfl) ?_
  refine lv_iconst (v := 3) B.1 B.2.1 dX6_readKind_38 (by decide) ?_
  refine lv_icmp_gt (tgt := 46) B.1 B.2.1 dX6_readKind_39 (by decide) (fun _ => ?_) (fun h => absurd (by decide) h)
  refine lv_iconst (v := 0) B.1 B.2.1 dX6_readKind_46 (by decide) ?_
  refine lv_istore_n (lv' := [(3, .int 0), (2, .int 8), (1, .int 0), (0, .ref rd)]) B.1 B.2.1 dX6_readKind_47 rfl hl (by decide) rfl (fun ls hl => ?_)
  refine lv_iload_n B.1 B.2.1 dX6_readKind_48 rfl (lv_at hl 0 rfl) ?_
  refine lv_if_eq (tgt := 70) B.1 B.2.1 dX6_readKind_49 (by decide) (fun _ => ?_) (fun h => absurd (by decide) h)
  refine lv_iinc (v := 9) (lv' := [(2, .int 9), (3, .int 0), (1, .int 0), (0, .ref rd)]) B.1 B.2.1 dX6_readKind_70 hl (k := 1) rfl (by decide) (by decide) rfl (fun ls hl => ?_)
  refine lv_goto (tgt := 11) B.1 B.2.1 dX6_readKind_73 (by decide) ?_
  refine lv_iload_n B.1 B.2.1 dX6_readKind_11 rfl (lv_at hl 0 rfl) ?_
  refine lv_bipush (v := 10) B.1 B.2.1 dX6_readKind_12 (by decide) ?_
  refine lv_icmp_ge (tgt := 76) B.1 B.2.1 dX6_readKind_14 (by decide) (fun h => absurd h (by decide)) (fun _ => ?_)
  refine lv_aload_n B.1 B.2.1 dX6_readKind_17 rfl (lv_at hl 3 rfl) ?_
  refine gf_X6_22 B Y 0 rfl rfl dX6_readKind_18 ?_
  refine lv_if_eq (tgt := 37) B.1 B.2.1 dX6_readKind_21 (by decide) (fun _ => ?_) (fun h => absurd (by decide) h)
  refine lv_iload_n B.1 B.2.1 dX6_readKind_37 rfl (lv_at hl 0 rfl) ?_
  refine lv_iconst (v := 3) B.1 B.2.1 dX6_readKind_38 (by decide) ?_
  refine lv_icmp_gt (tgt := 46) B.1 B.2.1 dX6_readKind_39 (by decide) (fun _ => ?_) (fun h => absurd (by decide) h)
  refine lv_iconst (v := 0) B.1 B.2.1 dX6_readKind_46 (by decide) ?_
  refine lv_istore_n (lv' := [(3, .int 0), (2, .int 9), (1, .int 0), (0, .ref rd)]) B.1 B.2.1 dX6_readKind_47 rfl hl (by decide) rfl (fun ls hl => ?_)
  refine lv_iload_n B.1 B.2.1 dX6_readKind_48 rfl (lv_at hl 0 rfl) ?_
  refine lv_if_eq (tgt := 70) B.1 B.2.1 dX6_readKind_49 (by decide) (fun _ => ?_) (fun h => absurd (by decide) h)
  refine lv_iinc (v := 10) (lv' := [(2, .int 10), (3, .int 0), (1, .int 0), (0, .ref rd)]) B.1 B.2.1 dX6_readKind_70 hl (k := 1) rfl (by decide) (by decide) rfl (fun ls hl => ?_)
  refine lv_goto (tgt := 11) B.1 B.2.1 dX6_readKind_73 (by decide) ?_
  refine lv_iload_n B.1 B.2.1 dX6_readKind_11 rfl (lv_at hl 0 rfl) ?_
  refine lv_bipush (v := 10) B.1 B.2.1 dX6_readKind_12 (by decide) ?_
  refine lv_icmp_ge (tgt := 76) B.1 B.2.1 dX6_readKind_14 (by decide) (fun _ => ?_) (fun h => absurd (by decide) h)
  refine lv_iconst (v := (-1)) B.1 B.2.1 dX6_readKind_76 (by decide) ?_
  exact endI B hr hlk Y () rfl [0] (by decide) rfl (Nat.le_of_ble_eq_true rfl) (Nat.le_of_ble_eq_true rfl) dX6_readKind_77

set_option maxHeartbeats 4000000 in
set_option maxRecDepth 100000 in
theorem k_isFailed (l : Launch) (D : va_G) (τ : Nat → ClassId) (sz : Nat) (rd q0 q1 q2 q3 q4 : Nat) : Met l yX6_isFailed (Cond.code yX6_isFailed cX6_isFailed 3 (some .boolean) :: wALL) { frames := 0, cells := 0, slots := 0, locals := 0 } (Pw D τ [(rd, .inr (6, [.ref q0, .int 0, .int 0, .int 0, .int 0, .int (-1), .int 0, .ref q1, .ref q2, .ref q3, .ref q4]))] sz [.ref rd, .int 1, .int 0]) (va_Qi (fun (r : Int32) (_ : Unit) => r = 0) (Bw D (va_A [(rd, .inr (6, [.ref q0, .int 0, .int 0, .int 0, .int 0, .int (-1), .int 0, .ref q1, .ref q2, .ref q3, .ref q4]))] sz) (fun (_ : Unit) => [(rd, .inr (6, [.ref q0, .int 0, .int 0, .int 0, .int 1, .int 0, .int 0, .ref q1, .ref q2, .ref q3, .ref q4]))])) (va_A [(rd, .inr (6, [.ref q0, .int 0, .int 0, .int 0, .int 0, .int (-1), .int 0, .ref q1, .ref q2, .ref q3, .ref q4]))] sz)) 0 0 (va_A [(rd, .inr (6, [.ref q0, .int 0, .int 0, .int 0, .int 0, .int (-1), .int 0, .ref q1, .ref q2, .ref q3, .ref q4]))] sz) := by
  refine bodyW (by decide) (Nat.le_of_ble_eq_true rfl) (fun p e s m below meth c ls B hr hlk hin hsz Y hl => ?_)
  have hl : lv_has ls 3 [(0, .ref rd), (1, .int 1), (2, .int 0)] := hl
  have B : CallFix p m c cX6_isFailed 3 s _ wALL RX6 := B
  generalize va_A [(rd, .inr (6, [.ref q0, .int 0, .int 0, .int 0, .int 0, .int (-1), .int 0, .ref q1, .ref q2, .ref q3, .ref q4]))] sz = A at Y ⊢
  refine lv_aload_n B.1 B.2.1 dX6_isFailed_0 rfl (lv_at hl 0 rfl) ?_
  refine lv_iload_n B.1 B.2.1 dX6_isFailed_1 rfl (lv_at hl 1 rfl) ?_
  refine pf_X6_26 (ws' := [(rd, .inr (6, [.ref q0, .int 0, .int 0, .int 0, .int 1, .int (-1), .int 0, .ref q1, .ref q2, .ref q3, .ref q4]))]) B Y 0 rfl (Nat.le_of_ble_eq_true rfl) rfl dX6_isFailed_2 (fun H locs Y => ?_)
  refine lv_aload_n B.1 B.2.1 dX6_isFailed_5 rfl (lv_at hl 0 rfl) ?_
  refine lv_iload_n B.1 B.2.1 dX6_isFailed_6 rfl (lv_at hl 2 rfl) ?_
  refine pf_X6_29 (ws' := [(rd, .inr (6, [.ref q0, .int 0, .int 0, .int 0, .int 1, .int 0, .int 0, .ref q1, .ref q2, .ref q3, .ref q4]))]) B Y 0 rfl (Nat.le_of_ble_eq_true rfl) rfl dX6_isFailed_7 (fun H locs Y => ?_)
  refine lv_iconst (v := 0) B.1 B.2.1 dX6_isFailed_10 (by decide) ?_
  exact endZ B hr hlk Y (by decide) () rfl [0] (by decide) rfl (Nat.le_of_ble_eq_true rfl) (Nat.le_of_ble_eq_true rfl) dX6_isFailed_11

set_option maxHeartbeats 4000000 in
set_option maxRecDepth 100000 in
theorem k_isStatementRead (l : Launch) (D : va_G) (τ : Nat → ClassId) (sz : Nat) (rd q0 q1 q2 q3 q4 : Nat) (adK adV : Nat → Nat) : Met l yX6_isStatementRead (Cond.code yX6_isStatementRead cX6_isStatementRead 4 (some .boolean) :: wALL) { frames := 4, cells := 0, slots := 0, locals := 107 } (PwE (Sk adK adV) D τ [(rd, .inr (6, [.ref q0, .int 0, .int 0, .int 0, .int 0, .int (-1), .int 0, .ref q1, .ref q2, .ref q3, .ref q4]))] sz [.ref rd]) (va_Qi (fun (r : Int32) (_ : Unit) => r = 0) (Bw D (va_A [(rd, .inr (6, [.ref q0, .int 0, .int 0, .int 0, .int 0, .int (-1), .int 0, .ref q1, .ref q2, .ref q3, .ref q4]))] sz) (fun (_ : Unit) => [(rd, .inr (6, [.ref q0, .int 0, .int 0, .int 0, .int 1, .int 0, .int 0, .ref q1, .ref q2, .ref q3, .ref q4]))])) (va_A [(rd, .inr (6, [.ref q0, .int 0, .int 0, .int 0, .int 0, .int (-1), .int 0, .ref q1, .ref q2, .ref q3, .ref q4]))] sz)) 0 0 (va_A [(rd, .inr (6, [.ref q0, .int 0, .int 0, .int 0, .int 0, .int (-1), .int 0, .ref q1, .ref q2, .ref q3, .ref q4]))] sz) := by
  refine bodyE (by decide +kernel) (Nat.le_of_ble_eq_true rfl) (fun p e s m below meth c ls B hr hlk hin hsz Y hE hl => ?_)
  have hl : lv_has ls 4 [(0, .ref rd)] := hl
  have B : CallFix p m c cX6_isStatementRead 4 s _ wALL RX6 := B
  generalize va_A [(rd, .inr (6, [.ref q0, .int 0, .int 0, .int 0, .int 0, .int (-1), .int 0, .ref q1, .ref q2, .ref q3, .ref q4]))] sz = A at Y hE ⊢
  refine lv_aload_n B.1 B.2.1 dX6_isStatementRead_0 rfl (lv_at hl 0 rfl) ?_
  refine gf_X6_19 B Y 0 rfl rfl dX6_isStatementRead_1 ?_
  refine lv_istore_n (lv' := [(1, .int 0), (0, .ref rd)]) B.1 B.2.1 dX6_isStatementRead_4 rfl hl (by decide) rfl (fun ls hl => ?_)
  refine lv_aload_n B.1 B.2.1 dX6_isStatementRead_5 rfl (lv_at hl 1 rfl) ?_
  refine retI (wc := [(rd, .inr (6, [.ref q0, .int 0, .int 0, .int 0, .int 0, .int (-1), .int 0, .ref q1, .ref q2, .ref q3, .ref q4]))]) (wr := []) Y [0] [] rfl rfl (by decide) (by decide) (rVE (Sk.ok adK adV) hE (va_recv (q0 := 0) Y.1.1 Y.2.1 rfl rfl) (As := []) (rest := []) B Y [0] (by decide) rfl (k_readKind l D τ _ rd q0 q1 q2 q3 q4 adK adV) q_971 q_973 qp_20 q_2 q_974 rfl rfl hd_X6_readKind ⟨(Nat.le_of_ble_eq_true rfl), (Nat.le_of_ble_eq_true rfl)⟩ rfl hl.1 rfl (Nat.le_of_ble_eq_true rfl) dX6_isStatementRead_6 ⟨(Nat.le_of_ble_eq_true rfl), (Nat.le_of_ble_eq_true rfl)⟩) (fun r u H locs hw Y => ?_)
  have hw : r = (-1) := hw
  subst hw
  have Y : Wd D τ s A s.heap [(rd, .inr (6, [.ref q0, .int 0, .int 0, .int 0, .int 0, .int (-1), .int 0, .ref q1, .ref q2, .ref q3, .ref q4]))] H _ := Y
  refine lv_istore_n (lv' := [(2, .int (-1)), (1, .int 0), (0, .ref rd)]) B.1 B.2.1 dX6_isStatementRead_9 rfl hl (by decide) rfl (fun ls hl => ?_)
  refine lv_iload_n B.1 B.2.1 dX6_isStatementRead_10 rfl (lv_at hl 0 rfl) ?_
  refine lv_iconst (v := (-1)) B.1 B.2.1 dX6_isStatementRead_11 (by decide) ?_
  refine lv_icmp_eq (tgt := 33) B.1 B.2.1 dX6_isStatementRead_12 (by decide) (fun _ => ?_) (fun h => absurd (by decide) h)
  refine lv_aload_n B.1 B.2.1 dX6_isStatementRead_33 rfl (lv_at hl 2 rfl) ?_
  refine lv_iconst (v := 1) B.1 B.2.1 dX6_isStatementRead_34 (by decide) ?_
  refine lv_iload_n B.1 B.2.1 dX6_isStatementRead_35 rfl (lv_at hl 1 rfl) ?_
  refine retI (wc := [(rd, .inr (6, [.ref q0, .int 0, .int 0, .int 0, .int 0, .int (-1), .int 0, .ref q1, .ref q2, .ref q3, .ref q4]))]) (wr := []) Y [0] [] rfl rfl (by decide) (by decide) (rV (As := [.int 1, .int 0]) (rest := []) (q0 := 0) B Y [0] (by decide) rfl (k_isFailed l D τ _ rd q0 q1 q2 q3 q4) rfl rfl q_1048 q_1050 qp_24 q_2 q_1051 rfl rfl hd_X6_isFailed ⟨(Nat.le_of_ble_eq_true rfl), (Nat.le_of_ble_eq_true rfl)⟩ rfl hl.1 rfl (Nat.le_of_ble_eq_true rfl) dX6_isStatementRead_36 ⟨(Nat.le_of_ble_eq_true rfl), (Nat.le_of_ble_eq_true rfl)⟩) (fun r u H locs hw Y => ?_)
  have hw : r = 0 := hw
  subst hw
  have Y : Wd D τ s A s.heap [(rd, .inr (6, [.ref q0, .int 0, .int 0, .int 0, .int 1, .int 0, .int 0, .ref q1, .ref q2, .ref q3, .ref q4]))] H _ := Y
  exact endZ B hr hlk Y (by decide) () rfl [0] (by decide) rfl (Nat.le_of_ble_eq_true rfl) (Nat.le_of_ble_eq_true rfl) dX6_isStatementRead_39

set_option maxHeartbeats 4000000 in
set_option maxRecDepth 100000 in
theorem k_isWellRead0 (l : Launch) (D : va_G) (τ : Nat → ClassId) (sz : Nat) (rd q0 q1 q2 q3 q4 : Nat) (adK adV : Nat → Nat) : Met l yX6_isWellRead (Cond.code yX6_isWellRead cX6_isWellRead 4 (some .boolean) :: wALL) { frames := 5, cells := 0, slots := 0, locals := 130 } (PwE (Sk adK adV) D τ [(rd, .inr (6, [.ref q0, .int 0, .int 0, .int 0, .int 0, .int (-1), .int 0, .ref q1, .ref q2, .ref q3, .ref q4])), (q4, .inl (τ 0, 10, .inl (fun _ => 0)))] sz [.ref rd, .int 0]) (va_Qi (fun (r : Int32) (_ : Unit) => r = 0) (Bw D (va_A [(rd, .inr (6, [.ref q0, .int 0, .int 0, .int 0, .int 0, .int (-1), .int 0, .ref q1, .ref q2, .ref q3, .ref q4])), (q4, .inl (τ 0, 10, .inl (fun _ => 0)))] sz) (fun (_ : Unit) => [])) (va_A [(rd, .inr (6, [.ref q0, .int 0, .int 0, .int 0, .int 0, .int (-1), .int 0, .ref q1, .ref q2, .ref q3, .ref q4])), (q4, .inl (τ 0, 10, .inl (fun _ => 0)))] sz)) 0 0 (va_A [(rd, .inr (6, [.ref q0, .int 0, .int 0, .int 0, .int 0, .int (-1), .int 0, .ref q1, .ref q2, .ref q3, .ref q4])), (q4, .inl (τ 0, 10, .inl (fun _ => 0)))] sz) := by
  refine bodyE (by decide +kernel) (Nat.le_of_ble_eq_true rfl) (fun p e s m below meth c ls B hr hlk hin hsz Y hE hl => ?_)
  have hl : lv_has ls 4 [(0, .ref rd), (1, .int 0)] := hl
  have B : CallFix p m c cX6_isWellRead 4 s _ wALL RX6 := B
  generalize va_A [(rd, .inr (6, [.ref q0, .int 0, .int 0, .int 0, .int 0, .int (-1), .int 0, .ref q1, .ref q2, .ref q3, .ref q4])), (q4, .inl (τ 0, 10, .inl (fun _ => 0)))] sz = A at Y hE ⊢
  refine lv_aload_n B.1 B.2.1 dX6_isWellRead_0 rfl (lv_at hl 0 rfl) ?_
  refine lv_iload_n B.1 B.2.1 dX6_isWellRead_1 rfl (lv_at hl 1 rfl) ?_
  refine pf_X6_22 (ws' := [(rd, .inr (6, [.ref q0, .int 0, .int 0, .int 0, .int 0, .int (-1), .int 0, .ref q1, .ref q2, .ref q3, .ref q4])), (q4, .inl (τ 0, 10, .inl (fun _ => 0)))]) B Y (by decide) (by decide) 0 rfl (Nat.le_of_ble_eq_true rfl) rfl dX6_isWellRead_2 (fun H locs Y => ?_)
  refine lv_aload_n B.1 B.2.1 dX6_isWellRead_5 rfl (lv_at hl 0 rfl) ?_
  refine lv_iconst (v := 0) B.1 B.2.1 dX6_isWellRead_6 (by decide) ?_
  refine pf_X6_19 (ws' := [(rd, .inr (6, [.ref q0, .int 0, .int 0, .int 0, .int 0, .int (-1), .int 0, .ref q1, .ref q2, .ref q3, .ref q4])), (q4, .inl (τ 0, 10, .inl (fun _ => 0)))]) B Y 0 rfl (Nat.le_of_ble_eq_true rfl) rfl dX6_isWellRead_7 (fun H locs Y => ?_)
  refine lv_aload_n B.1 B.2.1 dX6_isWellRead_10 rfl (lv_at hl 0 rfl) ?_
  refine lv_iconst (v := 0) B.1 B.2.1 dX6_isWellRead_11 (by decide) ?_
  refine pf_X6_26 (ws' := [(rd, .inr (6, [.ref q0, .int 0, .int 0, .int 0, .int 0, .int (-1), .int 0, .ref q1, .ref q2, .ref q3, .ref q4])), (q4, .inl (τ 0, 10, .inl (fun _ => 0)))]) B Y 0 rfl (Nat.le_of_ble_eq_true rfl) rfl dX6_isWellRead_12 (fun H locs Y => ?_)
  refine lv_aload_n B.1 B.2.1 dX6_isWellRead_15 rfl (lv_at hl 0 rfl) ?_
  refine lv_iconst (v := (-1)) B.1 B.2.1 dX6_isWellRead_16 (by decide) ?_
  refine pf_X6_29 (ws' := [(rd, .inr (6, [.ref q0, .int 0, .int 0, .int 0, .int 0, .int (-1), .int 0, .ref q1, .ref q2, .ref q3, .ref q4])), (q4, .inl (τ 0, 10, .inl (fun _ => 0)))]) B Y 0 rfl (Nat.le_of_ble_eq_true rfl) rfl dX6_isWellRead_17 (fun H locs Y => ?_)
  refine lv_aload_n B.1 B.2.1 dX6_isWellRead_20 rfl (lv_at hl 0 rfl) ?_
  refine lv_iconst (v := 0) B.1 B.2.1 dX6_isWellRead_21 (by decide) ?_
  refine pf_X6_32 (ws' := [(rd, .inr (6, [.ref q0, .int 0, .int 0, .int 0, .int 0, .int (-1), .int 0, .ref q1, .ref q2, .ref q3, .ref q4])), (q4, .inl (τ 0, 10, .inl (fun _ => 0)))]) B Y 0 rfl (Nat.le_of_ble_eq_true rfl) rfl dX6_isWellRead_22 (fun H locs Y => ?_)
  refine lv_aload_n B.1 B.2.1 dX6_isWellRead_25 rfl (lv_at hl 0 rfl) ?_
  refine gf_X6_46 B Y 0 rfl rfl dX6_isWellRead_26 ?_
  refine lv_iconst (v := 0) B.1 B.2.1 dX6_isWellRead_29 (by decide) ?_
  refine retV (wc := [(q4, .inl (τ 0, 10, .inl (fun _ => 0)))]) (wr := [(rd, .inr (6, [.ref q0, .int 0, .int 0, .int 0, .int 0, .int (-1), .int 0, .ref q1, .ref q2, .ref q3, .ref q4]))]) Y [1] [0] rfl rfl (by decide) (by decide) (rS (As := [.ref q4, .int 0]) (rest := []) B Y [1] (by decide) rfl (k_fill l D τ _ q4 10 (fun _ => 0) 0 (by decide)) q_958 q_113 q_6 q_114 rfl rfl hd_J7_fill_53178 ⟨(Nat.le_of_ble_eq_true rfl), (Nat.le_of_ble_eq_true rfl)⟩ rfl hl.1 rfl (Nat.le_of_ble_eq_true rfl) dX6_isWellRead_30 ⟨(Nat.le_of_ble_eq_true rfl), (Nat.le_of_ble_eq_true rfl)⟩) (fun u H locs hw Y => ?_)
  have Y : Wd D τ s A s.heap [(rd, .inr (6, [.ref q0, .int 0, .int 0, .int 0, .int 0, .int (-1), .int 0, .ref q1, .ref q2, .ref q3, .ref q4])), (q4, .inl (τ 0, 10, .inl (fil (fun _ => 0) (fun _ => 0) 10)))] H _ := Y
  refine lv_aload_n B.1 B.2.1 dX6_isWellRead_33 rfl (lv_at hl 0 rfl) ?_
  refine retV (wc := [(rd, .inr (6, [.ref q0, .int 0, .int 0, .int 0, .int 0, .int (-1), .int 0, .ref q1, .ref q2, .ref q3, .ref q4]))]) (wr := [(q4, .inl (τ 0, 10, .inl (fil (fun _ => 0) (fun _ => 0) 10)))]) Y [0] [1] rfl rfl (by decide) (by decide) (rV (As := []) (rest := []) (q0 := 0) B Y [0] (by decide) rfl (k_skipSpaces0 l D τ _ rd q0 q1 q2 q3 q4) rfl rfl q_959 q_961 qp_17 q_2 q_962 rfl rfl hd_X6_skipSpaces ⟨(Nat.le_of_ble_eq_true rfl), (Nat.le_of_ble_eq_true rfl)⟩ rfl hl.1 rfl (Nat.le_of_ble_eq_true rfl) dX6_isWellRead_34 ⟨(Nat.le_of_ble_eq_true rfl), (Nat.le_of_ble_eq_true rfl)⟩) (fun u H locs hw Y => ?_)
  have Y : Wd D τ s A s.heap [(q4, .inl (τ 0, 10, .inl (fil (fun _ => 0) (fun _ => 0) 10))), (rd, .inr (6, [.ref q0, .int 0, .int 0, .int 0, .int 0, .int (-1), .int 0, .ref q1, .ref q2, .ref q3, .ref q4]))] H _ := Y
  refine lv_aload_n B.1 B.2.1 dX6_isWellRead_37 rfl (lv_at hl 0 rfl) ?_
  refine gf_X6_22 B Y 1 rfl rfl dX6_isWellRead_38 ?_
  refine lv_if_eq (tgt := 55) B.1 B.2.1 dX6_isWellRead_41 (by decide) (fun _ => ?_) (fun h => absurd (by decide) h)
  refine lv_iconst (v := 1) B.1 B.2.1 dX6_isWellRead_55 (by decide) ?_
  refine lv_goto (tgt := 60) B.1 B.2.1 dX6_isWellRead_56 (by decide) ?_
  refine lv_istore_n (lv' := [(2, .int 1), (0, .ref rd), (1, .int 0)]) B.1 B.2.1 dX6_isWellRead_60 rfl hl (by decide) rfl (fun ls hl => ?_)
  refine lv_iconst (v := 0) B.1 B.2.1 dX6_isWellRead_61 (by decide) ?_
  refine lv_istore_n (lv' := [(3, .int 0), (2, .int 1), (0, .ref rd), (1, .int 0)]) B.1 B.2.1 dX6_isWellRead_62 rfl hl (by decide) rfl (fun ls hl => ?_)
  refine lv_iload_n B.1 B.2.1 dX6_isWellRead_63 rfl (lv_at hl 0 rfl) ?_
  refine lv_sipush (v := 500) B.1 B.2.1 dX6_isWellRead_64 (by decide) ?_
  refine lv_icmp_ge (tgt := 100) B.1 B.2.1 dX6_isWellRead_67 (by decide) (fun h => absurd h (by decide)) (fun _ => ?_)
  refine lv_iload_n B.1 B.2.1 dX6_isWellRead_70 rfl (lv_at hl 1 rfl) ?_
  refine lv_if_eq (tgt := 100) B.1 B.2.1 dX6_isWellRead_71 (by decide) (fun h => absurd h (by decide)) (fun _ => ?_)
  refine lv_aload_n B.1 B.2.1 dX6_isWellRead_74 rfl (lv_at hl 2 rfl) ?_
  refine retI (wc := [(rd, .inr (6, [.ref q0, .int 0, .int 0, .int 0, .int 0, .int (-1), .int 0, .ref q1, .ref q2, .ref q3, .ref q4]))]) (wr := [(q4, .inl (τ 0, 10, .inl (fil (fun _ => 0) (fun _ => 0) 10)))]) Y [1] [0] rfl rfl (by decide) (by decide) (rVE (Sk.ok adK adV) hE (va_recv (q0 := 1) Y.1.1 Y.2.1 rfl rfl) (As := []) (rest := []) B Y [1] (by decide) rfl (k_isStatementRead l D τ _ rd q0 q1 q2 q3 q4 adK adV) q_967 q_969 qp_19 q_2 q_970 rfl rfl hd_X6_isStatementRead ⟨(Nat.le_of_ble_eq_true rfl), (Nat.le_of_ble_eq_true rfl)⟩ rfl hl.1 rfl (Nat.le_of_ble_eq_true rfl) dX6_isWellRead_75 ⟨(Nat.le_of_ble_eq_true rfl), (Nat.le_of_ble_eq_true rfl)⟩) (fun r u H locs hw Y => ?_)
  have hw : r = 0 := hw
  subst hw
  have Y : Wd D τ s A s.heap [(q4, .inl (τ 0, 10, .inl (fil (fun _ => 0) (fun _ => 0) 10))), (rd, .inr (6, [.ref q0, .int 0, .int 0, .int 0, .int 1, .int 0, .int 0, .ref q1, .ref q2, .ref q3, .ref q4]))] H _ := Y
  refine lv_if_eq (tgt := 92) B.1 B.2.1 dX6_isWellRead_78 (by decide) (fun _ => ?_) (fun h => absurd (by decide) h)
  refine lv_iconst (v := 0) B.1 B.2.1 dX6_isWellRead_92 (by decide) ?_
  refine lv_istore_n (lv' := [(2, .int 0), (3, .int 0), (0, .ref rd), (1, .int 0)]) B.1 B.2.1 dX6_isWellRead_93 rfl hl (by decide) rfl (fun ls hl => ?_)
  refine lv_iinc (v := 1) (lv' := [(3, .int 1), (2, .int 0), (0, .ref rd), (1, .int 0)]) B.1 B.2.1 dX6_isWellRead_94 hl (k := 1) rfl (by decide) (by decide) rfl (fun ls hl => ?_)
  refine lv_goto (tgt := 63) B.1 B.2.1 dX6_isWellRead_97 (by decide) ?_
  refine lv_iload_n B.1 B.2.1 dX6_isWellRead_63 rfl (lv_at hl 0 rfl) ?_
  refine lv_sipush (v := 500) B.1 B.2.1 dX6_isWellRead_64 (by decide) ?_
  refine lv_icmp_ge (tgt := 100) B.1 B.2.1 dX6_isWellRead_67 (by decide) (fun h => absurd h (by decide)) (fun _ => ?_)
  refine lv_iload_n B.1 B.2.1 dX6_isWellRead_70 rfl (lv_at hl 1 rfl) ?_
  refine lv_if_eq (tgt := 100) B.1 B.2.1 dX6_isWellRead_71 (by decide) (fun _ => ?_) (fun h => absurd (by decide) h)
  refine lv_aload_n B.1 B.2.1 dX6_isWellRead_100 rfl (lv_at hl 2 rfl) ?_
  refine lv_iconst (v := 0) B.1 B.2.1 dX6_isWellRead_101 (by decide) ?_
  refine pf_X6_15 (ws' := [(q4, .inl (τ 0, 10, .inl (fil (fun _ => 0) (fun _ => 0) 10))), (rd, .inr (6, [.ref q0, .int 0, .int 0, .int 0, .int 1, .int 0, .int 0, .ref q1, .ref q2, .ref q3, .ref q4]))]) B Y 1 rfl (Nat.le_of_ble_eq_true rfl) rfl dX6_isWellRead_102 (fun H locs Y => ?_)
  refine lv_aload_n B.1 B.2.1 dX6_isWellRead_105 rfl (lv_at hl 2 rfl) ?_
  refine gf_X6_26 B Y 1 rfl rfl dX6_isWellRead_106 ?_
  refine lv_if_ne (tgt := 116) B.1 B.2.1 dX6_isWellRead_109 (by decide) (fun _ => ?_) (fun h => absurd h (by decide))
  refine lv_iconst (v := 0) B.1 B.2.1 dX6_isWellRead_116 (by decide) ?_
  exact endZ B hr hlk Y (by decide) () rfl [] (by decide) rfl (Nat.le_of_ble_eq_true rfl) (Nat.le_of_ble_eq_true rfl) dX6_isWellRead_117

set_option maxHeartbeats 4000000 in
set_option maxRecDepth 100000 in
theorem m_readText (l : Launch) (hl0 : l.stackTraces = false) (D : va_G) (τ : Nat → ClassId) (sz : Nat) (x rd q0 q1 q2 q3 q4 tx to bu st pa aL aD aH l0 d0 p0 v0 p1 v1 p2 v2 p3 v3 pk k0 k1 k2 k3 k4 k5 k6 k7 k8 k9 nt n0 n1 n2 ac : Nat) (fL fD fH : Nat → Option Nat) (hS : fL 0 = some l0 ∧ fD 0 = some d0 ∧ fH 0 = some p0 ∧ fH 1 = some p1 ∧ fH 2 = some p2 ∧ fH 3 = some p3) (adK adV : Nat → Nat) : vx_Met l yX9_readText (Cond.code yX9_readText cX9_readText 2 (some .int) :: wALL) { frames := 6, cells := 1, slots := 6, locals := 160 } (PwE (SkX adK adV) D τ [(x, .inr (9, [.ref rd, .ref tx, .ref bu, .ref st, .ref pa, .int 0, .int 0, .null, .null])), (rd, .inr (6, [.ref q0, .int 0, .int 0, .int 0, .int 0, .int (-1), .int 0, .ref q1, .ref q2, .ref q3, .ref q4])), (q4, .inl (τ 0, 10, .inl (fun _ => 0)))] sz [.ref x]) (va_Qi (fun (r : Int32) (_ : Unit) => False) (Bw D (va_A [(x, .inr (9, [.ref rd, .ref tx, .ref bu, .ref st, .ref pa, .int 0, .int 0, .null, .null])), (rd, .inr (6, [.ref q0, .int 0, .int 0, .int 0, .int 0, .int (-1), .int 0, .ref q1, .ref q2, .ref q3, .ref q4])), (q4, .inl (τ 0, 10, .inl (fun _ => 0)))] sz) (fun (_ : Unit) => [])) (va_A [(x, .inr (9, [.ref rd, .ref tx, .ref bu, .ref st, .ref pa, .int 0, .int 0, .null, .null])), (rd, .inr (6, [.ref q0, .int 0, .int 0, .int 0, .int 0, .int (-1), .int 0, .ref q1, .ref q2, .ref q3, .ref q4])), (q4, .inl (τ 0, 10, .inl (fun _ => 0)))] sz)) (XQ (fun E => E = "java/lang/IllegalArgumentException") (va_A [(x, .inr (9, [.ref rd, .ref tx, .ref bu, .ref st, .ref pa, .int 0, .int 0, .null, .null])), (rd, .inr (6, [.ref q0, .int 0, .int 0, .int 0, .int 0, .int (-1), .int 0, .ref q1, .ref q2, .ref q3, .ref q4])), (q4, .inl (τ 0, 10, .inl (fun _ => 0)))] sz)) 1 6 (va_A [(x, .inr (9, [.ref rd, .ref tx, .ref bu, .ref st, .ref pa, .int 0, .int 0, .null, .null])), (rd, .inr (6, [.ref q0, .int 0, .int 0, .int 0, .int 0, .int (-1), .int 0, .ref q1, .ref q2, .ref q3, .ref q4])), (q4, .inl (τ 0, 10, .inl (fun _ => 0)))] sz) := by
  refine bodyEX (by decide) (Nat.le_of_ble_eq_true rfl) (fun p e s m below meth c ls B hr hlk ht hsz Y hE hl => ?_)
  have hl : lv_has ls 2 [(0, .ref x)] := hl
  have B : CallFix p m c cX9_readText 2 s _ wALL RX9 := B
  generalize va_A [(x, .inr (9, [.ref rd, .ref tx, .ref bu, .ref st, .ref pa, .int 0, .int 0, .null, .null])), (rd, .inr (6, [.ref q0, .int 0, .int 0, .int 0, .int 0, .int (-1), .int 0, .ref q1, .ref q2, .ref q3, .ref q4])), (q4, .inl (τ 0, 10, .inl (fun _ => 0)))] sz = A at Y hE ⊢
  refine lv_aload_n B.1 B.2.1 dX9_readText_0 rfl (lv_at hl 0 rfl) ?_
  refine gf_X9_10 B Y 0 rfl rfl dX9_readText_1 ?_
  refine lv_iconst (v := 0) B.1 B.2.1 dX9_readText_4 (by decide) ?_
  refine retI (wc := [(rd, .inr (6, [.ref q0, .int 0, .int 0, .int 0, .int 0, .int (-1), .int 0, .ref q1, .ref q2, .ref q3, .ref q4])), (q4, .inl (τ 0, 10, .inl (fun _ => 0)))]) (wr := [(x, .inr (9, [.ref rd, .ref tx, .ref bu, .ref st, .ref pa, .int 0, .int 0, .null, .null]))]) Y [1, 2] [0] rfl rfl (by decide) (by decide) (rVE (Sk.ok adK adV) hE.2 (va_recv (q0 := 1) Y.1.1 Y.2.1 rfl rfl) (As := [.int 0]) (rest := []) B Y [1, 2] (by decide) rfl (k_isWellRead0 l D τ _ rd q0 q1 q2 q3 q4 adK adV) q_954 q_955 q_956 q_2 q_957 rfl rfl hd_X6_isWellRead ⟨(Nat.le_of_ble_eq_true rfl), (Nat.le_of_ble_eq_true rfl)⟩ rfl hl.1 rfl (Nat.le_of_ble_eq_true rfl) dX9_readText_5 ⟨(Nat.le_of_ble_eq_true rfl), (Nat.le_of_ble_eq_true rfl)⟩) (fun r u H locs hw Y => ?_)
  have hw : r = 0 := hw
  subst hw
  have Y : Wd D τ s A s.heap [(x, .inr (9, [.ref rd, .ref tx, .ref bu, .ref st, .ref pa, .int 0, .int 0, .null, .null]))] H _ := Y
  refine lv_if_ne (tgt := 21) B.1 B.2.1 dX9_readText_8 (by decide) (fun h => absurd (by decide) h) (fun _ => ?_)
  exact t_throwN (names := ["java/lang/RuntimeException", "java/lang/Exception"]) (text := "the text has an error") B hl0 Y hE.1 (by decide) (by decide) q_931 q_17 (by decide +kernel) th1_X9_87 th2_X9_87 th3_X9_87 hl.1 dX9_readText_11 dX9_readText_14 dX9_readText_15 dX9_readText_17 dX9_readText_20 ht hlk (Nat.le_of_ble_eq_true rfl) (Nat.le_of_ble_eq_true rfl) (Nat.le_of_ble_eq_true rfl) (Nat.le_of_ble_eq_true rfl) rfl (Nat.le_of_ble_eq_true rfl) (Nat.le_of_ble_eq_true rfl)
