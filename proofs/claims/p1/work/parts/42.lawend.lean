set_option maxHeartbeats 4000000 in
set_option maxRecDepth 100000 in
theorem law_ret {p : Program} {l : Launch} {e : Env} {s : State} {m : MethodId} {below : List Frame} {meth : Method} {c : Code} {D : va_G} {τ : Nat → ClassId} {A : Nat → Prop} {b : Nat} (B : CallFix p m c cL_law 9 s #[Value.ref b] wALL RL) (hr : meth.sig.returnType = ret) (hlk : meth.locks = false) (hA0 : ∀ q, A q → s.heap.size ≤ q) {ws : va_W} {H : Heap} {locs : List Loc} {ls : Array Slot} {cells slots : Nat} (hc : cells ≤ 590000) (hs : slots ≤ 7290000) (Y : Wd D τ s A s.heap ws H locs) : W p l e room_1 s m #[Value.ref b] below meth c H locs cells slots (lw_Z below #[Value.ref b] s) (F0 m 2658 ls []) := by
  refine lv_iconst (v := 1) B.1 B.2.1 dL_law_2658 (by decide) ?_
  refine va_forget (fun q hq => hA0 _ (Y.2.2.2.1.2.2 q hq)) ?_
  refine W.widen (k := room_1.cells) (n := room_1.slots) (Nat.le_trans hc (by simp [room_1])) (Nat.le_trans hs (by simp [room_1])) ?_
  exact lw_ret (d0 := s.drawn) (Drawn.sameBut.refl s.drawn lw_cs) B.1 B.2.1 hr hlk dL_law_2659

set_option maxHeartbeats 4000000 in
set_option maxRecDepth 100000 in
theorem law_end {p : Program} {l : Launch} {e : Env} {s : State} {m : MethodId} {below : List Frame} {meth : Method} {c : Code} {D : va_G} {τ : Nat → ClassId} {A : Nat → Prop} {b : Nat} {xs : Nat → Int32} (B : CallFix p m c cL_law 9 s #[Value.ref b] wALL RL) (hr : meth.sig.returnType = ret) (hlk : meth.locks = false) (hX : va_X b 6 xs s s.heap) (hbl : b < s.heap.size) (hbA : ¬ A b) (hA0 : ∀ q, A q → s.heap.size ≤ q) {x mo ou : Nat} {ws : va_W} {H : Heap} {locs : List Loc} {ls : Array Slot} {cells slots : Nat} (hc : cells ≤ 590000) (hs : slots ≤ 7290000) (hl : lv_has ls 9 [(4, .int 0), (3, .ref ou), (2, .ref mo), (1, .ref x), (0, .ref b)]) (Y : Wd D τ s A s.heap ws H locs) : W p l e room_1 s m #[Value.ref b] below meth c H locs cells slots (lw_Z below #[Value.ref b] s) (F0 m 2652 ls []) := by
  refine lv_iinc (v := 6) (lv' := [(4, .int 6), (3, .ref ou), (2, .ref mo), (1, .ref x), (0, .ref b)]) B.1 B.2.1 dL_law_2652 hl (k := 0) rfl (by decide) (by decide) rfl (fun ls hl => ?_)
  refine lv_goto (tgt := 23) B.1 B.2.1 dL_law_2655 (by decide) ?_
  refine lv_iload B.1 B.2.1 dL_law_23 (lv_at hl 0 rfl) ?_
  refine lv_aload_n B.1 B.2.1 dL_law_25 rfl (lv_at hl 4 rfl) ?_
  refine t_slen B Y hX hbl hbA dL_law_26 ?_
  refine lv_cv (v := 6) (by decide) ?_
  refine lv_bipush (v := 6) B.1 B.2.1 dL_law_27 (by decide) ?_
  refine lv_isub B.1 B.2.1 dL_law_29 ?_
  refine lv_cv (v := 0) (by decide) ?_
  refine lv_icmp_gt (tgt := 2658) B.1 B.2.1 dL_law_30 (by decide) (fun _ => ?_) (fun h => absurd (by decide) h)
  exact law_ret B hr hlk hA0 hc hs Y
