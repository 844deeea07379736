/-! J4_length_8abf5 -/
theorem dJ4_length_8abf5_0 : decode cJ4_length_8abf5 0 = .ok (.aload_n 0, 1) := by decide +kernel
theorem dJ4_length_8abf5_1 : decode cJ4_length_8abf5 1 = .ok (.invokespecial 343, 3) := by decide +kernel
theorem dJ4_length_8abf5_4 : decode cJ4_length_8abf5 4 = .ok (.ireturn, 1) := by decide +kernel
theorem hd_J4_length_8abf5 : yJ4_length_8abf5.cls ≠ "java/lang/invoke/MethodHandle" ∧ yJ4_length_8abf5.cls ≠ "java/lang/invoke/VarHandle" ∧ (parseMethodDescriptor yJ4_length_8abf5.desc).map (fun d => d.parameters.length) = some 0 := by decide +kernel
section FO
variable {p : Program} {l : Launch} {e : Env} {R : Room} {s : State} {m : MethodId} {args : Array Value} {below : List Frame} {meth : Method} {c : Code} {H : Heap} {locs : List Loc} {cells slots : Nat} {Q : State → Prop}
variable {cc : ByteArray} {pc nL : Nat} {ls : Array Slot} {rest : List Value} {own : String} {D : va_G} {τ : Nat → ClassId} {A : Nat → Prop} {H0 : Heap} {B0 B' B Cs Rs : List va_W} {a : Nat} {fs : List Value} {v : Value} {x : Int32}
theorem cVO {E : (Nat → Prop) → State → Prop} {x y : MethodName} {bytes b0 : ByteArray} {maxL m0 n index mc ms : Nat} {ret r0 : Option FieldType} {rm : Room} {Qc : Array Value → State → Outcome → State → Prop} {free : Addr → Prop} {As : List Value} {b q0 : Nat} {fs : List Value} {st0 : List Value} (hE0 : EOK E) (hT0 : E A s) (X : CallFix p m c cc nL s args wALL own) (Y : Wd D τ s A s.heap (bl B) H locs) (is : List Nat) (hn : va_nd is = true) (hC : is.map (fun i => B[i]?) = Cs.map some) (hM : Met l y (Cond.code y bytes maxL ret :: wALL) rm (PwE E D τ (bl Cs) H.size (.ref b :: As)) Qc mc ms free) (he : B[q0]? = some [(b, .inr (1, fs))]) (k1 : Cond.methodLink own index x ∈ wALL) (k2 : Cond.instanceMethod y ∈ wALL) (k3 : Cond.selects RJ4 x y ∈ wALL) (k4 : Cond.initialized y.cls ∈ wALL) (k5 : Cond.code y bytes maxL ret ∈ wALL) (k6 : Cond.sameMethod x.cls x.cls x.name x.desc ∈ wALL) (k7 : Cond.instanceMethod x ∈ wALL) (k8 : Cond.code x b0 m0 r0 ∈ wALL) (hrc : rm.cells = mc) (hrs : rm.slots = ms) (hd : x.cls ≠ "java/lang/invoke/MethodHandle" ∧ x.cls ≠ "java/lang/invoke/VarHandle" ∧ (parseMethodDescriptor x.desc).map (fun d => d.parameters.length) = some n) (hR : rm.frames + 1 ≤ R.frames ∧ 8 + (maxL + 11) + rm.locals ≤ R.locals) (hAs : As.length = n) (hls : ls.size = nL) (hst : st0 = As.reverse ++ .ref b :: rest) (hrest : (rest.map fun v => v.category).sum ≤ 8) (hdg : decode cc pc = .ok (.invokevirtual index, 3)) (hf : cells + mc ≤ R.cells ∧ slots + ms ≤ R.slots) :
    va_Run p l e R s m args below meth c H locs cells slots mc ms (F0 m pc ls st0) rest (Qc (Value.ref b :: As).toArray) free := by
  have Z := Y.pick is hn hC
  have hts := X.2.2.2.2
  obtain ⟨z, he1, -⟩ := bl_at he
  exact va_runU (As := As) (rest := rest) (C := RJ4) (x := x) (owner := x.cls) X hM ⟨⟨hrc, hrs, hR.1, hR.2, pay_in hts (gALL k5), List.mem_cons_self⟩, hts _ k5, hts _ k4, ⟨hd.1, hd.2.1⟩, fun sig h => by have h2 := hd.2.2; rw [h] at h2; exact (Option.some.inj h2).symm, hts _ k1, hts _ k6, va_Decl.of (hts _ k7) (hts _ k8), hts _ k3, hts _ k2⟩ ⟨PwE.blind hE0, va_recv Y.1.1 Y.2.1 (q := (RJ4, TJ4, 4)) rfl he1, fun U hU hW => ⟨rfl, by rw [hU], by rw [hU]; exact Z.2.1, Z.1.warm hW, Z.2.2.1.weaken (fun _ _ _ _ => trivial), hE0.subB hT0 Z hU hW⟩⟩ rfl hAs hls hst (lv_room hrest) hdg hf
end FO
set_option maxHeartbeats 4000000 in
set_option maxRecDepth 100000 in
theorem k4_len (l : Launch) (D : va_G) (τ : Nat → ClassId) (sz : Nat) (K : Nat → Nat) (sb va : Nat) (cnt : Int) : Met l yJ4_length_8abf5 (Cond.code yJ4_length_8abf5 cJ4_length_8abf5 1 (some .int) :: wALL) { frames := 1, cells := 0, slots := 0, locals := 20 } (PwE (KJ K) D τ (bl [[(sb, .inr (1, [.ref va, .int (iI (0)), .int (iI (0)), .int (iI (cnt))]))]]) sz [.ref sb]) (va_Qi (fun (r : Int32) (_ : Unit) => r = iI cnt) (Bb D (va_A (bl [[(sb, .inr (1, [.ref va, .int (iI (0)), .int (iI (0)), .int (iI (cnt))]))]]) sz) (fun (_ : Unit) => [[(sb, .inr (1, [.ref va, .int (iI (0)), .int (iI (0)), .int (iI (cnt))]))]])) (va_A (bl [[(sb, .inr (1, [.ref va, .int (iI (0)), .int (iI (0)), .int (iI (cnt))]))]]) sz)) 0 0 (va_A (bl [[(sb, .inr (1, [.ref va, .int (iI (0)), .int (iI (0)), .int (iI (cnt))]))]]) sz) := by
  refine bodyE (by decide +kernel) (Nat.le_of_ble_eq_true rfl) (fun p e s m below meth c ls B hr hlk hin hsz Y hK hl => ?_)
  have hl : lv_has ls 1 [(0, .ref sb)] := hl
  have B : CallFix p m c cJ4_length_8abf5 1 s _ wALL RJ4 := B
  generalize va_A (bl [[(sb, .inr (1, [.ref va, .int (iI (0)), .int (iI (0)), .int (iI (cnt))]))]]) sz = A at Y hK ⊢
  have hE := hK.1
  refine lv_aload_n B.1 B.2.1 dJ4_length_8abf5_0 rfl (lv_at hl 0 rfl) ?_
  refine qI (Cs := [[(sb, .inr (1, [.ref va, .int (iI (0)), .int (iI (0)), .int (iI (cnt))]))]]) (Rs := []) Y [0] [] (by decide) rfl (cSU (As := []) (rest := []) (q0 := 0) (KJ.ok K) hK B Y [0] (by decide) rfl (k5_len l D τ _ K sb va cnt) rfl q_1463 q_1458 q_13 q_1464 q_1459 q_1302 (by decide) rfl rfl hd_J5_length_8abf5 ⟨(Nat.le_of_ble_eq_true rfl), (Nat.le_of_ble_eq_true rfl)⟩ rfl hl.1 rfl (Nat.le_of_ble_eq_true rfl) dJ4_length_8abf5_1 ⟨(Nat.le_of_ble_eq_true rfl), (Nat.le_of_ble_eq_true rfl)⟩) (fun r u H locs hw Y => ?_)
  subst hw
  have Y : Wd D τ s A s.heap (bl [[(sb, .inr (1, [.ref va, .int (iI (0)), .int (iI (0)), .int (iI (cnt))]))]]) _ _ := Y
  exact eI B hr hlk Y () rfl [0] (by decide) rfl (Nat.le_of_ble_eq_true rfl) (Nat.le_of_ble_eq_true rfl) dJ4_length_8abf5_4

set_option maxHeartbeats 4000000 in
set_option maxRecDepth 100000 in
theorem k0_initA (l : Launch) (D : va_G) (τ : Nat → ClassId) (sz : Nat) (K : Nat → Nat) (st : Nat) (sb va cap : Nat) (T : List Int) (f : Nat → Int32) (hS : SbR T cap f)  : Met l yJ0_init_db425 (Cond.code yJ0_init_db425 cJ0_init_db425 5 none :: wALL) { frames := 3, cells := 1, slots := 1002, locals := 106 } (PwE (KJ K) D τ (bl [[(st, .inr (0, [.null, .int (iI (0)), .int (iI (0)), .int (iI (0))]))], [(sb, .inr (1, [.ref va, .int (iI (0)), .int (iI (0)), .int (iI (((T.length : Nat) : Int)))]))], [(va, .inl (τ 1, cap, .inl (f)))]]) sz [.ref st, .ref sb, .null]) (va_Qv (fun (u : (Nat × (Nat → Int32))) => ∀ j : Nat, j < T.length → u.2 j = iI (T.getD j 0)) (Bb D (va_A (bl [[(st, .inr (0, [.null, .int (iI (0)), .int (iI (0)), .int (iI (0))]))], [(sb, .inr (1, [.ref va, .int (iI (0)), .int (iI (0)), .int (iI (((T.length : Nat) : Int)))]))], [(va, .inl (τ 1, cap, .inl (f)))]]) sz) (fun (u : (Nat × (Nat → Int32))) => [[(st, .inr (0, [.ref u.1, .int (iI (0)), .int (iI (0)), .int (iI (0))]))], [(u.1, .inl (τ 1, T.length, .inl (u.2)))], [(sb, .inr (1, [.ref va, .int (iI (0)), .int (iI (0)), .int (iI (((T.length : Nat) : Int)))]))], [(va, .inl (τ 1, cap, .inl (f)))]])) (va_A (bl [[(st, .inr (0, [.null, .int (iI (0)), .int (iI (0)), .int (iI (0))]))], [(sb, .inr (1, [.ref va, .int (iI (0)), .int (iI (0)), .int (iI (((T.length : Nat) : Int)))]))], [(va, .inl (τ 1, cap, .inl (f)))]]) sz)) 1 1002 (va_A (bl [[(st, .inr (0, [.null, .int (iI (0)), .int (iI (0)), .int (iI (0))]))], [(sb, .inr (1, [.ref va, .int (iI (0)), .int (iI (0)), .int (iI (((T.length : Nat) : Int)))]))], [(va, .inl (τ 1, cap, .inl (f)))]]) sz) := by
  refine bodyE (by decide +kernel) (Nat.le_of_ble_eq_true rfl) (fun p e s m below meth c ls B hr hlk hin hsz Y hK hl => ?_)
  have hl : lv_has ls 5 [(0, .ref st), (1, .ref sb), (2, .null)] := hl
  have B : CallFix p m c cJ0_init_db425 5 s _ wALL RJ0 := B
  generalize va_A (bl [[(st, .inr (0, [.null, .int (iI (0)), .int (iI (0)), .int (iI (0))]))], [(sb, .inr (1, [.ref va, .int (iI (0)), .int (iI (0)), .int (iI (((T.length : Nat) : Int)))]))], [(va, .inl (τ 1, cap, .inl (f)))]]) sz = A at Y hK ⊢
  have hE := hK.1
  refine lv_aload_n B.1 B.2.1 dJ0_init_db425_0 rfl (lv_at hl 0 rfl) ?_
  refine t_objInit B q_1451 q_35 q_36 hl.1 (Nat.le_of_ble_eq_true rfl) dJ0_init_db425_1 (Nat.le_of_ble_eq_true rfl) (Nat.le_of_ble_eq_true rfl) ?_
  refine lv_aload_n B.1 B.2.1 dJ0_init_db425_4 rfl (lv_at hl 1 rfl) ?_
  refine qQ (Cs := [[(sb, .inr (1, [.ref va, .int (iI (0)), .int (iI (0)), .int (iI (((T.length : Nat) : Int)))]))]]) (Rs := [[(st, .inr (0, [.null, .int (iI (0)), .int (iI (0)), .int (iI (0))]))], [(va, .inl (τ 1, cap, .inl (f)))]]) Y [1] [0, 2] (by decide) rfl (cVU (As := []) (rest := []) (q0 := 1) (KJ.ok K) hK B Y [1] (by decide) rfl (k5_val l D τ _ K sb va ((T.length : Nat) : Int)) rfl q_1452 q_1453 (B.2.2.2.2 _ q_1455) q_13 q_1456 q_1454 rfl rfl hd_J5_getValue_6d5f1 ⟨(Nat.le_of_ble_eq_true rfl), (Nat.le_of_ble_eq_true rfl)⟩ rfl hl.1 rfl (Nat.le_of_ble_eq_true rfl) dJ0_init_db425_5 ⟨(Nat.le_of_ble_eq_true rfl), (Nat.le_of_ble_eq_true rfl)⟩) (fun r u H locs hw Y => ?_)
  subst hw
  have Y : Wd D τ s A s.heap (bl [[(sb, .inr (1, [.ref va, .int (iI (0)), .int (iI (0)), .int (iI (((T.length : Nat) : Int)))]))], [(st, .inr (0, [.null, .int (iI (0)), .int (iI (0)), .int (iI (0))]))], [(va, .inl (τ 1, cap, .inl (f)))]]) _ _ := Y
  show W _ _ _ _ _ _ _ _ _ _ _ _ _ _ _ (F0 m _ ls (.ref va :: []))
  refine lv_astore_n (lv' := [(3, .ref va), (0, .ref st), (1, .ref sb), (2, .null)]) B.1 B.2.1 dJ0_init_db425_8 rfl hl (by decide) rfl (fun ls hl => ?_)
  refine lv_aload_n B.1 B.2.1 dJ0_init_db425_9 rfl (lv_at hl 2 rfl) ?_
  refine qI (Cs := [[(sb, .inr (1, [.ref va, .int (iI (0)), .int (iI (0)), .int (iI (((T.length : Nat) : Int)))]))]]) (Rs := [[(st, .inr (0, [.null, .int (iI (0)), .int (iI (0)), .int (iI (0))]))], [(va, .inl (τ 1, cap, .inl (f)))]]) Y [0] [1, 2] (by decide) rfl (cVO (As := []) (rest := []) (q0 := 0) (KJ.ok K) hK B Y [0] (by decide) rfl (k4_len l D τ _ K sb va ((T.length : Nat) : Int)) rfl q_1457 q_1461 q_1460 q_14 q_1462 q_1459 q_1458 q_1464 rfl rfl hd_J5_length_8abf5 ⟨(Nat.le_of_ble_eq_true rfl), (Nat.le_of_ble_eq_true rfl)⟩ rfl hl.1 rfl (Nat.le_of_ble_eq_true rfl) dJ0_init_db425_10 ⟨(Nat.le_of_ble_eq_true rfl), (Nat.le_of_ble_eq_true rfl)⟩) (fun r u H locs hw Y => ?_)
  subst hw
  have Y : Wd D τ s A s.heap (bl [[(sb, .inr (1, [.ref va, .int (iI (0)), .int (iI (0)), .int (iI (((T.length : Nat) : Int)))]))], [(st, .inr (0, [.null, .int (iI (0)), .int (iI (0)), .int (iI (0))]))], [(va, .inl (τ 1, cap, .inl (f)))]]) _ _ := Y
  refine lv_istore (lv' := [(4, .int (iI (((T.length : Nat) : Int)))), (3, .ref va), (0, .ref st), (1, .ref sb), (2, .null)]) B.1 B.2.1 dJ0_init_db425_13 hl (by decide) rfl (fun ls hl => ?_)
  refine lv_aload_n B.1 B.2.1 dJ0_init_db425_15 rfl (lv_at hl 3 rfl) ?_
  refine qI (Cs := [[(sb, .inr (1, [.ref va, .int (iI (0)), .int (iI (0)), .int (iI (((T.length : Nat) : Int)))]))]]) (Rs := [[(st, .inr (0, [.null, .int (iI (0)), .int (iI (0)), .int (iI (0))]))], [(va, .inl (τ 1, cap, .inl (f)))]]) Y [0] [1, 2] (by decide) rfl (cVU (As := []) (rest := []) (q0 := 0) (KJ.ok K) hK B Y [0] (by decide) rfl (k5_isLat l D τ _ K sb va ((T.length : Nat) : Int)) rfl q_1465 q_1342 (B.2.2.2.2 _ q_1344) q_13 q_1345 q_1343 rfl rfl hd_J5_isLatin1_aae02 ⟨(Nat.le_of_ble_eq_true rfl), (Nat.le_of_ble_eq_true rfl)⟩ rfl hl.1 rfl (Nat.le_of_ble_eq_true rfl) dJ0_init_db425_16 ⟨(Nat.le_of_ble_eq_true rfl), (Nat.le_of_ble_eq_true rfl)⟩) (fun r u H locs hw Y => ?_)
  subst hw
  have Y : Wd D τ s A s.heap (bl [[(sb, .inr (1, [.ref va, .int (iI (0)), .int (iI (0)), .int (iI (((T.length : Nat) : Int)))]))], [(st, .inr (0, [.null, .int (iI (0)), .int (iI (0)), .int (iI (0))]))], [(va, .inl (τ 1, cap, .inl (f)))]]) _ _ := Y
  refine lv_if_eq (tgt := 41) B.1 B.2.1 dJ0_init_db425_19 (by decide) (fun h => absurd h (by decide)) (fun _ => ?_)
  refine lv_aload_n B.1 B.2.1 dJ0_init_db425_22 rfl (lv_at hl 2 rfl) ?_
  refine lv_iconst (v := (iI (0))) B.1 B.2.1 dJ0_init_db425_23 (by decide) ?_
  refine pf_J0_15 (B' := [[(sb, .inr (1, [.ref va, .int (iI (0)), .int (iI (0)), .int (iI (((T.length : Nat) : Int)))]))], [(st, .inr (0, [.null, .int (iI (0)), .int (iI (0)), .int (iI (0))]))], [(va, .inl (τ 1, cap, .inl (f)))]]) B hin Y rfl rfl 1 rfl (Nat.le_of_ble_eq_true rfl) rfl dJ0_init_db425_24 (fun H locs Y => ?_)
  refine lv_aload_n B.1 B.2.1 dJ0_init_db425_27 rfl (lv_at hl 2 rfl) ?_
  refine lv_aload_n B.1 B.2.1 dJ0_init_db425_28 rfl (lv_at hl 1 rfl) ?_
  refine lv_iconst (v := (iI (0))) B.1 B.2.1 dJ0_init_db425_29 (by decide) ?_
  refine lv_iload B.1 B.2.1 dJ0_init_db425_30 (lv_at hl 0 rfl) ?_
  refine qQ (Cs := [[(va, .inl (τ 1, cap, .inl (f)))]]) (Rs := [[(sb, .inr (1, [.ref va, .int (iI (0)), .int (iI (0)), .int (iI (((T.length : Nat) : Int)))]))], [(st, .inr (0, [.null, .int (iI (0)), .int (iI (0)), .int (iI (0))]))]]) Y [2] [0, 1] (by decide) rfl (cS (As := [.ref va, .int (iI (0)), .int (iI (((T.length : Nat) : Int)))]) (rest := [.ref st]) B Y [2] (by decide) rfl (k7_range l D τ _ va cap T.length f hS.2.2.2 hS.1 hS.2.1) q_1466 q_1467 q_7 q_1468 rfl rfl hd_J7_copyOfRange_39247 ⟨(Nat.le_of_ble_eq_true rfl), (Nat.le_of_ble_eq_true rfl)⟩ rfl hl.1 rfl (Nat.le_of_ble_eq_true rfl) dJ0_init_db425_32 ⟨(Nat.le_of_ble_eq_true rfl), (Nat.le_of_ble_eq_true rfl)⟩) (fun r u7 H locs hw Y => ?_)
  obtain ⟨hw, hfu⟩ := hw
  subst hw
  have Y : Wd D τ s A s.heap (bl [[(va, .inl (τ 1, cap, .inl (f)))], [(u7.1, .inl (τ 1, T.length, .inl (u7.2)))], [(sb, .inr (1, [.ref va, .int (iI (0)), .int (iI (0)), .int (iI (((T.length : Nat) : Int)))]))], [(st, .inr (0, [.null, .int (iI (0)), .int (iI (0)), .int (iI (0))]))]]) _ _ := Y
  refine W.widen (k := 1) (n := 1002) (Nat.le_of_ble_eq_true rfl) (Nat.le_of_ble_eq_true rfl) ?_
  show W _ _ _ _ _ _ _ _ _ _ _ _ _ _ _ (F0 m _ ls (.ref u7.1 :: .ref st :: []))
  refine pf_J0_9 (B' := [[(va, .inl (τ 1, cap, .inl (f)))], [(u7.1, .inl (τ 1, T.length, .inl (u7.2)))], [(sb, .inr (1, [.ref va, .int (iI (0)), .int (iI (0)), .int (iI (((T.length : Nat) : Int)))]))], [(st, .inr (0, [.ref u7.1, .int (iI (0)), .int (iI (0)), .int (iI (0))]))]]) B hin Y rfl rfl 3 rfl (Nat.le_of_ble_eq_true rfl) rfl dJ0_init_db425_35 (fun H locs Y => ?_)
  refine lv_goto (tgt := 97) B.1 B.2.1 dJ0_init_db425_38 (by decide) ?_
  exact eV B hr hlk Y u7 (fun j hj => (hfu j hj).trans (hS.2.2.1 j hj)) [3, 1, 2, 0] (by decide) rfl (Nat.le_of_ble_eq_true rfl) (Nat.le_of_ble_eq_true rfl) dJ0_init_db425_97

set_option maxHeartbeats 4000000 in
set_option maxRecDepth 100000 in
theorem k0_initB (l : Launch) (D : va_G) (τ : Nat → ClassId) (sz : Nat) (K : Nat → Nat) (st : Nat) (sb va cap : Nat) (T : List Int) (f : Nat → Int32) (hS : SbR T cap f)  : Met l yJ0_init_81219 (Cond.code yJ0_init_81219 cJ0_init_81219 2 none :: wALL) { frames := 4, cells := 1, slots := 1002, locals := 130 } (PwE (KJ K) D τ (bl [[(st, .inr (0, [.null, .int (iI (0)), .int (iI (0)), .int (iI (0))]))], [(sb, .inr (1, [.ref va, .int (iI (0)), .int (iI (0)), .int (iI (((T.length : Nat) : Int)))]))], [(va, .inl (τ 1, cap, .inl (f)))]]) sz [.ref st, .ref sb]) (va_Qv (fun (u : (Nat × (Nat → Int32))) => ∀ j : Nat, j < T.length → u.2 j = iI (T.getD j 0)) (Bb D (va_A (bl [[(st, .inr (0, [.null, .int (iI (0)), .int (iI (0)), .int (iI (0))]))], [(sb, .inr (1, [.ref va, .int (iI (0)), .int (iI (0)), .int (iI (((T.length : Nat) : Int)))]))], [(va, .inl (τ 1, cap, .inl (f)))]]) sz) (fun (u : (Nat × (Nat → Int32))) => [[(st, .inr (0, [.ref u.1, .int (iI (0)), .int (iI (0)), .int (iI (0))]))], [(u.1, .inl (τ 1, T.length, .inl (u.2)))], [(sb, .inr (1, [.ref va, .int (iI (0)), .int (iI (0)), .int (iI (((T.length : Nat) : Int)))]))], [(va, .inl (τ 1, cap, .inl (f)))]])) (va_A (bl [[(st, .inr (0, [.null, .int (iI (0)), .int (iI (0)), .int (iI (0))]))], [(sb, .inr (1, [.ref va, .int (iI (0)), .int (iI (0)), .int (iI (((T.length : Nat) : Int)))]))], [(va, .inl (τ 1, cap, .inl (f)))]]) sz)) 1 1002 (va_A (bl [[(st, .inr (0, [.null, .int (iI (0)), .int (iI (0)), .int (iI (0))]))], [(sb, .inr (1, [.ref va, .int (iI (0)), .int (iI (0)), .int (iI (((T.length : Nat) : Int)))]))], [(va, .inl (τ 1, cap, .inl (f)))]]) sz) := by
  refine bodyE (by decide +kernel) (Nat.le_of_ble_eq_true rfl) (fun p e s m below meth c ls B hr hlk hin hsz Y hK hl => ?_)
  have hl : lv_has ls 2 [(0, .ref st), (1, .ref sb)] := hl
  have B : CallFix p m c cJ0_init_81219 2 s _ wALL RJ0 := B
  generalize va_A (bl [[(st, .inr (0, [.null, .int (iI (0)), .int (iI (0)), .int (iI (0))]))], [(sb, .inr (1, [.ref va, .int (iI (0)), .int (iI (0)), .int (iI (((T.length : Nat) : Int)))]))], [(va, .inl (τ 1, cap, .inl (f)))]]) sz = A at Y hK ⊢
  have hE := hK.1
  refine lv_aload_n B.1 B.2.1 dJ0_init_81219_0 rfl (lv_at hl 0 rfl) ?_
  refine lv_aload_n B.1 B.2.1 dJ0_init_81219_1 rfl (lv_at hl 1 rfl) ?_
  refine lv_null B.1 B.2.1 dJ0_init_81219_2 ?_
  refine qV (Cs := [[(st, .inr (0, [.null, .int (iI (0)), .int (iI (0)), .int (iI (0))]))], [(sb, .inr (1, [.ref va, .int (iI (0)), .int (iI (0)), .int (iI (((T.length : Nat) : Int)))]))], [(va, .inl (τ 1, cap, .inl (f)))]]) (Rs := []) Y [0, 1, 2] [] (by decide) rfl (cIE (As := [.ref sb, .null]) (rest := []) (KJ.ok K) hK B Y [0, 1, 2] (by decide) rfl (k0_initA l D τ _ K st sb va cap T f hS) q_1448 q_1449 q_15 q_1450 rfl rfl rfl hd_J0_init_db425 ⟨(Nat.le_of_ble_eq_true rfl), (Nat.le_of_ble_eq_true rfl)⟩ rfl hl.1 rfl (Nat.le_of_ble_eq_true rfl) dJ0_init_81219_3 ⟨(Nat.le_of_ble_eq_true rfl), (Nat.le_of_ble_eq_true rfl)⟩) (fun u7 H locs hw Y => ?_)
  have hsu := hw
  have Y : Wd D τ s A s.heap (bl [[(st, .inr (0, [.ref u7.1, .int (iI (0)), .int (iI (0)), .int (iI (0))]))], [(u7.1, .inl (τ 1, T.length, .inl (u7.2)))], [(sb, .inr (1, [.ref va, .int (iI (0)), .int (iI (0)), .int (iI (((T.length : Nat) : Int)))]))], [(va, .inl (τ 1, cap, .inl (f)))]]) _ _ := Y
  refine W.widen (k := 1) (n := 1002) (Nat.le_of_ble_eq_true rfl) (Nat.le_of_ble_eq_true rfl) ?_
  exact eV B hr hlk Y u7 hsu [0, 1, 2, 3] (by decide) rfl (Nat.le_of_ble_eq_true rfl) (Nat.le_of_ble_eq_true rfl) dJ0_init_81219_6

set_option maxHeartbeats 4000000 in
set_option maxRecDepth 100000 in
theorem k4_toString (l : Launch) (D : va_G) (τ : Nat → ClassId) (sz : Nat) (K : Nat → Nat) (sb va cap : Nat) (T : List Int) (f : Nat → Int32) (hS : SbR T cap f)  : Met l yJ4_toString_0e30d (Cond.code yJ4_toString_0e30d cJ4_toString_0e30d 1 (some (.object "java/lang/String")) :: wALL) { frames := 5, cells := 2, slots := 1006, locals := 151 } (PwE (KJ K) D τ (bl [[(sb, .inr (1, [.ref va, .int (iI (0)), .int (iI (0)), .int (iI (((T.length : Nat) : Int)))]))], [(va, .inl (τ 1, cap, .inl (f)))]]) sz [.ref sb]) (va_Qq (fun (r : Option Nat) (u : (Nat × Nat × (Nat → Int32))) => r = some u.1 ∧ ∀ j : Nat, j < T.length → u.2.2 j = iI (T.getD j 0)) (Bb D (va_A (bl [[(sb, .inr (1, [.ref va, .int (iI (0)), .int (iI (0)), .int (iI (((T.length : Nat) : Int)))]))], [(va, .inl (τ 1, cap, .inl (f)))]]) sz) (fun (u : (Nat × Nat × (Nat → Int32))) => [[(sb, .inr (1, [.ref va, .int (iI (0)), .int (iI (0)), .int (iI (((T.length : Nat) : Int)))]))], [(va, .inl (τ 1, cap, .inl (f)))], [(u.1, .inr (0, [.ref u.2.1, .int (iI (0)), .int (iI (0)), .int (iI (0))]))], [(u.2.1, .inl (τ 1, T.length, .inl (u.2.2)))]])) (va_A (bl [[(sb, .inr (1, [.ref va, .int (iI (0)), .int (iI (0)), .int (iI (((T.length : Nat) : Int)))]))], [(va, .inl (τ 1, cap, .inl (f)))]]) sz)) 2 1006 (va_A (bl [[(sb, .inr (1, [.ref va, .int (iI (0)), .int (iI (0)), .int (iI (((T.length : Nat) : Int)))]))], [(va, .inl (τ 1, cap, .inl (f)))]]) sz) := by
  refine bodyE (by decide +kernel) (Nat.le_of_ble_eq_true rfl) (fun p e s m below meth c ls B hr hlk hin hsz Y hK hl => ?_)
  have hl : lv_has ls 1 [(0, .ref sb)] := hl
  have B : CallFix p m c cJ4_toString_0e30d 1 s _ wALL RJ4 := B
  generalize va_A (bl [[(sb, .inr (1, [.ref va, .int (iI (0)), .int (iI (0)), .int (iI (((T.length : Nat) : Int)))]))], [(va, .inl (τ 1, cap, .inl (f)))]]) sz = A at Y hK ⊢
  have hE := hK.1
  refine b_new (ci := 0) (fs := [.null, .int 0, .int 0, .int 0]) B Y inJ0 tyJ0_ok q_1443 q_1444 q_15 rfl nwJ0 (Nat.le_of_ble_eq_true rfl) (Nat.le_of_ble_eq_true rfl) dJ4_toString_0e30d_0 (fun st H Y => ?_)
  refine W.widen (k := 1) (n := 4) (Nat.le_of_ble_eq_true rfl) (Nat.le_of_ble_eq_true rfl) ?_
  have Y : Wd D τ s A s.heap (bl [[(sb, .inr (1, [.ref va, .int (iI (0)), .int (iI (0)), .int (iI (((T.length : Nat) : Int)))]))], [(va, .inl (τ 1, cap, .inl (f)))], [(st, .inr (0, [.null, .int 0, .int 0, .int 0]))]]) _ _ := Y
  refine lv_dup B.1 B.2.1 dJ4_toString_0e30d_3 rfl ?_
  refine lv_aload_n B.1 B.2.1 dJ4_toString_0e30d_4 rfl (lv_at hl 0 rfl) ?_
  refine qV (Cs := [[(st, .inr (0, [.null, .int 0, .int 0, .int 0]))], [(sb, .inr (1, [.ref va, .int (iI (0)), .int (iI (0)), .int (iI (((T.length : Nat) : Int)))]))], [(va, .inl (τ 1, cap, .inl (f)))]]) (Rs := []) Y [2, 0, 1] [] (by decide) rfl (cIE (As := [.ref sb]) (rest := [.ref st]) (KJ.ok K) hK B Y [2, 0, 1] (by decide) rfl (k0_initB l D τ _ K st sb va cap T f hS) q_1445 q_1446 q_15 q_1447 rfl rfl rfl hd_J0_init_81219 ⟨(Nat.le_of_ble_eq_true rfl), (Nat.le_of_ble_eq_true rfl)⟩ rfl hl.1 rfl (Nat.le_of_ble_eq_true rfl) dJ4_toString_0e30d_5 ⟨(Nat.le_of_ble_eq_true rfl), (Nat.le_of_ble_eq_true rfl)⟩) (fun u7 H locs hw Y => ?_)
  have hsu := hw
  have Y : Wd D τ s A s.heap (bl [[(st, .inr (0, [.ref u7.1, .int (iI (0)), .int (iI (0)), .int (iI (0))]))], [(u7.1, .inl (τ 1, T.length, .inl (u7.2)))], [(sb, .inr (1, [.ref va, .int (iI (0)), .int (iI (0)), .int (iI (((T.length : Nat) : Int)))]))], [(va, .inl (τ 1, cap, .inl (f)))]]) _ _ := Y
  refine W.widen (k := 2) (n := 1006) (Nat.le_of_ble_eq_true rfl) (Nat.le_of_ble_eq_true rfl) ?_
  exact eQ (r := some st) B hr hlk Y (st, u7.1, u7.2) ⟨rfl, hsu⟩ [2, 3, 0, 1] (by decide) rfl (Nat.le_of_ble_eq_true rfl) (Nat.le_of_ble_eq_true rfl) dJ4_toString_0e30d_8

set_option maxHeartbeats 4000000 in
set_option maxRecDepth 100000 in
theorem k_coderX (l : Launch) (D : va_G) (τ : Nat → ClassId) (sz : Nat) (K : Nat → Nat) (st sv : Nat) (X : List Int) (f : Nat → Int32) : Met l yJ0_coder_7d493 (Cond.code yJ0_coder_7d493 cJ0_coder_7d493 1 (some .byte) :: wALL) { frames := 0, cells := 0, slots := 0, locals := 0 } (PwE (Ke K) D τ (bl [[(st, .inr (0, [.ref sv, .int (iI (0)), .int (iI (0)), .int (iI (0))]))], [(sv, .inl (τ 1, X.length, .inl (f)))]]) sz [.ref st]) (va_Qi (fun (r : Int32) (_ : Unit) => r = iI 0) (Bb D (va_A (bl [[(st, .inr (0, [.ref sv, .int (iI (0)), .int (iI (0)), .int (iI (0))]))], [(sv, .inl (τ 1, X.length, .inl (f)))]]) sz) (fun (_ : Unit) => [[(st, .inr (0, [.ref sv, .int (iI (0)), .int (iI (0)), .int (iI (0))]))], [(sv, .inl (τ 1, X.length, .inl (f)))]])) (va_A (bl [[(st, .inr (0, [.ref sv, .int (iI (0)), .int (iI (0)), .int (iI (0))]))], [(sv, .inl (τ 1, X.length, .inl (f)))]]) sz)) 0 0 (va_A (bl [[(st, .inr (0, [.ref sv, .int (iI (0)), .int (iI (0)), .int (iI (0))]))], [(sv, .inl (τ 1, X.length, .inl (f)))]]) sz) := by
  refine bodyE (by decide +kernel) (Nat.le_of_ble_eq_true rfl) (fun p e s m below meth c ls B hr hlk hin hsz Y hE hl => ?_)
  have hl : lv_has ls 1 [(0, .ref st)] := hl
  have B : CallFix p m c cJ0_coder_7d493 1 s _ wALL RJ0 := B
  generalize va_A (bl [[(st, .inr (0, [.ref sv, .int (iI (0)), .int (iI (0)), .int (iI (0))]))], [(sv, .inl (τ 1, X.length, .inl (f)))]]) sz = A at Y hE ⊢
  refine va_gets B.1 B.2.1 hE.cmp Y.2.2.2.1 B.2.2.2.1 (B.2.2.2.2 _ q_708) (fun _ h => h) dJ0_coder_7d493_0 ?_
  refine lv_if_eq (tgt := 13) B.1 B.2.1 dJ0_coder_7d493_3 (by decide) (fun h => absurd h (by decide)) (fun _ => ?_)
  refine lv_aload_n B.1 B.2.1 dJ0_coder_7d493_6 rfl (lv_at hl 0 rfl) ?_
  refine gf_J0_15 B Y 0 rfl rfl dJ0_coder_7d493_7 ?_
  refine lv_goto (tgt := 14) B.1 B.2.1 dJ0_coder_7d493_10 (by decide) ?_
  exact eY B hr hlk Y (by decide) () rfl [0, 1] (by decide) rfl (Nat.le_of_ble_eq_true rfl) (Nat.le_of_ble_eq_true rfl) dJ0_coder_7d493_14

set_option maxHeartbeats 4000000 in
set_option maxRecDepth 100000 in
theorem k_isLatX (l : Launch) (D : va_G) (τ : Nat → ClassId) (sz : Nat) (K : Nat → Nat) (st sv : Nat) (X : List Int) (f : Nat → Int32) : Met l yJ0_isLatin1_aae02 (Cond.code yJ0_isLatin1_aae02 cJ0_isLatin1_aae02 1 (some .boolean) :: wALL) { frames := 0, cells := 0, slots := 0, locals := 0 } (PwE (Ke K) D τ (bl [[(st, .inr (0, [.ref sv, .int (iI (0)), .int (iI (0)), .int (iI (0))]))], [(sv, .inl (τ 1, X.length, .inl (f)))]]) sz [.ref st]) (va_Qi (fun (r : Int32) (_ : Unit) => r = iI 1) (Bb D (va_A (bl [[(st, .inr (0, [.ref sv, .int (iI (0)), .int (iI (0)), .int (iI (0))]))], [(sv, .inl (τ 1, X.length, .inl (f)))]]) sz) (fun (_ : Unit) => [[(st, .inr (0, [.ref sv, .int (iI (0)), .int (iI (0)), .int (iI (0))]))], [(sv, .inl (τ 1, X.length, .inl (f)))]])) (va_A (bl [[(st, .inr (0, [.ref sv, .int (iI (0)), .int (iI (0)), .int (iI (0))]))], [(sv, .inl (τ 1, X.length, .inl (f)))]]) sz)) 0 0 (va_A (bl [[(st, .inr (0, [.ref sv, .int (iI (0)), .int (iI (0)), .int (iI (0))]))], [(sv, .inl (τ 1, X.length, .inl (f)))]]) sz) := by
  refine bodyE (by decide +kernel) (Nat.le_of_ble_eq_true rfl) (fun p e s m below meth c ls B hr hlk hin hsz Y hE hl => ?_)
  have hl : lv_has ls 1 [(0, .ref st)] := hl
  have B : CallFix p m c cJ0_isLatin1_aae02 1 s _ wALL RJ0 := B
  generalize va_A (bl [[(st, .inr (0, [.ref sv, .int (iI (0)), .int (iI (0)), .int (iI (0))]))], [(sv, .inl (τ 1, X.length, .inl (f)))]]) sz = A at Y hE ⊢
  refine va_gets B.1 B.2.1 hE.cmp Y.2.2.2.1 B.2.2.2.1 (B.2.2.2.2 _ q_708) (fun _ h => h) dJ0_isLatin1_aae02_0 ?_
  refine lv_if_eq (tgt := 17) B.1 B.2.1 dJ0_isLatin1_aae02_3 (by decide) (fun h => absurd h (by decide)) (fun _ => ?_)
  refine lv_aload_n B.1 B.2.1 dJ0_isLatin1_aae02_6 rfl (lv_at hl 0 rfl) ?_
  refine gf_J0_15 B Y 0 rfl rfl dJ0_isLatin1_aae02_7 ?_
  refine lv_if_ne (tgt := 17) B.1 B.2.1 dJ0_isLatin1_aae02_10 (by decide) (fun h => absurd (by decide) h) (fun _ => ?_)
  refine lv_iconst (v := (iI (1))) B.1 B.2.1 dJ0_isLatin1_aae02_13 (by decide) ?_
  refine lv_goto (tgt := 18) B.1 B.2.1 dJ0_isLatin1_aae02_14 (by decide) ?_
  exact eZ B hr hlk Y (by decide) () rfl [0, 1] (by decide) rfl (Nat.le_of_ble_eq_true rfl) (Nat.le_of_ble_eq_true rfl) dJ0_isLatin1_aae02_18

set_option maxHeartbeats 4000000 in
set_option maxRecDepth 100000 in
theorem k_lenX (l : Launch) (D : va_G) (τ : Nat → ClassId) (sz : Nat) (K : Nat → Nat) (st sv : Nat) (X : List Int) (f : Nat → Int32) (hX5 : X.length ≤ 1000) : Met l yJ0_length_8abf5 (Cond.code yJ0_length_8abf5 cJ0_length_8abf5 1 (some .int) :: wALL) { frames := 1, cells := 0, slots := 0, locals := 20 } (PwE (Ke K) D τ (bl [[(st, .inr (0, [.ref sv, .int (iI (0)), .int (iI (0)), .int (iI (0))]))], [(sv, .inl (τ 1, X.length, .inl (f)))]]) sz [.ref st]) (va_Qi (fun (r : Int32) (_ : Unit) => r = iI ((X.length : Nat) : Int)) (Bb D (va_A (bl [[(st, .inr (0, [.ref sv, .int (iI (0)), .int (iI (0)), .int (iI (0))]))], [(sv, .inl (τ 1, X.length, .inl (f)))]]) sz) (fun (_ : Unit) => [[(st, .inr (0, [.ref sv, .int (iI (0)), .int (iI (0)), .int (iI (0))]))], [(sv, .inl (τ 1, X.length, .inl (f)))]])) (va_A (bl [[(st, .inr (0, [.ref sv, .int (iI (0)), .int (iI (0)), .int (iI (0))]))], [(sv, .inl (τ 1, X.length, .inl (f)))]]) sz)) 0 0 (va_A (bl [[(st, .inr (0, [.ref sv, .int (iI (0)), .int (iI (0)), .int (iI (0))]))], [(sv, .inl (τ 1, X.length, .inl (f)))]]) sz) := by
  refine bodyE (by decide +kernel) (Nat.le_of_ble_eq_true rfl) (fun p e s m below meth c ls B hr hlk hin hsz Y hE hl => ?_)
  have hl : lv_has ls 1 [(0, .ref st)] := hl
  have B : CallFix p m c cJ0_length_8abf5 1 s _ wALL RJ0 := B
  generalize va_A (bl [[(st, .inr (0, [.ref sv, .int (iI (0)), .int (iI (0)), .int (iI (0))]))], [(sv, .inl (τ 1, X.length, .inl (f)))]]) sz = A at Y hE ⊢
  refine lv_aload_n B.1 B.2.1 dJ0_length_8abf5_0 rfl (lv_at hl 0 rfl) ?_
  refine gf_J0_9 B Y 0 rfl rfl dJ0_length_8abf5_1 ?_
  refine b_alen (v := (iI ((X.length : Nat) : Int))) B Y 1 rfl 1 rfl (iI_nat _) dJ0_length_8abf5_4 ?_
  refine lv_aload_n B.1 B.2.1 dJ0_length_8abf5_5 rfl (lv_at hl 0 rfl) ?_
  refine qI (Cs := [[(st, .inr (0, [.ref sv, .int (iI (0)), .int (iI (0)), .int (iI (0))]))], [(sv, .inl (τ 1, X.length, .inl (f)))]]) (Rs := []) Y [0, 1] [] (by decide) rfl (cVE (As := []) (rest := [.int (iI ((X.length : Nat) : Int))]) (q0 := 0) (Ke.ok K) hE B Y [0, 1] (by decide) rfl (k_coderX l D τ _ K st sv X f) rfl rfl q_704 q_705 q_706 q_15 q_707 rfl rfl hd_J0_coder_7d493 ⟨(Nat.le_of_ble_eq_true rfl), (Nat.le_of_ble_eq_true rfl)⟩ rfl hl.1 rfl (Nat.le_of_ble_eq_true rfl) dJ0_length_8abf5_6 ⟨(Nat.le_of_ble_eq_true rfl), (Nat.le_of_ble_eq_true rfl)⟩) (fun r u H locs hw Y => ?_)
  subst hw
  have Y : Wd D τ s A s.heap (bl [[(st, .inr (0, [.ref sv, .int (iI (0)), .int (iI (0)), .int (iI (0))]))], [(sv, .inl (τ 1, X.length, .inl (f)))]]) _ _ := Y
  refine lv_ishr B.1 B.2.1 dJ0_length_8abf5_9 ?_
  refine lv_cv (v := (iI ((X.length : Nat) : Int))) ((iI_shr (by omega) (by omega) _ 0 (by decide)).trans (congrArg iI (Int.ediv_one _))) ?_
  exact eI B hr hlk Y () rfl [0, 1] (by decide) rfl (Nat.le_of_ble_eq_true rfl) (Nat.le_of_ble_eq_true rfl) dJ0_length_8abf5_10

set_option maxHeartbeats 4000000 in
set_option maxRecDepth 100000 in
theorem k_chrXL (l : Launch) (D : va_G) (τ : Nat → ClassId) (sz : Nat) (K : Nat → Nat) (sv : Nat) (X : List Int) (f : Nat → Int32) (hX5 : X.length ≤ 1000) (hfX : ∀ j : Nat, j < X.length → f j = iI (X.getD j 0)) (hXb : ∀ j : Nat, 0 ≤ X.getD j 0 ∧ X.getD j 0 ≤ 127) (j : Nat) (hj : j < X.length) : Met l yJ1_charAt_3b067 (Cond.code yJ1_charAt_3b067 cJ1_charAt_3b067 2 (some .char) :: wALL) { frames := 2, cells := 0, slots := 0, locals := 43 } (PwE (Ke K) D τ (bl [[(sv, .inl (τ 1, X.length, .inl (f)))]]) sz [.ref sv, .int (iI ((j : Nat) : Int))]) (va_Qi (fun (r : Int32) (_ : Unit) => r = iI (X.getD j 0)) (Bb D (va_A (bl [[(sv, .inl (τ 1, X.length, .inl (f)))]]) sz) (fun (_ : Unit) => [[(sv, .inl (τ 1, X.length, .inl (f)))]])) (va_A (bl [[(sv, .inl (τ 1, X.length, .inl (f)))]]) sz)) 0 0 (va_A (bl [[(sv, .inl (τ 1, X.length, .inl (f)))]]) sz) := by
  refine bodyE (by decide +kernel) (Nat.le_of_ble_eq_true rfl) (fun p e s m below meth c ls B hr hlk hin hsz Y hE hl => ?_)
  have hl : lv_has ls 2 [(0, .ref sv), (1, .int (iI ((j : Nat) : Int)))] := hl
  have B : CallFix p m c cJ1_charAt_3b067 2 s _ wALL RJ1 := B
  generalize va_A (bl [[(sv, .inl (τ 1, X.length, .inl (f)))]]) sz = A at Y hE ⊢
  have hzz := hXb j
  refine lv_iload_n B.1 B.2.1 dJ1_charAt_3b067_0 rfl (lv_at hl 1 rfl) ?_
  refine lv_aload_n B.1 B.2.1 dJ1_charAt_3b067_1 rfl (lv_at hl 0 rfl) ?_
  refine b_alen (v := (iI ((X.length : Nat) : Int))) B Y 0 rfl 1 rfl (iI_nat _) dJ1_charAt_3b067_2 ?_
  refine qV (Cs := []) (Rs := [[(sv, .inl (τ 1, X.length, .inl (f)))]]) Y [] [0] (by decide) rfl (cSE (As := [.int (iI ((j : Nat) : Int)), .int (iI ((X.length : Nat) : Int))]) (rest := []) (Ke.ok K) hE B Y [] (by decide) rfl (k_chk0 l D τ _ K j X.length (by omega) (by omega)) q_721 q_722 q_15 q_723 rfl rfl hd_J0_checkIndex_df160 ⟨(Nat.le_of_ble_eq_true rfl), (Nat.le_of_ble_eq_true rfl)⟩ rfl hl.1 rfl (Nat.le_of_ble_eq_true rfl) dJ1_charAt_3b067_3 ⟨(Nat.le_of_ble_eq_true rfl), (Nat.le_of_ble_eq_true rfl)⟩) (fun u H locs hw Y => ?_)
  have Y : Wd D τ s A s.heap (bl [[(sv, .inl (τ 1, X.length, .inl (f)))]]) _ _ := Y
  refine lv_aload_n B.1 B.2.1 dJ1_charAt_3b067_6 rfl (lv_at hl 0 rfl) ?_
  refine lv_iload_n B.1 B.2.1 dJ1_charAt_3b067_7 rfl (lv_at hl 1 rfl) ?_
  refine b_bald (j := j) (v := (iI (X.getD j 0))) B Y 0 rfl (iI_pos (by omega)) (iI_clamp (by omega)) (by omega) (hfX j hj) dJ1_charAt_3b067_8 ?_
  refine lv_sipush (v := (iI (255))) B.1 B.2.1 dJ1_charAt_3b067_9 (by decide) ?_
  refine lv_iand B.1 B.2.1 dJ1_charAt_3b067_12 ?_
  refine lv_cv (v := (iI (X.getD j 0))) (by rw [iI_and (by omega) (by omega)]; congr 1; omega) ?_
  refine lv_i2c (v := (iI (X.getD j 0))) B.1 B.2.1 dJ1_charAt_3b067_13 (i2c_lo (by omega) (by omega)) ?_
  exact eY B hr hlk Y (nar_chr (by omega) (by omega)) () rfl [0] (by decide) rfl (Nat.le_of_ble_eq_true rfl) (Nat.le_of_ble_eq_true rfl) dJ1_charAt_3b067_14

set_option maxHeartbeats 4000000 in
set_option maxRecDepth 100000 in
theorem k_chrX (l : Launch) (D : va_G) (τ : Nat → ClassId) (sz : Nat) (K : Nat → Nat) (st sv : Nat) (X : List Int) (f : Nat → Int32) (hX5 : X.length ≤ 1000) (hfX : ∀ j : Nat, j < X.length → f j = iI (X.getD j 0)) (hXb : ∀ j : Nat, 0 ≤ X.getD j 0 ∧ X.getD j 0 ≤ 127) (j : Nat) (hj : j < X.length) : Met l yJ0_charAt_5068e (Cond.code yJ0_charAt_5068e cJ0_charAt_5068e 2 (some .char) :: wALL) { frames := 3, cells := 0, slots := 0, locals := 64 } (PwE (Ke K) D τ (bl [[(st, .inr (0, [.ref sv, .int (iI (0)), .int (iI (0)), .int (iI (0))]))], [(sv, .inl (τ 1, X.length, .inl (f)))]]) sz [.ref st, .int (iI ((j : Nat) : Int))]) (va_Qi (fun (r : Int32) (_ : Unit) => r = iI (X.getD j 0)) (Bb D (va_A (bl [[(st, .inr (0, [.ref sv, .int (iI (0)), .int (iI (0)), .int (iI (0))]))], [(sv, .inl (τ 1, X.length, .inl (f)))]]) sz) (fun (_ : Unit) => [[(st, .inr (0, [.ref sv, .int (iI (0)), .int (iI (0)), .int (iI (0))]))], [(sv, .inl (τ 1, X.length, .inl (f)))]])) (va_A (bl [[(st, .inr (0, [.ref sv, .int (iI (0)), .int (iI (0)), .int (iI (0))]))], [(sv, .inl (τ 1, X.length, .inl (f)))]]) sz)) 0 0 (va_A (bl [[(st, .inr (0, [.ref sv, .int (iI (0)), .int (iI (0)), .int (iI (0))]))], [(sv, .inl (τ 1, X.length, .inl (f)))]]) sz) := by
  refine bodyE (by decide +kernel) (Nat.le_of_ble_eq_true rfl) (fun p e s m below meth c ls B hr hlk hin hsz Y hE hl => ?_)
  have hl : lv_has ls 2 [(0, .ref st), (1, .int (iI ((j : Nat) : Int)))] := hl
  have B : CallFix p m c cJ0_charAt_5068e 2 s _ wALL RJ0 := B
  generalize va_A (bl [[(st, .inr (0, [.ref sv, .int (iI (0)), .int (iI (0)), .int (iI (0))]))], [(sv, .inl (τ 1, X.length, .inl (f)))]]) sz = A at Y hE ⊢
  have hzz := hXb j
  refine lv_aload_n B.1 B.2.1 dJ0_charAt_5068e_0 rfl (lv_at hl 0 rfl) ?_
  refine qI (Cs := [[(st, .inr (0, [.ref sv, .int (iI (0)), .int (iI (0)), .int (iI (0))]))], [(sv, .inl (τ 1, X.length, .inl (f)))]]) (Rs := []) Y [0, 1] [] (by decide) rfl (cVE (As := []) (rest := []) (q0 := 0) (Ke.ok K) hE B Y [0, 1] (by decide) rfl (k_isLatX l D τ _ K st sv X f) rfl rfl q_714 q_715 q_716 q_15 q_717 rfl rfl hd_J0_isLatin1_aae02 ⟨(Nat.le_of_ble_eq_true rfl), (Nat.le_of_ble_eq_true rfl)⟩ rfl hl.1 rfl (Nat.le_of_ble_eq_true rfl) dJ0_charAt_5068e_1 ⟨(Nat.le_of_ble_eq_true rfl), (Nat.le_of_ble_eq_true rfl)⟩) (fun r u H locs hw Y => ?_)
  subst hw
  have Y : Wd D τ s A s.heap (bl [[(st, .inr (0, [.ref sv, .int (iI (0)), .int (iI (0)), .int (iI (0))]))], [(sv, .inl (τ 1, X.length, .inl (f)))]]) _ _ := Y
  refine lv_if_eq (tgt := 16) B.1 B.2.1 dJ0_charAt_5068e_4 (by decide) (fun h => absurd h (by decide)) (fun _ => ?_)
  refine lv_aload_n B.1 B.2.1 dJ0_charAt_5068e_7 rfl (lv_at hl 0 rfl) ?_
  refine gf_J0_9 B Y 0 rfl rfl dJ0_charAt_5068e_8 ?_
  refine lv_iload_n B.1 B.2.1 dJ0_charAt_5068e_11 rfl (lv_at hl 1 rfl) ?_
  refine qI (Cs := [[(sv, .inl (τ 1, X.length, .inl (f)))]]) (Rs := [[(st, .inr (0, [.ref sv, .int (iI (0)), .int (iI (0)), .int (iI (0))]))]]) Y [1] [0] (by decide) rfl (cSE (As := [.ref sv, .int (iI ((j : Nat) : Int))]) (rest := []) (Ke.ok K) hE B Y [1] (by decide) rfl (k_chrXL l D τ _ K sv X f hX5 hfX hXb j hj) q_718 q_719 q_20 q_720 rfl rfl hd_J1_charAt_3b067 ⟨(Nat.le_of_ble_eq_true rfl), (Nat.le_of_ble_eq_true rfl)⟩ rfl hl.1 rfl (Nat.le_of_ble_eq_true rfl) dJ0_charAt_5068e_12 ⟨(Nat.le_of_ble_eq_true rfl), (Nat.le_of_ble_eq_true rfl)⟩) (fun r u H locs hw Y => ?_)
  subst hw
  have Y : Wd D τ s A s.heap (bl [[(sv, .inl (τ 1, X.length, .inl (f)))], [(st, .inr (0, [.ref sv, .int (iI (0)), .int (iI (0)), .int (iI (0))]))]]) _ _ := Y
  exact eY B hr hlk Y (nar_chr (by omega) (by omega)) () rfl [1, 0] (by decide) rfl (Nat.le_of_ble_eq_true rfl) (Nat.le_of_ble_eq_true rfl) dJ0_charAt_5068e_15

