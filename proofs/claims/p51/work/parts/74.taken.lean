theorem q_1337 : (Jvm.Cond.sameMethod "[B" "java/lang/Object" "clone" "()Ljava/lang/Object;") ∈ wALL := wALL_t (tin_6 (List.mem_of_getElem? (i := 137) (by decide +kernel))) (by decide +kernel)
section CL
variable {p : Program} {l : Launch} {e : Env} {R : Room} {s : State} {m : MethodId} {args : Array Value} {below : List Frame} {meth : Method} {c : Code} {H : Heap} {locs : List Loc} {cells slots : Nat} {Q : State → Prop}
variable {cc : ByteArray} {pc nL : Nat} {ls : Array Slot} {rest : List Value} {D : va_G} {τ : Nat → ClassId} {A : Nat → Prop} {H0 : Heap} {B B' : List va_W} {a n : Nat} {f : Nat → Int32}
theorem b_cloneb (X : CallFix p m c cc nL s args wALL RJ7) (Y : Wd D τ s A H0 (bl B) H locs) (hls : ls.size = nL) (q0 : Nat) (he : B[q0]? = some [(a, .inl (τ 1, n, .inl f))]) (hf : ∀ j : Nat, fits .byte (.int (f j)) = true) (hfr : 1 ≤ R.frames) (hlo : (rest.map fun v => v.category).sum + 14 ≤ R.locals) (hc : cells + 1 ≤ R.cells) (hs : slots + n ≤ R.slots) (hdg : decode cc pc = .ok (.invokevirtual 310, 3)) (kk : ∀ (q : Nat) (H1 : Heap), Wd D τ s A H0 (bl (B ++ [[(q, .inl (τ 1, n, .inl f))]])) H1 locs → W p l e R s m args below meth c H1 locs (cells + 1) (slots + n) Q (F0 m (pc + 3) ls (.ref q :: rest))) : W p l e R s m args below meth c H locs cells slots Q (F0 m pc ls (.ref a :: rest)) := by
  obtain ⟨z, h1, -⟩ := bl_at he
  refine va_clone X.1 X.2.1 (X.2.2.1.trans hls.symm) X.2.2.2.1 (X.2.2.2.2 _ q_1336) (X.2.2.2.2 _ q_1337) (X.2.2.2.2 _ q_645) (X.2.2.2.2 _ q_646) (X.2.2.2.2 _ q_1338) (Y.1.2.2.2.2.2.2.1 _ (by decide)) Y.1.1 Y.2.1 Y.2.2.1 Y.2.2.2.1 Y.2.2.2.2 z 1 h1 rfl (va_nm_byte (Y.1.1.2 1 (τ 1, .byte) rfl).2) (fun i v h => ?_) hfr hlo hc hs hdg (fun q H1 _ hP hD hS => kk q H1 ?_)
  · have h : (arrV (τ 1) n (fun j => .int (f j))).slots[i]? = some v := h
    have h : (Array.ofFn (fun j : Fin n => Value.int (f j.val)))[i]? = some v := h
    rw [Array.getElem?_ofFn] at h
    split at h
    · rw [← Option.some.inj h]; exact hf _
    · cases h
  · rw [bl_push] at hP hD
    exact ⟨Y.1, hP, hD, hS, Y.2.2.2.2⟩
theorem b_castb {own : String} {index : Nat} (X : CallFix p m c cc nL s args wALL own) (Y : Wd D τ s A H0 (bl B) H locs) (k1 : Cond.classLink own index "[B" ∈ wALL) (q0 : Nat) (he : B[q0]? = some [(a, .inl (τ 1, n, .inl f))]) (hdg : decode cc pc = .ok (.checkcast index, 3)) (kk : W p l e R s m args below meth c H locs cells slots Q (F0 m (pc + 3) ls (.ref a :: rest))) : W p l e R s m args below meth c H locs cells slots Q (F0 m pc ls (.ref a :: rest)) := by
  obtain ⟨z, h1, -⟩ := bl_at he
  exact va_castA X.1 X.2.1 X.2.2.2.1 (X.2.2.2.2 _ k1) Y.2.1 z h1 (va_nm_byte (Y.1.1.2 1 (τ 1, .byte) rfl).2) hdg kk
end CL
theorem dg_fit {v : Nat} (h : v < 10000) (j : Nat) : fits .byte (.int (iI ((dgL v).getD j 0))) = true := by
  by_cases q : j < (dgL v).length
  · have := dgL_in h _ (List.getElem_mem q)
    rw [List.getD_eq_getElem?_getD, List.getElem?_eq_getElem q]
    exact fit_lo (by show 0 ≤ (dgL v)[j] ∧ (dgL v)[j] ≤ 127; omega)
  · rw [List.getD_eq_getElem?_getD, List.getElem?_eq_none (by omega)]; decide
set_option maxHeartbeats 4000000 in
set_option maxRecDepth 100000 in
theorem k5_appInt (l : Launch) (D : va_G) (τ : Nat → ClassId) (sz : Nat) (K : Nat → Nat) (sb va cap : Nat) (T : List Int) (f : Nat → Int32) (hS : SbR T cap f) (v : Nat) (hv : v < 10000) (hl5 : T.length + (dgL v).length ≤ 500) : Met l yJ5_append_c97b9 (Cond.code yJ5_append_c97b9 cJ5_append_c97b9 4 (some (.object "java/lang/AbstractStringBuilder")) :: wALL) { frames := 4, cells := 1, slots := 2006, locals := 130 } (PwE (KJ K) D τ (bl [[(sb, .inr (1, [.ref va, .int (iI (0)), .int (iI (0)), .int (iI (((T.length : Nat) : Int)))]))], [(va, .inl (τ 1, cap, .inl (f)))]]) sz [.ref sb, .int (iI ((v : Nat) : Int))]) (va_Qq (fun (r : Option Nat) (u : (Nat × Nat × (Nat → Int32))) => r = some sb ∧ SbR (T ++ dgL v) u.2.1 u.2.2) (Bb D (va_A (bl [[(sb, .inr (1, [.ref va, .int (iI (0)), .int (iI (0)), .int (iI (((T.length : Nat) : Int)))]))], [(va, .inl (τ 1, cap, .inl (f)))]]) sz) (fun (u : (Nat × Nat × (Nat → Int32))) => [[(sb, .inr (1, [.ref u.1, .int (iI (0)), .int (iI (0)), .int (iI ((((T ++ dgL v).length : Nat) : Int)))]))], [(u.1, .inl (τ 1, u.2.1, .inl (u.2.2)))]])) (va_A (bl [[(sb, .inr (1, [.ref va, .int (iI (0)), .int (iI (0)), .int (iI (((T.length : Nat) : Int)))]))], [(va, .inl (τ 1, cap, .inl (f)))]]) sz)) 1 2006 (va_A (bl [[(sb, .inr (1, [.ref va, .int (iI (0)), .int (iI (0)), .int (iI (((T.length : Nat) : Int)))]))], [(va, .inl (τ 1, cap, .inl (f)))]]) sz) := by
  refine bodyE (by decide +kernel) (Nat.le_of_ble_eq_true rfl) (fun p e s m below meth c ls B hr hlk hin hsz Y hK hl => ?_)
  have hl : lv_has ls 4 [(0, .ref sb), (1, .int (iI ((v : Nat) : Int)))] := hl
  have B : CallFix p m c cJ5_append_c97b9 4 s _ wALL RJ5 := B
  generalize va_A (bl [[(sb, .inr (1, [.ref va, .int (iI (0)), .int (iI (0)), .int (iI (((T.length : Nat) : Int)))]))], [(va, .inl (τ 1, cap, .inl (f)))]]) sz = A at Y hK ⊢
  have hE := hK.1
  have hdl := dgL_le v
  refine lv_aload_n B.1 B.2.1 dJ5_append_c97b9_0 rfl (lv_at hl 0 rfl) ?_
  refine gf_J5_79 B Y 0 rfl rfl dJ5_append_c97b9_1 ?_
  refine lv_istore_n (lv' := [(2, .int (iI (((T.length : Nat) : Int)))), (0, .ref sb), (1, .int (iI ((v : Nat) : Int)))]) B.1 B.2.1 dJ5_append_c97b9_4 rfl hl (by decide) rfl (fun ls hl => ?_)
  refine lv_iload_n B.1 B.2.1 dJ5_append_c97b9_5 rfl (lv_at hl 0 rfl) ?_
  refine lv_iload_n B.1 B.2.1 dJ5_append_c97b9_6 rfl (lv_at hl 2 rfl) ?_
  refine qI (Cs := []) (Rs := [[(sb, .inr (1, [.ref va, .int (iI (0)), .int (iI (0)), .int (iI (((T.length : Nat) : Int)))]))], [(va, .inl (τ 1, cap, .inl (f)))]]) Y [] [0, 1] (by decide) rfl (cS (As := [.int (iI ((v : Nat) : Int))]) (rest := [.int (iI (((T.length : Nat) : Int)))]) B Y [] (by decide) rfl (k6_size l D τ _ v (by omega)) q_1404 q_1405 q_22 q_1406 rfl rfl hd_J6_stringSize_0f7a4 ⟨(Nat.le_of_ble_eq_true rfl), (Nat.le_of_ble_eq_true rfl)⟩ rfl hl.1 rfl (Nat.le_of_ble_eq_true rfl) dJ5_append_c97b9_7 ⟨(Nat.le_of_ble_eq_true rfl), (Nat.le_of_ble_eq_true rfl)⟩) (fun r u H locs hw Y => ?_)
  subst hw
  have Y : Wd D τ s A s.heap (bl [[(sb, .inr (1, [.ref va, .int (iI (0)), .int (iI (0)), .int (iI (((T.length : Nat) : Int)))]))], [(va, .inl (τ 1, cap, .inl (f)))]]) _ _ := Y
  refine lv_iadd B.1 B.2.1 dJ5_append_c97b9_10 ?_
  refine lv_cv (v := (iI (((T.length + (dgL v).length) : Nat) : Int))) (iI_add _ _) ?_
  refine lv_istore_n (lv' := [(3, .int (iI (((T.length + (dgL v).length) : Nat) : Int))), (2, .int (iI (((T.length : Nat) : Int)))), (0, .ref sb), (1, .int (iI ((v : Nat) : Int)))]) B.1 B.2.1 dJ5_append_c97b9_11 rfl hl (by decide) rfl (fun ls hl => ?_)
  refine lv_aload_n B.1 B.2.1 dJ5_append_c97b9_12 rfl (lv_at hl 2 rfl) ?_
  refine lv_iload_n B.1 B.2.1 dJ5_append_c97b9_13 rfl (lv_at hl 0 rfl) ?_
  refine qV (Cs := [[(sb, .inr (1, [.ref va, .int (iI (0)), .int (iI (0)), .int (iI (((T.length : Nat) : Int)))]))], [(va, .inl (τ 1, cap, .inl (f)))]]) (Rs := []) Y [0, 1] [] (by decide) rfl (cVU (As := [.int (iI (((T.length + (dgL v).length) : Nat) : Int))]) (rest := []) (q0 := 0) (KJ.ok K) hK B Y [0, 1] (by decide) rfl (k5_ensure l D τ _ K sb va cap (T.length + (dgL v).length) T (f) hS (by omega)) rfl q_1316 q_1318 (hK.sel (by decide +kernel)) q_13 q_1319 q_1551 rfl rfl hd_J5_ensureCapacityInternal_d00df ⟨(Nat.le_of_ble_eq_true rfl), (Nat.le_of_ble_eq_true rfl)⟩ rfl hl.1 rfl (Nat.le_of_ble_eq_true rfl) dJ5_append_c97b9_14 ⟨(Nat.le_of_ble_eq_true rfl), (Nat.le_of_ble_eq_true rfl)⟩) (fun u6 H locs hw Y => ?_)
  obtain ⟨hS6, hm6⟩ := hw
  have Y : Wd D τ s A s.heap (bl [[(sb, .inr (1, [.ref u6.1, .int (iI (0)), .int (iI (0)), .int (iI (((T.length : Nat) : Int)))]))], [(u6.1, .inl (τ 1, u6.2.1, .inl (u6.2.2)))]]) _ _ := Y
  refine W.widen (k := 1) (n := 2006) (Nat.le_of_ble_eq_true rfl) (Nat.le_of_ble_eq_true rfl) ?_
  have hc6 := hS6.2.1
  refine lv_aload_n B.1 B.2.1 dJ5_append_c97b9_17 rfl (lv_at hl 2 rfl) ?_
  refine qI (Cs := [[(sb, .inr (1, [.ref u6.1, .int (iI (0)), .int (iI (0)), .int (iI (((T.length : Nat) : Int)))]))]]) (Rs := [[(u6.1, .inl (τ 1, u6.2.1, .inl (u6.2.2)))]]) Y [0] [1] (by decide) rfl (cVU (As := []) (rest := []) (q0 := 0) (KJ.ok K) hK B Y [0] (by decide) rfl (k5_isLat l D τ _ K sb u6.1 ((T.length : Nat) : Int)) rfl q_1341 q_1342 (B.2.2.2.2 _ q_1344) q_13 q_1345 q_1343 rfl rfl hd_J5_isLatin1_aae02 ⟨(Nat.le_of_ble_eq_true rfl), (Nat.le_of_ble_eq_true rfl)⟩ rfl hl.1 rfl (Nat.le_of_ble_eq_true rfl) dJ5_append_c97b9_18 ⟨(Nat.le_of_ble_eq_true rfl), (Nat.le_of_ble_eq_true rfl)⟩) (fun r u H locs hw Y => ?_)
  subst hw
  have Y : Wd D τ s A s.heap (bl [[(sb, .inr (1, [.ref u6.1, .int (iI (0)), .int (iI (0)), .int (iI (((T.length : Nat) : Int)))]))], [(u6.1, .inl (τ 1, u6.2.1, .inl (u6.2.2)))]]) _ _ := Y
  refine lv_if_eq (tgt := 37) B.1 B.2.1 dJ5_append_c97b9_21 (by decide) (fun h => absurd h (by decide)) (fun _ => ?_)
  refine lv_iload_n B.1 B.2.1 dJ5_append_c97b9_24 rfl (lv_at hl 3 rfl) ?_
  refine lv_iload_n B.1 B.2.1 dJ5_append_c97b9_25 rfl (lv_at hl 0 rfl) ?_
  refine lv_aload_n B.1 B.2.1 dJ5_append_c97b9_26 rfl (lv_at hl 2 rfl) ?_
  refine gf_J5_15 B Y 0 rfl rfl dJ5_append_c97b9_27 ?_
  refine qI (Cs := [[(u6.1, .inl (τ 1, u6.2.1, .inl (u6.2.2)))]]) (Rs := [[(sb, .inr (1, [.ref u6.1, .int (iI (0)), .int (iI (0)), .int (iI (((T.length : Nat) : Int)))]))]]) Y [1] [0] (by decide) rfl (cSE (As := [.int (iI ((v : Nat) : Int)), .int (iI (((T.length + (dgL v).length) : Nat) : Int)), .ref u6.1]) (rest := []) (Ke.ok K) hE B Y [1] (by decide) rfl (k6_getChars l D τ _ K v T.length u6.1 u6.2.1 (u6.2.2) hv (by omega) (by omega)) q_1407 q_1408 q_22 q_1409 rfl rfl hd_J6_getChars_ba4f3 ⟨(Nat.le_of_ble_eq_true rfl), (Nat.le_of_ble_eq_true rfl)⟩ rfl hl.1 rfl (Nat.le_of_ble_eq_true rfl) dJ5_append_c97b9_30 ⟨(Nat.le_of_ble_eq_true rfl), (Nat.le_of_ble_eq_true rfl)⟩) (fun r u H locs hw Y => ?_)
  have Y : Wd D τ s A s.heap (bl [[(u6.1, .inl (τ 1, u6.2.1, .inl (va_cpy (fun j => iI ((dgL v).getD j 0)) (u6.2.2) 0 T.length (dgL v).length)))], [(sb, .inr (1, [.ref u6.1, .int (iI (0)), .int (iI (0)), .int (iI (((T.length : Nat) : Int)))]))]]) _ _ := Y
  refine lv_pop B.1 B.2.1 dJ5_append_c97b9_33 rfl ?_
  refine lv_goto (tgt := 48) B.1 B.2.1 dJ5_append_c97b9_34 (by decide) ?_
  refine lv_aload_n B.1 B.2.1 dJ5_append_c97b9_48 rfl (lv_at hl 2 rfl) ?_
  refine lv_iload_n B.1 B.2.1 dJ5_append_c97b9_49 rfl (lv_at hl 0 rfl) ?_
  refine pf_J5_79 (B' := [[(u6.1, .inl (τ 1, u6.2.1, .inl (va_cpy (fun j => iI ((dgL v).getD j 0)) (u6.2.2) 0 T.length (dgL v).length)))], [(sb, .inr (1, [.ref u6.1, .int (iI (0)), .int (iI (0)), .int (iI (((T.length + (dgL v).length) : Nat) : Int))]))]]) B Y 1 rfl (Nat.le_of_ble_eq_true rfl) rfl dJ5_append_c97b9_50 (fun H locs Y => ?_)
  refine lv_aload_n B.1 B.2.1 dJ5_append_c97b9_53 rfl (lv_at hl 2 rfl) ?_
  rw [← List.length_append] at Y
  exact eQ (r := some sb) B hr hlk Y (u6.1, u6.2.1, va_cpy (fun j => iI ((dgL v).getD j 0)) u6.2.2 0 T.length (dgL v).length) ⟨rfl, SbR.app (fk := (fun j => iI ((dgL v).getD j 0))) hS6 (by omega) (fun j _ => rfl) (fun j => dg_fit hv j)⟩ [1, 0] (by decide) rfl (Nat.le_of_ble_eq_true rfl) (Nat.le_of_ble_eq_true rfl) dJ5_append_c97b9_54

set_option maxHeartbeats 4000000 in
set_option maxRecDepth 100000 in
theorem k4_appInt (l : Launch) (D : va_G) (τ : Nat → ClassId) (sz : Nat) (K : Nat → Nat) (sb va cap : Nat) (T : List Int) (f : Nat → Int32) (hS : SbR T cap f) (v : Nat) (hv : v < 10000) (hl5 : T.length + (dgL v).length ≤ 500) : Met l yJ4_append_bf812 (Cond.code yJ4_append_bf812 cJ4_append_bf812 2 (some (.object "java/lang/StringBuilder")) :: wALL) { frames := 5, cells := 1, slots := 2006, locals := 153 } (PwE (KJ K) D τ (bl [[(sb, .inr (1, [.ref va, .int (iI (0)), .int (iI (0)), .int (iI (((T.length : Nat) : Int)))]))], [(va, .inl (τ 1, cap, .inl (f)))]]) sz [.ref sb, .int (iI ((v : Nat) : Int))]) (va_Qq (fun (r : Option Nat) (u : (Nat × Nat × (Nat → Int32))) => r = some sb ∧ SbR (T ++ dgL v) u.2.1 u.2.2) (Bb D (va_A (bl [[(sb, .inr (1, [.ref va, .int (iI (0)), .int (iI (0)), .int (iI (((T.length : Nat) : Int)))]))], [(va, .inl (τ 1, cap, .inl (f)))]]) sz) (fun (u : (Nat × Nat × (Nat → Int32))) => [[(sb, .inr (1, [.ref u.1, .int (iI (0)), .int (iI (0)), .int (iI ((((T ++ dgL v).length : Nat) : Int)))]))], [(u.1, .inl (τ 1, u.2.1, .inl (u.2.2)))]])) (va_A (bl [[(sb, .inr (1, [.ref va, .int (iI (0)), .int (iI (0)), .int (iI (((T.length : Nat) : Int)))]))], [(va, .inl (τ 1, cap, .inl (f)))]]) sz)) 1 2006 (va_A (bl [[(sb, .inr (1, [.ref va, .int (iI (0)), .int (iI (0)), .int (iI (((T.length : Nat) : Int)))]))], [(va, .inl (τ 1, cap, .inl (f)))]]) sz) := by
  refine bodyE (by decide +kernel) (Nat.le_of_ble_eq_true rfl) (fun p e s m below meth c ls B hr hlk hin hsz Y hK hl => ?_)
  have hl : lv_has ls 2 [(0, .ref sb), (1, .int (iI ((v : Nat) : Int)))] := hl
  have B : CallFix p m c cJ4_append_bf812 2 s _ wALL RJ4 := B
  generalize va_A (bl [[(sb, .inr (1, [.ref va, .int (iI (0)), .int (iI (0)), .int (iI (((T.length : Nat) : Int)))]))], [(va, .inl (τ 1, cap, .inl (f)))]]) sz = A at Y hK ⊢
  have hE := hK.1
  refine lv_aload_n B.1 B.2.1 dJ4_append_bf812_0 rfl (lv_at hl 0 rfl) ?_
  refine lv_iload_n B.1 B.2.1 dJ4_append_bf812_1 rfl (lv_at hl 1 rfl) ?_
  refine qQ (Cs := [[(sb, .inr (1, [.ref va, .int (iI (0)), .int (iI (0)), .int (iI (((T.length : Nat) : Int)))]))], [(va, .inl (τ 1, cap, .inl (f)))]]) (Rs := []) Y [0, 1] [] (by decide) rfl (cSU (As := [.int (iI ((v : Nat) : Int))]) (rest := []) (q0 := 0) (KJ.ok K) hK B Y [0, 1] (by decide) rfl (k5_appInt l D τ _ K sb va cap T (f) hS v (by omega) (by omega)) rfl q_1401 q_1402 q_13 q_1403 q_1556 q_1302 (by decide) rfl rfl hd_J5_append_c97b9 ⟨(Nat.le_of_ble_eq_true rfl), (Nat.le_of_ble_eq_true rfl)⟩ rfl hl.1 rfl (Nat.le_of_ble_eq_true rfl) dJ4_append_bf812_2 ⟨(Nat.le_of_ble_eq_true rfl), (Nat.le_of_ble_eq_true rfl)⟩) (fun r u6 H locs hw Y => ?_)
  obtain ⟨hw, hS6⟩ := hw
  subst hw
  have Y : Wd D τ s A s.heap (bl [[(sb, .inr (1, [.ref u6.1, .int (iI (0)), .int (iI (0)), .int (iI ((((T ++ dgL v).length : Nat) : Int)))]))], [(u6.1, .inl (τ 1, u6.2.1, .inl (u6.2.2)))]]) _ _ := Y
  refine W.widen (k := 1) (n := 2006) (Nat.le_of_ble_eq_true rfl) (Nat.le_of_ble_eq_true rfl) ?_
  show W _ _ _ _ _ _ _ _ _ _ _ _ _ _ _ (F0 m _ ls (.ref sb :: []))
  refine lv_pop B.1 B.2.1 dJ4_append_bf812_5 rfl ?_
  refine lv_aload_n B.1 B.2.1 dJ4_append_bf812_6 rfl (lv_at hl 0 rfl) ?_
  exact eQ (r := some sb) B hr hlk Y u6 ⟨rfl, hS6⟩ [0, 1] (by decide) rfl (Nat.le_of_ble_eq_true rfl) (Nat.le_of_ble_eq_true rfl) dJ4_append_bf812_7

set_option maxHeartbeats 4000000 in
set_option maxRecDepth 100000 in
theorem k7_chk (l : Launch) (D : va_G) (τ : Nat → ClassId) (sz : Nat) (n : Nat) (hn : n ≤ 2000) : Met l yJ7_checkLength_df160 (Cond.code yJ7_checkLength_df160 cJ7_checkLength_df160 2 none :: wALL) { frames := 0, cells := 0, slots := 0, locals := 0 } (Pw D τ (bl []) sz [.int (iI (0)), .int (iI ((n : Nat) : Int))]) (va_Qv (fun (_ : Unit) => True) (Bb D (va_A (bl []) sz) (fun (_ : Unit) => [])) (va_A (bl []) sz)) 0 0 (va_A (bl []) sz) := by
  refine bodyWF (by decide +kernel) (Nat.le_of_ble_eq_true rfl) (fun p e s m below meth c ls B hr hlk hin hsz Y hl => ?_)
  have hl : lv_has ls 2 [(0, .int (iI (0))), (1, .int (iI ((n : Nat) : Int)))] := hl
  have B : CallFix p m c cJ7_checkLength_df160 2 s _ wALL RJ7 := B
  generalize va_A (bl []) sz = A at Y ⊢
  refine lv_iload_n B.1 B.2.1 dJ7_checkLength_df160_0 rfl (lv_at hl 1 rfl) ?_
  refine lv_iload_n B.1 B.2.1 dJ7_checkLength_df160_1 rfl (lv_at hl 0 rfl) ?_
  refine lv_icmp_ge (tgt := 37) B.1 B.2.1 dJ7_checkLength_df160_2 (by decide) (fun _ => ?_) (fun h => absurd ((iI_le (a := 0) (b := ((n : Nat) : Int)) (by omega) (by omega) (by omega) (by omega)).mpr (by omega)) h) 
  exact eV B hr hlk Y () trivial [] (by decide) rfl (Nat.le_of_ble_eq_true rfl) (Nat.le_of_ble_eq_true rfl) dJ7_checkLength_df160_37

set_option maxHeartbeats 4000000 in
set_option maxRecDepth 100000 in
theorem k7_rangeB (l : Launch) (D : va_G) (τ : Nat → ClassId) (sz : Nat) (a n t0 : Nat) (f : Nat → Int32) (hf : ∀ j : Nat, fits .byte (.int (f j)) = true) (h1 : t0 ≤ n) (h2 : n ≤ 1002) : Met l yJ7_copyOfRangeByte_39247 (Cond.code yJ7_copyOfRangeByte_39247 cJ7_copyOfRangeByte_39247 5 (some (.array .byte)) :: wALL) { frames := 1, cells := 1, slots := 1002, locals := 60 } (Pw D τ (bl [[(a, .inl (τ 1, n, .inl (f)))]]) sz [.ref a, .int (iI (0)), .int (iI ((t0 : Nat) : Int))]) (va_Qq (fun (r : Option Nat) (u : (Nat × (Nat → Int32))) => r = some u.1 ∧ ∀ j : Nat, j < t0 → u.2 j = f j) (Bb D (va_A (bl [[(a, .inl (τ 1, n, .inl (f)))]]) sz) (fun (u : (Nat × (Nat → Int32))) => [[(a, .inl (τ 1, n, .inl (f)))], [(u.1, .inl (τ 1, t0, .inl (u.2)))]])) (va_A (bl [[(a, .inl (τ 1, n, .inl (f)))]]) sz)) 1 1002 (va_A (bl [[(a, .inl (τ 1, n, .inl (f)))]]) sz) := by
  refine bodyWF (by decide +kernel) (Nat.le_of_ble_eq_true rfl) (fun p e s m below meth c ls B hr hlk hin hsz Y hl => ?_)
  have hl : lv_has ls 5 [(0, .ref a), (1, .int (iI (0))), (2, .int (iI ((t0 : Nat) : Int)))] := hl
  have B : CallFix p m c cJ7_copyOfRangeByte_39247 5 s _ wALL RJ7 := B
  generalize va_A (bl [[(a, .inl (τ 1, n, .inl (f)))]]) sz = A at Y ⊢
  refine lv_iload_n B.1 B.2.1 dJ7_copyOfRangeByte_39247_0 rfl (lv_at hl 1 rfl) ?_
  refine lv_iload_n B.1 B.2.1 dJ7_copyOfRangeByte_39247_1 rfl (lv_at hl 2 rfl) ?_
  refine qV (Cs := []) (Rs := [[(a, .inl (τ 1, n, .inl (f)))]]) Y [] [0] (by decide) rfl (cS (As := [.int (iI (0)), .int (iI ((t0 : Nat) : Int))]) (rest := []) B Y [] (by decide) rfl (k7_chk l D τ _ t0 (by omega)) q_1472 q_1473 q_7 q_1474 rfl rfl hd_J7_checkLength_df160 ⟨(Nat.le_of_ble_eq_true rfl), (Nat.le_of_ble_eq_true rfl)⟩ rfl hl.1 rfl (Nat.le_of_ble_eq_true rfl) dJ7_copyOfRangeByte_39247_2 ⟨(Nat.le_of_ble_eq_true rfl), (Nat.le_of_ble_eq_true rfl)⟩) (fun u H locs hw Y => ?_)
  have Y : Wd D τ s A s.heap (bl [[(a, .inl (τ 1, n, .inl (f)))]]) _ _ := Y
  refine lv_iload_n B.1 B.2.1 dJ7_copyOfRangeByte_39247_5 rfl (lv_at hl 2 rfl) ?_
  refine lv_iload_n B.1 B.2.1 dJ7_copyOfRangeByte_39247_6 rfl (lv_at hl 1 rfl) ?_
  refine lv_isub B.1 B.2.1 dJ7_copyOfRangeByte_39247_7 ?_
  refine lv_cv (v := (iI ((t0 : Nat) : Int))) (by rw [iI_sub, Int.sub_zero]) ?_
  refine lv_istore_n (lv' := [(3, .int (iI ((t0 : Nat) : Int))), (0, .ref a), (1, .int (iI (0))), (2, .int (iI ((t0 : Nat) : Int)))]) B.1 B.2.1 dJ7_copyOfRangeByte_39247_8 rfl hl (by decide) rfl (fun ls hl => ?_)
  refine lv_iload_n B.1 B.2.1 dJ7_copyOfRangeByte_39247_9 rfl (lv_at hl 0 rfl) ?_
  refine b_newb (N' := t0) B Y q_79 (iI_pos (by omega)) (iI_clamp (by omega)) (by omega) (Nat.le_of_ble_eq_true rfl) (by show 0 + t0 ≤ 1002; omega) dJ7_copyOfRangeByte_39247_10 (fun qn H Y => ?_)
  refine W.widen (k := 1) (n := 1002) (Nat.le_of_ble_eq_true rfl) (by omega) ?_
  have Y : Wd D τ s A s.heap (bl [[(a, .inl (τ 1, n, .inl (f)))], [(qn, .inl (τ 1, t0, .inl (fun _ => 0)))]]) _ _ := Y
  refine lv_astore (lv' := [(4, .ref qn), (3, .int (iI ((t0 : Nat) : Int))), (0, .ref a), (1, .int (iI (0))), (2, .int (iI ((t0 : Nat) : Int)))]) B.1 B.2.1 dJ7_copyOfRangeByte_39247_12 hl (by decide) rfl (fun ls hl => ?_)
  refine lv_aload_n B.1 B.2.1 dJ7_copyOfRangeByte_39247_14 rfl (lv_at hl 2 rfl) ?_
  refine lv_iload_n B.1 B.2.1 dJ7_copyOfRangeByte_39247_15 rfl (lv_at hl 3 rfl) ?_
  refine lv_aload B.1 B.2.1 dJ7_copyOfRangeByte_39247_16 (lv_at hl 0 rfl) ?_
  refine lv_iconst (v := (iI (0))) B.1 B.2.1 dJ7_copyOfRangeByte_39247_18 (by decide) ?_
  refine lv_aload_n B.1 B.2.1 dJ7_copyOfRangeByte_39247_19 rfl (lv_at hl 2 rfl) ?_
  refine b_alen (v := (iI ((n : Nat) : Int))) B Y 0 rfl 1 rfl (iI_nat _) dJ7_copyOfRangeByte_39247_20 ?_
  refine lv_iload_n B.1 B.2.1 dJ7_copyOfRangeByte_39247_21 rfl (lv_at hl 3 rfl) ?_
  refine lv_isub B.1 B.2.1 dJ7_copyOfRangeByte_39247_22 ?_
  refine lv_cv (v := (iI ((n : Nat) : Int))) (by rw [iI_sub, Int.sub_zero]) ?_
  refine lv_iload_n B.1 B.2.1 dJ7_copyOfRangeByte_39247_23 rfl (lv_at hl 1 rfl) ?_
  refine t_mmin (v := (iI ((t0 : Nat) : Int))) B q_650 q_618 q_1 q_619 hl.1 (Nat.le_of_ble_eq_true rfl) (Nat.le_of_ble_eq_true rfl) (Nat.le_of_ble_eq_true rfl) (Nat.le_of_ble_eq_true rfl) ((iI_min (by omega) (by omega) (by omega) (by omega)).trans (congrArg iI (by omega))) dJ7_copyOfRangeByte_39247_24 ?_
  refine b_copyb (n' := t0) (d' := 0) (h := va_cpy (f) (fun _ => 0) 0 0 t0) (B' := [[(a, .inl (τ 1, n, .inl (f)))], [(qn, .inl (τ 1, t0, .inl (va_cpy (f) (fun _ => 0) 0 0 t0)))]]) hf B Y q_651 q_622 q_621 q_18 hl.1 0 1 rfl rfl (by decide) (by decide) (iI_pos (by omega)) (iI_clamp (by omega)) (by omega) (by omega) rfl rfl (Nat.le_of_ble_eq_true rfl) (Nat.le_of_ble_eq_true rfl) dJ7_copyOfRangeByte_39247_27 (fun H locs Y => ?_)
  refine lv_aload B.1 B.2.1 dJ7_copyOfRangeByte_39247_30 (lv_at hl 0 rfl) ?_
  exact eQA (r := some qn) B hr hlk Y (qn, va_cpy (f) (fun _ => 0) 0 0 t0) ⟨rfl, fun j hj => by show va_cpy f (fun _ => 0) 0 0 t0 j = f j; unfold va_cpy; rw [if_pos (by omega)]; congr 1; omega⟩ [0, 1] (by decide) rfl (Nat.le_of_ble_eq_true rfl) (Nat.le_of_ble_eq_true rfl) dJ7_copyOfRangeByte_39247_32

set_option maxHeartbeats 4000000 in
set_option maxRecDepth 100000 in
theorem k7_range (l : Launch) (D : va_G) (τ : Nat → ClassId) (sz : Nat) (a n t0 : Nat) (f : Nat → Int32) (hf : ∀ j : Nat, fits .byte (.int (f j)) = true) (h1 : t0 ≤ n) (h2 : n ≤ 1002) : Met l yJ7_copyOfRange_39247 (Cond.code yJ7_copyOfRange_39247 cJ7_copyOfRange_39247 3 (some (.array .byte)) :: wALL) { frames := 2, cells := 1, slots := 1002, locals := 84 } (Pw D τ (bl [[(a, .inl (τ 1, n, .inl (f)))]]) sz [.ref a, .int (iI (0)), .int (iI ((t0 : Nat) : Int))]) (va_Qq (fun (r : Option Nat) (u : (Nat × (Nat → Int32))) => r = some u.1 ∧ ∀ j : Nat, j < t0 → u.2 j = f j) (Bb D (va_A (bl [[(a, .inl (τ 1, n, .inl (f)))]]) sz) (fun (u : (Nat × (Nat → Int32))) => [[(a, .inl (τ 1, n, .inl (f)))], [(u.1, .inl (τ 1, t0, .inl (u.2)))]])) (va_A (bl [[(a, .inl (τ 1, n, .inl (f)))]]) sz)) 1 1002 (va_A (bl [[(a, .inl (τ 1, n, .inl (f)))]]) sz) := by
  refine bodyWF (by decide +kernel) (Nat.le_of_ble_eq_true rfl) (fun p e s m below meth c ls B hr hlk hin hsz Y hl => ?_)
  have hl : lv_has ls 3 [(0, .ref a), (1, .int (iI (0))), (2, .int (iI ((t0 : Nat) : Int)))] := hl
  have B : CallFix p m c cJ7_copyOfRange_39247 3 s _ wALL RJ7 := B
  generalize va_A (bl [[(a, .inl (τ 1, n, .inl (f)))]]) sz = A at Y ⊢
  refine lv_iload_n B.1 B.2.1 dJ7_copyOfRange_39247_0 rfl (lv_at hl 1 rfl) ?_
  refine lv_if_ne (tgt := 10) B.1 B.2.1 dJ7_copyOfRange_39247_1 (by decide) (fun h => absurd (by decide) h) (fun _ => ?_)
  refine lv_iload_n B.1 B.2.1 dJ7_copyOfRange_39247_4 rfl (lv_at hl 2 rfl) ?_
  refine lv_aload_n B.1 B.2.1 dJ7_copyOfRange_39247_5 rfl (lv_at hl 0 rfl) ?_
  refine b_alen (v := (iI ((n : Nat) : Int))) B Y 0 rfl 1 rfl (iI_nat _) dJ7_copyOfRange_39247_6 ?_
  refine lv_icmp_eq (tgt := 17) B.1 B.2.1 dJ7_copyOfRange_39247_7 (by decide) (fun c1 => ?_) (fun c1 => ?_)
  · have c1 := (iI_eq (a := ((t0 : Nat) : Int)) (b := ((n : Nat) : Int)) (by omega) (by omega) (by omega) (by omega)).mp c1
    refine lv_aload_n B.1 B.2.1 dJ7_copyOfRange_39247_17 rfl (lv_at hl 0 rfl) ?_
    refine b_cloneb B Y hl.1 0 rfl hf (Nat.le_of_ble_eq_true rfl) (Nat.le_of_ble_eq_true rfl) (Nat.le_of_ble_eq_true rfl) (by show 0 + n ≤ 1002; omega) dJ7_copyOfRange_39247_18 (fun qn H Y => ?_)
    refine W.widen (k := 1) (n := 1002) (Nat.le_of_ble_eq_true rfl) (by omega) ?_
    have Y : Wd D τ s A s.heap (bl [[(a, .inl (τ 1, n, .inl (f)))], [(qn, .inl (τ 1, n, .inl (f)))]]) _ _ := Y
    refine b_castb B Y q_1340 1 rfl dJ7_copyOfRange_39247_21 ?_
    have htn : n = t0 := by omega
    subst htn
    exact eQA (r := some qn) B hr hlk Y (qn, f) ⟨rfl, fun j _ => rfl⟩ [0, 1] (by decide) rfl (Nat.le_of_ble_eq_true rfl) (Nat.le_of_ble_eq_true rfl) dJ7_copyOfRange_39247_24
  · have c1 := mt (iI_eq (a := ((t0 : Nat) : Int)) (b := ((n : Nat) : Int)) (by omega) (by omega) (by omega) (by omega)).mpr c1
    refine lv_aload_n B.1 B.2.1 dJ7_copyOfRange_39247_10 rfl (lv_at hl 0 rfl) ?_
    refine lv_iload_n B.1 B.2.1 dJ7_copyOfRange_39247_11 rfl (lv_at hl 1 rfl) ?_
    refine lv_iload_n B.1 B.2.1 dJ7_copyOfRange_39247_12 rfl (lv_at hl 2 rfl) ?_
    refine qQ (Cs := [[(a, .inl (τ 1, n, .inl (f)))]]) (Rs := []) Y [0] [] (by decide) rfl (cS (As := [.ref a, .int (iI (0)), .int (iI ((t0 : Nat) : Int))]) (rest := []) B Y [0] (by decide) rfl (k7_rangeB l D τ _ a n t0 f hf h1 h2) q_1469 q_1470 q_7 q_1471 rfl rfl hd_J7_copyOfRangeByte_39247 ⟨(Nat.le_of_ble_eq_true rfl), (Nat.le_of_ble_eq_true rfl)⟩ rfl hl.1 rfl (Nat.le_of_ble_eq_true rfl) dJ7_copyOfRange_39247_13 ⟨(Nat.le_of_ble_eq_true rfl), (Nat.le_of_ble_eq_true rfl)⟩) (fun r u7 H locs hw Y => ?_)
    obtain ⟨hw, hfu⟩ := hw
    subst hw
    have Y : Wd D τ s A s.heap (bl [[(a, .inl (τ 1, n, .inl (f)))], [(u7.1, .inl (τ 1, t0, .inl (u7.2)))]]) _ _ := Y
    refine W.widen (k := 1) (n := 1002) (Nat.le_of_ble_eq_true rfl) (Nat.le_of_ble_eq_true rfl) ?_
    show W _ _ _ _ _ _ _ _ _ _ _ _ _ _ _ (F0 m _ ls (.ref u7.1 :: []))
    exact eQA (r := some u7.1) B hr hlk Y u7 ⟨rfl, hfu⟩ [0, 1] (by decide) rfl (Nat.le_of_ble_eq_true rfl) (Nat.le_of_ble_eq_true rfl) dJ7_copyOfRange_39247_16

