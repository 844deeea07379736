theorem eQA {S : Type} {p : Program} {l : Launch} {e : Env} {R : Room} {s : State} {m : MethodId} {args : Array Value} {below : List Frame} {meth : Method} {c : Code} {H : Heap} {locs : List Loc} {cells slots : Nat} {cc : ByteArray} {pc nL : Nat} {ls : Array Slot} {own : String} {D : va_G} {τ : Nat → ClassId} {A : Nat → Prop} {B : List va_W} {post : Option Nat → S → Prop} {w1 : S → List va_W} {mc ms : Nat} {ty : FieldType} {r : Option Nat} (X : CallFix p m c cc nL s args wALL own) (hr : meth.sig.returnType = some (.array ty)) (hk : meth.locks = false) (Y : Wd D τ s A s.heap (bl B) H locs) (u : S) (hp : post r u) (is : List Nat) (hn : va_nd is = true) (hs : is.map (fun i => B[i]?) = (w1 u).map some) (hc : cells ≤ mc) (hs2 : slots ≤ ms) (hdg : decode cc pc = .ok (.areturn, 1)) : W p l e R s m args below meth c H locs cells slots (MQ below (va_Qq post (Bb D A w1) A) args s mc ms A) (F0 m pc ls [va_rf r]) := by
  have Z := Y.pick is hn hs
  exact W.widen hc hs2 (W.aret (v := va_rf r) X.1 X.2.1 hr (Or.inr ⟨ty, rfl⟩) (by cases r with
    | none => exact Or.inl rfl
    | some a => exact Or.inr ⟨a, rfl⟩) (fun t ht hW => ⟨⟨r, u, rfl, hp, by rw [ht]; exact Z.2.1, Z.2.2.1⟩, Y.2.2.2.1.F ht⟩) Y.2.2.2.1.2.2 hdg hk)
theorem fit_lo {c : Int} (h : 0 ≤ c ∧ c ≤ 127) : fits .byte (.int (iI c)) = true := by
  have q : ∀ k : Fin 128, fits .byte (.int (iI ((k.val : Nat) : Int))) = true := by decide +kernel
  obtain ⟨n, rfl⟩ := Int.eq_ofNat_of_zero_le h.1
  exact q ⟨n, by omega⟩
theorem fit_k (i j : Nat) : fits .byte (.int ((ksBl.getD i []).getD j 0)) = true := by rw [ksB_at]; exact fit_lo (ksZ_in i j)
theorem fit_cpy {f g : Nat → Int32} {a b n : Nat} (hf : ∀ j : Nat, fits .byte (.int (f j)) = true) (hg : ∀ j : Nat, fits .byte (.int (g j)) = true) (j : Nat) : fits .byte (.int (va_cpy f g a b n j)) = true := by
  unfold va_cpy
  split
  · exact hf _
  · exact hg _
theorem iI_max {a b : Int} (h1 : -2147483648 ≤ a) (h2 : a < 2147483648) (h3 : -2147483648 ≤ b) (h4 : b < 2147483648) : (if iI a < iI b then iI b else iI a) = iI (max a b) := by
  by_cases h : a < b
  · rw [if_pos ((iI_lt h1 h2 h3 h4).mpr h)]; congr 1; omega
  · rw [if_neg (mt (iI_lt h1 h2 h3 h4).mp h)]; congr 1; omega
theorem iI_min {a b : Int} (h1 : -2147483648 ≤ a) (h2 : a < 2147483648) (h3 : -2147483648 ≤ b) (h4 : b < 2147483648) : (if iI a < iI b then iI a else iI b) = iI (min a b) := by
  by_cases h : a < b
  · rw [if_pos ((iI_lt h1 h2 h3 h4).mpr h)]; congr 1; omega
  · rw [if_neg (mt (iI_lt h1 h2 h3 h4).mp h)]; congr 1; omega
set_option maxHeartbeats 4000000 in
set_option maxRecDepth 100000 in
theorem k5_isLat (l : Launch) (D : va_G) (τ : Nat → ClassId) (sz : Nat) (K : Nat → Nat) (sb va : Nat) (cnt : Int) : Met l yJ5_isLatin1_aae02 (Cond.code yJ5_isLatin1_aae02 cJ5_isLatin1_aae02 1 (some .boolean) :: wALL) { frames := 0, cells := 0, slots := 0, locals := 0 } (PwE (KJ K) D τ (bl [[(sb, .inr (1, [.ref va, .int (iI (0)), .int (iI (0)), .int (iI (cnt))]))]]) sz [.ref sb]) (va_Qi (fun (r : Int32) (_ : Unit) => r = iI 1) (Bb D (va_A (bl [[(sb, .inr (1, [.ref va, .int (iI (0)), .int (iI (0)), .int (iI (cnt))]))]]) sz) (fun (_ : Unit) => [[(sb, .inr (1, [.ref va, .int (iI (0)), .int (iI (0)), .int (iI (cnt))]))]])) (va_A (bl [[(sb, .inr (1, [.ref va, .int (iI (0)), .int (iI (0)), .int (iI (cnt))]))]]) sz)) 0 0 (va_A (bl [[(sb, .inr (1, [.ref va, .int (iI (0)), .int (iI (0)), .int (iI (cnt))]))]]) sz) := by
  refine bodyE (by decide +kernel) (Nat.le_of_ble_eq_true rfl) (fun p e s m below meth c ls B hr hlk hin hsz Y hK hl => ?_)
  have hl : lv_has ls 1 [(0, .ref sb)] := hl
  have B : CallFix p m c cJ5_isLatin1_aae02 1 s _ wALL RJ5 := B
  generalize va_A (bl [[(sb, .inr (1, [.ref va, .int (iI (0)), .int (iI (0)), .int (iI (cnt))]))]]) sz = A at Y hK ⊢
  have hE := hK.1
  refine va_gets B.1 B.2.1 hE.cmp Y.2.2.2.1 B.2.2.2.1 (B.2.2.2.2 _ q_1282) (fun _ h => h) dJ5_isLatin1_aae02_0 ?_
  refine lv_if_eq (tgt := 17) B.1 B.2.1 dJ5_isLatin1_aae02_3 (by decide) (fun h => absurd h (by decide)) (fun _ => ?_)
  refine lv_aload_n B.1 B.2.1 dJ5_isLatin1_aae02_6 rfl (lv_at hl 0 rfl) ?_
  refine gf_J5_22 B Y 0 rfl rfl dJ5_isLatin1_aae02_7 ?_
  refine lv_if_ne (tgt := 17) B.1 B.2.1 dJ5_isLatin1_aae02_10 (by decide) (fun h => absurd (by decide) h) (fun _ => ?_)
  refine lv_iconst (v := (iI (1))) B.1 B.2.1 dJ5_isLatin1_aae02_13 (by decide) ?_
  refine lv_goto (tgt := 18) B.1 B.2.1 dJ5_isLatin1_aae02_14 (by decide) ?_
  exact eZ B hr hlk Y (by decide) () rfl [0] (by decide) rfl (Nat.le_of_ble_eq_true rfl) (Nat.le_of_ble_eq_true rfl) dJ5_isLatin1_aae02_18

set_option maxHeartbeats 4000000 in
set_option maxRecDepth 100000 in
theorem k5_len (l : Launch) (D : va_G) (τ : Nat → ClassId) (sz : Nat) (K : Nat → Nat) (sb va : Nat) (cnt : Int) : Met l yJ5_length_8abf5 (Cond.code yJ5_length_8abf5 cJ5_length_8abf5 1 (some .int) :: wALL) { frames := 0, cells := 0, slots := 0, locals := 0 } (PwE (KJ K) D τ (bl [[(sb, .inr (1, [.ref va, .int (iI (0)), .int (iI (0)), .int (iI (cnt))]))]]) sz [.ref sb]) (va_Qi (fun (r : Int32) (_ : Unit) => r = iI cnt) (Bb D (va_A (bl [[(sb, .inr (1, [.ref va, .int (iI (0)), .int (iI (0)), .int (iI (cnt))]))]]) sz) (fun (_ : Unit) => [[(sb, .inr (1, [.ref va, .int (iI (0)), .int (iI (0)), .int (iI (cnt))]))]])) (va_A (bl [[(sb, .inr (1, [.ref va, .int (iI (0)), .int (iI (0)), .int (iI (cnt))]))]]) sz)) 0 0 (va_A (bl [[(sb, .inr (1, [.ref va, .int (iI (0)), .int (iI (0)), .int (iI (cnt))]))]]) sz) := by
  refine bodyE (by decide +kernel) (Nat.le_of_ble_eq_true rfl) (fun p e s m below meth c ls B hr hlk hin hsz Y hK hl => ?_)
  have hl : lv_has ls 1 [(0, .ref sb)] := hl
  have B : CallFix p m c cJ5_length_8abf5 1 s _ wALL RJ5 := B
  generalize va_A (bl [[(sb, .inr (1, [.ref va, .int (iI (0)), .int (iI (0)), .int (iI (cnt))]))]]) sz = A at Y hK ⊢
  have hE := hK.1
  refine lv_aload_n B.1 B.2.1 dJ5_length_8abf5_0 rfl (lv_at hl 0 rfl) ?_
  refine gf_J5_79 B Y 0 rfl rfl dJ5_length_8abf5_1 ?_
  exact eI B hr hlk Y () rfl [0] (by decide) rfl (Nat.le_of_ble_eq_true rfl) (Nat.le_of_ble_eq_true rfl) dJ5_length_8abf5_4

set_option maxHeartbeats 4000000 in
set_option maxRecDepth 100000 in
theorem k5_val (l : Launch) (D : va_G) (τ : Nat → ClassId) (sz : Nat) (K : Nat → Nat) (sb va : Nat) (cnt : Int) : Met l yJ5_getValue_6d5f1 (Cond.code yJ5_getValue_6d5f1 cJ5_getValue_6d5f1 1 (some (.array .byte)) :: wALL) { frames := 0, cells := 0, slots := 0, locals := 0 } (PwE (KJ K) D τ (bl [[(sb, .inr (1, [.ref va, .int (iI (0)), .int (iI (0)), .int (iI (cnt))]))]]) sz [.ref sb]) (va_Qq (fun (r : Option Nat) (_ : Unit) => r = some va) (Bb D (va_A (bl [[(sb, .inr (1, [.ref va, .int (iI (0)), .int (iI (0)), .int (iI (cnt))]))]]) sz) (fun (_ : Unit) => [[(sb, .inr (1, [.ref va, .int (iI (0)), .int (iI (0)), .int (iI (cnt))]))]])) (va_A (bl [[(sb, .inr (1, [.ref va, .int (iI (0)), .int (iI (0)), .int (iI (cnt))]))]]) sz)) 0 0 (va_A (bl [[(sb, .inr (1, [.ref va, .int (iI (0)), .int (iI (0)), .int (iI (cnt))]))]]) sz) := by
  refine bodyE (by decide +kernel) (Nat.le_of_ble_eq_true rfl) (fun p e s m below meth c ls B hr hlk hin hsz Y hK hl => ?_)
  have hl : lv_has ls 1 [(0, .ref sb)] := hl
  have B : CallFix p m c cJ5_getValue_6d5f1 1 s _ wALL RJ5 := B
  generalize va_A (bl [[(sb, .inr (1, [.ref va, .int (iI (0)), .int (iI (0)), .int (iI (cnt))]))]]) sz = A at Y hK ⊢
  have hE := hK.1
  refine lv_aload_n B.1 B.2.1 dJ5_getValue_6d5f1_0 rfl (lv_at hl 0 rfl) ?_
  refine gf_J5_15 B Y 0 rfl rfl dJ5_getValue_6d5f1_1 ?_
  exact eQA (r := some va) B hr hlk Y () rfl [0] (by decide) rfl (Nat.le_of_ble_eq_true rfl) (Nat.le_of_ble_eq_true rfl) dJ5_getValue_6d5f1_4

set_option maxHeartbeats 4000000 in
set_option maxRecDepth 100000 in
theorem k8_newLen (l : Launch) (D : va_G) (τ : Nat → ClassId) (sz : Nat) (ol mg pf : Int) (h1 : 0 ≤ ol ∧ ol ≤ 5000) (h2 : 0 ≤ mg ∧ mg ≤ 5000) (h3 : 0 < pf ∧ pf ≤ 5000) : Met l yJ8_newLength_cabcc (Cond.code yJ8_newLength_cabcc cJ8_newLength_cabcc 4 (some .int) :: wALL) { frames := 1, cells := 0, slots := 0, locals := 60 } (Pw D τ (bl []) sz [.int (iI (ol)), .int (iI (mg)), .int (iI (pf))]) (va_Qi (fun (r : Int32) (_ : Unit) => r = iI (ol + max mg pf)) (Bb D (va_A (bl []) sz) (fun (_ : Unit) => [])) (va_A (bl []) sz)) 0 0 (va_A (bl []) sz) := by
  refine bodyWF (by decide +kernel) (Nat.le_of_ble_eq_true rfl) (fun p e s m below meth c ls B hr hlk hin hsz Y hl => ?_)
  have hl : lv_has ls 4 [(0, .int (iI (ol))), (1, .int (iI (mg))), (2, .int (iI (pf)))] := hl
  have B : CallFix p m c cJ8_newLength_cabcc 4 s _ wALL RJ8 := B
  generalize va_A (bl []) sz = A at Y ⊢
  refine lv_iload_n B.1 B.2.1 dJ8_newLength_cabcc_0 rfl (lv_at hl 0 rfl) ?_
  refine lv_iload_n B.1 B.2.1 dJ8_newLength_cabcc_1 rfl (lv_at hl 1 rfl) ?_
  refine lv_iload_n B.1 B.2.1 dJ8_newLength_cabcc_2 rfl (lv_at hl 2 rfl) ?_
  refine t_mmax (v := (iI (max mg pf))) B q_1327 q_629 q_1 q_630 hl.1 (Nat.le_of_ble_eq_true rfl) (Nat.le_of_ble_eq_true rfl) (Nat.le_of_ble_eq_true rfl) (Nat.le_of_ble_eq_true rfl) (iI_max (by omega) (by omega) (by omega) (by omega)) dJ8_newLength_cabcc_3 ?_
  refine lv_iadd B.1 B.2.1 dJ8_newLength_cabcc_6 ?_
  refine lv_cv (v := (iI (ol + (max mg pf)))) (iI_add _ _) ?_
  refine lv_istore_n (lv' := [(3, .int (iI (ol + (max mg pf)))), (0, .int (iI (ol))), (1, .int (iI (mg))), (2, .int (iI (pf)))]) B.1 B.2.1 dJ8_newLength_cabcc_7 rfl hl (by decide) rfl (fun ls hl => ?_)
  refine lv_iconst (v := (iI (0))) B.1 B.2.1 dJ8_newLength_cabcc_8 (by decide) ?_
  refine lv_iload_n B.1 B.2.1 dJ8_newLength_cabcc_9 rfl (lv_at hl 0 rfl) ?_
  refine lv_icmp_ge (tgt := 21) B.1 B.2.1 dJ8_newLength_cabcc_10 (by decide) (fun h => absurd h (mt (iI_le (a := ol + (max mg pf)) (b := 0) (by omega) (by omega) (by omega) (by omega)).mp (by omega))) (fun _ => ?_)
  refine lv_iload_n B.1 B.2.1 dJ8_newLength_cabcc_13 rfl (lv_at hl 0 rfl) ?_
  refine lv_ldc B.1 B.2.1 B.2.2.2.1 (B.2.2.2.2 _ q_1328) dJ8_newLength_cabcc_14 ?_
  refine lv_cv (v := (iI (2147483639))) (by decide) ?_
  refine lv_icmp_gt (tgt := 21) B.1 B.2.1 dJ8_newLength_cabcc_16 (by decide) (fun h => absurd h (mt (iI_lt (a := 2147483639) (b := ol + (max mg pf)) (by omega) (by omega) (by omega) (by omega)).mp (by omega))) (fun _ => ?_)
  refine lv_iload_n B.1 B.2.1 dJ8_newLength_cabcc_19 rfl (lv_at hl 0 rfl) ?_
  exact eI B hr hlk Y () rfl [] (by decide) rfl (Nat.le_of_ble_eq_true rfl) (Nat.le_of_ble_eq_true rfl) dJ8_newLength_cabcc_20

set_option maxHeartbeats 4000000 in
set_option maxRecDepth 100000 in
theorem k5_newCap (l : Launch) (D : va_G) (τ : Nat → ClassId) (sz : Nat) (K : Nat → Nat) (sb va cap mn : Nat) (cnt : Int) (f : Nat → Int32) (h1 : cap < mn) (h2 : mn ≤ 1000) : Met l yJ5_newCapacity_0f7a4 (Cond.code yJ5_newCapacity_0f7a4 cJ5_newCapacity_0f7a4 6 (some .int) :: wALL) { frames := 2, cells := 0, slots := 0, locals := 83 } (PwE (KJ K) D τ (bl [[(sb, .inr (1, [.ref va, .int (iI (0)), .int (iI (0)), .int (iI (cnt))]))], [(va, .inl (τ 1, cap, .inl (f)))]]) sz [.ref sb, .int (iI ((mn : Nat) : Int))]) (va_Qi (fun (r : Int32) (_ : Unit) => r = iI (((cap : Nat) : Int) + max (((mn : Nat) : Int) - ((cap : Nat) : Int)) (((cap : Nat) : Int) + 2))) (Bb D (va_A (bl [[(sb, .inr (1, [.ref va, .int (iI (0)), .int (iI (0)), .int (iI (cnt))]))], [(va, .inl (τ 1, cap, .inl (f)))]]) sz) (fun (_ : Unit) => [[(sb, .inr (1, [.ref va, .int (iI (0)), .int (iI (0)), .int (iI (cnt))]))], [(va, .inl (τ 1, cap, .inl (f)))]])) (va_A (bl [[(sb, .inr (1, [.ref va, .int (iI (0)), .int (iI (0)), .int (iI (cnt))]))], [(va, .inl (τ 1, cap, .inl (f)))]]) sz)) 0 0 (va_A (bl [[(sb, .inr (1, [.ref va, .int (iI (0)), .int (iI (0)), .int (iI (cnt))]))], [(va, .inl (τ 1, cap, .inl (f)))]]) sz) := by
  refine bodyE (by decide +kernel) (Nat.le_of_ble_eq_true rfl) (fun p e s m below meth c ls B hr hlk hin hsz Y hK hl => ?_)
  have hl : lv_has ls 6 [(0, .ref sb), (1, .int (iI ((mn : Nat) : Int)))] := hl
  have B : CallFix p m c cJ5_newCapacity_0f7a4 6 s _ wALL RJ5 := B
  generalize va_A (bl [[(sb, .inr (1, [.ref va, .int (iI (0)), .int (iI (0)), .int (iI (cnt))]))], [(va, .inl (τ 1, cap, .inl (f)))]]) sz = A at Y hK ⊢
  have hE := hK.1
  refine lv_aload_n B.1 B.2.1 dJ5_newCapacity_0f7a4_0 rfl (lv_at hl 0 rfl) ?_
  refine gf_J5_15 B Y 0 rfl rfl dJ5_newCapacity_0f7a4_1 ?_
  refine b_alen (v := (iI ((cap : Nat) : Int))) B Y 1 rfl 1 rfl (iI_nat _) dJ5_newCapacity_0f7a4_4 ?_
  refine lv_istore_n (lv' := [(2, .int (iI ((cap : Nat) : Int))), (0, .ref sb), (1, .int (iI ((mn : Nat) : Int)))]) B.1 B.2.1 dJ5_newCapacity_0f7a4_5 rfl hl (by decide) rfl (fun ls hl => ?_)
  refine lv_iload_n B.1 B.2.1 dJ5_newCapacity_0f7a4_6 rfl (lv_at hl 2 rfl) ?_
  refine lv_aload_n B.1 B.2.1 dJ5_newCapacity_0f7a4_7 rfl (lv_at hl 1 rfl) ?_
  refine gf_J5_22 B Y 0 rfl rfl dJ5_newCapacity_0f7a4_8 ?_
  refine lv_ishl B.1 B.2.1 dJ5_newCapacity_0f7a4_11 ?_
  refine lv_cv (v := (iI ((mn : Nat) : Int))) iI_shl0 ?_
  refine lv_istore_n (lv' := [(3, .int (iI ((mn : Nat) : Int))), (2, .int (iI ((cap : Nat) : Int))), (0, .ref sb), (1, .int (iI ((mn : Nat) : Int)))]) B.1 B.2.1 dJ5_newCapacity_0f7a4_12 rfl hl (by decide) rfl (fun ls hl => ?_)
  refine lv_iload_n B.1 B.2.1 dJ5_newCapacity_0f7a4_13 rfl (lv_at hl 0 rfl) ?_
  refine lv_iload_n B.1 B.2.1 dJ5_newCapacity_0f7a4_14 rfl (lv_at hl 1 rfl) ?_
  refine lv_isub B.1 B.2.1 dJ5_newCapacity_0f7a4_15 ?_
  refine lv_cv (v := (iI (((mn : Nat) : Int) - ((cap : Nat) : Int)))) (iI_sub _ _) ?_
  refine lv_istore (lv' := [(4, .int (iI (((mn : Nat) : Int) - ((cap : Nat) : Int)))), (3, .int (iI ((mn : Nat) : Int))), (2, .int (iI ((cap : Nat) : Int))), (0, .ref sb), (1, .int (iI ((mn : Nat) : Int)))]) B.1 B.2.1 dJ5_newCapacity_0f7a4_16 hl (by decide) rfl (fun ls hl => ?_)
  refine lv_iload_n B.1 B.2.1 dJ5_newCapacity_0f7a4_18 rfl (lv_at hl 2 rfl) ?_
  refine lv_iload B.1 B.2.1 dJ5_newCapacity_0f7a4_19 (lv_at hl 0 rfl) ?_
  refine lv_iload_n B.1 B.2.1 dJ5_newCapacity_0f7a4_21 rfl (lv_at hl 2 rfl) ?_
  refine lv_iconst (v := (iI (2))) B.1 B.2.1 dJ5_newCapacity_0f7a4_22 (by decide) ?_
  refine lv_aload_n B.1 B.2.1 dJ5_newCapacity_0f7a4_23 rfl (lv_at hl 3 rfl) ?_
  refine gf_J5_22 B Y 0 rfl rfl dJ5_newCapacity_0f7a4_24 ?_
  refine lv_ishl B.1 B.2.1 dJ5_newCapacity_0f7a4_27 ?_
  refine lv_cv (v := (iI (2))) (by decide) ?_
  refine lv_iadd B.1 B.2.1 dJ5_newCapacity_0f7a4_28 ?_
  refine lv_cv (v := (iI (((cap : Nat) : Int) + 2))) (iI_add _ _) ?_
  refine qI (Cs := []) (Rs := [[(sb, .inr (1, [.ref va, .int (iI (0)), .int (iI (0)), .int (iI (cnt))]))], [(va, .inl (τ 1, cap, .inl (f)))]]) Y [] [0, 1] (by decide) rfl (cS (As := [.int (iI ((cap : Nat) : Int)), .int (iI (((mn : Nat) : Int) - ((cap : Nat) : Int))), .int (iI (((cap : Nat) : Int) + 2))]) (rest := []) B Y [] (by decide) rfl (k8_newLen l D τ _ (((cap : Nat) : Int)) (((mn : Nat) : Int) - ((cap : Nat) : Int)) (((cap : Nat) : Int) + 2) (by omega) (by omega) (by omega)) q_1324 q_1325 q_17 q_1326 rfl rfl hd_J8_newLength_cabcc ⟨(Nat.le_of_ble_eq_true rfl), (Nat.le_of_ble_eq_true rfl)⟩ rfl hl.1 rfl (Nat.le_of_ble_eq_true rfl) dJ5_newCapacity_0f7a4_29 ⟨(Nat.le_of_ble_eq_true rfl), (Nat.le_of_ble_eq_true rfl)⟩) (fun r u H locs hw Y => ?_)
  subst hw
  have Y : Wd D τ s A s.heap (bl [[(sb, .inr (1, [.ref va, .int (iI (0)), .int (iI (0)), .int (iI (cnt))]))], [(va, .inl (τ 1, cap, .inl (f)))]]) _ _ := Y
  refine lv_istore (lv' := [(5, .int (iI (((cap : Nat) : Int) + max (((mn : Nat) : Int) - ((cap : Nat) : Int)) (((cap : Nat) : Int) + 2)))), (4, .int (iI (((mn : Nat) : Int) - ((cap : Nat) : Int)))), (3, .int (iI ((mn : Nat) : Int))), (2, .int (iI ((cap : Nat) : Int))), (0, .ref sb), (1, .int (iI ((mn : Nat) : Int)))]) B.1 B.2.1 dJ5_newCapacity_0f7a4_32 hl (by decide) rfl (fun ls hl => ?_)
  refine lv_iload B.1 B.2.1 dJ5_newCapacity_0f7a4_34 (lv_at hl 0 rfl) ?_
  refine lv_ldc B.1 B.2.1 B.2.2.2.1 (B.2.2.2.2 _ q_1332) dJ5_newCapacity_0f7a4_36 ?_
  refine lv_cv (v := (iI (2147483647))) (by decide) ?_
  refine lv_icmp_ne (tgt := 51) B.1 B.2.1 dJ5_newCapacity_0f7a4_38 (by decide) (fun _ => ?_) (fun h => absurd h (mt (iI_eq (a := ((cap : Nat) : Int) + max (((mn : Nat) : Int) - ((cap : Nat) : Int)) (((cap : Nat) : Int) + 2)) (b := 2147483647) (by omega) (by omega) (by omega) (by omega)).mp (by omega))) 
  refine lv_iload B.1 B.2.1 dJ5_newCapacity_0f7a4_51 (lv_at hl 0 rfl) ?_
  refine lv_aload_n B.1 B.2.1 dJ5_newCapacity_0f7a4_53 rfl (lv_at hl 4 rfl) ?_
  refine gf_J5_22 B Y 0 rfl rfl dJ5_newCapacity_0f7a4_54 ?_
  refine lv_ishr B.1 B.2.1 dJ5_newCapacity_0f7a4_57 ?_
  refine lv_cv (v := (iI (((cap : Nat) : Int) + max (((mn : Nat) : Int) - ((cap : Nat) : Int)) (((cap : Nat) : Int) + 2)))) (iI_shr0 (by omega) (by omega)) ?_
  exact eI B hr hlk Y () rfl [0, 1] (by decide) rfl (Nat.le_of_ble_eq_true rfl) (Nat.le_of_ble_eq_true rfl) dJ5_newCapacity_0f7a4_58

set_option maxHeartbeats 4000000 in
set_option maxRecDepth 100000 in
theorem k7_copyOf (l : Launch) (D : va_G) (τ : Nat → ClassId) (sz : Nat) (a n nn : Nat) (f : Nat → Int32) (hf : ∀ j : Nat, fits .byte (.int (f j)) = true) (h1 : n < nn) (h2 : nn ≤ 2006) : Met l yJ7_copyOf_9075b (Cond.code yJ7_copyOf_9075b cJ7_copyOf_9075b 3 (some (.array .byte)) :: wALL) { frames := 1, cells := 1, slots := 2006, locals := 60 } (Pw D τ (bl [[(a, .inl (τ 1, n, .inl (f)))]]) sz [.ref a, .int (iI ((nn : Nat) : Int))]) (va_Qq (fun (r : Option Nat) (u : Nat) => r = some u) (Bb D (va_A (bl [[(a, .inl (τ 1, n, .inl (f)))]]) sz) (fun (u : Nat) => [[(a, .inl (τ 1, n, .inl (f)))], [(u, .inl (τ 1, nn, .inl (va_cpy f (fun _ => 0) 0 0 n)))]])) (va_A (bl [[(a, .inl (τ 1, n, .inl (f)))]]) sz)) 1 2006 (va_A (bl [[(a, .inl (τ 1, n, .inl (f)))]]) sz) := by
  refine bodyWF (by decide +kernel) (Nat.le_of_ble_eq_true rfl) (fun p e s m below meth c ls B hr hlk hin hsz Y hl => ?_)
  have hl : lv_has ls 3 [(0, .ref a), (1, .int (iI ((nn : Nat) : Int)))] := hl
  have B : CallFix p m c cJ7_copyOf_9075b 3 s _ wALL RJ7 := B
  generalize va_A (bl [[(a, .inl (τ 1, n, .inl (f)))]]) sz = A at Y ⊢
  refine lv_iload_n B.1 B.2.1 dJ7_copyOf_9075b_0 rfl (lv_at hl 1 rfl) ?_
  refine lv_aload_n B.1 B.2.1 dJ7_copyOf_9075b_1 rfl (lv_at hl 0 rfl) ?_
  refine b_alen (v := (iI ((n : Nat) : Int))) B Y 0 rfl 1 rfl (iI_nat _) dJ7_copyOf_9075b_2 ?_
  refine lv_icmp_ne (tgt := 14) B.1 B.2.1 dJ7_copyOf_9075b_3 (by decide) (fun _ => ?_) (fun h => absurd h (mt (iI_eq (a := ((nn : Nat) : Int)) (b := ((n : Nat) : Int)) (by omega) (by omega) (by omega) (by omega)).mp (by omega))) 
  refine lv_iload_n B.1 B.2.1 dJ7_copyOf_9075b_14 rfl (lv_at hl 1 rfl) ?_
  refine b_newb (N' := nn) B Y q_79 (iI_pos (by omega)) (iI_clamp (by omega)) (by omega) (Nat.le_of_ble_eq_true rfl) (by show 0 + nn ≤ 2006; omega) dJ7_copyOf_9075b_15 (fun qn H Y => ?_)
  refine W.widen (k := 1) (n := 2006) (Nat.le_of_ble_eq_true rfl) (by omega) ?_
  have Y : Wd D τ s A s.heap (bl [[(a, .inl (τ 1, n, .inl (f)))], [(qn, .inl (τ 1, nn, .inl (fun _ => 0)))]]) _ _ := Y
  refine lv_astore_n (lv' := [(2, .ref qn), (0, .ref a), (1, .int (iI ((nn : Nat) : Int)))]) B.1 B.2.1 dJ7_copyOf_9075b_17 rfl hl (by decide) rfl (fun ls hl => ?_)
  refine lv_aload_n B.1 B.2.1 dJ7_copyOf_9075b_18 rfl (lv_at hl 1 rfl) ?_
  refine lv_iconst (v := (iI (0))) B.1 B.2.1 dJ7_copyOf_9075b_19 (by decide) ?_
  refine lv_aload_n B.1 B.2.1 dJ7_copyOf_9075b_20 rfl (lv_at hl 0 rfl) ?_
  refine lv_iconst (v := (iI (0))) B.1 B.2.1 dJ7_copyOf_9075b_21 (by decide) ?_
  refine lv_aload_n B.1 B.2.1 dJ7_copyOf_9075b_22 rfl (lv_at hl 1 rfl) ?_
  refine b_alen (v := (iI ((n : Nat) : Int))) B Y 0 rfl 1 rfl (iI_nat _) dJ7_copyOf_9075b_23 ?_
  refine lv_iload_n B.1 B.2.1 dJ7_copyOf_9075b_24 rfl (lv_at hl 2 rfl) ?_
  refine t_mmin (v := (iI ((n : Nat) : Int))) B q_650 q_618 q_1 q_619 hl.1 (Nat.le_of_ble_eq_true rfl) (Nat.le_of_ble_eq_true rfl) (Nat.le_of_ble_eq_true rfl) (Nat.le_of_ble_eq_true rfl) ((iI_min (by omega) (by omega) (by omega) (by omega)).trans (congrArg iI (by omega))) dJ7_copyOf_9075b_25 ?_
  refine b_copyb (n' := n) (d' := 0) (h := va_cpy (f) (fun _ => 0) 0 0 n) (B' := [[(a, .inl (τ 1, n, .inl (f)))], [(qn, .inl (τ 1, nn, .inl (va_cpy (f) (fun _ => 0) 0 0 n)))]]) hf B Y q_651 q_622 q_621 q_18 hl.1 0 1 rfl rfl (by decide) (by decide) (iI_pos (by omega)) (iI_clamp (by omega)) (by omega) (by omega) rfl rfl (Nat.le_of_ble_eq_true rfl) (Nat.le_of_ble_eq_true rfl) dJ7_copyOf_9075b_28 (fun H locs Y => ?_)
  refine lv_aload_n B.1 B.2.1 dJ7_copyOf_9075b_31 rfl (lv_at hl 0 rfl) ?_
  exact eQA (r := some qn) B hr hlk Y qn rfl [0, 1] (by decide) rfl (Nat.le_of_ble_eq_true rfl) (Nat.le_of_ble_eq_true rfl) dJ7_copyOf_9075b_32

theorem SbR.grow {T : List Int} {cap nn : Nat} {f : Nat → Int32} (h : SbR T cap f) (h1 : cap ≤ nn) (h2 : nn ≤ 1002) : SbR T nn (va_cpy f (fun _ => 0) 0 0 cap) := by
  obtain ⟨a1, a2, a3, a4⟩ := h
  refine ⟨by omega, h2, fun j hj => ?_, fun j => fit_cpy a4 (fun _ => by decide) j⟩
  unfold va_cpy
  rw [if_pos ⟨Nat.zero_le _, by omega⟩, ← a3 j hj]
  congr 1; omega
set_option maxHeartbeats 4000000 in
set_option maxRecDepth 100000 in
theorem k5_ensure (l : Launch) (D : va_G) (τ : Nat → ClassId) (sz : Nat) (K : Nat → Nat) (sb va cap mn : Nat) (T : List Int) (f : Nat → Int32) (hS : SbR T cap f) (h2 : mn ≤ 500) : Met l yJ5_ensureCapacityInternal_d00df (Cond.code yJ5_ensureCapacityInternal_d00df cJ5_ensureCapacityInternal_d00df 3 none :: wALL) { frames := 3, cells := 1, slots := 2006, locals := 108 } (PwE (KJ K) D τ (bl [[(sb, .inr (1, [.ref va, .int (iI (0)), .int (iI (0)), .int (iI (((T.length : Nat) : Int)))]))], [(va, .inl (τ 1, cap, .inl (f)))]]) sz [.ref sb, .int (iI ((mn : Nat) : Int))]) (va_Qv (fun (u : (Nat × Nat × (Nat → Int32))) => SbR T u.2.1 u.2.2 ∧ mn ≤ u.2.1) (Bb D (va_A (bl [[(sb, .inr (1, [.ref va, .int (iI (0)), .int (iI (0)), .int (iI (((T.length : Nat) : Int)))]))], [(va, .inl (τ 1, cap, .inl (f)))]]) sz) (fun (u : (Nat × Nat × (Nat → Int32))) => [[(sb, .inr (1, [.ref u.1, .int (iI (0)), .int (iI (0)), .int (iI (((T.length : Nat) : Int)))]))], [(u.1, .inl (τ 1, u.2.1, .inl (u.2.2)))]])) (va_A (bl [[(sb, .inr (1, [.ref va, .int (iI (0)), .int (iI (0)), .int (iI (((T.length : Nat) : Int)))]))], [(va, .inl (τ 1, cap, .inl (f)))]]) sz)) 1 2006 (va_A (bl [[(sb, .inr (1, [.ref va, .int (iI (0)), .int (iI (0)), .int (iI (((T.length : Nat) : Int)))]))], [(va, .inl (τ 1, cap, .inl (f)))]]) sz) := by
  refine bodyE (by decide +kernel) (Nat.le_of_ble_eq_true rfl) (fun p e s m below meth c ls B hr hlk hin hsz Y hK hl => ?_)
  have hl : lv_has ls 3 [(0, .ref sb), (1, .int (iI ((mn : Nat) : Int)))] := hl
  have B : CallFix p m c cJ5_ensureCapacityInternal_d00df 3 s _ wALL RJ5 := B
  generalize va_A (bl [[(sb, .inr (1, [.ref va, .int (iI (0)), .int (iI (0)), .int (iI (((T.length : Nat) : Int)))]))], [(va, .inl (τ 1, cap, .inl (f)))]]) sz = A at Y hK ⊢
  have hE := hK.1
  have hcap := hS.2.1
  refine lv_aload_n B.1 B.2.1 dJ5_ensureCapacityInternal_d00df_0 rfl (lv_at hl 0 rfl) ?_
  refine gf_J5_15 B Y 0 rfl rfl dJ5_ensureCapacityInternal_d00df_1 ?_
  refine b_alen (v := (iI ((cap : Nat) : Int))) B Y 1 rfl 1 rfl (iI_nat _) dJ5_ensureCapacityInternal_d00df_4 ?_
  refine lv_aload_n B.1 B.2.1 dJ5_ensureCapacityInternal_d00df_5 rfl (lv_at hl 0 rfl) ?_
  refine gf_J5_22 B Y 0 rfl rfl dJ5_ensureCapacityInternal_d00df_6 ?_
  refine lv_ishr B.1 B.2.1 dJ5_ensureCapacityInternal_d00df_9 ?_
  refine lv_cv (v := (iI ((cap : Nat) : Int))) (iI_shr0 (by omega) (by omega)) ?_
  refine lv_istore_n (lv' := [(2, .int (iI ((cap : Nat) : Int))), (0, .ref sb), (1, .int (iI ((mn : Nat) : Int)))]) B.1 B.2.1 dJ5_ensureCapacityInternal_d00df_10 rfl hl (by decide) rfl (fun ls hl => ?_)
  refine lv_iload_n B.1 B.2.1 dJ5_ensureCapacityInternal_d00df_11 rfl (lv_at hl 2 rfl) ?_
  refine lv_iload_n B.1 B.2.1 dJ5_ensureCapacityInternal_d00df_12 rfl (lv_at hl 0 rfl) ?_
  refine lv_isub B.1 B.2.1 dJ5_ensureCapacityInternal_d00df_13 ?_
  refine lv_cv (v := (iI (((mn : Nat) : Int) - ((cap : Nat) : Int)))) (iI_sub _ _) ?_
  refine lv_if_le (tgt := 38) B.1 B.2.1 dJ5_ensureCapacityInternal_d00df_14 (by decide) (fun c1 => ?_) (fun c1 => ?_)
  · have c1 := (iI_le0 (a := ((mn : Nat) : Int) - ((cap : Nat) : Int)) (by omega) (by omega)).mp c1
    exact eV B hr hlk Y (va, cap, f) ⟨hS, by show mn ≤ cap; omega⟩ [0, 1] (by decide) rfl (Nat.le_of_ble_eq_true rfl) (Nat.le_of_ble_eq_true rfl) dJ5_ensureCapacityInternal_d00df_38
  · have c1 := mt (iI_le0 (a := ((mn : Nat) : Int) - ((cap : Nat) : Int)) (by omega) (by omega)).mpr c1
    refine lv_aload_n B.1 B.2.1 dJ5_ensureCapacityInternal_d00df_17 rfl (lv_at hl 1 rfl) ?_
    refine lv_aload_n B.1 B.2.1 dJ5_ensureCapacityInternal_d00df_18 rfl (lv_at hl 1 rfl) ?_
    refine gf_J5_15 B Y 0 rfl rfl dJ5_ensureCapacityInternal_d00df_19 ?_
    refine lv_aload_n B.1 B.2.1 dJ5_ensureCapacityInternal_d00df_22 rfl (lv_at hl 1 rfl) ?_
    refine lv_iload_n B.1 B.2.1 dJ5_ensureCapacityInternal_d00df_23 rfl (lv_at hl 2 rfl) ?_
    refine qI (Cs := [[(sb, .inr (1, [.ref va, .int (iI (0)), .int (iI (0)), .int (iI (((T.length : Nat) : Int)))]))], [(va, .inl (τ 1, cap, .inl (f)))]]) (Rs := []) Y [0, 1] [] (by decide) rfl (cVU (As := [.int (iI ((mn : Nat) : Int))]) (rest := [.ref va, .ref sb]) (q0 := 0) (KJ.ok K) hK B Y [0, 1] (by decide) rfl (k5_newCap l D τ _ K sb va cap mn ((T.length : Nat) : Int) (f) (by omega) (by omega)) rfl q_1320 q_1322 (hK.sel (by decide +kernel)) q_13 q_1323 q_1552 rfl rfl hd_J5_newCapacity_0f7a4 ⟨(Nat.le_of_ble_eq_true rfl), (Nat.le_of_ble_eq_true rfl)⟩ rfl hl.1 rfl (Nat.le_of_ble_eq_true rfl) dJ5_ensureCapacityInternal_d00df_24 ⟨(Nat.le_of_ble_eq_true rfl), (Nat.le_of_ble_eq_true rfl)⟩) (fun r u H locs hw Y => ?_)
    subst hw
    have Y : Wd D τ s A s.heap (bl [[(sb, .inr (1, [.ref va, .int (iI (0)), .int (iI (0)), .int (iI (((T.length : Nat) : Int)))]))], [(va, .inl (τ 1, cap, .inl (f)))]]) _ _ := Y
    refine lv_aload_n B.1 B.2.1 dJ5_ensureCapacityInternal_d00df_27 rfl (lv_at hl 1 rfl) ?_
    refine gf_J5_22 B Y 0 rfl rfl dJ5_ensureCapacityInternal_d00df_28 ?_
    obtain ⟨nn, hnn⟩ : ∃ n : Nat, (n : Int) = ((cap : Nat) : Int) + max (((mn : Nat) : Int) - ((cap : Nat) : Int)) (((cap : Nat) : Int) + 2) := ⟨(((cap : Nat) : Int) + max (((mn : Nat) : Int) - ((cap : Nat) : Int)) (((cap : Nat) : Int) + 2)).toNat, by omega⟩
    rw [← hnn]
    refine lv_ishl B.1 B.2.1 dJ5_ensureCapacityInternal_d00df_31 ?_
    refine lv_cv (v := (iI ((nn : Nat) : Int))) iI_shl0 ?_
    refine qQ (Cs := [[(va, .inl (τ 1, cap, .inl (f)))]]) (Rs := [[(sb, .inr (1, [.ref va, .int (iI (0)), .int (iI (0)), .int (iI (((T.length : Nat) : Int)))]))]]) Y [1] [0] (by decide) rfl (cS (As := [.ref va, .int (iI ((nn : Nat) : Int))]) (rest := [.ref sb]) B Y [1] (by decide) rfl (k7_copyOf l D τ _ va cap nn (f) hS.2.2.2 (by omega) (by omega)) q_1333 q_1334 q_7 q_1335 rfl rfl hd_J7_copyOf_9075b ⟨(Nat.le_of_ble_eq_true rfl), (Nat.le_of_ble_eq_true rfl)⟩ rfl hl.1 rfl (Nat.le_of_ble_eq_true rfl) dJ5_ensureCapacityInternal_d00df_32 ⟨(Nat.le_of_ble_eq_true rfl), (Nat.le_of_ble_eq_true rfl)⟩) (fun r u7 H locs hw Y => ?_)
    subst hw
    have Y : Wd D τ s A s.heap (bl [[(va, .inl (τ 1, cap, .inl (f)))], [(u7, .inl (τ 1, nn, .inl (va_cpy (f) (fun _ => 0) 0 0 cap)))], [(sb, .inr (1, [.ref va, .int (iI (0)), .int (iI (0)), .int (iI (((T.length : Nat) : Int)))]))]]) _ _ := Y
    refine W.widen (k := 1) (n := 2006) (Nat.le_of_ble_eq_true rfl) (Nat.le_of_ble_eq_true rfl) ?_
    show W _ _ _ _ _ _ _ _ _ _ _ _ _ _ _ (F0 m _ ls (.ref u7 :: .ref sb :: []))
    refine pf_J5_15 (B' := [[(va, .inl (τ 1, cap, .inl (f)))], [(u7, .inl (τ 1, nn, .inl (va_cpy (f) (fun _ => 0) 0 0 cap)))], [(sb, .inr (1, [.ref u7, .int (iI (0)), .int (iI (0)), .int (iI (((T.length : Nat) : Int)))]))]]) B Y rfl rfl 2 rfl (Nat.le_of_ble_eq_true rfl) rfl dJ5_ensureCapacityInternal_d00df_35 (fun H locs Y => ?_)
    exact eV B hr hlk Y (u7, nn, va_cpy (f) (fun _ => 0) 0 0 cap) ⟨SbR.grow (nn := nn) hS (by omega) (by omega), by show mn ≤ nn; omega⟩ [2, 1] (by decide) rfl (Nat.le_of_ble_eq_true rfl) (Nat.le_of_ble_eq_true rfl) dJ5_ensureCapacityInternal_d00df_38

