theorem ksZ_le (i : Nat) : (ksZ i).length ≤ 26 := by
  have h : ∀ l ∈ ksZl, l.length ≤ 26 := by decide +kernel
  by_cases q : i < ksZl.length
  · exact h _ (by unfold ksZ; rw [List.getD_eq_getElem?_getD, List.getElem?_eq_getElem q]; exact List.getElem_mem q)
  · have e : ksZ i = [] := by unfold ksZ; rw [List.getD_eq_getElem?_getD, List.getElem?_eq_none (by omega)]; rfl
    rw [e]; decide
theorem eq_of_getD {X Y : List Int} (hl : X.length = Y.length) (h : ∀ t : Nat, t < Y.length → X.getD t 0 = Y.getD t 0) : X = Y := by
  apply List.ext_getElem hl
  intro i h1 h2
  have := h i h2
  rw [List.getD_eq_getElem?_getD, List.getD_eq_getElem?_getD, List.getElem?_eq_getElem h1, List.getElem?_eq_getElem h2] at this
  exact this
theorem ats_all {b : Nat → Int} {a : Nat} {X : List Int} {lo hi : Int} (h : ats b a X) (hX : ∀ x ∈ X, lo ≤ x ∧ x ≤ hi) : ∀ j : Nat, a ≤ j → j < a + X.length → lo ≤ b j ∧ b j ≤ hi := by
  intro j h1 h2
  have h3 := h (j - a) (by omega)
  rw [show a + (j - a) = j by omega, List.getD_eq_getElem?_getD, List.getElem?_eq_getElem (by omega : j - a < X.length)] at h3
  rw [h3]
  exact hX _ (List.getElem_mem _)
def decL (l : List Int) : Int := l.foldl (fun v x => v * 10 + (x - 48)) 0
theorem decL_s {l : List Int} {i : Nat} (h : i < l.length) : decL (l.take (i + 1)) = decL (l.take i) * 10 + (l.getD i 0 - 48) := by
  rw [List.getD_eq_getElem?_getD, List.getElem?_eq_getElem h, List.take_succ_eq_append_getElem h]
  unfold decL
  rw [List.foldl_append]
  rfl
theorem eY {S : Type} {p : Program} {l : Launch} {e : Env} {R : Room} {s : State} {m : MethodId} {args : Array Value} {below : List Frame} {meth : Method} {c : Code} {H : Heap} {locs : List Loc} {cells slots : Nat} {cc : ByteArray} {pc nL : Nat} {ls : Array Slot} {own : String} {D : va_G} {τ : Nat → ClassId} {A : Nat → Prop} {B : List va_W} {post : Int32 → S → Prop} {w1 : S → List va_W} {mc ms : Nat} {ty : FieldType} (X : CallFix p m c cc nL s args wALL own) (hr : meth.sig.returnType = some ty) (hk : meth.locks = false) (Y : Wd D τ s A s.heap (bl B) H locs) {v : Int32} (hv : narrow ty (.int v) = .int v) (u : S) (hp : post v u) (is : List Nat) (hn : va_nd is = true) (hs : is.map (fun i => B[i]?) = (w1 u).map some) (hc : cells ≤ mc) (hs2 : slots ≤ ms) (hdg : decode cc pc = .ok (.ireturn, 1)) : W p l e R s m args below meth c H locs cells slots (MQ below (va_Qi post (Bb D A w1) A) args s mc ms A) (F0 m pc ls [.int v]) := by
  have Z := Y.pick is hn hs
  exact W.widen hc hs2 (W.zret X.1 X.2.1 hr hv (fun t ht hW => ⟨⟨v, u, rfl, hp, by rw [ht]; exact Z.2.1, Z.2.2.1⟩, Y.2.2.2.1.F ht⟩) Y.2.2.2.1.2.2 hdg hk)
theorem nar_chr {c : Int} (h0 : 0 ≤ c) (h1 : c < 65536) : narrow .char (.int (iI c)) = .int (iI c) := by
  have := pk_nc (iI c)
  rw [i2c_lo h0 h1] at this
  exact this
set_option maxHeartbeats 4000000 in
set_option maxRecDepth 100000 in
theorem k_coderK (l : Launch) (D : va_G) (τ : Nat → ClassId) (sz : Nat) (K : Nat → Nat) (i : Nat) (hi : i < 20) : Met l yJ0_coder_7d493 (Cond.code yJ0_coder_7d493 cJ0_coder_7d493 1 (some .byte) :: wALL) { frames := 0, cells := 0, slots := 0, locals := 0 } (PwE (Ke K) D τ (bl []) sz [.ref (K (2 * i))]) (va_Qi (fun (r : Int32) (_ : Unit) => r = iI 0) (Bb D (va_A (bl []) sz) (fun (_ : Unit) => [])) (va_A (bl []) sz)) 0 0 (va_A (bl []) sz) := by
  refine bodyE (by decide +kernel) (Nat.le_of_ble_eq_true rfl) (fun p e s m below meth c ls B hr hlk hin hsz Y hE hl => ?_)
  have hl : lv_has ls 1 [(0, .ref (K (2 * i)))] := hl
  have B : CallFix p m c cJ0_coder_7d493 1 s _ wALL RJ0 := B
  generalize va_A (bl []) sz = A at Y hE ⊢
  refine va_gets B.1 B.2.1 hE.cmp Y.2.2.2.1 B.2.2.2.1 (B.2.2.2.2 _ q_708) (fun _ h => h) dJ0_coder_7d493_0 ?_
  refine lv_if_eq (tgt := 13) B.1 B.2.1 dJ0_coder_7d493_3 (by decide) (fun h => absurd h (by decide)) (fun _ => ?_)
  refine lv_aload_n B.1 B.2.1 dJ0_coder_7d493_6 rfl (lv_at hl 0 rfl) ?_
  refine vk_getf B.1 B.2.1 (hE.cod i hi) Y.2.2.2.1 B.2.2.2.1 (B.2.2.2.2 _ q_1494) (fun _ h => h) dJ0_coder_7d493_7 ?_
  refine lv_goto (tgt := 14) B.1 B.2.1 dJ0_coder_7d493_10 (by decide) ?_
  exact eY B hr hlk Y (by decide) () rfl [] (by decide) rfl (Nat.le_of_ble_eq_true rfl) (Nat.le_of_ble_eq_true rfl) dJ0_coder_7d493_14

set_option maxHeartbeats 4000000 in
set_option maxRecDepth 100000 in
theorem k_isLatK (l : Launch) (D : va_G) (τ : Nat → ClassId) (sz : Nat) (K : Nat → Nat) (i : Nat) (hi : i < 20) : Met l yJ0_isLatin1_aae02 (Cond.code yJ0_isLatin1_aae02 cJ0_isLatin1_aae02 1 (some .boolean) :: wALL) { frames := 0, cells := 0, slots := 0, locals := 0 } (PwE (Ke K) D τ (bl []) sz [.ref (K (2 * i))]) (va_Qi (fun (r : Int32) (_ : Unit) => r = iI 1) (Bb D (va_A (bl []) sz) (fun (_ : Unit) => [])) (va_A (bl []) sz)) 0 0 (va_A (bl []) sz) := by
  refine bodyE (by decide +kernel) (Nat.le_of_ble_eq_true rfl) (fun p e s m below meth c ls B hr hlk hin hsz Y hE hl => ?_)
  have hl : lv_has ls 1 [(0, .ref (K (2 * i)))] := hl
  have B : CallFix p m c cJ0_isLatin1_aae02 1 s _ wALL RJ0 := B
  generalize va_A (bl []) sz = A at Y hE ⊢
  refine va_gets B.1 B.2.1 hE.cmp Y.2.2.2.1 B.2.2.2.1 (B.2.2.2.2 _ q_708) (fun _ h => h) dJ0_isLatin1_aae02_0 ?_
  refine lv_if_eq (tgt := 17) B.1 B.2.1 dJ0_isLatin1_aae02_3 (by decide) (fun h => absurd h (by decide)) (fun _ => ?_)
  refine lv_aload_n B.1 B.2.1 dJ0_isLatin1_aae02_6 rfl (lv_at hl 0 rfl) ?_
  refine vk_getf B.1 B.2.1 (hE.cod i hi) Y.2.2.2.1 B.2.2.2.1 (B.2.2.2.2 _ q_1494) (fun _ h => h) dJ0_isLatin1_aae02_7 ?_
  refine lv_if_ne (tgt := 17) B.1 B.2.1 dJ0_isLatin1_aae02_10 (by decide) (fun h => absurd (by decide) h) (fun _ => ?_)
  refine lv_iconst (v := (iI (1))) B.1 B.2.1 dJ0_isLatin1_aae02_13 (by decide) ?_
  refine lv_goto (tgt := 18) B.1 B.2.1 dJ0_isLatin1_aae02_14 (by decide) ?_
  exact eZ B hr hlk Y (by decide) () rfl [] (by decide) rfl (Nat.le_of_ble_eq_true rfl) (Nat.le_of_ble_eq_true rfl) dJ0_isLatin1_aae02_18

set_option maxHeartbeats 4000000 in
set_option maxRecDepth 100000 in
theorem k_lenK (l : Launch) (D : va_G) (τ : Nat → ClassId) (sz : Nat) (K : Nat → Nat) (i : Nat) (hi : i < 20) : Met l yJ0_length_8abf5 (Cond.code yJ0_length_8abf5 cJ0_length_8abf5 1 (some .int) :: wALL) { frames := 1, cells := 0, slots := 0, locals := 20 } (PwE (Ke K) D τ (bl []) sz [.ref (K (2 * i))]) (va_Qi (fun (r : Int32) (_ : Unit) => r = iI (((ksZ i).length : Nat) : Int)) (Bb D (va_A (bl []) sz) (fun (_ : Unit) => [])) (va_A (bl []) sz)) 0 0 (va_A (bl []) sz) := by
  refine bodyE (by decide +kernel) (Nat.le_of_ble_eq_true rfl) (fun p e s m below meth c ls B hr hlk hin hsz Y hE hl => ?_)
  have hl : lv_has ls 1 [(0, .ref (K (2 * i)))] := hl
  have B : CallFix p m c cJ0_length_8abf5 1 s _ wALL RJ0 := B
  generalize va_A (bl []) sz = A at Y hE ⊢
  refine lv_aload_n B.1 B.2.1 dJ0_length_8abf5_0 rfl (lv_at hl 0 rfl) ?_
  refine vk_getf B.1 B.2.1 (hE.val i hi) Y.2.2.2.1 B.2.2.2.1 (B.2.2.2.2 _ q_1493) (fun _ h => h) dJ0_length_8abf5_1 ?_
  refine va_tlen (v := (iI (((ksZ i).length : Nat) : Int))) B.1 B.2.1 (hE.byt i hi) Y.2.2.2.1 (by rw [ksB_len]; exact iI_nat _) dJ0_length_8abf5_4 ?_
  refine lv_aload_n B.1 B.2.1 dJ0_length_8abf5_5 rfl (lv_at hl 0 rfl) ?_
  refine qI (Cs := []) (Rs := []) Y [] [] (by decide) rfl (cVK (As := []) (rest := [.int (iI (((ksZ i).length : Nat) : Int))]) (vk_recv (hE.str i hi) (i := 0) (by decide) Y.2.2.2.1) (Ke.ok K) hE B Y [] (by decide) rfl (k_coderK l D τ _ K i hi) q_704 q_705 q_706 q_15 q_707 rfl rfl hd_J0_coder_7d493 ⟨(Nat.le_of_ble_eq_true rfl), (Nat.le_of_ble_eq_true rfl)⟩ rfl hl.1 rfl (Nat.le_of_ble_eq_true rfl) dJ0_length_8abf5_6 ⟨(Nat.le_of_ble_eq_true rfl), (Nat.le_of_ble_eq_true rfl)⟩) (fun r u H locs hw Y => ?_)
  subst hw
  have Y : Wd D τ s A s.heap (bl []) _ _ := Y
  refine lv_ishr B.1 B.2.1 dJ0_length_8abf5_9 ?_
  refine lv_cv (v := (iI (((ksZ i).length : Nat) : Int))) (by have q := ksZ_le i; exact (iI_shr (by omega) (by omega) _ 0 (by decide)).trans (congrArg iI (Int.ediv_one _))) ?_
  exact eI B hr hlk Y () rfl [] (by decide) rfl (Nat.le_of_ble_eq_true rfl) (Nat.le_of_ble_eq_true rfl) dJ0_length_8abf5_10

set_option maxHeartbeats 4000000 in
set_option maxRecDepth 100000 in
theorem k_chrL (l : Launch) (D : va_G) (τ : Nat → ClassId) (sz : Nat) (K : Nat → Nat) (i : Nat) (hi : i < 20) (j : Nat) (hj : j < (ksZ i).length) : Met l yJ1_charAt_3b067 (Cond.code yJ1_charAt_3b067 cJ1_charAt_3b067 2 (some .char) :: wALL) { frames := 2, cells := 0, slots := 0, locals := 43 } (PwE (Ke K) D τ (bl []) sz [.ref (K (2 * i + 1)), .int (iI ((j : Nat) : Int))]) (va_Qi (fun (r : Int32) (_ : Unit) => r = iI ((ksZ i).getD j 0)) (Bb D (va_A (bl []) sz) (fun (_ : Unit) => [])) (va_A (bl []) sz)) 0 0 (va_A (bl []) sz) := by
  refine bodyE (by decide +kernel) (Nat.le_of_ble_eq_true rfl) (fun p e s m below meth c ls B hr hlk hin hsz Y hE hl => ?_)
  have hl : lv_has ls 2 [(0, .ref (K (2 * i + 1))), (1, .int (iI ((j : Nat) : Int)))] := hl
  have B : CallFix p m c cJ1_charAt_3b067 2 s _ wALL RJ1 := B
  generalize va_A (bl []) sz = A at Y hE ⊢
  have hln := ksZ_le i
  have hzz := ksZ_in i j
  refine lv_iload_n B.1 B.2.1 dJ1_charAt_3b067_0 rfl (lv_at hl 1 rfl) ?_
  refine lv_aload_n B.1 B.2.1 dJ1_charAt_3b067_1 rfl (lv_at hl 0 rfl) ?_
  refine va_tlen (v := (iI (((ksZ i).length : Nat) : Int))) B.1 B.2.1 (hE.byt i hi) Y.2.2.2.1 (by rw [ksB_len]; exact iI_nat _) dJ1_charAt_3b067_2 ?_
  refine qV (Cs := []) (Rs := []) Y [] [] (by decide) rfl (cSE (As := [.int (iI ((j : Nat) : Int)), .int (iI (((ksZ i).length : Nat) : Int))]) (rest := []) (Ke.ok K) hE B Y [] (by decide) rfl (k_chk0 l D τ _ K j ((ksZ i).length) (by omega) (by omega)) q_721 q_722 q_15 q_723 rfl rfl hd_J0_checkIndex_df160 ⟨(Nat.le_of_ble_eq_true rfl), (Nat.le_of_ble_eq_true rfl)⟩ rfl hl.1 rfl (Nat.le_of_ble_eq_true rfl) dJ1_charAt_3b067_3 ⟨(Nat.le_of_ble_eq_true rfl), (Nat.le_of_ble_eq_true rfl)⟩) (fun u H locs hw Y => ?_)
  have Y : Wd D τ s A s.heap (bl []) _ _ := Y
  refine lv_aload_n B.1 B.2.1 dJ1_charAt_3b067_6 rfl (lv_at hl 0 rfl) ?_
  refine lv_iload_n B.1 B.2.1 dJ1_charAt_3b067_7 rfl (lv_at hl 1 rfl) ?_
  refine va_tb (v := .int (iI ((ksZ i).getD j 0))) B.1 B.2.1 (hE.byt i hi) Y.2.2.2.1 (vin_of (iI_pos (by omega)) (j := j) (iI_clamp (by omega)) (by rw [ksB_len]; omega)) (by rw [show ((iI ((j : Nat) : Int))).toNatClampNeg = j from (iI_clamp (by omega))]; exact congrArg Value.int (ksB_at _ _)) dJ1_charAt_3b067_8 ?_
  refine lv_sipush (v := (iI (255))) B.1 B.2.1 dJ1_charAt_3b067_9 (by decide) ?_
  refine lv_iand B.1 B.2.1 dJ1_charAt_3b067_12 ?_
  refine lv_cv (v := (iI ((ksZ i).getD j 0))) (by rw [iI_and (by omega) (by omega)]; congr 1; omega) ?_
  refine lv_i2c (v := (iI ((ksZ i).getD j 0))) B.1 B.2.1 dJ1_charAt_3b067_13 (i2c_lo (by omega) (by omega)) ?_
  exact eY B hr hlk Y (nar_chr (by omega) (by omega)) () rfl [] (by decide) rfl (Nat.le_of_ble_eq_true rfl) (Nat.le_of_ble_eq_true rfl) dJ1_charAt_3b067_14

set_option maxHeartbeats 4000000 in
set_option maxRecDepth 100000 in
theorem k_chrK (l : Launch) (D : va_G) (τ : Nat → ClassId) (sz : Nat) (K : Nat → Nat) (i : Nat) (hi : i < 20) (j : Nat) (hj : j < (ksZ i).length) : Met l yJ0_charAt_5068e (Cond.code yJ0_charAt_5068e cJ0_charAt_5068e 2 (some .char) :: wALL) { frames := 3, cells := 0, slots := 0, locals := 64 } (PwE (Ke K) D τ (bl []) sz [.ref (K (2 * i)), .int (iI ((j : Nat) : Int))]) (va_Qi (fun (r : Int32) (_ : Unit) => r = iI ((ksZ i).getD j 0)) (Bb D (va_A (bl []) sz) (fun (_ : Unit) => [])) (va_A (bl []) sz)) 0 0 (va_A (bl []) sz) := by
  refine bodyE (by decide +kernel) (Nat.le_of_ble_eq_true rfl) (fun p e s m below meth c ls B hr hlk hin hsz Y hE hl => ?_)
  have hl : lv_has ls 2 [(0, .ref (K (2 * i))), (1, .int (iI ((j : Nat) : Int)))] := hl
  have B : CallFix p m c cJ0_charAt_5068e 2 s _ wALL RJ0 := B
  generalize va_A (bl []) sz = A at Y hE ⊢
  have hln := ksZ_le i
  have hzz := ksZ_in i j
  refine lv_aload_n B.1 B.2.1 dJ0_charAt_5068e_0 rfl (lv_at hl 0 rfl) ?_
  refine qI (Cs := []) (Rs := []) Y [] [] (by decide) rfl (cVK (As := []) (rest := []) (vk_recv (hE.str i hi) (i := 0) (by decide) Y.2.2.2.1) (Ke.ok K) hE B Y [] (by decide) rfl (k_isLatK l D τ _ K i hi) q_714 q_715 q_716 q_15 q_717 rfl rfl hd_J0_isLatin1_aae02 ⟨(Nat.le_of_ble_eq_true rfl), (Nat.le_of_ble_eq_true rfl)⟩ rfl hl.1 rfl (Nat.le_of_ble_eq_true rfl) dJ0_charAt_5068e_1 ⟨(Nat.le_of_ble_eq_true rfl), (Nat.le_of_ble_eq_true rfl)⟩) (fun r u H locs hw Y => ?_)
  subst hw
  have Y : Wd D τ s A s.heap (bl []) _ _ := Y
  refine lv_if_eq (tgt := 16) B.1 B.2.1 dJ0_charAt_5068e_4 (by decide) (fun h => absurd h (by decide)) (fun _ => ?_)
  refine lv_aload_n B.1 B.2.1 dJ0_charAt_5068e_7 rfl (lv_at hl 0 rfl) ?_
  refine vk_getf B.1 B.2.1 (hE.val i hi) Y.2.2.2.1 B.2.2.2.1 (B.2.2.2.2 _ q_1493) (fun _ h => h) dJ0_charAt_5068e_8 ?_
  refine lv_iload_n B.1 B.2.1 dJ0_charAt_5068e_11 rfl (lv_at hl 1 rfl) ?_
  refine qI (Cs := []) (Rs := []) Y [] [] (by decide) rfl (cSE (As := [.ref (K (2 * i + 1)), .int (iI ((j : Nat) : Int))]) (rest := []) (Ke.ok K) hE B Y [] (by decide) rfl (k_chrL l D τ _ K i hi j (by omega)) q_718 q_719 q_20 q_720 rfl rfl hd_J1_charAt_3b067 ⟨(Nat.le_of_ble_eq_true rfl), (Nat.le_of_ble_eq_true rfl)⟩ rfl hl.1 rfl (Nat.le_of_ble_eq_true rfl) dJ0_charAt_5068e_12 ⟨(Nat.le_of_ble_eq_true rfl), (Nat.le_of_ble_eq_true rfl)⟩) (fun r u H locs hw Y => ?_)
  subst hw
  have Y : Wd D τ s A s.heap (bl []) _ _ := Y
  exact eY B hr hlk Y (nar_chr (by omega) (by omega)) () rfl [] (by decide) rfl (Nat.le_of_ble_eq_true rfl) (Nat.le_of_ble_eq_true rfl) dJ0_charAt_5068e_15

set_option maxHeartbeats 4000000 in
set_option maxRecDepth 100000 in
theorem k_wordOf0 (l : Launch) (D : va_G) (τ : Nat → ClassId) (sz : Nat) (K : Nat → Nat) : Met l yX6_wordOf (Cond.code yX6_wordOf cX6_wordOf 1 (some (.object "java/lang/String")) :: wALL) { frames := 0, cells := 0, slots := 0, locals := 0 } (PwE (Ke K) D τ (bl []) sz [.int (iI (0))]) (va_Qq (fun (r : Option Nat) (_ : Unit) => r = some (K (2 * 0))) (Bb D (va_A (bl []) sz) (fun (_ : Unit) => [])) (va_A (bl []) sz)) 0 0 (va_A (bl []) sz) := by
  refine bodyE (by decide +kernel) (Nat.le_of_ble_eq_true rfl) (fun p e s m below meth c ls B hr hlk hin hsz Y hE hl => ?_)
  have hl : lv_has ls 1 [(0, .int (iI (0)))] := hl
  have B : CallFix p m c cX6_wordOf 1 s _ wALL RX6 := B
  generalize va_A (bl []) sz = A at Y hE ⊢
  refine lv_iload_n B.1 B.2.1 dX6_wordOf_0 rfl (lv_at hl 0 rfl) ?_
  refine lv_tableIn (off := 51) (tgt := 52) B.1 B.2.1 dX6_wordOf_1 (by decide) (by decide) rfl (by decide) ?_
  refine va_ldcS (tx := "link") B.1 B.2.1 B.2.2.2.1 (hE.lit 0 (by decide)) dX6_wordOf_52 ?_
  exact eQ (r := some (K (2 * 0))) B hr hlk Y () rfl [] (by decide) rfl (Nat.le_of_ble_eq_true rfl) (Nat.le_of_ble_eq_true rfl) dX6_wordOf_54

set_option maxHeartbeats 4000000 in
set_option maxRecDepth 100000 in
theorem k_wordOf1 (l : Launch) (D : va_G) (τ : Nat → ClassId) (sz : Nat) (K : Nat → Nat) : Met l yX6_wordOf (Cond.code yX6_wordOf cX6_wordOf 1 (some (.object "java/lang/String")) :: wALL) { frames := 0, cells := 0, slots := 0, locals := 0 } (PwE (Ke K) D τ (bl []) sz [.int (iI (1))]) (va_Qq (fun (r : Option Nat) (_ : Unit) => r = some (K (2 * 1))) (Bb D (va_A (bl []) sz) (fun (_ : Unit) => [])) (va_A (bl []) sz)) 0 0 (va_A (bl []) sz) := by
  refine bodyE (by decide +kernel) (Nat.le_of_ble_eq_true rfl) (fun p e s m below meth c ls B hr hlk hin hsz Y hE hl => ?_)
  have hl : lv_has ls 1 [(0, .int (iI (1)))] := hl
  have B : CallFix p m c cX6_wordOf 1 s _ wALL RX6 := B
  generalize va_A (bl []) sz = A at Y hE ⊢
  refine lv_iload_n B.1 B.2.1 dX6_wordOf_0 rfl (lv_at hl 0 rfl) ?_
  refine lv_tableIn (off := 54) (tgt := 55) B.1 B.2.1 dX6_wordOf_1 (by decide) (by decide) rfl (by decide) ?_
  refine va_ldcS (tx := "life") B.1 B.2.1 B.2.2.2.1 (hE.lit 1 (by decide)) dX6_wordOf_55 ?_
  exact eQ (r := some (K (2 * 1))) B hr hlk Y () rfl [] (by decide) rfl (Nat.le_of_ble_eq_true rfl) (Nat.le_of_ble_eq_true rfl) dX6_wordOf_57

set_option maxHeartbeats 4000000 in
set_option maxRecDepth 100000 in
theorem k_wordOf2 (l : Launch) (D : va_G) (τ : Nat → ClassId) (sz : Nat) (K : Nat → Nat) : Met l yX6_wordOf (Cond.code yX6_wordOf cX6_wordOf 1 (some (.object "java/lang/String")) :: wALL) { frames := 0, cells := 0, slots := 0, locals := 0 } (PwE (Ke K) D τ (bl []) sz [.int (iI (2))]) (va_Qq (fun (r : Option Nat) (_ : Unit) => r = some (K (2 * 2))) (Bb D (va_A (bl []) sz) (fun (_ : Unit) => [])) (va_A (bl []) sz)) 0 0 (va_A (bl []) sz) := by
  refine bodyE (by decide +kernel) (Nat.le_of_ble_eq_true rfl) (fun p e s m below meth c ls B hr hlk hin hsz Y hE hl => ?_)
  have hl : lv_has ls 1 [(0, .int (iI (2)))] := hl
  have B : CallFix p m c cX6_wordOf 1 s _ wALL RX6 := B
  generalize va_A (bl []) sz = A at Y hE ⊢
  refine lv_iload_n B.1 B.2.1 dX6_wordOf_0 rfl (lv_at hl 0 rfl) ?_
  refine lv_tableIn (off := 57) (tgt := 58) B.1 B.2.1 dX6_wordOf_1 (by decide) (by decide) rfl (by decide) ?_
  refine va_ldcS (tx := "policy") B.1 B.2.1 B.2.2.2.1 (hE.lit 2 (by decide)) dX6_wordOf_58 ?_
  exact eQ (r := some (K (2 * 2))) B hr hlk Y () rfl [] (by decide) rfl (Nat.le_of_ble_eq_true rfl) (Nat.le_of_ble_eq_true rfl) dX6_wordOf_60

set_option maxHeartbeats 4000000 in
set_option maxRecDepth 100000 in
theorem k_wordOf3 (l : Launch) (D : va_G) (τ : Nat → ClassId) (sz : Nat) (K : Nat → Nat) : Met l yX6_wordOf (Cond.code yX6_wordOf cX6_wordOf 1 (some (.object "java/lang/String")) :: wALL) { frames := 0, cells := 0, slots := 0, locals := 0 } (PwE (Ke K) D τ (bl []) sz [.int (iI (3))]) (va_Qq (fun (r : Option Nat) (_ : Unit) => r = some (K (2 * 3))) (Bb D (va_A (bl []) sz) (fun (_ : Unit) => [])) (va_A (bl []) sz)) 0 0 (va_A (bl []) sz) := by
  refine bodyE (by decide +kernel) (Nat.le_of_ble_eq_true rfl) (fun p e s m below meth c ls B hr hlk hin hsz Y hE hl => ?_)
  have hl : lv_has ls 1 [(0, .int (iI (3)))] := hl
  have B : CallFix p m c cX6_wordOf 1 s _ wALL RX6 := B
  generalize va_A (bl []) sz = A at Y hE ⊢
  refine lv_iload_n B.1 B.2.1 dX6_wordOf_0 rfl (lv_at hl 0 rfl) ?_
  refine lv_tableIn (off := 60) (tgt := 61) B.1 B.2.1 dX6_wordOf_1 (by decide) (by decide) rfl (by decide) ?_
  refine va_ldcS (tx := "send") B.1 B.2.1 B.2.2.2.1 (hE.lit 3 (by decide)) dX6_wordOf_61 ?_
  exact eQ (r := some (K (2 * 3))) B hr hlk Y () rfl [] (by decide) rfl (Nat.le_of_ble_eq_true rfl) (Nat.le_of_ble_eq_true rfl) dX6_wordOf_63

set_option maxHeartbeats 4000000 in
set_option maxRecDepth 100000 in
theorem k_wordOf4 (l : Launch) (D : va_G) (τ : Nat → ClassId) (sz : Nat) (K : Nat → Nat) : Met l yX6_wordOf (Cond.code yX6_wordOf cX6_wordOf 1 (some (.object "java/lang/String")) :: wALL) { frames := 0, cells := 0, slots := 0, locals := 0 } (PwE (Ke K) D τ (bl []) sz [.int (iI (4))]) (va_Qq (fun (r : Option Nat) (_ : Unit) => r = some (K (2 * 4))) (Bb D (va_A (bl []) sz) (fun (_ : Unit) => [])) (va_A (bl []) sz)) 0 0 (va_A (bl []) sz) := by
  refine bodyE (by decide +kernel) (Nat.le_of_ble_eq_true rfl) (fun p e s m below meth c ls B hr hlk hin hsz Y hE hl => ?_)
  have hl : lv_has ls 1 [(0, .int (iI (4)))] := hl
  have B : CallFix p m c cX6_wordOf 1 s _ wALL RX6 := B
  generalize va_A (bl []) sz = A at Y hE ⊢
  refine lv_iload_n B.1 B.2.1 dX6_wordOf_0 rfl (lv_at hl 0 rfl) ?_
  refine lv_tableIn (off := 63) (tgt := 64) B.1 B.2.1 dX6_wordOf_1 (by decide) (by decide) rfl (by decide) ?_
  refine va_ldcS (tx := "again") B.1 B.2.1 B.2.2.2.1 (hE.lit 4 (by decide)) dX6_wordOf_64 ?_
  exact eQ (r := some (K (2 * 4))) B hr hlk Y () rfl [] (by decide) rfl (Nat.le_of_ble_eq_true rfl) (Nat.le_of_ble_eq_true rfl) dX6_wordOf_66

set_option maxHeartbeats 4000000 in
set_option maxRecDepth 100000 in
theorem k_wordOf5 (l : Launch) (D : va_G) (τ : Nat → ClassId) (sz : Nat) (K : Nat → Nat) : Met l yX6_wordOf (Cond.code yX6_wordOf cX6_wordOf 1 (some (.object "java/lang/String")) :: wALL) { frames := 0, cells := 0, slots := 0, locals := 0 } (PwE (Ke K) D τ (bl []) sz [.int (iI (5))]) (va_Qq (fun (r : Option Nat) (_ : Unit) => r = some (K (2 * 5))) (Bb D (va_A (bl []) sz) (fun (_ : Unit) => [])) (va_A (bl []) sz)) 0 0 (va_A (bl []) sz) := by
  refine bodyE (by decide +kernel) (Nat.le_of_ble_eq_true rfl) (fun p e s m below meth c ls B hr hlk hin hsz Y hE hl => ?_)
  have hl : lv_has ls 1 [(0, .int (iI (5)))] := hl
  have B : CallFix p m c cX6_wordOf 1 s _ wALL RX6 := B
  generalize va_A (bl []) sz = A at Y hE ⊢
  refine lv_iload_n B.1 B.2.1 dX6_wordOf_0 rfl (lv_at hl 0 rfl) ?_
  refine lv_tableIn (off := 66) (tgt := 67) B.1 B.2.1 dX6_wordOf_1 (by decide) (by decide) rfl (by decide) ?_
  refine va_ldcS (tx := "probe") B.1 B.2.1 B.2.2.2.1 (hE.lit 5 (by decide)) dX6_wordOf_67 ?_
  exact eQ (r := some (K (2 * 5))) B hr hlk Y () rfl [] (by decide) rfl (Nat.le_of_ble_eq_true rfl) (Nat.le_of_ble_eq_true rfl) dX6_wordOf_69

set_option maxHeartbeats 4000000 in
set_option maxRecDepth 100000 in
theorem k_wordOf6 (l : Launch) (D : va_G) (τ : Nat → ClassId) (sz : Nat) (K : Nat → Nat) : Met l yX6_wordOf (Cond.code yX6_wordOf cX6_wordOf 1 (some (.object "java/lang/String")) :: wALL) { frames := 0, cells := 0, slots := 0, locals := 0 } (PwE (Ke K) D τ (bl []) sz [.int (iI (6))]) (va_Qq (fun (r : Option Nat) (_ : Unit) => r = some (K (2 * 6))) (Bb D (va_A (bl []) sz) (fun (_ : Unit) => [])) (va_A (bl []) sz)) 0 0 (va_A (bl []) sz) := by
  refine bodyE (by decide +kernel) (Nat.le_of_ble_eq_true rfl) (fun p e s m below meth c ls B hr hlk hin hsz Y hE hl => ?_)
  have hl : lv_has ls 1 [(0, .int (iI (6)))] := hl
  have B : CallFix p m c cX6_wordOf 1 s _ wALL RX6 := B
  generalize va_A (bl []) sz = A at Y hE ⊢
  refine lv_iload_n B.1 B.2.1 dX6_wordOf_0 rfl (lv_at hl 0 rfl) ?_
  refine lv_tableIn (off := 69) (tgt := 70) B.1 B.2.1 dX6_wordOf_1 (by decide) (by decide) rfl (by decide) ?_
  refine va_ldcS (tx := "forge") B.1 B.2.1 B.2.2.2.1 (hE.lit 6 (by decide)) dX6_wordOf_70 ?_
  exact eQ (r := some (K (2 * 6))) B hr hlk Y () rfl [] (by decide) rfl (Nat.le_of_ble_eq_true rfl) (Nat.le_of_ble_eq_true rfl) dX6_wordOf_72

set_option maxHeartbeats 4000000 in
set_option maxRecDepth 100000 in
theorem k_wordOf7 (l : Launch) (D : va_G) (τ : Nat → ClassId) (sz : Nat) (K : Nat → Nat) : Met l yX6_wordOf (Cond.code yX6_wordOf cX6_wordOf 1 (some (.object "java/lang/String")) :: wALL) { frames := 0, cells := 0, slots := 0, locals := 0 } (PwE (Ke K) D τ (bl []) sz [.int (iI (7))]) (va_Qq (fun (r : Option Nat) (_ : Unit) => r = some (K (2 * 7))) (Bb D (va_A (bl []) sz) (fun (_ : Unit) => [])) (va_A (bl []) sz)) 0 0 (va_A (bl []) sz) := by
  refine bodyE (by decide +kernel) (Nat.le_of_ble_eq_true rfl) (fun p e s m below meth c ls B hr hlk hin hsz Y hE hl => ?_)
  have hl : lv_has ls 1 [(0, .int (iI (7)))] := hl
  have B : CallFix p m c cX6_wordOf 1 s _ wALL RX6 := B
  generalize va_A (bl []) sz = A at Y hE ⊢
  refine lv_iload_n B.1 B.2.1 dX6_wordOf_0 rfl (lv_at hl 0 rfl) ?_
  refine lv_tableIn (off := 72) (tgt := 73) B.1 B.2.1 dX6_wordOf_1 (by decide) (by decide) rfl (by decide) ?_
  refine va_ldcS (tx := "size") B.1 B.2.1 B.2.2.2.1 (hE.lit 7 (by decide)) dX6_wordOf_73 ?_
  exact eQ (r := some (K (2 * 7))) B hr hlk Y () rfl [] (by decide) rfl (Nat.le_of_ble_eq_true rfl) (Nat.le_of_ble_eq_true rfl) dX6_wordOf_75

set_option maxHeartbeats 4000000 in
set_option maxRecDepth 100000 in
theorem k_wordOf8 (l : Launch) (D : va_G) (τ : Nat → ClassId) (sz : Nat) (K : Nat → Nat) : Met l yX6_wordOf (Cond.code yX6_wordOf cX6_wordOf 1 (some (.object "java/lang/String")) :: wALL) { frames := 0, cells := 0, slots := 0, locals := 0 } (PwE (Ke K) D τ (bl []) sz [.int (iI (8))]) (va_Qq (fun (r : Option Nat) (_ : Unit) => r = some (K (2 * 8))) (Bb D (va_A (bl []) sz) (fun (_ : Unit) => [])) (va_A (bl []) sz)) 0 0 (va_A (bl []) sz) := by
  refine bodyE (by decide +kernel) (Nat.le_of_ble_eq_true rfl) (fun p e s m below meth c ls B hr hlk hin hsz Y hE hl => ?_)
  have hl : lv_has ls 1 [(0, .int (iI (8)))] := hl
  have B : CallFix p m c cX6_wordOf 1 s _ wALL RX6 := B
  generalize va_A (bl []) sz = A at Y hE ⊢
  refine lv_iload_n B.1 B.2.1 dX6_wordOf_0 rfl (lv_at hl 0 rfl) ?_
  refine lv_tableIn (off := 75) (tgt := 76) B.1 B.2.1 dX6_wordOf_1 (by decide) (by decide) rfl (by decide) ?_
  refine va_ldcS (tx := "every") B.1 B.2.1 B.2.2.2.1 (hE.lit 8 (by decide)) dX6_wordOf_76 ?_
  exact eQ (r := some (K (2 * 8))) B hr hlk Y () rfl [] (by decide) rfl (Nat.le_of_ble_eq_true rfl) (Nat.le_of_ble_eq_true rfl) dX6_wordOf_78

set_option maxHeartbeats 4000000 in
set_option maxRecDepth 100000 in
theorem k_wordOf9 (l : Launch) (D : va_G) (τ : Nat → ClassId) (sz : Nat) (K : Nat → Nat) : Met l yX6_wordOf (Cond.code yX6_wordOf cX6_wordOf 1 (some (.object "java/lang/String")) :: wALL) { frames := 0, cells := 0, slots := 0, locals := 0 } (PwE (Ke K) D τ (bl []) sz [.int (iI (9))]) (va_Qq (fun (r : Option Nat) (_ : Unit) => r = some (K (2 * 9))) (Bb D (va_A (bl []) sz) (fun (_ : Unit) => [])) (va_A (bl []) sz)) 0 0 (va_A (bl []) sz) := by
  refine bodyE (by decide +kernel) (Nat.le_of_ble_eq_true rfl) (fun p e s m below meth c ls B hr hlk hin hsz Y hE hl => ?_)
  have hl : lv_has ls 1 [(0, .int (iI (9)))] := hl
  have B : CallFix p m c cX6_wordOf 1 s _ wALL RX6 := B
  generalize va_A (bl []) sz = A at Y hE ⊢
  refine lv_iload_n B.1 B.2.1 dX6_wordOf_0 rfl (lv_at hl 0 rfl) ?_
  refine lv_tableOut (tgt := 79) B.1 B.2.1 dX6_wordOf_1 (by decide) (by decide) ?_
  refine va_ldcS (tx := "pass") B.1 B.2.1 B.2.2.2.1 (hE.lit 9 (by decide)) dX6_wordOf_79 ?_
  exact eQ (r := some (K (2 * 9))) B hr hlk Y () rfl [] (by decide) rfl (Nat.le_of_ble_eq_true rfl) (Nat.le_of_ble_eq_true rfl) dX6_wordOf_81

set_option maxHeartbeats 4000000 in
set_option maxRecDepth 100000 in
theorem k_isWord (l : Launch) (D : va_G) (τ : Nat → ClassId) (sz : Nat) (K : Nat → Nat) (rd ri rk rn ro rt L : Nat) (io er ea cn : Int) (b : Nat → Int) (hL : L ≤ 500) (hb : BOk b) (fr : Nat) (X : List Int) (hX : ats b fr X) (hfL : fr + X.length ≤ L) (i : Nat) (hi : i < 20) : Met l yX6_isWord (Cond.code yX6_isWord cX6_isWord 5 (some .boolean) :: wALL) { frames := 4, cells := 0, slots := 0, locals := 85 } (PwE (Ke K) D τ (bl [[(rd, .inr (8, [.ref ri, .int (iI (((L : Nat) : Int))), .int (iI ((((fr + X.length) : Nat) : Int))), .int (iI (io)), .int (iI (er)), .int (iI (ea)), .int (iI (cn)), .ref rk, .ref rn, .ref ro, .ref rt]))], [(ri, .inl (τ 1, 500, .inl (fun j => iI ((b) j))))]]) sz [.ref rd, .int (iI ((fr : Nat) : Int)), .ref (K (2 * i))]) (va_Qi (fun (r : Int32) (_ : Unit) => r = iI (if X = ksZ i then 1 else 0)) (Bb D (va_A (bl [[(rd, .inr (8, [.ref ri, .int (iI (((L : Nat) : Int))), .int (iI ((((fr + X.length) : Nat) : Int))), .int (iI (io)), .int (iI (er)), .int (iI (ea)), .int (iI (cn)), .ref rk, .ref rn, .ref ro, .ref rt]))], [(ri, .inl (τ 1, 500, .inl (fun j => iI ((b) j))))]]) sz) (fun (_ : Unit) => [[(rd, .inr (8, [.ref ri, .int (iI (((L : Nat) : Int))), .int (iI ((((fr + X.length) : Nat) : Int))), .int (iI (io)), .int (iI (er)), .int (iI (ea)), .int (iI (cn)), .ref rk, .ref rn, .ref ro, .ref rt]))], [(ri, .inl (τ 1, 500, .inl (fun j => iI ((b) j))))]])) (va_A (bl [[(rd, .inr (8, [.ref ri, .int (iI (((L : Nat) : Int))), .int (iI ((((fr + X.length) : Nat) : Int))), .int (iI (io)), .int (iI (er)), .int (iI (ea)), .int (iI (cn)), .ref rk, .ref rn, .ref ro, .ref rt]))], [(ri, .inl (τ 1, 500, .inl (fun j => iI ((b) j))))]]) sz)) 0 0 (va_A (bl [[(rd, .inr (8, [.ref ri, .int (iI (((L : Nat) : Int))), .int (iI ((((fr + X.length) : Nat) : Int))), .int (iI (io)), .int (iI (er)), .int (iI (ea)), .int (iI (cn)), .ref rk, .ref rn, .ref ro, .ref rt]))], [(ri, .inl (τ 1, 500, .inl (fun j => iI ((b) j))))]]) sz) := by
  refine bodyE (by decide +kernel) (Nat.le_of_ble_eq_true rfl) (fun p e s m below meth c ls B hr hlk hin hsz Y hE hl => ?_)
  have hl : lv_has ls 5 [(0, .ref rd), (1, .int (iI ((fr : Nat) : Int))), (2, .ref (K (2 * i)))] := hl
  have B : CallFix p m c cX6_isWord 5 s _ wALL RX6 := B
  generalize va_A (bl [[(rd, .inr (8, [.ref ri, .int (iI (((L : Nat) : Int))), .int (iI ((((fr + X.length) : Nat) : Int))), .int (iI (io)), .int (iI (er)), .int (iI (ea)), .int (iI (cn)), .ref rk, .ref rn, .ref ro, .ref rt]))], [(ri, .inl (τ 1, 500, .inl (fun j => iI ((b) j))))]]) sz = A at Y hE ⊢
  have hln := ksZ_le i
  refine lv_aload_n B.1 B.2.1 dX6_isWord_0 rfl (lv_at hl 0 rfl) ?_
  refine gf_X6_19 B Y 0 rfl rfl dX6_isWord_1 ?_
  refine lv_iload_n B.1 B.2.1 dX6_isWord_4 rfl (lv_at hl 1 rfl) ?_
  refine lv_isub B.1 B.2.1 dX6_isWord_5 ?_
  refine lv_cv (v := (iI ((X.length : Nat) : Int))) (by rw [iI_sub]; congr 1; omega) ?_
  refine lv_aload_n B.1 B.2.1 dX6_isWord_6 rfl (lv_at hl 2 rfl) ?_
  refine qI (Cs := []) (Rs := [[(rd, .inr (8, [.ref ri, .int (iI (((L : Nat) : Int))), .int (iI ((((fr + X.length) : Nat) : Int))), .int (iI (io)), .int (iI (er)), .int (iI (ea)), .int (iI (cn)), .ref rk, .ref rn, .ref ro, .ref rt]))], [(ri, .inl (τ 1, 500, .inl (fun j => iI ((b) j))))]]) Y [] [0, 1] (by decide) rfl (cVK (As := []) (rest := [.int (iI ((X.length : Nat) : Int))]) (vk_recv (hE.str i hi) (i := 0) (by decide) Y.2.2.2.1) (Ke.ok K) hE B Y [] (by decide) rfl (k_lenK l D τ _ K i hi) q_819 q_701 q_702 q_15 q_703 rfl rfl hd_J0_length_8abf5 ⟨(Nat.le_of_ble_eq_true rfl), (Nat.le_of_ble_eq_true rfl)⟩ rfl hl.1 rfl (Nat.le_of_ble_eq_true rfl) dX6_isWord_7 ⟨(Nat.le_of_ble_eq_true rfl), (Nat.le_of_ble_eq_true rfl)⟩) (fun r u H locs hw Y => ?_)
  subst hw
  have Y : Wd D τ s A s.heap (bl [[(rd, .inr (8, [.ref ri, .int (iI (((L : Nat) : Int))), .int (iI ((((fr + X.length) : Nat) : Int))), .int (iI (io)), .int (iI (er)), .int (iI (ea)), .int (iI (cn)), .ref rk, .ref rn, .ref ro, .ref rt]))], [(ri, .inl (τ 1, 500, .inl (fun j => iI ((b) j))))]]) _ _ := Y
  refine lv_icmp_eq (tgt := 15) B.1 B.2.1 dX6_isWord_10 (by decide) (fun c1 => ?_) (fun c1 => ?_)
  · have c1 := (iI_eq (a := ((X.length : Nat) : Int)) (b := (((ksZ i).length : Nat) : Int)) (by omega) (by omega) (by omega) (by omega)).mp c1
    refine lv_iconst (v := (iI (0))) B.1 B.2.1 dX6_isWord_15 (by decide) ?_
    refine lv_istore_n (lv' := [(3, .int (iI (0))), (0, .ref rd), (1, .int (iI ((fr : Nat) : Int))), (2, .ref (K (2 * i)))]) B.1 B.2.1 dX6_isWord_16 rfl hl (by decide) rfl (fun ls hl => ?_)
    have hl : lv_has ls 5 [(0, .ref rd), (1, .int (iI ((fr : Nat) : Int))), (2, .ref (K (2 * i))), (3, .int (iI ((0 : Nat) : Int)))] := lv_sub hl [1, 2, 3, 0] rfl
    refine loopW (n := (ksZ i).length) (P := fun (j : Nat) (H : Heap) (locs : List Loc) (ls : Array Slot) => (∀ t : Nat, t < j → X.getD t 0 = (ksZ i).getD t 0) ∧ lv_has ls 5 [(0, .ref rd), (1, .int (iI ((fr : Nat) : Int))), (2, .ref (K (2 * i))), (3, .int (iI ((j : Nat) : Int)))] ∧ Wd D τ s A s.heap (bl [[(rd, .inr (8, [.ref ri, .int (iI (((L : Nat) : Int))), .int (iI ((((fr + X.length) : Nat) : Int))), .int (iI (io)), .int (iI (er)), .int (iI (ea)), .int (iI (cn)), .ref rk, .ref rn, .ref ro, .ref rt]))], [(ri, .inl (τ 1, 500, .inl (fun j => iI ((b) j))))]]) H locs) 0 (Nat.zero_le _) ⟨(fun t ht => absurd ht (Nat.not_lt_zero t)), lv_sub hl [0, 1, 2, 3] rfl, Y.pick [0, 1] (by decide) rfl⟩ (fun H locs ls hP => ?_) (fun j hlt_j H locs ls hP ih_j => ?_)
    · obtain ⟨hall, hl, Y⟩ := hP
      refine lv_iload_n B.1 B.2.1 dX6_isWord_17 rfl (lv_at hl 3 rfl) ?_
      refine lv_aload_n B.1 B.2.1 dX6_isWord_18 rfl (lv_at hl 2 rfl) ?_
      refine qI (Cs := []) (Rs := [[(rd, .inr (8, [.ref ri, .int (iI (((L : Nat) : Int))), .int (iI ((((fr + X.length) : Nat) : Int))), .int (iI (io)), .int (iI (er)), .int (iI (ea)), .int (iI (cn)), .ref rk, .ref rn, .ref ro, .ref rt]))], [(ri, .inl (τ 1, 500, .inl (fun j => iI ((b) j))))]]) Y [] [0, 1] (by decide) rfl (cVK (As := []) (rest := [.int (iI (((ksZ i).length : Nat) : Int))]) (vk_recv (hE.str i hi) (i := 0) (by decide) Y.2.2.2.1) (Ke.ok K) hE B Y [] (by decide) rfl (k_lenK l D τ _ K i hi) q_819 q_701 q_702 q_15 q_703 rfl rfl hd_J0_length_8abf5 ⟨(Nat.le_of_ble_eq_true rfl), (Nat.le_of_ble_eq_true rfl)⟩ rfl hl.1 rfl (Nat.le_of_ble_eq_true rfl) dX6_isWord_19 ⟨(Nat.le_of_ble_eq_true rfl), (Nat.le_of_ble_eq_true rfl)⟩) (fun r u H locs hw Y => ?_)
      subst hw
      have Y : Wd D τ s A s.heap (bl [[(rd, .inr (8, [.ref ri, .int (iI (((L : Nat) : Int))), .int (iI ((((fr + X.length) : Nat) : Int))), .int (iI (io)), .int (iI (er)), .int (iI (ea)), .int (iI (cn)), .ref rk, .ref rn, .ref ro, .ref rt]))], [(ri, .inl (τ 1, 500, .inl (fun j => iI ((b) j))))]]) _ _ := Y
      refine lv_icmp_ge (tgt := 66) B.1 B.2.1 dX6_isWord_22 (by decide) (fun _ => ?_) (fun h => absurd ((iI_le (a := (((ksZ i).length : Nat) : Int)) (b := (((ksZ i).length : Nat) : Int)) (by omega) (by omega) (by omega) (by omega)).mpr (by omega)) h) 
      refine lv_iconst (v := (iI (1))) B.1 B.2.1 dX6_isWord_66 (by decide) ?_
      exact eZ B hr hlk Y (by decide) () (by rw [if_pos (eq_of_getD (by omega) hall)]) [0, 1] (by decide) rfl (Nat.le_of_ble_eq_true rfl) (Nat.le_of_ble_eq_true rfl) dX6_isWord_67
    · obtain ⟨hall, hl, Y⟩ := hP
      have hzz := ksZ_in i j
      have hbx := hX j (by omega)
      have hbb := hb (fr + j)
      refine lv_iload_n B.1 B.2.1 dX6_isWord_17 rfl (lv_at hl 3 rfl) ?_
      refine lv_aload_n B.1 B.2.1 dX6_isWord_18 rfl (lv_at hl 2 rfl) ?_
      refine qI (Cs := []) (Rs := [[(rd, .inr (8, [.ref ri, .int (iI (((L : Nat) : Int))), .int (iI ((((fr + X.length) : Nat) : Int))), .int (iI (io)), .int (iI (er)), .int (iI (ea)), .int (iI (cn)), .ref rk, .ref rn, .ref ro, .ref rt]))], [(ri, .inl (τ 1, 500, .inl (fun j => iI ((b) j))))]]) Y [] [0, 1] (by decide) rfl (cVK (As := []) (rest := [.int (iI ((j : Nat) : Int))]) (vk_recv (hE.str i hi) (i := 0) (by decide) Y.2.2.2.1) (Ke.ok K) hE B Y [] (by decide) rfl (k_lenK l D τ _ K i hi) q_819 q_701 q_702 q_15 q_703 rfl rfl hd_J0_length_8abf5 ⟨(Nat.le_of_ble_eq_true rfl), (Nat.le_of_ble_eq_true rfl)⟩ rfl hl.1 rfl (Nat.le_of_ble_eq_true rfl) dX6_isWord_19 ⟨(Nat.le_of_ble_eq_true rfl), (Nat.le_of_ble_eq_true rfl)⟩) (fun r u H locs hw Y => ?_)
      subst hw
      have Y : Wd D τ s A s.heap (bl [[(rd, .inr (8, [.ref ri, .int (iI (((L : Nat) : Int))), .int (iI ((((fr + X.length) : Nat) : Int))), .int (iI (io)), .int (iI (er)), .int (iI (ea)), .int (iI (cn)), .ref rk, .ref rn, .ref ro, .ref rt]))], [(ri, .inl (τ 1, 500, .inl (fun j => iI ((b) j))))]]) _ _ := Y
      refine lv_icmp_ge (tgt := 66) B.1 B.2.1 dX6_isWord_22 (by decide) (fun h => absurd h (mt (iI_le (a := (((ksZ i).length : Nat) : Int)) (b := ((j : Nat) : Int)) (by omega) (by omega) (by omega) (by omega)).mp (by omega))) (fun _ => ?_)
      refine lv_iload_n B.1 B.2.1 dX6_isWord_25 rfl (lv_at hl 1 rfl) ?_
      refine lv_iload_n B.1 B.2.1 dX6_isWord_26 rfl (lv_at hl 3 rfl) ?_
      refine lv_iadd B.1 B.2.1 dX6_isWord_27 ?_
      refine lv_cv (v := (iI (((fr + j) : Nat) : Int))) (iI_add _ _) ?_
      refine lv_istore (lv' := [(4, .int (iI (((fr + j) : Nat) : Int))), (0, .ref rd), (1, .int (iI ((fr : Nat) : Int))), (2, .ref (K (2 * i))), (3, .int (iI ((j : Nat) : Int)))]) B.1 B.2.1 dX6_isWord_28 hl (by decide) rfl (fun ls hl => ?_)
      refine lv_iload B.1 B.2.1 dX6_isWord_30 (lv_at hl 0 rfl) ?_
      refine lv_if_lt (tgt := 58) B.1 B.2.1 dX6_isWord_32 (by decide) (fun h => absurd h (mt (iI_lt0 (a := (((fr + j) : Nat) : Int)) (by omega) (by omega)).mp (by omega))) (fun _ => ?_)
      refine lv_iload B.1 B.2.1 dX6_isWord_35 (lv_at hl 0 rfl) ?_
      refine lv_sipush (v := (iI (500))) B.1 B.2.1 dX6_isWord_37 (by decide) ?_
      refine lv_icmp_ge (tgt := 58) B.1 B.2.1 dX6_isWord_40 (by decide) (fun h => absurd h (mt (iI_le (a := 500) (b := (((fr + j) : Nat) : Int)) (by omega) (by omega) (by omega) (by omega)).mp (by omega))) (fun _ => ?_)
      refine lv_aload_n B.1 B.2.1 dX6_isWord_43 rfl (lv_at hl 1 rfl) ?_
      refine gf_X6_11 B Y 0 rfl rfl dX6_isWord_44 ?_
      refine lv_iload B.1 B.2.1 dX6_isWord_47 (lv_at hl 0 rfl) ?_
      refine b_bald (j := (fr + j)) (v := (iI ((b) (fr + j)))) B Y 1 rfl (iI_pos (by omega)) (iI_clamp (by omega)) (by omega) rfl dX6_isWord_49 ?_
      refine lv_aload_n B.1 B.2.1 dX6_isWord_50 rfl (lv_at hl 3 rfl) ?_
      refine lv_iload_n B.1 B.2.1 dX6_isWord_51 rfl (lv_at hl 4 rfl) ?_
      refine qI (Cs := []) (Rs := [[(rd, .inr (8, [.ref ri, .int (iI (((L : Nat) : Int))), .int (iI ((((fr + X.length) : Nat) : Int))), .int (iI (io)), .int (iI (er)), .int (iI (ea)), .int (iI (cn)), .ref rk, .ref rn, .ref ro, .ref rt]))], [(ri, .inl (τ 1, 500, .inl (fun j => iI ((b) j))))]]) Y [] [0, 1] (by decide) rfl (cVK (As := [.int (iI ((j : Nat) : Int))]) (rest := [.int (iI ((b) (fr + j)))]) (vk_recv (hE.str i hi) (i := 0) (by decide) Y.2.2.2.1) (Ke.ok K) hE B Y [] (by decide) rfl (k_chrK l D τ _ K i hi j (by omega)) q_820 q_711 q_712 q_15 q_713 rfl rfl hd_J0_charAt_5068e ⟨(Nat.le_of_ble_eq_true rfl), (Nat.le_of_ble_eq_true rfl)⟩ rfl hl.1 rfl (Nat.le_of_ble_eq_true rfl) dX6_isWord_52 ⟨(Nat.le_of_ble_eq_true rfl), (Nat.le_of_ble_eq_true rfl)⟩) (fun r u H locs hw Y => ?_)
      subst hw
      have Y : Wd D τ s A s.heap (bl [[(rd, .inr (8, [.ref ri, .int (iI (((L : Nat) : Int))), .int (iI ((((fr + X.length) : Nat) : Int))), .int (iI (io)), .int (iI (er)), .int (iI (ea)), .int (iI (cn)), .ref rk, .ref rn, .ref ro, .ref rt]))], [(ri, .inl (τ 1, 500, .inl (fun j => iI ((b) j))))]]) _ _ := Y
      refine lv_icmp_eq (tgt := 60) B.1 B.2.1 dX6_isWord_55 (by decide) (fun c2 => ?_) (fun c2 => ?_)
      · have c2 := (iI_eq (a := (b) (fr + j)) (b := (ksZ i).getD j 0) (by omega) (by omega) (by omega) (by omega)).mp c2
        refine lv_iinc (v := (iI (((j + 1) : Nat) : Int))) (lv' := [(3, .int (iI (((j + 1) : Nat) : Int))), (4, .int (iI (((fr + j) : Nat) : Int))), (0, .ref rd), (1, .int (iI ((fr : Nat) : Int))), (2, .ref (K (2 * i)))]) B.1 B.2.1 dX6_isWord_60 hl (k := 4) rfl (iI_inc _) (by decide) rfl (fun ls hl => ?_)
        refine lv_goto (tgt := 17) B.1 B.2.1 dX6_isWord_63 (by decide) ?_
        exact ih_j H locs ls ⟨(fun t ht => (by rcases (show t < j ∨ t = j by omega) with q | q; exact hall t q; subst q; omega)), lv_sub hl [2, 3, 4, 0] rfl, Y.pick [0, 1] (by decide) rfl⟩
      · have c2 := mt (iI_eq (a := (b) (fr + j)) (b := (ksZ i).getD j 0) (by omega) (by omega) (by omega) (by omega)).mpr c2
        refine lv_iconst (v := (iI (0))) B.1 B.2.1 dX6_isWord_58 (by decide) ?_
        exact eZ B hr hlk Y (by decide) () (by rw [if_neg (fun e => by rw [e] at hbx; omega)]) [0, 1] (by decide) rfl (Nat.le_of_ble_eq_true rfl) (Nat.le_of_ble_eq_true rfl) dX6_isWord_59
  · have c1 := mt (iI_eq (a := ((X.length : Nat) : Int)) (b := (((ksZ i).length : Nat) : Int)) (by omega) (by omega) (by omega) (by omega)).mpr c1
    refine lv_iconst (v := (iI (0))) B.1 B.2.1 dX6_isWord_13 (by decide) ?_
    exact eZ B hr hlk Y (by decide) () (by rw [if_neg (fun e => by rw [e] at c1; exact c1 rfl)]) [0, 1] (by decide) rfl (Nat.le_of_ble_eq_true rfl) (Nat.le_of_ble_eq_true rfl) dX6_isWord_14

set_option maxHeartbeats 4000000 in
set_option maxRecDepth 100000 in
theorem k_readKind0_0 (l : Launch) (D : va_G) (τ : Nat → ClassId) (sz : Nat) (K : Nat → Nat) (rd ri rk rn ro rt L : Nat) (er ea cn : Int) (b : Nat → Int) (hL : L ≤ 500) (hb : BOk b) (pt : Nat) (hX : ats b pt (ksZ 0 ++ [32])) (hpL : pt + 5 < L) (hdd : 48 ≤ b (pt + 5) ∧ b (pt + 5) ≤ 57) : Met l yX6_readKind (Cond.code yX6_readKind cX6_readKind 4 (some .int) :: wALL) { frames := 5, cells := 0, slots := 0, locals := 109 } (PwE (Ke K) D τ (bl [[(rd, .inr (8, [.ref ri, .int (iI (((L : Nat) : Int))), .int (iI (((pt : Nat) : Int))), .int (iI (0)), .int (iI (er)), .int (iI (ea)), .int (iI (cn)), .ref rk, .ref rn, .ref ro, .ref rt]))], [(ri, .inl (τ 1, 500, .inl (fun j => iI ((b) j))))]]) sz [.ref rd]) (va_Qi (fun (r : Int32) (_ : Unit) => r = iI 0) (Bb D (va_A (bl [[(rd, .inr (8, [.ref ri, .int (iI (((L : Nat) : Int))), .int (iI (((pt : Nat) : Int))), .int (iI (0)), .int (iI (er)), .int (iI (ea)), .int (iI (cn)), .ref rk, .ref rn, .ref ro, .ref rt]))], [(ri, .inl (τ 1, 500, .inl (fun j => iI ((b) j))))]]) sz) (fun (_ : Unit) => [[(rd, .inr (8, [.ref ri, .int (iI (((L : Nat) : Int))), .int (iI ((((pt + 5) : Nat) : Int))), .int (iI (0)), .int (iI (er)), .int (iI (ea)), .int (iI (cn)), .ref rk, .ref rn, .ref ro, .ref rt]))], [(ri, .inl (τ 1, 500, .inl (fun j => iI ((b) j))))]])) (va_A (bl [[(rd, .inr (8, [.ref ri, .int (iI (((L : Nat) : Int))), .int (iI (((pt : Nat) : Int))), .int (iI (0)), .int (iI (er)), .int (iI (ea)), .int (iI (cn)), .ref rk, .ref rn, .ref ro, .ref rt]))], [(ri, .inl (τ 1, 500, .inl (fun j => iI ((b) j))))]]) sz)) 0 0 (va_A (bl [[(rd, .inr (8, [.ref ri, .int (iI (((L : Nat) : Int))), .int (iI (((pt : Nat) : Int))), .int (iI (0)), .int (iI (er)), .int (iI (ea)), .int (iI (cn)), .ref rk, .ref rn, .ref ro, .ref rt]))], [(ri, .inl (τ 1, 500, .inl (fun j => iI ((b) j))))]]) sz) := by
  refine bodyE (by decide +kernel) (Nat.le_of_ble_eq_true rfl) (fun p e s m below meth c ls B hr hlk hin hsz Y hE hl => ?_)
  have hl : lv_has ls 4 [(0, .ref rd)] := hl
  have B : CallFix p m c cX6_readKind 4 s _ wALL RX6 := B
  generalize va_A (bl [[(rd, .inr (8, [.ref ri, .int (iI (((L : Nat) : Int))), .int (iI (((pt : Nat) : Int))), .int (iI (0)), .int (iI (er)), .int (iI (ea)), .int (iI (cn)), .ref rk, .ref rn, .ref ro, .ref rt]))], [(ri, .inl (τ 1, 500, .inl (fun j => iI ((b) j))))]]) sz = A at Y hE ⊢
  have hX1 := (ats_app.mp hX).1
  have hX2 : b (pt + 4) = 32 := (ats_app.mp hX).2 0 (by decide)
  have hkl : (ksZ 0).length = 4 := by decide
  have hLt : ∀ x ∈ ksZ 0, (97 : Int) ≤ x ∧ x ≤ 122 := by decide
  refine lv_aload_n B.1 B.2.1 dX6_readKind_0 rfl (lv_at hl 0 rfl) ?_
  refine gf_X6_19 B Y 0 rfl rfl dX6_readKind_1 ?_
  refine lv_istore_n (lv' := [(1, .int (iI (((pt : Nat) : Int)))), (0, .ref rd)]) B.1 B.2.1 dX6_readKind_4 rfl hl (by decide) rfl (fun ls hl => ?_)
  refine lv_aload_n B.1 B.2.1 dX6_readKind_5 rfl (lv_at hl 1 rfl) ?_
  refine qV (Cs := [[(rd, .inr (8, [.ref ri, .int (iI (((L : Nat) : Int))), .int (iI (((pt : Nat) : Int))), .int (iI (0)), .int (iI (er)), .int (iI (ea)), .int (iI (cn)), .ref rk, .ref rn, .ref ro, .ref rt]))], [(ri, .inl (τ 1, 500, .inl (fun j => iI ((b) j))))]]) (Rs := []) Y [0, 1] [] (by decide) rfl (cV (As := []) (rest := []) (q0 := 0) B Y [0, 1] (by decide) rfl (k_skipWord l D τ _ rd ri rk rn ro rt L (0) (er) (ea) (cn) b (by omega) hb pt (pt + 4) (by omega) (by omega) (fun j h1 h2 => ats_all hX1 hLt j h1 h2) (fun _ => Or.inl (by omega))) rfl rfl q_794 q_796 qp_9 q_3 q_797 rfl rfl hd_X6_skipWord ⟨(Nat.le_of_ble_eq_true rfl), (Nat.le_of_ble_eq_true rfl)⟩ rfl hl.1 rfl (Nat.le_of_ble_eq_true rfl) dX6_readKind_6 ⟨(Nat.le_of_ble_eq_true rfl), (Nat.le_of_ble_eq_true rfl)⟩) (fun u H locs hw Y => ?_)
  have Y : Wd D τ s A s.heap (bl [[(rd, .inr (8, [.ref ri, .int (iI (((L : Nat) : Int))), .int (iI (((pt + 4) : Nat) : Int)), .int (iI (0)), .int (iI (er)), .int (iI (ea)), .int (iI (cn)), .ref rk, .ref rn, .ref ro, .ref rt]))], [(ri, .inl (τ 1, 500, .inl (fun j => iI ((b) j))))]]) _ _ := Y
  refine lv_iconst (v := (iI (0))) B.1 B.2.1 dX6_readKind_9 (by decide) ?_
  refine lv_istore_n (lv' := [(2, .int (iI (0))), (1, .int (iI (((pt : Nat) : Int)))), (0, .ref rd)]) B.1 B.2.1 dX6_readKind_10 rfl hl (by decide) rfl (fun ls hl => ?_)
  refine lv_iload_n B.1 B.2.1 dX6_readKind_11 rfl (lv_at hl 0 rfl) ?_
  refine lv_bipush (v := (iI (10))) B.1 B.2.1 dX6_readKind_12 (by decide) ?_
  refine lv_icmp_ge (tgt := 76) B.1 B.2.1 dX6_readKind_14 (by decide) (fun h => absurd h (by decide)) (fun _ => ?_)
  refine lv_aload_n B.1 B.2.1 dX6_readKind_17 rfl (lv_at hl 2 rfl) ?_
  refine gf_X6_22 B Y 0 rfl rfl dX6_readKind_18 ?_
  refine lv_if_eq (tgt := 37) B.1 B.2.1 dX6_readKind_21 (by decide) (fun _ => ?_) (fun h => absurd (by decide) h) 
  refine lv_iload_n B.1 B.2.1 dX6_readKind_37 rfl (lv_at hl 0 rfl) ?_
  refine lv_iconst (v := (iI (3))) B.1 B.2.1 dX6_readKind_38 (by decide) ?_
  refine lv_icmp_gt (tgt := 46) B.1 B.2.1 dX6_readKind_39 (by decide) (fun h => absurd h (by decide)) (fun _ => ?_)
  refine lv_iconst (v := (iI (1))) B.1 B.2.1 dX6_readKind_42 (by decide) ?_
  refine lv_goto (tgt := 47) B.1 B.2.1 dX6_readKind_43 (by decide) ?_
  refine lv_istore_n (lv' := [(3, .int (iI (1))), (2, .int (iI (0))), (1, .int (iI (((pt : Nat) : Int)))), (0, .ref rd)]) B.1 B.2.1 dX6_readKind_47 rfl hl (by decide) rfl (fun ls hl => ?_)
  refine lv_iload_n B.1 B.2.1 dX6_readKind_48 rfl (lv_at hl 0 rfl) ?_
  refine lv_if_eq (tgt := 70) B.1 B.2.1 dX6_readKind_49 (by decide) (fun h => absurd h (by decide)) (fun _ => ?_)
  refine lv_aload_n B.1 B.2.1 dX6_readKind_52 rfl (lv_at hl 3 rfl) ?_
  refine lv_iload_n B.1 B.2.1 dX6_readKind_53 rfl (lv_at hl 2 rfl) ?_
  refine lv_iload_n B.1 B.2.1 dX6_readKind_54 rfl (lv_at hl 1 rfl) ?_
  refine qQ (Cs := []) (Rs := [[(rd, .inr (8, [.ref ri, .int (iI (((L : Nat) : Int))), .int (iI (((pt + 4) : Nat) : Int)), .int (iI (0)), .int (iI (er)), .int (iI (ea)), .int (iI (cn)), .ref rk, .ref rn, .ref ro, .ref rt]))], [(ri, .inl (τ 1, 500, .inl (fun j => iI ((b) j))))]]) Y [] [0, 1] (by decide) rfl (cSE (As := [.int (iI (0))]) (rest := [.int (iI (((pt : Nat) : Int))), .ref rd]) (Ke.ok K) hE B Y [] (by decide) rfl (k_wordOf0 l D τ _ K) q_802 q_803 q_3 q_804 rfl rfl hd_X6_wordOf ⟨(Nat.le_of_ble_eq_true rfl), (Nat.le_of_ble_eq_true rfl)⟩ rfl hl.1 rfl (Nat.le_of_ble_eq_true rfl) dX6_readKind_55 ⟨(Nat.le_of_ble_eq_true rfl), (Nat.le_of_ble_eq_true rfl)⟩) (fun r u H locs hw Y => ?_)
  subst hw
  have Y : Wd D τ s A s.heap (bl [[(rd, .inr (8, [.ref ri, .int (iI (((L : Nat) : Int))), .int (iI (((pt + 4) : Nat) : Int)), .int (iI (0)), .int (iI (er)), .int (iI (ea)), .int (iI (cn)), .ref rk, .ref rn, .ref ro, .ref rt]))], [(ri, .inl (τ 1, 500, .inl (fun j => iI ((b) j))))]]) _ _ := Y
  show W _ _ _ _ _ _ _ _ _ _ _ _ _ _ _ (F0 m _ ls (.ref (K (2 * 0)) :: .int (iI (((pt : Nat) : Int))) :: .ref rd :: []))
  refine qI (Cs := [[(rd, .inr (8, [.ref ri, .int (iI (((L : Nat) : Int))), .int (iI (((pt + 4) : Nat) : Int)), .int (iI (0)), .int (iI (er)), .int (iI (ea)), .int (iI (cn)), .ref rk, .ref rn, .ref ro, .ref rt]))], [(ri, .inl (τ 1, 500, .inl (fun j => iI ((b) j))))]]) (Rs := []) Y [0, 1] [] (by decide) rfl (cVE (As := [.int (iI (((pt : Nat) : Int))), .ref (K (2 * 0))]) (rest := []) (q0 := 0) (Ke.ok K) hE B Y [0, 1] (by decide) rfl (k_isWord l D τ _ K rd ri rk rn ro rt L (0) (er) (ea) (cn) b (by omega) hb pt (ksZ 0) hX1 (by omega) 0 (by decide)) rfl rfl q_815 q_817 qp_11 q_3 q_818 rfl rfl hd_X6_isWord ⟨(Nat.le_of_ble_eq_true rfl), (Nat.le_of_ble_eq_true rfl)⟩ rfl hl.1 rfl (Nat.le_of_ble_eq_true rfl) dX6_readKind_58 ⟨(Nat.le_of_ble_eq_true rfl), (Nat.le_of_ble_eq_true rfl)⟩) (fun r u H locs hw Y => ?_)
  rw [if_pos (by decide)] at hw
  have hw : r = 1 := hw
  subst hw
  have Y : Wd D τ s A s.heap (bl [[(rd, .inr (8, [.ref ri, .int (iI (((L : Nat) : Int))), .int (iI (((pt + 4) : Nat) : Int)), .int (iI (0)), .int (iI (er)), .int (iI (ea)), .int (iI (cn)), .ref rk, .ref rn, .ref ro, .ref rt]))], [(ri, .inl (τ 1, 500, .inl (fun j => iI ((b) j))))]]) _ _ := Y
  refine lv_if_eq (tgt := 70) B.1 B.2.1 dX6_readKind_61 (by decide) (fun h => absurd h (by decide)) (fun _ => ?_)
  refine lv_aload_n B.1 B.2.1 dX6_readKind_64 rfl (lv_at hl 3 rfl) ?_
  refine qV (Cs := [[(rd, .inr (8, [.ref ri, .int (iI (((L : Nat) : Int))), .int (iI (((pt + 4) : Nat) : Int)), .int (iI (0)), .int (iI (er)), .int (iI (ea)), .int (iI (cn)), .ref rk, .ref rn, .ref ro, .ref rt]))], [(ri, .inl (τ 1, 500, .inl (fun j => iI ((b) j))))]]) (Rs := []) Y [0, 1] [] (by decide) rfl (cV (As := []) (rest := []) (q0 := 0) B Y [0, 1] (by decide) rfl (k_skipSpaces l D τ _ rd ri rk rn ro rt L (0) (er) (ea) (cn) b (by omega) hb (pt + 4) (pt + 5) (by omega) (by omega) (fun j h1 h2 => by rw [show j = pt + 4 by omega]; exact hX2) (fun _ => by rw [show pt + 5 = pt + 5 from rfl]; omega)) rfl rfl q_778 q_780 qp_5 q_3 q_781 rfl rfl hd_X6_skipSpaces ⟨(Nat.le_of_ble_eq_true rfl), (Nat.le_of_ble_eq_true rfl)⟩ rfl hl.1 rfl (Nat.le_of_ble_eq_true rfl) dX6_readKind_65 ⟨(Nat.le_of_ble_eq_true rfl), (Nat.le_of_ble_eq_true rfl)⟩) (fun u H locs hw Y => ?_)
  have Y : Wd D τ s A s.heap (bl [[(rd, .inr (8, [.ref ri, .int (iI (((L : Nat) : Int))), .int (iI (((pt + 5) : Nat) : Int)), .int (iI (0)), .int (iI (er)), .int (iI (ea)), .int (iI (cn)), .ref rk, .ref rn, .ref ro, .ref rt]))], [(ri, .inl (τ 1, 500, .inl (fun j => iI ((b) j))))]]) _ _ := Y
  refine lv_iload_n B.1 B.2.1 dX6_readKind_68 rfl (lv_at hl 1 rfl) ?_
  exact eI B hr hlk Y () rfl [0, 1] (by decide) rfl (Nat.le_of_ble_eq_true rfl) (Nat.le_of_ble_eq_true rfl) dX6_readKind_69

set_option maxHeartbeats 4000000 in
set_option maxRecDepth 100000 in
theorem k_readKind1_0 (l : Launch) (D : va_G) (τ : Nat → ClassId) (sz : Nat) (K : Nat → Nat) (rd ri rk rn ro rt L : Nat) (er ea cn : Int) (b : Nat → Int) (hL : L ≤ 500) (hb : BOk b) (pt : Nat) (hX : ats b pt (ksZ 1 ++ [32])) (hpL : pt + 5 < L) (hdd : 48 ≤ b (pt + 5) ∧ b (pt + 5) ≤ 57) : Met l yX6_readKind (Cond.code yX6_readKind cX6_readKind 4 (some .int) :: wALL) { frames := 5, cells := 0, slots := 0, locals := 109 } (PwE (Ke K) D τ (bl [[(rd, .inr (8, [.ref ri, .int (iI (((L : Nat) : Int))), .int (iI (((pt : Nat) : Int))), .int (iI (0)), .int (iI (er)), .int (iI (ea)), .int (iI (cn)), .ref rk, .ref rn, .ref ro, .ref rt]))], [(ri, .inl (τ 1, 500, .inl (fun j => iI ((b) j))))]]) sz [.ref rd]) (va_Qi (fun (r : Int32) (_ : Unit) => r = iI 1) (Bb D (va_A (bl [[(rd, .inr (8, [.ref ri, .int (iI (((L : Nat) : Int))), .int (iI (((pt : Nat) : Int))), .int (iI (0)), .int (iI (er)), .int (iI (ea)), .int (iI (cn)), .ref rk, .ref rn, .ref ro, .ref rt]))], [(ri, .inl (τ 1, 500, .inl (fun j => iI ((b) j))))]]) sz) (fun (_ : Unit) => [[(rd, .inr (8, [.ref ri, .int (iI (((L : Nat) : Int))), .int (iI ((((pt + 5) : Nat) : Int))), .int (iI (0)), .int (iI (er)), .int (iI (ea)), .int (iI (cn)), .ref rk, .ref rn, .ref ro, .ref rt]))], [(ri, .inl (τ 1, 500, .inl (fun j => iI ((b) j))))]])) (va_A (bl [[(rd, .inr (8, [.ref ri, .int (iI (((L : Nat) : Int))), .int (iI (((pt : Nat) : Int))), .int (iI (0)), .int (iI (er)), .int (iI (ea)), .int (iI (cn)), .ref rk, .ref rn, .ref ro, .ref rt]))], [(ri, .inl (τ 1, 500, .inl (fun j => iI ((b) j))))]]) sz)) 0 0 (va_A (bl [[(rd, .inr (8, [.ref ri, .int (iI (((L : Nat) : Int))), .int (iI (((pt : Nat) : Int))), .int (iI (0)), .int (iI (er)), .int (iI (ea)), .int (iI (cn)), .ref rk, .ref rn, .ref ro, .ref rt]))], [(ri, .inl (τ 1, 500, .inl (fun j => iI ((b) j))))]]) sz) := by
  refine bodyE (by decide +kernel) (Nat.le_of_ble_eq_true rfl) (fun p e s m below meth c ls B hr hlk hin hsz Y hE hl => ?_)
  have hl : lv_has ls 4 [(0, .ref rd)] := hl
  have B : CallFix p m c cX6_readKind 4 s _ wALL RX6 := B
  generalize va_A (bl [[(rd, .inr (8, [.ref ri, .int (iI (((L : Nat) : Int))), .int (iI (((pt : Nat) : Int))), .int (iI (0)), .int (iI (er)), .int (iI (ea)), .int (iI (cn)), .ref rk, .ref rn, .ref ro, .ref rt]))], [(ri, .inl (τ 1, 500, .inl (fun j => iI ((b) j))))]]) sz = A at Y hE ⊢
  have hX1 := (ats_app.mp hX).1
  have hX2 : b (pt + 4) = 32 := (ats_app.mp hX).2 0 (by decide)
  have hkl : (ksZ 1).length = 4 := by decide
  have hLt : ∀ x ∈ ksZ 1, (97 : Int) ≤ x ∧ x ≤ 122 := by decide
  refine lv_aload_n B.1 B.2.1 dX6_readKind_0 rfl (lv_at hl 0 rfl) ?_
  refine gf_X6_19 B Y 0 rfl rfl dX6_readKind_1 ?_
  refine lv_istore_n (lv' := [(1, .int (iI (((pt : Nat) : Int)))), (0, .ref rd)]) B.1 B.2.1 dX6_readKind_4 rfl hl (by decide) rfl (fun ls hl => ?_)
  refine lv_aload_n B.1 B.2.1 dX6_readKind_5 rfl (lv_at hl 1 rfl) ?_
  refine qV (Cs := [[(rd, .inr (8, [.ref ri, .int (iI (((L : Nat) : Int))), .int (iI (((pt : Nat) : Int))), .int (iI (0)), .int (iI (er)), .int (iI (ea)), .int (iI (cn)), .ref rk, .ref rn, .ref ro, .ref rt]))], [(ri, .inl (τ 1, 500, .inl (fun j => iI ((b) j))))]]) (Rs := []) Y [0, 1] [] (by decide) rfl (cV (As := []) (rest := []) (q0 := 0) B Y [0, 1] (by decide) rfl (k_skipWord l D τ _ rd ri rk rn ro rt L (0) (er) (ea) (cn) b (by omega) hb pt (pt + 4) (by omega) (by omega) (fun j h1 h2 => ats_all hX1 hLt j h1 h2) (fun _ => Or.inl (by omega))) rfl rfl q_794 q_796 qp_9 q_3 q_797 rfl rfl hd_X6_skipWord ⟨(Nat.le_of_ble_eq_true rfl), (Nat.le_of_ble_eq_true rfl)⟩ rfl hl.1 rfl (Nat.le_of_ble_eq_true rfl) dX6_readKind_6 ⟨(Nat.le_of_ble_eq_true rfl), (Nat.le_of_ble_eq_true rfl)⟩) (fun u H locs hw Y => ?_)
  have Y : Wd D τ s A s.heap (bl [[(rd, .inr (8, [.ref ri, .int (iI (((L : Nat) : Int))), .int (iI (((pt + 4) : Nat) : Int)), .int (iI (0)), .int (iI (er)), .int (iI (ea)), .int (iI (cn)), .ref rk, .ref rn, .ref ro, .ref rt]))], [(ri, .inl (τ 1, 500, .inl (fun j => iI ((b) j))))]]) _ _ := Y
  refine lv_iconst (v := (iI (0))) B.1 B.2.1 dX6_readKind_9 (by decide) ?_
  refine lv_istore_n (lv' := [(2, .int (iI (0))), (1, .int (iI (((pt : Nat) : Int)))), (0, .ref rd)]) B.1 B.2.1 dX6_readKind_10 rfl hl (by decide) rfl (fun ls hl => ?_)
  refine lv_iload_n B.1 B.2.1 dX6_readKind_11 rfl (lv_at hl 0 rfl) ?_
  refine lv_bipush (v := (iI (10))) B.1 B.2.1 dX6_readKind_12 (by decide) ?_
  refine lv_icmp_ge (tgt := 76) B.1 B.2.1 dX6_readKind_14 (by decide) (fun h => absurd h (by decide)) (fun _ => ?_)
  refine lv_aload_n B.1 B.2.1 dX6_readKind_17 rfl (lv_at hl 2 rfl) ?_
  refine gf_X6_22 B Y 0 rfl rfl dX6_readKind_18 ?_
  refine lv_if_eq (tgt := 37) B.1 B.2.1 dX6_readKind_21 (by decide) (fun _ => ?_) (fun h => absurd (by decide) h) 
  refine lv_iload_n B.1 B.2.1 dX6_readKind_37 rfl (lv_at hl 0 rfl) ?_
  refine lv_iconst (v := (iI (3))) B.1 B.2.1 dX6_readKind_38 (by decide) ?_
  refine lv_icmp_gt (tgt := 46) B.1 B.2.1 dX6_readKind_39 (by decide) (fun h => absurd h (by decide)) (fun _ => ?_)
  refine lv_iconst (v := (iI (1))) B.1 B.2.1 dX6_readKind_42 (by decide) ?_
  refine lv_goto (tgt := 47) B.1 B.2.1 dX6_readKind_43 (by decide) ?_
  refine lv_istore_n (lv' := [(3, .int (iI (1))), (2, .int (iI (0))), (1, .int (iI (((pt : Nat) : Int)))), (0, .ref rd)]) B.1 B.2.1 dX6_readKind_47 rfl hl (by decide) rfl (fun ls hl => ?_)
  refine lv_iload_n B.1 B.2.1 dX6_readKind_48 rfl (lv_at hl 0 rfl) ?_
  refine lv_if_eq (tgt := 70) B.1 B.2.1 dX6_readKind_49 (by decide) (fun h => absurd h (by decide)) (fun _ => ?_)
  refine lv_aload_n B.1 B.2.1 dX6_readKind_52 rfl (lv_at hl 3 rfl) ?_
  refine lv_iload_n B.1 B.2.1 dX6_readKind_53 rfl (lv_at hl 2 rfl) ?_
  refine lv_iload_n B.1 B.2.1 dX6_readKind_54 rfl (lv_at hl 1 rfl) ?_
  refine qQ (Cs := []) (Rs := [[(rd, .inr (8, [.ref ri, .int (iI (((L : Nat) : Int))), .int (iI (((pt + 4) : Nat) : Int)), .int (iI (0)), .int (iI (er)), .int (iI (ea)), .int (iI (cn)), .ref rk, .ref rn, .ref ro, .ref rt]))], [(ri, .inl (τ 1, 500, .inl (fun j => iI ((b) j))))]]) Y [] [0, 1] (by decide) rfl (cSE (As := [.int (iI (0))]) (rest := [.int (iI (((pt : Nat) : Int))), .ref rd]) (Ke.ok K) hE B Y [] (by decide) rfl (k_wordOf0 l D τ _ K) q_802 q_803 q_3 q_804 rfl rfl hd_X6_wordOf ⟨(Nat.le_of_ble_eq_true rfl), (Nat.le_of_ble_eq_true rfl)⟩ rfl hl.1 rfl (Nat.le_of_ble_eq_true rfl) dX6_readKind_55 ⟨(Nat.le_of_ble_eq_true rfl), (Nat.le_of_ble_eq_true rfl)⟩) (fun r u H locs hw Y => ?_)
  subst hw
  have Y : Wd D τ s A s.heap (bl [[(rd, .inr (8, [.ref ri, .int (iI (((L : Nat) : Int))), .int (iI (((pt + 4) : Nat) : Int)), .int (iI (0)), .int (iI (er)), .int (iI (ea)), .int (iI (cn)), .ref rk, .ref rn, .ref ro, .ref rt]))], [(ri, .inl (τ 1, 500, .inl (fun j => iI ((b) j))))]]) _ _ := Y
  show W _ _ _ _ _ _ _ _ _ _ _ _ _ _ _ (F0 m _ ls (.ref (K (2 * 0)) :: .int (iI (((pt : Nat) : Int))) :: .ref rd :: []))
  refine qI (Cs := [[(rd, .inr (8, [.ref ri, .int (iI (((L : Nat) : Int))), .int (iI (((pt + 4) : Nat) : Int)), .int (iI (0)), .int (iI (er)), .int (iI (ea)), .int (iI (cn)), .ref rk, .ref rn, .ref ro, .ref rt]))], [(ri, .inl (τ 1, 500, .inl (fun j => iI ((b) j))))]]) (Rs := []) Y [0, 1] [] (by decide) rfl (cVE (As := [.int (iI (((pt : Nat) : Int))), .ref (K (2 * 0))]) (rest := []) (q0 := 0) (Ke.ok K) hE B Y [0, 1] (by decide) rfl (k_isWord l D τ _ K rd ri rk rn ro rt L (0) (er) (ea) (cn) b (by omega) hb pt (ksZ 1) hX1 (by omega) 0 (by decide)) rfl rfl q_815 q_817 qp_11 q_3 q_818 rfl rfl hd_X6_isWord ⟨(Nat.le_of_ble_eq_true rfl), (Nat.le_of_ble_eq_true rfl)⟩ rfl hl.1 rfl (Nat.le_of_ble_eq_true rfl) dX6_readKind_58 ⟨(Nat.le_of_ble_eq_true rfl), (Nat.le_of_ble_eq_true rfl)⟩) (fun r u H locs hw Y => ?_)
  rw [if_neg (by decide)] at hw
  have hw : r = 0 := hw
  subst hw
  have Y : Wd D τ s A s.heap (bl [[(rd, .inr (8, [.ref ri, .int (iI (((L : Nat) : Int))), .int (iI (((pt + 4) : Nat) : Int)), .int (iI (0)), .int (iI (er)), .int (iI (ea)), .int (iI (cn)), .ref rk, .ref rn, .ref ro, .ref rt]))], [(ri, .inl (τ 1, 500, .inl (fun j => iI ((b) j))))]]) _ _ := Y
  refine lv_if_eq (tgt := 70) B.1 B.2.1 dX6_readKind_61 (by decide) (fun _ => ?_) (fun h => absurd (by decide) h) 
  refine lv_iinc (v := (iI (1))) (lv' := [(2, .int (iI (1))), (3, .int (iI (1))), (1, .int (iI (((pt : Nat) : Int)))), (0, .ref rd)]) B.1 B.2.1 dX6_readKind_70 hl (k := 1) rfl (by decide) (by decide) rfl (fun ls hl => ?_)
  refine lv_goto (tgt := 11) B.1 B.2.1 dX6_readKind_73 (by decide) ?_
  refine lv_iload_n B.1 B.2.1 dX6_readKind_11 rfl (lv_at hl 0 rfl) ?_
  refine lv_bipush (v := (iI (10))) B.1 B.2.1 dX6_readKind_12 (by decide) ?_
  refine lv_icmp_ge (tgt := 76) B.1 B.2.1 dX6_readKind_14 (by decide) (fun h => absurd h (by decide)) (fun _ => ?_)
  refine lv_aload_n B.1 B.2.1 dX6_readKind_17 rfl (lv_at hl 3 rfl) ?_
  refine gf_X6_22 B Y 0 rfl rfl dX6_readKind_18 ?_
  refine lv_if_eq (tgt := 37) B.1 B.2.1 dX6_readKind_21 (by decide) (fun _ => ?_) (fun h => absurd (by decide) h) 
  refine lv_iload_n B.1 B.2.1 dX6_readKind_37 rfl (lv_at hl 0 rfl) ?_
  refine lv_iconst (v := (iI (3))) B.1 B.2.1 dX6_readKind_38 (by decide) ?_
  refine lv_icmp_gt (tgt := 46) B.1 B.2.1 dX6_readKind_39 (by decide) (fun h => absurd h (by decide)) (fun _ => ?_)
  refine lv_iconst (v := (iI (1))) B.1 B.2.1 dX6_readKind_42 (by decide) ?_
  refine lv_goto (tgt := 47) B.1 B.2.1 dX6_readKind_43 (by decide) ?_
  refine lv_istore_n (lv' := [(3, .int (iI (1))), (2, .int (iI (1))), (1, .int (iI (((pt : Nat) : Int)))), (0, .ref rd)]) B.1 B.2.1 dX6_readKind_47 rfl hl (by decide) rfl (fun ls hl => ?_)
  refine lv_iload_n B.1 B.2.1 dX6_readKind_48 rfl (lv_at hl 0 rfl) ?_
  refine lv_if_eq (tgt := 70) B.1 B.2.1 dX6_readKind_49 (by decide) (fun h => absurd h (by decide)) (fun _ => ?_)
  refine lv_aload_n B.1 B.2.1 dX6_readKind_52 rfl (lv_at hl 3 rfl) ?_
  refine lv_iload_n B.1 B.2.1 dX6_readKind_53 rfl (lv_at hl 2 rfl) ?_
  refine lv_iload_n B.1 B.2.1 dX6_readKind_54 rfl (lv_at hl 1 rfl) ?_
  refine qQ (Cs := []) (Rs := [[(rd, .inr (8, [.ref ri, .int (iI (((L : Nat) : Int))), .int (iI (((pt + 4) : Nat) : Int)), .int (iI (0)), .int (iI (er)), .int (iI (ea)), .int (iI (cn)), .ref rk, .ref rn, .ref ro, .ref rt]))], [(ri, .inl (τ 1, 500, .inl (fun j => iI ((b) j))))]]) Y [] [0, 1] (by decide) rfl (cSE (As := [.int (iI (1))]) (rest := [.int (iI (((pt : Nat) : Int))), .ref rd]) (Ke.ok K) hE B Y [] (by decide) rfl (k_wordOf1 l D τ _ K) q_802 q_803 q_3 q_804 rfl rfl hd_X6_wordOf ⟨(Nat.le_of_ble_eq_true rfl), (Nat.le_of_ble_eq_true rfl)⟩ rfl hl.1 rfl (Nat.le_of_ble_eq_true rfl) dX6_readKind_55 ⟨(Nat.le_of_ble_eq_true rfl), (Nat.le_of_ble_eq_true rfl)⟩) (fun r u H locs hw Y => ?_)
  subst hw
  have Y : Wd D τ s A s.heap (bl [[(rd, .inr (8, [.ref ri, .int (iI (((L : Nat) : Int))), .int (iI (((pt + 4) : Nat) : Int)), .int (iI (0)), .int (iI (er)), .int (iI (ea)), .int (iI (cn)), .ref rk, .ref rn, .ref ro, .ref rt]))], [(ri, .inl (τ 1, 500, .inl (fun j => iI ((b) j))))]]) _ _ := Y
  show W _ _ _ _ _ _ _ _ _ _ _ _ _ _ _ (F0 m _ ls (.ref (K (2 * 1)) :: .int (iI (((pt : Nat) : Int))) :: .ref rd :: []))
  refine qI (Cs := [[(rd, .inr (8, [.ref ri, .int (iI (((L : Nat) : Int))), .int (iI (((pt + 4) : Nat) : Int)), .int (iI (0)), .int (iI (er)), .int (iI (ea)), .int (iI (cn)), .ref rk, .ref rn, .ref ro, .ref rt]))], [(ri, .inl (τ 1, 500, .inl (fun j => iI ((b) j))))]]) (Rs := []) Y [0, 1] [] (by decide) rfl (cVE (As := [.int (iI (((pt : Nat) : Int))), .ref (K (2 * 1))]) (rest := []) (q0 := 0) (Ke.ok K) hE B Y [0, 1] (by decide) rfl (k_isWord l D τ _ K rd ri rk rn ro rt L (0) (er) (ea) (cn) b (by omega) hb pt (ksZ 1) hX1 (by omega) 1 (by decide)) rfl rfl q_815 q_817 qp_11 q_3 q_818 rfl rfl hd_X6_isWord ⟨(Nat.le_of_ble_eq_true rfl), (Nat.le_of_ble_eq_true rfl)⟩ rfl hl.1 rfl (Nat.le_of_ble_eq_true rfl) dX6_readKind_58 ⟨(Nat.le_of_ble_eq_true rfl), (Nat.le_of_ble_eq_true rfl)⟩) (fun r u H locs hw Y => ?_)
  rw [if_pos (by decide)] at hw
  have hw : r = 1 := hw
  subst hw
  have Y : Wd D τ s A s.heap (bl [[(rd, .inr (8, [.ref ri, .int (iI (((L : Nat) : Int))), .int (iI (((pt + 4) : Nat) : Int)), .int (iI (0)), .int (iI (er)), .int (iI (ea)), .int (iI (cn)), .ref rk, .ref rn, .ref ro, .ref rt]))], [(ri, .inl (τ 1, 500, .inl (fun j => iI ((b) j))))]]) _ _ := Y
  refine lv_if_eq (tgt := 70) B.1 B.2.1 dX6_readKind_61 (by decide) (fun h => absurd h (by decide)) (fun _ => ?_)
  refine lv_aload_n B.1 B.2.1 dX6_readKind_64 rfl (lv_at hl 3 rfl) ?_
  refine qV (Cs := [[(rd, .inr (8, [.ref ri, .int (iI (((L : Nat) : Int))), .int (iI (((pt + 4) : Nat) : Int)), .int (iI (0)), .int (iI (er)), .int (iI (ea)), .int (iI (cn)), .ref rk, .ref rn, .ref ro, .ref rt]))], [(ri, .inl (τ 1, 500, .inl (fun j => iI ((b) j))))]]) (Rs := []) Y [0, 1] [] (by decide) rfl (cV (As := []) (rest := []) (q0 := 0) B Y [0, 1] (by decide) rfl (k_skipSpaces l D τ _ rd ri rk rn ro rt L (0) (er) (ea) (cn) b (by omega) hb (pt + 4) (pt + 5) (by omega) (by omega) (fun j h1 h2 => by rw [show j = pt + 4 by omega]; exact hX2) (fun _ => by rw [show pt + 5 = pt + 5 from rfl]; omega)) rfl rfl q_778 q_780 qp_5 q_3 q_781 rfl rfl hd_X6_skipSpaces ⟨(Nat.le_of_ble_eq_true rfl), (Nat.le_of_ble_eq_true rfl)⟩ rfl hl.1 rfl (Nat.le_of_ble_eq_true rfl) dX6_readKind_65 ⟨(Nat.le_of_ble_eq_true rfl), (Nat.le_of_ble_eq_true rfl)⟩) (fun u H locs hw Y => ?_)
  have Y : Wd D τ s A s.heap (bl [[(rd, .inr (8, [.ref ri, .int (iI (((L : Nat) : Int))), .int (iI (((pt + 5) : Nat) : Int)), .int (iI (0)), .int (iI (er)), .int (iI (ea)), .int (iI (cn)), .ref rk, .ref rn, .ref ro, .ref rt]))], [(ri, .inl (τ 1, 500, .inl (fun j => iI ((b) j))))]]) _ _ := Y
  refine lv_iload_n B.1 B.2.1 dX6_readKind_68 rfl (lv_at hl 1 rfl) ?_
  exact eI B hr hlk Y () rfl [0, 1] (by decide) rfl (Nat.le_of_ble_eq_true rfl) (Nat.le_of_ble_eq_true rfl) dX6_readKind_69

set_option maxHeartbeats 4000000 in
set_option maxRecDepth 100000 in
theorem k_readKind2_0 (l : Launch) (D : va_G) (τ : Nat → ClassId) (sz : Nat) (K : Nat → Nat) (rd ri rk rn ro rt L : Nat) (er ea cn : Int) (b : Nat → Int) (hL : L ≤ 500) (hb : BOk b) (pt : Nat) (hX : ats b pt (ksZ 2 ++ [32])) (hpL : pt + 7 < L) (hdd : 48 ≤ b (pt + 7) ∧ b (pt + 7) ≤ 57) : Met l yX6_readKind (Cond.code yX6_readKind cX6_readKind 4 (some .int) :: wALL) { frames := 5, cells := 0, slots := 0, locals := 109 } (PwE (Ke K) D τ (bl [[(rd, .inr (8, [.ref ri, .int (iI (((L : Nat) : Int))), .int (iI (((pt : Nat) : Int))), .int (iI (0)), .int (iI (er)), .int (iI (ea)), .int (iI (cn)), .ref rk, .ref rn, .ref ro, .ref rt]))], [(ri, .inl (τ 1, 500, .inl (fun j => iI ((b) j))))]]) sz [.ref rd]) (va_Qi (fun (r : Int32) (_ : Unit) => r = iI 2) (Bb D (va_A (bl [[(rd, .inr (8, [.ref ri, .int (iI (((L : Nat) : Int))), .int (iI (((pt : Nat) : Int))), .int (iI (0)), .int (iI (er)), .int (iI (ea)), .int (iI (cn)), .ref rk, .ref rn, .ref ro, .ref rt]))], [(ri, .inl (τ 1, 500, .inl (fun j => iI ((b) j))))]]) sz) (fun (_ : Unit) => [[(rd, .inr (8, [.ref ri, .int (iI (((L : Nat) : Int))), .int (iI ((((pt + 7) : Nat) : Int))), .int (iI (0)), .int (iI (er)), .int (iI (ea)), .int (iI (cn)), .ref rk, .ref rn, .ref ro, .ref rt]))], [(ri, .inl (τ 1, 500, .inl (fun j => iI ((b) j))))]])) (va_A (bl [[(rd, .inr (8, [.ref ri, .int (iI (((L : Nat) : Int))), .int (iI (((pt : Nat) : Int))), .int (iI (0)), .int (iI (er)), .int (iI (ea)), .int (iI (cn)), .ref rk, .ref rn, .ref ro, .ref rt]))], [(ri, .inl (τ 1, 500, .inl (fun j => iI ((b) j))))]]) sz)) 0 0 (va_A (bl [[(rd, .inr (8, [.ref ri, .int (iI (((L : Nat) : Int))), .int (iI (((pt : Nat) : Int))), .int (iI (0)), .int (iI (er)), .int (iI (ea)), .int (iI (cn)), .ref rk, .ref rn, .ref ro, .ref rt]))], [(ri, .inl (τ 1, 500, .inl (fun j => iI ((b) j))))]]) sz) := by
  refine bodyE (by decide +kernel) (Nat.le_of_ble_eq_true rfl) (fun p e s m below meth c ls B hr hlk hin hsz Y hE hl => ?_)
  have hl : lv_has ls 4 [(0, .ref rd)] := hl
  have B : CallFix p m c cX6_readKind 4 s _ wALL RX6 := B
  generalize va_A (bl [[(rd, .inr (8, [.ref ri, .int (iI (((L : Nat) : Int))), .int (iI (((pt : Nat) : Int))), .int (iI (0)), .int (iI (er)), .int (iI (ea)), .int (iI (cn)), .ref rk, .ref rn, .ref ro, .ref rt]))], [(ri, .inl (τ 1, 500, .inl (fun j => iI ((b) j))))]]) sz = A at Y hE ⊢
  have hX1 := (ats_app.mp hX).1
  have hX2 : b (pt + 6) = 32 := (ats_app.mp hX).2 0 (by decide)
  have hkl : (ksZ 2).length = 6 := by decide
  have hLt : ∀ x ∈ ksZ 2, (97 : Int) ≤ x ∧ x ≤ 122 := by decide
  refine lv_aload_n B.1 B.2.1 dX6_readKind_0 rfl (lv_at hl 0 rfl) ?_
  refine gf_X6_19 B Y 0 rfl rfl dX6_readKind_1 ?_
  refine lv_istore_n (lv' := [(1, .int (iI (((pt : Nat) : Int)))), (0, .ref rd)]) B.1 B.2.1 dX6_readKind_4 rfl hl (by decide) rfl (fun ls hl => ?_)
  refine lv_aload_n B.1 B.2.1 dX6_readKind_5 rfl (lv_at hl 1 rfl) ?_
  refine qV (Cs := [[(rd, .inr (8, [.ref ri, .int (iI (((L : Nat) : Int))), .int (iI (((pt : Nat) : Int))), .int (iI (0)), .int (iI (er)), .int (iI (ea)), .int (iI (cn)), .ref rk, .ref rn, .ref ro, .ref rt]))], [(ri, .inl (τ 1, 500, .inl (fun j => iI ((b) j))))]]) (Rs := []) Y [0, 1] [] (by decide) rfl (cV (As := []) (rest := []) (q0 := 0) B Y [0, 1] (by decide) rfl (k_skipWord l D τ _ rd ri rk rn ro rt L (0) (er) (ea) (cn) b (by omega) hb pt (pt + 6) (by omega) (by omega) (fun j h1 h2 => ats_all hX1 hLt j h1 h2) (fun _ => Or.inl (by omega))) rfl rfl q_794 q_796 qp_9 q_3 q_797 rfl rfl hd_X6_skipWord ⟨(Nat.le_of_ble_eq_true rfl), (Nat.le_of_ble_eq_true rfl)⟩ rfl hl.1 rfl (Nat.le_of_ble_eq_true rfl) dX6_readKind_6 ⟨(Nat.le_of_ble_eq_true rfl), (Nat.le_of_ble_eq_true rfl)⟩) (fun u H locs hw Y => ?_)
  have Y : Wd D τ s A s.heap (bl [[(rd, .inr (8, [.ref ri, .int (iI (((L : Nat) : Int))), .int (iI (((pt + 6) : Nat) : Int)), .int (iI (0)), .int (iI (er)), .int (iI (ea)), .int (iI (cn)), .ref rk, .ref rn, .ref ro, .ref rt]))], [(ri, .inl (τ 1, 500, .inl (fun j => iI ((b) j))))]]) _ _ := Y
  refine lv_iconst (v := (iI (0))) B.1 B.2.1 dX6_readKind_9 (by decide) ?_
  refine lv_istore_n (lv' := [(2, .int (iI (0))), (1, .int (iI (((pt : Nat) : Int)))), (0, .ref rd)]) B.1 B.2.1 dX6_readKind_10 rfl hl (by decide) rfl (fun ls hl => ?_)
  refine lv_iload_n B.1 B.2.1 dX6_readKind_11 rfl (lv_at hl 0 rfl) ?_
  refine lv_bipush (v := (iI (10))) B.1 B.2.1 dX6_readKind_12 (by decide) ?_
  refine lv_icmp_ge (tgt := 76) B.1 B.2.1 dX6_readKind_14 (by decide) (fun h => absurd h (by decide)) (fun _ => ?_)
  refine lv_aload_n B.1 B.2.1 dX6_readKind_17 rfl (lv_at hl 2 rfl) ?_
  refine gf_X6_22 B Y 0 rfl rfl dX6_readKind_18 ?_
  refine lv_if_eq (tgt := 37) B.1 B.2.1 dX6_readKind_21 (by decide) (fun _ => ?_) (fun h => absurd (by decide) h) 
  refine lv_iload_n B.1 B.2.1 dX6_readKind_37 rfl (lv_at hl 0 rfl) ?_
  refine lv_iconst (v := (iI (3))) B.1 B.2.1 dX6_readKind_38 (by decide) ?_
  refine lv_icmp_gt (tgt := 46) B.1 B.2.1 dX6_readKind_39 (by decide) (fun h => absurd h (by decide)) (fun _ => ?_)
  refine lv_iconst (v := (iI (1))) B.1 B.2.1 dX6_readKind_42 (by decide) ?_
  refine lv_goto (tgt := 47) B.1 B.2.1 dX6_readKind_43 (by decide) ?_
  refine lv_istore_n (lv' := [(3, .int (iI (1))), (2, .int (iI (0))), (1, .int (iI (((pt : Nat) : Int)))), (0, .ref rd)]) B.1 B.2.1 dX6_readKind_47 rfl hl (by decide) rfl (fun ls hl => ?_)
  refine lv_iload_n B.1 B.2.1 dX6_readKind_48 rfl (lv_at hl 0 rfl) ?_
  refine lv_if_eq (tgt := 70) B.1 B.2.1 dX6_readKind_49 (by decide) (fun h => absurd h (by decide)) (fun _ => ?_)
  refine lv_aload_n B.1 B.2.1 dX6_readKind_52 rfl (lv_at hl 3 rfl) ?_
  refine lv_iload_n B.1 B.2.1 dX6_readKind_53 rfl (lv_at hl 2 rfl) ?_
  refine lv_iload_n B.1 B.2.1 dX6_readKind_54 rfl (lv_at hl 1 rfl) ?_
  refine qQ (Cs := []) (Rs := [[(rd, .inr (8, [.ref ri, .int (iI (((L : Nat) : Int))), .int (iI (((pt + 6) : Nat) : Int)), .int (iI (0)), .int (iI (er)), .int (iI (ea)), .int (iI (cn)), .ref rk, .ref rn, .ref ro, .ref rt]))], [(ri, .inl (τ 1, 500, .inl (fun j => iI ((b) j))))]]) Y [] [0, 1] (by decide) rfl (cSE (As := [.int (iI (0))]) (rest := [.int (iI (((pt : Nat) : Int))), .ref rd]) (Ke.ok K) hE B Y [] (by decide) rfl (k_wordOf0 l D τ _ K) q_802 q_803 q_3 q_804 rfl rfl hd_X6_wordOf ⟨(Nat.le_of_ble_eq_true rfl), (Nat.le_of_ble_eq_true rfl)⟩ rfl hl.1 rfl (Nat.le_of_ble_eq_true rfl) dX6_readKind_55 ⟨(Nat.le_of_ble_eq_true rfl), (Nat.le_of_ble_eq_true rfl)⟩) (fun r u H locs hw Y => ?_)
  subst hw
  have Y : Wd D τ s A s.heap (bl [[(rd, .inr (8, [.ref ri, .int (iI (((L : Nat) : Int))), .int (iI (((pt + 6) : Nat) : Int)), .int (iI (0)), .int (iI (er)), .int (iI (ea)), .int (iI (cn)), .ref rk, .ref rn, .ref ro, .ref rt]))], [(ri, .inl (τ 1, 500, .inl (fun j => iI ((b) j))))]]) _ _ := Y
  show W _ _ _ _ _ _ _ _ _ _ _ _ _ _ _ (F0 m _ ls (.ref (K (2 * 0)) :: .int (iI (((pt : Nat) : Int))) :: .ref rd :: []))
  refine qI (Cs := [[(rd, .inr (8, [.ref ri, .int (iI (((L : Nat) : Int))), .int (iI (((pt + 6) : Nat) : Int)), .int (iI (0)), .int (iI (er)), .int (iI (ea)), .int (iI (cn)), .ref rk, .ref rn, .ref ro, .ref rt]))], [(ri, .inl (τ 1, 500, .inl (fun j => iI ((b) j))))]]) (Rs := []) Y [0, 1] [] (by decide) rfl (cVE (As := [.int (iI (((pt : Nat) : Int))), .ref (K (2 * 0))]) (rest := []) (q0 := 0) (Ke.ok K) hE B Y [0, 1] (by decide) rfl (k_isWord l D τ _ K rd ri rk rn ro rt L (0) (er) (ea) (cn) b (by omega) hb pt (ksZ 2) hX1 (by omega) 0 (by decide)) rfl rfl q_815 q_817 qp_11 q_3 q_818 rfl rfl hd_X6_isWord ⟨(Nat.le_of_ble_eq_true rfl), (Nat.le_of_ble_eq_true rfl)⟩ rfl hl.1 rfl (Nat.le_of_ble_eq_true rfl) dX6_readKind_58 ⟨(Nat.le_of_ble_eq_true rfl), (Nat.le_of_ble_eq_true rfl)⟩) (fun r u H locs hw Y => ?_)
  rw [if_neg (by decide)] at hw
  have hw : r = 0 := hw
  subst hw
  have Y : Wd D τ s A s.heap (bl [[(rd, .inr (8, [.ref ri, .int (iI (((L : Nat) : Int))), .int (iI (((pt + 6) : Nat) : Int)), .int (iI (0)), .int (iI (er)), .int (iI (ea)), .int (iI (cn)), .ref rk, .ref rn, .ref ro, .ref rt]))], [(ri, .inl (τ 1, 500, .inl (fun j => iI ((b) j))))]]) _ _ := Y
  refine lv_if_eq (tgt := 70) B.1 B.2.1 dX6_readKind_61 (by decide) (fun _ => ?_) (fun h => absurd (by decide) h) 
  refine lv_iinc (v := (iI (1))) (lv' := [(2, .int (iI (1))), (3, .int (iI (1))), (1, .int (iI (((pt : Nat) : Int)))), (0, .ref rd)]) B.1 B.2.1 dX6_readKind_70 hl (k := 1) rfl (by decide) (by decide) rfl (fun ls hl => ?_)
  refine lv_goto (tgt := 11) B.1 B.2.1 dX6_readKind_73 (by decide) ?_
  refine lv_iload_n B.1 B.2.1 dX6_readKind_11 rfl (lv_at hl 0 rfl) ?_
  refine lv_bipush (v := (iI (10))) B.1 B.2.1 dX6_readKind_12 (by decide) ?_
  refine lv_icmp_ge (tgt := 76) B.1 B.2.1 dX6_readKind_14 (by decide) (fun h => absurd h (by decide)) (fun _ => ?_)
  refine lv_aload_n B.1 B.2.1 dX6_readKind_17 rfl (lv_at hl 3 rfl) ?_
  refine gf_X6_22 B Y 0 rfl rfl dX6_readKind_18 ?_
  refine lv_if_eq (tgt := 37) B.1 B.2.1 dX6_readKind_21 (by decide) (fun _ => ?_) (fun h => absurd (by decide) h) 
  refine lv_iload_n B.1 B.2.1 dX6_readKind_37 rfl (lv_at hl 0 rfl) ?_
  refine lv_iconst (v := (iI (3))) B.1 B.2.1 dX6_readKind_38 (by decide) ?_
  refine lv_icmp_gt (tgt := 46) B.1 B.2.1 dX6_readKind_39 (by decide) (fun h => absurd h (by decide)) (fun _ => ?_)
  refine lv_iconst (v := (iI (1))) B.1 B.2.1 dX6_readKind_42 (by decide) ?_
  refine lv_goto (tgt := 47) B.1 B.2.1 dX6_readKind_43 (by decide) ?_
  refine lv_istore_n (lv' := [(3, .int (iI (1))), (2, .int (iI (1))), (1, .int (iI (((pt : Nat) : Int)))), (0, .ref rd)]) B.1 B.2.1 dX6_readKind_47 rfl hl (by decide) rfl (fun ls hl => ?_)
  refine lv_iload_n B.1 B.2.1 dX6_readKind_48 rfl (lv_at hl 0 rfl) ?_
  refine lv_if_eq (tgt := 70) B.1 B.2.1 dX6_readKind_49 (by decide) (fun h => absurd h (by decide)) (fun _ => ?_)
  refine lv_aload_n B.1 B.2.1 dX6_readKind_52 rfl (lv_at hl 3 rfl) ?_
  refine lv_iload_n B.1 B.2.1 dX6_readKind_53 rfl (lv_at hl 2 rfl) ?_
  refine lv_iload_n B.1 B.2.1 dX6_readKind_54 rfl (lv_at hl 1 rfl) ?_
  refine qQ (Cs := []) (Rs := [[(rd, .inr (8, [.ref ri, .int (iI (((L : Nat) : Int))), .int (iI (((pt + 6) : Nat) : Int)), .int (iI (0)), .int (iI (er)), .int (iI (ea)), .int (iI (cn)), .ref rk, .ref rn, .ref ro, .ref rt]))], [(ri, .inl (τ 1, 500, .inl (fun j => iI ((b) j))))]]) Y [] [0, 1] (by decide) rfl (cSE (As := [.int (iI (1))]) (rest := [.int (iI (((pt : Nat) : Int))), .ref rd]) (Ke.ok K) hE B Y [] (by decide) rfl (k_wordOf1 l D τ _ K) q_802 q_803 q_3 q_804 rfl rfl hd_X6_wordOf ⟨(Nat.le_of_ble_eq_true rfl), (Nat.le_of_ble_eq_true rfl)⟩ rfl hl.1 rfl (Nat.le_of_ble_eq_true rfl) dX6_readKind_55 ⟨(Nat.le_of_ble_eq_true rfl), (Nat.le_of_ble_eq_true rfl)⟩) (fun r u H locs hw Y => ?_)
  subst hw
  have Y : Wd D τ s A s.heap (bl [[(rd, .inr (8, [.ref ri, .int (iI (((L : Nat) : Int))), .int (iI (((pt + 6) : Nat) : Int)), .int (iI (0)), .int (iI (er)), .int (iI (ea)), .int (iI (cn)), .ref rk, .ref rn, .ref ro, .ref rt]))], [(ri, .inl (τ 1, 500, .inl (fun j => iI ((b) j))))]]) _ _ := Y
  show W _ _ _ _ _ _ _ _ _ _ _ _ _ _ _ (F0 m _ ls (.ref (K (2 * 1)) :: .int (iI (((pt : Nat) : Int))) :: .ref rd :: []))
  refine qI (Cs := [[(rd, .inr (8, [.ref ri, .int (iI (((L : Nat) : Int))), .int (iI (((pt + 6) : Nat) : Int)), .int (iI (0)), .int (iI (er)), .int (iI (ea)), .int (iI (cn)), .ref rk, .ref rn, .ref ro, .ref rt]))], [(ri, .inl (τ 1, 500, .inl (fun j => iI ((b) j))))]]) (Rs := []) Y [0, 1] [] (by decide) rfl (cVE (As := [.int (iI (((pt : Nat) : Int))), .ref (K (2 * 1))]) (rest := []) (q0 := 0) (Ke.ok K) hE B Y [0, 1] (by decide) rfl (k_isWord l D τ _ K rd ri rk rn ro rt L (0) (er) (ea) (cn) b (by omega) hb pt (ksZ 2) hX1 (by omega) 1 (by decide)) rfl rfl q_815 q_817 qp_11 q_3 q_818 rfl rfl hd_X6_isWord ⟨(Nat.le_of_ble_eq_true rfl), (Nat.le_of_ble_eq_true rfl)⟩ rfl hl.1 rfl (Nat.le_of_ble_eq_true rfl) dX6_readKind_58 ⟨(Nat.le_of_ble_eq_true rfl), (Nat.le_of_ble_eq_true rfl)⟩) (fun r u H locs hw Y => ?_)
  rw [if_neg (by decide)] at hw
  have hw : r = 0 := hw
  subst hw
  have Y : Wd D τ s A s.heap (bl [[(rd, .inr (8, [.ref ri, .int (iI (((L : Nat) : Int))), .int (iI (((pt + 6) : Nat) : Int)), .int (iI (0)), .int (iI (er)), .int (iI (ea)), .int (iI (cn)), .ref rk, .ref rn, .ref ro, .ref rt]))], [(ri, .inl (τ 1, 500, .inl (fun j => iI ((b) j))))]]) _ _ := Y
  refine lv_if_eq (tgt := 70) B.1 B.2.1 dX6_readKind_61 (by decide) (fun _ => ?_) (fun h => absurd (by decide) h) 
  refine lv_iinc (v := (iI (2))) (lv' := [(2, .int (iI (2))), (3, .int (iI (1))), (1, .int (iI (((pt : Nat) : Int)))), (0, .ref rd)]) B.1 B.2.1 dX6_readKind_70 hl (k := 1) rfl (by decide) (by decide) rfl (fun ls hl => ?_)
  refine lv_goto (tgt := 11) B.1 B.2.1 dX6_readKind_73 (by decide) ?_
  refine lv_iload_n B.1 B.2.1 dX6_readKind_11 rfl (lv_at hl 0 rfl) ?_
  refine lv_bipush (v := (iI (10))) B.1 B.2.1 dX6_readKind_12 (by decide) ?_
  refine lv_icmp_ge (tgt := 76) B.1 B.2.1 dX6_readKind_14 (by decide) (fun h => absurd h (by decide)) (fun _ => ?_)
  refine lv_aload_n B.1 B.2.1 dX6_readKind_17 rfl (lv_at hl 3 rfl) ?_
  refine gf_X6_22 B Y 0 rfl rfl dX6_readKind_18 ?_
  refine lv_if_eq (tgt := 37) B.1 B.2.1 dX6_readKind_21 (by decide) (fun _ => ?_) (fun h => absurd (by decide) h) 
  refine lv_iload_n B.1 B.2.1 dX6_readKind_37 rfl (lv_at hl 0 rfl) ?_
  refine lv_iconst (v := (iI (3))) B.1 B.2.1 dX6_readKind_38 (by decide) ?_
  refine lv_icmp_gt (tgt := 46) B.1 B.2.1 dX6_readKind_39 (by decide) (fun h => absurd h (by decide)) (fun _ => ?_)
  refine lv_iconst (v := (iI (1))) B.1 B.2.1 dX6_readKind_42 (by decide) ?_
  refine lv_goto (tgt := 47) B.1 B.2.1 dX6_readKind_43 (by decide) ?_
  refine lv_istore_n (lv' := [(3, .int (iI (1))), (2, .int (iI (2))), (1, .int (iI (((pt : Nat) : Int)))), (0, .ref rd)]) B.1 B.2.1 dX6_readKind_47 rfl hl (by decide) rfl (fun ls hl => ?_)
  refine lv_iload_n B.1 B.2.1 dX6_readKind_48 rfl (lv_at hl 0 rfl) ?_
  refine lv_if_eq (tgt := 70) B.1 B.2.1 dX6_readKind_49 (by decide) (fun h => absurd h (by decide)) (fun _ => ?_)
  refine lv_aload_n B.1 B.2.1 dX6_readKind_52 rfl (lv_at hl 3 rfl) ?_
  refine lv_iload_n B.1 B.2.1 dX6_readKind_53 rfl (lv_at hl 2 rfl) ?_
  refine lv_iload_n B.1 B.2.1 dX6_readKind_54 rfl (lv_at hl 1 rfl) ?_
  refine qQ (Cs := []) (Rs := [[(rd, .inr (8, [.ref ri, .int (iI (((L : Nat) : Int))), .int (iI (((pt + 6) : Nat) : Int)), .int (iI (0)), .int (iI (er)), .int (iI (ea)), .int (iI (cn)), .ref rk, .ref rn, .ref ro, .ref rt]))], [(ri, .inl (τ 1, 500, .inl (fun j => iI ((b) j))))]]) Y [] [0, 1] (by decide) rfl (cSE (As := [.int (iI (2))]) (rest := [.int (iI (((pt : Nat) : Int))), .ref rd]) (Ke.ok K) hE B Y [] (by decide) rfl (k_wordOf2 l D τ _ K) q_802 q_803 q_3 q_804 rfl rfl hd_X6_wordOf ⟨(Nat.le_of_ble_eq_true rfl), (Nat.le_of_ble_eq_true rfl)⟩ rfl hl.1 rfl (Nat.le_of_ble_eq_true rfl) dX6_readKind_55 ⟨(Nat.le_of_ble_eq_true rfl), (Nat.le_of_ble_eq_true rfl)⟩) (fun r u H locs hw Y => ?_)
  subst hw
  have Y : Wd D τ s A s.heap (bl [[(rd, .inr (8, [.ref ri, .int (iI (((L : Nat) : Int))), .int (iI (((pt + 6) : Nat) : Int)), .int (iI (0)), .int (iI (er)), .int (iI (ea)), .int (iI (cn)), .ref rk, .ref rn, .ref ro, .ref rt]))], [(ri, .inl (τ 1, 500, .inl (fun j => iI ((b) j))))]]) _ _ := Y
  show W _ _ _ _ _ _ _ _ _ _ _ _ _ _ _ (F0 m _ ls (.ref (K (2 * 2)) :: .int (iI (((pt : Nat) : Int))) :: .ref rd :: []))
  refine qI (Cs := [[(rd, .inr (8, [.ref ri, .int (iI (((L : Nat) : Int))), .int (iI (((pt + 6) : Nat) : Int)), .int (iI (0)), .int (iI (er)), .int (iI (ea)), .int (iI (cn)), .ref rk, .ref rn, .ref ro, .ref rt]))], [(ri, .inl (τ 1, 500, .inl (fun j => iI ((b) j))))]]) (Rs := []) Y [0, 1] [] (by decide) rfl (cVE (As := [.int (iI (((pt : Nat) : Int))), .ref (K (2 * 2))]) (rest := []) (q0 := 0) (Ke.ok K) hE B Y [0, 1] (by decide) rfl (k_isWord l D τ _ K rd ri rk rn ro rt L (0) (er) (ea) (cn) b (by omega) hb pt (ksZ 2) hX1 (by omega) 2 (by decide)) rfl rfl q_815 q_817 qp_11 q_3 q_818 rfl rfl hd_X6_isWord ⟨(Nat.le_of_ble_eq_true rfl), (Nat.le_of_ble_eq_true rfl)⟩ rfl hl.1 rfl (Nat.le_of_ble_eq_true rfl) dX6_readKind_58 ⟨(Nat.le_of_ble_eq_true rfl), (Nat.le_of_ble_eq_true rfl)⟩) (fun r u H locs hw Y => ?_)
  rw [if_pos (by decide)] at hw
  have hw : r = 1 := hw
  subst hw
  have Y : Wd D τ s A s.heap (bl [[(rd, .inr (8, [.ref ri, .int (iI (((L : Nat) : Int))), .int (iI (((pt + 6) : Nat) : Int)), .int (iI (0)), .int (iI (er)), .int (iI (ea)), .int (iI (cn)), .ref rk, .ref rn, .ref ro, .ref rt]))], [(ri, .inl (τ 1, 500, .inl (fun j => iI ((b) j))))]]) _ _ := Y
  refine lv_if_eq (tgt := 70) B.1 B.2.1 dX6_readKind_61 (by decide) (fun h => absurd h (by decide)) (fun _ => ?_)
  refine lv_aload_n B.1 B.2.1 dX6_readKind_64 rfl (lv_at hl 3 rfl) ?_
  refine qV (Cs := [[(rd, .inr (8, [.ref ri, .int (iI (((L : Nat) : Int))), .int (iI (((pt + 6) : Nat) : Int)), .int (iI (0)), .int (iI (er)), .int (iI (ea)), .int (iI (cn)), .ref rk, .ref rn, .ref ro, .ref rt]))], [(ri, .inl (τ 1, 500, .inl (fun j => iI ((b) j))))]]) (Rs := []) Y [0, 1] [] (by decide) rfl (cV (As := []) (rest := []) (q0 := 0) B Y [0, 1] (by decide) rfl (k_skipSpaces l D τ _ rd ri rk rn ro rt L (0) (er) (ea) (cn) b (by omega) hb (pt + 6) (pt + 7) (by omega) (by omega) (fun j h1 h2 => by rw [show j = pt + 6 by omega]; exact hX2) (fun _ => by rw [show pt + 7 = pt + 7 from rfl]; omega)) rfl rfl q_778 q_780 qp_5 q_3 q_781 rfl rfl hd_X6_skipSpaces ⟨(Nat.le_of_ble_eq_true rfl), (Nat.le_of_ble_eq_true rfl)⟩ rfl hl.1 rfl (Nat.le_of_ble_eq_true rfl) dX6_readKind_65 ⟨(Nat.le_of_ble_eq_true rfl), (Nat.le_of_ble_eq_true rfl)⟩) (fun u H locs hw Y => ?_)
  have Y : Wd D τ s A s.heap (bl [[(rd, .inr (8, [.ref ri, .int (iI (((L : Nat) : Int))), .int (iI (((pt + 7) : Nat) : Int)), .int (iI (0)), .int (iI (er)), .int (iI (ea)), .int (iI (cn)), .ref rk, .ref rn, .ref ro, .ref rt]))], [(ri, .inl (τ 1, 500, .inl (fun j => iI ((b) j))))]]) _ _ := Y
  refine lv_iload_n B.1 B.2.1 dX6_readKind_68 rfl (lv_at hl 1 rfl) ?_
  exact eI B hr hlk Y () rfl [0, 1] (by decide) rfl (Nat.le_of_ble_eq_true rfl) (Nat.le_of_ble_eq_true rfl) dX6_readKind_69

set_option maxHeartbeats 4000000 in
set_option maxRecDepth 100000 in
theorem k_readKind3_0 (l : Launch) (D : va_G) (τ : Nat → ClassId) (sz : Nat) (K : Nat → Nat) (rd ri rk rn ro rt L : Nat) (er ea cn : Int) (b : Nat → Int) (hL : L ≤ 500) (hb : BOk b) (pt : Nat) (hX : ats b pt (ksZ 3 ++ [32])) (hpL : pt + 5 < L) (hdd : 48 ≤ b (pt + 5) ∧ b (pt + 5) ≤ 57) : Met l yX6_readKind (Cond.code yX6_readKind cX6_readKind 4 (some .int) :: wALL) { frames := 5, cells := 0, slots := 0, locals := 109 } (PwE (Ke K) D τ (bl [[(rd, .inr (8, [.ref ri, .int (iI (((L : Nat) : Int))), .int (iI (((pt : Nat) : Int))), .int (iI (0)), .int (iI (er)), .int (iI (ea)), .int (iI (cn)), .ref rk, .ref rn, .ref ro, .ref rt]))], [(ri, .inl (τ 1, 500, .inl (fun j => iI ((b) j))))]]) sz [.ref rd]) (va_Qi (fun (r : Int32) (_ : Unit) => r = iI 3) (Bb D (va_A (bl [[(rd, .inr (8, [.ref ri, .int (iI (((L : Nat) : Int))), .int (iI (((pt : Nat) : Int))), .int (iI (0)), .int (iI (er)), .int (iI (ea)), .int (iI (cn)), .ref rk, .ref rn, .ref ro, .ref rt]))], [(ri, .inl (τ 1, 500, .inl (fun j => iI ((b) j))))]]) sz) (fun (_ : Unit) => [[(rd, .inr (8, [.ref ri, .int (iI (((L : Nat) : Int))), .int (iI ((((pt + 5) : Nat) : Int))), .int (iI (0)), .int (iI (er)), .int (iI (ea)), .int (iI (cn)), .ref rk, .ref rn, .ref ro, .ref rt]))], [(ri, .inl (τ 1, 500, .inl (fun j => iI ((b) j))))]])) (va_A (bl [[(rd, .inr (8, [.ref ri, .int (iI (((L : Nat) : Int))), .int (iI (((pt : Nat) : Int))), .int (iI (0)), .int (iI (er)), .int (iI (ea)), .int (iI (cn)), .ref rk, .ref rn, .ref ro, .ref rt]))], [(ri, .inl (τ 1, 500, .inl (fun j => iI ((b) j))))]]) sz)) 0 0 (va_A (bl [[(rd, .inr (8, [.ref ri, .int (iI (((L : Nat) : Int))), .int (iI (((pt : Nat) : Int))), .int (iI (0)), .int (iI (er)), .int (iI (ea)), .int (iI (cn)), .ref rk, .ref rn, .ref ro, .ref rt]))], [(ri, .inl (τ 1, 500, .inl (fun j => iI ((b) j))))]]) sz) := by
  refine bodyE (by decide +kernel) (Nat.le_of_ble_eq_true rfl) (fun p e s m below meth c ls B hr hlk hin hsz Y hE hl => ?_)
  have hl : lv_has ls 4 [(0, .ref rd)] := hl
  have B : CallFix p m c cX6_readKind 4 s _ wALL RX6 := B
  generalize va_A (bl [[(rd, .inr (8, [.ref ri, .int (iI (((L : Nat) : Int))), .int (iI (((pt : Nat) : Int))), .int (iI (0)), .int (iI (er)), .int (iI (ea)), .int (iI (cn)), .ref rk, .ref rn, .ref ro, .ref rt]))], [(ri, .inl (τ 1, 500, .inl (fun j => iI ((b) j))))]]) sz = A at Y hE ⊢
  have hX1 := (ats_app.mp hX).1
  have hX2 : b (pt + 4) = 32 := (ats_app.mp hX).2 0 (by decide)
  have hkl : (ksZ 3).length = 4 := by decide
  have hLt : ∀ x ∈ ksZ 3, (97 : Int) ≤ x ∧ x ≤ 122 := by decide
  refine lv_aload_n B.1 B.2.1 dX6_readKind_0 rfl (lv_at hl 0 rfl) ?_
  refine gf_X6_19 B Y 0 rfl rfl dX6_readKind_1 ?_
  refine lv_istore_n (lv' := [(1, .int (iI (((pt : Nat) : Int)))), (0, .ref rd)]) B.1 B.2.1 dX6_readKind_4 rfl hl (by decide) rfl (fun ls hl => ?_)
  refine lv_aload_n B.1 B.2.1 dX6_readKind_5 rfl (lv_at hl 1 rfl) ?_
  refine qV (Cs := [[(rd, .inr (8, [.ref ri, .int (iI (((L : Nat) : Int))), .int (iI (((pt : Nat) : Int))), .int (iI (0)), .int (iI (er)), .int (iI (ea)), .int (iI (cn)), .ref rk, .ref rn, .ref ro, .ref rt]))], [(ri, .inl (τ 1, 500, .inl (fun j => iI ((b) j))))]]) (Rs := []) Y [0, 1] [] (by decide) rfl (cV (As := []) (rest := []) (q0 := 0) B Y [0, 1] (by decide) rfl (k_skipWord l D τ _ rd ri rk rn ro rt L (0) (er) (ea) (cn) b (by omega) hb pt (pt + 4) (by omega) (by omega) (fun j h1 h2 => ats_all hX1 hLt j h1 h2) (fun _ => Or.inl (by omega))) rfl rfl q_794 q_796 qp_9 q_3 q_797 rfl rfl hd_X6_skipWord ⟨(Nat.le_of_ble_eq_true rfl), (Nat.le_of_ble_eq_true rfl)⟩ rfl hl.1 rfl (Nat.le_of_ble_eq_true rfl) dX6_readKind_6 ⟨(Nat.le_of_ble_eq_true rfl), (Nat.le_of_ble_eq_true rfl)⟩) (fun u H locs hw Y => ?_)
  have Y : Wd D τ s A s.heap (bl [[(rd, .inr (8, [.ref ri, .int (iI (((L : Nat) : Int))), .int (iI (((pt + 4) : Nat) : Int)), .int (iI (0)), .int (iI (er)), .int (iI (ea)), .int (iI (cn)), .ref rk, .ref rn, .ref ro, .ref rt]))], [(ri, .inl (τ 1, 500, .inl (fun j => iI ((b) j))))]]) _ _ := Y
  refine lv_iconst (v := (iI (0))) B.1 B.2.1 dX6_readKind_9 (by decide) ?_
  refine lv_istore_n (lv' := [(2, .int (iI (0))), (1, .int (iI (((pt : Nat) : Int)))), (0, .ref rd)]) B.1 B.2.1 dX6_readKind_10 rfl hl (by decide) rfl (fun ls hl => ?_)
  refine lv_iload_n B.1 B.2.1 dX6_readKind_11 rfl (lv_at hl 0 rfl) ?_
  refine lv_bipush (v := (iI (10))) B.1 B.2.1 dX6_readKind_12 (by decide) ?_
  refine lv_icmp_ge (tgt := 76) B.1 B.2.1 dX6_readKind_14 (by decide) (fun h => absurd h (by decide)) (fun _ => ?_)
  refine lv_aload_n B.1 B.2.1 dX6_readKind_17 rfl (lv_at hl 2 rfl) ?_
  refine gf_X6_22 B Y 0 rfl rfl dX6_readKind_18 ?_
  refine lv_if_eq (tgt := 37) B.1 B.2.1 dX6_readKind_21 (by decide) (fun _ => ?_) (fun h => absurd (by decide) h) 
  refine lv_iload_n B.1 B.2.1 dX6_readKind_37 rfl (lv_at hl 0 rfl) ?_
  refine lv_iconst (v := (iI (3))) B.1 B.2.1 dX6_readKind_38 (by decide) ?_
  refine lv_icmp_gt (tgt := 46) B.1 B.2.1 dX6_readKind_39 (by decide) (fun h => absurd h (by decide)) (fun _ => ?_)
  refine lv_iconst (v := (iI (1))) B.1 B.2.1 dX6_readKind_42 (by decide) ?_
  refine lv_goto (tgt := 47) B.1 B.2.1 dX6_readKind_43 (by decide) ?_
  refine lv_istore_n (lv' := [(3, .int (iI (1))), (2, .int (iI (0))), (1, .int (iI (((pt : Nat) : Int)))), (0, .ref rd)]) B.1 B.2.1 dX6_readKind_47 rfl hl (by decide) rfl (fun ls hl => ?_)
  refine lv_iload_n B.1 B.2.1 dX6_readKind_48 rfl (lv_at hl 0 rfl) ?_
  refine lv_if_eq (tgt := 70) B.1 B.2.1 dX6_readKind_49 (by decide) (fun h => absurd h (by decide)) (fun _ => ?_)
  refine lv_aload_n B.1 B.2.1 dX6_readKind_52 rfl (lv_at hl 3 rfl) ?_
  refine lv_iload_n B.1 B.2.1 dX6_readKind_53 rfl (lv_at hl 2 rfl) ?_
  refine lv_iload_n B.1 B.2.1 dX6_readKind_54 rfl (lv_at hl 1 rfl) ?_
  refine qQ (Cs := []) (Rs := [[(rd, .inr (8, [.ref ri, .int (iI (((L : Nat) : Int))), .int (iI (((pt + 4) : Nat) : Int)), .int (iI (0)), .int (iI (er)), .int (iI (ea)), .int (iI (cn)), .ref rk, .ref rn, .ref ro, .ref rt]))], [(ri, .inl (τ 1, 500, .inl (fun j => iI ((b) j))))]]) Y [] [0, 1] (by decide) rfl (cSE (As := [.int (iI (0))]) (rest := [.int (iI (((pt : Nat) : Int))), .ref rd]) (Ke.ok K) hE B Y [] (by decide) rfl (k_wordOf0 l D τ _ K) q_802 q_803 q_3 q_804 rfl rfl hd_X6_wordOf ⟨(Nat.le_of_ble_eq_true rfl), (Nat.le_of_ble_eq_true rfl)⟩ rfl hl.1 rfl (Nat.le_of_ble_eq_true rfl) dX6_readKind_55 ⟨(Nat.le_of_ble_eq_true rfl), (Nat.le_of_ble_eq_true rfl)⟩) (fun r u H locs hw Y => ?_)
  subst hw
  have Y : Wd D τ s A s.heap (bl [[(rd, .inr (8, [.ref ri, .int (iI (((L : Nat) : Int))), .int (iI (((pt + 4) : Nat) : Int)), .int (iI (0)), .int (iI (er)), .int (iI (ea)), .int (iI (cn)), .ref rk, .ref rn, .ref ro, .ref rt]))], [(ri, .inl (τ 1, 500, .inl (fun j => iI ((b) j))))]]) _ _ := Y
  show W _ _ _ _ _ _ _ _ _ _ _ _ _ _ _ (F0 m _ ls (.ref (K (2 * 0)) :: .int (iI (((pt : Nat) : Int))) :: .ref rd :: []))
  refine qI (Cs := [[(rd, .inr (8, [.ref ri, .int (iI (((L : Nat) : Int))), .int (iI (((pt + 4) : Nat) : Int)), .int (iI (0)), .int (iI (er)), .int (iI (ea)), .int (iI (cn)), .ref rk, .ref rn, .ref ro, .ref rt]))], [(ri, .inl (τ 1, 500, .inl (fun j => iI ((b) j))))]]) (Rs := []) Y [0, 1] [] (by decide) rfl (cVE (As := [.int (iI (((pt : Nat) : Int))), .ref (K (2 * 0))]) (rest := []) (q0 := 0) (Ke.ok K) hE B Y [0, 1] (by decide) rfl (k_isWord l D τ _ K rd ri rk rn ro rt L (0) (er) (ea) (cn) b (by omega) hb pt (ksZ 3) hX1 (by omega) 0 (by decide)) rfl rfl q_815 q_817 qp_11 q_3 q_818 rfl rfl hd_X6_isWord ⟨(Nat.le_of_ble_eq_true rfl), (Nat.le_of_ble_eq_true rfl)⟩ rfl hl.1 rfl (Nat.le_of_ble_eq_true rfl) dX6_readKind_58 ⟨(Nat.le_of_ble_eq_true rfl), (Nat.le_of_ble_eq_true rfl)⟩) (fun r u H locs hw Y => ?_)
  rw [if_neg (by decide)] at hw
  have hw : r = 0 := hw
  subst hw
  have Y : Wd D τ s A s.heap (bl [[(rd, .inr (8, [.ref ri, .int (iI (((L : Nat) : Int))), .int (iI (((pt + 4) : Nat) : Int)), .int (iI (0)), .int (iI (er)), .int (iI (ea)), .int (iI (cn)), .ref rk, .ref rn, .ref ro, .ref rt]))], [(ri, .inl (τ 1, 500, .inl (fun j => iI ((b) j))))]]) _ _ := Y
  refine lv_if_eq (tgt := 70) B.1 B.2.1 dX6_readKind_61 (by decide) (fun _ => ?_) (fun h => absurd (by decide) h) 
  refine lv_iinc (v := (iI (1))) (lv' := [(2, .int (iI (1))), (3, .int (iI (1))), (1, .int (iI (((pt : Nat) : Int)))), (0, .ref rd)]) B.1 B.2.1 dX6_readKind_70 hl (k := 1) rfl (by decide) (by decide) rfl (fun ls hl => ?_)
  refine lv_goto (tgt := 11) B.1 B.2.1 dX6_readKind_73 (by decide) ?_
  refine lv_iload_n B.1 B.2.1 dX6_readKind_11 rfl (lv_at hl 0 rfl) ?_
  refine lv_bipush (v := (iI (10))) B.1 B.2.1 dX6_readKind_12 (by decide) ?_
  refine lv_icmp_ge (tgt := 76) B.1 B.2.1 dX6_readKind_14 (by decide) (fun h => absurd h (by decide)) (fun _ => ?_)
  refine lv_aload_n B.1 B.2.1 dX6_readKind_17 rfl (lv_at hl 3 rfl) ?_
  refine gf_X6_22 B Y 0 rfl rfl dX6_readKind_18 ?_
  refine lv_if_eq (tgt := 37) B.1 B.2.1 dX6_readKind_21 (by decide) (fun _ => ?_) (fun h => absurd (by decide) h) 
  refine lv_iload_n B.1 B.2.1 dX6_readKind_37 rfl (lv_at hl 0 rfl) ?_
  refine lv_iconst (v := (iI (3))) B.1 B.2.1 dX6_readKind_38 (by decide) ?_
  refine lv_icmp_gt (tgt := 46) B.1 B.2.1 dX6_readKind_39 (by decide) (fun h => absurd h (by decide)) (fun _ => ?_)
  refine lv_iconst (v := (iI (1))) B.1 B.2.1 dX6_readKind_42 (by decide) ?_
  refine lv_goto (tgt := 47) B.1 B.2.1 dX6_readKind_43 (by decide) ?_
  refine lv_istore_n (lv' := [(3, .int (iI (1))), (2, .int (iI (1))), (1, .int (iI (((pt : Nat) : Int)))), (0, .ref rd)]) B.1 B.2.1 dX6_readKind_47 rfl hl (by decide) rfl (fun ls hl => ?_)
  refine lv_iload_n B.1 B.2.1 dX6_readKind_48 rfl (lv_at hl 0 rfl) ?_
  refine lv_if_eq (tgt := 70) B.1 B.2.1 dX6_readKind_49 (by decide) (fun h => absurd h (by decide)) (fun _ => ?_)
  refine lv_aload_n B.1 B.2.1 dX6_readKind_52 rfl (lv_at hl 3 rfl) ?_
  refine lv_iload_n B.1 B.2.1 dX6_readKind_53 rfl (lv_at hl 2 rfl) ?_
  refine lv_iload_n B.1 B.2.1 dX6_readKind_54 rfl (lv_at hl 1 rfl) ?_
  refine qQ (Cs := []) (Rs := [[(rd, .inr (8, [.ref ri, .int (iI (((L : Nat) : Int))), .int (iI (((pt + 4) : Nat) : Int)), .int (iI (0)), .int (iI (er)), .int (iI (ea)), .int (iI (cn)), .ref rk, .ref rn, .ref ro, .ref rt]))], [(ri, .inl (τ 1, 500, .inl (fun j => iI ((b) j))))]]) Y [] [0, 1] (by decide) rfl (cSE (As := [.int (iI (1))]) (rest := [.int (iI (((pt : Nat) : Int))), .ref rd]) (Ke.ok K) hE B Y [] (by decide) rfl (k_wordOf1 l D τ _ K) q_802 q_803 q_3 q_804 rfl rfl hd_X6_wordOf ⟨(Nat.le_of_ble_eq_true rfl), (Nat.le_of_ble_eq_true rfl)⟩ rfl hl.1 rfl (Nat.le_of_ble_eq_true rfl) dX6_readKind_55 ⟨(Nat.le_of_ble_eq_true rfl), (Nat.le_of_ble_eq_true rfl)⟩) (fun r u H locs hw Y => ?_)
  subst hw
  have Y : Wd D τ s A s.heap (bl [[(rd, .inr (8, [.ref ri, .int (iI (((L : Nat) : Int))), .int (iI (((pt + 4) : Nat) : Int)), .int (iI (0)), .int (iI (er)), .int (iI (ea)), .int (iI (cn)), .ref rk, .ref rn, .ref ro, .ref rt]))], [(ri, .inl (τ 1, 500, .inl (fun j => iI ((b) j))))]]) _ _ := Y
  show W _ _ _ _ _ _ _ _ _ _ _ _ _ _ _ (F0 m _ ls (.ref (K (2 * 1)) :: .int (iI (((pt : Nat) : Int))) :: .ref rd :: []))
  refine qI (Cs := [[(rd, .inr (8, [.ref ri, .int (iI (((L : Nat) : Int))), .int (iI (((pt + 4) : Nat) : Int)), .int (iI (0)), .int (iI (er)), .int (iI (ea)), .int (iI (cn)), .ref rk, .ref rn, .ref ro, .ref rt]))], [(ri, .inl (τ 1, 500, .inl (fun j => iI ((b) j))))]]) (Rs := []) Y [0, 1] [] (by decide) rfl (cVE (As := [.int (iI (((pt : Nat) : Int))), .ref (K (2 * 1))]) (rest := []) (q0 := 0) (Ke.ok K) hE B Y [0, 1] (by decide) rfl (k_isWord l D τ _ K rd ri rk rn ro rt L (0) (er) (ea) (cn) b (by omega) hb pt (ksZ 3) hX1 (by omega) 1 (by decide)) rfl rfl q_815 q_817 qp_11 q_3 q_818 rfl rfl hd_X6_isWord ⟨(Nat.le_of_ble_eq_true rfl), (Nat.le_of_ble_eq_true rfl)⟩ rfl hl.1 rfl (Nat.le_of_ble_eq_true rfl) dX6_readKind_58 ⟨(Nat.le_of_ble_eq_true rfl), (Nat.le_of_ble_eq_true rfl)⟩) (fun r u H locs hw Y => ?_)
  rw [if_neg (by decide)] at hw
  have hw : r = 0 := hw
  subst hw
  have Y : Wd D τ s A s.heap (bl [[(rd, .inr (8, [.ref ri, .int (iI (((L : Nat) : Int))), .int (iI (((pt + 4) : Nat) : Int)), .int (iI (0)), .int (iI (er)), .int (iI (ea)), .int (iI (cn)), .ref rk, .ref rn, .ref ro, .ref rt]))], [(ri, .inl (τ 1, 500, .inl (fun j => iI ((b) j))))]]) _ _ := Y
  refine lv_if_eq (tgt := 70) B.1 B.2.1 dX6_readKind_61 (by decide) (fun _ => ?_) (fun h => absurd (by decide) h) 
  refine lv_iinc (v := (iI (2))) (lv' := [(2, .int (iI (2))), (3, .int (iI (1))), (1, .int (iI (((pt : Nat) : Int)))), (0, .ref rd)]) B.1 B.2.1 dX6_readKind_70 hl (k := 1) rfl (by decide) (by decide) rfl (fun ls hl => ?_)
  refine lv_goto (tgt := 11) B.1 B.2.1 dX6_readKind_73 (by decide) ?_
  refine lv_iload_n B.1 B.2.1 dX6_readKind_11 rfl (lv_at hl 0 rfl) ?_
  refine lv_bipush (v := (iI (10))) B.1 B.2.1 dX6_readKind_12 (by decide) ?_
  refine lv_icmp_ge (tgt := 76) B.1 B.2.1 dX6_readKind_14 (by decide) (fun h => absurd h (by decide)) (fun _ => ?_)
  refine lv_aload_n B.1 B.2.1 dX6_readKind_17 rfl (lv_at hl 3 rfl) ?_
  refine gf_X6_22 B Y 0 rfl rfl dX6_readKind_18 ?_
  refine lv_if_eq (tgt := 37) B.1 B.2.1 dX6_readKind_21 (by decide) (fun _ => ?_) (fun h => absurd (by decide) h) 
  refine lv_iload_n B.1 B.2.1 dX6_readKind_37 rfl (lv_at hl 0 rfl) ?_
  refine lv_iconst (v := (iI (3))) B.1 B.2.1 dX6_readKind_38 (by decide) ?_
  refine lv_icmp_gt (tgt := 46) B.1 B.2.1 dX6_readKind_39 (by decide) (fun h => absurd h (by decide)) (fun _ => ?_)
  refine lv_iconst (v := (iI (1))) B.1 B.2.1 dX6_readKind_42 (by decide) ?_
  refine lv_goto (tgt := 47) B.1 B.2.1 dX6_readKind_43 (by decide) ?_
  refine lv_istore_n (lv' := [(3, .int (iI (1))), (2, .int (iI (2))), (1, .int (iI (((pt : Nat) : Int)))), (0, .ref rd)]) B.1 B.2.1 dX6_readKind_47 rfl hl (by decide) rfl (fun ls hl => ?_)
  refine lv_iload_n B.1 B.2.1 dX6_readKind_48 rfl (lv_at hl 0 rfl) ?_
  refine lv_if_eq (tgt := 70) B.1 B.2.1 dX6_readKind_49 (by decide) (fun h => absurd h (by decide)) (fun _ => ?_)
  refine lv_aload_n B.1 B.2.1 dX6_readKind_52 rfl (lv_at hl 3 rfl) ?_
  refine lv_iload_n B.1 B.2.1 dX6_readKind_53 rfl (lv_at hl 2 rfl) ?_
  refine lv_iload_n B.1 B.2.1 dX6_readKind_54 rfl (lv_at hl 1 rfl) ?_
  refine qQ (Cs := []) (Rs := [[(rd, .inr (8, [.ref ri, .int (iI (((L : Nat) : Int))), .int (iI (((pt + 4) : Nat) : Int)), .int (iI (0)), .int (iI (er)), .int (iI (ea)), .int (iI (cn)), .ref rk, .ref rn, .ref ro, .ref rt]))], [(ri, .inl (τ 1, 500, .inl (fun j => iI ((b) j))))]]) Y [] [0, 1] (by decide) rfl (cSE (As := [.int (iI (2))]) (rest := [.int (iI (((pt : Nat) : Int))), .ref rd]) (Ke.ok K) hE B Y [] (by decide) rfl (k_wordOf2 l D τ _ K) q_802 q_803 q_3 q_804 rfl rfl hd_X6_wordOf ⟨(Nat.le_of_ble_eq_true rfl), (Nat.le_of_ble_eq_true rfl)⟩ rfl hl.1 rfl (Nat.le_of_ble_eq_true rfl) dX6_readKind_55 ⟨(Nat.le_of_ble_eq_true rfl), (Nat.le_of_ble_eq_true rfl)⟩) (fun r u H locs hw Y => ?_)
  subst hw
  have Y : Wd D τ s A s.heap (bl [[(rd, .inr (8, [.ref ri, .int (iI (((L : Nat) : Int))), .int (iI (((pt + 4) : Nat) : Int)), .int (iI (0)), .int (iI (er)), .int (iI (ea)), .int (iI (cn)), .ref rk, .ref rn, .ref ro, .ref rt]))], [(ri, .inl (τ 1, 500, .inl (fun j => iI ((b) j))))]]) _ _ := Y
  show W _ _ _ _ _ _ _ _ _ _ _ _ _ _ _ (F0 m _ ls (.ref (K (2 * 2)) :: .int (iI (((pt : Nat) : Int))) :: .ref rd :: []))
  refine qI (Cs := [[(rd, .inr (8, [.ref ri, .int (iI (((L : Nat) : Int))), .int (iI (((pt + 4) : Nat) : Int)), .int (iI (0)), .int (iI (er)), .int (iI (ea)), .int (iI (cn)), .ref rk, .ref rn, .ref ro, .ref rt]))], [(ri, .inl (τ 1, 500, .inl (fun j => iI ((b) j))))]]) (Rs := []) Y [0, 1] [] (by decide) rfl (cVE (As := [.int (iI (((pt : Nat) : Int))), .ref (K (2 * 2))]) (rest := []) (q0 := 0) (Ke.ok K) hE B Y [0, 1] (by decide) rfl (k_isWord l D τ _ K rd ri rk rn ro rt L (0) (er) (ea) (cn) b (by omega) hb pt (ksZ 3) hX1 (by omega) 2 (by decide)) rfl rfl q_815 q_817 qp_11 q_3 q_818 rfl rfl hd_X6_isWord ⟨(Nat.le_of_ble_eq_true rfl), (Nat.le_of_ble_eq_true rfl)⟩ rfl hl.1 rfl (Nat.le_of_ble_eq_true rfl) dX6_readKind_58 ⟨(Nat.le_of_ble_eq_true rfl), (Nat.le_of_ble_eq_true rfl)⟩) (fun r u H locs hw Y => ?_)
  rw [if_neg (by decide)] at hw
  have hw : r = 0 := hw
  subst hw
  have Y : Wd D τ s A s.heap (bl [[(rd, .inr (8, [.ref ri, .int (iI (((L : Nat) : Int))), .int (iI (((pt + 4) : Nat) : Int)), .int (iI (0)), .int (iI (er)), .int (iI (ea)), .int (iI (cn)), .ref rk, .ref rn, .ref ro, .ref rt]))], [(ri, .inl (τ 1, 500, .inl (fun j => iI ((b) j))))]]) _ _ := Y
  refine lv_if_eq (tgt := 70) B.1 B.2.1 dX6_readKind_61 (by decide) (fun _ => ?_) (fun h => absurd (by decide) h) 
  refine lv_iinc (v := (iI (3))) (lv' := [(2, .int (iI (3))), (3, .int (iI (1))), (1, .int (iI (((pt : Nat) : Int)))), (0, .ref rd)]) B.1 B.2.1 dX6_readKind_70 hl (k := 1) rfl (by decide) (by decide) rfl (fun ls hl => ?_)
  refine lv_goto (tgt := 11) B.1 B.2.1 dX6_readKind_73 (by decide) ?_
  refine lv_iload_n B.1 B.2.1 dX6_readKind_11 rfl (lv_at hl 0 rfl) ?_
  refine lv_bipush (v := (iI (10))) B.1 B.2.1 dX6_readKind_12 (by decide) ?_
  refine lv_icmp_ge (tgt := 76) B.1 B.2.1 dX6_readKind_14 (by decide) (fun h => absurd h (by decide)) (fun _ => ?_)
  refine lv_aload_n B.1 B.2.1 dX6_readKind_17 rfl (lv_at hl 3 rfl) ?_
  refine gf_X6_22 B Y 0 rfl rfl dX6_readKind_18 ?_
  refine lv_if_eq (tgt := 37) B.1 B.2.1 dX6_readKind_21 (by decide) (fun _ => ?_) (fun h => absurd (by decide) h) 
  refine lv_iload_n B.1 B.2.1 dX6_readKind_37 rfl (lv_at hl 0 rfl) ?_
  refine lv_iconst (v := (iI (3))) B.1 B.2.1 dX6_readKind_38 (by decide) ?_
  refine lv_icmp_gt (tgt := 46) B.1 B.2.1 dX6_readKind_39 (by decide) (fun h => absurd h (by decide)) (fun _ => ?_)
  refine lv_iconst (v := (iI (1))) B.1 B.2.1 dX6_readKind_42 (by decide) ?_
  refine lv_goto (tgt := 47) B.1 B.2.1 dX6_readKind_43 (by decide) ?_
  refine lv_istore_n (lv' := [(3, .int (iI (1))), (2, .int (iI (3))), (1, .int (iI (((pt : Nat) : Int)))), (0, .ref rd)]) B.1 B.2.1 dX6_readKind_47 rfl hl (by decide) rfl (fun ls hl => ?_)
  refine lv_iload_n B.1 B.2.1 dX6_readKind_48 rfl (lv_at hl 0 rfl) ?_
  refine lv_if_eq (tgt := 70) B.1 B.2.1 dX6_readKind_49 (by decide) (fun h => absurd h (by decide)) (fun _ => ?_)
  refine lv_aload_n B.1 B.2.1 dX6_readKind_52 rfl (lv_at hl 3 rfl) ?_
  refine lv_iload_n B.1 B.2.1 dX6_readKind_53 rfl (lv_at hl 2 rfl) ?_
  refine lv_iload_n B.1 B.2.1 dX6_readKind_54 rfl (lv_at hl 1 rfl) ?_
  refine qQ (Cs := []) (Rs := [[(rd, .inr (8, [.ref ri, .int (iI (((L : Nat) : Int))), .int (iI (((pt + 4) : Nat) : Int)), .int (iI (0)), .int (iI (er)), .int (iI (ea)), .int (iI (cn)), .ref rk, .ref rn, .ref ro, .ref rt]))], [(ri, .inl (τ 1, 500, .inl (fun j => iI ((b) j))))]]) Y [] [0, 1] (by decide) rfl (cSE (As := [.int (iI (3))]) (rest := [.int (iI (((pt : Nat) : Int))), .ref rd]) (Ke.ok K) hE B Y [] (by decide) rfl (k_wordOf3 l D τ _ K) q_802 q_803 q_3 q_804 rfl rfl hd_X6_wordOf ⟨(Nat.le_of_ble_eq_true rfl), (Nat.le_of_ble_eq_true rfl)⟩ rfl hl.1 rfl (Nat.le_of_ble_eq_true rfl) dX6_readKind_55 ⟨(Nat.le_of_ble_eq_true rfl), (Nat.le_of_ble_eq_true rfl)⟩) (fun r u H locs hw Y => ?_)
  subst hw
  have Y : Wd D τ s A s.heap (bl [[(rd, .inr (8, [.ref ri, .int (iI (((L : Nat) : Int))), .int (iI (((pt + 4) : Nat) : Int)), .int (iI (0)), .int (iI (er)), .int (iI (ea)), .int (iI (cn)), .ref rk, .ref rn, .ref ro, .ref rt]))], [(ri, .inl (τ 1, 500, .inl (fun j => iI ((b) j))))]]) _ _ := Y
  show W _ _ _ _ _ _ _ _ _ _ _ _ _ _ _ (F0 m _ ls (.ref (K (2 * 3)) :: .int (iI (((pt : Nat) : Int))) :: .ref rd :: []))
  refine qI (Cs := [[(rd, .inr (8, [.ref ri, .int (iI (((L : Nat) : Int))), .int (iI (((pt + 4) : Nat) : Int)), .int (iI (0)), .int (iI (er)), .int (iI (ea)), .int (iI (cn)), .ref rk, .ref rn, .ref ro, .ref rt]))], [(ri, .inl (τ 1, 500, .inl (fun j => iI ((b) j))))]]) (Rs := []) Y [0, 1] [] (by decide) rfl (cVE (As := [.int (iI (((pt : Nat) : Int))), .ref (K (2 * 3))]) (rest := []) (q0 := 0) (Ke.ok K) hE B Y [0, 1] (by decide) rfl (k_isWord l D τ _ K rd ri rk rn ro rt L (0) (er) (ea) (cn) b (by omega) hb pt (ksZ 3) hX1 (by omega) 3 (by decide)) rfl rfl q_815 q_817 qp_11 q_3 q_818 rfl rfl hd_X6_isWord ⟨(Nat.le_of_ble_eq_true rfl), (Nat.le_of_ble_eq_true rfl)⟩ rfl hl.1 rfl (Nat.le_of_ble_eq_true rfl) dX6_readKind_58 ⟨(Nat.le_of_ble_eq_true rfl), (Nat.le_of_ble_eq_true rfl)⟩) (fun r u H locs hw Y => ?_)
  rw [if_pos (by decide)] at hw
  have hw : r = 1 := hw
  subst hw
  have Y : Wd D τ s A s.heap (bl [[(rd, .inr (8, [.ref ri, .int (iI (((L : Nat) : Int))), .int (iI (((pt + 4) : Nat) : Int)), .int (iI (0)), .int (iI (er)), .int (iI (ea)), .int (iI (cn)), .ref rk, .ref rn, .ref ro, .ref rt]))], [(ri, .inl (τ 1, 500, .inl (fun j => iI ((b) j))))]]) _ _ := Y
  refine lv_if_eq (tgt := 70) B.1 B.2.1 dX6_readKind_61 (by decide) (fun h => absurd h (by decide)) (fun _ => ?_)
  refine lv_aload_n B.1 B.2.1 dX6_readKind_64 rfl (lv_at hl 3 rfl) ?_
  refine qV (Cs := [[(rd, .inr (8, [.ref ri, .int (iI (((L : Nat) : Int))), .int (iI (((pt + 4) : Nat) : Int)), .int (iI (0)), .int (iI (er)), .int (iI (ea)), .int (iI (cn)), .ref rk, .ref rn, .ref ro, .ref rt]))], [(ri, .inl (τ 1, 500, .inl (fun j => iI ((b) j))))]]) (Rs := []) Y [0, 1] [] (by decide) rfl (cV (As := []) (rest := []) (q0 := 0) B Y [0, 1] (by decide) rfl (k_skipSpaces l D τ _ rd ri rk rn ro rt L (0) (er) (ea) (cn) b (by omega) hb (pt + 4) (pt + 5) (by omega) (by omega) (fun j h1 h2 => by rw [show j = pt + 4 by omega]; exact hX2) (fun _ => by rw [show pt + 5 = pt + 5 from rfl]; omega)) rfl rfl q_778 q_780 qp_5 q_3 q_781 rfl rfl hd_X6_skipSpaces ⟨(Nat.le_of_ble_eq_true rfl), (Nat.le_of_ble_eq_true rfl)⟩ rfl hl.1 rfl (Nat.le_of_ble_eq_true rfl) dX6_readKind_65 ⟨(Nat.le_of_ble_eq_true rfl), (Nat.le_of_ble_eq_true rfl)⟩) (fun u H locs hw Y => ?_)
  have Y : Wd D τ s A s.heap (bl [[(rd, .inr (8, [.ref ri, .int (iI (((L : Nat) : Int))), .int (iI (((pt + 5) : Nat) : Int)), .int (iI (0)), .int (iI (er)), .int (iI (ea)), .int (iI (cn)), .ref rk, .ref rn, .ref ro, .ref rt]))], [(ri, .inl (τ 1, 500, .inl (fun j => iI ((b) j))))]]) _ _ := Y
  refine lv_iload_n B.1 B.2.1 dX6_readKind_68 rfl (lv_at hl 1 rfl) ?_
  exact eI B hr hlk Y () rfl [0, 1] (by decide) rfl (Nat.le_of_ble_eq_true rfl) (Nat.le_of_ble_eq_true rfl) dX6_readKind_69

set_option maxHeartbeats 4000000 in
set_option maxRecDepth 100000 in
theorem k_readKind3_1 (l : Launch) (D : va_G) (τ : Nat → ClassId) (sz : Nat) (K : Nat → Nat) (rd ri rk rn ro rt L : Nat) (er ea cn : Int) (b : Nat → Int) (hL : L ≤ 500) (hb : BOk b) (pt : Nat) (hX : ats b pt (ksZ 3 ++ [32])) (hpL : pt + 5 < L) (hdd : 48 ≤ b (pt + 5) ∧ b (pt + 5) ≤ 57) : Met l yX6_readKind (Cond.code yX6_readKind cX6_readKind 4 (some .int) :: wALL) { frames := 5, cells := 0, slots := 0, locals := 109 } (PwE (Ke K) D τ (bl [[(rd, .inr (8, [.ref ri, .int (iI (((L : Nat) : Int))), .int (iI (((pt : Nat) : Int))), .int (iI (1)), .int (iI (er)), .int (iI (ea)), .int (iI (cn)), .ref rk, .ref rn, .ref ro, .ref rt]))], [(ri, .inl (τ 1, 500, .inl (fun j => iI ((b) j))))]]) sz [.ref rd]) (va_Qi (fun (r : Int32) (_ : Unit) => r = iI 3) (Bb D (va_A (bl [[(rd, .inr (8, [.ref ri, .int (iI (((L : Nat) : Int))), .int (iI (((pt : Nat) : Int))), .int (iI (1)), .int (iI (er)), .int (iI (ea)), .int (iI (cn)), .ref rk, .ref rn, .ref ro, .ref rt]))], [(ri, .inl (τ 1, 500, .inl (fun j => iI ((b) j))))]]) sz) (fun (_ : Unit) => [[(rd, .inr (8, [.ref ri, .int (iI (((L : Nat) : Int))), .int (iI ((((pt + 5) : Nat) : Int))), .int (iI (1)), .int (iI (er)), .int (iI (ea)), .int (iI (cn)), .ref rk, .ref rn, .ref ro, .ref rt]))], [(ri, .inl (τ 1, 500, .inl (fun j => iI ((b) j))))]])) (va_A (bl [[(rd, .inr (8, [.ref ri, .int (iI (((L : Nat) : Int))), .int (iI (((pt : Nat) : Int))), .int (iI (1)), .int (iI (er)), .int (iI (ea)), .int (iI (cn)), .ref rk, .ref rn, .ref ro, .ref rt]))], [(ri, .inl (τ 1, 500, .inl (fun j => iI ((b) j))))]]) sz)) 0 0 (va_A (bl [[(rd, .inr (8, [.ref ri, .int (iI (((L : Nat) : Int))), .int (iI (((pt : Nat) : Int))), .int (iI (1)), .int (iI (er)), .int (iI (ea)), .int (iI (cn)), .ref rk, .ref rn, .ref ro, .ref rt]))], [(ri, .inl (τ 1, 500, .inl (fun j => iI ((b) j))))]]) sz) := by
  refine bodyE (by decide +kernel) (Nat.le_of_ble_eq_true rfl) (fun p e s m below meth c ls B hr hlk hin hsz Y hE hl => ?_)
  have hl : lv_has ls 4 [(0, .ref rd)] := hl
  have B : CallFix p m c cX6_readKind 4 s _ wALL RX6 := B
  generalize va_A (bl [[(rd, .inr (8, [.ref ri, .int (iI (((L : Nat) : Int))), .int (iI (((pt : Nat) : Int))), .int (iI (1)), .int (iI (er)), .int (iI (ea)), .int (iI (cn)), .ref rk, .ref rn, .ref ro, .ref rt]))], [(ri, .inl (τ 1, 500, .inl (fun j => iI ((b) j))))]]) sz = A at Y hE ⊢
  have hX1 := (ats_app.mp hX).1
  have hX2 : b (pt + 4) = 32 := (ats_app.mp hX).2 0 (by decide)
  have hkl : (ksZ 3).length = 4 := by decide
  have hLt : ∀ x ∈ ksZ 3, (97 : Int) ≤ x ∧ x ≤ 122 := by decide
  refine lv_aload_n B.1 B.2.1 dX6_readKind_0 rfl (lv_at hl 0 rfl) ?_
  refine gf_X6_19 B Y 0 rfl rfl dX6_readKind_1 ?_
  refine lv_istore_n (lv' := [(1, .int (iI (((pt : Nat) : Int)))), (0, .ref rd)]) B.1 B.2.1 dX6_readKind_4 rfl hl (by decide) rfl (fun ls hl => ?_)
  refine lv_aload_n B.1 B.2.1 dX6_readKind_5 rfl (lv_at hl 1 rfl) ?_
  refine qV (Cs := [[(rd, .inr (8, [.ref ri, .int (iI (((L : Nat) : Int))), .int (iI (((pt : Nat) : Int))), .int (iI (1)), .int (iI (er)), .int (iI (ea)), .int (iI (cn)), .ref rk, .ref rn, .ref ro, .ref rt]))], [(ri, .inl (τ 1, 500, .inl (fun j => iI ((b) j))))]]) (Rs := []) Y [0, 1] [] (by decide) rfl (cV (As := []) (rest := []) (q0 := 0) B Y [0, 1] (by decide) rfl (k_skipWord l D τ _ rd ri rk rn ro rt L (1) (er) (ea) (cn) b (by omega) hb pt (pt + 4) (by omega) (by omega) (fun j h1 h2 => ats_all hX1 hLt j h1 h2) (fun _ => Or.inl (by omega))) rfl rfl q_794 q_796 qp_9 q_3 q_797 rfl rfl hd_X6_skipWord ⟨(Nat.le_of_ble_eq_true rfl), (Nat.le_of_ble_eq_true rfl)⟩ rfl hl.1 rfl (Nat.le_of_ble_eq_true rfl) dX6_readKind_6 ⟨(Nat.le_of_ble_eq_true rfl), (Nat.le_of_ble_eq_true rfl)⟩) (fun u H locs hw Y => ?_)
  have Y : Wd D τ s A s.heap (bl [[(rd, .inr (8, [.ref ri, .int (iI (((L : Nat) : Int))), .int (iI (((pt + 4) : Nat) : Int)), .int (iI (1)), .int (iI (er)), .int (iI (ea)), .int (iI (cn)), .ref rk, .ref rn, .ref ro, .ref rt]))], [(ri, .inl (τ 1, 500, .inl (fun j => iI ((b) j))))]]) _ _ := Y
  refine lv_iconst (v := (iI (0))) B.1 B.2.1 dX6_readKind_9 (by decide) ?_
  refine lv_istore_n (lv' := [(2, .int (iI (0))), (1, .int (iI (((pt : Nat) : Int)))), (0, .ref rd)]) B.1 B.2.1 dX6_readKind_10 rfl hl (by decide) rfl (fun ls hl => ?_)
  refine lv_iload_n B.1 B.2.1 dX6_readKind_11 rfl (lv_at hl 0 rfl) ?_
  refine lv_bipush (v := (iI (10))) B.1 B.2.1 dX6_readKind_12 (by decide) ?_
  refine lv_icmp_ge (tgt := 76) B.1 B.2.1 dX6_readKind_14 (by decide) (fun h => absurd h (by decide)) (fun _ => ?_)
  refine lv_aload_n B.1 B.2.1 dX6_readKind_17 rfl (lv_at hl 2 rfl) ?_
  refine gf_X6_22 B Y 0 rfl rfl dX6_readKind_18 ?_
  refine lv_if_eq (tgt := 37) B.1 B.2.1 dX6_readKind_21 (by decide) (fun h => absurd h (by decide)) (fun _ => ?_)
  refine lv_iload_n B.1 B.2.1 dX6_readKind_24 rfl (lv_at hl 0 rfl) ?_
  refine lv_iconst (v := (iI (3))) B.1 B.2.1 dX6_readKind_25 (by decide) ?_
  refine lv_icmp_lt (tgt := 33) B.1 B.2.1 dX6_readKind_26 (by decide) (fun _ => ?_) (fun h => absurd (by decide) h) 
  refine lv_iconst (v := (iI (0))) B.1 B.2.1 dX6_readKind_33 (by decide) ?_
  refine lv_goto (tgt := 47) B.1 B.2.1 dX6_readKind_34 (by decide) ?_
  refine lv_istore_n (lv' := [(3, .int (iI (0))), (2, .int (iI (0))), (1, .int (iI (((pt : Nat) : Int)))), (0, .ref rd)]) B.1 B.2.1 dX6_readKind_47 rfl hl (by decide) rfl (fun ls hl => ?_)
  refine lv_iload_n B.1 B.2.1 dX6_readKind_48 rfl (lv_at hl 0 rfl) ?_
  refine lv_if_eq (tgt := 70) B.1 B.2.1 dX6_readKind_49 (by decide) (fun _ => ?_) (fun h => absurd (by decide) h) 
  refine lv_iinc (v := (iI (1))) (lv' := [(2, .int (iI (1))), (3, .int (iI (0))), (1, .int (iI (((pt : Nat) : Int)))), (0, .ref rd)]) B.1 B.2.1 dX6_readKind_70 hl (k := 1) rfl (by decide) (by decide) rfl (fun ls hl => ?_)
  refine lv_goto (tgt := 11) B.1 B.2.1 dX6_readKind_73 (by decide) ?_
  refine lv_iload_n B.1 B.2.1 dX6_readKind_11 rfl (lv_at hl 0 rfl) ?_
  refine lv_bipush (v := (iI (10))) B.1 B.2.1 dX6_readKind_12 (by decide) ?_
  refine lv_icmp_ge (tgt := 76) B.1 B.2.1 dX6_readKind_14 (by decide) (fun h => absurd h (by decide)) (fun _ => ?_)
  refine lv_aload_n B.1 B.2.1 dX6_readKind_17 rfl (lv_at hl 3 rfl) ?_
  refine gf_X6_22 B Y 0 rfl rfl dX6_readKind_18 ?_
  refine lv_if_eq (tgt := 37) B.1 B.2.1 dX6_readKind_21 (by decide) (fun h => absurd h (by decide)) (fun _ => ?_)
  refine lv_iload_n B.1 B.2.1 dX6_readKind_24 rfl (lv_at hl 0 rfl) ?_
  refine lv_iconst (v := (iI (3))) B.1 B.2.1 dX6_readKind_25 (by decide) ?_
  refine lv_icmp_lt (tgt := 33) B.1 B.2.1 dX6_readKind_26 (by decide) (fun _ => ?_) (fun h => absurd (by decide) h) 
  refine lv_iconst (v := (iI (0))) B.1 B.2.1 dX6_readKind_33 (by decide) ?_
  refine lv_goto (tgt := 47) B.1 B.2.1 dX6_readKind_34 (by decide) ?_
  refine lv_istore_n (lv' := [(3, .int (iI (0))), (2, .int (iI (1))), (1, .int (iI (((pt : Nat) : Int)))), (0, .ref rd)]) B.1 B.2.1 dX6_readKind_47 rfl hl (by decide) rfl (fun ls hl => ?_)
  refine lv_iload_n B.1 B.2.1 dX6_readKind_48 rfl (lv_at hl 0 rfl) ?_
  refine lv_if_eq (tgt := 70) B.1 B.2.1 dX6_readKind_49 (by decide) (fun _ => ?_) (fun h => absurd (by decide) h) 
  refine lv_iinc (v := (iI (2))) (lv' := [(2, .int (iI (2))), (3, .int (iI (0))), (1, .int (iI (((pt : Nat) : Int)))), (0, .ref rd)]) B.1 B.2.1 dX6_readKind_70 hl (k := 1) rfl (by decide) (by decide) rfl (fun ls hl => ?_)
  refine lv_goto (tgt := 11) B.1 B.2.1 dX6_readKind_73 (by decide) ?_
  refine lv_iload_n B.1 B.2.1 dX6_readKind_11 rfl (lv_at hl 0 rfl) ?_
  refine lv_bipush (v := (iI (10))) B.1 B.2.1 dX6_readKind_12 (by decide) ?_
  refine lv_icmp_ge (tgt := 76) B.1 B.2.1 dX6_readKind_14 (by decide) (fun h => absurd h (by decide)) (fun _ => ?_)
  refine lv_aload_n B.1 B.2.1 dX6_readKind_17 rfl (lv_at hl 3 rfl) ?_
  refine gf_X6_22 B Y 0 rfl rfl dX6_readKind_18 ?_
  refine lv_if_eq (tgt := 37) B.1 B.2.1 dX6_readKind_21 (by decide) (fun h => absurd h (by decide)) (fun _ => ?_)
  refine lv_iload_n B.1 B.2.1 dX6_readKind_24 rfl (lv_at hl 0 rfl) ?_
  refine lv_iconst (v := (iI (3))) B.1 B.2.1 dX6_readKind_25 (by decide) ?_
  refine lv_icmp_lt (tgt := 33) B.1 B.2.1 dX6_readKind_26 (by decide) (fun _ => ?_) (fun h => absurd (by decide) h) 
  refine lv_iconst (v := (iI (0))) B.1 B.2.1 dX6_readKind_33 (by decide) ?_
  refine lv_goto (tgt := 47) B.1 B.2.1 dX6_readKind_34 (by decide) ?_
  refine lv_istore_n (lv' := [(3, .int (iI (0))), (2, .int (iI (2))), (1, .int (iI (((pt : Nat) : Int)))), (0, .ref rd)]) B.1 B.2.1 dX6_readKind_47 rfl hl (by decide) rfl (fun ls hl => ?_)
  refine lv_iload_n B.1 B.2.1 dX6_readKind_48 rfl (lv_at hl 0 rfl) ?_
  refine lv_if_eq (tgt := 70) B.1 B.2.1 dX6_readKind_49 (by decide) (fun _ => ?_) (fun h => absurd (by decide) h) 
  refine lv_iinc (v := (iI (3))) (lv' := [(2, .int (iI (3))), (3, .int (iI (0))), (1, .int (iI (((pt : Nat) : Int)))), (0, .ref rd)]) B.1 B.2.1 dX6_readKind_70 hl (k := 1) rfl (by decide) (by decide) rfl (fun ls hl => ?_)
  refine lv_goto (tgt := 11) B.1 B.2.1 dX6_readKind_73 (by decide) ?_
  refine lv_iload_n B.1 B.2.1 dX6_readKind_11 rfl (lv_at hl 0 rfl) ?_
  refine lv_bipush (v := (iI (10))) B.1 B.2.1 dX6_readKind_12 (by decide) ?_
  refine lv_icmp_ge (tgt := 76) B.1 B.2.1 dX6_readKind_14 (by decide) (fun h => absurd h (by decide)) (fun _ => ?_)
  refine lv_aload_n B.1 B.2.1 dX6_readKind_17 rfl (lv_at hl 3 rfl) ?_
  refine gf_X6_22 B Y 0 rfl rfl dX6_readKind_18 ?_
  refine lv_if_eq (tgt := 37) B.1 B.2.1 dX6_readKind_21 (by decide) (fun h => absurd h (by decide)) (fun _ => ?_)
  refine lv_iload_n B.1 B.2.1 dX6_readKind_24 rfl (lv_at hl 0 rfl) ?_
  refine lv_iconst (v := (iI (3))) B.1 B.2.1 dX6_readKind_25 (by decide) ?_
  refine lv_icmp_lt (tgt := 33) B.1 B.2.1 dX6_readKind_26 (by decide) (fun h => absurd h (by decide)) (fun _ => ?_)
  refine lv_iconst (v := (iI (1))) B.1 B.2.1 dX6_readKind_29 (by decide) ?_
  refine lv_goto (tgt := 47) B.1 B.2.1 dX6_readKind_30 (by decide) ?_
  refine lv_istore_n (lv' := [(3, .int (iI (1))), (2, .int (iI (3))), (1, .int (iI (((pt : Nat) : Int)))), (0, .ref rd)]) B.1 B.2.1 dX6_readKind_47 rfl hl (by decide) rfl (fun ls hl => ?_)
  refine lv_iload_n B.1 B.2.1 dX6_readKind_48 rfl (lv_at hl 0 rfl) ?_
  refine lv_if_eq (tgt := 70) B.1 B.2.1 dX6_readKind_49 (by decide) (fun h => absurd h (by decide)) (fun _ => ?_)
  refine lv_aload_n B.1 B.2.1 dX6_readKind_52 rfl (lv_at hl 3 rfl) ?_
  refine lv_iload_n B.1 B.2.1 dX6_readKind_53 rfl (lv_at hl 2 rfl) ?_
  refine lv_iload_n B.1 B.2.1 dX6_readKind_54 rfl (lv_at hl 1 rfl) ?_
  refine qQ (Cs := []) (Rs := [[(rd, .inr (8, [.ref ri, .int (iI (((L : Nat) : Int))), .int (iI (((pt + 4) : Nat) : Int)), .int (iI (1)), .int (iI (er)), .int (iI (ea)), .int (iI (cn)), .ref rk, .ref rn, .ref ro, .ref rt]))], [(ri, .inl (τ 1, 500, .inl (fun j => iI ((b) j))))]]) Y [] [0, 1] (by decide) rfl (cSE (As := [.int (iI (3))]) (rest := [.int (iI (((pt : Nat) : Int))), .ref rd]) (Ke.ok K) hE B Y [] (by decide) rfl (k_wordOf3 l D τ _ K) q_802 q_803 q_3 q_804 rfl rfl hd_X6_wordOf ⟨(Nat.le_of_ble_eq_true rfl), (Nat.le_of_ble_eq_true rfl)⟩ rfl hl.1 rfl (Nat.le_of_ble_eq_true rfl) dX6_readKind_55 ⟨(Nat.le_of_ble_eq_true rfl), (Nat.le_of_ble_eq_true rfl)⟩) (fun r u H locs hw Y => ?_)
  subst hw
  have Y : Wd D τ s A s.heap (bl [[(rd, .inr (8, [.ref ri, .int (iI (((L : Nat) : Int))), .int (iI (((pt + 4) : Nat) : Int)), .int (iI (1)), .int (iI (er)), .int (iI (ea)), .int (iI (cn)), .ref rk, .ref rn, .ref ro, .ref rt]))], [(ri, .inl (τ 1, 500, .inl (fun j => iI ((b) j))))]]) _ _ := Y
  show W _ _ _ _ _ _ _ _ _ _ _ _ _ _ _ (F0 m _ ls (.ref (K (2 * 3)) :: .int (iI (((pt : Nat) : Int))) :: .ref rd :: []))
  refine qI (Cs := [[(rd, .inr (8, [.ref ri, .int (iI (((L : Nat) : Int))), .int (iI (((pt + 4) : Nat) : Int)), .int (iI (1)), .int (iI (er)), .int (iI (ea)), .int (iI (cn)), .ref rk, .ref rn, .ref ro, .ref rt]))], [(ri, .inl (τ 1, 500, .inl (fun j => iI ((b) j))))]]) (Rs := []) Y [0, 1] [] (by decide) rfl (cVE (As := [.int (iI (((pt : Nat) : Int))), .ref (K (2 * 3))]) (rest := []) (q0 := 0) (Ke.ok K) hE B Y [0, 1] (by decide) rfl (k_isWord l D τ _ K rd ri rk rn ro rt L (1) (er) (ea) (cn) b (by omega) hb pt (ksZ 3) hX1 (by omega) 3 (by decide)) rfl rfl q_815 q_817 qp_11 q_3 q_818 rfl rfl hd_X6_isWord ⟨(Nat.le_of_ble_eq_true rfl), (Nat.le_of_ble_eq_true rfl)⟩ rfl hl.1 rfl (Nat.le_of_ble_eq_true rfl) dX6_readKind_58 ⟨(Nat.le_of_ble_eq_true rfl), (Nat.le_of_ble_eq_true rfl)⟩) (fun r u H locs hw Y => ?_)
  rw [if_pos (by decide)] at hw
  have hw : r = 1 := hw
  subst hw
  have Y : Wd D τ s A s.heap (bl [[(rd, .inr (8, [.ref ri, .int (iI (((L : Nat) : Int))), .int (iI (((pt + 4) : Nat) : Int)), .int (iI (1)), .int (iI (er)), .int (iI (ea)), .int (iI (cn)), .ref rk, .ref rn, .ref ro, .ref rt]))], [(ri, .inl (τ 1, 500, .inl (fun j => iI ((b) j))))]]) _ _ := Y
  refine lv_if_eq (tgt := 70) B.1 B.2.1 dX6_readKind_61 (by decide) (fun h => absurd h (by decide)) (fun _ => ?_)
  refine lv_aload_n B.1 B.2.1 dX6_readKind_64 rfl (lv_at hl 3 rfl) ?_
  refine qV (Cs := [[(rd, .inr (8, [.ref ri, .int (iI (((L : Nat) : Int))), .int (iI (((pt + 4) : Nat) : Int)), .int (iI (1)), .int (iI (er)), .int (iI (ea)), .int (iI (cn)), .ref rk, .ref rn, .ref ro, .ref rt]))], [(ri, .inl (τ 1, 500, .inl (fun j => iI ((b) j))))]]) (Rs := []) Y [0, 1] [] (by decide) rfl (cV (As := []) (rest := []) (q0 := 0) B Y [0, 1] (by decide) rfl (k_skipSpaces l D τ _ rd ri rk rn ro rt L (1) (er) (ea) (cn) b (by omega) hb (pt + 4) (pt + 5) (by omega) (by omega) (fun j h1 h2 => by rw [show j = pt + 4 by omega]; exact hX2) (fun _ => by rw [show pt + 5 = pt + 5 from rfl]; omega)) rfl rfl q_778 q_780 qp_5 q_3 q_781 rfl rfl hd_X6_skipSpaces ⟨(Nat.le_of_ble_eq_true rfl), (Nat.le_of_ble_eq_true rfl)⟩ rfl hl.1 rfl (Nat.le_of_ble_eq_true rfl) dX6_readKind_65 ⟨(Nat.le_of_ble_eq_true rfl), (Nat.le_of_ble_eq_true rfl)⟩) (fun u H locs hw Y => ?_)
  have Y : Wd D τ s A s.heap (bl [[(rd, .inr (8, [.ref ri, .int (iI (((L : Nat) : Int))), .int (iI (((pt + 5) : Nat) : Int)), .int (iI (1)), .int (iI (er)), .int (iI (ea)), .int (iI (cn)), .ref rk, .ref rn, .ref ro, .ref rt]))], [(ri, .inl (τ 1, 500, .inl (fun j => iI ((b) j))))]]) _ _ := Y
  refine lv_iload_n B.1 B.2.1 dX6_readKind_68 rfl (lv_at hl 1 rfl) ?_
  exact eI B hr hlk Y () rfl [0, 1] (by decide) rfl (Nat.le_of_ble_eq_true rfl) (Nat.le_of_ble_eq_true rfl) dX6_readKind_69

set_option maxHeartbeats 4000000 in
set_option maxRecDepth 100000 in
theorem k_readKind4_1 (l : Launch) (D : va_G) (τ : Nat → ClassId) (sz : Nat) (K : Nat → Nat) (rd ri rk rn ro rt L : Nat) (er ea cn : Int) (b : Nat → Int) (hL : L ≤ 500) (hb : BOk b) (pt : Nat) (hX : ats b pt (ksZ 4 ++ [32])) (hpL : pt + 6 < L) (hdd : 48 ≤ b (pt + 6) ∧ b (pt + 6) ≤ 57) : Met l yX6_readKind (Cond.code yX6_readKind cX6_readKind 4 (some .int) :: wALL) { frames := 5, cells := 0, slots := 0, locals := 109 } (PwE (Ke K) D τ (bl [[(rd, .inr (8, [.ref ri, .int (iI (((L : Nat) : Int))), .int (iI (((pt : Nat) : Int))), .int (iI (1)), .int (iI (er)), .int (iI (ea)), .int (iI (cn)), .ref rk, .ref rn, .ref ro, .ref rt]))], [(ri, .inl (τ 1, 500, .inl (fun j => iI ((b) j))))]]) sz [.ref rd]) (va_Qi (fun (r : Int32) (_ : Unit) => r = iI 4) (Bb D (va_A (bl [[(rd, .inr (8, [.ref ri, .int (iI (((L : Nat) : Int))), .int (iI (((pt : Nat) : Int))), .int (iI (1)), .int (iI (er)), .int (iI (ea)), .int (iI (cn)), .ref rk, .ref rn, .ref ro, .ref rt]))], [(ri, .inl (τ 1, 500, .inl (fun j => iI ((b) j))))]]) sz) (fun (_ : Unit) => [[(rd, .inr (8, [.ref ri, .int (iI (((L : Nat) : Int))), .int (iI ((((pt + 6) : Nat) : Int))), .int (iI (1)), .int (iI (er)), .int (iI (ea)), .int (iI (cn)), .ref rk, .ref rn, .ref ro, .ref rt]))], [(ri, .inl (τ 1, 500, .inl (fun j => iI ((b) j))))]])) (va_A (bl [[(rd, .inr (8, [.ref ri, .int (iI (((L : Nat) : Int))), .int (iI (((pt : Nat) : Int))), .int (iI (1)), .int (iI (er)), .int (iI (ea)), .int (iI (cn)), .ref rk, .ref rn, .ref ro, .ref rt]))], [(ri, .inl (τ 1, 500, .inl (fun j => iI ((b) j))))]]) sz)) 0 0 (va_A (bl [[(rd, .inr (8, [.ref ri, .int (iI (((L : Nat) : Int))), .int (iI (((pt : Nat) : Int))), .int (iI (1)), .int (iI (er)), .int (iI (ea)), .int (iI (cn)), .ref rk, .ref rn, .ref ro, .ref rt]))], [(ri, .inl (τ 1, 500, .inl (fun j => iI ((b) j))))]]) sz) := by
  refine bodyE (by decide +kernel) (Nat.le_of_ble_eq_true rfl) (fun p e s m below meth c ls B hr hlk hin hsz Y hE hl => ?_)
  have hl : lv_has ls 4 [(0, .ref rd)] := hl
  have B : CallFix p m c cX6_readKind 4 s _ wALL RX6 := B
  generalize va_A (bl [[(rd, .inr (8, [.ref ri, .int (iI (((L : Nat) : Int))), .int (iI (((pt : Nat) : Int))), .int (iI (1)), .int (iI (er)), .int (iI (ea)), .int (iI (cn)), .ref rk, .ref rn, .ref ro, .ref rt]))], [(ri, .inl (τ 1, 500, .inl (fun j => iI ((b) j))))]]) sz = A at Y hE ⊢
  have hX1 := (ats_app.mp hX).1
  have hX2 : b (pt + 5) = 32 := (ats_app.mp hX).2 0 (by decide)
  have hkl : (ksZ 4).length = 5 := by decide
  have hLt : ∀ x ∈ ksZ 4, (97 : Int) ≤ x ∧ x ≤ 122 := by decide
  refine lv_aload_n B.1 B.2.1 dX6_readKind_0 rfl (lv_at hl 0 rfl) ?_
  refine gf_X6_19 B Y 0 rfl rfl dX6_readKind_1 ?_
  refine lv_istore_n (lv' := [(1, .int (iI (((pt : Nat) : Int)))), (0, .ref rd)]) B.1 B.2.1 dX6_readKind_4 rfl hl (by decide) rfl (fun ls hl => ?_)
  refine lv_aload_n B.1 B.2.1 dX6_readKind_5 rfl (lv_at hl 1 rfl) ?_
  refine qV (Cs := [[(rd, .inr (8, [.ref ri, .int (iI (((L : Nat) : Int))), .int (iI (((pt : Nat) : Int))), .int (iI (1)), .int (iI (er)), .int (iI (ea)), .int (iI (cn)), .ref rk, .ref rn, .ref ro, .ref rt]))], [(ri, .inl (τ 1, 500, .inl (fun j => iI ((b) j))))]]) (Rs := []) Y [0, 1] [] (by decide) rfl (cV (As := []) (rest := []) (q0 := 0) B Y [0, 1] (by decide) rfl (k_skipWord l D τ _ rd ri rk rn ro rt L (1) (er) (ea) (cn) b (by omega) hb pt (pt + 5) (by omega) (by omega) (fun j h1 h2 => ats_all hX1 hLt j h1 h2) (fun _ => Or.inl (by omega))) rfl rfl q_794 q_796 qp_9 q_3 q_797 rfl rfl hd_X6_skipWord ⟨(Nat.le_of_ble_eq_true rfl), (Nat.le_of_ble_eq_true rfl)⟩ rfl hl.1 rfl (Nat.le_of_ble_eq_true rfl) dX6_readKind_6 ⟨(Nat.le_of_ble_eq_true rfl), (Nat.le_of_ble_eq_true rfl)⟩) (fun u H locs hw Y => ?_)
  have Y : Wd D τ s A s.heap (bl [[(rd, .inr (8, [.ref ri, .int (iI (((L : Nat) : Int))), .int (iI (((pt + 5) : Nat) : Int)), .int (iI (1)), .int (iI (er)), .int (iI (ea)), .int (iI (cn)), .ref rk, .ref rn, .ref ro, .ref rt]))], [(ri, .inl (τ 1, 500, .inl (fun j => iI ((b) j))))]]) _ _ := Y
  refine lv_iconst (v := (iI (0))) B.1 B.2.1 dX6_readKind_9 (by decide) ?_
  refine lv_istore_n (lv' := [(2, .int (iI (0))), (1, .int (iI (((pt : Nat) : Int)))), (0, .ref rd)]) B.1 B.2.1 dX6_readKind_10 rfl hl (by decide) rfl (fun ls hl => ?_)
  refine lv_iload_n B.1 B.2.1 dX6_readKind_11 rfl (lv_at hl 0 rfl) ?_
  refine lv_bipush (v := (iI (10))) B.1 B.2.1 dX6_readKind_12 (by decide) ?_
  refine lv_icmp_ge (tgt := 76) B.1 B.2.1 dX6_readKind_14 (by decide) (fun h => absurd h (by decide)) (fun _ => ?_)
  refine lv_aload_n B.1 B.2.1 dX6_readKind_17 rfl (lv_at hl 2 rfl) ?_
  refine gf_X6_22 B Y 0 rfl rfl dX6_readKind_18 ?_
  refine lv_if_eq (tgt := 37) B.1 B.2.1 dX6_readKind_21 (by decide) (fun h => absurd h (by decide)) (fun _ => ?_)
  refine lv_iload_n B.1 B.2.1 dX6_readKind_24 rfl (lv_at hl 0 rfl) ?_
  refine lv_iconst (v := (iI (3))) B.1 B.2.1 dX6_readKind_25 (by decide) ?_
  refine lv_icmp_lt (tgt := 33) B.1 B.2.1 dX6_readKind_26 (by decide) (fun _ => ?_) (fun h => absurd (by decide) h) 
  refine lv_iconst (v := (iI (0))) B.1 B.2.1 dX6_readKind_33 (by decide) ?_
  refine lv_goto (tgt := 47) B.1 B.2.1 dX6_readKind_34 (by decide) ?_
  refine lv_istore_n (lv' := [(3, .int (iI (0))), (2, .int (iI (0))), (1, .int (iI (((pt : Nat) : Int)))), (0, .ref rd)]) B.1 B.2.1 dX6_readKind_47 rfl hl (by decide) rfl (fun ls hl => ?_)
  refine lv_iload_n B.1 B.2.1 dX6_readKind_48 rfl (lv_at hl 0 rfl) ?_
  refine lv_if_eq (tgt := 70) B.1 B.2.1 dX6_readKind_49 (by decide) (fun _ => ?_) (fun h => absurd (by decide) h) 
  refine lv_iinc (v := (iI (1))) (lv' := [(2, .int (iI (1))), (3, .int (iI (0))), (1, .int (iI (((pt : Nat) : Int)))), (0, .ref rd)]) B.1 B.2.1 dX6_readKind_70 hl (k := 1) rfl (by decide) (by decide) rfl (fun ls hl => ?_)
  refine lv_goto (tgt := 11) B.1 B.2.1 dX6_readKind_73 (by decide) ?_
  refine lv_iload_n B.1 B.2.1 dX6_readKind_11 rfl (lv_at hl 0 rfl) ?_
  refine lv_bipush (v := (iI (10))) B.1 B.2.1 dX6_readKind_12 (by decide) ?_
  refine lv_icmp_ge (tgt := 76) B.1 B.2.1 dX6_readKind_14 (by decide) (fun h => absurd h (by decide)) (fun _ => ?_)
  refine lv_aload_n B.1 B.2.1 dX6_readKind_17 rfl (lv_at hl 3 rfl) ?_
  refine gf_X6_22 B Y 0 rfl rfl dX6_readKind_18 ?_
  refine lv_if_eq (tgt := 37) B.1 B.2.1 dX6_readKind_21 (by decide) (fun h => absurd h (by decide)) (fun _ => ?_)
  refine lv_iload_n B.1 B.2.1 dX6_readKind_24 rfl (lv_at hl 0 rfl) ?_
  refine lv_iconst (v := (iI (3))) B.1 B.2.1 dX6_readKind_25 (by decide) ?_
  refine lv_icmp_lt (tgt := 33) B.1 B.2.1 dX6_readKind_26 (by decide) (fun _ => ?_) (fun h => absurd (by decide) h) 
  refine lv_iconst (v := (iI (0))) B.1 B.2.1 dX6_readKind_33 (by decide) ?_
  refine lv_goto (tgt := 47) B.1 B.2.1 dX6_readKind_34 (by decide) ?_
  refine lv_istore_n (lv' := [(3, .int (iI (0))), (2, .int (iI (1))), (1, .int (iI (((pt : Nat) : Int)))), (0, .ref rd)]) B.1 B.2.1 dX6_readKind_47 rfl hl (by decide) rfl (fun ls hl => ?_)
  refine lv_iload_n B.1 B.2.1 dX6_readKind_48 rfl (lv_at hl 0 rfl) ?_
  refine lv_if_eq (tgt := 70) B.1 B.2.1 dX6_readKind_49 (by decide) (fun _ => ?_) (fun h => absurd (by decide) h) 
  refine lv_iinc (v := (iI (2))) (lv' := [(2, .int (iI (2))), (3, .int (iI (0))), (1, .int (iI (((pt : Nat) : Int)))), (0, .ref rd)]) B.1 B.2.1 dX6_readKind_70 hl (k := 1) rfl (by decide) (by decide) rfl (fun ls hl => ?_)
  refine lv_goto (tgt := 11) B.1 B.2.1 dX6_readKind_73 (by decide) ?_
  refine lv_iload_n B.1 B.2.1 dX6_readKind_11 rfl (lv_at hl 0 rfl) ?_
  refine lv_bipush (v := (iI (10))) B.1 B.2.1 dX6_readKind_12 (by decide) ?_
  refine lv_icmp_ge (tgt := 76) B.1 B.2.1 dX6_readKind_14 (by decide) (fun h => absurd h (by decide)) (fun _ => ?_)
  refine lv_aload_n B.1 B.2.1 dX6_readKind_17 rfl (lv_at hl 3 rfl) ?_
  refine gf_X6_22 B Y 0 rfl rfl dX6_readKind_18 ?_
  refine lv_if_eq (tgt := 37) B.1 B.2.1 dX6_readKind_21 (by decide) (fun h => absurd h (by decide)) (fun _ => ?_)
  refine lv_iload_n B.1 B.2.1 dX6_readKind_24 rfl (lv_at hl 0 rfl) ?_
  refine lv_iconst (v := (iI (3))) B.1 B.2.1 dX6_readKind_25 (by decide) ?_
  refine lv_icmp_lt (tgt := 33) B.1 B.2.1 dX6_readKind_26 (by decide) (fun _ => ?_) (fun h => absurd (by decide) h) 
  refine lv_iconst (v := (iI (0))) B.1 B.2.1 dX6_readKind_33 (by decide) ?_
  refine lv_goto (tgt := 47) B.1 B.2.1 dX6_readKind_34 (by decide) ?_
  refine lv_istore_n (lv' := [(3, .int (iI (0))), (2, .int (iI (2))), (1, .int (iI (((pt : Nat) : Int)))), (0, .ref rd)]) B.1 B.2.1 dX6_readKind_47 rfl hl (by decide) rfl (fun ls hl => ?_)
  refine lv_iload_n B.1 B.2.1 dX6_readKind_48 rfl (lv_at hl 0 rfl) ?_
  refine lv_if_eq (tgt := 70) B.1 B.2.1 dX6_readKind_49 (by decide) (fun _ => ?_) (fun h => absurd (by decide) h) 
  refine lv_iinc (v := (iI (3))) (lv' := [(2, .int (iI (3))), (3, .int (iI (0))), (1, .int (iI (((pt : Nat) : Int)))), (0, .ref rd)]) B.1 B.2.1 dX6_readKind_70 hl (k := 1) rfl (by decide) (by decide) rfl (fun ls hl => ?_)
  refine lv_goto (tgt := 11) B.1 B.2.1 dX6_readKind_73 (by decide) ?_
  refine lv_iload_n B.1 B.2.1 dX6_readKind_11 rfl (lv_at hl 0 rfl) ?_
  refine lv_bipush (v := (iI (10))) B.1 B.2.1 dX6_readKind_12 (by decide) ?_
  refine lv_icmp_ge (tgt := 76) B.1 B.2.1 dX6_readKind_14 (by decide) (fun h => absurd h (by decide)) (fun _ => ?_)
  refine lv_aload_n B.1 B.2.1 dX6_readKind_17 rfl (lv_at hl 3 rfl) ?_
  refine gf_X6_22 B Y 0 rfl rfl dX6_readKind_18 ?_
  refine lv_if_eq (tgt := 37) B.1 B.2.1 dX6_readKind_21 (by decide) (fun h => absurd h (by decide)) (fun _ => ?_)
  refine lv_iload_n B.1 B.2.1 dX6_readKind_24 rfl (lv_at hl 0 rfl) ?_
  refine lv_iconst (v := (iI (3))) B.1 B.2.1 dX6_readKind_25 (by decide) ?_
  refine lv_icmp_lt (tgt := 33) B.1 B.2.1 dX6_readKind_26 (by decide) (fun h => absurd h (by decide)) (fun _ => ?_)
  refine lv_iconst (v := (iI (1))) B.1 B.2.1 dX6_readKind_29 (by decide) ?_
  refine lv_goto (tgt := 47) B.1 B.2.1 dX6_readKind_30 (by decide) ?_
  refine lv_istore_n (lv' := [(3, .int (iI (1))), (2, .int (iI (3))), (1, .int (iI (((pt : Nat) : Int)))), (0, .ref rd)]) B.1 B.2.1 dX6_readKind_47 rfl hl (by decide) rfl (fun ls hl => ?_)
  refine lv_iload_n B.1 B.2.1 dX6_readKind_48 rfl (lv_at hl 0 rfl) ?_
  refine lv_if_eq (tgt := 70) B.1 B.2.1 dX6_readKind_49 (by decide) (fun h => absurd h (by decide)) (fun _ => ?_)
  refine lv_aload_n B.1 B.2.1 dX6_readKind_52 rfl (lv_at hl 3 rfl) ?_
  refine lv_iload_n B.1 B.2.1 dX6_readKind_53 rfl (lv_at hl 2 rfl) ?_
  refine lv_iload_n B.1 B.2.1 dX6_readKind_54 rfl (lv_at hl 1 rfl) ?_
  refine qQ (Cs := []) (Rs := [[(rd, .inr (8, [.ref ri, .int (iI (((L : Nat) : Int))), .int (iI (((pt + 5) : Nat) : Int)), .int (iI (1)), .int (iI (er)), .int (iI (ea)), .int (iI (cn)), .ref rk, .ref rn, .ref ro, .ref rt]))], [(ri, .inl (τ 1, 500, .inl (fun j => iI ((b) j))))]]) Y [] [0, 1] (by decide) rfl (cSE (As := [.int (iI (3))]) (rest := [.int (iI (((pt : Nat) : Int))), .ref rd]) (Ke.ok K) hE B Y [] (by decide) rfl (k_wordOf3 l D τ _ K) q_802 q_803 q_3 q_804 rfl rfl hd_X6_wordOf ⟨(Nat.le_of_ble_eq_true rfl), (Nat.le_of_ble_eq_true rfl)⟩ rfl hl.1 rfl (Nat.le_of_ble_eq_true rfl) dX6_readKind_55 ⟨(Nat.le_of_ble_eq_true rfl), (Nat.le_of_ble_eq_true rfl)⟩) (fun r u H locs hw Y => ?_)
  subst hw
  have Y : Wd D τ s A s.heap (bl [[(rd, .inr (8, [.ref ri, .int (iI (((L : Nat) : Int))), .int (iI (((pt + 5) : Nat) : Int)), .int (iI (1)), .int (iI (er)), .int (iI (ea)), .int (iI (cn)), .ref rk, .ref rn, .ref ro, .ref rt]))], [(ri, .inl (τ 1, 500, .inl (fun j => iI ((b) j))))]]) _ _ := Y
  show W _ _ _ _ _ _ _ _ _ _ _ _ _ _ _ (F0 m _ ls (.ref (K (2 * 3)) :: .int (iI (((pt : Nat) : Int))) :: .ref rd :: []))
  refine qI (Cs := [[(rd, .inr (8, [.ref ri, .int (iI (((L : Nat) : Int))), .int (iI (((pt + 5) : Nat) : Int)), .int (iI (1)), .int (iI (er)), .int (iI (ea)), .int (iI (cn)), .ref rk, .ref rn, .ref ro, .ref rt]))], [(ri, .inl (τ 1, 500, .inl (fun j => iI ((b) j))))]]) (Rs := []) Y [0, 1] [] (by decide) rfl (cVE (As := [.int (iI (((pt : Nat) : Int))), .ref (K (2 * 3))]) (rest := []) (q0 := 0) (Ke.ok K) hE B Y [0, 1] (by decide) rfl (k_isWord l D τ _ K rd ri rk rn ro rt L (1) (er) (ea) (cn) b (by omega) hb pt (ksZ 4) hX1 (by omega) 3 (by decide)) rfl rfl q_815 q_817 qp_11 q_3 q_818 rfl rfl hd_X6_isWord ⟨(Nat.le_of_ble_eq_true rfl), (Nat.le_of_ble_eq_true rfl)⟩ rfl hl.1 rfl (Nat.le_of_ble_eq_true rfl) dX6_readKind_58 ⟨(Nat.le_of_ble_eq_true rfl), (Nat.le_of_ble_eq_true rfl)⟩) (fun r u H locs hw Y => ?_)
  rw [if_neg (by decide)] at hw
  have hw : r = 0 := hw
  subst hw
  have Y : Wd D τ s A s.heap (bl [[(rd, .inr (8, [.ref ri, .int (iI (((L : Nat) : Int))), .int (iI (((pt + 5) : Nat) : Int)), .int (iI (1)), .int (iI (er)), .int (iI (ea)), .int (iI (cn)), .ref rk, .ref rn, .ref ro, .ref rt]))], [(ri, .inl (τ 1, 500, .inl (fun j => iI ((b) j))))]]) _ _ := Y
  refine lv_if_eq (tgt := 70) B.1 B.2.1 dX6_readKind_61 (by decide) (fun _ => ?_) (fun h => absurd (by decide) h) 
  refine lv_iinc (v := (iI (4))) (lv' := [(2, .int (iI (4))), (3, .int (iI (1))), (1, .int (iI (((pt : Nat) : Int)))), (0, .ref rd)]) B.1 B.2.1 dX6_readKind_70 hl (k := 1) rfl (by decide) (by decide) rfl (fun ls hl => ?_)
  refine lv_goto (tgt := 11) B.1 B.2.1 dX6_readKind_73 (by decide) ?_
  refine lv_iload_n B.1 B.2.1 dX6_readKind_11 rfl (lv_at hl 0 rfl) ?_
  refine lv_bipush (v := (iI (10))) B.1 B.2.1 dX6_readKind_12 (by decide) ?_
  refine lv_icmp_ge (tgt := 76) B.1 B.2.1 dX6_readKind_14 (by decide) (fun h => absurd h (by decide)) (fun _ => ?_)
  refine lv_aload_n B.1 B.2.1 dX6_readKind_17 rfl (lv_at hl 3 rfl) ?_
  refine gf_X6_22 B Y 0 rfl rfl dX6_readKind_18 ?_
  refine lv_if_eq (tgt := 37) B.1 B.2.1 dX6_readKind_21 (by decide) (fun h => absurd h (by decide)) (fun _ => ?_)
  refine lv_iload_n B.1 B.2.1 dX6_readKind_24 rfl (lv_at hl 0 rfl) ?_
  refine lv_iconst (v := (iI (3))) B.1 B.2.1 dX6_readKind_25 (by decide) ?_
  refine lv_icmp_lt (tgt := 33) B.1 B.2.1 dX6_readKind_26 (by decide) (fun h => absurd h (by decide)) (fun _ => ?_)
  refine lv_iconst (v := (iI (1))) B.1 B.2.1 dX6_readKind_29 (by decide) ?_
  refine lv_goto (tgt := 47) B.1 B.2.1 dX6_readKind_30 (by decide) ?_
  refine lv_istore_n (lv' := [(3, .int (iI (1))), (2, .int (iI (4))), (1, .int (iI (((pt : Nat) : Int)))), (0, .ref rd)]) B.1 B.2.1 dX6_readKind_47 rfl hl (by decide) rfl (fun ls hl => ?_)
  refine lv_iload_n B.1 B.2.1 dX6_readKind_48 rfl (lv_at hl 0 rfl) ?_
  refine lv_if_eq (tgt := 70) B.1 B.2.1 dX6_readKind_49 (by decide) (fun h => absurd h (by decide)) (fun _ => ?_)
  refine lv_aload_n B.1 B.2.1 dX6_readKind_52 rfl (lv_at hl 3 rfl) ?_
  refine lv_iload_n B.1 B.2.1 dX6_readKind_53 rfl (lv_at hl 2 rfl) ?_
  refine lv_iload_n B.1 B.2.1 dX6_readKind_54 rfl (lv_at hl 1 rfl) ?_
  refine qQ (Cs := []) (Rs := [[(rd, .inr (8, [.ref ri, .int (iI (((L : Nat) : Int))), .int (iI (((pt + 5) : Nat) : Int)), .int (iI (1)), .int (iI (er)), .int (iI (ea)), .int (iI (cn)), .ref rk, .ref rn, .ref ro, .ref rt]))], [(ri, .inl (τ 1, 500, .inl (fun j => iI ((b) j))))]]) Y [] [0, 1] (by decide) rfl (cSE (As := [.int (iI (4))]) (rest := [.int (iI (((pt : Nat) : Int))), .ref rd]) (Ke.ok K) hE B Y [] (by decide) rfl (k_wordOf4 l D τ _ K) q_802 q_803 q_3 q_804 rfl rfl hd_X6_wordOf ⟨(Nat.le_of_ble_eq_true rfl), (Nat.le_of_ble_eq_true rfl)⟩ rfl hl.1 rfl (Nat.le_of_ble_eq_true rfl) dX6_readKind_55 ⟨(Nat.le_of_ble_eq_true rfl), (Nat.le_of_ble_eq_true rfl)⟩) (fun r u H locs hw Y => ?_)
  subst hw
  have Y : Wd D τ s A s.heap (bl [[(rd, .inr (8, [.ref ri, .int (iI (((L : Nat) : Int))), .int (iI (((pt + 5) : Nat) : Int)), .int (iI (1)), .int (iI (er)), .int (iI (ea)), .int (iI (cn)), .ref rk, .ref rn, .ref ro, .ref rt]))], [(ri, .inl (τ 1, 500, .inl (fun j => iI ((b) j))))]]) _ _ := Y
  show W _ _ _ _ _ _ _ _ _ _ _ _ _ _ _ (F0 m _ ls (.ref (K (2 * 4)) :: .int (iI (((pt : Nat) : Int))) :: .ref rd :: []))
  refine qI (Cs := [[(rd, .inr (8, [.ref ri, .int (iI (((L : Nat) : Int))), .int (iI (((pt + 5) : Nat) : Int)), .int (iI (1)), .int (iI (er)), .int (iI (ea)), .int (iI (cn)), .ref rk, .ref rn, .ref ro, .ref rt]))], [(ri, .inl (τ 1, 500, .inl (fun j => iI ((b) j))))]]) (Rs := []) Y [0, 1] [] (by decide) rfl (cVE (As := [.int (iI (((pt : Nat) : Int))), .ref (K (2 * 4))]) (rest := []) (q0 := 0) (Ke.ok K) hE B Y [0, 1] (by decide) rfl (k_isWord l D τ _ K rd ri rk rn ro rt L (1) (er) (ea) (cn) b (by omega) hb pt (ksZ 4) hX1 (by omega) 4 (by decide)) rfl rfl q_815 q_817 qp_11 q_3 q_818 rfl rfl hd_X6_isWord ⟨(Nat.le_of_ble_eq_true rfl), (Nat.le_of_ble_eq_true rfl)⟩ rfl hl.1 rfl (Nat.le_of_ble_eq_true rfl) dX6_readKind_58 ⟨(Nat.le_of_ble_eq_true rfl), (Nat.le_of_ble_eq_true rfl)⟩) (fun r u H locs hw Y => ?_)
  rw [if_pos (by decide)] at hw
  have hw : r = 1 := hw
  subst hw
  have Y : Wd D τ s A s.heap (bl [[(rd, .inr (8, [.ref ri, .int (iI (((L : Nat) : Int))), .int (iI (((pt + 5) : Nat) : Int)), .int (iI (1)), .int (iI (er)), .int (iI (ea)), .int (iI (cn)), .ref rk, .ref rn, .ref ro, .ref rt]))], [(ri, .inl (τ 1, 500, .inl (fun j => iI ((b) j))))]]) _ _ := Y
  refine lv_if_eq (tgt := 70) B.1 B.2.1 dX6_readKind_61 (by decide) (fun h => absurd h (by decide)) (fun _ => ?_)
  refine lv_aload_n B.1 B.2.1 dX6_readKind_64 rfl (lv_at hl 3 rfl) ?_
  refine qV (Cs := [[(rd, .inr (8, [.ref ri, .int (iI (((L : Nat) : Int))), .int (iI (((pt + 5) : Nat) : Int)), .int (iI (1)), .int (iI (er)), .int (iI (ea)), .int (iI (cn)), .ref rk, .ref rn, .ref ro, .ref rt]))], [(ri, .inl (τ 1, 500, .inl (fun j => iI ((b) j))))]]) (Rs := []) Y [0, 1] [] (by decide) rfl (cV (As := []) (rest := []) (q0 := 0) B Y [0, 1] (by decide) rfl (k_skipSpaces l D τ _ rd ri rk rn ro rt L (1) (er) (ea) (cn) b (by omega) hb (pt + 5) (pt + 6) (by omega) (by omega) (fun j h1 h2 => by rw [show j = pt + 5 by omega]; exact hX2) (fun _ => by rw [show pt + 6 = pt + 6 from rfl]; omega)) rfl rfl q_778 q_780 qp_5 q_3 q_781 rfl rfl hd_X6_skipSpaces ⟨(Nat.le_of_ble_eq_true rfl), (Nat.le_of_ble_eq_true rfl)⟩ rfl hl.1 rfl (Nat.le_of_ble_eq_true rfl) dX6_readKind_65 ⟨(Nat.le_of_ble_eq_true rfl), (Nat.le_of_ble_eq_true rfl)⟩) (fun u H locs hw Y => ?_)
  have Y : Wd D τ s A s.heap (bl [[(rd, .inr (8, [.ref ri, .int (iI (((L : Nat) : Int))), .int (iI (((pt + 6) : Nat) : Int)), .int (iI (1)), .int (iI (er)), .int (iI (ea)), .int (iI (cn)), .ref rk, .ref rn, .ref ro, .ref rt]))], [(ri, .inl (τ 1, 500, .inl (fun j => iI ((b) j))))]]) _ _ := Y
  refine lv_iload_n B.1 B.2.1 dX6_readKind_68 rfl (lv_at hl 1 rfl) ?_
  exact eI B hr hlk Y () rfl [0, 1] (by decide) rfl (Nat.le_of_ble_eq_true rfl) (Nat.le_of_ble_eq_true rfl) dX6_readKind_69

set_option maxHeartbeats 4000000 in
set_option maxRecDepth 100000 in
theorem k_readKind5_1 (l : Launch) (D : va_G) (τ : Nat → ClassId) (sz : Nat) (K : Nat → Nat) (rd ri rk rn ro rt L : Nat) (er ea cn : Int) (b : Nat → Int) (hL : L ≤ 500) (hb : BOk b) (pt : Nat) (hX : ats b pt (ksZ 5 ++ [32])) (hpL : pt + 6 < L) (hdd : 48 ≤ b (pt + 6) ∧ b (pt + 6) ≤ 57) : Met l yX6_readKind (Cond.code yX6_readKind cX6_readKind 4 (some .int) :: wALL) { frames := 5, cells := 0, slots := 0, locals := 109 } (PwE (Ke K) D τ (bl [[(rd, .inr (8, [.ref ri, .int (iI (((L : Nat) : Int))), .int (iI (((pt : Nat) : Int))), .int (iI (1)), .int (iI (er)), .int (iI (ea)), .int (iI (cn)), .ref rk, .ref rn, .ref ro, .ref rt]))], [(ri, .inl (τ 1, 500, .inl (fun j => iI ((b) j))))]]) sz [.ref rd]) (va_Qi (fun (r : Int32) (_ : Unit) => r = iI 5) (Bb D (va_A (bl [[(rd, .inr (8, [.ref ri, .int (iI (((L : Nat) : Int))), .int (iI (((pt : Nat) : Int))), .int (iI (1)), .int (iI (er)), .int (iI (ea)), .int (iI (cn)), .ref rk, .ref rn, .ref ro, .ref rt]))], [(ri, .inl (τ 1, 500, .inl (fun j => iI ((b) j))))]]) sz) (fun (_ : Unit) => [[(rd, .inr (8, [.ref ri, .int (iI (((L : Nat) : Int))), .int (iI ((((pt + 6) : Nat) : Int))), .int (iI (1)), .int (iI (er)), .int (iI (ea)), .int (iI (cn)), .ref rk, .ref rn, .ref ro, .ref rt]))], [(ri, .inl (τ 1, 500, .inl (fun j => iI ((b) j))))]])) (va_A (bl [[(rd, .inr (8, [.ref ri, .int (iI (((L : Nat) : Int))), .int (iI (((pt : Nat) : Int))), .int (iI (1)), .int (iI (er)), .int (iI (ea)), .int (iI (cn)), .ref rk, .ref rn, .ref ro, .ref rt]))], [(ri, .inl (τ 1, 500, .inl (fun j => iI ((b) j))))]]) sz)) 0 0 (va_A (bl [[(rd, .inr (8, [.ref ri, .int (iI (((L : Nat) : Int))), .int (iI (((pt : Nat) : Int))), .int (iI (1)), .int (iI (er)), .int (iI (ea)), .int (iI (cn)), .ref rk, .ref rn, .ref ro, .ref rt]))], [(ri, .inl (τ 1, 500, .inl (fun j => iI ((b) j))))]]) sz) := by
  refine bodyE (by decide +kernel) (Nat.le_of_ble_eq_true rfl) (fun p e s m below meth c ls B hr hlk hin hsz Y hE hl => ?_)
  have hl : lv_has ls 4 [(0, .ref rd)] := hl
  have B : CallFix p m c cX6_readKind 4 s _ wALL RX6 := B
  generalize va_A (bl [[(rd, .inr (8, [.ref ri, .int (iI (((L : Nat) : Int))), .int (iI (((pt : Nat) : Int))), .int (iI (1)), .int (iI (er)), .int (iI (ea)), .int (iI (cn)), .ref rk, .ref rn, .ref ro, .ref rt]))], [(ri, .inl (τ 1, 500, .inl (fun j => iI ((b) j))))]]) sz = A at Y hE ⊢
  have hX1 := (ats_app.mp hX).1
  have hX2 : b (pt + 5) = 32 := (ats_app.mp hX).2 0 (by decide)
  have hkl : (ksZ 5).length = 5 := by decide
  have hLt : ∀ x ∈ ksZ 5, (97 : Int) ≤ x ∧ x ≤ 122 := by decide
  refine lv_aload_n B.1 B.2.1 dX6_readKind_0 rfl (lv_at hl 0 rfl) ?_
  refine gf_X6_19 B Y 0 rfl rfl dX6_readKind_1 ?_
  refine lv_istore_n (lv' := [(1, .int (iI (((pt : Nat) : Int)))), (0, .ref rd)]) B.1 B.2.1 dX6_readKind_4 rfl hl (by decide) rfl (fun ls hl => ?_)
  refine lv_aload_n B.1 B.2.1 dX6_readKind_5 rfl (lv_at hl 1 rfl) ?_
  refine qV (Cs := [[(rd, .inr (8, [.ref ri, .int (iI (((L : Nat) : Int))), .int (iI (((pt : Nat) : Int))), .int (iI (1)), .int (iI (er)), .int (iI (ea)), .int (iI (cn)), .ref rk, .ref rn, .ref ro, .ref rt]))], [(ri, .inl (τ 1, 500, .inl (fun j => iI ((b) j))))]]) (Rs := []) Y [0, 1] [] (by decide) rfl (cV (As := []) (rest := []) (q0 := 0) B Y [0, 1] (by decide) rfl (k_skipWord l D τ _ rd ri rk rn ro rt L (1) (er) (ea) (cn) b (by omega) hb pt (pt + 5) (by omega) (by omega) (fun j h1 h2 => ats_all hX1 hLt j h1 h2) (fun _ => Or.inl (by omega))) rfl rfl q_794 q_796 qp_9 q_3 q_797 rfl rfl hd_X6_skipWord ⟨(Nat.le_of_ble_eq_true rfl), (Nat.le_of_ble_eq_true rfl)⟩ rfl hl.1 rfl (Nat.le_of_ble_eq_true rfl) dX6_readKind_6 ⟨(Nat.le_of_ble_eq_true rfl), (Nat.le_of_ble_eq_true rfl)⟩) (fun u H locs hw Y => ?_)
  have Y : Wd D τ s A s.heap (bl [[(rd, .inr (8, [.ref ri, .int (iI (((L : Nat) : Int))), .int (iI (((pt + 5) : Nat) : Int)), .int (iI (1)), .int (iI (er)), .int (iI (ea)), .int (iI (cn)), .ref rk, .ref rn, .ref ro, .ref rt]))], [(ri, .inl (τ 1, 500, .inl (fun j => iI ((b) j))))]]) _ _ := Y
  refine lv_iconst (v := (iI (0))) B.1 B.2.1 dX6_readKind_9 (by decide) ?_
  refine lv_istore_n (lv' := [(2, .int (iI (0))), (1, .int (iI (((pt : Nat) : Int)))), (0, .ref rd)]) B.1 B.2.1 dX6_readKind_10 rfl hl (by decide) rfl (fun ls hl => ?_)
  refine lv_iload_n B.1 B.2.1 dX6_readKind_11 rfl (lv_at hl 0 rfl) ?_
  refine lv_bipush (v := (iI (10))) B.1 B.2.1 dX6_readKind_12 (by decide) ?_
  refine lv_icmp_ge (tgt := 76) B.1 B.2.1 dX6_readKind_14 (by decide) (fun h => absurd h (by decide)) (fun _ => ?_)
  refine lv_aload_n B.1 B.2.1 dX6_readKind_17 rfl (lv_at hl 2 rfl) ?_
  refine gf_X6_22 B Y 0 rfl rfl dX6_readKind_18 ?_
  refine lv_if_eq (tgt := 37) B.1 B.2.1 dX6_readKind_21 (by decide) (fun h => absurd h (by decide)) (fun _ => ?_)
  refine lv_iload_n B.1 B.2.1 dX6_readKind_24 rfl (lv_at hl 0 rfl) ?_
  refine lv_iconst (v := (iI (3))) B.1 B.2.1 dX6_readKind_25 (by decide) ?_
  refine lv_icmp_lt (tgt := 33) B.1 B.2.1 dX6_readKind_26 (by decide) (fun _ => ?_) (fun h => absurd (by decide) h) 
  refine lv_iconst (v := (iI (0))) B.1 B.2.1 dX6_readKind_33 (by decide) ?_
  refine lv_goto (tgt := 47) B.1 B.2.1 dX6_readKind_34 (by decide) ?_
  refine lv_istore_n (lv' := [(3, .int (iI (0))), (2, .int (iI (0))), (1, .int (iI (((pt : Nat) : Int)))), (0, .ref rd)]) B.1 B.2.1 dX6_readKind_47 rfl hl (by decide) rfl (fun ls hl => ?_)
  refine lv_iload_n B.1 B.2.1 dX6_readKind_48 rfl (lv_at hl 0 rfl) ?_
  refine lv_if_eq (tgt := 70) B.1 B.2.1 dX6_readKind_49 (by decide) (fun _ => ?_) (fun h => absurd (by decide) h) 
  refine lv_iinc (v := (iI (1))) (lv' := [(2, .int (iI (1))), (3, .int (iI (0))), (1, .int (iI (((pt : Nat) : Int)))), (0, .ref rd)]) B.1 B.2.1 dX6_readKind_70 hl (k := 1) rfl (by decide) (by decide) rfl (fun ls hl => ?_)
  refine lv_goto (tgt := 11) B.1 B.2.1 dX6_readKind_73 (by decide) ?_
  refine lv_iload_n B.1 B.2.1 dX6_readKind_11 rfl (lv_at hl 0 rfl) ?_
  refine lv_bipush (v := (iI (10))) B.1 B.2.1 dX6_readKind_12 (by decide) ?_
  refine lv_icmp_ge (tgt := 76) B.1 B.2.1 dX6_readKind_14 (by decide) (fun h => absurd h (by decide)) (fun _ => ?_)
  refine lv_aload_n B.1 B.2.1 dX6_readKind_17 rfl (lv_at hl 3 rfl) ?_
  refine gf_X6_22 B Y 0 rfl rfl dX6_readKind_18 ?_
  refine lv_if_eq (tgt := 37) B.1 B.2.1 dX6_readKind_21 (by decide) (fun h => absurd h (by decide)) (fun _ => ?_)
  refine lv_iload_n B.1 B.2.1 dX6_readKind_24 rfl (lv_at hl 0 rfl) ?_
  refine lv_iconst (v := (iI (3))) B.1 B.2.1 dX6_readKind_25 (by decide) ?_
  refine lv_icmp_lt (tgt := 33) B.1 B.2.1 dX6_readKind_26 (by decide) (fun _ => ?_) (fun h => absurd (by decide) h) 
  refine lv_iconst (v := (iI (0))) B.1 B.2.1 dX6_readKind_33 (by decide) ?_
  refine lv_goto (tgt := 47) B.1 B.2.1 dX6_readKind_34 (by decide) ?_
  refine lv_istore_n (lv' := [(3, .int (iI (0))), (2, .int (iI (1))), (1, .int (iI (((pt : Nat) : Int)))), (0, .ref rd)]) B.1 B.2.1 dX6_readKind_47 rfl hl (by decide) rfl (fun ls hl => ?_)
  refine lv_iload_n B.1 B.2.1 dX6_readKind_48 rfl (lv_at hl 0 rfl) ?_
  refine lv_if_eq (tgt := 70) B.1 B.2.1 dX6_readKind_49 (by decide) (fun _ => ?_) (fun h => absurd (by decide) h) 
  refine lv_iinc (v := (iI (2))) (lv' := [(2, .int (iI (2))), (3, .int (iI (0))), (1, .int (iI (((pt : Nat) : Int)))), (0, .ref rd)]) B.1 B.2.1 dX6_readKind_70 hl (k := 1) rfl (by decide) (by decide) rfl (fun ls hl => ?_)
  refine lv_goto (tgt := 11) B.1 B.2.1 dX6_readKind_73 (by decide) ?_
  refine lv_iload_n B.1 B.2.1 dX6_readKind_11 rfl (lv_at hl 0 rfl) ?_
  refine lv_bipush (v := (iI (10))) B.1 B.2.1 dX6_readKind_12 (by decide) ?_
  refine lv_icmp_ge (tgt := 76) B.1 B.2.1 dX6_readKind_14 (by decide) (fun h => absurd h (by decide)) (fun _ => ?_)
  refine lv_aload_n B.1 B.2.1 dX6_readKind_17 rfl (lv_at hl 3 rfl) ?_
  refine gf_X6_22 B Y 0 rfl rfl dX6_readKind_18 ?_
  refine lv_if_eq (tgt := 37) B.1 B.2.1 dX6_readKind_21 (by decide) (fun h => absurd h (by decide)) (fun _ => ?_)
  refine lv_iload_n B.1 B.2.1 dX6_readKind_24 rfl (lv_at hl 0 rfl) ?_
  refine lv_iconst (v := (iI (3))) B.1 B.2.1 dX6_readKind_25 (by decide) ?_
  refine lv_icmp_lt (tgt := 33) B.1 B.2.1 dX6_readKind_26 (by decide) (fun _ => ?_) (fun h => absurd (by decide) h) 
  refine lv_iconst (v := (iI (0))) B.1 B.2.1 dX6_readKind_33 (by decide) ?_
  refine lv_goto (tgt := 47) B.1 B.2.1 dX6_readKind_34 (by decide) ?_
  refine lv_istore_n (lv' := [(3, .int (iI (0))), (2, .int (iI (2))), (1, .int (iI (((pt : Nat) : Int)))), (0, .ref rd)]) B.1 B.2.1 dX6_readKind_47 rfl hl (by decide) rfl (fun ls hl => ?_)
  refine lv_iload_n B.1 B.2.1 dX6_readKind_48 rfl (lv_at hl 0 rfl) ?_
  refine lv_if_eq (tgt := 70) B.1 B.2.1 dX6_readKind_49 (by decide) (fun _ => ?_) (fun h => absurd (by decide) h) 
  refine lv_iinc (v := (iI (3))) (lv' := [(2, .int (iI (3))), (3, .int (iI (0))), (1, .int (iI (((pt : Nat) : Int)))), (0, .ref rd)]) B.1 B.2.1 dX6_readKind_70 hl (k := 1) rfl (by decide) (by decide) rfl (fun ls hl => ?_)
  refine lv_goto (tgt := 11) B.1 B.2.1 dX6_readKind_73 (by decide) ?_
  refine lv_iload_n B.1 B.2.1 dX6_readKind_11 rfl (lv_at hl 0 rfl) ?_
  refine lv_bipush (v := (iI (10))) B.1 B.2.1 dX6_readKind_12 (by decide) ?_
  refine lv_icmp_ge (tgt := 76) B.1 B.2.1 dX6_readKind_14 (by decide) (fun h => absurd h (by decide)) (fun _ => ?_)
  refine lv_aload_n B.1 B.2.1 dX6_readKind_17 rfl (lv_at hl 3 rfl) ?_
  refine gf_X6_22 B Y 0 rfl rfl dX6_readKind_18 ?_
  refine lv_if_eq (tgt := 37) B.1 B.2.1 dX6_readKind_21 (by decide) (fun h => absurd h (by decide)) (fun _ => ?_)
  refine lv_iload_n B.1 B.2.1 dX6_readKind_24 rfl (lv_at hl 0 rfl) ?_
  refine lv_iconst (v := (iI (3))) B.1 B.2.1 dX6_readKind_25 (by decide) ?_
  refine lv_icmp_lt (tgt := 33) B.1 B.2.1 dX6_readKind_26 (by decide) (fun h => absurd h (by decide)) (fun _ => ?_)
  refine lv_iconst (v := (iI (1))) B.1 B.2.1 dX6_readKind_29 (by decide) ?_
  refine lv_goto (tgt := 47) B.1 B.2.1 dX6_readKind_30 (by decide) ?_
  refine lv_istore_n (lv' := [(3, .int (iI (1))), (2, .int (iI (3))), (1, .int (iI (((pt : Nat) : Int)))), (0, .ref rd)]) B.1 B.2.1 dX6_readKind_47 rfl hl (by decide) rfl (fun ls hl => ?_)
  refine lv_iload_n B.1 B.2.1 dX6_readKind_48 rfl (lv_at hl 0 rfl) ?_
  refine lv_if_eq (tgt := 70) B.1 B.2.1 dX6_readKind_49 (by decide) (fun h => absurd h (by decide)) (fun _ => ?_)
  refine lv_aload_n B.1 B.2.1 dX6_readKind_52 rfl (lv_at hl 3 rfl) ?_
  refine lv_iload_n B.1 B.2.1 dX6_readKind_53 rfl (lv_at hl 2 rfl) ?_
  refine lv_iload_n B.1 B.2.1 dX6_readKind_54 rfl (lv_at hl 1 rfl) ?_
  refine qQ (Cs := []) (Rs := [[(rd, .inr (8, [.ref ri, .int (iI (((L : Nat) : Int))), .int (iI (((pt + 5) : Nat) : Int)), .int (iI (1)), .int (iI (er)), .int (iI (ea)), .int (iI (cn)), .ref rk, .ref rn, .ref ro, .ref rt]))], [(ri, .inl (τ 1, 500, .inl (fun j => iI ((b) j))))]]) Y [] [0, 1] (by decide) rfl (cSE (As := [.int (iI (3))]) (rest := [.int (iI (((pt : Nat) : Int))), .ref rd]) (Ke.ok K) hE B Y [] (by decide) rfl (k_wordOf3 l D τ _ K) q_802 q_803 q_3 q_804 rfl rfl hd_X6_wordOf ⟨(Nat.le_of_ble_eq_true rfl), (Nat.le_of_ble_eq_true rfl)⟩ rfl hl.1 rfl (Nat.le_of_ble_eq_true rfl) dX6_readKind_55 ⟨(Nat.le_of_ble_eq_true rfl), (Nat.le_of_ble_eq_true rfl)⟩) (fun r u H locs hw Y => ?_)
  subst hw
  have Y : Wd D τ s A s.heap (bl [[(rd, .inr (8, [.ref ri, .int (iI (((L : Nat) : Int))), .int (iI (((pt + 5) : Nat) : Int)), .int (iI (1)), .int (iI (er)), .int (iI (ea)), .int (iI (cn)), .ref rk, .ref rn, .ref ro, .ref rt]))], [(ri, .inl (τ 1, 500, .inl (fun j => iI ((b) j))))]]) _ _ := Y
  show W _ _ _ _ _ _ _ _ _ _ _ _ _ _ _ (F0 m _ ls (.ref (K (2 * 3)) :: .int (iI (((pt : Nat) : Int))) :: .ref rd :: []))
  refine qI (Cs := [[(rd, .inr (8, [.ref ri, .int (iI (((L : Nat) : Int))), .int (iI (((pt + 5) : Nat) : Int)), .int (iI (1)), .int (iI (er)), .int (iI (ea)), .int (iI (cn)), .ref rk, .ref rn, .ref ro, .ref rt]))], [(ri, .inl (τ 1, 500, .inl (fun j => iI ((b) j))))]]) (Rs := []) Y [0, 1] [] (by decide) rfl (cVE (As := [.int (iI (((pt : Nat) : Int))), .ref (K (2 * 3))]) (rest := []) (q0 := 0) (Ke.ok K) hE B Y [0, 1] (by decide) rfl (k_isWord l D τ _ K rd ri rk rn ro rt L (1) (er) (ea) (cn) b (by omega) hb pt (ksZ 5) hX1 (by omega) 3 (by decide)) rfl rfl q_815 q_817 qp_11 q_3 q_818 rfl rfl hd_X6_isWord ⟨(Nat.le_of_ble_eq_true rfl), (Nat.le_of_ble_eq_true rfl)⟩ rfl hl.1 rfl (Nat.le_of_ble_eq_true rfl) dX6_readKind_58 ⟨(Nat.le_of_ble_eq_true rfl), (Nat.le_of_ble_eq_true rfl)⟩) (fun r u H locs hw Y => ?_)
  rw [if_neg (by decide)] at hw
  have hw : r = 0 := hw
  subst hw
  have Y : Wd D τ s A s.heap (bl [[(rd, .inr (8, [.ref ri, .int (iI (((L : Nat) : Int))), .int (iI (((pt + 5) : Nat) : Int)), .int (iI (1)), .int (iI (er)), .int (iI (ea)), .int (iI (cn)), .ref rk, .ref rn, .ref ro, .ref rt]))], [(ri, .inl (τ 1, 500, .inl (fun j => iI ((b) j))))]]) _ _ := Y
  refine lv_if_eq (tgt := 70) B.1 B.2.1 dX6_readKind_61 (by decide) (fun _ => ?_) (fun h => absurd (by decide) h) 
  refine lv_iinc (v := (iI (4))) (lv' := [(2, .int (iI (4))), (3, .int (iI (1))), (1, .int (iI (((pt : Nat) : Int)))), (0, .ref rd)]) B.1 B.2.1 dX6_readKind_70 hl (k := 1) rfl (by decide) (by decide) rfl (fun ls hl => ?_)
  refine lv_goto (tgt := 11) B.1 B.2.1 dX6_readKind_73 (by decide) ?_
  refine lv_iload_n B.1 B.2.1 dX6_readKind_11 rfl (lv_at hl 0 rfl) ?_
  refine lv_bipush (v := (iI (10))) B.1 B.2.1 dX6_readKind_12 (by decide) ?_
  refine lv_icmp_ge (tgt := 76) B.1 B.2.1 dX6_readKind_14 (by decide) (fun h => absurd h (by decide)) (fun _ => ?_)
  refine lv_aload_n B.1 B.2.1 dX6_readKind_17 rfl (lv_at hl 3 rfl) ?_
  refine gf_X6_22 B Y 0 rfl rfl dX6_readKind_18 ?_
  refine lv_if_eq (tgt := 37) B.1 B.2.1 dX6_readKind_21 (by decide) (fun h => absurd h (by decide)) (fun _ => ?_)
  refine lv_iload_n B.1 B.2.1 dX6_readKind_24 rfl (lv_at hl 0 rfl) ?_
  refine lv_iconst (v := (iI (3))) B.1 B.2.1 dX6_readKind_25 (by decide) ?_
  refine lv_icmp_lt (tgt := 33) B.1 B.2.1 dX6_readKind_26 (by decide) (fun h => absurd h (by decide)) (fun _ => ?_)
  refine lv_iconst (v := (iI (1))) B.1 B.2.1 dX6_readKind_29 (by decide) ?_
  refine lv_goto (tgt := 47) B.1 B.2.1 dX6_readKind_30 (by decide) ?_
  refine lv_istore_n (lv' := [(3, .int (iI (1))), (2, .int (iI (4))), (1, .int (iI (((pt : Nat) : Int)))), (0, .ref rd)]) B.1 B.2.1 dX6_readKind_47 rfl hl (by decide) rfl (fun ls hl => ?_)
  refine lv_iload_n B.1 B.2.1 dX6_readKind_48 rfl (lv_at hl 0 rfl) ?_
  refine lv_if_eq (tgt := 70) B.1 B.2.1 dX6_readKind_49 (by decide) (fun h => absurd h (by decide)) (fun _ => ?_)
  refine lv_aload_n B.1 B.2.1 dX6_readKind_52 rfl (lv_at hl 3 rfl) ?_
  refine lv_iload_n B.1 B.2.1 dX6_readKind_53 rfl (lv_at hl 2 rfl) ?_
  refine lv_iload_n B.1 B.2.1 dX6_readKind_54 rfl (lv_at hl 1 rfl) ?_
  refine qQ (Cs := []) (Rs := [[(rd, .inr (8, [.ref ri, .int (iI (((L : Nat) : Int))), .int (iI (((pt + 5) : Nat) : Int)), .int (iI (1)), .int (iI (er)), .int (iI (ea)), .int (iI (cn)), .ref rk, .ref rn, .ref ro, .ref rt]))], [(ri, .inl (τ 1, 500, .inl (fun j => iI ((b) j))))]]) Y [] [0, 1] (by decide) rfl (cSE (As := [.int (iI (4))]) (rest := [.int (iI (((pt : Nat) : Int))), .ref rd]) (Ke.ok K) hE B Y [] (by decide) rfl (k_wordOf4 l D τ _ K) q_802 q_803 q_3 q_804 rfl rfl hd_X6_wordOf ⟨(Nat.le_of_ble_eq_true rfl), (Nat.le_of_ble_eq_true rfl)⟩ rfl hl.1 rfl (Nat.le_of_ble_eq_true rfl) dX6_readKind_55 ⟨(Nat.le_of_ble_eq_true rfl), (Nat.le_of_ble_eq_true rfl)⟩) (fun r u H locs hw Y => ?_)
  subst hw
  have Y : Wd D τ s A s.heap (bl [[(rd, .inr (8, [.ref ri, .int (iI (((L : Nat) : Int))), .int (iI (((pt + 5) : Nat) : Int)), .int (iI (1)), .int (iI (er)), .int (iI (ea)), .int (iI (cn)), .ref rk, .ref rn, .ref ro, .ref rt]))], [(ri, .inl (τ 1, 500, .inl (fun j => iI ((b) j))))]]) _ _ := Y
  show W _ _ _ _ _ _ _ _ _ _ _ _ _ _ _ (F0 m _ ls (.ref (K (2 * 4)) :: .int (iI (((pt : Nat) : Int))) :: .ref rd :: []))
  refine qI (Cs := [[(rd, .inr (8, [.ref ri, .int (iI (((L : Nat) : Int))), .int (iI (((pt + 5) : Nat) : Int)), .int (iI (1)), .int (iI (er)), .int (iI (ea)), .int (iI (cn)), .ref rk, .ref rn, .ref ro, .ref rt]))], [(ri, .inl (τ 1, 500, .inl (fun j => iI ((b) j))))]]) (Rs := []) Y [0, 1] [] (by decide) rfl (cVE (As := [.int (iI (((pt : Nat) : Int))), .ref (K (2 * 4))]) (rest := []) (q0 := 0) (Ke.ok K) hE B Y [0, 1] (by decide) rfl (k_isWord l D τ _ K rd ri rk rn ro rt L (1) (er) (ea) (cn) b (by omega) hb pt (ksZ 5) hX1 (by omega) 4 (by decide)) rfl rfl q_815 q_817 qp_11 q_3 q_818 rfl rfl hd_X6_isWord ⟨(Nat.le_of_ble_eq_true rfl), (Nat.le_of_ble_eq_true rfl)⟩ rfl hl.1 rfl (Nat.le_of_ble_eq_true rfl) dX6_readKind_58 ⟨(Nat.le_of_ble_eq_true rfl), (Nat.le_of_ble_eq_true rfl)⟩) (fun r u H locs hw Y => ?_)
  rw [if_neg (by decide)] at hw
  have hw : r = 0 := hw
  subst hw
  have Y : Wd D τ s A s.heap (bl [[(rd, .inr (8, [.ref ri, .int (iI (((L : Nat) : Int))), .int (iI (((pt + 5) : Nat) : Int)), .int (iI (1)), .int (iI (er)), .int (iI (ea)), .int (iI (cn)), .ref rk, .ref rn, .ref ro, .ref rt]))], [(ri, .inl (τ 1, 500, .inl (fun j => iI ((b) j))))]]) _ _ := Y
  refine lv_if_eq (tgt := 70) B.1 B.2.1 dX6_readKind_61 (by decide) (fun _ => ?_) (fun h => absurd (by decide) h) 
  refine lv_iinc (v := (iI (5))) (lv' := [(2, .int (iI (5))), (3, .int (iI (1))), (1, .int (iI (((pt : Nat) : Int)))), (0, .ref rd)]) B.1 B.2.1 dX6_readKind_70 hl (k := 1) rfl (by decide) (by decide) rfl (fun ls hl => ?_)
  refine lv_goto (tgt := 11) B.1 B.2.1 dX6_readKind_73 (by decide) ?_
  refine lv_iload_n B.1 B.2.1 dX6_readKind_11 rfl (lv_at hl 0 rfl) ?_
  refine lv_bipush (v := (iI (10))) B.1 B.2.1 dX6_readKind_12 (by decide) ?_
  refine lv_icmp_ge (tgt := 76) B.1 B.2.1 dX6_readKind_14 (by decide) (fun h => absurd h (by decide)) (fun _ => ?_)
  refine lv_aload_n B.1 B.2.1 dX6_readKind_17 rfl (lv_at hl 3 rfl) ?_
  refine gf_X6_22 B Y 0 rfl rfl dX6_readKind_18 ?_
  refine lv_if_eq (tgt := 37) B.1 B.2.1 dX6_readKind_21 (by decide) (fun h => absurd h (by decide)) (fun _ => ?_)
  refine lv_iload_n B.1 B.2.1 dX6_readKind_24 rfl (lv_at hl 0 rfl) ?_
  refine lv_iconst (v := (iI (3))) B.1 B.2.1 dX6_readKind_25 (by decide) ?_
  refine lv_icmp_lt (tgt := 33) B.1 B.2.1 dX6_readKind_26 (by decide) (fun h => absurd h (by decide)) (fun _ => ?_)
  refine lv_iconst (v := (iI (1))) B.1 B.2.1 dX6_readKind_29 (by decide) ?_
  refine lv_goto (tgt := 47) B.1 B.2.1 dX6_readKind_30 (by decide) ?_
  refine lv_istore_n (lv' := [(3, .int (iI (1))), (2, .int (iI (5))), (1, .int (iI (((pt : Nat) : Int)))), (0, .ref rd)]) B.1 B.2.1 dX6_readKind_47 rfl hl (by decide) rfl (fun ls hl => ?_)
  refine lv_iload_n B.1 B.2.1 dX6_readKind_48 rfl (lv_at hl 0 rfl) ?_
  refine lv_if_eq (tgt := 70) B.1 B.2.1 dX6_readKind_49 (by decide) (fun h => absurd h (by decide)) (fun _ => ?_)
  refine lv_aload_n B.1 B.2.1 dX6_readKind_52 rfl (lv_at hl 3 rfl) ?_
  refine lv_iload_n B.1 B.2.1 dX6_readKind_53 rfl (lv_at hl 2 rfl) ?_
  refine lv_iload_n B.1 B.2.1 dX6_readKind_54 rfl (lv_at hl 1 rfl) ?_
  refine qQ (Cs := []) (Rs := [[(rd, .inr (8, [.ref ri, .int (iI (((L : Nat) : Int))), .int (iI (((pt + 5) : Nat) : Int)), .int (iI (1)), .int (iI (er)), .int (iI (ea)), .int (iI (cn)), .ref rk, .ref rn, .ref ro, .ref rt]))], [(ri, .inl (τ 1, 500, .inl (fun j => iI ((b) j))))]]) Y [] [0, 1] (by decide) rfl (cSE (As := [.int (iI (5))]) (rest := [.int (iI (((pt : Nat) : Int))), .ref rd]) (Ke.ok K) hE B Y [] (by decide) rfl (k_wordOf5 l D τ _ K) q_802 q_803 q_3 q_804 rfl rfl hd_X6_wordOf ⟨(Nat.le_of_ble_eq_true rfl), (Nat.le_of_ble_eq_true rfl)⟩ rfl hl.1 rfl (Nat.le_of_ble_eq_true rfl) dX6_readKind_55 ⟨(Nat.le_of_ble_eq_true rfl), (Nat.le_of_ble_eq_true rfl)⟩) (fun r u H locs hw Y => ?_)
  subst hw
  have Y : Wd D τ s A s.heap (bl [[(rd, .inr (8, [.ref ri, .int (iI (((L : Nat) : Int))), .int (iI (((pt + 5) : Nat) : Int)), .int (iI (1)), .int (iI (er)), .int (iI (ea)), .int (iI (cn)), .ref rk, .ref rn, .ref ro, .ref rt]))], [(ri, .inl (τ 1, 500, .inl (fun j => iI ((b) j))))]]) _ _ := Y
  show W _ _ _ _ _ _ _ _ _ _ _ _ _ _ _ (F0 m _ ls (.ref (K (2 * 5)) :: .int (iI (((pt : Nat) : Int))) :: .ref rd :: []))
  refine qI (Cs := [[(rd, .inr (8, [.ref ri, .int (iI (((L : Nat) : Int))), .int (iI (((pt + 5) : Nat) : Int)), .int (iI (1)), .int (iI (er)), .int (iI (ea)), .int (iI (cn)), .ref rk, .ref rn, .ref ro, .ref rt]))], [(ri, .inl (τ 1, 500, .inl (fun j => iI ((b) j))))]]) (Rs := []) Y [0, 1] [] (by decide) rfl (cVE (As := [.int (iI (((pt : Nat) : Int))), .ref (K (2 * 5))]) (rest := []) (q0 := 0) (Ke.ok K) hE B Y [0, 1] (by decide) rfl (k_isWord l D τ _ K rd ri rk rn ro rt L (1) (er) (ea) (cn) b (by omega) hb pt (ksZ 5) hX1 (by omega) 5 (by decide)) rfl rfl q_815 q_817 qp_11 q_3 q_818 rfl rfl hd_X6_isWord ⟨(Nat.le_of_ble_eq_true rfl), (Nat.le_of_ble_eq_true rfl)⟩ rfl hl.1 rfl (Nat.le_of_ble_eq_true rfl) dX6_readKind_58 ⟨(Nat.le_of_ble_eq_true rfl), (Nat.le_of_ble_eq_true rfl)⟩) (fun r u H locs hw Y => ?_)
  rw [if_pos (by decide)] at hw
  have hw : r = 1 := hw
  subst hw
  have Y : Wd D τ s A s.heap (bl [[(rd, .inr (8, [.ref ri, .int (iI (((L : Nat) : Int))), .int (iI (((pt + 5) : Nat) : Int)), .int (iI (1)), .int (iI (er)), .int (iI (ea)), .int (iI (cn)), .ref rk, .ref rn, .ref ro, .ref rt]))], [(ri, .inl (τ 1, 500, .inl (fun j => iI ((b) j))))]]) _ _ := Y
  refine lv_if_eq (tgt := 70) B.1 B.2.1 dX6_readKind_61 (by decide) (fun h => absurd h (by decide)) (fun _ => ?_)
  refine lv_aload_n B.1 B.2.1 dX6_readKind_64 rfl (lv_at hl 3 rfl) ?_
  refine qV (Cs := [[(rd, .inr (8, [.ref ri, .int (iI (((L : Nat) : Int))), .int (iI (((pt + 5) : Nat) : Int)), .int (iI (1)), .int (iI (er)), .int (iI (ea)), .int (iI (cn)), .ref rk, .ref rn, .ref ro, .ref rt]))], [(ri, .inl (τ 1, 500, .inl (fun j => iI ((b) j))))]]) (Rs := []) Y [0, 1] [] (by decide) rfl (cV (As := []) (rest := []) (q0 := 0) B Y [0, 1] (by decide) rfl (k_skipSpaces l D τ _ rd ri rk rn ro rt L (1) (er) (ea) (cn) b (by omega) hb (pt + 5) (pt + 6) (by omega) (by omega) (fun j h1 h2 => by rw [show j = pt + 5 by omega]; exact hX2) (fun _ => by rw [show pt + 6 = pt + 6 from rfl]; omega)) rfl rfl q_778 q_780 qp_5 q_3 q_781 rfl rfl hd_X6_skipSpaces ⟨(Nat.le_of_ble_eq_true rfl), (Nat.le_of_ble_eq_true rfl)⟩ rfl hl.1 rfl (Nat.le_of_ble_eq_true rfl) dX6_readKind_65 ⟨(Nat.le_of_ble_eq_true rfl), (Nat.le_of_ble_eq_true rfl)⟩) (fun u H locs hw Y => ?_)
  have Y : Wd D τ s A s.heap (bl [[(rd, .inr (8, [.ref ri, .int (iI (((L : Nat) : Int))), .int (iI (((pt + 6) : Nat) : Int)), .int (iI (1)), .int (iI (er)), .int (iI (ea)), .int (iI (cn)), .ref rk, .ref rn, .ref ro, .ref rt]))], [(ri, .inl (τ 1, 500, .inl (fun j => iI ((b) j))))]]) _ _ := Y
  refine lv_iload_n B.1 B.2.1 dX6_readKind_68 rfl (lv_at hl 1 rfl) ?_
  exact eI B hr hlk Y () rfl [0, 1] (by decide) rfl (Nat.le_of_ble_eq_true rfl) (Nat.le_of_ble_eq_true rfl) dX6_readKind_69

set_option maxHeartbeats 4000000 in
set_option maxRecDepth 100000 in
theorem k_readKind6_1 (l : Launch) (D : va_G) (τ : Nat → ClassId) (sz : Nat) (K : Nat → Nat) (rd ri rk rn ro rt L : Nat) (er ea cn : Int) (b : Nat → Int) (hL : L ≤ 500) (hb : BOk b) (pt : Nat) (hX : ats b pt (ksZ 6 ++ [32])) (hpL : pt + 6 < L) (hdd : 48 ≤ b (pt + 6) ∧ b (pt + 6) ≤ 57) : Met l yX6_readKind (Cond.code yX6_readKind cX6_readKind 4 (some .int) :: wALL) { frames := 5, cells := 0, slots := 0, locals := 109 } (PwE (Ke K) D τ (bl [[(rd, .inr (8, [.ref ri, .int (iI (((L : Nat) : Int))), .int (iI (((pt : Nat) : Int))), .int (iI (1)), .int (iI (er)), .int (iI (ea)), .int (iI (cn)), .ref rk, .ref rn, .ref ro, .ref rt]))], [(ri, .inl (τ 1, 500, .inl (fun j => iI ((b) j))))]]) sz [.ref rd]) (va_Qi (fun (r : Int32) (_ : Unit) => r = iI 6) (Bb D (va_A (bl [[(rd, .inr (8, [.ref ri, .int (iI (((L : Nat) : Int))), .int (iI (((pt : Nat) : Int))), .int (iI (1)), .int (iI (er)), .int (iI (ea)), .int (iI (cn)), .ref rk, .ref rn, .ref ro, .ref rt]))], [(ri, .inl (τ 1, 500, .inl (fun j => iI ((b) j))))]]) sz) (fun (_ : Unit) => [[(rd, .inr (8, [.ref ri, .int (iI (((L : Nat) : Int))), .int (iI ((((pt + 6) : Nat) : Int))), .int (iI (1)), .int (iI (er)), .int (iI (ea)), .int (iI (cn)), .ref rk, .ref rn, .ref ro, .ref rt]))], [(ri, .inl (τ 1, 500, .inl (fun j => iI ((b) j))))]])) (va_A (bl [[(rd, .inr (8, [.ref ri, .int (iI (((L : Nat) : Int))), .int (iI (((pt : Nat) : Int))), .int (iI (1)), .int (iI (er)), .int (iI (ea)), .int (iI (cn)), .ref rk, .ref rn, .ref ro, .ref rt]))], [(ri, .inl (τ 1, 500, .inl (fun j => iI ((b) j))))]]) sz)) 0 0 (va_A (bl [[(rd, .inr (8, [.ref ri, .int (iI (((L : Nat) : Int))), .int (iI (((pt : Nat) : Int))), .int (iI (1)), .int (iI (er)), .int (iI (ea)), .int (iI (cn)), .ref rk, .ref rn, .ref ro, .ref rt]))], [(ri, .inl (τ 1, 500, .inl (fun j => iI ((b) j))))]]) sz) := by
  refine bodyE (by decide +kernel) (Nat.le_of_ble_eq_true rfl) (fun p e s m below meth c ls B hr hlk hin hsz Y hE hl => ?_)
  have hl : lv_has ls 4 [(0, .ref rd)] := hl
  have B : CallFix p m c cX6_readKind 4 s _ wALL RX6 := B
  generalize va_A (bl [[(rd, .inr (8, [.ref ri, .int (iI (((L : Nat) : Int))), .int (iI (((pt : Nat) : Int))), .int (iI (1)), .int (iI (er)), .int (iI (ea)), .int (iI (cn)), .ref rk, .ref rn, .ref ro, .ref rt]))], [(ri, .inl (τ 1, 500, .inl (fun j => iI ((b) j))))]]) sz = A at Y hE ⊢
  have hX1 := (ats_app.mp hX).1
  have hX2 : b (pt + 5) = 32 := (ats_app.mp hX).2 0 (by decide)
  have hkl : (ksZ 6).length = 5 := by decide
  have hLt : ∀ x ∈ ksZ 6, (97 : Int) ≤ x ∧ x ≤ 122 := by decide
  refine lv_aload_n B.1 B.2.1 dX6_readKind_0 rfl (lv_at hl 0 rfl) ?_
  refine gf_X6_19 B Y 0 rfl rfl dX6_readKind_1 ?_
  refine lv_istore_n (lv' := [(1, .int (iI (((pt : Nat) : Int)))), (0, .ref rd)]) B.1 B.2.1 dX6_readKind_4 rfl hl (by decide) rfl (fun ls hl => ?_)
  refine lv_aload_n B.1 B.2.1 dX6_readKind_5 rfl (lv_at hl 1 rfl) ?_
  refine qV (Cs := [[(rd, .inr (8, [.ref ri, .int (iI (((L : Nat) : Int))), .int (iI (((pt : Nat) : Int))), .int (iI (1)), .int (iI (er)), .int (iI (ea)), .int (iI (cn)), .ref rk, .ref rn, .ref ro, .ref rt]))], [(ri, .inl (τ 1, 500, .inl (fun j => iI ((b) j))))]]) (Rs := []) Y [0, 1] [] (by decide) rfl (cV (As := []) (rest := []) (q0 := 0) B Y [0, 1] (by decide) rfl (k_skipWord l D τ _ rd ri rk rn ro rt L (1) (er) (ea) (cn) b (by omega) hb pt (pt + 5) (by omega) (by omega) (fun j h1 h2 => ats_all hX1 hLt j h1 h2) (fun _ => Or.inl (by omega))) rfl rfl q_794 q_796 qp_9 q_3 q_797 rfl rfl hd_X6_skipWord ⟨(Nat.le_of_ble_eq_true rfl), (Nat.le_of_ble_eq_true rfl)⟩ rfl hl.1 rfl (Nat.le_of_ble_eq_true rfl) dX6_readKind_6 ⟨(Nat.le_of_ble_eq_true rfl), (Nat.le_of_ble_eq_true rfl)⟩) (fun u H locs hw Y => ?_)
  have Y : Wd D τ s A s.heap (bl [[(rd, .inr (8, [.ref ri, .int (iI (((L : Nat) : Int))), .int (iI (((pt + 5) : Nat) : Int)), .int (iI (1)), .int (iI (er)), .int (iI (ea)), .int (iI (cn)), .ref rk, .ref rn, .ref ro, .ref rt]))], [(ri, .inl (τ 1, 500, .inl (fun j => iI ((b) j))))]]) _ _ := Y
  refine lv_iconst (v := (iI (0))) B.1 B.2.1 dX6_readKind_9 (by decide) ?_
  refine lv_istore_n (lv' := [(2, .int (iI (0))), (1, .int (iI (((pt : Nat) : Int)))), (0, .ref rd)]) B.1 B.2.1 dX6_readKind_10 rfl hl (by decide) rfl (fun ls hl => ?_)
  refine lv_iload_n B.1 B.2.1 dX6_readKind_11 rfl (lv_at hl 0 rfl) ?_
  refine lv_bipush (v := (iI (10))) B.1 B.2.1 dX6_readKind_12 (by decide) ?_
  refine lv_icmp_ge (tgt := 76) B.1 B.2.1 dX6_readKind_14 (by decide) (fun h => absurd h (by decide)) (fun _ => ?_)
  refine lv_aload_n B.1 B.2.1 dX6_readKind_17 rfl (lv_at hl 2 rfl) ?_
  refine gf_X6_22 B Y 0 rfl rfl dX6_readKind_18 ?_
  refine lv_if_eq (tgt := 37) B.1 B.2.1 dX6_readKind_21 (by decide) (fun h => absurd h (by decide)) (fun _ => ?_)
  refine lv_iload_n B.1 B.2.1 dX6_readKind_24 rfl (lv_at hl 0 rfl) ?_
  refine lv_iconst (v := (iI (3))) B.1 B.2.1 dX6_readKind_25 (by decide) ?_
  refine lv_icmp_lt (tgt := 33) B.1 B.2.1 dX6_readKind_26 (by decide) (fun _ => ?_) (fun h => absurd (by decide) h) 
  refine lv_iconst (v := (iI (0))) B.1 B.2.1 dX6_readKind_33 (by decide) ?_
  refine lv_goto (tgt := 47) B.1 B.2.1 dX6_readKind_34 (by decide) ?_
  refine lv_istore_n (lv' := [(3, .int (iI (0))), (2, .int (iI (0))), (1, .int (iI (((pt : Nat) : Int)))), (0, .ref rd)]) B.1 B.2.1 dX6_readKind_47 rfl hl (by decide) rfl (fun ls hl => ?_)
  refine lv_iload_n B.1 B.2.1 dX6_readKind_48 rfl (lv_at hl 0 rfl) ?_
  refine lv_if_eq (tgt := 70) B.1 B.2.1 dX6_readKind_49 (by decide) (fun _ => ?_) (fun h => absurd (by decide) h) 
  refine lv_iinc (v := (iI (1))) (lv' := [(2, .int (iI (1))), (3, .int (iI (0))), (1, .int (iI (((pt : Nat) : Int)))), (0, .ref rd)]) B.1 B.2.1 dX6_readKind_70 hl (k := 1) rfl (by decide) (by decide) rfl (fun ls hl => ?_)
  refine lv_goto (tgt := 11) B.1 B.2.1 dX6_readKind_73 (by decide) ?_
  refine lv_iload_n B.1 B.2.1 dX6_readKind_11 rfl (lv_at hl 0 rfl) ?_
  refine lv_bipush (v := (iI (10))) B.1 B.2.1 dX6_readKind_12 (by decide) ?_
  refine lv_icmp_ge (tgt := 76) B.1 B.2.1 dX6_readKind_14 (by decide) (fun h => absurd h (by decide)) (fun _ => ?_)
  refine lv_aload_n B.1 B.2.1 dX6_readKind_17 rfl (lv_at hl 3 rfl) ?_
  refine gf_X6_22 B Y 0 rfl rfl dX6_readKind_18 ?_
  refine lv_if_eq (tgt := 37) B.1 B.2.1 dX6_readKind_21 (by decide) (fun h => absurd h (by decide)) (fun _ => ?_)
  refine lv_iload_n B.1 B.2.1 dX6_readKind_24 rfl (lv_at hl 0 rfl) ?_
  refine lv_iconst (v := (iI (3))) B.1 B.2.1 dX6_readKind_25 (by decide) ?_
  refine lv_icmp_lt (tgt := 33) B.1 B.2.1 dX6_readKind_26 (by decide) (fun _ => ?_) (fun h => absurd (by decide) h) 
  refine lv_iconst (v := (iI (0))) B.1 B.2.1 dX6_readKind_33 (by decide) ?_
  refine lv_goto (tgt := 47) B.1 B.2.1 dX6_readKind_34 (by decide) ?_
  refine lv_istore_n (lv' := [(3, .int (iI (0))), (2, .int (iI (1))), (1, .int (iI (((pt : Nat) : Int)))), (0, .ref rd)]) B.1 B.2.1 dX6_readKind_47 rfl hl (by decide) rfl (fun ls hl => ?_)
  refine lv_iload_n B.1 B.2.1 dX6_readKind_48 rfl (lv_at hl 0 rfl) ?_
  refine lv_if_eq (tgt := 70) B.1 B.2.1 dX6_readKind_49 (by decide) (fun _ => ?_) (fun h => absurd (by decide) h) 
  refine lv_iinc (v := (iI (2))) (lv' := [(2, .int (iI (2))), (3, .int (iI (0))), (1, .int (iI (((pt : Nat) : Int)))), (0, .ref rd)]) B.1 B.2.1 dX6_readKind_70 hl (k := 1) rfl (by decide) (by decide) rfl (fun ls hl => ?_)
  refine lv_goto (tgt := 11) B.1 B.2.1 dX6_readKind_73 (by decide) ?_
  refine lv_iload_n B.1 B.2.1 dX6_readKind_11 rfl (lv_at hl 0 rfl) ?_
  refine lv_bipush (v := (iI (10))) B.1 B.2.1 dX6_readKind_12 (by decide) ?_
  refine lv_icmp_ge (tgt := 76) B.1 B.2.1 dX6_readKind_14 (by decide) (fun h => absurd h (by decide)) (fun _ => ?_)
  refine lv_aload_n B.1 B.2.1 dX6_readKind_17 rfl (lv_at hl 3 rfl) ?_
  refine gf_X6_22 B Y 0 rfl rfl dX6_readKind_18 ?_
  refine lv_if_eq (tgt := 37) B.1 B.2.1 dX6_readKind_21 (by decide) (fun h => absurd h (by decide)) (fun _ => ?_)
  refine lv_iload_n B.1 B.2.1 dX6_readKind_24 rfl (lv_at hl 0 rfl) ?_
  refine lv_iconst (v := (iI (3))) B.1 B.2.1 dX6_readKind_25 (by decide) ?_
  refine lv_icmp_lt (tgt := 33) B.1 B.2.1 dX6_readKind_26 (by decide) (fun _ => ?_) (fun h => absurd (by decide) h) 
  refine lv_iconst (v := (iI (0))) B.1 B.2.1 dX6_readKind_33 (by decide) ?_
  refine lv_goto (tgt := 47) B.1 B.2.1 dX6_readKind_34 (by decide) ?_
  refine lv_istore_n (lv' := [(3, .int (iI (0))), (2, .int (iI (2))), (1, .int (iI (((pt : Nat) : Int)))), (0, .ref rd)]) B.1 B.2.1 dX6_readKind_47 rfl hl (by decide) rfl (fun ls hl => ?_)
  refine lv_iload_n B.1 B.2.1 dX6_readKind_48 rfl (lv_at hl 0 rfl) ?_
  refine lv_if_eq (tgt := 70) B.1 B.2.1 dX6_readKind_49 (by decide) (fun _ => ?_) (fun h => absurd (by decide) h) 
  refine lv_iinc (v := (iI (3))) (lv' := [(2, .int (iI (3))), (3, .int (iI (0))), (1, .int (iI (((pt : Nat) : Int)))), (0, .ref rd)]) B.1 B.2.1 dX6_readKind_70 hl (k := 1) rfl (by decide) (by decide) rfl (fun ls hl => ?_)
  refine lv_goto (tgt := 11) B.1 B.2.1 dX6_readKind_73 (by decide) ?_
  refine lv_iload_n B.1 B.2.1 dX6_readKind_11 rfl (lv_at hl 0 rfl) ?_
  refine lv_bipush (v := (iI (10))) B.1 B.2.1 dX6_readKind_12 (by decide) ?_
  refine lv_icmp_ge (tgt := 76) B.1 B.2.1 dX6_readKind_14 (by decide) (fun h => absurd h (by decide)) (fun _ => ?_)
  refine lv_aload_n B.1 B.2.1 dX6_readKind_17 rfl (lv_at hl 3 rfl) ?_
  refine gf_X6_22 B Y 0 rfl rfl dX6_readKind_18 ?_
  refine lv_if_eq (tgt := 37) B.1 B.2.1 dX6_readKind_21 (by decide) (fun h => absurd h (by decide)) (fun _ => ?_)
  refine lv_iload_n B.1 B.2.1 dX6_readKind_24 rfl (lv_at hl 0 rfl) ?_
  refine lv_iconst (v := (iI (3))) B.1 B.2.1 dX6_readKind_25 (by decide) ?_
  refine lv_icmp_lt (tgt := 33) B.1 B.2.1 dX6_readKind_26 (by decide) (fun h => absurd h (by decide)) (fun _ => ?_)
  refine lv_iconst (v := (iI (1))) B.1 B.2.1 dX6_readKind_29 (by decide) ?_
  refine lv_goto (tgt := 47) B.1 B.2.1 dX6_readKind_30 (by decide) ?_
  refine lv_istore_n (lv' := [(3, .int (iI (1))), (2, .int (iI (3))), (1, .int (iI (((pt : Nat) : Int)))), (0, .ref rd)]) B.1 B.2.1 dX6_readKind_47 rfl hl (by decide) rfl (fun ls hl => ?_)
  refine lv_iload_n B.1 B.2.1 dX6_readKind_48 rfl (lv_at hl 0 rfl) ?_
  refine lv_if_eq (tgt := 70) B.1 B.2.1 dX6_readKind_49 (by decide) (fun h => absurd h (by decide)) (fun _ => ?_)
  refine lv_aload_n B.1 B.2.1 dX6_readKind_52 rfl (lv_at hl 3 rfl) ?_
  refine lv_iload_n B.1 B.2.1 dX6_readKind_53 rfl (lv_at hl 2 rfl) ?_
  refine lv_iload_n B.1 B.2.1 dX6_readKind_54 rfl (lv_at hl 1 rfl) ?_
  refine qQ (Cs := []) (Rs := [[(rd, .inr (8, [.ref ri, .int (iI (((L : Nat) : Int))), .int (iI (((pt + 5) : Nat) : Int)), .int (iI (1)), .int (iI (er)), .int (iI (ea)), .int (iI (cn)), .ref rk, .ref rn, .ref ro, .ref rt]))], [(ri, .inl (τ 1, 500, .inl (fun j => iI ((b) j))))]]) Y [] [0, 1] (by decide) rfl (cSE (As := [.int (iI (3))]) (rest := [.int (iI (((pt : Nat) : Int))), .ref rd]) (Ke.ok K) hE B Y [] (by decide) rfl (k_wordOf3 l D τ _ K) q_802 q_803 q_3 q_804 rfl rfl hd_X6_wordOf ⟨(Nat.le_of_ble_eq_true rfl), (Nat.le_of_ble_eq_true rfl)⟩ rfl hl.1 rfl (Nat.le_of_ble_eq_true rfl) dX6_readKind_55 ⟨(Nat.le_of_ble_eq_true rfl), (Nat.le_of_ble_eq_true rfl)⟩) (fun r u H locs hw Y => ?_)
  subst hw
  have Y : Wd D τ s A s.heap (bl [[(rd, .inr (8, [.ref ri, .int (iI (((L : Nat) : Int))), .int (iI (((pt + 5) : Nat) : Int)), .int (iI (1)), .int (iI (er)), .int (iI (ea)), .int (iI (cn)), .ref rk, .ref rn, .ref ro, .ref rt]))], [(ri, .inl (τ 1, 500, .inl (fun j => iI ((b) j))))]]) _ _ := Y
  show W _ _ _ _ _ _ _ _ _ _ _ _ _ _ _ (F0 m _ ls (.ref (K (2 * 3)) :: .int (iI (((pt : Nat) : Int))) :: .ref rd :: []))
  refine qI (Cs := [[(rd, .inr (8, [.ref ri, .int (iI (((L : Nat) : Int))), .int (iI (((pt + 5) : Nat) : Int)), .int (iI (1)), .int (iI (er)), .int (iI (ea)), .int (iI (cn)), .ref rk, .ref rn, .ref ro, .ref rt]))], [(ri, .inl (τ 1, 500, .inl (fun j => iI ((b) j))))]]) (Rs := []) Y [0, 1] [] (by decide) rfl (cVE (As := [.int (iI (((pt : Nat) : Int))), .ref (K (2 * 3))]) (rest := []) (q0 := 0) (Ke.ok K) hE B Y [0, 1] (by decide) rfl (k_isWord l D τ _ K rd ri rk rn ro rt L (1) (er) (ea) (cn) b (by omega) hb pt (ksZ 6) hX1 (by omega) 3 (by decide)) rfl rfl q_815 q_817 qp_11 q_3 q_818 rfl rfl hd_X6_isWord ⟨(Nat.le_of_ble_eq_true rfl), (Nat.le_of_ble_eq_true rfl)⟩ rfl hl.1 rfl (Nat.le_of_ble_eq_true rfl) dX6_readKind_58 ⟨(Nat.le_of_ble_eq_true rfl), (Nat.le_of_ble_eq_true rfl)⟩) (fun r u H locs hw Y => ?_)
  rw [if_neg (by decide)] at hw
  have hw : r = 0 := hw
  subst hw
  have Y : Wd D τ s A s.heap (bl [[(rd, .inr (8, [.ref ri, .int (iI (((L : Nat) : Int))), .int (iI (((pt + 5) : Nat) : Int)), .int (iI (1)), .int (iI (er)), .int (iI (ea)), .int (iI (cn)), .ref rk, .ref rn, .ref ro, .ref rt]))], [(ri, .inl (τ 1, 500, .inl (fun j => iI ((b) j))))]]) _ _ := Y
  refine lv_if_eq (tgt := 70) B.1 B.2.1 dX6_readKind_61 (by decide) (fun _ => ?_) (fun h => absurd (by decide) h) 
  refine lv_iinc (v := (iI (4))) (lv' := [(2, .int (iI (4))), (3, .int (iI (1))), (1, .int (iI (((pt : Nat) : Int)))), (0, .ref rd)]) B.1 B.2.1 dX6_readKind_70 hl (k := 1) rfl (by decide) (by decide) rfl (fun ls hl => ?_)
  refine lv_goto (tgt := 11) B.1 B.2.1 dX6_readKind_73 (by decide) ?_
  refine lv_iload_n B.1 B.2.1 dX6_readKind_11 rfl (lv_at hl 0 rfl) ?_
  refine lv_bipush (v := (iI (10))) B.1 B.2.1 dX6_readKind_12 (by decide) ?_
  refine lv_icmp_ge (tgt := 76) B.1 B.2.1 dX6_readKind_14 (by decide) (fun h => absurd h (by decide)) (fun _ => ?_)
  refine lv_aload_n B.1 B.2.1 dX6_readKind_17 rfl (lv_at hl 3 rfl) ?_
  refine gf_X6_22 B Y 0 rfl rfl dX6_readKind_18 ?_
  refine lv_if_eq (tgt := 37) B.1 B.2.1 dX6_readKind_21 (by decide) (fun h => absurd h (by decide)) (fun _ => ?_)
  refine lv_iload_n B.1 B.2.1 dX6_readKind_24 rfl (lv_at hl 0 rfl) ?_
  refine lv_iconst (v := (iI (3))) B.1 B.2.1 dX6_readKind_25 (by decide) ?_
  refine lv_icmp_lt (tgt := 33) B.1 B.2.1 dX6_readKind_26 (by decide) (fun h => absurd h (by decide)) (fun _ => ?_)
  refine lv_iconst (v := (iI (1))) B.1 B.2.1 dX6_readKind_29 (by decide) ?_
  refine lv_goto (tgt := 47) B.1 B.2.1 dX6_readKind_30 (by decide) ?_
  refine lv_istore_n (lv' := [(3, .int (iI (1))), (2, .int (iI (4))), (1, .int (iI (((pt : Nat) : Int)))), (0, .ref rd)]) B.1 B.2.1 dX6_readKind_47 rfl hl (by decide) rfl (fun ls hl => ?_)
  refine lv_iload_n B.1 B.2.1 dX6_readKind_48 rfl (lv_at hl 0 rfl) ?_
  refine lv_if_eq (tgt := 70) B.1 B.2.1 dX6_readKind_49 (by decide) (fun h => absurd h (by decide)) (fun _ => ?_)
  refine lv_aload_n B.1 B.2.1 dX6_readKind_52 rfl (lv_at hl 3 rfl) ?_
  refine lv_iload_n B.1 B.2.1 dX6_readKind_53 rfl (lv_at hl 2 rfl) ?_
  refine lv_iload_n B.1 B.2.1 dX6_readKind_54 rfl (lv_at hl 1 rfl) ?_
  refine qQ (Cs := []) (Rs := [[(rd, .inr (8, [.ref ri, .int (iI (((L : Nat) : Int))), .int (iI (((pt + 5) : Nat) : Int)), .int (iI (1)), .int (iI (er)), .int (iI (ea)), .int (iI (cn)), .ref rk, .ref rn, .ref ro, .ref rt]))], [(ri, .inl (τ 1, 500, .inl (fun j => iI ((b) j))))]]) Y [] [0, 1] (by decide) rfl (cSE (As := [.int (iI (4))]) (rest := [.int (iI (((pt : Nat) : Int))), .ref rd]) (Ke.ok K) hE B Y [] (by decide) rfl (k_wordOf4 l D τ _ K) q_802 q_803 q_3 q_804 rfl rfl hd_X6_wordOf ⟨(Nat.le_of_ble_eq_true rfl), (Nat.le_of_ble_eq_true rfl)⟩ rfl hl.1 rfl (Nat.le_of_ble_eq_true rfl) dX6_readKind_55 ⟨(Nat.le_of_ble_eq_true rfl), (Nat.le_of_ble_eq_true rfl)⟩) (fun r u H locs hw Y => ?_)
  subst hw
  have Y : Wd D τ s A s.heap (bl [[(rd, .inr (8, [.ref ri, .int (iI (((L : Nat) : Int))), .int (iI (((pt + 5) : Nat) : Int)), .int (iI (1)), .int (iI (er)), .int (iI (ea)), .int (iI (cn)), .ref rk, .ref rn, .ref ro, .ref rt]))], [(ri, .inl (τ 1, 500, .inl (fun j => iI ((b) j))))]]) _ _ := Y
  show W _ _ _ _ _ _ _ _ _ _ _ _ _ _ _ (F0 m _ ls (.ref (K (2 * 4)) :: .int (iI (((pt : Nat) : Int))) :: .ref rd :: []))
  refine qI (Cs := [[(rd, .inr (8, [.ref ri, .int (iI (((L : Nat) : Int))), .int (iI (((pt + 5) : Nat) : Int)), .int (iI (1)), .int (iI (er)), .int (iI (ea)), .int (iI (cn)), .ref rk, .ref rn, .ref ro, .ref rt]))], [(ri, .inl (τ 1, 500, .inl (fun j => iI ((b) j))))]]) (Rs := []) Y [0, 1] [] (by decide) rfl (cVE (As := [.int (iI (((pt : Nat) : Int))), .ref (K (2 * 4))]) (rest := []) (q0 := 0) (Ke.ok K) hE B Y [0, 1] (by decide) rfl (k_isWord l D τ _ K rd ri rk rn ro rt L (1) (er) (ea) (cn) b (by omega) hb pt (ksZ 6) hX1 (by omega) 4 (by decide)) rfl rfl q_815 q_817 qp_11 q_3 q_818 rfl rfl hd_X6_isWord ⟨(Nat.le_of_ble_eq_true rfl), (Nat.le_of_ble_eq_true rfl)⟩ rfl hl.1 rfl (Nat.le_of_ble_eq_true rfl) dX6_readKind_58 ⟨(Nat.le_of_ble_eq_true rfl), (Nat.le_of_ble_eq_true rfl)⟩) (fun r u H locs hw Y => ?_)
  rw [if_neg (by decide)] at hw
  have hw : r = 0 := hw
  subst hw
  have Y : Wd D τ s A s.heap (bl [[(rd, .inr (8, [.ref ri, .int (iI (((L : Nat) : Int))), .int (iI (((pt + 5) : Nat) : Int)), .int (iI (1)), .int (iI (er)), .int (iI (ea)), .int (iI (cn)), .ref rk, .ref rn, .ref ro, .ref rt]))], [(ri, .inl (τ 1, 500, .inl (fun j => iI ((b) j))))]]) _ _ := Y
  refine lv_if_eq (tgt := 70) B.1 B.2.1 dX6_readKind_61 (by decide) (fun _ => ?_) (fun h => absurd (by decide) h) 
  refine lv_iinc (v := (iI (5))) (lv' := [(2, .int (iI (5))), (3, .int (iI (1))), (1, .int (iI (((pt : Nat) : Int)))), (0, .ref rd)]) B.1 B.2.1 dX6_readKind_70 hl (k := 1) rfl (by decide) (by decide) rfl (fun ls hl => ?_)
  refine lv_goto (tgt := 11) B.1 B.2.1 dX6_readKind_73 (by decide) ?_
  refine lv_iload_n B.1 B.2.1 dX6_readKind_11 rfl (lv_at hl 0 rfl) ?_
  refine lv_bipush (v := (iI (10))) B.1 B.2.1 dX6_readKind_12 (by decide) ?_
  refine lv_icmp_ge (tgt := 76) B.1 B.2.1 dX6_readKind_14 (by decide) (fun h => absurd h (by decide)) (fun _ => ?_)
  refine lv_aload_n B.1 B.2.1 dX6_readKind_17 rfl (lv_at hl 3 rfl) ?_
  refine gf_X6_22 B Y 0 rfl rfl dX6_readKind_18 ?_
  refine lv_if_eq (tgt := 37) B.1 B.2.1 dX6_readKind_21 (by decide) (fun h => absurd h (by decide)) (fun _ => ?_)
  refine lv_iload_n B.1 B.2.1 dX6_readKind_24 rfl (lv_at hl 0 rfl) ?_
  refine lv_iconst (v := (iI (3))) B.1 B.2.1 dX6_readKind_25 (by decide) ?_
  refine lv_icmp_lt (tgt := 33) B.1 B.2.1 dX6_readKind_26 (by decide) (fun h => absurd h (by decide)) (fun _ => ?_)
  refine lv_iconst (v := (iI (1))) B.1 B.2.1 dX6_readKind_29 (by decide) ?_
  refine lv_goto (tgt := 47) B.1 B.2.1 dX6_readKind_30 (by decide) ?_
  refine lv_istore_n (lv' := [(3, .int (iI (1))), (2, .int (iI (5))), (1, .int (iI (((pt : Nat) : Int)))), (0, .ref rd)]) B.1 B.2.1 dX6_readKind_47 rfl hl (by decide) rfl (fun ls hl => ?_)
  refine lv_iload_n B.1 B.2.1 dX6_readKind_48 rfl (lv_at hl 0 rfl) ?_
  refine lv_if_eq (tgt := 70) B.1 B.2.1 dX6_readKind_49 (by decide) (fun h => absurd h (by decide)) (fun _ => ?_)
  refine lv_aload_n B.1 B.2.1 dX6_readKind_52 rfl (lv_at hl 3 rfl) ?_
  refine lv_iload_n B.1 B.2.1 dX6_readKind_53 rfl (lv_at hl 2 rfl) ?_
  refine lv_iload_n B.1 B.2.1 dX6_readKind_54 rfl (lv_at hl 1 rfl) ?_
  refine qQ (Cs := []) (Rs := [[(rd, .inr (8, [.ref ri, .int (iI (((L : Nat) : Int))), .int (iI (((pt + 5) : Nat) : Int)), .int (iI (1)), .int (iI (er)), .int (iI (ea)), .int (iI (cn)), .ref rk, .ref rn, .ref ro, .ref rt]))], [(ri, .inl (τ 1, 500, .inl (fun j => iI ((b) j))))]]) Y [] [0, 1] (by decide) rfl (cSE (As := [.int (iI (5))]) (rest := [.int (iI (((pt : Nat) : Int))), .ref rd]) (Ke.ok K) hE B Y [] (by decide) rfl (k_wordOf5 l D τ _ K) q_802 q_803 q_3 q_804 rfl rfl hd_X6_wordOf ⟨(Nat.le_of_ble_eq_true rfl), (Nat.le_of_ble_eq_true rfl)⟩ rfl hl.1 rfl (Nat.le_of_ble_eq_true rfl) dX6_readKind_55 ⟨(Nat.le_of_ble_eq_true rfl), (Nat.le_of_ble_eq_true rfl)⟩) (fun r u H locs hw Y => ?_)
  subst hw
  have Y : Wd D τ s A s.heap (bl [[(rd, .inr (8, [.ref ri, .int (iI (((L : Nat) : Int))), .int (iI (((pt + 5) : Nat) : Int)), .int (iI (1)), .int (iI (er)), .int (iI (ea)), .int (iI (cn)), .ref rk, .ref rn, .ref ro, .ref rt]))], [(ri, .inl (τ 1, 500, .inl (fun j => iI ((b) j))))]]) _ _ := Y
  show W _ _ _ _ _ _ _ _ _ _ _ _ _ _ _ (F0 m _ ls (.ref (K (2 * 5)) :: .int (iI (((pt : Nat) : Int))) :: .ref rd :: []))
  refine qI (Cs := [[(rd, .inr (8, [.ref ri, .int (iI (((L : Nat) : Int))), .int (iI (((pt + 5) : Nat) : Int)), .int (iI (1)), .int (iI (er)), .int (iI (ea)), .int (iI (cn)), .ref rk, .ref rn, .ref ro, .ref rt]))], [(ri, .inl (τ 1, 500, .inl (fun j => iI ((b) j))))]]) (Rs := []) Y [0, 1] [] (by decide) rfl (cVE (As := [.int (iI (((pt : Nat) : Int))), .ref (K (2 * 5))]) (rest := []) (q0 := 0) (Ke.ok K) hE B Y [0, 1] (by decide) rfl (k_isWord l D τ _ K rd ri rk rn ro rt L (1) (er) (ea) (cn) b (by omega) hb pt (ksZ 6) hX1 (by omega) 5 (by decide)) rfl rfl q_815 q_817 qp_11 q_3 q_818 rfl rfl hd_X6_isWord ⟨(Nat.le_of_ble_eq_true rfl), (Nat.le_of_ble_eq_true rfl)⟩ rfl hl.1 rfl (Nat.le_of_ble_eq_true rfl) dX6_readKind_58 ⟨(Nat.le_of_ble_eq_true rfl), (Nat.le_of_ble_eq_true rfl)⟩) (fun r u H locs hw Y => ?_)
  rw [if_neg (by decide)] at hw
  have hw : r = 0 := hw
  subst hw
  have Y : Wd D τ s A s.heap (bl [[(rd, .inr (8, [.ref ri, .int (iI (((L : Nat) : Int))), .int (iI (((pt + 5) : Nat) : Int)), .int (iI (1)), .int (iI (er)), .int (iI (ea)), .int (iI (cn)), .ref rk, .ref rn, .ref ro, .ref rt]))], [(ri, .inl (τ 1, 500, .inl (fun j => iI ((b) j))))]]) _ _ := Y
  refine lv_if_eq (tgt := 70) B.1 B.2.1 dX6_readKind_61 (by decide) (fun _ => ?_) (fun h => absurd (by decide) h) 
  refine lv_iinc (v := (iI (6))) (lv' := [(2, .int (iI (6))), (3, .int (iI (1))), (1, .int (iI (((pt : Nat) : Int)))), (0, .ref rd)]) B.1 B.2.1 dX6_readKind_70 hl (k := 1) rfl (by decide) (by decide) rfl (fun ls hl => ?_)
  refine lv_goto (tgt := 11) B.1 B.2.1 dX6_readKind_73 (by decide) ?_
  refine lv_iload_n B.1 B.2.1 dX6_readKind_11 rfl (lv_at hl 0 rfl) ?_
  refine lv_bipush (v := (iI (10))) B.1 B.2.1 dX6_readKind_12 (by decide) ?_
  refine lv_icmp_ge (tgt := 76) B.1 B.2.1 dX6_readKind_14 (by decide) (fun h => absurd h (by decide)) (fun _ => ?_)
  refine lv_aload_n B.1 B.2.1 dX6_readKind_17 rfl (lv_at hl 3 rfl) ?_
  refine gf_X6_22 B Y 0 rfl rfl dX6_readKind_18 ?_
  refine lv_if_eq (tgt := 37) B.1 B.2.1 dX6_readKind_21 (by decide) (fun h => absurd h (by decide)) (fun _ => ?_)
  refine lv_iload_n B.1 B.2.1 dX6_readKind_24 rfl (lv_at hl 0 rfl) ?_
  refine lv_iconst (v := (iI (3))) B.1 B.2.1 dX6_readKind_25 (by decide) ?_
  refine lv_icmp_lt (tgt := 33) B.1 B.2.1 dX6_readKind_26 (by decide) (fun h => absurd h (by decide)) (fun _ => ?_)
  refine lv_iconst (v := (iI (1))) B.1 B.2.1 dX6_readKind_29 (by decide) ?_
  refine lv_goto (tgt := 47) B.1 B.2.1 dX6_readKind_30 (by decide) ?_
  refine lv_istore_n (lv' := [(3, .int (iI (1))), (2, .int (iI (6))), (1, .int (iI (((pt : Nat) : Int)))), (0, .ref rd)]) B.1 B.2.1 dX6_readKind_47 rfl hl (by decide) rfl (fun ls hl => ?_)
  refine lv_iload_n B.1 B.2.1 dX6_readKind_48 rfl (lv_at hl 0 rfl) ?_
  refine lv_if_eq (tgt := 70) B.1 B.2.1 dX6_readKind_49 (by decide) (fun h => absurd h (by decide)) (fun _ => ?_)
  refine lv_aload_n B.1 B.2.1 dX6_readKind_52 rfl (lv_at hl 3 rfl) ?_
  refine lv_iload_n B.1 B.2.1 dX6_readKind_53 rfl (lv_at hl 2 rfl) ?_
  refine lv_iload_n B.1 B.2.1 dX6_readKind_54 rfl (lv_at hl 1 rfl) ?_
  refine qQ (Cs := []) (Rs := [[(rd, .inr (8, [.ref ri, .int (iI (((L : Nat) : Int))), .int (iI (((pt + 5) : Nat) : Int)), .int (iI (1)), .int (iI (er)), .int (iI (ea)), .int (iI (cn)), .ref rk, .ref rn, .ref ro, .ref rt]))], [(ri, .inl (τ 1, 500, .inl (fun j => iI ((b) j))))]]) Y [] [0, 1] (by decide) rfl (cSE (As := [.int (iI (6))]) (rest := [.int (iI (((pt : Nat) : Int))), .ref rd]) (Ke.ok K) hE B Y [] (by decide) rfl (k_wordOf6 l D τ _ K) q_802 q_803 q_3 q_804 rfl rfl hd_X6_wordOf ⟨(Nat.le_of_ble_eq_true rfl), (Nat.le_of_ble_eq_true rfl)⟩ rfl hl.1 rfl (Nat.le_of_ble_eq_true rfl) dX6_readKind_55 ⟨(Nat.le_of_ble_eq_true rfl), (Nat.le_of_ble_eq_true rfl)⟩) (fun r u H locs hw Y => ?_)
  subst hw
  have Y : Wd D τ s A s.heap (bl [[(rd, .inr (8, [.ref ri, .int (iI (((L : Nat) : Int))), .int (iI (((pt + 5) : Nat) : Int)), .int (iI (1)), .int (iI (er)), .int (iI (ea)), .int (iI (cn)), .ref rk, .ref rn, .ref ro, .ref rt]))], [(ri, .inl (τ 1, 500, .inl (fun j => iI ((b) j))))]]) _ _ := Y
  show W _ _ _ _ _ _ _ _ _ _ _ _ _ _ _ (F0 m _ ls (.ref (K (2 * 6)) :: .int (iI (((pt : Nat) : Int))) :: .ref rd :: []))
  refine qI (Cs := [[(rd, .inr (8, [.ref ri, .int (iI (((L : Nat) : Int))), .int (iI (((pt + 5) : Nat) : Int)), .int (iI (1)), .int (iI (er)), .int (iI (ea)), .int (iI (cn)), .ref rk, .ref rn, .ref ro, .ref rt]))], [(ri, .inl (τ 1, 500, .inl (fun j => iI ((b) j))))]]) (Rs := []) Y [0, 1] [] (by decide) rfl (cVE (As := [.int (iI (((pt : Nat) : Int))), .ref (K (2 * 6))]) (rest := []) (q0 := 0) (Ke.ok K) hE B Y [0, 1] (by decide) rfl (k_isWord l D τ _ K rd ri rk rn ro rt L (1) (er) (ea) (cn) b (by omega) hb pt (ksZ 6) hX1 (by omega) 6 (by decide)) rfl rfl q_815 q_817 qp_11 q_3 q_818 rfl rfl hd_X6_isWord ⟨(Nat.le_of_ble_eq_true rfl), (Nat.le_of_ble_eq_true rfl)⟩ rfl hl.1 rfl (Nat.le_of_ble_eq_true rfl) dX6_readKind_58 ⟨(Nat.le_of_ble_eq_true rfl), (Nat.le_of_ble_eq_true rfl)⟩) (fun r u H locs hw Y => ?_)
  rw [if_pos (by decide)] at hw
  have hw : r = 1 := hw
  subst hw
  have Y : Wd D τ s A s.heap (bl [[(rd, .inr (8, [.ref ri, .int (iI (((L : Nat) : Int))), .int (iI (((pt + 5) : Nat) : Int)), .int (iI (1)), .int (iI (er)), .int (iI (ea)), .int (iI (cn)), .ref rk, .ref rn, .ref ro, .ref rt]))], [(ri, .inl (τ 1, 500, .inl (fun j => iI ((b) j))))]]) _ _ := Y
  refine lv_if_eq (tgt := 70) B.1 B.2.1 dX6_readKind_61 (by decide) (fun h => absurd h (by decide)) (fun _ => ?_)
  refine lv_aload_n B.1 B.2.1 dX6_readKind_64 rfl (lv_at hl 3 rfl) ?_
  refine qV (Cs := [[(rd, .inr (8, [.ref ri, .int (iI (((L : Nat) : Int))), .int (iI (((pt + 5) : Nat) : Int)), .int (iI (1)), .int (iI (er)), .int (iI (ea)), .int (iI (cn)), .ref rk, .ref rn, .ref ro, .ref rt]))], [(ri, .inl (τ 1, 500, .inl (fun j => iI ((b) j))))]]) (Rs := []) Y [0, 1] [] (by decide) rfl (cV (As := []) (rest := []) (q0 := 0) B Y [0, 1] (by decide) rfl (k_skipSpaces l D τ _ rd ri rk rn ro rt L (1) (er) (ea) (cn) b (by omega) hb (pt + 5) (pt + 6) (by omega) (by omega) (fun j h1 h2 => by rw [show j = pt + 5 by omega]; exact hX2) (fun _ => by rw [show pt + 6 = pt + 6 from rfl]; omega)) rfl rfl q_778 q_780 qp_5 q_3 q_781 rfl rfl hd_X6_skipSpaces ⟨(Nat.le_of_ble_eq_true rfl), (Nat.le_of_ble_eq_true rfl)⟩ rfl hl.1 rfl (Nat.le_of_ble_eq_true rfl) dX6_readKind_65 ⟨(Nat.le_of_ble_eq_true rfl), (Nat.le_of_ble_eq_true rfl)⟩) (fun u H locs hw Y => ?_)
  have Y : Wd D τ s A s.heap (bl [[(rd, .inr (8, [.ref ri, .int (iI (((L : Nat) : Int))), .int (iI (((pt + 6) : Nat) : Int)), .int (iI (1)), .int (iI (er)), .int (iI (ea)), .int (iI (cn)), .ref rk, .ref rn, .ref ro, .ref rt]))], [(ri, .inl (τ 1, 500, .inl (fun j => iI ((b) j))))]]) _ _ := Y
  refine lv_iload_n B.1 B.2.1 dX6_readKind_68 rfl (lv_at hl 1 rfl) ?_
  exact eI B hr hlk Y () rfl [0, 1] (by decide) rfl (Nat.le_of_ble_eq_true rfl) (Nat.le_of_ble_eq_true rfl) dX6_readKind_69

set_option maxHeartbeats 4000000 in
set_option maxRecDepth 100000 in
theorem k_readKind7_1 (l : Launch) (D : va_G) (τ : Nat → ClassId) (sz : Nat) (K : Nat → Nat) (rd ri rk rn ro rt L : Nat) (er ea cn : Int) (b : Nat → Int) (hL : L ≤ 500) (hb : BOk b) (pt : Nat) (hX : ats b pt (ksZ 7 ++ [32])) (hpL : pt + 5 < L) (hdd : 48 ≤ b (pt + 5) ∧ b (pt + 5) ≤ 57) : Met l yX6_readKind (Cond.code yX6_readKind cX6_readKind 4 (some .int) :: wALL) { frames := 5, cells := 0, slots := 0, locals := 109 } (PwE (Ke K) D τ (bl [[(rd, .inr (8, [.ref ri, .int (iI (((L : Nat) : Int))), .int (iI (((pt : Nat) : Int))), .int (iI (1)), .int (iI (er)), .int (iI (ea)), .int (iI (cn)), .ref rk, .ref rn, .ref ro, .ref rt]))], [(ri, .inl (τ 1, 500, .inl (fun j => iI ((b) j))))]]) sz [.ref rd]) (va_Qi (fun (r : Int32) (_ : Unit) => r = iI 7) (Bb D (va_A (bl [[(rd, .inr (8, [.ref ri, .int (iI (((L : Nat) : Int))), .int (iI (((pt : Nat) : Int))), .int (iI (1)), .int (iI (er)), .int (iI (ea)), .int (iI (cn)), .ref rk, .ref rn, .ref ro, .ref rt]))], [(ri, .inl (τ 1, 500, .inl (fun j => iI ((b) j))))]]) sz) (fun (_ : Unit) => [[(rd, .inr (8, [.ref ri, .int (iI (((L : Nat) : Int))), .int (iI ((((pt + 5) : Nat) : Int))), .int (iI (1)), .int (iI (er)), .int (iI (ea)), .int (iI (cn)), .ref rk, .ref rn, .ref ro, .ref rt]))], [(ri, .inl (τ 1, 500, .inl (fun j => iI ((b) j))))]])) (va_A (bl [[(rd, .inr (8, [.ref ri, .int (iI (((L : Nat) : Int))), .int (iI (((pt : Nat) : Int))), .int (iI (1)), .int (iI (er)), .int (iI (ea)), .int (iI (cn)), .ref rk, .ref rn, .ref ro, .ref rt]))], [(ri, .inl (τ 1, 500, .inl (fun j => iI ((b) j))))]]) sz)) 0 0 (va_A (bl [[(rd, .inr (8, [.ref ri, .int (iI (((L : Nat) : Int))), .int (iI (((pt : Nat) : Int))), .int (iI (1)), .int (iI (er)), .int (iI (ea)), .int (iI (cn)), .ref rk, .ref rn, .ref ro, .ref rt]))], [(ri, .inl (τ 1, 500, .inl (fun j => iI ((b) j))))]]) sz) := by
  refine bodyE (by decide +kernel) (Nat.le_of_ble_eq_true rfl) (fun p e s m below meth c ls B hr hlk hin hsz Y hE hl => ?_)
  have hl : lv_has ls 4 [(0, .ref rd)] := hl
  have B : CallFix p m c cX6_readKind 4 s _ wALL RX6 := B
  generalize va_A (bl [[(rd, .inr (8, [.ref ri, .int (iI (((L : Nat) : Int))), .int (iI (((pt : Nat) : Int))), .int (iI (1)), .int (iI (er)), .int (iI (ea)), .int (iI (cn)), .ref rk, .ref rn, .ref ro, .ref rt]))], [(ri, .inl (τ 1, 500, .inl (fun j => iI ((b) j))))]]) sz = A at Y hE ⊢
  have hX1 := (ats_app.mp hX).1
  have hX2 : b (pt + 4) = 32 := (ats_app.mp hX).2 0 (by decide)
  have hkl : (ksZ 7).length = 4 := by decide
  have hLt : ∀ x ∈ ksZ 7, (97 : Int) ≤ x ∧ x ≤ 122 := by decide
  refine lv_aload_n B.1 B.2.1 dX6_readKind_0 rfl (lv_at hl 0 rfl) ?_
  refine gf_X6_19 B Y 0 rfl rfl dX6_readKind_1 ?_
  refine lv_istore_n (lv' := [(1, .int (iI (((pt : Nat) : Int)))), (0, .ref rd)]) B.1 B.2.1 dX6_readKind_4 rfl hl (by decide) rfl (fun ls hl => ?_)
  refine lv_aload_n B.1 B.2.1 dX6_readKind_5 rfl (lv_at hl 1 rfl) ?_
  refine qV (Cs := [[(rd, .inr (8, [.ref ri, .int (iI (((L : Nat) : Int))), .int (iI (((pt : Nat) : Int))), .int (iI (1)), .int (iI (er)), .int (iI (ea)), .int (iI (cn)), .ref rk, .ref rn, .ref ro, .ref rt]))], [(ri, .inl (τ 1, 500, .inl (fun j => iI ((b) j))))]]) (Rs := []) Y [0, 1] [] (by decide) rfl (cV (As := []) (rest := []) (q0 := 0) B Y [0, 1] (by decide) rfl (k_skipWord l D τ _ rd ri rk rn ro rt L (1) (er) (ea) (cn) b (by omega) hb pt (pt + 4) (by omega) (by omega) (fun j h1 h2 => ats_all hX1 hLt j h1 h2) (fun _ => Or.inl (by omega))) rfl rfl q_794 q_796 qp_9 q_3 q_797 rfl rfl hd_X6_skipWord ⟨(Nat.le_of_ble_eq_true rfl), (Nat.le_of_ble_eq_true rfl)⟩ rfl hl.1 rfl (Nat.le_of_ble_eq_true rfl) dX6_readKind_6 ⟨(Nat.le_of_ble_eq_true rfl), (Nat.le_of_ble_eq_true rfl)⟩) (fun u H locs hw Y => ?_)
  have Y : Wd D τ s A s.heap (bl [[(rd, .inr (8, [.ref ri, .int (iI (((L : Nat) : Int))), .int (iI (((pt + 4) : Nat) : Int)), .int (iI (1)), .int (iI (er)), .int (iI (ea)), .int (iI (cn)), .ref rk, .ref rn, .ref ro, .ref rt]))], [(ri, .inl (τ 1, 500, .inl (fun j => iI ((b) j))))]]) _ _ := Y
  refine lv_iconst (v := (iI (0))) B.1 B.2.1 dX6_readKind_9 (by decide) ?_
  refine lv_istore_n (lv' := [(2, .int (iI (0))), (1, .int (iI (((pt : Nat) : Int)))), (0, .ref rd)]) B.1 B.2.1 dX6_readKind_10 rfl hl (by decide) rfl (fun ls hl => ?_)
  refine lv_iload_n B.1 B.2.1 dX6_readKind_11 rfl (lv_at hl 0 rfl) ?_
  refine lv_bipush (v := (iI (10))) B.1 B.2.1 dX6_readKind_12 (by decide) ?_
  refine lv_icmp_ge (tgt := 76) B.1 B.2.1 dX6_readKind_14 (by decide) (fun h => absurd h (by decide)) (fun _ => ?_)
  refine lv_aload_n B.1 B.2.1 dX6_readKind_17 rfl (lv_at hl 2 rfl) ?_
  refine gf_X6_22 B Y 0 rfl rfl dX6_readKind_18 ?_
  refine lv_if_eq (tgt := 37) B.1 B.2.1 dX6_readKind_21 (by decide) (fun h => absurd h (by decide)) (fun _ => ?_)
  refine lv_iload_n B.1 B.2.1 dX6_readKind_24 rfl (lv_at hl 0 rfl) ?_
  refine lv_iconst (v := (iI (3))) B.1 B.2.1 dX6_readKind_25 (by decide) ?_
  refine lv_icmp_lt (tgt := 33) B.1 B.2.1 dX6_readKind_26 (by decide) (fun _ => ?_) (fun h => absurd (by decide) h) 
  refine lv_iconst (v := (iI (0))) B.1 B.2.1 dX6_readKind_33 (by decide) ?_
  refine lv_goto (tgt := 47) B.1 B.2.1 dX6_readKind_34 (by decide) ?_
  refine lv_istore_n (lv' := [(3, .int (iI (0))), (2, .int (iI (0))), (1, .int (iI (((pt : Nat) : Int)))), (0, .ref rd)]) B.1 B.2.1 dX6_readKind_47 rfl hl (by decide) rfl (fun ls hl => ?_)
  refine lv_iload_n B.1 B.2.1 dX6_readKind_48 rfl (lv_at hl 0 rfl) ?_
  refine lv_if_eq (tgt := 70) B.1 B.2.1 dX6_readKind_49 (by decide) (fun _ => ?_) (fun h => absurd (by decide) h) 
  refine lv_iinc (v := (iI (1))) (lv' := [(2, .int (iI (1))), (3, .int (iI (0))), (1, .int (iI (((pt : Nat) : Int)))), (0, .ref rd)]) B.1 B.2.1 dX6_readKind_70 hl (k := 1) rfl (by decide) (by decide) rfl (fun ls hl => ?_)
  refine lv_goto (tgt := 11) B.1 B.2.1 dX6_readKind_73 (by decide) ?_
  refine lv_iload_n B.1 B.2.1 dX6_readKind_11 rfl (lv_at hl 0 rfl) ?_
  refine lv_bipush (v := (iI (10))) B.1 B.2.1 dX6_readKind_12 (by decide) ?_
  refine lv_icmp_ge (tgt := 76) B.1 B.2.1 dX6_readKind_14 (by decide) (fun h => absurd h (by decide)) (fun _ => ?_)
  refine lv_aload_n B.1 B.2.1 dX6_readKind_17 rfl (lv_at hl 3 rfl) ?_
  refine gf_X6_22 B Y 0 rfl rfl dX6_readKind_18 ?_
  refine lv_if_eq (tgt := 37) B.1 B.2.1 dX6_readKind_21 (by decide) (fun h => absurd h (by decide)) (fun _ => ?_)
  refine lv_iload_n B.1 B.2.1 dX6_readKind_24 rfl (lv_at hl 0 rfl) ?_
  refine lv_iconst (v := (iI (3))) B.1 B.2.1 dX6_readKind_25 (by decide) ?_
  refine lv_icmp_lt (tgt := 33) B.1 B.2.1 dX6_readKind_26 (by decide) (fun _ => ?_) (fun h => absurd (by decide) h) 
  refine lv_iconst (v := (iI (0))) B.1 B.2.1 dX6_readKind_33 (by decide) ?_
  refine lv_goto (tgt := 47) B.1 B.2.1 dX6_readKind_34 (by decide) ?_
  refine lv_istore_n (lv' := [(3, .int (iI (0))), (2, .int (iI (1))), (1, .int (iI (((pt : Nat) : Int)))), (0, .ref rd)]) B.1 B.2.1 dX6_readKind_47 rfl hl (by decide) rfl (fun ls hl => ?_)
  refine lv_iload_n B.1 B.2.1 dX6_readKind_48 rfl (lv_at hl 0 rfl) ?_
  refine lv_if_eq (tgt := 70) B.1 B.2.1 dX6_readKind_49 (by decide) (fun _ => ?_) (fun h => absurd (by decide) h) 
  refine lv_iinc (v := (iI (2))) (lv' := [(2, .int (iI (2))), (3, .int (iI (0))), (1, .int (iI (((pt : Nat) : Int)))), (0, .ref rd)]) B.1 B.2.1 dX6_readKind_70 hl (k := 1) rfl (by decide) (by decide) rfl (fun ls hl => ?_)
  refine lv_goto (tgt := 11) B.1 B.2.1 dX6_readKind_73 (by decide) ?_
  refine lv_iload_n B.1 B.2.1 dX6_readKind_11 rfl (lv_at hl 0 rfl) ?_
  refine lv_bipush (v := (iI (10))) B.1 B.2.1 dX6_readKind_12 (by decide) ?_
  refine lv_icmp_ge (tgt := 76) B.1 B.2.1 dX6_readKind_14 (by decide) (fun h => absurd h (by decide)) (fun _ => ?_)
  refine lv_aload_n B.1 B.2.1 dX6_readKind_17 rfl (lv_at hl 3 rfl) ?_
  refine gf_X6_22 B Y 0 rfl rfl dX6_readKind_18 ?_
  refine lv_if_eq (tgt := 37) B.1 B.2.1 dX6_readKind_21 (by decide) (fun h => absurd h (by decide)) (fun _ => ?_)
  refine lv_iload_n B.1 B.2.1 dX6_readKind_24 rfl (lv_at hl 0 rfl) ?_
  refine lv_iconst (v := (iI (3))) B.1 B.2.1 dX6_readKind_25 (by decide) ?_
  refine lv_icmp_lt (tgt := 33) B.1 B.2.1 dX6_readKind_26 (by decide) (fun _ => ?_) (fun h => absurd (by decide) h) 
  refine lv_iconst (v := (iI (0))) B.1 B.2.1 dX6_readKind_33 (by decide) ?_
  refine lv_goto (tgt := 47) B.1 B.2.1 dX6_readKind_34 (by decide) ?_
  refine lv_istore_n (lv' := [(3, .int (iI (0))), (2, .int (iI (2))), (1, .int (iI (((pt : Nat) : Int)))), (0, .ref rd)]) B.1 B.2.1 dX6_readKind_47 rfl hl (by decide) rfl (fun ls hl => ?_)
  refine lv_iload_n B.1 B.2.1 dX6_readKind_48 rfl (lv_at hl 0 rfl) ?_
  refine lv_if_eq (tgt := 70) B.1 B.2.1 dX6_readKind_49 (by decide) (fun _ => ?_) (fun h => absurd (by decide) h) 
  refine lv_iinc (v := (iI (3))) (lv' := [(2, .int (iI (3))), (3, .int (iI (0))), (1, .int (iI (((pt : Nat) : Int)))), (0, .ref rd)]) B.1 B.2.1 dX6_readKind_70 hl (k := 1) rfl (by decide) (by decide) rfl (fun ls hl => ?_)
  refine lv_goto (tgt := 11) B.1 B.2.1 dX6_readKind_73 (by decide) ?_
  refine lv_iload_n B.1 B.2.1 dX6_readKind_11 rfl (lv_at hl 0 rfl) ?_
  refine lv_bipush (v := (iI (10))) B.1 B.2.1 dX6_readKind_12 (by decide) ?_
  refine lv_icmp_ge (tgt := 76) B.1 B.2.1 dX6_readKind_14 (by decide) (fun h => absurd h (by decide)) (fun _ => ?_)
  refine lv_aload_n B.1 B.2.1 dX6_readKind_17 rfl (lv_at hl 3 rfl) ?_
  refine gf_X6_22 B Y 0 rfl rfl dX6_readKind_18 ?_
  refine lv_if_eq (tgt := 37) B.1 B.2.1 dX6_readKind_21 (by decide) (fun h => absurd h (by decide)) (fun _ => ?_)
  refine lv_iload_n B.1 B.2.1 dX6_readKind_24 rfl (lv_at hl 0 rfl) ?_
  refine lv_iconst (v := (iI (3))) B.1 B.2.1 dX6_readKind_25 (by decide) ?_
  refine lv_icmp_lt (tgt := 33) B.1 B.2.1 dX6_readKind_26 (by decide) (fun h => absurd h (by decide)) (fun _ => ?_)
  refine lv_iconst (v := (iI (1))) B.1 B.2.1 dX6_readKind_29 (by decide) ?_
  refine lv_goto (tgt := 47) B.1 B.2.1 dX6_readKind_30 (by decide) ?_
  refine lv_istore_n (lv' := [(3, .int (iI (1))), (2, .int (iI (3))), (1, .int (iI (((pt : Nat) : Int)))), (0, .ref rd)]) B.1 B.2.1 dX6_readKind_47 rfl hl (by decide) rfl (fun ls hl => ?_)
  refine lv_iload_n B.1 B.2.1 dX6_readKind_48 rfl (lv_at hl 0 rfl) ?_
  refine lv_if_eq (tgt := 70) B.1 B.2.1 dX6_readKind_49 (by decide) (fun h => absurd h (by decide)) (fun _ => ?_)
  refine lv_aload_n B.1 B.2.1 dX6_readKind_52 rfl (lv_at hl 3 rfl) ?_
  refine lv_iload_n B.1 B.2.1 dX6_readKind_53 rfl (lv_at hl 2 rfl) ?_
  refine lv_iload_n B.1 B.2.1 dX6_readKind_54 rfl (lv_at hl 1 rfl) ?_
  refine qQ (Cs := []) (Rs := [[(rd, .inr (8, [.ref ri, .int (iI (((L : Nat) : Int))), .int (iI (((pt + 4) : Nat) : Int)), .int (iI (1)), .int (iI (er)), .int (iI (ea)), .int (iI (cn)), .ref rk, .ref rn, .ref ro, .ref rt]))], [(ri, .inl (τ 1, 500, .inl (fun j => iI ((b) j))))]]) Y [] [0, 1] (by decide) rfl (cSE (As := [.int (iI (3))]) (rest := [.int (iI (((pt : Nat) : Int))), .ref rd]) (Ke.ok K) hE B Y [] (by decide) rfl (k_wordOf3 l D τ _ K) q_802 q_803 q_3 q_804 rfl rfl hd_X6_wordOf ⟨(Nat.le_of_ble_eq_true rfl), (Nat.le_of_ble_eq_true rfl)⟩ rfl hl.1 rfl (Nat.le_of_ble_eq_true rfl) dX6_readKind_55 ⟨(Nat.le_of_ble_eq_true rfl), (Nat.le_of_ble_eq_true rfl)⟩) (fun r u H locs hw Y => ?_)
  subst hw
  have Y : Wd D τ s A s.heap (bl [[(rd, .inr (8, [.ref ri, .int (iI (((L : Nat) : Int))), .int (iI (((pt + 4) : Nat) : Int)), .int (iI (1)), .int (iI (er)), .int (iI (ea)), .int (iI (cn)), .ref rk, .ref rn, .ref ro, .ref rt]))], [(ri, .inl (τ 1, 500, .inl (fun j => iI ((b) j))))]]) _ _ := Y
  show W _ _ _ _ _ _ _ _ _ _ _ _ _ _ _ (F0 m _ ls (.ref (K (2 * 3)) :: .int (iI (((pt : Nat) : Int))) :: .ref rd :: []))
  refine qI (Cs := [[(rd, .inr (8, [.ref ri, .int (iI (((L : Nat) : Int))), .int (iI (((pt + 4) : Nat) : Int)), .int (iI (1)), .int (iI (er)), .int (iI (ea)), .int (iI (cn)), .ref rk, .ref rn, .ref ro, .ref rt]))], [(ri, .inl (τ 1, 500, .inl (fun j => iI ((b) j))))]]) (Rs := []) Y [0, 1] [] (by decide) rfl (cVE (As := [.int (iI (((pt : Nat) : Int))), .ref (K (2 * 3))]) (rest := []) (q0 := 0) (Ke.ok K) hE B Y [0, 1] (by decide) rfl (k_isWord l D τ _ K rd ri rk rn ro rt L (1) (er) (ea) (cn) b (by omega) hb pt (ksZ 7) hX1 (by omega) 3 (by decide)) rfl rfl q_815 q_817 qp_11 q_3 q_818 rfl rfl hd_X6_isWord ⟨(Nat.le_of_ble_eq_true rfl), (Nat.le_of_ble_eq_true rfl)⟩ rfl hl.1 rfl (Nat.le_of_ble_eq_true rfl) dX6_readKind_58 ⟨(Nat.le_of_ble_eq_true rfl), (Nat.le_of_ble_eq_true rfl)⟩) (fun r u H locs hw Y => ?_)
  rw [if_neg (by decide)] at hw
  have hw : r = 0 := hw
  subst hw
  have Y : Wd D τ s A s.heap (bl [[(rd, .inr (8, [.ref ri, .int (iI (((L : Nat) : Int))), .int (iI (((pt + 4) : Nat) : Int)), .int (iI (1)), .int (iI (er)), .int (iI (ea)), .int (iI (cn)), .ref rk, .ref rn, .ref ro, .ref rt]))], [(ri, .inl (τ 1, 500, .inl (fun j => iI ((b) j))))]]) _ _ := Y
  refine lv_if_eq (tgt := 70) B.1 B.2.1 dX6_readKind_61 (by decide) (fun _ => ?_) (fun h => absurd (by decide) h) 
  refine lv_iinc (v := (iI (4))) (lv' := [(2, .int (iI (4))), (3, .int (iI (1))), (1, .int (iI (((pt : Nat) : Int)))), (0, .ref rd)]) B.1 B.2.1 dX6_readKind_70 hl (k := 1) rfl (by decide) (by decide) rfl (fun ls hl => ?_)
  refine lv_goto (tgt := 11) B.1 B.2.1 dX6_readKind_73 (by decide) ?_
  refine lv_iload_n B.1 B.2.1 dX6_readKind_11 rfl (lv_at hl 0 rfl) ?_
  refine lv_bipush (v := (iI (10))) B.1 B.2.1 dX6_readKind_12 (by decide) ?_
  refine lv_icmp_ge (tgt := 76) B.1 B.2.1 dX6_readKind_14 (by decide) (fun h => absurd h (by decide)) (fun _ => ?_)
  refine lv_aload_n B.1 B.2.1 dX6_readKind_17 rfl (lv_at hl 3 rfl) ?_
  refine gf_X6_22 B Y 0 rfl rfl dX6_readKind_18 ?_
  refine lv_if_eq (tgt := 37) B.1 B.2.1 dX6_readKind_21 (by decide) (fun h => absurd h (by decide)) (fun _ => ?_)
  refine lv_iload_n B.1 B.2.1 dX6_readKind_24 rfl (lv_at hl 0 rfl) ?_
  refine lv_iconst (v := (iI (3))) B.1 B.2.1 dX6_readKind_25 (by decide) ?_
  refine lv_icmp_lt (tgt := 33) B.1 B.2.1 dX6_readKind_26 (by decide) (fun h => absurd h (by decide)) (fun _ => ?_)
  refine lv_iconst (v := (iI (1))) B.1 B.2.1 dX6_readKind_29 (by decide) ?_
  refine lv_goto (tgt := 47) B.1 B.2.1 dX6_readKind_30 (by decide) ?_
  refine lv_istore_n (lv' := [(3, .int (iI (1))), (2, .int (iI (4))), (1, .int (iI (((pt : Nat) : Int)))), (0, .ref rd)]) B.1 B.2.1 dX6_readKind_47 rfl hl (by decide) rfl (fun ls hl => ?_)
  refine lv_iload_n B.1 B.2.1 dX6_readKind_48 rfl (lv_at hl 0 rfl) ?_
  refine lv_if_eq (tgt := 70) B.1 B.2.1 dX6_readKind_49 (by decide) (fun h => absurd h (by decide)) (fun _ => ?_)
  refine lv_aload_n B.1 B.2.1 dX6_readKind_52 rfl (lv_at hl 3 rfl) ?_
  refine lv_iload_n B.1 B.2.1 dX6_readKind_53 rfl (lv_at hl 2 rfl) ?_
  refine lv_iload_n B.1 B.2.1 dX6_readKind_54 rfl (lv_at hl 1 rfl) ?_
  refine qQ (Cs := []) (Rs := [[(rd, .inr (8, [.ref ri, .int (iI (((L : Nat) : Int))), .int (iI (((pt + 4) : Nat) : Int)), .int (iI (1)), .int (iI (er)), .int (iI (ea)), .int (iI (cn)), .ref rk, .ref rn, .ref ro, .ref rt]))], [(ri, .inl (τ 1, 500, .inl (fun j => iI ((b) j))))]]) Y [] [0, 1] (by decide) rfl (cSE (As := [.int (iI (4))]) (rest := [.int (iI (((pt : Nat) : Int))), .ref rd]) (Ke.ok K) hE B Y [] (by decide) rfl (k_wordOf4 l D τ _ K) q_802 q_803 q_3 q_804 rfl rfl hd_X6_wordOf ⟨(Nat.le_of_ble_eq_true rfl), (Nat.le_of_ble_eq_true rfl)⟩ rfl hl.1 rfl (Nat.le_of_ble_eq_true rfl) dX6_readKind_55 ⟨(Nat.le_of_ble_eq_true rfl), (Nat.le_of_ble_eq_true rfl)⟩) (fun r u H locs hw Y => ?_)
  subst hw
  have Y : Wd D τ s A s.heap (bl [[(rd, .inr (8, [.ref ri, .int (iI (((L : Nat) : Int))), .int (iI (((pt + 4) : Nat) : Int)), .int (iI (1)), .int (iI (er)), .int (iI (ea)), .int (iI (cn)), .ref rk, .ref rn, .ref ro, .ref rt]))], [(ri, .inl (τ 1, 500, .inl (fun j => iI ((b) j))))]]) _ _ := Y
  show W _ _ _ _ _ _ _ _ _ _ _ _ _ _ _ (F0 m _ ls (.ref (K (2 * 4)) :: .int (iI (((pt : Nat) : Int))) :: .ref rd :: []))
  refine qI (Cs := [[(rd, .inr (8, [.ref ri, .int (iI (((L : Nat) : Int))), .int (iI (((pt + 4) : Nat) : Int)), .int (iI (1)), .int (iI (er)), .int (iI (ea)), .int (iI (cn)), .ref rk, .ref rn, .ref ro, .ref rt]))], [(ri, .inl (τ 1, 500, .inl (fun j => iI ((b) j))))]]) (Rs := []) Y [0, 1] [] (by decide) rfl (cVE (As := [.int (iI (((pt : Nat) : Int))), .ref (K (2 * 4))]) (rest := []) (q0 := 0) (Ke.ok K) hE B Y [0, 1] (by decide) rfl (k_isWord l D τ _ K rd ri rk rn ro rt L (1) (er) (ea) (cn) b (by omega) hb pt (ksZ 7) hX1 (by omega) 4 (by decide)) rfl rfl q_815 q_817 qp_11 q_3 q_818 rfl rfl hd_X6_isWord ⟨(Nat.le_of_ble_eq_true rfl), (Nat.le_of_ble_eq_true rfl)⟩ rfl hl.1 rfl (Nat.le_of_ble_eq_true rfl) dX6_readKind_58 ⟨(Nat.le_of_ble_eq_true rfl), (Nat.le_of_ble_eq_true rfl)⟩) (fun r u H locs hw Y => ?_)
  rw [if_neg (by decide)] at hw
  have hw : r = 0 := hw
  subst hw
  have Y : Wd D τ s A s.heap (bl [[(rd, .inr (8, [.ref ri, .int (iI (((L : Nat) : Int))), .int (iI (((pt + 4) : Nat) : Int)), .int (iI (1)), .int (iI (er)), .int (iI (ea)), .int (iI (cn)), .ref rk, .ref rn, .ref ro, .ref rt]))], [(ri, .inl (τ 1, 500, .inl (fun j => iI ((b) j))))]]) _ _ := Y
  refine lv_if_eq (tgt := 70) B.1 B.2.1 dX6_readKind_61 (by decide) (fun _ => ?_) (fun h => absurd (by decide) h) 
  refine lv_iinc (v := (iI (5))) (lv' := [(2, .int (iI (5))), (3, .int (iI (1))), (1, .int (iI (((pt : Nat) : Int)))), (0, .ref rd)]) B.1 B.2.1 dX6_readKind_70 hl (k := 1) rfl (by decide) (by decide) rfl (fun ls hl => ?_)
  refine lv_goto (tgt := 11) B.1 B.2.1 dX6_readKind_73 (by decide) ?_
  refine lv_iload_n B.1 B.2.1 dX6_readKind_11 rfl (lv_at hl 0 rfl) ?_
  refine lv_bipush (v := (iI (10))) B.1 B.2.1 dX6_readKind_12 (by decide) ?_
  refine lv_icmp_ge (tgt := 76) B.1 B.2.1 dX6_readKind_14 (by decide) (fun h => absurd h (by decide)) (fun _ => ?_)
  refine lv_aload_n B.1 B.2.1 dX6_readKind_17 rfl (lv_at hl 3 rfl) ?_
  refine gf_X6_22 B Y 0 rfl rfl dX6_readKind_18 ?_
  refine lv_if_eq (tgt := 37) B.1 B.2.1 dX6_readKind_21 (by decide) (fun h => absurd h (by decide)) (fun _ => ?_)
  refine lv_iload_n B.1 B.2.1 dX6_readKind_24 rfl (lv_at hl 0 rfl) ?_
  refine lv_iconst (v := (iI (3))) B.1 B.2.1 dX6_readKind_25 (by decide) ?_
  refine lv_icmp_lt (tgt := 33) B.1 B.2.1 dX6_readKind_26 (by decide) (fun h => absurd h (by decide)) (fun _ => ?_)
  refine lv_iconst (v := (iI (1))) B.1 B.2.1 dX6_readKind_29 (by decide) ?_
  refine lv_goto (tgt := 47) B.1 B.2.1 dX6_readKind_30 (by decide) ?_
  refine lv_istore_n (lv' := [(3, .int (iI (1))), (2, .int (iI (5))), (1, .int (iI (((pt : Nat) : Int)))), (0, .ref rd)]) B.1 B.2.1 dX6_readKind_47 rfl hl (by decide) rfl (fun ls hl => ?_)
  refine lv_iload_n B.1 B.2.1 dX6_readKind_48 rfl (lv_at hl 0 rfl) ?_
  refine lv_if_eq (tgt := 70) B.1 B.2.1 dX6_readKind_49 (by decide) (fun h => absurd h (by decide)) (fun _ => ?_)
  refine lv_aload_n B.1 B.2.1 dX6_readKind_52 rfl (lv_at hl 3 rfl) ?_
  refine lv_iload_n B.1 B.2.1 dX6_readKind_53 rfl (lv_at hl 2 rfl) ?_
  refine lv_iload_n B.1 B.2.1 dX6_readKind_54 rfl (lv_at hl 1 rfl) ?_
  refine qQ (Cs := []) (Rs := [[(rd, .inr (8, [.ref ri, .int (iI (((L : Nat) : Int))), .int (iI (((pt + 4) : Nat) : Int)), .int (iI (1)), .int (iI (er)), .int (iI (ea)), .int (iI (cn)), .ref rk, .ref rn, .ref ro, .ref rt]))], [(ri, .inl (τ 1, 500, .inl (fun j => iI ((b) j))))]]) Y [] [0, 1] (by decide) rfl (cSE (As := [.int (iI (5))]) (rest := [.int (iI (((pt : Nat) : Int))), .ref rd]) (Ke.ok K) hE B Y [] (by decide) rfl (k_wordOf5 l D τ _ K) q_802 q_803 q_3 q_804 rfl rfl hd_X6_wordOf ⟨(Nat.le_of_ble_eq_true rfl), (Nat.le_of_ble_eq_true rfl)⟩ rfl hl.1 rfl (Nat.le_of_ble_eq_true rfl) dX6_readKind_55 ⟨(Nat.le_of_ble_eq_true rfl), (Nat.le_of_ble_eq_true rfl)⟩) (fun r u H locs hw Y => ?_)
  subst hw
  have Y : Wd D τ s A s.heap (bl [[(rd, .inr (8, [.ref ri, .int (iI (((L : Nat) : Int))), .int (iI (((pt + 4) : Nat) : Int)), .int (iI (1)), .int (iI (er)), .int (iI (ea)), .int (iI (cn)), .ref rk, .ref rn, .ref ro, .ref rt]))], [(ri, .inl (τ 1, 500, .inl (fun j => iI ((b) j))))]]) _ _ := Y
  show W _ _ _ _ _ _ _ _ _ _ _ _ _ _ _ (F0 m _ ls (.ref (K (2 * 5)) :: .int (iI (((pt : Nat) : Int))) :: .ref rd :: []))
  refine qI (Cs := [[(rd, .inr (8, [.ref ri, .int (iI (((L : Nat) : Int))), .int (iI (((pt + 4) : Nat) : Int)), .int (iI (1)), .int (iI (er)), .int (iI (ea)), .int (iI (cn)), .ref rk, .ref rn, .ref ro, .ref rt]))], [(ri, .inl (τ 1, 500, .inl (fun j => iI ((b) j))))]]) (Rs := []) Y [0, 1] [] (by decide) rfl (cVE (As := [.int (iI (((pt : Nat) : Int))), .ref (K (2 * 5))]) (rest := []) (q0 := 0) (Ke.ok K) hE B Y [0, 1] (by decide) rfl (k_isWord l D τ _ K rd ri rk rn ro rt L (1) (er) (ea) (cn) b (by omega) hb pt (ksZ 7) hX1 (by omega) 5 (by decide)) rfl rfl q_815 q_817 qp_11 q_3 q_818 rfl rfl hd_X6_isWord ⟨(Nat.le_of_ble_eq_true rfl), (Nat.le_of_ble_eq_true rfl)⟩ rfl hl.1 rfl (Nat.le_of_ble_eq_true rfl) dX6_readKind_58 ⟨(Nat.le_of_ble_eq_true rfl), (Nat.le_of_ble_eq_true rfl)⟩) (fun r u H locs hw Y => ?_)
  rw [if_neg (by decide)] at hw
  have hw : r = 0 := hw
  subst hw
  have Y : Wd D τ s A s.heap (bl [[(rd, .inr (8, [.ref ri, .int (iI (((L : Nat) : Int))), .int (iI (((pt + 4) : Nat) : Int)), .int (iI (1)), .int (iI (er)), .int (iI (ea)), .int (iI (cn)), .ref rk, .ref rn, .ref ro, .ref rt]))], [(ri, .inl (τ 1, 500, .inl (fun j => iI ((b) j))))]]) _ _ := Y
  refine lv_if_eq (tgt := 70) B.1 B.2.1 dX6_readKind_61 (by decide) (fun _ => ?_) (fun h => absurd (by decide) h) 
  refine lv_iinc (v := (iI (6))) (lv' := [(2, .int (iI (6))), (3, .int (iI (1))), (1, .int (iI (((pt : Nat) : Int)))), (0, .ref rd)]) B.1 B.2.1 dX6_readKind_70 hl (k := 1) rfl (by decide) (by decide) rfl (fun ls hl => ?_)
  refine lv_goto (tgt := 11) B.1 B.2.1 dX6_readKind_73 (by decide) ?_
  refine lv_iload_n B.1 B.2.1 dX6_readKind_11 rfl (lv_at hl 0 rfl) ?_
  refine lv_bipush (v := (iI (10))) B.1 B.2.1 dX6_readKind_12 (by decide) ?_
  refine lv_icmp_ge (tgt := 76) B.1 B.2.1 dX6_readKind_14 (by decide) (fun h => absurd h (by decide)) (fun _ => ?_)
  refine lv_aload_n B.1 B.2.1 dX6_readKind_17 rfl (lv_at hl 3 rfl) ?_
  refine gf_X6_22 B Y 0 rfl rfl dX6_readKind_18 ?_
  refine lv_if_eq (tgt := 37) B.1 B.2.1 dX6_readKind_21 (by decide) (fun h => absurd h (by decide)) (fun _ => ?_)
  refine lv_iload_n B.1 B.2.1 dX6_readKind_24 rfl (lv_at hl 0 rfl) ?_
  refine lv_iconst (v := (iI (3))) B.1 B.2.1 dX6_readKind_25 (by decide) ?_
  refine lv_icmp_lt (tgt := 33) B.1 B.2.1 dX6_readKind_26 (by decide) (fun h => absurd h (by decide)) (fun _ => ?_)
  refine lv_iconst (v := (iI (1))) B.1 B.2.1 dX6_readKind_29 (by decide) ?_
  refine lv_goto (tgt := 47) B.1 B.2.1 dX6_readKind_30 (by decide) ?_
  refine lv_istore_n (lv' := [(3, .int (iI (1))), (2, .int (iI (6))), (1, .int (iI (((pt : Nat) : Int)))), (0, .ref rd)]) B.1 B.2.1 dX6_readKind_47 rfl hl (by decide) rfl (fun ls hl => ?_)
  refine lv_iload_n B.1 B.2.1 dX6_readKind_48 rfl (lv_at hl 0 rfl) ?_
  refine lv_if_eq (tgt := 70) B.1 B.2.1 dX6_readKind_49 (by decide) (fun h => absurd h (by decide)) (fun _ => ?_)
  refine lv_aload_n B.1 B.2.1 dX6_readKind_52 rfl (lv_at hl 3 rfl) ?_
  refine lv_iload_n B.1 B.2.1 dX6_readKind_53 rfl (lv_at hl 2 rfl) ?_
  refine lv_iload_n B.1 B.2.1 dX6_readKind_54 rfl (lv_at hl 1 rfl) ?_
  refine qQ (Cs := []) (Rs := [[(rd, .inr (8, [.ref ri, .int (iI (((L : Nat) : Int))), .int (iI (((pt + 4) : Nat) : Int)), .int (iI (1)), .int (iI (er)), .int (iI (ea)), .int (iI (cn)), .ref rk, .ref rn, .ref ro, .ref rt]))], [(ri, .inl (τ 1, 500, .inl (fun j => iI ((b) j))))]]) Y [] [0, 1] (by decide) rfl (cSE (As := [.int (iI (6))]) (rest := [.int (iI (((pt : Nat) : Int))), .ref rd]) (Ke.ok K) hE B Y [] (by decide) rfl (k_wordOf6 l D τ _ K) q_802 q_803 q_3 q_804 rfl rfl hd_X6_wordOf ⟨(Nat.le_of_ble_eq_true rfl), (Nat.le_of_ble_eq_true rfl)⟩ rfl hl.1 rfl (Nat.le_of_ble_eq_true rfl) dX6_readKind_55 ⟨(Nat.le_of_ble_eq_true rfl), (Nat.le_of_ble_eq_true rfl)⟩) (fun r u H locs hw Y => ?_)
  subst hw
  have Y : Wd D τ s A s.heap (bl [[(rd, .inr (8, [.ref ri, .int (iI (((L : Nat) : Int))), .int (iI (((pt + 4) : Nat) : Int)), .int (iI (1)), .int (iI (er)), .int (iI (ea)), .int (iI (cn)), .ref rk, .ref rn, .ref ro, .ref rt]))], [(ri, .inl (τ 1, 500, .inl (fun j => iI ((b) j))))]]) _ _ := Y
  show W _ _ _ _ _ _ _ _ _ _ _ _ _ _ _ (F0 m _ ls (.ref (K (2 * 6)) :: .int (iI (((pt : Nat) : Int))) :: .ref rd :: []))
  refine qI (Cs := [[(rd, .inr (8, [.ref ri, .int (iI (((L : Nat) : Int))), .int (iI (((pt + 4) : Nat) : Int)), .int (iI (1)), .int (iI (er)), .int (iI (ea)), .int (iI (cn)), .ref rk, .ref rn, .ref ro, .ref rt]))], [(ri, .inl (τ 1, 500, .inl (fun j => iI ((b) j))))]]) (Rs := []) Y [0, 1] [] (by decide) rfl (cVE (As := [.int (iI (((pt : Nat) : Int))), .ref (K (2 * 6))]) (rest := []) (q0 := 0) (Ke.ok K) hE B Y [0, 1] (by decide) rfl (k_isWord l D τ _ K rd ri rk rn ro rt L (1) (er) (ea) (cn) b (by omega) hb pt (ksZ 7) hX1 (by omega) 6 (by decide)) rfl rfl q_815 q_817 qp_11 q_3 q_818 rfl rfl hd_X6_isWord ⟨(Nat.le_of_ble_eq_true rfl), (Nat.le_of_ble_eq_true rfl)⟩ rfl hl.1 rfl (Nat.le_of_ble_eq_true rfl) dX6_readKind_58 ⟨(Nat.le_of_ble_eq_true rfl), (Nat.le_of_ble_eq_true rfl)⟩) (fun r u H locs hw Y => ?_)
  rw [if_neg (by decide)] at hw
  have hw : r = 0 := hw
  subst hw
  have Y : Wd D τ s A s.heap (bl [[(rd, .inr (8, [.ref ri, .int (iI (((L : Nat) : Int))), .int (iI (((pt + 4) : Nat) : Int)), .int (iI (1)), .int (iI (er)), .int (iI (ea)), .int (iI (cn)), .ref rk, .ref rn, .ref ro, .ref rt]))], [(ri, .inl (τ 1, 500, .inl (fun j => iI ((b) j))))]]) _ _ := Y
  refine lv_if_eq (tgt := 70) B.1 B.2.1 dX6_readKind_61 (by decide) (fun _ => ?_) (fun h => absurd (by decide) h) 
  refine lv_iinc (v := (iI (7))) (lv' := [(2, .int (iI (7))), (3, .int (iI (1))), (1, .int (iI (((pt : Nat) : Int)))), (0, .ref rd)]) B.1 B.2.1 dX6_readKind_70 hl (k := 1) rfl (by decide) (by decide) rfl (fun ls hl => ?_)
  refine lv_goto (tgt := 11) B.1 B.2.1 dX6_readKind_73 (by decide) ?_
  refine lv_iload_n B.1 B.2.1 dX6_readKind_11 rfl (lv_at hl 0 rfl) ?_
  refine lv_bipush (v := (iI (10))) B.1 B.2.1 dX6_readKind_12 (by decide) ?_
  refine lv_icmp_ge (tgt := 76) B.1 B.2.1 dX6_readKind_14 (by decide) (fun h => absurd h (by decide)) (fun _ => ?_)
  refine lv_aload_n B.1 B.2.1 dX6_readKind_17 rfl (lv_at hl 3 rfl) ?_
  refine gf_X6_22 B Y 0 rfl rfl dX6_readKind_18 ?_
  refine lv_if_eq (tgt := 37) B.1 B.2.1 dX6_readKind_21 (by decide) (fun h => absurd h (by decide)) (fun _ => ?_)
  refine lv_iload_n B.1 B.2.1 dX6_readKind_24 rfl (lv_at hl 0 rfl) ?_
  refine lv_iconst (v := (iI (3))) B.1 B.2.1 dX6_readKind_25 (by decide) ?_
  refine lv_icmp_lt (tgt := 33) B.1 B.2.1 dX6_readKind_26 (by decide) (fun h => absurd h (by decide)) (fun _ => ?_)
  refine lv_iconst (v := (iI (1))) B.1 B.2.1 dX6_readKind_29 (by decide) ?_
  refine lv_goto (tgt := 47) B.1 B.2.1 dX6_readKind_30 (by decide) ?_
  refine lv_istore_n (lv' := [(3, .int (iI (1))), (2, .int (iI (7))), (1, .int (iI (((pt : Nat) : Int)))), (0, .ref rd)]) B.1 B.2.1 dX6_readKind_47 rfl hl (by decide) rfl (fun ls hl => ?_)
  refine lv_iload_n B.1 B.2.1 dX6_readKind_48 rfl (lv_at hl 0 rfl) ?_
  refine lv_if_eq (tgt := 70) B.1 B.2.1 dX6_readKind_49 (by decide) (fun h => absurd h (by decide)) (fun _ => ?_)
  refine lv_aload_n B.1 B.2.1 dX6_readKind_52 rfl (lv_at hl 3 rfl) ?_
  refine lv_iload_n B.1 B.2.1 dX6_readKind_53 rfl (lv_at hl 2 rfl) ?_
  refine lv_iload_n B.1 B.2.1 dX6_readKind_54 rfl (lv_at hl 1 rfl) ?_
  refine qQ (Cs := []) (Rs := [[(rd, .inr (8, [.ref ri, .int (iI (((L : Nat) : Int))), .int (iI (((pt + 4) : Nat) : Int)), .int (iI (1)), .int (iI (er)), .int (iI (ea)), .int (iI (cn)), .ref rk, .ref rn, .ref ro, .ref rt]))], [(ri, .inl (τ 1, 500, .inl (fun j => iI ((b) j))))]]) Y [] [0, 1] (by decide) rfl (cSE (As := [.int (iI (7))]) (rest := [.int (iI (((pt : Nat) : Int))), .ref rd]) (Ke.ok K) hE B Y [] (by decide) rfl (k_wordOf7 l D τ _ K) q_802 q_803 q_3 q_804 rfl rfl hd_X6_wordOf ⟨(Nat.le_of_ble_eq_true rfl), (Nat.le_of_ble_eq_true rfl)⟩ rfl hl.1 rfl (Nat.le_of_ble_eq_true rfl) dX6_readKind_55 ⟨(Nat.le_of_ble_eq_true rfl), (Nat.le_of_ble_eq_true rfl)⟩) (fun r u H locs hw Y => ?_)
  subst hw
  have Y : Wd D τ s A s.heap (bl [[(rd, .inr (8, [.ref ri, .int (iI (((L : Nat) : Int))), .int (iI (((pt + 4) : Nat) : Int)), .int (iI (1)), .int (iI (er)), .int (iI (ea)), .int (iI (cn)), .ref rk, .ref rn, .ref ro, .ref rt]))], [(ri, .inl (τ 1, 500, .inl (fun j => iI ((b) j))))]]) _ _ := Y
  show W _ _ _ _ _ _ _ _ _ _ _ _ _ _ _ (F0 m _ ls (.ref (K (2 * 7)) :: .int (iI (((pt : Nat) : Int))) :: .ref rd :: []))
  refine qI (Cs := [[(rd, .inr (8, [.ref ri, .int (iI (((L : Nat) : Int))), .int (iI (((pt + 4) : Nat) : Int)), .int (iI (1)), .int (iI (er)), .int (iI (ea)), .int (iI (cn)), .ref rk, .ref rn, .ref ro, .ref rt]))], [(ri, .inl (τ 1, 500, .inl (fun j => iI ((b) j))))]]) (Rs := []) Y [0, 1] [] (by decide) rfl (cVE (As := [.int (iI (((pt : Nat) : Int))), .ref (K (2 * 7))]) (rest := []) (q0 := 0) (Ke.ok K) hE B Y [0, 1] (by decide) rfl (k_isWord l D τ _ K rd ri rk rn ro rt L (1) (er) (ea) (cn) b (by omega) hb pt (ksZ 7) hX1 (by omega) 7 (by decide)) rfl rfl q_815 q_817 qp_11 q_3 q_818 rfl rfl hd_X6_isWord ⟨(Nat.le_of_ble_eq_true rfl), (Nat.le_of_ble_eq_true rfl)⟩ rfl hl.1 rfl (Nat.le_of_ble_eq_true rfl) dX6_readKind_58 ⟨(Nat.le_of_ble_eq_true rfl), (Nat.le_of_ble_eq_true rfl)⟩) (fun r u H locs hw Y => ?_)
  rw [if_pos (by decide)] at hw
  have hw : r = 1 := hw
  subst hw
  have Y : Wd D τ s A s.heap (bl [[(rd, .inr (8, [.ref ri, .int (iI (((L : Nat) : Int))), .int (iI (((pt + 4) : Nat) : Int)), .int (iI (1)), .int (iI (er)), .int (iI (ea)), .int (iI (cn)), .ref rk, .ref rn, .ref ro, .ref rt]))], [(ri, .inl (τ 1, 500, .inl (fun j => iI ((b) j))))]]) _ _ := Y
  refine lv_if_eq (tgt := 70) B.1 B.2.1 dX6_readKind_61 (by decide) (fun h => absurd h (by decide)) (fun _ => ?_)
  refine lv_aload_n B.1 B.2.1 dX6_readKind_64 rfl (lv_at hl 3 rfl) ?_
  refine qV (Cs := [[(rd, .inr (8, [.ref ri, .int (iI (((L : Nat) : Int))), .int (iI (((pt + 4) : Nat) : Int)), .int (iI (1)), .int (iI (er)), .int (iI (ea)), .int (iI (cn)), .ref rk, .ref rn, .ref ro, .ref rt]))], [(ri, .inl (τ 1, 500, .inl (fun j => iI ((b) j))))]]) (Rs := []) Y [0, 1] [] (by decide) rfl (cV (As := []) (rest := []) (q0 := 0) B Y [0, 1] (by decide) rfl (k_skipSpaces l D τ _ rd ri rk rn ro rt L (1) (er) (ea) (cn) b (by omega) hb (pt + 4) (pt + 5) (by omega) (by omega) (fun j h1 h2 => by rw [show j = pt + 4 by omega]; exact hX2) (fun _ => by rw [show pt + 5 = pt + 5 from rfl]; omega)) rfl rfl q_778 q_780 qp_5 q_3 q_781 rfl rfl hd_X6_skipSpaces ⟨(Nat.le_of_ble_eq_true rfl), (Nat.le_of_ble_eq_true rfl)⟩ rfl hl.1 rfl (Nat.le_of_ble_eq_true rfl) dX6_readKind_65 ⟨(Nat.le_of_ble_eq_true rfl), (Nat.le_of_ble_eq_true rfl)⟩) (fun u H locs hw Y => ?_)
  have Y : Wd D τ s A s.heap (bl [[(rd, .inr (8, [.ref ri, .int (iI (((L : Nat) : Int))), .int (iI (((pt + 5) : Nat) : Int)), .int (iI (1)), .int (iI (er)), .int (iI (ea)), .int (iI (cn)), .ref rk, .ref rn, .ref ro, .ref rt]))], [(ri, .inl (τ 1, 500, .inl (fun j => iI ((b) j))))]]) _ _ := Y
  refine lv_iload_n B.1 B.2.1 dX6_readKind_68 rfl (lv_at hl 1 rfl) ?_
  exact eI B hr hlk Y () rfl [0, 1] (by decide) rfl (Nat.le_of_ble_eq_true rfl) (Nat.le_of_ble_eq_true rfl) dX6_readKind_69

set_option maxHeartbeats 4000000 in
set_option maxRecDepth 100000 in
theorem k_readKind8_1 (l : Launch) (D : va_G) (τ : Nat → ClassId) (sz : Nat) (K : Nat → Nat) (rd ri rk rn ro rt L : Nat) (er ea cn : Int) (b : Nat → Int) (hL : L ≤ 500) (hb : BOk b) (pt : Nat) (hX : ats b pt (ksZ 8 ++ [32])) (hpL : pt + 6 < L) (hdd : 48 ≤ b (pt + 6) ∧ b (pt + 6) ≤ 57) : Met l yX6_readKind (Cond.code yX6_readKind cX6_readKind 4 (some .int) :: wALL) { frames := 5, cells := 0, slots := 0, locals := 109 } (PwE (Ke K) D τ (bl [[(rd, .inr (8, [.ref ri, .int (iI (((L : Nat) : Int))), .int (iI (((pt : Nat) : Int))), .int (iI (1)), .int (iI (er)), .int (iI (ea)), .int (iI (cn)), .ref rk, .ref rn, .ref ro, .ref rt]))], [(ri, .inl (τ 1, 500, .inl (fun j => iI ((b) j))))]]) sz [.ref rd]) (va_Qi (fun (r : Int32) (_ : Unit) => r = iI 8) (Bb D (va_A (bl [[(rd, .inr (8, [.ref ri, .int (iI (((L : Nat) : Int))), .int (iI (((pt : Nat) : Int))), .int (iI (1)), .int (iI (er)), .int (iI (ea)), .int (iI (cn)), .ref rk, .ref rn, .ref ro, .ref rt]))], [(ri, .inl (τ 1, 500, .inl (fun j => iI ((b) j))))]]) sz) (fun (_ : Unit) => [[(rd, .inr (8, [.ref ri, .int (iI (((L : Nat) : Int))), .int (iI ((((pt + 6) : Nat) : Int))), .int (iI (1)), .int (iI (er)), .int (iI (ea)), .int (iI (cn)), .ref rk, .ref rn, .ref ro, .ref rt]))], [(ri, .inl (τ 1, 500, .inl (fun j => iI ((b) j))))]])) (va_A (bl [[(rd, .inr (8, [.ref ri, .int (iI (((L : Nat) : Int))), .int (iI (((pt : Nat) : Int))), .int (iI (1)), .int (iI (er)), .int (iI (ea)), .int (iI (cn)), .ref rk, .ref rn, .ref ro, .ref rt]))], [(ri, .inl (τ 1, 500, .inl (fun j => iI ((b) j))))]]) sz)) 0 0 (va_A (bl [[(rd, .inr (8, [.ref ri, .int (iI (((L : Nat) : Int))), .int (iI (((pt : Nat) : Int))), .int (iI (1)), .int (iI (er)), .int (iI (ea)), .int (iI (cn)), .ref rk, .ref rn, .ref ro, .ref rt]))], [(ri, .inl (τ 1, 500, .inl (fun j => iI ((b) j))))]]) sz) := by
  refine bodyE (by decide +kernel) (Nat.le_of_ble_eq_true rfl) (fun p e s m below meth c ls B hr hlk hin hsz Y hE hl => ?_)
  have hl : lv_has ls 4 [(0, .ref rd)] := hl
  have B : CallFix p m c cX6_readKind 4 s _ wALL RX6 := B
  generalize va_A (bl [[(rd, .inr (8, [.ref ri, .int (iI (((L : Nat) : Int))), .int (iI (((pt : Nat) : Int))), .int (iI (1)), .int (iI (er)), .int (iI (ea)), .int (iI (cn)), .ref rk, .ref rn, .ref ro, .ref rt]))], [(ri, .inl (τ 1, 500, .inl (fun j => iI ((b) j))))]]) sz = A at Y hE ⊢
  have hX1 := (ats_app.mp hX).1
  have hX2 : b (pt + 5) = 32 := (ats_app.mp hX).2 0 (by decide)
  have hkl : (ksZ 8).length = 5 := by decide
  have hLt : ∀ x ∈ ksZ 8, (97 : Int) ≤ x ∧ x ≤ 122 := by decide
  refine lv_aload_n B.1 B.2.1 dX6_readKind_0 rfl (lv_at hl 0 rfl) ?_
  refine gf_X6_19 B Y 0 rfl rfl dX6_readKind_1 ?_
  refine lv_istore_n (lv' := [(1, .int (iI (((pt : Nat) : Int)))), (0, .ref rd)]) B.1 B.2.1 dX6_readKind_4 rfl hl (by decide) rfl (fun ls hl => ?_)
  refine lv_aload_n B.1 B.2.1 dX6_readKind_5 rfl (lv_at hl 1 rfl) ?_
  refine qV (Cs := [[(rd, .inr (8, [.ref ri, .int (iI (((L : Nat) : Int))), .int (iI (((pt : Nat) : Int))), .int (iI (1)), .int (iI (er)), .int (iI (ea)), .int (iI (cn)), .ref rk, .ref rn, .ref ro, .ref rt]))], [(ri, .inl (τ 1, 500, .inl (fun j => iI ((b) j))))]]) (Rs := []) Y [0, 1] [] (by decide) rfl (cV (As := []) (rest := []) (q0 := 0) B Y [0, 1] (by decide) rfl (k_skipWord l D τ _ rd ri rk rn ro rt L (1) (er) (ea) (cn) b (by omega) hb pt (pt + 5) (by omega) (by omega) (fun j h1 h2 => ats_all hX1 hLt j h1 h2) (fun _ => Or.inl (by omega))) rfl rfl q_794 q_796 qp_9 q_3 q_797 rfl rfl hd_X6_skipWord ⟨(Nat.le_of_ble_eq_true rfl), (Nat.le_of_ble_eq_true rfl)⟩ rfl hl.1 rfl (Nat.le_of_ble_eq_true rfl) dX6_readKind_6 ⟨(Nat.le_of_ble_eq_true rfl), (Nat.le_of_ble_eq_true rfl)⟩) (fun u H locs hw Y => ?_)
  have Y : Wd D τ s A s.heap (bl [[(rd, .inr (8, [.ref ri, .int (iI (((L : Nat) : Int))), .int (iI (((pt + 5) : Nat) : Int)), .int (iI (1)), .int (iI (er)), .int (iI (ea)), .int (iI (cn)), .ref rk, .ref rn, .ref ro, .ref rt]))], [(ri, .inl (τ 1, 500, .inl (fun j => iI ((b) j))))]]) _ _ := Y
  refine lv_iconst (v := (iI (0))) B.1 B.2.1 dX6_readKind_9 (by decide) ?_
  refine lv_istore_n (lv' := [(2, .int (iI (0))), (1, .int (iI (((pt : Nat) : Int)))), (0, .ref rd)]) B.1 B.2.1 dX6_readKind_10 rfl hl (by decide) rfl (fun ls hl => ?_)
  refine lv_iload_n B.1 B.2.1 dX6_readKind_11 rfl (lv_at hl 0 rfl) ?_
  refine lv_bipush (v := (iI (10))) B.1 B.2.1 dX6_readKind_12 (by decide) ?_
  refine lv_icmp_ge (tgt := 76) B.1 B.2.1 dX6_readKind_14 (by decide) (fun h => absurd h (by decide)) (fun _ => ?_)
  refine lv_aload_n B.1 B.2.1 dX6_readKind_17 rfl (lv_at hl 2 rfl) ?_
  refine gf_X6_22 B Y 0 rfl rfl dX6_readKind_18 ?_
  refine lv_if_eq (tgt := 37) B.1 B.2.1 dX6_readKind_21 (by decide) (fun h => absurd h (by decide)) (fun _ => ?_)
  refine lv_iload_n B.1 B.2.1 dX6_readKind_24 rfl (lv_at hl 0 rfl) ?_
  refine lv_iconst (v := (iI (3))) B.1 B.2.1 dX6_readKind_25 (by decide) ?_
  refine lv_icmp_lt (tgt := 33) B.1 B.2.1 dX6_readKind_26 (by decide) (fun _ => ?_) (fun h => absurd (by decide) h) 
  refine lv_iconst (v := (iI (0))) B.1 B.2.1 dX6_readKind_33 (by decide) ?_
  refine lv_goto (tgt := 47) B.1 B.2.1 dX6_readKind_34 (by decide) ?_
  refine lv_istore_n (lv' := [(3, .int (iI (0))), (2, .int (iI (0))), (1, .int (iI (((pt : Nat) : Int)))), (0, .ref rd)]) B.1 B.2.1 dX6_readKind_47 rfl hl (by decide) rfl (fun ls hl => ?_)
  refine lv_iload_n B.1 B.2.1 dX6_readKind_48 rfl (lv_at hl 0 rfl) ?_
  refine lv_if_eq (tgt := 70) B.1 B.2.1 dX6_readKind_49 (by decide) (fun _ => ?_) (fun h => absurd (by decide) h) 
  refine lv_iinc (v := (iI (1))) (lv' := [(2, .int (iI (1))), (3, .int (iI (0))), (1, .int (iI (((pt : Nat) : Int)))), (0, .ref rd)]) B.1 B.2.1 dX6_readKind_70 hl (k := 1) rfl (by decide) (by decide) rfl (fun ls hl => ?_)
  refine lv_goto (tgt := 11) B.1 B.2.1 dX6_readKind_73 (by decide) ?_
  refine lv_iload_n B.1 B.2.1 dX6_readKind_11 rfl (lv_at hl 0 rfl) ?_
  refine lv_bipush (v := (iI (10))) B.1 B.2.1 dX6_readKind_12 (by decide) ?_
  refine lv_icmp_ge (tgt := 76) B.1 B.2.1 dX6_readKind_14 (by decide) (fun h => absurd h (by decide)) (fun _ => ?_)
  refine lv_aload_n B.1 B.2.1 dX6_readKind_17 rfl (lv_at hl 3 rfl) ?_
  refine gf_X6_22 B Y 0 rfl rfl dX6_readKind_18 ?_
  refine lv_if_eq (tgt := 37) B.1 B.2.1 dX6_readKind_21 (by decide) (fun h => absurd h (by decide)) (fun _ => ?_)
  refine lv_iload_n B.1 B.2.1 dX6_readKind_24 rfl (lv_at hl 0 rfl) ?_
  refine lv_iconst (v := (iI (3))) B.1 B.2.1 dX6_readKind_25 (by decide) ?_
  refine lv_icmp_lt (tgt := 33) B.1 B.2.1 dX6_readKind_26 (by decide) (fun _ => ?_) (fun h => absurd (by decide) h) 
  refine lv_iconst (v := (iI (0))) B.1 B.2.1 dX6_readKind_33 (by decide) ?_
  refine lv_goto (tgt := 47) B.1 B.2.1 dX6_readKind_34 (by decide) ?_
  refine lv_istore_n (lv' := [(3, .int (iI (0))), (2, .int (iI (1))), (1, .int (iI (((pt : Nat) : Int)))), (0, .ref rd)]) B.1 B.2.1 dX6_readKind_47 rfl hl (by decide) rfl (fun ls hl => ?_)
  refine lv_iload_n B.1 B.2.1 dX6_readKind_48 rfl (lv_at hl 0 rfl) ?_
  refine lv_if_eq (tgt := 70) B.1 B.2.1 dX6_readKind_49 (by decide) (fun _ => ?_) (fun h => absurd (by decide) h) 
  refine lv_iinc (v := (iI (2))) (lv' := [(2, .int (iI (2))), (3, .int (iI (0))), (1, .int (iI (((pt : Nat) : Int)))), (0, .ref rd)]) B.1 B.2.1 dX6_readKind_70 hl (k := 1) rfl (by decide) (by decide) rfl (fun ls hl => ?_)
  refine lv_goto (tgt := 11) B.1 B.2.1 dX6_readKind_73 (by decide) ?_
  refine lv_iload_n B.1 B.2.1 dX6_readKind_11 rfl (lv_at hl 0 rfl) ?_
  refine lv_bipush (v := (iI (10))) B.1 B.2.1 dX6_readKind_12 (by decide) ?_
  refine lv_icmp_ge (tgt := 76) B.1 B.2.1 dX6_readKind_14 (by decide) (fun h => absurd h (by decide)) (fun _ => ?_)
  refine lv_aload_n B.1 B.2.1 dX6_readKind_17 rfl (lv_at hl 3 rfl) ?_
  refine gf_X6_22 B Y 0 rfl rfl dX6_readKind_18 ?_
  refine lv_if_eq (tgt := 37) B.1 B.2.1 dX6_readKind_21 (by decide) (fun h => absurd h (by decide)) (fun _ => ?_)
  refine lv_iload_n B.1 B.2.1 dX6_readKind_24 rfl (lv_at hl 0 rfl) ?_
  refine lv_iconst (v := (iI (3))) B.1 B.2.1 dX6_readKind_25 (by decide) ?_
  refine lv_icmp_lt (tgt := 33) B.1 B.2.1 dX6_readKind_26 (by decide) (fun _ => ?_) (fun h => absurd (by decide) h) 
  refine lv_iconst (v := (iI (0))) B.1 B.2.1 dX6_readKind_33 (by decide) ?_
  refine lv_goto (tgt := 47) B.1 B.2.1 dX6_readKind_34 (by decide) ?_
  refine lv_istore_n (lv' := [(3, .int (iI (0))), (2, .int (iI (2))), (1, .int (iI (((pt : Nat) : Int)))), (0, .ref rd)]) B.1 B.2.1 dX6_readKind_47 rfl hl (by decide) rfl (fun ls hl => ?_)
  refine lv_iload_n B.1 B.2.1 dX6_readKind_48 rfl (lv_at hl 0 rfl) ?_
  refine lv_if_eq (tgt := 70) B.1 B.2.1 dX6_readKind_49 (by decide) (fun _ => ?_) (fun h => absurd (by decide) h) 
  refine lv_iinc (v := (iI (3))) (lv' := [(2, .int (iI (3))), (3, .int (iI (0))), (1, .int (iI (((pt : Nat) : Int)))), (0, .ref rd)]) B.1 B.2.1 dX6_readKind_70 hl (k := 1) rfl (by decide) (by decide) rfl (fun ls hl => ?_)
  refine lv_goto (tgt := 11) B.1 B.2.1 dX6_readKind_73 (by decide) ?_
  refine lv_iload_n B.1 B.2.1 dX6_readKind_11 rfl (lv_at hl 0 rfl) ?_
  refine lv_bipush (v := (iI (10))) B.1 B.2.1 dX6_readKind_12 (by decide) ?_
  refine lv_icmp_ge (tgt := 76) B.1 B.2.1 dX6_readKind_14 (by decide) (fun h => absurd h (by decide)) (fun _ => ?_)
  refine lv_aload_n B.1 B.2.1 dX6_readKind_17 rfl (lv_at hl 3 rfl) ?_
  refine gf_X6_22 B Y 0 rfl rfl dX6_readKind_18 ?_
  refine lv_if_eq (tgt := 37) B.1 B.2.1 dX6_readKind_21 (by decide) (fun h => absurd h (by decide)) (fun _ => ?_)
  refine lv_iload_n B.1 B.2.1 dX6_readKind_24 rfl (lv_at hl 0 rfl) ?_
  refine lv_iconst (v := (iI (3))) B.1 B.2.1 dX6_readKind_25 (by decide) ?_
  refine lv_icmp_lt (tgt := 33) B.1 B.2.1 dX6_readKind_26 (by decide) (fun h => absurd h (by decide)) (fun _ => ?_)
  refine lv_iconst (v := (iI (1))) B.1 B.2.1 dX6_readKind_29 (by decide) ?_
  refine lv_goto (tgt := 47) B.1 B.2.1 dX6_readKind_30 (by decide) ?_
  refine lv_istore_n (lv' := [(3, .int (iI (1))), (2, .int (iI (3))), (1, .int (iI (((pt : Nat) : Int)))), (0, .ref rd)]) B.1 B.2.1 dX6_readKind_47 rfl hl (by decide) rfl (fun ls hl => ?_)
  refine lv_iload_n B.1 B.2.1 dX6_readKind_48 rfl (lv_at hl 0 rfl) ?_
  refine lv_if_eq (tgt := 70) B.1 B.2.1 dX6_readKind_49 (by decide) (fun h => absurd h (by decide)) (fun _ => ?_)
  refine lv_aload_n B.1 B.2.1 dX6_readKind_52 rfl (lv_at hl 3 rfl) ?_
  refine lv_iload_n B.1 B.2.1 dX6_readKind_53 rfl (lv_at hl 2 rfl) ?_
  refine lv_iload_n B.1 B.2.1 dX6_readKind_54 rfl (lv_at hl 1 rfl) ?_
  refine qQ (Cs := []) (Rs := [[(rd, .inr (8, [.ref ri, .int (iI (((L : Nat) : Int))), .int (iI (((pt + 5) : Nat) : Int)), .int (iI (1)), .int (iI (er)), .int (iI (ea)), .int (iI (cn)), .ref rk, .ref rn, .ref ro, .ref rt]))], [(ri, .inl (τ 1, 500, .inl (fun j => iI ((b) j))))]]) Y [] [0, 1] (by decide) rfl (cSE (As := [.int (iI (3))]) (rest := [.int (iI (((pt : Nat) : Int))), .ref rd]) (Ke.ok K) hE B Y [] (by decide) rfl (k_wordOf3 l D τ _ K) q_802 q_803 q_3 q_804 rfl rfl hd_X6_wordOf ⟨(Nat.le_of_ble_eq_true rfl), (Nat.le_of_ble_eq_true rfl)⟩ rfl hl.1 rfl (Nat.le_of_ble_eq_true rfl) dX6_readKind_55 ⟨(Nat.le_of_ble_eq_true rfl), (Nat.le_of_ble_eq_true rfl)⟩) (fun r u H locs hw Y => ?_)
  subst hw
  have Y : Wd D τ s A s.heap (bl [[(rd, .inr (8, [.ref ri, .int (iI (((L : Nat) : Int))), .int (iI (((pt + 5) : Nat) : Int)), .int (iI (1)), .int (iI (er)), .int (iI (ea)), .int (iI (cn)), .ref rk, .ref rn, .ref ro, .ref rt]))], [(ri, .inl (τ 1, 500, .inl (fun j => iI ((b) j))))]]) _ _ := Y
  show W _ _ _ _ _ _ _ _ _ _ _ _ _ _ _ (F0 m _ ls (.ref (K (2 * 3)) :: .int (iI (((pt : Nat) : Int))) :: .ref rd :: []))
  refine qI (Cs := [[(rd, .inr (8, [.ref ri, .int (iI (((L : Nat) : Int))), .int (iI (((pt + 5) : Nat) : Int)), .int (iI (1)), .int (iI (er)), .int (iI (ea)), .int (iI (cn)), .ref rk, .ref rn, .ref ro, .ref rt]))], [(ri, .inl (τ 1, 500, .inl (fun j => iI ((b) j))))]]) (Rs := []) Y [0, 1] [] (by decide) rfl (cVE (As := [.int (iI (((pt : Nat) : Int))), .ref (K (2 * 3))]) (rest := []) (q0 := 0) (Ke.ok K) hE B Y [0, 1] (by decide) rfl (k_isWord l D τ _ K rd ri rk rn ro rt L (1) (er) (ea) (cn) b (by omega) hb pt (ksZ 8) hX1 (by omega) 3 (by decide)) rfl rfl q_815 q_817 qp_11 q_3 q_818 rfl rfl hd_X6_isWord ⟨(Nat.le_of_ble_eq_true rfl), (Nat.le_of_ble_eq_true rfl)⟩ rfl hl.1 rfl (Nat.le_of_ble_eq_true rfl) dX6_readKind_58 ⟨(Nat.le_of_ble_eq_true rfl), (Nat.le_of_ble_eq_true rfl)⟩) (fun r u H locs hw Y => ?_)
  rw [if_neg (by decide)] at hw
  have hw : r = 0 := hw
  subst hw
  have Y : Wd D τ s A s.heap (bl [[(rd, .inr (8, [.ref ri, .int (iI (((L : Nat) : Int))), .int (iI (((pt + 5) : Nat) : Int)), .int (iI (1)), .int (iI (er)), .int (iI (ea)), .int (iI (cn)), .ref rk, .ref rn, .ref ro, .ref rt]))], [(ri, .inl (τ 1, 500, .inl (fun j => iI ((b) j))))]]) _ _ := Y
  refine lv_if_eq (tgt := 70) B.1 B.2.1 dX6_readKind_61 (by decide) (fun _ => ?_) (fun h => absurd (by decide) h) 
  refine lv_iinc (v := (iI (4))) (lv' := [(2, .int (iI (4))), (3, .int (iI (1))), (1, .int (iI (((pt : Nat) : Int)))), (0, .ref rd)]) B.1 B.2.1 dX6_readKind_70 hl (k := 1) rfl (by decide) (by decide) rfl (fun ls hl => ?_)
  refine lv_goto (tgt := 11) B.1 B.2.1 dX6_readKind_73 (by decide) ?_
  refine lv_iload_n B.1 B.2.1 dX6_readKind_11 rfl (lv_at hl 0 rfl) ?_
  refine lv_bipush (v := (iI (10))) B.1 B.2.1 dX6_readKind_12 (by decide) ?_
  refine lv_icmp_ge (tgt := 76) B.1 B.2.1 dX6_readKind_14 (by decide) (fun h => absurd h (by decide)) (fun _ => ?_)
  refine lv_aload_n B.1 B.2.1 dX6_readKind_17 rfl (lv_at hl 3 rfl) ?_
  refine gf_X6_22 B Y 0 rfl rfl dX6_readKind_18 ?_
  refine lv_if_eq (tgt := 37) B.1 B.2.1 dX6_readKind_21 (by decide) (fun h => absurd h (by decide)) (fun _ => ?_)
  refine lv_iload_n B.1 B.2.1 dX6_readKind_24 rfl (lv_at hl 0 rfl) ?_
  refine lv_iconst (v := (iI (3))) B.1 B.2.1 dX6_readKind_25 (by decide) ?_
  refine lv_icmp_lt (tgt := 33) B.1 B.2.1 dX6_readKind_26 (by decide) (fun h => absurd h (by decide)) (fun _ => ?_)
  refine lv_iconst (v := (iI (1))) B.1 B.2.1 dX6_readKind_29 (by decide) ?_
  refine lv_goto (tgt := 47) B.1 B.2.1 dX6_readKind_30 (by decide) ?_
  refine lv_istore_n (lv' := [(3, .int (iI (1))), (2, .int (iI (4))), (1, .int (iI (((pt : Nat) : Int)))), (0, .ref rd)]) B.1 B.2.1 dX6_readKind_47 rfl hl (by decide) rfl (fun ls hl => ?_)
  refine lv_iload_n B.1 B.2.1 dX6_readKind_48 rfl (lv_at hl 0 rfl) ?_
  refine lv_if_eq (tgt := 70) B.1 B.2.1 dX6_readKind_49 (by decide) (fun h => absurd h (by decide)) (fun _ => ?_)
  refine lv_aload_n B.1 B.2.1 dX6_readKind_52 rfl (lv_at hl 3 rfl) ?_
  refine lv_iload_n B.1 B.2.1 dX6_readKind_53 rfl (lv_at hl 2 rfl) ?_
  refine lv_iload_n B.1 B.2.1 dX6_readKind_54 rfl (lv_at hl 1 rfl) ?_
  refine qQ (Cs := []) (Rs := [[(rd, .inr (8, [.ref ri, .int (iI (((L : Nat) : Int))), .int (iI (((pt + 5) : Nat) : Int)), .int (iI (1)), .int (iI (er)), .int (iI (ea)), .int (iI (cn)), .ref rk, .ref rn, .ref ro, .ref rt]))], [(ri, .inl (τ 1, 500, .inl (fun j => iI ((b) j))))]]) Y [] [0, 1] (by decide) rfl (cSE (As := [.int (iI (4))]) (rest := [.int (iI (((pt : Nat) : Int))), .ref rd]) (Ke.ok K) hE B Y [] (by decide) rfl (k_wordOf4 l D τ _ K) q_802 q_803 q_3 q_804 rfl rfl hd_X6_wordOf ⟨(Nat.le_of_ble_eq_true rfl), (Nat.le_of_ble_eq_true rfl)⟩ rfl hl.1 rfl (Nat.le_of_ble_eq_true rfl) dX6_readKind_55 ⟨(Nat.le_of_ble_eq_true rfl), (Nat.le_of_ble_eq_true rfl)⟩) (fun r u H locs hw Y => ?_)
  subst hw
  have Y : Wd D τ s A s.heap (bl [[(rd, .inr (8, [.ref ri, .int (iI (((L : Nat) : Int))), .int (iI (((pt + 5) : Nat) : Int)), .int (iI (1)), .int (iI (er)), .int (iI (ea)), .int (iI (cn)), .ref rk, .ref rn, .ref ro, .ref rt]))], [(ri, .inl (τ 1, 500, .inl (fun j => iI ((b) j))))]]) _ _ := Y
  show W _ _ _ _ _ _ _ _ _ _ _ _ _ _ _ (F0 m _ ls (.ref (K (2 * 4)) :: .int (iI (((pt : Nat) : Int))) :: .ref rd :: []))
  refine qI (Cs := [[(rd, .inr (8, [.ref ri, .int (iI (((L : Nat) : Int))), .int (iI (((pt + 5) : Nat) : Int)), .int (iI (1)), .int (iI (er)), .int (iI (ea)), .int (iI (cn)), .ref rk, .ref rn, .ref ro, .ref rt]))], [(ri, .inl (τ 1, 500, .inl (fun j => iI ((b) j))))]]) (Rs := []) Y [0, 1] [] (by decide) rfl (cVE (As := [.int (iI (((pt : Nat) : Int))), .ref (K (2 * 4))]) (rest := []) (q0 := 0) (Ke.ok K) hE B Y [0, 1] (by decide) rfl (k_isWord l D τ _ K rd ri rk rn ro rt L (1) (er) (ea) (cn) b (by omega) hb pt (ksZ 8) hX1 (by omega) 4 (by decide)) rfl rfl q_815 q_817 qp_11 q_3 q_818 rfl rfl hd_X6_isWord ⟨(Nat.le_of_ble_eq_true rfl), (Nat.le_of_ble_eq_true rfl)⟩ rfl hl.1 rfl (Nat.le_of_ble_eq_true rfl) dX6_readKind_58 ⟨(Nat.le_of_ble_eq_true rfl), (Nat.le_of_ble_eq_true rfl)⟩) (fun r u H locs hw Y => ?_)
  rw [if_neg (by decide)] at hw
  have hw : r = 0 := hw
  subst hw
  have Y : Wd D τ s A s.heap (bl [[(rd, .inr (8, [.ref ri, .int (iI (((L : Nat) : Int))), .int (iI (((pt + 5) : Nat) : Int)), .int (iI (1)), .int (iI (er)), .int (iI (ea)), .int (iI (cn)), .ref rk, .ref rn, .ref ro, .ref rt]))], [(ri, .inl (τ 1, 500, .inl (fun j => iI ((b) j))))]]) _ _ := Y
  refine lv_if_eq (tgt := 70) B.1 B.2.1 dX6_readKind_61 (by decide) (fun _ => ?_) (fun h => absurd (by decide) h) 
  refine lv_iinc (v := (iI (5))) (lv' := [(2, .int (iI (5))), (3, .int (iI (1))), (1, .int (iI (((pt : Nat) : Int)))), (0, .ref rd)]) B.1 B.2.1 dX6_readKind_70 hl (k := 1) rfl (by decide) (by decide) rfl (fun ls hl => ?_)
  refine lv_goto (tgt := 11) B.1 B.2.1 dX6_readKind_73 (by decide) ?_
  refine lv_iload_n B.1 B.2.1 dX6_readKind_11 rfl (lv_at hl 0 rfl) ?_
  refine lv_bipush (v := (iI (10))) B.1 B.2.1 dX6_readKind_12 (by decide) ?_
  refine lv_icmp_ge (tgt := 76) B.1 B.2.1 dX6_readKind_14 (by decide) (fun h => absurd h (by decide)) (fun _ => ?_)
  refine lv_aload_n B.1 B.2.1 dX6_readKind_17 rfl (lv_at hl 3 rfl) ?_
  refine gf_X6_22 B Y 0 rfl rfl dX6_readKind_18 ?_
  refine lv_if_eq (tgt := 37) B.1 B.2.1 dX6_readKind_21 (by decide) (fun h => absurd h (by decide)) (fun _ => ?_)
  refine lv_iload_n B.1 B.2.1 dX6_readKind_24 rfl (lv_at hl 0 rfl) ?_
  refine lv_iconst (v := (iI (3))) B.1 B.2.1 dX6_readKind_25 (by decide) ?_
  refine lv_icmp_lt (tgt := 33) B.1 B.2.1 dX6_readKind_26 (by decide) (fun h => absurd h (by decide)) (fun _ => ?_)
  refine lv_iconst (v := (iI (1))) B.1 B.2.1 dX6_readKind_29 (by decide) ?_
  refine lv_goto (tgt := 47) B.1 B.2.1 dX6_readKind_30 (by decide) ?_
  refine lv_istore_n (lv' := [(3, .int (iI (1))), (2, .int (iI (5))), (1, .int (iI (((pt : Nat) : Int)))), (0, .ref rd)]) B.1 B.2.1 dX6_readKind_47 rfl hl (by decide) rfl (fun ls hl => ?_)
  refine lv_iload_n B.1 B.2.1 dX6_readKind_48 rfl (lv_at hl 0 rfl) ?_
  refine lv_if_eq (tgt := 70) B.1 B.2.1 dX6_readKind_49 (by decide) (fun h => absurd h (by decide)) (fun _ => ?_)
  refine lv_aload_n B.1 B.2.1 dX6_readKind_52 rfl (lv_at hl 3 rfl) ?_
  refine lv_iload_n B.1 B.2.1 dX6_readKind_53 rfl (lv_at hl 2 rfl) ?_
  refine lv_iload_n B.1 B.2.1 dX6_readKind_54 rfl (lv_at hl 1 rfl) ?_
  refine qQ (Cs := []) (Rs := [[(rd, .inr (8, [.ref ri, .int (iI (((L : Nat) : Int))), .int (iI (((pt + 5) : Nat) : Int)), .int (iI (1)), .int (iI (er)), .int (iI (ea)), .int (iI (cn)), .ref rk, .ref rn, .ref ro, .ref rt]))], [(ri, .inl (τ 1, 500, .inl (fun j => iI ((b) j))))]]) Y [] [0, 1] (by decide) rfl (cSE (As := [.int (iI (5))]) (rest := [.int (iI (((pt : Nat) : Int))), .ref rd]) (Ke.ok K) hE B Y [] (by decide) rfl (k_wordOf5 l D τ _ K) q_802 q_803 q_3 q_804 rfl rfl hd_X6_wordOf ⟨(Nat.le_of_ble_eq_true rfl), (Nat.le_of_ble_eq_true rfl)⟩ rfl hl.1 rfl (Nat.le_of_ble_eq_true rfl) dX6_readKind_55 ⟨(Nat.le_of_ble_eq_true rfl), (Nat.le_of_ble_eq_true rfl)⟩) (fun r u H locs hw Y => ?_)
  subst hw
  have Y : Wd D τ s A s.heap (bl [[(rd, .inr (8, [.ref ri, .int (iI (((L : Nat) : Int))), .int (iI (((pt + 5) : Nat) : Int)), .int (iI (1)), .int (iI (er)), .int (iI (ea)), .int (iI (cn)), .ref rk, .ref rn, .ref ro, .ref rt]))], [(ri, .inl (τ 1, 500, .inl (fun j => iI ((b) j))))]]) _ _ := Y
  show W _ _ _ _ _ _ _ _ _ _ _ _ _ _ _ (F0 m _ ls (.ref (K (2 * 5)) :: .int (iI (((pt : Nat) : Int))) :: .ref rd :: []))
  refine qI (Cs := [[(rd, .inr (8, [.ref ri, .int (iI (((L : Nat) : Int))), .int (iI (((pt + 5) : Nat) : Int)), .int (iI (1)), .int (iI (er)), .int (iI (ea)), .int (iI (cn)), .ref rk, .ref rn, .ref ro, .ref rt]))], [(ri, .inl (τ 1, 500, .inl (fun j => iI ((b) j))))]]) (Rs := []) Y [0, 1] [] (by decide) rfl (cVE (As := [.int (iI (((pt : Nat) : Int))), .ref (K (2 * 5))]) (rest := []) (q0 := 0) (Ke.ok K) hE B Y [0, 1] (by decide) rfl (k_isWord l D τ _ K rd ri rk rn ro rt L (1) (er) (ea) (cn) b (by omega) hb pt (ksZ 8) hX1 (by omega) 5 (by decide)) rfl rfl q_815 q_817 qp_11 q_3 q_818 rfl rfl hd_X6_isWord ⟨(Nat.le_of_ble_eq_true rfl), (Nat.le_of_ble_eq_true rfl)⟩ rfl hl.1 rfl (Nat.le_of_ble_eq_true rfl) dX6_readKind_58 ⟨(Nat.le_of_ble_eq_true rfl), (Nat.le_of_ble_eq_true rfl)⟩) (fun r u H locs hw Y => ?_)
  rw [if_neg (by decide)] at hw
  have hw : r = 0 := hw
  subst hw
  have Y : Wd D τ s A s.heap (bl [[(rd, .inr (8, [.ref ri, .int (iI (((L : Nat) : Int))), .int (iI (((pt + 5) : Nat) : Int)), .int (iI (1)), .int (iI (er)), .int (iI (ea)), .int (iI (cn)), .ref rk, .ref rn, .ref ro, .ref rt]))], [(ri, .inl (τ 1, 500, .inl (fun j => iI ((b) j))))]]) _ _ := Y
  refine lv_if_eq (tgt := 70) B.1 B.2.1 dX6_readKind_61 (by decide) (fun _ => ?_) (fun h => absurd (by decide) h) 
  refine lv_iinc (v := (iI (6))) (lv' := [(2, .int (iI (6))), (3, .int (iI (1))), (1, .int (iI (((pt : Nat) : Int)))), (0, .ref rd)]) B.1 B.2.1 dX6_readKind_70 hl (k := 1) rfl (by decide) (by decide) rfl (fun ls hl => ?_)
  refine lv_goto (tgt := 11) B.1 B.2.1 dX6_readKind_73 (by decide) ?_
  refine lv_iload_n B.1 B.2.1 dX6_readKind_11 rfl (lv_at hl 0 rfl) ?_
  refine lv_bipush (v := (iI (10))) B.1 B.2.1 dX6_readKind_12 (by decide) ?_
  refine lv_icmp_ge (tgt := 76) B.1 B.2.1 dX6_readKind_14 (by decide) (fun h => absurd h (by decide)) (fun _ => ?_)
  refine lv_aload_n B.1 B.2.1 dX6_readKind_17 rfl (lv_at hl 3 rfl) ?_
  refine gf_X6_22 B Y 0 rfl rfl dX6_readKind_18 ?_
  refine lv_if_eq (tgt := 37) B.1 B.2.1 dX6_readKind_21 (by decide) (fun h => absurd h (by decide)) (fun _ => ?_)
  refine lv_iload_n B.1 B.2.1 dX6_readKind_24 rfl (lv_at hl 0 rfl) ?_
  refine lv_iconst (v := (iI (3))) B.1 B.2.1 dX6_readKind_25 (by decide) ?_
  refine lv_icmp_lt (tgt := 33) B.1 B.2.1 dX6_readKind_26 (by decide) (fun h => absurd h (by decide)) (fun _ => ?_)
  refine lv_iconst (v := (iI (1))) B.1 B.2.1 dX6_readKind_29 (by decide) ?_
  refine lv_goto (tgt := 47) B.1 B.2.1 dX6_readKind_30 (by decide) ?_
  refine lv_istore_n (lv' := [(3, .int (iI (1))), (2, .int (iI (6))), (1, .int (iI (((pt : Nat) : Int)))), (0, .ref rd)]) B.1 B.2.1 dX6_readKind_47 rfl hl (by decide) rfl (fun ls hl => ?_)
  refine lv_iload_n B.1 B.2.1 dX6_readKind_48 rfl (lv_at hl 0 rfl) ?_
  refine lv_if_eq (tgt := 70) B.1 B.2.1 dX6_readKind_49 (by decide) (fun h => absurd h (by decide)) (fun _ => ?_)
  refine lv_aload_n B.1 B.2.1 dX6_readKind_52 rfl (lv_at hl 3 rfl) ?_
  refine lv_iload_n B.1 B.2.1 dX6_readKind_53 rfl (lv_at hl 2 rfl) ?_
  refine lv_iload_n B.1 B.2.1 dX6_readKind_54 rfl (lv_at hl 1 rfl) ?_
  refine qQ (Cs := []) (Rs := [[(rd, .inr (8, [.ref ri, .int (iI (((L : Nat) : Int))), .int (iI (((pt + 5) : Nat) : Int)), .int (iI (1)), .int (iI (er)), .int (iI (ea)), .int (iI (cn)), .ref rk, .ref rn, .ref ro, .ref rt]))], [(ri, .inl (τ 1, 500, .inl (fun j => iI ((b) j))))]]) Y [] [0, 1] (by decide) rfl (cSE (As := [.int (iI (6))]) (rest := [.int (iI (((pt : Nat) : Int))), .ref rd]) (Ke.ok K) hE B Y [] (by decide) rfl (k_wordOf6 l D τ _ K) q_802 q_803 q_3 q_804 rfl rfl hd_X6_wordOf ⟨(Nat.le_of_ble_eq_true rfl), (Nat.le_of_ble_eq_true rfl)⟩ rfl hl.1 rfl (Nat.le_of_ble_eq_true rfl) dX6_readKind_55 ⟨(Nat.le_of_ble_eq_true rfl), (Nat.le_of_ble_eq_true rfl)⟩) (fun r u H locs hw Y => ?_)
  subst hw
  have Y : Wd D τ s A s.heap (bl [[(rd, .inr (8, [.ref ri, .int (iI (((L : Nat) : Int))), .int (iI (((pt + 5) : Nat) : Int)), .int (iI (1)), .int (iI (er)), .int (iI (ea)), .int (iI (cn)), .ref rk, .ref rn, .ref ro, .ref rt]))], [(ri, .inl (τ 1, 500, .inl (fun j => iI ((b) j))))]]) _ _ := Y
  show W _ _ _ _ _ _ _ _ _ _ _ _ _ _ _ (F0 m _ ls (.ref (K (2 * 6)) :: .int (iI (((pt : Nat) : Int))) :: .ref rd :: []))
  refine qI (Cs := [[(rd, .inr (8, [.ref ri, .int (iI (((L : Nat) : Int))), .int (iI (((pt + 5) : Nat) : Int)), .int (iI (1)), .int (iI (er)), .int (iI (ea)), .int (iI (cn)), .ref rk, .ref rn, .ref ro, .ref rt]))], [(ri, .inl (τ 1, 500, .inl (fun j => iI ((b) j))))]]) (Rs := []) Y [0, 1] [] (by decide) rfl (cVE (As := [.int (iI (((pt : Nat) : Int))), .ref (K (2 * 6))]) (rest := []) (q0 := 0) (Ke.ok K) hE B Y [0, 1] (by decide) rfl (k_isWord l D τ _ K rd ri rk rn ro rt L (1) (er) (ea) (cn) b (by omega) hb pt (ksZ 8) hX1 (by omega) 6 (by decide)) rfl rfl q_815 q_817 qp_11 q_3 q_818 rfl rfl hd_X6_isWord ⟨(Nat.le_of_ble_eq_true rfl), (Nat.le_of_ble_eq_true rfl)⟩ rfl hl.1 rfl (Nat.le_of_ble_eq_true rfl) dX6_readKind_58 ⟨(Nat.le_of_ble_eq_true rfl), (Nat.le_of_ble_eq_true rfl)⟩) (fun r u H locs hw Y => ?_)
  rw [if_neg (by decide)] at hw
  have hw : r = 0 := hw
  subst hw
  have Y : Wd D τ s A s.heap (bl [[(rd, .inr (8, [.ref ri, .int (iI (((L : Nat) : Int))), .int (iI (((pt + 5) : Nat) : Int)), .int (iI (1)), .int (iI (er)), .int (iI (ea)), .int (iI (cn)), .ref rk, .ref rn, .ref ro, .ref rt]))], [(ri, .inl (τ 1, 500, .inl (fun j => iI ((b) j))))]]) _ _ := Y
  refine lv_if_eq (tgt := 70) B.1 B.2.1 dX6_readKind_61 (by decide) (fun _ => ?_) (fun h => absurd (by decide) h) 
  refine lv_iinc (v := (iI (7))) (lv' := [(2, .int (iI (7))), (3, .int (iI (1))), (1, .int (iI (((pt : Nat) : Int)))), (0, .ref rd)]) B.1 B.2.1 dX6_readKind_70 hl (k := 1) rfl (by decide) (by decide) rfl (fun ls hl => ?_)
  refine lv_goto (tgt := 11) B.1 B.2.1 dX6_readKind_73 (by decide) ?_
  refine lv_iload_n B.1 B.2.1 dX6_readKind_11 rfl (lv_at hl 0 rfl) ?_
  refine lv_bipush (v := (iI (10))) B.1 B.2.1 dX6_readKind_12 (by decide) ?_
  refine lv_icmp_ge (tgt := 76) B.1 B.2.1 dX6_readKind_14 (by decide) (fun h => absurd h (by decide)) (fun _ => ?_)
  refine lv_aload_n B.1 B.2.1 dX6_readKind_17 rfl (lv_at hl 3 rfl) ?_
  refine gf_X6_22 B Y 0 rfl rfl dX6_readKind_18 ?_
  refine lv_if_eq (tgt := 37) B.1 B.2.1 dX6_readKind_21 (by decide) (fun h => absurd h (by decide)) (fun _ => ?_)
  refine lv_iload_n B.1 B.2.1 dX6_readKind_24 rfl (lv_at hl 0 rfl) ?_
  refine lv_iconst (v := (iI (3))) B.1 B.2.1 dX6_readKind_25 (by decide) ?_
  refine lv_icmp_lt (tgt := 33) B.1 B.2.1 dX6_readKind_26 (by decide) (fun h => absurd h (by decide)) (fun _ => ?_)
  refine lv_iconst (v := (iI (1))) B.1 B.2.1 dX6_readKind_29 (by decide) ?_
  refine lv_goto (tgt := 47) B.1 B.2.1 dX6_readKind_30 (by decide) ?_
  refine lv_istore_n (lv' := [(3, .int (iI (1))), (2, .int (iI (7))), (1, .int (iI (((pt : Nat) : Int)))), (0, .ref rd)]) B.1 B.2.1 dX6_readKind_47 rfl hl (by decide) rfl (fun ls hl => ?_)
  refine lv_iload_n B.1 B.2.1 dX6_readKind_48 rfl (lv_at hl 0 rfl) ?_
  refine lv_if_eq (tgt := 70) B.1 B.2.1 dX6_readKind_49 (by decide) (fun h => absurd h (by decide)) (fun _ => ?_)
  refine lv_aload_n B.1 B.2.1 dX6_readKind_52 rfl (lv_at hl 3 rfl) ?_
  refine lv_iload_n B.1 B.2.1 dX6_readKind_53 rfl (lv_at hl 2 rfl) ?_
  refine lv_iload_n B.1 B.2.1 dX6_readKind_54 rfl (lv_at hl 1 rfl) ?_
  refine qQ (Cs := []) (Rs := [[(rd, .inr (8, [.ref ri, .int (iI (((L : Nat) : Int))), .int (iI (((pt + 5) : Nat) : Int)), .int (iI (1)), .int (iI (er)), .int (iI (ea)), .int (iI (cn)), .ref rk, .ref rn, .ref ro, .ref rt]))], [(ri, .inl (τ 1, 500, .inl (fun j => iI ((b) j))))]]) Y [] [0, 1] (by decide) rfl (cSE (As := [.int (iI (7))]) (rest := [.int (iI (((pt : Nat) : Int))), .ref rd]) (Ke.ok K) hE B Y [] (by decide) rfl (k_wordOf7 l D τ _ K) q_802 q_803 q_3 q_804 rfl rfl hd_X6_wordOf ⟨(Nat.le_of_ble_eq_true rfl), (Nat.le_of_ble_eq_true rfl)⟩ rfl hl.1 rfl (Nat.le_of_ble_eq_true rfl) dX6_readKind_55 ⟨(Nat.le_of_ble_eq_true rfl), (Nat.le_of_ble_eq_true rfl)⟩) (fun r u H locs hw Y => ?_)
  subst hw
  have Y : Wd D τ s A s.heap (bl [[(rd, .inr (8, [.ref ri, .int (iI (((L : Nat) : Int))), .int (iI (((pt + 5) : Nat) : Int)), .int (iI (1)), .int (iI (er)), .int (iI (ea)), .int (iI (cn)), .ref rk, .ref rn, .ref ro, .ref rt]))], [(ri, .inl (τ 1, 500, .inl (fun j => iI ((b) j))))]]) _ _ := Y
  show W _ _ _ _ _ _ _ _ _ _ _ _ _ _ _ (F0 m _ ls (.ref (K (2 * 7)) :: .int (iI (((pt : Nat) : Int))) :: .ref rd :: []))
  refine qI (Cs := [[(rd, .inr (8, [.ref ri, .int (iI (((L : Nat) : Int))), .int (iI (((pt + 5) : Nat) : Int)), .int (iI (1)), .int (iI (er)), .int (iI (ea)), .int (iI (cn)), .ref rk, .ref rn, .ref ro, .ref rt]))], [(ri, .inl (τ 1, 500, .inl (fun j => iI ((b) j))))]]) (Rs := []) Y [0, 1] [] (by decide) rfl (cVE (As := [.int (iI (((pt : Nat) : Int))), .ref (K (2 * 7))]) (rest := []) (q0 := 0) (Ke.ok K) hE B Y [0, 1] (by decide) rfl (k_isWord l D τ _ K rd ri rk rn ro rt L (1) (er) (ea) (cn) b (by omega) hb pt (ksZ 8) hX1 (by omega) 7 (by decide)) rfl rfl q_815 q_817 qp_11 q_3 q_818 rfl rfl hd_X6_isWord ⟨(Nat.le_of_ble_eq_true rfl), (Nat.le_of_ble_eq_true rfl)⟩ rfl hl.1 rfl (Nat.le_of_ble_eq_true rfl) dX6_readKind_58 ⟨(Nat.le_of_ble_eq_true rfl), (Nat.le_of_ble_eq_true rfl)⟩) (fun r u H locs hw Y => ?_)
  rw [if_neg (by decide)] at hw
  have hw : r = 0 := hw
  subst hw
  have Y : Wd D τ s A s.heap (bl [[(rd, .inr (8, [.ref ri, .int (iI (((L : Nat) : Int))), .int (iI (((pt + 5) : Nat) : Int)), .int (iI (1)), .int (iI (er)), .int (iI (ea)), .int (iI (cn)), .ref rk, .ref rn, .ref ro, .ref rt]))], [(ri, .inl (τ 1, 500, .inl (fun j => iI ((b) j))))]]) _ _ := Y
  refine lv_if_eq (tgt := 70) B.1 B.2.1 dX6_readKind_61 (by decide) (fun _ => ?_) (fun h => absurd (by decide) h) 
  refine lv_iinc (v := (iI (8))) (lv' := [(2, .int (iI (8))), (3, .int (iI (1))), (1, .int (iI (((pt : Nat) : Int)))), (0, .ref rd)]) B.1 B.2.1 dX6_readKind_70 hl (k := 1) rfl (by decide) (by decide) rfl (fun ls hl => ?_)
  refine lv_goto (tgt := 11) B.1 B.2.1 dX6_readKind_73 (by decide) ?_
  refine lv_iload_n B.1 B.2.1 dX6_readKind_11 rfl (lv_at hl 0 rfl) ?_
  refine lv_bipush (v := (iI (10))) B.1 B.2.1 dX6_readKind_12 (by decide) ?_
  refine lv_icmp_ge (tgt := 76) B.1 B.2.1 dX6_readKind_14 (by decide) (fun h => absurd h (by decide)) (fun _ => ?_)
  refine lv_aload_n B.1 B.2.1 dX6_readKind_17 rfl (lv_at hl 3 rfl) ?_
  refine gf_X6_22 B Y 0 rfl rfl dX6_readKind_18 ?_
  refine lv_if_eq (tgt := 37) B.1 B.2.1 dX6_readKind_21 (by decide) (fun h => absurd h (by decide)) (fun _ => ?_)
  refine lv_iload_n B.1 B.2.1 dX6_readKind_24 rfl (lv_at hl 0 rfl) ?_
  refine lv_iconst (v := (iI (3))) B.1 B.2.1 dX6_readKind_25 (by decide) ?_
  refine lv_icmp_lt (tgt := 33) B.1 B.2.1 dX6_readKind_26 (by decide) (fun h => absurd h (by decide)) (fun _ => ?_)
  refine lv_iconst (v := (iI (1))) B.1 B.2.1 dX6_readKind_29 (by decide) ?_
  refine lv_goto (tgt := 47) B.1 B.2.1 dX6_readKind_30 (by decide) ?_
  refine lv_istore_n (lv' := [(3, .int (iI (1))), (2, .int (iI (8))), (1, .int (iI (((pt : Nat) : Int)))), (0, .ref rd)]) B.1 B.2.1 dX6_readKind_47 rfl hl (by decide) rfl (fun ls hl => ?_)
  refine lv_iload_n B.1 B.2.1 dX6_readKind_48 rfl (lv_at hl 0 rfl) ?_
  refine lv_if_eq (tgt := 70) B.1 B.2.1 dX6_readKind_49 (by decide) (fun h => absurd h (by decide)) (fun _ => ?_)
  refine lv_aload_n B.1 B.2.1 dX6_readKind_52 rfl (lv_at hl 3 rfl) ?_
  refine lv_iload_n B.1 B.2.1 dX6_readKind_53 rfl (lv_at hl 2 rfl) ?_
  refine lv_iload_n B.1 B.2.1 dX6_readKind_54 rfl (lv_at hl 1 rfl) ?_
  refine qQ (Cs := []) (Rs := [[(rd, .inr (8, [.ref ri, .int (iI (((L : Nat) : Int))), .int (iI (((pt + 5) : Nat) : Int)), .int (iI (1)), .int (iI (er)), .int (iI (ea)), .int (iI (cn)), .ref rk, .ref rn, .ref ro, .ref rt]))], [(ri, .inl (τ 1, 500, .inl (fun j => iI ((b) j))))]]) Y [] [0, 1] (by decide) rfl (cSE (As := [.int (iI (8))]) (rest := [.int (iI (((pt : Nat) : Int))), .ref rd]) (Ke.ok K) hE B Y [] (by decide) rfl (k_wordOf8 l D τ _ K) q_802 q_803 q_3 q_804 rfl rfl hd_X6_wordOf ⟨(Nat.le_of_ble_eq_true rfl), (Nat.le_of_ble_eq_true rfl)⟩ rfl hl.1 rfl (Nat.le_of_ble_eq_true rfl) dX6_readKind_55 ⟨(Nat.le_of_ble_eq_true rfl), (Nat.le_of_ble_eq_true rfl)⟩) (fun r u H locs hw Y => ?_)
  subst hw
  have Y : Wd D τ s A s.heap (bl [[(rd, .inr (8, [.ref ri, .int (iI (((L : Nat) : Int))), .int (iI (((pt + 5) : Nat) : Int)), .int (iI (1)), .int (iI (er)), .int (iI (ea)), .int (iI (cn)), .ref rk, .ref rn, .ref ro, .ref rt]))], [(ri, .inl (τ 1, 500, .inl (fun j => iI ((b) j))))]]) _ _ := Y
  show W _ _ _ _ _ _ _ _ _ _ _ _ _ _ _ (F0 m _ ls (.ref (K (2 * 8)) :: .int (iI (((pt : Nat) : Int))) :: .ref rd :: []))
  refine qI (Cs := [[(rd, .inr (8, [.ref ri, .int (iI (((L : Nat) : Int))), .int (iI (((pt + 5) : Nat) : Int)), .int (iI (1)), .int (iI (er)), .int (iI (ea)), .int (iI (cn)), .ref rk, .ref rn, .ref ro, .ref rt]))], [(ri, .inl (τ 1, 500, .inl (fun j => iI ((b) j))))]]) (Rs := []) Y [0, 1] [] (by decide) rfl (cVE (As := [.int (iI (((pt : Nat) : Int))), .ref (K (2 * 8))]) (rest := []) (q0 := 0) (Ke.ok K) hE B Y [0, 1] (by decide) rfl (k_isWord l D τ _ K rd ri rk rn ro rt L (1) (er) (ea) (cn) b (by omega) hb pt (ksZ 8) hX1 (by omega) 8 (by decide)) rfl rfl q_815 q_817 qp_11 q_3 q_818 rfl rfl hd_X6_isWord ⟨(Nat.le_of_ble_eq_true rfl), (Nat.le_of_ble_eq_true rfl)⟩ rfl hl.1 rfl (Nat.le_of_ble_eq_true rfl) dX6_readKind_58 ⟨(Nat.le_of_ble_eq_true rfl), (Nat.le_of_ble_eq_true rfl)⟩) (fun r u H locs hw Y => ?_)
  rw [if_pos (by decide)] at hw
  have hw : r = 1 := hw
  subst hw
  have Y : Wd D τ s A s.heap (bl [[(rd, .inr (8, [.ref ri, .int (iI (((L : Nat) : Int))), .int (iI (((pt + 5) : Nat) : Int)), .int (iI (1)), .int (iI (er)), .int (iI (ea)), .int (iI (cn)), .ref rk, .ref rn, .ref ro, .ref rt]))], [(ri, .inl (τ 1, 500, .inl (fun j => iI ((b) j))))]]) _ _ := Y
  refine lv_if_eq (tgt := 70) B.1 B.2.1 dX6_readKind_61 (by decide) (fun h => absurd h (by decide)) (fun _ => ?_)
  refine lv_aload_n B.1 B.2.1 dX6_readKind_64 rfl (lv_at hl 3 rfl) ?_
  refine qV (Cs := [[(rd, .inr (8, [.ref ri, .int (iI (((L : Nat) : Int))), .int (iI (((pt + 5) : Nat) : Int)), .int (iI (1)), .int (iI (er)), .int (iI (ea)), .int (iI (cn)), .ref rk, .ref rn, .ref ro, .ref rt]))], [(ri, .inl (τ 1, 500, .inl (fun j => iI ((b) j))))]]) (Rs := []) Y [0, 1] [] (by decide) rfl (cV (As := []) (rest := []) (q0 := 0) B Y [0, 1] (by decide) rfl (k_skipSpaces l D τ _ rd ri rk rn ro rt L (1) (er) (ea) (cn) b (by omega) hb (pt + 5) (pt + 6) (by omega) (by omega) (fun j h1 h2 => by rw [show j = pt + 5 by omega]; exact hX2) (fun _ => by rw [show pt + 6 = pt + 6 from rfl]; omega)) rfl rfl q_778 q_780 qp_5 q_3 q_781 rfl rfl hd_X6_skipSpaces ⟨(Nat.le_of_ble_eq_true rfl), (Nat.le_of_ble_eq_true rfl)⟩ rfl hl.1 rfl (Nat.le_of_ble_eq_true rfl) dX6_readKind_65 ⟨(Nat.le_of_ble_eq_true rfl), (Nat.le_of_ble_eq_true rfl)⟩) (fun u H locs hw Y => ?_)
  have Y : Wd D τ s A s.heap (bl [[(rd, .inr (8, [.ref ri, .int (iI (((L : Nat) : Int))), .int (iI (((pt + 6) : Nat) : Int)), .int (iI (1)), .int (iI (er)), .int (iI (ea)), .int (iI (cn)), .ref rk, .ref rn, .ref ro, .ref rt]))], [(ri, .inl (τ 1, 500, .inl (fun j => iI ((b) j))))]]) _ _ := Y
  refine lv_iload_n B.1 B.2.1 dX6_readKind_68 rfl (lv_at hl 1 rfl) ?_
  exact eI B hr hlk Y () rfl [0, 1] (by decide) rfl (Nat.le_of_ble_eq_true rfl) (Nat.le_of_ble_eq_true rfl) dX6_readKind_69

set_option maxHeartbeats 4000000 in
set_option maxRecDepth 100000 in
theorem k_readKind9_1 (l : Launch) (D : va_G) (τ : Nat → ClassId) (sz : Nat) (K : Nat → Nat) (rd ri rk rn ro rt L : Nat) (er ea cn : Int) (b : Nat → Int) (hL : L ≤ 500) (hb : BOk b) (pt : Nat) (hX : ats b pt (ksZ 9 ++ [32])) (hpL : pt + 5 < L) (hdd : 48 ≤ b (pt + 5) ∧ b (pt + 5) ≤ 57) : Met l yX6_readKind (Cond.code yX6_readKind cX6_readKind 4 (some .int) :: wALL) { frames := 5, cells := 0, slots := 0, locals := 109 } (PwE (Ke K) D τ (bl [[(rd, .inr (8, [.ref ri, .int (iI (((L : Nat) : Int))), .int (iI (((pt : Nat) : Int))), .int (iI (1)), .int (iI (er)), .int (iI (ea)), .int (iI (cn)), .ref rk, .ref rn, .ref ro, .ref rt]))], [(ri, .inl (τ 1, 500, .inl (fun j => iI ((b) j))))]]) sz [.ref rd]) (va_Qi (fun (r : Int32) (_ : Unit) => r = iI 9) (Bb D (va_A (bl [[(rd, .inr (8, [.ref ri, .int (iI (((L : Nat) : Int))), .int (iI (((pt : Nat) : Int))), .int (iI (1)), .int (iI (er)), .int (iI (ea)), .int (iI (cn)), .ref rk, .ref rn, .ref ro, .ref rt]))], [(ri, .inl (τ 1, 500, .inl (fun j => iI ((b) j))))]]) sz) (fun (_ : Unit) => [[(rd, .inr (8, [.ref ri, .int (iI (((L : Nat) : Int))), .int (iI ((((pt + 5) : Nat) : Int))), .int (iI (1)), .int (iI (er)), .int (iI (ea)), .int (iI (cn)), .ref rk, .ref rn, .ref ro, .ref rt]))], [(ri, .inl (τ 1, 500, .inl (fun j => iI ((b) j))))]])) (va_A (bl [[(rd, .inr (8, [.ref ri, .int (iI (((L : Nat) : Int))), .int (iI (((pt : Nat) : Int))), .int (iI (1)), .int (iI (er)), .int (iI (ea)), .int (iI (cn)), .ref rk, .ref rn, .ref ro, .ref rt]))], [(ri, .inl (τ 1, 500, .inl (fun j => iI ((b) j))))]]) sz)) 0 0 (va_A (bl [[(rd, .inr (8, [.ref ri, .int (iI (((L : Nat) : Int))), .int (iI (((pt : Nat) : Int))), .int (iI (1)), .int (iI (er)), .int (iI (ea)), .int (iI (cn)), .ref rk, .ref rn, .ref ro, .ref rt]))], [(ri, .inl (τ 1, 500, .inl (fun j => iI ((b) j))))]]) sz) := by
  refine bodyE (by decide +kernel) (Nat.le_of_ble_eq_true rfl) (fun p e s m below meth c ls B hr hlk hin hsz Y hE hl => ?_)
  have hl : lv_has ls 4 [(0, .ref rd)] := hl
  have B : CallFix p m c cX6_readKind 4 s _ wALL RX6 := B
  generalize va_A (bl [[(rd, .inr (8, [.ref ri, .int (iI (((L : Nat) : Int))), .int (iI (((pt : Nat) : Int))), .int (iI (1)), .int (iI (er)), .int (iI (ea)), .int (iI (cn)), .ref rk, .ref rn, .ref ro, .ref rt]))], [(ri, .inl (τ 1, 500, .inl (fun j => iI ((b) j))))]]) sz = A at Y hE ⊢
  have hX1 := (ats_app.mp hX).1
  have hX2 : b (pt + 4) = 32 := (ats_app.mp hX).2 0 (by decide)
  have hkl : (ksZ 9).length = 4 := by decide
  have hLt : ∀ x ∈ ksZ 9, (97 : Int) ≤ x ∧ x ≤ 122 := by decide
  refine lv_aload_n B.1 B.2.1 dX6_readKind_0 rfl (lv_at hl 0 rfl) ?_
  refine gf_X6_19 B Y 0 rfl rfl dX6_readKind_1 ?_
  refine lv_istore_n (lv' := [(1, .int (iI (((pt : Nat) : Int)))), (0, .ref rd)]) B.1 B.2.1 dX6_readKind_4 rfl hl (by decide) rfl (fun ls hl => ?_)
  refine lv_aload_n B.1 B.2.1 dX6_readKind_5 rfl (lv_at hl 1 rfl) ?_
  refine qV (Cs := [[(rd, .inr (8, [.ref ri, .int (iI (((L : Nat) : Int))), .int (iI (((pt : Nat) : Int))), .int (iI (1)), .int (iI (er)), .int (iI (ea)), .int (iI (cn)), .ref rk, .ref rn, .ref ro, .ref rt]))], [(ri, .inl (τ 1, 500, .inl (fun j => iI ((b) j))))]]) (Rs := []) Y [0, 1] [] (by decide) rfl (cV (As := []) (rest := []) (q0 := 0) B Y [0, 1] (by decide) rfl (k_skipWord l D τ _ rd ri rk rn ro rt L (1) (er) (ea) (cn) b (by omega) hb pt (pt + 4) (by omega) (by omega) (fun j h1 h2 => ats_all hX1 hLt j h1 h2) (fun _ => Or.inl (by omega))) rfl rfl q_794 q_796 qp_9 q_3 q_797 rfl rfl hd_X6_skipWord ⟨(Nat.le_of_ble_eq_true rfl), (Nat.le_of_ble_eq_true rfl)⟩ rfl hl.1 rfl (Nat.le_of_ble_eq_true rfl) dX6_readKind_6 ⟨(Nat.le_of_ble_eq_true rfl), (Nat.le_of_ble_eq_true rfl)⟩) (fun u H locs hw Y => ?_)
  have Y : Wd D τ s A s.heap (bl [[(rd, .inr (8, [.ref ri, .int (iI (((L : Nat) : Int))), .int (iI (((pt + 4) : Nat) : Int)), .int (iI (1)), .int (iI (er)), .int (iI (ea)), .int (iI (cn)), .ref rk, .ref rn, .ref ro, .ref rt]))], [(ri, .inl (τ 1, 500, .inl (fun j => iI ((b) j))))]]) _ _ := Y
  refine lv_iconst (v := (iI (0))) B.1 B.2.1 dX6_readKind_9 (by decide) ?_
  refine lv_istore_n (lv' := [(2, .int (iI (0))), (1, .int (iI (((pt : Nat) : Int)))), (0, .ref rd)]) B.1 B.2.1 dX6_readKind_10 rfl hl (by decide) rfl (fun ls hl => ?_)
  refine lv_iload_n B.1 B.2.1 dX6_readKind_11 rfl (lv_at hl 0 rfl) ?_
  refine lv_bipush (v := (iI (10))) B.1 B.2.1 dX6_readKind_12 (by decide) ?_
  refine lv_icmp_ge (tgt := 76) B.1 B.2.1 dX6_readKind_14 (by decide) (fun h => absurd h (by decide)) (fun _ => ?_)
  refine lv_aload_n B.1 B.2.1 dX6_readKind_17 rfl (lv_at hl 2 rfl) ?_
  refine gf_X6_22 B Y 0 rfl rfl dX6_readKind_18 ?_
  refine lv_if_eq (tgt := 37) B.1 B.2.1 dX6_readKind_21 (by decide) (fun h => absurd h (by decide)) (fun _ => ?_)
  refine lv_iload_n B.1 B.2.1 dX6_readKind_24 rfl (lv_at hl 0 rfl) ?_
  refine lv_iconst (v := (iI (3))) B.1 B.2.1 dX6_readKind_25 (by decide) ?_
  refine lv_icmp_lt (tgt := 33) B.1 B.2.1 dX6_readKind_26 (by decide) (fun _ => ?_) (fun h => absurd (by decide) h) 
  refine lv_iconst (v := (iI (0))) B.1 B.2.1 dX6_readKind_33 (by decide) ?_
  refine lv_goto (tgt := 47) B.1 B.2.1 dX6_readKind_34 (by decide) ?_
  refine lv_istore_n (lv' := [(3, .int (iI (0))), (2, .int (iI (0))), (1, .int (iI (((pt : Nat) : Int)))), (0, .ref rd)]) B.1 B.2.1 dX6_readKind_47 rfl hl (by decide) rfl (fun ls hl => ?_)
  refine lv_iload_n B.1 B.2.1 dX6_readKind_48 rfl (lv_at hl 0 rfl) ?_
  refine lv_if_eq (tgt := 70) B.1 B.2.1 dX6_readKind_49 (by decide) (fun _ => ?_) (fun h => absurd (by decide) h) 
  refine lv_iinc (v := (iI (1))) (lv' := [(2, .int (iI (1))), (3, .int (iI (0))), (1, .int (iI (((pt : Nat) : Int)))), (0, .ref rd)]) B.1 B.2.1 dX6_readKind_70 hl (k := 1) rfl (by decide) (by decide) rfl (fun ls hl => ?_)
  refine lv_goto (tgt := 11) B.1 B.2.1 dX6_readKind_73 (by decide) ?_
  refine lv_iload_n B.1 B.2.1 dX6_readKind_11 rfl (lv_at hl 0 rfl) ?_
  refine lv_bipush (v := (iI (10))) B.1 B.2.1 dX6_readKind_12 (by decide) ?_
  refine lv_icmp_ge (tgt := 76) B.1 B.2.1 dX6_readKind_14 (by decide) (fun h => absurd h (by decide)) (fun _ => ?_)
  refine lv_aload_n B.1 B.2.1 dX6_readKind_17 rfl (lv_at hl 3 rfl) ?_
  refine gf_X6_22 B Y 0 rfl rfl dX6_readKind_18 ?_
  refine lv_if_eq (tgt := 37) B.1 B.2.1 dX6_readKind_21 (by decide) (fun h => absurd h (by decide)) (fun _ => ?_)
  refine lv_iload_n B.1 B.2.1 dX6_readKind_24 rfl (lv_at hl 0 rfl) ?_
  refine lv_iconst (v := (iI (3))) B.1 B.2.1 dX6_readKind_25 (by decide) ?_
  refine lv_icmp_lt (tgt := 33) B.1 B.2.1 dX6_readKind_26 (by decide) (fun _ => ?_) (fun h => absurd (by decide) h) 
  refine lv_iconst (v := (iI (0))) B.1 B.2.1 dX6_readKind_33 (by decide) ?_
  refine lv_goto (tgt := 47) B.1 B.2.1 dX6_readKind_34 (by decide) ?_
  refine lv_istore_n (lv' := [(3, .int (iI (0))), (2, .int (iI (1))), (1, .int (iI (((pt : Nat) : Int)))), (0, .ref rd)]) B.1 B.2.1 dX6_readKind_47 rfl hl (by decide) rfl (fun ls hl => ?_)
  refine lv_iload_n B.1 B.2.1 dX6_readKind_48 rfl (lv_at hl 0 rfl) ?_
  refine lv_if_eq (tgt := 70) B.1 B.2.1 dX6_readKind_49 (by decide) (fun _ => ?_) (fun h => absurd (by decide) h) 
  refine lv_iinc (v := (iI (2))) (lv' := [(2, .int (iI (2))), (3, .int (iI (0))), (1, .int (iI (((pt : Nat) : Int)))), (0, .ref rd)]) B.1 B.2.1 dX6_readKind_70 hl (k := 1) rfl (by decide) (by decide) rfl (fun ls hl => ?_)
  refine lv_goto (tgt := 11) B.1 B.2.1 dX6_readKind_73 (by decide) ?_
  refine lv_iload_n B.1 B.2.1 dX6_readKind_11 rfl (lv_at hl 0 rfl) ?_
  refine lv_bipush (v := (iI (10))) B.1 B.2.1 dX6_readKind_12 (by decide) ?_
  refine lv_icmp_ge (tgt := 76) B.1 B.2.1 dX6_readKind_14 (by decide) (fun h => absurd h (by decide)) (fun _ => ?_)
  refine lv_aload_n B.1 B.2.1 dX6_readKind_17 rfl (lv_at hl 3 rfl) ?_
  refine gf_X6_22 B Y 0 rfl rfl dX6_readKind_18 ?_
  refine lv_if_eq (tgt := 37) B.1 B.2.1 dX6_readKind_21 (by decide) (fun h => absurd h (by decide)) (fun _ => ?_)
  refine lv_iload_n B.1 B.2.1 dX6_readKind_24 rfl (lv_at hl 0 rfl) ?_
  refine lv_iconst (v := (iI (3))) B.1 B.2.1 dX6_readKind_25 (by decide) ?_
  refine lv_icmp_lt (tgt := 33) B.1 B.2.1 dX6_readKind_26 (by decide) (fun _ => ?_) (fun h => absurd (by decide) h) 
  refine lv_iconst (v := (iI (0))) B.1 B.2.1 dX6_readKind_33 (by decide) ?_
  refine lv_goto (tgt := 47) B.1 B.2.1 dX6_readKind_34 (by decide) ?_
  refine lv_istore_n (lv' := [(3, .int (iI (0))), (2, .int (iI (2))), (1, .int (iI (((pt : Nat) : Int)))), (0, .ref rd)]) B.1 B.2.1 dX6_readKind_47 rfl hl (by decide) rfl (fun ls hl => ?_)
  refine lv_iload_n B.1 B.2.1 dX6_readKind_48 rfl (lv_at hl 0 rfl) ?_
  refine lv_if_eq (tgt := 70) B.1 B.2.1 dX6_readKind_49 (by decide) (fun _ => ?_) (fun h => absurd (by decide) h) 
  refine lv_iinc (v := (iI (3))) (lv' := [(2, .int (iI (3))), (3, .int (iI (0))), (1, .int (iI (((pt : Nat) : Int)))), (0, .ref rd)]) B.1 B.2.1 dX6_readKind_70 hl (k := 1) rfl (by decide) (by decide) rfl (fun ls hl => ?_)
  refine lv_goto (tgt := 11) B.1 B.2.1 dX6_readKind_73 (by decide) ?_
  refine lv_iload_n B.1 B.2.1 dX6_readKind_11 rfl (lv_at hl 0 rfl) ?_
  refine lv_bipush (v := (iI (10))) B.1 B.2.1 dX6_readKind_12 (by decide) ?_
  refine lv_icmp_ge (tgt := 76) B.1 B.2.1 dX6_readKind_14 (by decide) (fun h => absurd h (by decide)) (fun _ => ?_)
  refine lv_aload_n B.1 B.2.1 dX6_readKind_17 rfl (lv_at hl 3 rfl) ?_
  refine gf_X6_22 B Y 0 rfl rfl dX6_readKind_18 ?_
  refine lv_if_eq (tgt := 37) B.1 B.2.1 dX6_readKind_21 (by decide) (fun h => absurd h (by decide)) (fun _ => ?_)
  refine lv_iload_n B.1 B.2.1 dX6_readKind_24 rfl (lv_at hl 0 rfl) ?_
  refine lv_iconst (v := (iI (3))) B.1 B.2.1 dX6_readKind_25 (by decide) ?_
  refine lv_icmp_lt (tgt := 33) B.1 B.2.1 dX6_readKind_26 (by decide) (fun h => absurd h (by decide)) (fun _ => ?_)
  refine lv_iconst (v := (iI (1))) B.1 B.2.1 dX6_readKind_29 (by decide) ?_
  refine lv_goto (tgt := 47) B.1 B.2.1 dX6_readKind_30 (by decide) ?_
  refine lv_istore_n (lv' := [(3, .int (iI (1))), (2, .int (iI (3))), (1, .int (iI (((pt : Nat) : Int)))), (0, .ref rd)]) B.1 B.2.1 dX6_readKind_47 rfl hl (by decide) rfl (fun ls hl => ?_)
  refine lv_iload_n B.1 B.2.1 dX6_readKind_48 rfl (lv_at hl 0 rfl) ?_
  refine lv_if_eq (tgt := 70) B.1 B.2.1 dX6_readKind_49 (by decide) (fun h => absurd h (by decide)) (fun _ => ?_)
  refine lv_aload_n B.1 B.2.1 dX6_readKind_52 rfl (lv_at hl 3 rfl) ?_
  refine lv_iload_n B.1 B.2.1 dX6_readKind_53 rfl (lv_at hl 2 rfl) ?_
  refine lv_iload_n B.1 B.2.1 dX6_readKind_54 rfl (lv_at hl 1 rfl) ?_
  refine qQ (Cs := []) (Rs := [[(rd, .inr (8, [.ref ri, .int (iI (((L : Nat) : Int))), .int (iI (((pt + 4) : Nat) : Int)), .int (iI (1)), .int (iI (er)), .int (iI (ea)), .int (iI (cn)), .ref rk, .ref rn, .ref ro, .ref rt]))], [(ri, .inl (τ 1, 500, .inl (fun j => iI ((b) j))))]]) Y [] [0, 1] (by decide) rfl (cSE (As := [.int (iI (3))]) (rest := [.int (iI (((pt : Nat) : Int))), .ref rd]) (Ke.ok K) hE B Y [] (by decide) rfl (k_wordOf3 l D τ _ K) q_802 q_803 q_3 q_804 rfl rfl hd_X6_wordOf ⟨(Nat.le_of_ble_eq_true rfl), (Nat.le_of_ble_eq_true rfl)⟩ rfl hl.1 rfl (Nat.le_of_ble_eq_true rfl) dX6_readKind_55 ⟨(Nat.le_of_ble_eq_true rfl), (Nat.le_of_ble_eq_true rfl)⟩) (fun r u H locs hw Y => ?_)
  subst hw
  have Y : Wd D τ s A s.heap (bl [[(rd, .inr (8, [.ref ri, .int (iI (((L : Nat) : Int))), .int (iI (((pt + 4) : Nat) : Int)), .int (iI (1)), .int (iI (er)), .int (iI (ea)), .int (iI (cn)), .ref rk, .ref rn, .ref ro, .ref rt]))], [(ri, .inl (τ 1, 500, .inl (fun j => iI ((b) j))))]]) _ _ := Y
  show W _ _ _ _ _ _ _ _ _ _ _ _ _ _ _ (F0 m _ ls (.ref (K (2 * 3)) :: .int (iI (((pt : Nat) : Int))) :: .ref rd :: []))
  refine qI (Cs := [[(rd, .inr (8, [.ref ri, .int (iI (((L : Nat) : Int))), .int (iI (((pt + 4) : Nat) : Int)), .int (iI (1)), .int (iI (er)), .int (iI (ea)), .int (iI (cn)), .ref rk, .ref rn, .ref ro, .ref rt]))], [(ri, .inl (τ 1, 500, .inl (fun j => iI ((b) j))))]]) (Rs := []) Y [0, 1] [] (by decide) rfl (cVE (As := [.int (iI (((pt : Nat) : Int))), .ref (K (2 * 3))]) (rest := []) (q0 := 0) (Ke.ok K) hE B Y [0, 1] (by decide) rfl (k_isWord l D τ _ K rd ri rk rn ro rt L (1) (er) (ea) (cn) b (by omega) hb pt (ksZ 9) hX1 (by omega) 3 (by decide)) rfl rfl q_815 q_817 qp_11 q_3 q_818 rfl rfl hd_X6_isWord ⟨(Nat.le_of_ble_eq_true rfl), (Nat.le_of_ble_eq_true rfl)⟩ rfl hl.1 rfl (Nat.le_of_ble_eq_true rfl) dX6_readKind_58 ⟨(Nat.le_of_ble_eq_true rfl), (Nat.le_of_ble_eq_true rfl)⟩) (fun r u H locs hw Y => ?_)
  rw [if_neg (by decide)] at hw
  have hw : r = 0 := hw
  subst hw
  have Y : Wd D τ s A s.heap (bl [[(rd, .inr (8, [.ref ri, .int (iI (((L : Nat) : Int))), .int (iI (((pt + 4) : Nat) : Int)), .int (iI (1)), .int (iI (er)), .int (iI (ea)), .int (iI (cn)), .ref rk, .ref rn, .ref ro, .ref rt]))], [(ri, .inl (τ 1, 500, .inl (fun j => iI ((b) j))))]]) _ _ := Y
  refine lv_if_eq (tgt := 70) B.1 B.2.1 dX6_readKind_61 (by decide) (fun _ => ?_) (fun h => absurd (by decide) h) 
  refine lv_iinc (v := (iI (4))) (lv' := [(2, .int (iI (4))), (3, .int (iI (1))), (1, .int (iI (((pt : Nat) : Int)))), (0, .ref rd)]) B.1 B.2.1 dX6_readKind_70 hl (k := 1) rfl (by decide) (by decide) rfl (fun ls hl => ?_)
  refine lv_goto (tgt := 11) B.1 B.2.1 dX6_readKind_73 (by decide) ?_
  refine lv_iload_n B.1 B.2.1 dX6_readKind_11 rfl (lv_at hl 0 rfl) ?_
  refine lv_bipush (v := (iI (10))) B.1 B.2.1 dX6_readKind_12 (by decide) ?_
  refine lv_icmp_ge (tgt := 76) B.1 B.2.1 dX6_readKind_14 (by decide) (fun h => absurd h (by decide)) (fun _ => ?_)
  refine lv_aload_n B.1 B.2.1 dX6_readKind_17 rfl (lv_at hl 3 rfl) ?_
  refine gf_X6_22 B Y 0 rfl rfl dX6_readKind_18 ?_
  refine lv_if_eq (tgt := 37) B.1 B.2.1 dX6_readKind_21 (by decide) (fun h => absurd h (by decide)) (fun _ => ?_)
  refine lv_iload_n B.1 B.2.1 dX6_readKind_24 rfl (lv_at hl 0 rfl) ?_
  refine lv_iconst (v := (iI (3))) B.1 B.2.1 dX6_readKind_25 (by decide) ?_
  refine lv_icmp_lt (tgt := 33) B.1 B.2.1 dX6_readKind_26 (by decide) (fun h => absurd h (by decide)) (fun _ => ?_)
  refine lv_iconst (v := (iI (1))) B.1 B.2.1 dX6_readKind_29 (by decide) ?_
  refine lv_goto (tgt := 47) B.1 B.2.1 dX6_readKind_30 (by decide) ?_
  refine lv_istore_n (lv' := [(3, .int (iI (1))), (2, .int (iI (4))), (1, .int (iI (((pt : Nat) : Int)))), (0, .ref rd)]) B.1 B.2.1 dX6_readKind_47 rfl hl (by decide) rfl (fun ls hl => ?_)
  refine lv_iload_n B.1 B.2.1 dX6_readKind_48 rfl (lv_at hl 0 rfl) ?_
  refine lv_if_eq (tgt := 70) B.1 B.2.1 dX6_readKind_49 (by decide) (fun h => absurd h (by decide)) (fun _ => ?_)
  refine lv_aload_n B.1 B.2.1 dX6_readKind_52 rfl (lv_at hl 3 rfl) ?_
  refine lv_iload_n B.1 B.2.1 dX6_readKind_53 rfl (lv_at hl 2 rfl) ?_
  refine lv_iload_n B.1 B.2.1 dX6_readKind_54 rfl (lv_at hl 1 rfl) ?_
  refine qQ (Cs := []) (Rs := [[(rd, .inr (8, [.ref ri, .int (iI (((L : Nat) : Int))), .int (iI (((pt + 4) : Nat) : Int)), .int (iI (1)), .int (iI (er)), .int (iI (ea)), .int (iI (cn)), .ref rk, .ref rn, .ref ro, .ref rt]))], [(ri, .inl (τ 1, 500, .inl (fun j => iI ((b) j))))]]) Y [] [0, 1] (by decide) rfl (cSE (As := [.int (iI (4))]) (rest := [.int (iI (((pt : Nat) : Int))), .ref rd]) (Ke.ok K) hE B Y [] (by decide) rfl (k_wordOf4 l D τ _ K) q_802 q_803 q_3 q_804 rfl rfl hd_X6_wordOf ⟨(Nat.le_of_ble_eq_true rfl), (Nat.le_of_ble_eq_true rfl)⟩ rfl hl.1 rfl (Nat.le_of_ble_eq_true rfl) dX6_readKind_55 ⟨(Nat.le_of_ble_eq_true rfl), (Nat.le_of_ble_eq_true rfl)⟩) (fun r u H locs hw Y => ?_)
  subst hw
  have Y : Wd D τ s A s.heap (bl [[(rd, .inr (8, [.ref ri, .int (iI (((L : Nat) : Int))), .int (iI (((pt + 4) : Nat) : Int)), .int (iI (1)), .int (iI (er)), .int (iI (ea)), .int (iI (cn)), .ref rk, .ref rn, .ref ro, .ref rt]))], [(ri, .inl (τ 1, 500, .inl (fun j => iI ((b) j))))]]) _ _ := Y
  show W _ _ _ _ _ _ _ _ _ _ _ _ _ _ _ (F0 m _ ls (.ref (K (2 * 4)) :: .int (iI (((pt : Nat) : Int))) :: .ref rd :: []))
  refine qI (Cs := [[(rd, .inr (8, [.ref ri, .int (iI (((L : Nat) : Int))), .int (iI (((pt + 4) : Nat) : Int)), .int (iI (1)), .int (iI (er)), .int (iI (ea)), .int (iI (cn)), .ref rk, .ref rn, .ref ro, .ref rt]))], [(ri, .inl (τ 1, 500, .inl (fun j => iI ((b) j))))]]) (Rs := []) Y [0, 1] [] (by decide) rfl (cVE (As := [.int (iI (((pt : Nat) : Int))), .ref (K (2 * 4))]) (rest := []) (q0 := 0) (Ke.ok K) hE B Y [0, 1] (by decide) rfl (k_isWord l D τ _ K rd ri rk rn ro rt L (1) (er) (ea) (cn) b (by omega) hb pt (ksZ 9) hX1 (by omega) 4 (by decide)) rfl rfl q_815 q_817 qp_11 q_3 q_818 rfl rfl hd_X6_isWord ⟨(Nat.le_of_ble_eq_true rfl), (Nat.le_of_ble_eq_true rfl)⟩ rfl hl.1 rfl (Nat.le_of_ble_eq_true rfl) dX6_readKind_58 ⟨(Nat.le_of_ble_eq_true rfl), (Nat.le_of_ble_eq_true rfl)⟩) (fun r u H locs hw Y => ?_)
  rw [if_neg (by decide)] at hw
  have hw : r = 0 := hw
  subst hw
  have Y : Wd D τ s A s.heap (bl [[(rd, .inr (8, [.ref ri, .int (iI (((L : Nat) : Int))), .int (iI (((pt + 4) : Nat) : Int)), .int (iI (1)), .int (iI (er)), .int (iI (ea)), .int (iI (cn)), .ref rk, .ref rn, .ref ro, .ref rt]))], [(ri, .inl (τ 1, 500, .inl (fun j => iI ((b) j))))]]) _ _ := Y
  refine lv_if_eq (tgt := 70) B.1 B.2.1 dX6_readKind_61 (by decide) (fun _ => ?_) (fun h => absurd (by decide) h) 
  refine lv_iinc (v := (iI (5))) (lv' := [(2, .int (iI (5))), (3, .int (iI (1))), (1, .int (iI (((pt : Nat) : Int)))), (0, .ref rd)]) B.1 B.2.1 dX6_readKind_70 hl (k := 1) rfl (by decide) (by decide) rfl (fun ls hl => ?_)
  refine lv_goto (tgt := 11) B.1 B.2.1 dX6_readKind_73 (by decide) ?_
  refine lv_iload_n B.1 B.2.1 dX6_readKind_11 rfl (lv_at hl 0 rfl) ?_
  refine lv_bipush (v := (iI (10))) B.1 B.2.1 dX6_readKind_12 (by decide) ?_
  refine lv_icmp_ge (tgt := 76) B.1 B.2.1 dX6_readKind_14 (by decide) (fun h => absurd h (by decide)) (fun _ => ?_)
  refine lv_aload_n B.1 B.2.1 dX6_readKind_17 rfl (lv_at hl 3 rfl) ?_
  refine gf_X6_22 B Y 0 rfl rfl dX6_readKind_18 ?_
  refine lv_if_eq (tgt := 37) B.1 B.2.1 dX6_readKind_21 (by decide) (fun h => absurd h (by decide)) (fun _ => ?_)
  refine lv_iload_n B.1 B.2.1 dX6_readKind_24 rfl (lv_at hl 0 rfl) ?_
  refine lv_iconst (v := (iI (3))) B.1 B.2.1 dX6_readKind_25 (by decide) ?_
  refine lv_icmp_lt (tgt := 33) B.1 B.2.1 dX6_readKind_26 (by decide) (fun h => absurd h (by decide)) (fun _ => ?_)
  refine lv_iconst (v := (iI (1))) B.1 B.2.1 dX6_readKind_29 (by decide) ?_
  refine lv_goto (tgt := 47) B.1 B.2.1 dX6_readKind_30 (by decide) ?_
  refine lv_istore_n (lv' := [(3, .int (iI (1))), (2, .int (iI (5))), (1, .int (iI (((pt : Nat) : Int)))), (0, .ref rd)]) B.1 B.2.1 dX6_readKind_47 rfl hl (by decide) rfl (fun ls hl => ?_)
  refine lv_iload_n B.1 B.2.1 dX6_readKind_48 rfl (lv_at hl 0 rfl) ?_
  refine lv_if_eq (tgt := 70) B.1 B.2.1 dX6_readKind_49 (by decide) (fun h => absurd h (by decide)) (fun _ => ?_)
  refine lv_aload_n B.1 B.2.1 dX6_readKind_52 rfl (lv_at hl 3 rfl) ?_
  refine lv_iload_n B.1 B.2.1 dX6_readKind_53 rfl (lv_at hl 2 rfl) ?_
  refine lv_iload_n B.1 B.2.1 dX6_readKind_54 rfl (lv_at hl 1 rfl) ?_
  refine qQ (Cs := []) (Rs := [[(rd, .inr (8, [.ref ri, .int (iI (((L : Nat) : Int))), .int (iI (((pt + 4) : Nat) : Int)), .int (iI (1)), .int (iI (er)), .int (iI (ea)), .int (iI (cn)), .ref rk, .ref rn, .ref ro, .ref rt]))], [(ri, .inl (τ 1, 500, .inl (fun j => iI ((b) j))))]]) Y [] [0, 1] (by decide) rfl (cSE (As := [.int (iI (5))]) (rest := [.int (iI (((pt : Nat) : Int))), .ref rd]) (Ke.ok K) hE B Y [] (by decide) rfl (k_wordOf5 l D τ _ K) q_802 q_803 q_3 q_804 rfl rfl hd_X6_wordOf ⟨(Nat.le_of_ble_eq_true rfl), (Nat.le_of_ble_eq_true rfl)⟩ rfl hl.1 rfl (Nat.le_of_ble_eq_true rfl) dX6_readKind_55 ⟨(Nat.le_of_ble_eq_true rfl), (Nat.le_of_ble_eq_true rfl)⟩) (fun r u H locs hw Y => ?_)
  subst hw
  have Y : Wd D τ s A s.heap (bl [[(rd, .inr (8, [.ref ri, .int (iI (((L : Nat) : Int))), .int (iI (((pt + 4) : Nat) : Int)), .int (iI (1)), .int (iI (er)), .int (iI (ea)), .int (iI (cn)), .ref rk, .ref rn, .ref ro, .ref rt]))], [(ri, .inl (τ 1, 500, .inl (fun j => iI ((b) j))))]]) _ _ := Y
  show W _ _ _ _ _ _ _ _ _ _ _ _ _ _ _ (F0 m _ ls (.ref (K (2 * 5)) :: .int (iI (((pt : Nat) : Int))) :: .ref rd :: []))
  refine qI (Cs := [[(rd, .inr (8, [.ref ri, .int (iI (((L : Nat) : Int))), .int (iI (((pt + 4) : Nat) : Int)), .int (iI (1)), .int (iI (er)), .int (iI (ea)), .int (iI (cn)), .ref rk, .ref rn, .ref ro, .ref rt]))], [(ri, .inl (τ 1, 500, .inl (fun j => iI ((b) j))))]]) (Rs := []) Y [0, 1] [] (by decide) rfl (cVE (As := [.int (iI (((pt : Nat) : Int))), .ref (K (2 * 5))]) (rest := []) (q0 := 0) (Ke.ok K) hE B Y [0, 1] (by decide) rfl (k_isWord l D τ _ K rd ri rk rn ro rt L (1) (er) (ea) (cn) b (by omega) hb pt (ksZ 9) hX1 (by omega) 5 (by decide)) rfl rfl q_815 q_817 qp_11 q_3 q_818 rfl rfl hd_X6_isWord ⟨(Nat.le_of_ble_eq_true rfl), (Nat.le_of_ble_eq_true rfl)⟩ rfl hl.1 rfl (Nat.le_of_ble_eq_true rfl) dX6_readKind_58 ⟨(Nat.le_of_ble_eq_true rfl), (Nat.le_of_ble_eq_true rfl)⟩) (fun r u H locs hw Y => ?_)
  rw [if_neg (by decide)] at hw
  have hw : r = 0 := hw
  subst hw
  have Y : Wd D τ s A s.heap (bl [[(rd, .inr (8, [.ref ri, .int (iI (((L : Nat) : Int))), .int (iI (((pt + 4) : Nat) : Int)), .int (iI (1)), .int (iI (er)), .int (iI (ea)), .int (iI (cn)), .ref rk, .ref rn, .ref ro, .ref rt]))], [(ri, .inl (τ 1, 500, .inl (fun j => iI ((b) j))))]]) _ _ := Y
  refine lv_if_eq (tgt := 70) B.1 B.2.1 dX6_readKind_61 (by decide) (fun _ => ?_) (fun h => absurd (by decide) h) 
  refine lv_iinc (v := (iI (6))) (lv' := [(2, .int (iI (6))), (3, .int (iI (1))), (1, .int (iI (((pt : Nat) : Int)))), (0, .ref rd)]) B.1 B.2.1 dX6_readKind_70 hl (k := 1) rfl (by decide) (by decide) rfl (fun ls hl => ?_)
  refine lv_goto (tgt := 11) B.1 B.2.1 dX6_readKind_73 (by decide) ?_
  refine lv_iload_n B.1 B.2.1 dX6_readKind_11 rfl (lv_at hl 0 rfl) ?_
  refine lv_bipush (v := (iI (10))) B.1 B.2.1 dX6_readKind_12 (by decide) ?_
  refine lv_icmp_ge (tgt := 76) B.1 B.2.1 dX6_readKind_14 (by decide) (fun h => absurd h (by decide)) (fun _ => ?_)
  refine lv_aload_n B.1 B.2.1 dX6_readKind_17 rfl (lv_at hl 3 rfl) ?_
  refine gf_X6_22 B Y 0 rfl rfl dX6_readKind_18 ?_
  refine lv_if_eq (tgt := 37) B.1 B.2.1 dX6_readKind_21 (by decide) (fun h => absurd h (by decide)) (fun _ => ?_)
  refine lv_iload_n B.1 B.2.1 dX6_readKind_24 rfl (lv_at hl 0 rfl) ?_
  refine lv_iconst (v := (iI (3))) B.1 B.2.1 dX6_readKind_25 (by decide) ?_
  refine lv_icmp_lt (tgt := 33) B.1 B.2.1 dX6_readKind_26 (by decide) (fun h => absurd h (by decide)) (fun _ => ?_)
  refine lv_iconst (v := (iI (1))) B.1 B.2.1 dX6_readKind_29 (by decide) ?_
  refine lv_goto (tgt := 47) B.1 B.2.1 dX6_readKind_30 (by decide) ?_
  refine lv_istore_n (lv' := [(3, .int (iI (1))), (2, .int (iI (6))), (1, .int (iI (((pt : Nat) : Int)))), (0, .ref rd)]) B.1 B.2.1 dX6_readKind_47 rfl hl (by decide) rfl (fun ls hl => ?_)
  refine lv_iload_n B.1 B.2.1 dX6_readKind_48 rfl (lv_at hl 0 rfl) ?_
  refine lv_if_eq (tgt := 70) B.1 B.2.1 dX6_readKind_49 (by decide) (fun h => absurd h (by decide)) (fun _ => ?_)
  refine lv_aload_n B.1 B.2.1 dX6_readKind_52 rfl (lv_at hl 3 rfl) ?_
  refine lv_iload_n B.1 B.2.1 dX6_readKind_53 rfl (lv_at hl 2 rfl) ?_
  refine lv_iload_n B.1 B.2.1 dX6_readKind_54 rfl (lv_at hl 1 rfl) ?_
  refine qQ (Cs := []) (Rs := [[(rd, .inr (8, [.ref ri, .int (iI (((L : Nat) : Int))), .int (iI (((pt + 4) : Nat) : Int)), .int (iI (1)), .int (iI (er)), .int (iI (ea)), .int (iI (cn)), .ref rk, .ref rn, .ref ro, .ref rt]))], [(ri, .inl (τ 1, 500, .inl (fun j => iI ((b) j))))]]) Y [] [0, 1] (by decide) rfl (cSE (As := [.int (iI (6))]) (rest := [.int (iI (((pt : Nat) : Int))), .ref rd]) (Ke.ok K) hE B Y [] (by decide) rfl (k_wordOf6 l D τ _ K) q_802 q_803 q_3 q_804 rfl rfl hd_X6_wordOf ⟨(Nat.le_of_ble_eq_true rfl), (Nat.le_of_ble_eq_true rfl)⟩ rfl hl.1 rfl (Nat.le_of_ble_eq_true rfl) dX6_readKind_55 ⟨(Nat.le_of_ble_eq_true rfl), (Nat.le_of_ble_eq_true rfl)⟩) (fun r u H locs hw Y => ?_)
  subst hw
  have Y : Wd D τ s A s.heap (bl [[(rd, .inr (8, [.ref ri, .int (iI (((L : Nat) : Int))), .int (iI (((pt + 4) : Nat) : Int)), .int (iI (1)), .int (iI (er)), .int (iI (ea)), .int (iI (cn)), .ref rk, .ref rn, .ref ro, .ref rt]))], [(ri, .inl (τ 1, 500, .inl (fun j => iI ((b) j))))]]) _ _ := Y
  show W _ _ _ _ _ _ _ _ _ _ _ _ _ _ _ (F0 m _ ls (.ref (K (2 * 6)) :: .int (iI (((pt : Nat) : Int))) :: .ref rd :: []))
  refine qI (Cs := [[(rd, .inr (8, [.ref ri, .int (iI (((L : Nat) : Int))), .int (iI (((pt + 4) : Nat) : Int)), .int (iI (1)), .int (iI (er)), .int (iI (ea)), .int (iI (cn)), .ref rk, .ref rn, .ref ro, .ref rt]))], [(ri, .inl (τ 1, 500, .inl (fun j => iI ((b) j))))]]) (Rs := []) Y [0, 1] [] (by decide) rfl (cVE (As := [.int (iI (((pt : Nat) : Int))), .ref (K (2 * 6))]) (rest := []) (q0 := 0) (Ke.ok K) hE B Y [0, 1] (by decide) rfl (k_isWord l D τ _ K rd ri rk rn ro rt L (1) (er) (ea) (cn) b (by omega) hb pt (ksZ 9) hX1 (by omega) 6 (by decide)) rfl rfl q_815 q_817 qp_11 q_3 q_818 rfl rfl hd_X6_isWord ⟨(Nat.le_of_ble_eq_true rfl), (Nat.le_of_ble_eq_true rfl)⟩ rfl hl.1 rfl (Nat.le_of_ble_eq_true rfl) dX6_readKind_58 ⟨(Nat.le_of_ble_eq_true rfl), (Nat.le_of_ble_eq_true rfl)⟩) (fun r u H locs hw Y => ?_)
  rw [if_neg (by decide)] at hw
  have hw : r = 0 := hw
  subst hw
  have Y : Wd D τ s A s.heap (bl [[(rd, .inr (8, [.ref ri, .int (iI (((L : Nat) : Int))), .int (iI (((pt + 4) : Nat) : Int)), .int (iI (1)), .int (iI (er)), .int (iI (ea)), .int (iI (cn)), .ref rk, .ref rn, .ref ro, .ref rt]))], [(ri, .inl (τ 1, 500, .inl (fun j => iI ((b) j))))]]) _ _ := Y
  refine lv_if_eq (tgt := 70) B.1 B.2.1 dX6_readKind_61 (by decide) (fun _ => ?_) (fun h => absurd (by decide) h) 
  refine lv_iinc (v := (iI (7))) (lv' := [(2, .int (iI (7))), (3, .int (iI (1))), (1, .int (iI (((pt : Nat) : Int)))), (0, .ref rd)]) B.1 B.2.1 dX6_readKind_70 hl (k := 1) rfl (by decide) (by decide) rfl (fun ls hl => ?_)
  refine lv_goto (tgt := 11) B.1 B.2.1 dX6_readKind_73 (by decide) ?_
  refine lv_iload_n B.1 B.2.1 dX6_readKind_11 rfl (lv_at hl 0 rfl) ?_
  refine lv_bipush (v := (iI (10))) B.1 B.2.1 dX6_readKind_12 (by decide) ?_
  refine lv_icmp_ge (tgt := 76) B.1 B.2.1 dX6_readKind_14 (by decide) (fun h => absurd h (by decide)) (fun _ => ?_)
  refine lv_aload_n B.1 B.2.1 dX6_readKind_17 rfl (lv_at hl 3 rfl) ?_
  refine gf_X6_22 B Y 0 rfl rfl dX6_readKind_18 ?_
  refine lv_if_eq (tgt := 37) B.1 B.2.1 dX6_readKind_21 (by decide) (fun h => absurd h (by decide)) (fun _ => ?_)
  refine lv_iload_n B.1 B.2.1 dX6_readKind_24 rfl (lv_at hl 0 rfl) ?_
  refine lv_iconst (v := (iI (3))) B.1 B.2.1 dX6_readKind_25 (by decide) ?_
  refine lv_icmp_lt (tgt := 33) B.1 B.2.1 dX6_readKind_26 (by decide) (fun h => absurd h (by decide)) (fun _ => ?_)
  refine lv_iconst (v := (iI (1))) B.1 B.2.1 dX6_readKind_29 (by decide) ?_
  refine lv_goto (tgt := 47) B.1 B.2.1 dX6_readKind_30 (by decide) ?_
  refine lv_istore_n (lv' := [(3, .int (iI (1))), (2, .int (iI (7))), (1, .int (iI (((pt : Nat) : Int)))), (0, .ref rd)]) B.1 B.2.1 dX6_readKind_47 rfl hl (by decide) rfl (fun ls hl => ?_)
  refine lv_iload_n B.1 B.2.1 dX6_readKind_48 rfl (lv_at hl 0 rfl) ?_
  refine lv_if_eq (tgt := 70) B.1 B.2.1 dX6_readKind_49 (by decide) (fun h => absurd h (by decide)) (fun _ => ?_)
  refine lv_aload_n B.1 B.2.1 dX6_readKind_52 rfl (lv_at hl 3 rfl) ?_
  refine lv_iload_n B.1 B.2.1 dX6_readKind_53 rfl (lv_at hl 2 rfl) ?_
  refine lv_iload_n B.1 B.2.1 dX6_readKind_54 rfl (lv_at hl 1 rfl) ?_
  refine qQ (Cs := []) (Rs := [[(rd, .inr (8, [.ref ri, .int (iI (((L : Nat) : Int))), .int (iI (((pt + 4) : Nat) : Int)), .int (iI (1)), .int (iI (er)), .int (iI (ea)), .int (iI (cn)), .ref rk, .ref rn, .ref ro, .ref rt]))], [(ri, .inl (τ 1, 500, .inl (fun j => iI ((b) j))))]]) Y [] [0, 1] (by decide) rfl (cSE (As := [.int (iI (7))]) (rest := [.int (iI (((pt : Nat) : Int))), .ref rd]) (Ke.ok K) hE B Y [] (by decide) rfl (k_wordOf7 l D τ _ K) q_802 q_803 q_3 q_804 rfl rfl hd_X6_wordOf ⟨(Nat.le_of_ble_eq_true rfl), (Nat.le_of_ble_eq_true rfl)⟩ rfl hl.1 rfl (Nat.le_of_ble_eq_true rfl) dX6_readKind_55 ⟨(Nat.le_of_ble_eq_true rfl), (Nat.le_of_ble_eq_true rfl)⟩) (fun r u H locs hw Y => ?_)
  subst hw
  have Y : Wd D τ s A s.heap (bl [[(rd, .inr (8, [.ref ri, .int (iI (((L : Nat) : Int))), .int (iI (((pt + 4) : Nat) : Int)), .int (iI (1)), .int (iI (er)), .int (iI (ea)), .int (iI (cn)), .ref rk, .ref rn, .ref ro, .ref rt]))], [(ri, .inl (τ 1, 500, .inl (fun j => iI ((b) j))))]]) _ _ := Y
  show W _ _ _ _ _ _ _ _ _ _ _ _ _ _ _ (F0 m _ ls (.ref (K (2 * 7)) :: .int (iI (((pt : Nat) : Int))) :: .ref rd :: []))
  refine qI (Cs := [[(rd, .inr (8, [.ref ri, .int (iI (((L : Nat) : Int))), .int (iI (((pt + 4) : Nat) : Int)), .int (iI (1)), .int (iI (er)), .int (iI (ea)), .int (iI (cn)), .ref rk, .ref rn, .ref ro, .ref rt]))], [(ri, .inl (τ 1, 500, .inl (fun j => iI ((b) j))))]]) (Rs := []) Y [0, 1] [] (by decide) rfl (cVE (As := [.int (iI (((pt : Nat) : Int))), .ref (K (2 * 7))]) (rest := []) (q0 := 0) (Ke.ok K) hE B Y [0, 1] (by decide) rfl (k_isWord l D τ _ K rd ri rk rn ro rt L (1) (er) (ea) (cn) b (by omega) hb pt (ksZ 9) hX1 (by omega) 7 (by decide)) rfl rfl q_815 q_817 qp_11 q_3 q_818 rfl rfl hd_X6_isWord ⟨(Nat.le_of_ble_eq_true rfl), (Nat.le_of_ble_eq_true rfl)⟩ rfl hl.1 rfl (Nat.le_of_ble_eq_true rfl) dX6_readKind_58 ⟨(Nat.le_of_ble_eq_true rfl), (Nat.le_of_ble_eq_true rfl)⟩) (fun r u H locs hw Y => ?_)
  rw [if_neg (by decide)] at hw
  have hw : r = 0 := hw
  subst hw
  have Y : Wd D τ s A s.heap (bl [[(rd, .inr (8, [.ref ri, .int (iI (((L : Nat) : Int))), .int (iI (((pt + 4) : Nat) : Int)), .int (iI (1)), .int (iI (er)), .int (iI (ea)), .int (iI (cn)), .ref rk, .ref rn, .ref ro, .ref rt]))], [(ri, .inl (τ 1, 500, .inl (fun j => iI ((b) j))))]]) _ _ := Y
  refine lv_if_eq (tgt := 70) B.1 B.2.1 dX6_readKind_61 (by decide) (fun _ => ?_) (fun h => absurd (by decide) h) 
  refine lv_iinc (v := (iI (8))) (lv' := [(2, .int (iI (8))), (3, .int (iI (1))), (1, .int (iI (((pt : Nat) : Int)))), (0, .ref rd)]) B.1 B.2.1 dX6_readKind_70 hl (k := 1) rfl (by decide) (by decide) rfl (fun ls hl => ?_)
  refine lv_goto (tgt := 11) B.1 B.2.1 dX6_readKind_73 (by decide) ?_
  refine lv_iload_n B.1 B.2.1 dX6_readKind_11 rfl (lv_at hl 0 rfl) ?_
  refine lv_bipush (v := (iI (10))) B.1 B.2.1 dX6_readKind_12 (by decide) ?_
  refine lv_icmp_ge (tgt := 76) B.1 B.2.1 dX6_readKind_14 (by decide) (fun h => absurd h (by decide)) (fun _ => ?_)
  refine lv_aload_n B.1 B.2.1 dX6_readKind_17 rfl (lv_at hl 3 rfl) ?_
  refine gf_X6_22 B Y 0 rfl rfl dX6_readKind_18 ?_
  refine lv_if_eq (tgt := 37) B.1 B.2.1 dX6_readKind_21 (by decide) (fun h => absurd h (by decide)) (fun _ => ?_)
  refine lv_iload_n B.1 B.2.1 dX6_readKind_24 rfl (lv_at hl 0 rfl) ?_
  refine lv_iconst (v := (iI (3))) B.1 B.2.1 dX6_readKind_25 (by decide) ?_
  refine lv_icmp_lt (tgt := 33) B.1 B.2.1 dX6_readKind_26 (by decide) (fun h => absurd h (by decide)) (fun _ => ?_)
  refine lv_iconst (v := (iI (1))) B.1 B.2.1 dX6_readKind_29 (by decide) ?_
  refine lv_goto (tgt := 47) B.1 B.2.1 dX6_readKind_30 (by decide) ?_
  refine lv_istore_n (lv' := [(3, .int (iI (1))), (2, .int (iI (8))), (1, .int (iI (((pt : Nat) : Int)))), (0, .ref rd)]) B.1 B.2.1 dX6_readKind_47 rfl hl (by decide) rfl (fun ls hl => ?_)
  refine lv_iload_n B.1 B.2.1 dX6_readKind_48 rfl (lv_at hl 0 rfl) ?_
  refine lv_if_eq (tgt := 70) B.1 B.2.1 dX6_readKind_49 (by decide) (fun h => absurd h (by decide)) (fun _ => ?_)
  refine lv_aload_n B.1 B.2.1 dX6_readKind_52 rfl (lv_at hl 3 rfl) ?_
  refine lv_iload_n B.1 B.2.1 dX6_readKind_53 rfl (lv_at hl 2 rfl) ?_
  refine lv_iload_n B.1 B.2.1 dX6_readKind_54 rfl (lv_at hl 1 rfl) ?_
  refine qQ (Cs := []) (Rs := [[(rd, .inr (8, [.ref ri, .int (iI (((L : Nat) : Int))), .int (iI (((pt + 4) : Nat) : Int)), .int (iI (1)), .int (iI (er)), .int (iI (ea)), .int (iI (cn)), .ref rk, .ref rn, .ref ro, .ref rt]))], [(ri, .inl (τ 1, 500, .inl (fun j => iI ((b) j))))]]) Y [] [0, 1] (by decide) rfl (cSE (As := [.int (iI (8))]) (rest := [.int (iI (((pt : Nat) : Int))), .ref rd]) (Ke.ok K) hE B Y [] (by decide) rfl (k_wordOf8 l D τ _ K) q_802 q_803 q_3 q_804 rfl rfl hd_X6_wordOf ⟨(Nat.le_of_ble_eq_true rfl), (Nat.le_of_ble_eq_true rfl)⟩ rfl hl.1 rfl (Nat.le_of_ble_eq_true rfl) dX6_readKind_55 ⟨(Nat.le_of_ble_eq_true rfl), (Nat.le_of_ble_eq_true rfl)⟩) (fun r u H locs hw Y => ?_)
  subst hw
  have Y : Wd D τ s A s.heap (bl [[(rd, .inr (8, [.ref ri, .int (iI (((L : Nat) : Int))), .int (iI (((pt + 4) : Nat) : Int)), .int (iI (1)), .int (iI (er)), .int (iI (ea)), .int (iI (cn)), .ref rk, .ref rn, .ref ro, .ref rt]))], [(ri, .inl (τ 1, 500, .inl (fun j => iI ((b) j))))]]) _ _ := Y
  show W _ _ _ _ _ _ _ _ _ _ _ _ _ _ _ (F0 m _ ls (.ref (K (2 * 8)) :: .int (iI (((pt : Nat) : Int))) :: .ref rd :: []))
  refine qI (Cs := [[(rd, .inr (8, [.ref ri, .int (iI (((L : Nat) : Int))), .int (iI (((pt + 4) : Nat) : Int)), .int (iI (1)), .int (iI (er)), .int (iI (ea)), .int (iI (cn)), .ref rk, .ref rn, .ref ro, .ref rt]))], [(ri, .inl (τ 1, 500, .inl (fun j => iI ((b) j))))]]) (Rs := []) Y [0, 1] [] (by decide) rfl (cVE (As := [.int (iI (((pt : Nat) : Int))), .ref (K (2 * 8))]) (rest := []) (q0 := 0) (Ke.ok K) hE B Y [0, 1] (by decide) rfl (k_isWord l D τ _ K rd ri rk rn ro rt L (1) (er) (ea) (cn) b (by omega) hb pt (ksZ 9) hX1 (by omega) 8 (by decide)) rfl rfl q_815 q_817 qp_11 q_3 q_818 rfl rfl hd_X6_isWord ⟨(Nat.le_of_ble_eq_true rfl), (Nat.le_of_ble_eq_true rfl)⟩ rfl hl.1 rfl (Nat.le_of_ble_eq_true rfl) dX6_readKind_58 ⟨(Nat.le_of_ble_eq_true rfl), (Nat.le_of_ble_eq_true rfl)⟩) (fun r u H locs hw Y => ?_)
  rw [if_neg (by decide)] at hw
  have hw : r = 0 := hw
  subst hw
  have Y : Wd D τ s A s.heap (bl [[(rd, .inr (8, [.ref ri, .int (iI (((L : Nat) : Int))), .int (iI (((pt + 4) : Nat) : Int)), .int (iI (1)), .int (iI (er)), .int (iI (ea)), .int (iI (cn)), .ref rk, .ref rn, .ref ro, .ref rt]))], [(ri, .inl (τ 1, 500, .inl (fun j => iI ((b) j))))]]) _ _ := Y
  refine lv_if_eq (tgt := 70) B.1 B.2.1 dX6_readKind_61 (by decide) (fun _ => ?_) (fun h => absurd (by decide) h) 
  refine lv_iinc (v := (iI (9))) (lv' := [(2, .int (iI (9))), (3, .int (iI (1))), (1, .int (iI (((pt : Nat) : Int)))), (0, .ref rd)]) B.1 B.2.1 dX6_readKind_70 hl (k := 1) rfl (by decide) (by decide) rfl (fun ls hl => ?_)
  refine lv_goto (tgt := 11) B.1 B.2.1 dX6_readKind_73 (by decide) ?_
  refine lv_iload_n B.1 B.2.1 dX6_readKind_11 rfl (lv_at hl 0 rfl) ?_
  refine lv_bipush (v := (iI (10))) B.1 B.2.1 dX6_readKind_12 (by decide) ?_
  refine lv_icmp_ge (tgt := 76) B.1 B.2.1 dX6_readKind_14 (by decide) (fun h => absurd h (by decide)) (fun _ => ?_)
  refine lv_aload_n B.1 B.2.1 dX6_readKind_17 rfl (lv_at hl 3 rfl) ?_
  refine gf_X6_22 B Y 0 rfl rfl dX6_readKind_18 ?_
  refine lv_if_eq (tgt := 37) B.1 B.2.1 dX6_readKind_21 (by decide) (fun h => absurd h (by decide)) (fun _ => ?_)
  refine lv_iload_n B.1 B.2.1 dX6_readKind_24 rfl (lv_at hl 0 rfl) ?_
  refine lv_iconst (v := (iI (3))) B.1 B.2.1 dX6_readKind_25 (by decide) ?_
  refine lv_icmp_lt (tgt := 33) B.1 B.2.1 dX6_readKind_26 (by decide) (fun h => absurd h (by decide)) (fun _ => ?_)
  refine lv_iconst (v := (iI (1))) B.1 B.2.1 dX6_readKind_29 (by decide) ?_
  refine lv_goto (tgt := 47) B.1 B.2.1 dX6_readKind_30 (by decide) ?_
  refine lv_istore_n (lv' := [(3, .int (iI (1))), (2, .int (iI (9))), (1, .int (iI (((pt : Nat) : Int)))), (0, .ref rd)]) B.1 B.2.1 dX6_readKind_47 rfl hl (by decide) rfl (fun ls hl => ?_)
  refine lv_iload_n B.1 B.2.1 dX6_readKind_48 rfl (lv_at hl 0 rfl) ?_
  refine lv_if_eq (tgt := 70) B.1 B.2.1 dX6_readKind_49 (by decide) (fun h => absurd h (by decide)) (fun _ => ?_)
  refine lv_aload_n B.1 B.2.1 dX6_readKind_52 rfl (lv_at hl 3 rfl) ?_
  refine lv_iload_n B.1 B.2.1 dX6_readKind_53 rfl (lv_at hl 2 rfl) ?_
  refine lv_iload_n B.1 B.2.1 dX6_readKind_54 rfl (lv_at hl 1 rfl) ?_
  refine qQ (Cs := []) (Rs := [[(rd, .inr (8, [.ref ri, .int (iI (((L : Nat) : Int))), .int (iI (((pt + 4) : Nat) : Int)), .int (iI (1)), .int (iI (er)), .int (iI (ea)), .int (iI (cn)), .ref rk, .ref rn, .ref ro, .ref rt]))], [(ri, .inl (τ 1, 500, .inl (fun j => iI ((b) j))))]]) Y [] [0, 1] (by decide) rfl (cSE (As := [.int (iI (9))]) (rest := [.int (iI (((pt : Nat) : Int))), .ref rd]) (Ke.ok K) hE B Y [] (by decide) rfl (k_wordOf9 l D τ _ K) q_802 q_803 q_3 q_804 rfl rfl hd_X6_wordOf ⟨(Nat.le_of_ble_eq_true rfl), (Nat.le_of_ble_eq_true rfl)⟩ rfl hl.1 rfl (Nat.le_of_ble_eq_true rfl) dX6_readKind_55 ⟨(Nat.le_of_ble_eq_true rfl), (Nat.le_of_ble_eq_true rfl)⟩) (fun r u H locs hw Y => ?_)
  subst hw
  have Y : Wd D τ s A s.heap (bl [[(rd, .inr (8, [.ref ri, .int (iI (((L : Nat) : Int))), .int (iI (((pt + 4) : Nat) : Int)), .int (iI (1)), .int (iI (er)), .int (iI (ea)), .int (iI (cn)), .ref rk, .ref rn, .ref ro, .ref rt]))], [(ri, .inl (τ 1, 500, .inl (fun j => iI ((b) j))))]]) _ _ := Y
  show W _ _ _ _ _ _ _ _ _ _ _ _ _ _ _ (F0 m _ ls (.ref (K (2 * 9)) :: .int (iI (((pt : Nat) : Int))) :: .ref rd :: []))
  refine qI (Cs := [[(rd, .inr (8, [.ref ri, .int (iI (((L : Nat) : Int))), .int (iI (((pt + 4) : Nat) : Int)), .int (iI (1)), .int (iI (er)), .int (iI (ea)), .int (iI (cn)), .ref rk, .ref rn, .ref ro, .ref rt]))], [(ri, .inl (τ 1, 500, .inl (fun j => iI ((b) j))))]]) (Rs := []) Y [0, 1] [] (by decide) rfl (cVE (As := [.int (iI (((pt : Nat) : Int))), .ref (K (2 * 9))]) (rest := []) (q0 := 0) (Ke.ok K) hE B Y [0, 1] (by decide) rfl (k_isWord l D τ _ K rd ri rk rn ro rt L (1) (er) (ea) (cn) b (by omega) hb pt (ksZ 9) hX1 (by omega) 9 (by decide)) rfl rfl q_815 q_817 qp_11 q_3 q_818 rfl rfl hd_X6_isWord ⟨(Nat.le_of_ble_eq_true rfl), (Nat.le_of_ble_eq_true rfl)⟩ rfl hl.1 rfl (Nat.le_of_ble_eq_true rfl) dX6_readKind_58 ⟨(Nat.le_of_ble_eq_true rfl), (Nat.le_of_ble_eq_true rfl)⟩) (fun r u H locs hw Y => ?_)
  rw [if_pos (by decide)] at hw
  have hw : r = 1 := hw
  subst hw
  have Y : Wd D τ s A s.heap (bl [[(rd, .inr (8, [.ref ri, .int (iI (((L : Nat) : Int))), .int (iI (((pt + 4) : Nat) : Int)), .int (iI (1)), .int (iI (er)), .int (iI (ea)), .int (iI (cn)), .ref rk, .ref rn, .ref ro, .ref rt]))], [(ri, .inl (τ 1, 500, .inl (fun j => iI ((b) j))))]]) _ _ := Y
  refine lv_if_eq (tgt := 70) B.1 B.2.1 dX6_readKind_61 (by decide) (fun h => absurd h (by decide)) (fun _ => ?_)
  refine lv_aload_n B.1 B.2.1 dX6_readKind_64 rfl (lv_at hl 3 rfl) ?_
  refine qV (Cs := [[(rd, .inr (8, [.ref ri, .int (iI (((L : Nat) : Int))), .int (iI (((pt + 4) : Nat) : Int)), .int (iI (1)), .int (iI (er)), .int (iI (ea)), .int (iI (cn)), .ref rk, .ref rn, .ref ro, .ref rt]))], [(ri, .inl (τ 1, 500, .inl (fun j => iI ((b) j))))]]) (Rs := []) Y [0, 1] [] (by decide) rfl (cV (As := []) (rest := []) (q0 := 0) B Y [0, 1] (by decide) rfl (k_skipSpaces l D τ _ rd ri rk rn ro rt L (1) (er) (ea) (cn) b (by omega) hb (pt + 4) (pt + 5) (by omega) (by omega) (fun j h1 h2 => by rw [show j = pt + 4 by omega]; exact hX2) (fun _ => by rw [show pt + 5 = pt + 5 from rfl]; omega)) rfl rfl q_778 q_780 qp_5 q_3 q_781 rfl rfl hd_X6_skipSpaces ⟨(Nat.le_of_ble_eq_true rfl), (Nat.le_of_ble_eq_true rfl)⟩ rfl hl.1 rfl (Nat.le_of_ble_eq_true rfl) dX6_readKind_65 ⟨(Nat.le_of_ble_eq_true rfl), (Nat.le_of_ble_eq_true rfl)⟩) (fun u H locs hw Y => ?_)
  have Y : Wd D τ s A s.heap (bl [[(rd, .inr (8, [.ref ri, .int (iI (((L : Nat) : Int))), .int (iI (((pt + 5) : Nat) : Int)), .int (iI (1)), .int (iI (er)), .int (iI (ea)), .int (iI (cn)), .ref rk, .ref rn, .ref ro, .ref rt]))], [(ri, .inl (τ 1, 500, .inl (fun j => iI ((b) j))))]]) _ _ := Y
  refine lv_iload_n B.1 B.2.1 dX6_readKind_68 rfl (lv_at hl 1 rfl) ?_
  exact eI B hr hlk Y () rfl [0, 1] (by decide) rfl (Nat.le_of_ble_eq_true rfl) (Nat.le_of_ble_eq_true rfl) dX6_readKind_69

