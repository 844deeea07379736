/-! the reader's buffer: b j is the byte at j -/
def sgI (b : Nat → Int) (L p : Nat) : Int := if p < L then b p else 0
def BOk (b : Nat → Int) : Prop := ∀ j : Nat, 0 ≤ b j ∧ b j ≤ 127
theorem sgI_in {b : Nat → Int} (h : BOk b) (L p : Nat) : 0 ≤ sgI b L p ∧ sgI b L p ≤ 127 := by
  unfold sgI
  split
  · exact h p
  · omega
theorem sgI_at {b : Nat → Int} {L p : Nat} (h : p < L) : sgI b L p = b p := if_pos h
theorem sgI_no {b : Nat → Int} {L p : Nat} (h : ¬ p < L) : sgI b L p = 0 := if_neg h
theorem getD_l0 {X Y : List Int} {i : Nat} (h : i < X.length) : (X ++ Y).getD i 0 = X.getD i 0 := by
  rw [List.getD_eq_getElem?_getD, List.getD_eq_getElem?_getD, List.getElem?_append_left h]
theorem getD_r0 {X Y : List Int} {i : Nat} (h : X.length ≤ i) : (X ++ Y).getD i 0 = Y.getD (i - X.length) 0 := by
  rw [List.getD_eq_getElem?_getD, List.getD_eq_getElem?_getD, List.getElem?_append_right h]
/-- the text X stands at p -/
def ats (b : Nat → Int) (p : Nat) (X : List Int) : Prop := ∀ i : Nat, i < X.length → b (p + i) = X.getD i 0
theorem ats_app {b : Nat → Int} {p : Nat} {X Y : List Int} : ats b p (X ++ Y) ↔ ats b p X ∧ ats b (p + X.length) Y := by
  constructor
  · intro h
    refine ⟨fun i hi => ?_, fun i hi => ?_⟩
    · rw [h i (by rw [List.length_append]; omega), getD_l0 hi]
    · have := h (X.length + i) (by rw [List.length_append]; omega)
      rw [getD_r0 (by omega), show X.length + i - X.length = i by omega] at this
      rw [← this, Nat.add_assoc]
  · intro ⟨h1, h2⟩ i hi
    rw [List.length_append] at hi
    by_cases q : i < X.length
    · rw [h1 i q, getD_l0 q]
    · rw [getD_r0 (by omega), ← h2 (i - X.length) (by omega)]
      congr 1; omega
theorem ats_cons {b : Nat → Int} {p : Nat} {x : Int} {Y : List Int} : ats b p (x :: Y) ↔ b p = x ∧ ats b (p + 1) Y := by
  have := ats_app (b := b) (p := p) (X := [x]) (Y := Y)
  refine this.trans ⟨fun h => ⟨h.1 0 (by simp), h.2⟩, fun h => ⟨fun i hi => ?_, h.2⟩⟩
  have e : i = 0 := by simpa using hi
  subst e; exact h.1
theorem ats_nil {b : Nat → Int} {p : Nat} : ats b p [] := fun i hi => absurd hi (Nat.not_lt_zero i)
set_option maxHeartbeats 4000000 in
set_option maxRecDepth 100000 in
theorem k_sign (l : Launch) (D : va_G) (τ : Nat → ClassId) (sz : Nat) (rd ri rk rn ro rt L : Nat) (io er ea cn : Int) (b : Nat → Int) (hL : L ≤ 500) (hb : BOk b) (pt : Nat) (hp : pt ≤ L) : Met l yX6_sign (Cond.code yX6_sign cX6_sign 1 (some .int) :: wALL) { frames := 0, cells := 0, slots := 0, locals := 0 } (Pw D τ (bl [[(rd, .inr (8, [.ref ri, .int (iI (((L : Nat) : Int))), .int (iI (((pt : Nat) : Int))), .int (iI (io)), .int (iI (er)), .int (iI (ea)), .int (iI (cn)), .ref rk, .ref rn, .ref ro, .ref rt]))], [(ri, .inl (τ 1, 500, .inl (fun j => iI ((b) j))))]]) sz [.ref rd]) (va_Qi (fun (r : Int32) (_ : Unit) => r = iI (sgI b L pt)) (Bb D (va_A (bl [[(rd, .inr (8, [.ref ri, .int (iI (((L : Nat) : Int))), .int (iI (((pt : Nat) : Int))), .int (iI (io)), .int (iI (er)), .int (iI (ea)), .int (iI (cn)), .ref rk, .ref rn, .ref ro, .ref rt]))], [(ri, .inl (τ 1, 500, .inl (fun j => iI ((b) j))))]]) sz) (fun (_ : Unit) => [[(rd, .inr (8, [.ref ri, .int (iI (((L : Nat) : Int))), .int (iI (((pt : Nat) : Int))), .int (iI (io)), .int (iI (er)), .int (iI (ea)), .int (iI (cn)), .ref rk, .ref rn, .ref ro, .ref rt]))], [(ri, .inl (τ 1, 500, .inl (fun j => iI ((b) j))))]])) (va_A (bl [[(rd, .inr (8, [.ref ri, .int (iI (((L : Nat) : Int))), .int (iI (((pt : Nat) : Int))), .int (iI (io)), .int (iI (er)), .int (iI (ea)), .int (iI (cn)), .ref rk, .ref rn, .ref ro, .ref rt]))], [(ri, .inl (τ 1, 500, .inl (fun j => iI ((b) j))))]]) sz)) 0 0 (va_A (bl [[(rd, .inr (8, [.ref ri, .int (iI (((L : Nat) : Int))), .int (iI (((pt : Nat) : Int))), .int (iI (io)), .int (iI (er)), .int (iI (ea)), .int (iI (cn)), .ref rk, .ref rn, .ref ro, .ref rt]))], [(ri, .inl (τ 1, 500, .inl (fun j => iI ((b) j))))]]) sz) := by
  refine bodyW (by decide) (Nat.le_of_ble_eq_true rfl) (fun p e s m below meth c ls B hr hlk hin hsz Y hl => ?_)
  have hl : lv_has ls 1 [(0, .ref rd)] := hl
  have B : CallFix p m c cX6_sign 1 s _ wALL RX6 := B
  generalize va_A (bl [[(rd, .inr (8, [.ref ri, .int (iI (((L : Nat) : Int))), .int (iI (((pt : Nat) : Int))), .int (iI (io)), .int (iI (er)), .int (iI (ea)), .int (iI (cn)), .ref rk, .ref rn, .ref ro, .ref rt]))], [(ri, .inl (τ 1, 500, .inl (fun j => iI ((b) j))))]]) sz = A at Y ⊢
  refine lv_aload_n B.1 B.2.1 dX6_sign_0 rfl (lv_at hl 0 rfl) ?_
  refine gf_X6_19 B Y 0 rfl rfl dX6_sign_1 ?_
  refine lv_if_lt (tgt := 44) B.1 B.2.1 dX6_sign_4 (by decide) (fun h => absurd h (mt (iI_lt0 (a := ((pt : Nat) : Int)) (by omega) (by omega)).mp (by omega))) (fun _ => ?_)
  refine lv_aload_n B.1 B.2.1 dX6_sign_7 rfl (lv_at hl 0 rfl) ?_
  refine gf_X6_19 B Y 0 rfl rfl dX6_sign_8 ?_
  refine lv_aload_n B.1 B.2.1 dX6_sign_11 rfl (lv_at hl 0 rfl) ?_
  refine gf_X6_15 B Y 0 rfl rfl dX6_sign_12 ?_
  refine lv_icmp_ge (tgt := 44) B.1 B.2.1 dX6_sign_15 (by decide) (fun c1 => ?_) (fun c1 => ?_)
  · have c1 := (iI_le (a := ((L : Nat) : Int)) (b := ((pt : Nat) : Int)) (by omega) (by omega) (by omega) (by omega)).mp c1
    refine lv_iconst (v := (iI (0))) B.1 B.2.1 dX6_sign_44 (by decide) ?_
    exact eI B hr hlk Y () (by rw [sgI_no (by omega)]) [0, 1] (by decide) rfl (Nat.le_of_ble_eq_true rfl) (Nat.le_of_ble_eq_true rfl) dX6_sign_45
  · have c1 := mt (iI_le (a := ((L : Nat) : Int)) (b := ((pt : Nat) : Int)) (by omega) (by omega) (by omega) (by omega)).mpr c1
    refine lv_aload_n B.1 B.2.1 dX6_sign_18 rfl (lv_at hl 0 rfl) ?_
    refine gf_X6_19 B Y 0 rfl rfl dX6_sign_19 ?_
    refine lv_sipush (v := (iI (500))) B.1 B.2.1 dX6_sign_22 (by decide) ?_
    refine lv_icmp_ge (tgt := 44) B.1 B.2.1 dX6_sign_25 (by decide) (fun h => absurd h (mt (iI_le (a := 500) (b := ((pt : Nat) : Int)) (by omega) (by omega) (by omega) (by omega)).mp (by omega))) (fun _ => ?_)
    refine lv_aload_n B.1 B.2.1 dX6_sign_28 rfl (lv_at hl 0 rfl) ?_
    refine gf_X6_11 B Y 0 rfl rfl dX6_sign_29 ?_
    refine lv_aload_n B.1 B.2.1 dX6_sign_32 rfl (lv_at hl 0 rfl) ?_
    refine gf_X6_19 B Y 0 rfl rfl dX6_sign_33 ?_
    refine b_bald (j := pt) (v := (iI ((b) pt))) B Y 1 rfl (iI_pos (by omega)) (iI_clamp (by omega)) (by omega) rfl dX6_sign_36 ?_
    refine lv_sipush (v := (iI (255))) B.1 B.2.1 dX6_sign_37 (by decide) ?_
    refine lv_iand B.1 B.2.1 dX6_sign_40 ?_
    refine lv_cv (v := (iI ((b) pt))) (by have q := hb pt; rw [iI_and (by omega) (by omega)]; congr 1; omega) ?_
    refine lv_goto (tgt := 45) B.1 B.2.1 dX6_sign_41 (by decide) ?_
    exact eI B hr hlk Y () (by rw [sgI_at (by omega)]) [0, 1] (by decide) rfl (Nat.le_of_ble_eq_true rfl) (Nat.le_of_ble_eq_true rfl) dX6_sign_45

set_option maxHeartbeats 4000000 in
set_option maxRecDepth 100000 in
theorem k_isLetter (l : Launch) (D : va_G) (τ : Nat → ClassId) (sz : Nat) (rd ri rk rn ro rt L : Nat) (io er ea cn : Int) (b : Nat → Int) (hL : L ≤ 500) (hb : BOk b) (pt : Nat) (hp : pt ≤ L) : Met l yX6_isLetter (Cond.code yX6_isLetter cX6_isLetter 1 (some .boolean) :: wALL) { frames := 1, cells := 0, slots := 0, locals := 20 } (Pw D τ (bl [[(rd, .inr (8, [.ref ri, .int (iI (((L : Nat) : Int))), .int (iI (((pt : Nat) : Int))), .int (iI (io)), .int (iI (er)), .int (iI (ea)), .int (iI (cn)), .ref rk, .ref rn, .ref ro, .ref rt]))], [(ri, .inl (τ 1, 500, .inl (fun j => iI ((b) j))))]]) sz [.ref rd]) (va_Qi (fun (r : Int32) (_ : Unit) => r = iI (if 97 ≤ sgI b L pt ∧ sgI b L pt ≤ 122 then 1 else 0)) (Bb D (va_A (bl [[(rd, .inr (8, [.ref ri, .int (iI (((L : Nat) : Int))), .int (iI (((pt : Nat) : Int))), .int (iI (io)), .int (iI (er)), .int (iI (ea)), .int (iI (cn)), .ref rk, .ref rn, .ref ro, .ref rt]))], [(ri, .inl (τ 1, 500, .inl (fun j => iI ((b) j))))]]) sz) (fun (_ : Unit) => [[(rd, .inr (8, [.ref ri, .int (iI (((L : Nat) : Int))), .int (iI (((pt : Nat) : Int))), .int (iI (io)), .int (iI (er)), .int (iI (ea)), .int (iI (cn)), .ref rk, .ref rn, .ref ro, .ref rt]))], [(ri, .inl (τ 1, 500, .inl (fun j => iI ((b) j))))]])) (va_A (bl [[(rd, .inr (8, [.ref ri, .int (iI (((L : Nat) : Int))), .int (iI (((pt : Nat) : Int))), .int (iI (io)), .int (iI (er)), .int (iI (ea)), .int (iI (cn)), .ref rk, .ref rn, .ref ro, .ref rt]))], [(ri, .inl (τ 1, 500, .inl (fun j => iI ((b) j))))]]) sz)) 0 0 (va_A (bl [[(rd, .inr (8, [.ref ri, .int (iI (((L : Nat) : Int))), .int (iI (((pt : Nat) : Int))), .int (iI (io)), .int (iI (er)), .int (iI (ea)), .int (iI (cn)), .ref rk, .ref rn, .ref ro, .ref rt]))], [(ri, .inl (τ 1, 500, .inl (fun j => iI ((b) j))))]]) sz) := by
  refine bodyW (by decide) (Nat.le_of_ble_eq_true rfl) (fun p e s m below meth c ls B hr hlk hin hsz Y hl => ?_)
  have hl : lv_has ls 1 [(0, .ref rd)] := hl
  have B : CallFix p m c cX6_isLetter 1 s _ wALL RX6 := B
  generalize va_A (bl [[(rd, .inr (8, [.ref ri, .int (iI (((L : Nat) : Int))), .int (iI (((pt : Nat) : Int))), .int (iI (io)), .int (iI (er)), .int (iI (ea)), .int (iI (cn)), .ref rk, .ref rn, .ref ro, .ref rt]))], [(ri, .inl (τ 1, 500, .inl (fun j => iI ((b) j))))]]) sz = A at Y ⊢
  have hsg := sgI_in hb L pt
  refine lv_aload_n B.1 B.2.1 dX6_isLetter_0 rfl (lv_at hl 0 rfl) ?_
  refine qI (Cs := [[(rd, .inr (8, [.ref ri, .int (iI (((L : Nat) : Int))), .int (iI (((pt : Nat) : Int))), .int (iI (io)), .int (iI (er)), .int (iI (ea)), .int (iI (cn)), .ref rk, .ref rn, .ref ro, .ref rt]))], [(ri, .inl (τ 1, 500, .inl (fun j => iI ((b) j))))]]) (Rs := []) Y [0, 1] [] (by decide) rfl (cV (As := []) (rest := []) (q0 := 0) B Y [0, 1] (by decide) rfl (k_sign l D τ _ rd ri rk rn ro rt L  (io) (er) (ea) (cn) b (by omega) hb pt (by omega)) rfl rfl q_782 q_784 qp_6 q_3 q_785 rfl rfl hd_X6_sign ⟨(Nat.le_of_ble_eq_true rfl), (Nat.le_of_ble_eq_true rfl)⟩ rfl hl.1 rfl (Nat.le_of_ble_eq_true rfl) dX6_isLetter_1 ⟨(Nat.le_of_ble_eq_true rfl), (Nat.le_of_ble_eq_true rfl)⟩) (fun r u H locs hw Y => ?_)
  subst hw
  have Y : Wd D τ s A s.heap (bl [[(rd, .inr (8, [.ref ri, .int (iI (((L : Nat) : Int))), .int (iI (((pt : Nat) : Int))), .int (iI (io)), .int (iI (er)), .int (iI (ea)), .int (iI (cn)), .ref rk, .ref rn, .ref ro, .ref rt]))], [(ri, .inl (τ 1, 500, .inl (fun j => iI ((b) j))))]]) _ _ := Y
  refine lv_bipush (v := (iI (97))) B.1 B.2.1 dX6_isLetter_4 (by decide) ?_
  refine lv_icmp_lt (tgt := 22) B.1 B.2.1 dX6_isLetter_6 (by decide) (fun c1 => ?_) (fun c1 => ?_)
  · have c1 := (iI_lt (a := sgI b L pt) (b := 97) (by omega) (by omega) (by omega) (by omega)).mp c1
    refine lv_iconst (v := (iI (0))) B.1 B.2.1 dX6_isLetter_22 (by decide) ?_
    exact eZ B hr hlk Y (by decide) () (by rw [if_neg (show ¬ (97 ≤ sgI b L pt ∧ sgI b L pt ≤ 122) by omega)]) [0, 1] (by decide) rfl (Nat.le_of_ble_eq_true rfl) (Nat.le_of_ble_eq_true rfl) dX6_isLetter_23
  · have c1 := mt (iI_lt (a := sgI b L pt) (b := 97) (by omega) (by omega) (by omega) (by omega)).mpr c1
    refine lv_aload_n B.1 B.2.1 dX6_isLetter_9 rfl (lv_at hl 0 rfl) ?_
    refine qI (Cs := [[(rd, .inr (8, [.ref ri, .int (iI (((L : Nat) : Int))), .int (iI (((pt : Nat) : Int))), .int (iI (io)), .int (iI (er)), .int (iI (ea)), .int (iI (cn)), .ref rk, .ref rn, .ref ro, .ref rt]))], [(ri, .inl (τ 1, 500, .inl (fun j => iI ((b) j))))]]) (Rs := []) Y [0, 1] [] (by decide) rfl (cV (As := []) (rest := []) (q0 := 0) B Y [0, 1] (by decide) rfl (k_sign l D τ _ rd ri rk rn ro rt L  (io) (er) (ea) (cn) b (by omega) hb pt (by omega)) rfl rfl q_782 q_784 qp_6 q_3 q_785 rfl rfl hd_X6_sign ⟨(Nat.le_of_ble_eq_true rfl), (Nat.le_of_ble_eq_true rfl)⟩ rfl hl.1 rfl (Nat.le_of_ble_eq_true rfl) dX6_isLetter_10 ⟨(Nat.le_of_ble_eq_true rfl), (Nat.le_of_ble_eq_true rfl)⟩) (fun r u H locs hw Y => ?_)
    subst hw
    have Y : Wd D τ s A s.heap (bl [[(rd, .inr (8, [.ref ri, .int (iI (((L : Nat) : Int))), .int (iI (((pt : Nat) : Int))), .int (iI (io)), .int (iI (er)), .int (iI (ea)), .int (iI (cn)), .ref rk, .ref rn, .ref ro, .ref rt]))], [(ri, .inl (τ 1, 500, .inl (fun j => iI ((b) j))))]]) _ _ := Y
    refine lv_bipush (v := (iI (122))) B.1 B.2.1 dX6_isLetter_13 (by decide) ?_
    refine lv_icmp_gt (tgt := 22) B.1 B.2.1 dX6_isLetter_15 (by decide) (fun c2 => ?_) (fun c2 => ?_)
    · have c2 := (iI_lt (a := 122) (b := sgI b L pt) (by omega) (by omega) (by omega) (by omega)).mp c2
      refine lv_iconst (v := (iI (0))) B.1 B.2.1 dX6_isLetter_22 (by decide) ?_
      exact eZ B hr hlk Y (by decide) () (by rw [if_neg (show ¬ (97 ≤ sgI b L pt ∧ sgI b L pt ≤ 122) by omega)]) [0, 1] (by decide) rfl (Nat.le_of_ble_eq_true rfl) (Nat.le_of_ble_eq_true rfl) dX6_isLetter_23
    · have c2 := mt (iI_lt (a := 122) (b := sgI b L pt) (by omega) (by omega) (by omega) (by omega)).mpr c2
      refine lv_iconst (v := (iI (1))) B.1 B.2.1 dX6_isLetter_18 (by decide) ?_
      refine lv_goto (tgt := 23) B.1 B.2.1 dX6_isLetter_19 (by decide) ?_
      exact eZ B hr hlk Y (by decide) () (by rw [if_pos (show 97 ≤ sgI b L pt ∧ sgI b L pt ≤ 122 by omega)]) [0, 1] (by decide) rfl (Nat.le_of_ble_eq_true rfl) (Nat.le_of_ble_eq_true rfl) dX6_isLetter_23

set_option maxHeartbeats 4000000 in
set_option maxRecDepth 100000 in
theorem k_isDigit (l : Launch) (D : va_G) (τ : Nat → ClassId) (sz : Nat) (rd ri rk rn ro rt L : Nat) (io er ea cn : Int) (b : Nat → Int) (hL : L ≤ 500) (hb : BOk b) (pt : Nat) (hp : pt ≤ L) : Met l yX6_isDigit (Cond.code yX6_isDigit cX6_isDigit 1 (some .boolean) :: wALL) { frames := 1, cells := 0, slots := 0, locals := 20 } (Pw D τ (bl [[(rd, .inr (8, [.ref ri, .int (iI (((L : Nat) : Int))), .int (iI (((pt : Nat) : Int))), .int (iI (io)), .int (iI (er)), .int (iI (ea)), .int (iI (cn)), .ref rk, .ref rn, .ref ro, .ref rt]))], [(ri, .inl (τ 1, 500, .inl (fun j => iI ((b) j))))]]) sz [.ref rd]) (va_Qi (fun (r : Int32) (_ : Unit) => r = iI (if 48 ≤ sgI b L pt ∧ sgI b L pt ≤ 57 then 1 else 0)) (Bb D (va_A (bl [[(rd, .inr (8, [.ref ri, .int (iI (((L : Nat) : Int))), .int (iI (((pt : Nat) : Int))), .int (iI (io)), .int (iI (er)), .int (iI (ea)), .int (iI (cn)), .ref rk, .ref rn, .ref ro, .ref rt]))], [(ri, .inl (τ 1, 500, .inl (fun j => iI ((b) j))))]]) sz) (fun (_ : Unit) => [[(rd, .inr (8, [.ref ri, .int (iI (((L : Nat) : Int))), .int (iI (((pt : Nat) : Int))), .int (iI (io)), .int (iI (er)), .int (iI (ea)), .int (iI (cn)), .ref rk, .ref rn, .ref ro, .ref rt]))], [(ri, .inl (τ 1, 500, .inl (fun j => iI ((b) j))))]])) (va_A (bl [[(rd, .inr (8, [.ref ri, .int (iI (((L : Nat) : Int))), .int (iI (((pt : Nat) : Int))), .int (iI (io)), .int (iI (er)), .int (iI (ea)), .int (iI (cn)), .ref rk, .ref rn, .ref ro, .ref rt]))], [(ri, .inl (τ 1, 500, .inl (fun j => iI ((b) j))))]]) sz)) 0 0 (va_A (bl [[(rd, .inr (8, [.ref ri, .int (iI (((L : Nat) : Int))), .int (iI (((pt : Nat) : Int))), .int (iI (io)), .int (iI (er)), .int (iI (ea)), .int (iI (cn)), .ref rk, .ref rn, .ref ro, .ref rt]))], [(ri, .inl (τ 1, 500, .inl (fun j => iI ((b) j))))]]) sz) := by
  refine bodyW (by decide) (Nat.le_of_ble_eq_true rfl) (fun p e s m below meth c ls B hr hlk hin hsz Y hl => ?_)
  have hl : lv_has ls 1 [(0, .ref rd)] := hl
  have B : CallFix p m c cX6_isDigit 1 s _ wALL RX6 := B
  generalize va_A (bl [[(rd, .inr (8, [.ref ri, .int (iI (((L : Nat) : Int))), .int (iI (((pt : Nat) : Int))), .int (iI (io)), .int (iI (er)), .int (iI (ea)), .int (iI (cn)), .ref rk, .ref rn, .ref ro, .ref rt]))], [(ri, .inl (τ 1, 500, .inl (fun j => iI ((b) j))))]]) sz = A at Y ⊢
  have hsg := sgI_in hb L pt
  refine lv_aload_n B.1 B.2.1 dX6_isDigit_0 rfl (lv_at hl 0 rfl) ?_
  refine qI (Cs := [[(rd, .inr (8, [.ref ri, .int (iI (((L : Nat) : Int))), .int (iI (((pt : Nat) : Int))), .int (iI (io)), .int (iI (er)), .int (iI (ea)), .int (iI (cn)), .ref rk, .ref rn, .ref ro, .ref rt]))], [(ri, .inl (τ 1, 500, .inl (fun j => iI ((b) j))))]]) (Rs := []) Y [0, 1] [] (by decide) rfl (cV (As := []) (rest := []) (q0 := 0) B Y [0, 1] (by decide) rfl (k_sign l D τ _ rd ri rk rn ro rt L  (io) (er) (ea) (cn) b (by omega) hb pt (by omega)) rfl rfl q_782 q_784 qp_6 q_3 q_785 rfl rfl hd_X6_sign ⟨(Nat.le_of_ble_eq_true rfl), (Nat.le_of_ble_eq_true rfl)⟩ rfl hl.1 rfl (Nat.le_of_ble_eq_true rfl) dX6_isDigit_1 ⟨(Nat.le_of_ble_eq_true rfl), (Nat.le_of_ble_eq_true rfl)⟩) (fun r u H locs hw Y => ?_)
  subst hw
  have Y : Wd D τ s A s.heap (bl [[(rd, .inr (8, [.ref ri, .int (iI (((L : Nat) : Int))), .int (iI (((pt : Nat) : Int))), .int (iI (io)), .int (iI (er)), .int (iI (ea)), .int (iI (cn)), .ref rk, .ref rn, .ref ro, .ref rt]))], [(ri, .inl (τ 1, 500, .inl (fun j => iI ((b) j))))]]) _ _ := Y
  refine lv_bipush (v := (iI (48))) B.1 B.2.1 dX6_isDigit_4 (by decide) ?_
  refine lv_icmp_lt (tgt := 22) B.1 B.2.1 dX6_isDigit_6 (by decide) (fun c1 => ?_) (fun c1 => ?_)
  · have c1 := (iI_lt (a := sgI b L pt) (b := 48) (by omega) (by omega) (by omega) (by omega)).mp c1
    refine lv_iconst (v := (iI (0))) B.1 B.2.1 dX6_isDigit_22 (by decide) ?_
    exact eZ B hr hlk Y (by decide) () (by rw [if_neg (show ¬ (48 ≤ sgI b L pt ∧ sgI b L pt ≤ 57) by omega)]) [0, 1] (by decide) rfl (Nat.le_of_ble_eq_true rfl) (Nat.le_of_ble_eq_true rfl) dX6_isDigit_23
  · have c1 := mt (iI_lt (a := sgI b L pt) (b := 48) (by omega) (by omega) (by omega) (by omega)).mpr c1
    refine lv_aload_n B.1 B.2.1 dX6_isDigit_9 rfl (lv_at hl 0 rfl) ?_
    refine qI (Cs := [[(rd, .inr (8, [.ref ri, .int (iI (((L : Nat) : Int))), .int (iI (((pt : Nat) : Int))), .int (iI (io)), .int (iI (er)), .int (iI (ea)), .int (iI (cn)), .ref rk, .ref rn, .ref ro, .ref rt]))], [(ri, .inl (τ 1, 500, .inl (fun j => iI ((b) j))))]]) (Rs := []) Y [0, 1] [] (by decide) rfl (cV (As := []) (rest := []) (q0 := 0) B Y [0, 1] (by decide) rfl (k_sign l D τ _ rd ri rk rn ro rt L  (io) (er) (ea) (cn) b (by omega) hb pt (by omega)) rfl rfl q_782 q_784 qp_6 q_3 q_785 rfl rfl hd_X6_sign ⟨(Nat.le_of_ble_eq_true rfl), (Nat.le_of_ble_eq_true rfl)⟩ rfl hl.1 rfl (Nat.le_of_ble_eq_true rfl) dX6_isDigit_10 ⟨(Nat.le_of_ble_eq_true rfl), (Nat.le_of_ble_eq_true rfl)⟩) (fun r u H locs hw Y => ?_)
    subst hw
    have Y : Wd D τ s A s.heap (bl [[(rd, .inr (8, [.ref ri, .int (iI (((L : Nat) : Int))), .int (iI (((pt : Nat) : Int))), .int (iI (io)), .int (iI (er)), .int (iI (ea)), .int (iI (cn)), .ref rk, .ref rn, .ref ro, .ref rt]))], [(ri, .inl (τ 1, 500, .inl (fun j => iI ((b) j))))]]) _ _ := Y
    refine lv_bipush (v := (iI (57))) B.1 B.2.1 dX6_isDigit_13 (by decide) ?_
    refine lv_icmp_gt (tgt := 22) B.1 B.2.1 dX6_isDigit_15 (by decide) (fun c2 => ?_) (fun c2 => ?_)
    · have c2 := (iI_lt (a := 57) (b := sgI b L pt) (by omega) (by omega) (by omega) (by omega)).mp c2
      refine lv_iconst (v := (iI (0))) B.1 B.2.1 dX6_isDigit_22 (by decide) ?_
      exact eZ B hr hlk Y (by decide) () (by rw [if_neg (show ¬ (48 ≤ sgI b L pt ∧ sgI b L pt ≤ 57) by omega)]) [0, 1] (by decide) rfl (Nat.le_of_ble_eq_true rfl) (Nat.le_of_ble_eq_true rfl) dX6_isDigit_23
    · have c2 := mt (iI_lt (a := 57) (b := sgI b L pt) (by omega) (by omega) (by omega) (by omega)).mpr c2
      refine lv_iconst (v := (iI (1))) B.1 B.2.1 dX6_isDigit_18 (by decide) ?_
      refine lv_goto (tgt := 23) B.1 B.2.1 dX6_isDigit_19 (by decide) ?_
      exact eZ B hr hlk Y (by decide) () (by rw [if_pos (show 48 ≤ sgI b L pt ∧ sgI b L pt ≤ 57 by omega)]) [0, 1] (by decide) rfl (Nat.le_of_ble_eq_true rfl) (Nat.le_of_ble_eq_true rfl) dX6_isDigit_23

set_option maxHeartbeats 4000000 in
set_option maxRecDepth 100000 in
theorem k_skipSpaces (l : Launch) (D : va_G) (τ : Nat → ClassId) (sz : Nat) (rd ri rk rn ro rt L : Nat) (io er ea cn : Int) (b : Nat → Int) (hL : L ≤ 500) (hb : BOk b) (pt qe : Nat) (hpq : pt ≤ qe) (hqL : qe ≤ L) (hsp : ∀ j : Nat, pt ≤ j → j < qe → b j = 32) (hend : qe < L → b qe ≠ 32) : Met l yX6_skipSpaces (Cond.code yX6_skipSpaces cX6_skipSpaces 1 none :: wALL) { frames := 1, cells := 0, slots := 0, locals := 20 } (Pw D τ (bl [[(rd, .inr (8, [.ref ri, .int (iI (((L : Nat) : Int))), .int (iI (((pt : Nat) : Int))), .int (iI (io)), .int (iI (er)), .int (iI (ea)), .int (iI (cn)), .ref rk, .ref rn, .ref ro, .ref rt]))], [(ri, .inl (τ 1, 500, .inl (fun j => iI ((b) j))))]]) sz [.ref rd]) (va_Qv (fun (_ : Unit) => True) (Bb D (va_A (bl [[(rd, .inr (8, [.ref ri, .int (iI (((L : Nat) : Int))), .int (iI (((pt : Nat) : Int))), .int (iI (io)), .int (iI (er)), .int (iI (ea)), .int (iI (cn)), .ref rk, .ref rn, .ref ro, .ref rt]))], [(ri, .inl (τ 1, 500, .inl (fun j => iI ((b) j))))]]) sz) (fun (_ : Unit) => [[(rd, .inr (8, [.ref ri, .int (iI (((L : Nat) : Int))), .int (iI (((qe : Nat) : Int))), .int (iI (io)), .int (iI (er)), .int (iI (ea)), .int (iI (cn)), .ref rk, .ref rn, .ref ro, .ref rt]))], [(ri, .inl (τ 1, 500, .inl (fun j => iI ((b) j))))]])) (va_A (bl [[(rd, .inr (8, [.ref ri, .int (iI (((L : Nat) : Int))), .int (iI (((pt : Nat) : Int))), .int (iI (io)), .int (iI (er)), .int (iI (ea)), .int (iI (cn)), .ref rk, .ref rn, .ref ro, .ref rt]))], [(ri, .inl (τ 1, 500, .inl (fun j => iI ((b) j))))]]) sz)) 0 0 (va_A (bl [[(rd, .inr (8, [.ref ri, .int (iI (((L : Nat) : Int))), .int (iI (((pt : Nat) : Int))), .int (iI (io)), .int (iI (er)), .int (iI (ea)), .int (iI (cn)), .ref rk, .ref rn, .ref ro, .ref rt]))], [(ri, .inl (τ 1, 500, .inl (fun j => iI ((b) j))))]]) sz) := by
  refine bodyW (by decide) (Nat.le_of_ble_eq_true rfl) (fun p e s m below meth c ls B hr hlk hin hsz Y hl => ?_)
  have hl : lv_has ls 1 [(0, .ref rd)] := hl
  have B : CallFix p m c cX6_skipSpaces 1 s _ wALL RX6 := B
  generalize va_A (bl [[(rd, .inr (8, [.ref ri, .int (iI (((L : Nat) : Int))), .int (iI (((pt : Nat) : Int))), .int (iI (io)), .int (iI (er)), .int (iI (ea)), .int (iI (cn)), .ref rk, .ref rn, .ref ro, .ref rt]))], [(ri, .inl (τ 1, 500, .inl (fun j => iI ((b) j))))]]) sz = A at Y ⊢
  refine loopW (n := qe) (P := fun (i : Nat) (H : Heap) (locs : List Loc) (ls : Array Slot) => (pt ≤ i) ∧ lv_has ls 1 [(0, .ref rd)] ∧ Wd D τ s A s.heap (bl [[(rd, .inr (8, [.ref ri, .int (iI (((L : Nat) : Int))), .int (iI (((i : Nat) : Int))), .int (iI (io)), .int (iI (er)), .int (iI (ea)), .int (iI (cn)), .ref rk, .ref rn, .ref ro, .ref rt]))], [(ri, .inl (τ 1, 500, .inl (fun j => iI ((b) j))))]]) H locs) pt hpq ⟨(Nat.le_refl _), lv_sub hl [0] rfl, Y.pick [0, 1] (by decide) rfl⟩ (fun H locs ls hP => ?_) (fun i hlt H locs ls hP ih => ?_)
  · obtain ⟨hpi, hl, Y⟩ := hP
    have hsg := sgI_in hb L qe
    refine lv_aload_n B.1 B.2.1 dX6_skipSpaces_0 rfl (lv_at hl 0 rfl) ?_
    refine gf_X6_19 B Y 0 rfl rfl dX6_skipSpaces_1 ?_
    refine lv_aload_n B.1 B.2.1 dX6_skipSpaces_4 rfl (lv_at hl 0 rfl) ?_
    refine gf_X6_15 B Y 0 rfl rfl dX6_skipSpaces_5 ?_
    refine lv_icmp_ge (tgt := 33) B.1 B.2.1 dX6_skipSpaces_8 (by decide) (fun c1 => ?_) (fun c1 => ?_)
    · have c1 := (iI_le (a := ((L : Nat) : Int)) (b := ((qe : Nat) : Int)) (by omega) (by omega) (by omega) (by omega)).mp c1
      exact eV B hr hlk Y () trivial [0, 1] (by decide) rfl (Nat.le_of_ble_eq_true rfl) (Nat.le_of_ble_eq_true rfl) dX6_skipSpaces_33
    · have c1 := mt (iI_le (a := ((L : Nat) : Int)) (b := ((qe : Nat) : Int)) (by omega) (by omega) (by omega) (by omega)).mpr c1
      have hsq : sgI b L qe = b qe := sgI_at (by omega)
      have hen := hend (by omega)
      refine lv_aload_n B.1 B.2.1 dX6_skipSpaces_11 rfl (lv_at hl 0 rfl) ?_
      refine qI (Cs := [[(rd, .inr (8, [.ref ri, .int (iI (((L : Nat) : Int))), .int (iI (((qe : Nat) : Int))), .int (iI (io)), .int (iI (er)), .int (iI (ea)), .int (iI (cn)), .ref rk, .ref rn, .ref ro, .ref rt]))], [(ri, .inl (τ 1, 500, .inl (fun j => iI ((b) j))))]]) (Rs := []) Y [0, 1] [] (by decide) rfl (cV (As := []) (rest := []) (q0 := 0) B Y [0, 1] (by decide) rfl (k_sign l D τ _ rd ri rk rn ro rt L  (io) (er) (ea) (cn) b (by omega) hb qe (by omega)) rfl rfl q_782 q_784 qp_6 q_3 q_785 rfl rfl hd_X6_sign ⟨(Nat.le_of_ble_eq_true rfl), (Nat.le_of_ble_eq_true rfl)⟩ rfl hl.1 rfl (Nat.le_of_ble_eq_true rfl) dX6_skipSpaces_12 ⟨(Nat.le_of_ble_eq_true rfl), (Nat.le_of_ble_eq_true rfl)⟩) (fun r u H locs hw Y => ?_)
      subst hw
      have Y : Wd D τ s A s.heap (bl [[(rd, .inr (8, [.ref ri, .int (iI (((L : Nat) : Int))), .int (iI (((qe : Nat) : Int))), .int (iI (io)), .int (iI (er)), .int (iI (ea)), .int (iI (cn)), .ref rk, .ref rn, .ref ro, .ref rt]))], [(ri, .inl (τ 1, 500, .inl (fun j => iI ((b) j))))]]) _ _ := Y
      refine lv_bipush (v := (iI (32))) B.1 B.2.1 dX6_skipSpaces_15 (by decide) ?_
      refine lv_icmp_ne (tgt := 33) B.1 B.2.1 dX6_skipSpaces_17 (by decide) (fun _ => ?_) (fun h => absurd h (mt (iI_eq (a := sgI b L qe) (b := 32) (by omega) (by omega) (by omega) (by omega)).mp (by omega))) 
      exact eV B hr hlk Y () trivial [0, 1] (by decide) rfl (Nat.le_of_ble_eq_true rfl) (Nat.le_of_ble_eq_true rfl) dX6_skipSpaces_33
  · obtain ⟨hpi, hl, Y⟩ := hP
    have hsq : sgI b L i = b i := sgI_at (by omega)
    have hbi := hsp i hpi hlt
    refine lv_aload_n B.1 B.2.1 dX6_skipSpaces_0 rfl (lv_at hl 0 rfl) ?_
    refine gf_X6_19 B Y 0 rfl rfl dX6_skipSpaces_1 ?_
    refine lv_aload_n B.1 B.2.1 dX6_skipSpaces_4 rfl (lv_at hl 0 rfl) ?_
    refine gf_X6_15 B Y 0 rfl rfl dX6_skipSpaces_5 ?_
    refine lv_icmp_ge (tgt := 33) B.1 B.2.1 dX6_skipSpaces_8 (by decide) (fun h => absurd h (mt (iI_le (a := ((L : Nat) : Int)) (b := ((i : Nat) : Int)) (by omega) (by omega) (by omega) (by omega)).mp (by omega))) (fun _ => ?_)
    refine lv_aload_n B.1 B.2.1 dX6_skipSpaces_11 rfl (lv_at hl 0 rfl) ?_
    refine qI (Cs := [[(rd, .inr (8, [.ref ri, .int (iI (((L : Nat) : Int))), .int (iI (((i : Nat) : Int))), .int (iI (io)), .int (iI (er)), .int (iI (ea)), .int (iI (cn)), .ref rk, .ref rn, .ref ro, .ref rt]))], [(ri, .inl (τ 1, 500, .inl (fun j => iI ((b) j))))]]) (Rs := []) Y [0, 1] [] (by decide) rfl (cV (As := []) (rest := []) (q0 := 0) B Y [0, 1] (by decide) rfl (k_sign l D τ _ rd ri rk rn ro rt L  (io) (er) (ea) (cn) b (by omega) hb i (by omega)) rfl rfl q_782 q_784 qp_6 q_3 q_785 rfl rfl hd_X6_sign ⟨(Nat.le_of_ble_eq_true rfl), (Nat.le_of_ble_eq_true rfl)⟩ rfl hl.1 rfl (Nat.le_of_ble_eq_true rfl) dX6_skipSpaces_12 ⟨(Nat.le_of_ble_eq_true rfl), (Nat.le_of_ble_eq_true rfl)⟩) (fun r u H locs hw Y => ?_)
    subst hw
    have Y : Wd D τ s A s.heap (bl [[(rd, .inr (8, [.ref ri, .int (iI (((L : Nat) : Int))), .int (iI (((i : Nat) : Int))), .int (iI (io)), .int (iI (er)), .int (iI (ea)), .int (iI (cn)), .ref rk, .ref rn, .ref ro, .ref rt]))], [(ri, .inl (τ 1, 500, .inl (fun j => iI ((b) j))))]]) _ _ := Y
    refine lv_bipush (v := (iI (32))) B.1 B.2.1 dX6_skipSpaces_15 (by decide) ?_
    refine lv_icmp_ne (tgt := 33) B.1 B.2.1 dX6_skipSpaces_17 (by decide) (fun h => absurd ((iI_eq (a := sgI b L i) (b := 32) (by omega) (by omega) (by omega) (by omega)).mpr (by omega)) h) (fun _ => ?_)
    refine lv_aload_n B.1 B.2.1 dX6_skipSpaces_20 rfl (lv_at hl 0 rfl) ?_
    refine lv_dup B.1 B.2.1 dX6_skipSpaces_21 rfl ?_
    refine gf_X6_19 B Y 0 rfl rfl dX6_skipSpaces_22 ?_
    refine lv_iconst (v := (iI (1))) B.1 B.2.1 dX6_skipSpaces_25 (by decide) ?_
    refine lv_iadd B.1 B.2.1 dX6_skipSpaces_26 ?_
    refine lv_cv (v := (iI (((i : Nat) : Int) + 1))) (iI_add _ _) ?_
    refine pf_X6_19 (B' := [[(rd, .inr (8, [.ref ri, .int (iI (((L : Nat) : Int))), .int (iI (((i : Nat) : Int) + 1)), .int (iI (io)), .int (iI (er)), .int (iI (ea)), .int (iI (cn)), .ref rk, .ref rn, .ref ro, .ref rt]))], [(ri, .inl (τ 1, 500, .inl (fun j => iI ((b) j))))]]) B Y 0 rfl (Nat.le_of_ble_eq_true rfl) rfl dX6_skipSpaces_27 (fun H locs Y => ?_)
    refine lv_goto (tgt := 0) B.1 B.2.1 dX6_skipSpaces_30 (by decide) ?_
    exact ih H locs ls ⟨(by omega), lv_sub hl [0] rfl, Y.pick [0, 1] (by decide) rfl⟩

set_option maxHeartbeats 4000000 in
set_option maxRecDepth 100000 in
theorem k_skipWord (l : Launch) (D : va_G) (τ : Nat → ClassId) (sz : Nat) (rd ri rk rn ro rt L : Nat) (io er ea cn : Int) (b : Nat → Int) (hL : L ≤ 500) (hb : BOk b) (pt qe : Nat) (hpq : pt ≤ qe) (hqL : qe ≤ L) (hsp : ∀ j : Nat, pt ≤ j → j < qe → 97 ≤ b j ∧ b j ≤ 122) (hend : qe < L → b qe < 97 ∨ 122 < b qe) : Met l yX6_skipWord (Cond.code yX6_skipWord cX6_skipWord 1 none :: wALL) { frames := 2, cells := 0, slots := 0, locals := 40 } (Pw D τ (bl [[(rd, .inr (8, [.ref ri, .int (iI (((L : Nat) : Int))), .int (iI (((pt : Nat) : Int))), .int (iI (io)), .int (iI (er)), .int (iI (ea)), .int (iI (cn)), .ref rk, .ref rn, .ref ro, .ref rt]))], [(ri, .inl (τ 1, 500, .inl (fun j => iI ((b) j))))]]) sz [.ref rd]) (va_Qv (fun (_ : Unit) => True) (Bb D (va_A (bl [[(rd, .inr (8, [.ref ri, .int (iI (((L : Nat) : Int))), .int (iI (((pt : Nat) : Int))), .int (iI (io)), .int (iI (er)), .int (iI (ea)), .int (iI (cn)), .ref rk, .ref rn, .ref ro, .ref rt]))], [(ri, .inl (τ 1, 500, .inl (fun j => iI ((b) j))))]]) sz) (fun (_ : Unit) => [[(rd, .inr (8, [.ref ri, .int (iI (((L : Nat) : Int))), .int (iI (((qe : Nat) : Int))), .int (iI (io)), .int (iI (er)), .int (iI (ea)), .int (iI (cn)), .ref rk, .ref rn, .ref ro, .ref rt]))], [(ri, .inl (τ 1, 500, .inl (fun j => iI ((b) j))))]])) (va_A (bl [[(rd, .inr (8, [.ref ri, .int (iI (((L : Nat) : Int))), .int (iI (((pt : Nat) : Int))), .int (iI (io)), .int (iI (er)), .int (iI (ea)), .int (iI (cn)), .ref rk, .ref rn, .ref ro, .ref rt]))], [(ri, .inl (τ 1, 500, .inl (fun j => iI ((b) j))))]]) sz)) 0 0 (va_A (bl [[(rd, .inr (8, [.ref ri, .int (iI (((L : Nat) : Int))), .int (iI (((pt : Nat) : Int))), .int (iI (io)), .int (iI (er)), .int (iI (ea)), .int (iI (cn)), .ref rk, .ref rn, .ref ro, .ref rt]))], [(ri, .inl (τ 1, 500, .inl (fun j => iI ((b) j))))]]) sz) := by
  refine bodyW (by decide) (Nat.le_of_ble_eq_true rfl) (fun p e s m below meth c ls B hr hlk hin hsz Y hl => ?_)
  have hl : lv_has ls 1 [(0, .ref rd)] := hl
  have B : CallFix p m c cX6_skipWord 1 s _ wALL RX6 := B
  generalize va_A (bl [[(rd, .inr (8, [.ref ri, .int (iI (((L : Nat) : Int))), .int (iI (((pt : Nat) : Int))), .int (iI (io)), .int (iI (er)), .int (iI (ea)), .int (iI (cn)), .ref rk, .ref rn, .ref ro, .ref rt]))], [(ri, .inl (τ 1, 500, .inl (fun j => iI ((b) j))))]]) sz = A at Y ⊢
  refine loopW (n := qe) (P := fun (i : Nat) (H : Heap) (locs : List Loc) (ls : Array Slot) => (pt ≤ i) ∧ lv_has ls 1 [(0, .ref rd)] ∧ Wd D τ s A s.heap (bl [[(rd, .inr (8, [.ref ri, .int (iI (((L : Nat) : Int))), .int (iI (((i : Nat) : Int))), .int (iI (io)), .int (iI (er)), .int (iI (ea)), .int (iI (cn)), .ref rk, .ref rn, .ref ro, .ref rt]))], [(ri, .inl (τ 1, 500, .inl (fun j => iI ((b) j))))]]) H locs) pt hpq ⟨(Nat.le_refl _), lv_sub hl [0] rfl, Y.pick [0, 1] (by decide) rfl⟩ (fun H locs ls hP => ?_) (fun i hlt H locs ls hP ih => ?_)
  · obtain ⟨hpi, hl, Y⟩ := hP
    have hsg := sgI_in hb L qe
    refine lv_aload_n B.1 B.2.1 dX6_skipWord_0 rfl (lv_at hl 0 rfl) ?_
    refine gf_X6_19 B Y 0 rfl rfl dX6_skipWord_1 ?_
    refine lv_aload_n B.1 B.2.1 dX6_skipWord_4 rfl (lv_at hl 0 rfl) ?_
    refine gf_X6_15 B Y 0 rfl rfl dX6_skipWord_5 ?_
    refine lv_icmp_ge (tgt := 31) B.1 B.2.1 dX6_skipWord_8 (by decide) (fun c1 => ?_) (fun c1 => ?_)
    · have c1 := (iI_le (a := ((L : Nat) : Int)) (b := ((qe : Nat) : Int)) (by omega) (by omega) (by omega) (by omega)).mp c1
      exact eV B hr hlk Y () trivial [0, 1] (by decide) rfl (Nat.le_of_ble_eq_true rfl) (Nat.le_of_ble_eq_true rfl) dX6_skipWord_31
    · have c1 := mt (iI_le (a := ((L : Nat) : Int)) (b := ((qe : Nat) : Int)) (by omega) (by omega) (by omega) (by omega)).mpr c1
      have hsq : sgI b L qe = b qe := sgI_at (by omega)
      have hen := hend (by omega)
      refine lv_aload_n B.1 B.2.1 dX6_skipWord_11 rfl (lv_at hl 0 rfl) ?_
      refine qI (Cs := [[(rd, .inr (8, [.ref ri, .int (iI (((L : Nat) : Int))), .int (iI (((qe : Nat) : Int))), .int (iI (io)), .int (iI (er)), .int (iI (ea)), .int (iI (cn)), .ref rk, .ref rn, .ref ro, .ref rt]))], [(ri, .inl (τ 1, 500, .inl (fun j => iI ((b) j))))]]) (Rs := []) Y [0, 1] [] (by decide) rfl (cV (As := []) (rest := []) (q0 := 0) B Y [0, 1] (by decide) rfl (k_isLetter l D τ _ rd ri rk rn ro rt L (io) (er) (ea) (cn) b (by omega) hb qe (by omega)) rfl rfl q_798 q_800 qp_10 q_3 q_801 rfl rfl hd_X6_isLetter ⟨(Nat.le_of_ble_eq_true rfl), (Nat.le_of_ble_eq_true rfl)⟩ rfl hl.1 rfl (Nat.le_of_ble_eq_true rfl) dX6_skipWord_12 ⟨(Nat.le_of_ble_eq_true rfl), (Nat.le_of_ble_eq_true rfl)⟩) (fun r u H locs hw Y => ?_)
      subst hw
      have Y : Wd D τ s A s.heap (bl [[(rd, .inr (8, [.ref ri, .int (iI (((L : Nat) : Int))), .int (iI (((qe : Nat) : Int))), .int (iI (io)), .int (iI (er)), .int (iI (ea)), .int (iI (cn)), .ref rk, .ref rn, .ref ro, .ref rt]))], [(ri, .inl (τ 1, 500, .inl (fun j => iI ((b) j))))]]) _ _ := Y
      refine lv_if_eq (tgt := 31) B.1 B.2.1 dX6_skipWord_15 (by decide) (fun _ => ?_) (fun h => absurd (by rw [if_neg (show ¬ (97 ≤ sgI b L qe ∧ sgI b L qe ≤ 122) by omega)]; rfl) h) 
      exact eV B hr hlk Y () trivial [0, 1] (by decide) rfl (Nat.le_of_ble_eq_true rfl) (Nat.le_of_ble_eq_true rfl) dX6_skipWord_31
  · obtain ⟨hpi, hl, Y⟩ := hP
    have hsq : sgI b L i = b i := sgI_at (by omega)
    have hbi := hsp i hpi hlt
    refine lv_aload_n B.1 B.2.1 dX6_skipWord_0 rfl (lv_at hl 0 rfl) ?_
    refine gf_X6_19 B Y 0 rfl rfl dX6_skipWord_1 ?_
    refine lv_aload_n B.1 B.2.1 dX6_skipWord_4 rfl (lv_at hl 0 rfl) ?_
    refine gf_X6_15 B Y 0 rfl rfl dX6_skipWord_5 ?_
    refine lv_icmp_ge (tgt := 31) B.1 B.2.1 dX6_skipWord_8 (by decide) (fun h => absurd h (mt (iI_le (a := ((L : Nat) : Int)) (b := ((i : Nat) : Int)) (by omega) (by omega) (by omega) (by omega)).mp (by omega))) (fun _ => ?_)
    refine lv_aload_n B.1 B.2.1 dX6_skipWord_11 rfl (lv_at hl 0 rfl) ?_
    refine qI (Cs := [[(rd, .inr (8, [.ref ri, .int (iI (((L : Nat) : Int))), .int (iI (((i : Nat) : Int))), .int (iI (io)), .int (iI (er)), .int (iI (ea)), .int (iI (cn)), .ref rk, .ref rn, .ref ro, .ref rt]))], [(ri, .inl (τ 1, 500, .inl (fun j => iI ((b) j))))]]) (Rs := []) Y [0, 1] [] (by decide) rfl (cV (As := []) (rest := []) (q0 := 0) B Y [0, 1] (by decide) rfl (k_isLetter l D τ _ rd ri rk rn ro rt L (io) (er) (ea) (cn) b (by omega) hb i (by omega)) rfl rfl q_798 q_800 qp_10 q_3 q_801 rfl rfl hd_X6_isLetter ⟨(Nat.le_of_ble_eq_true rfl), (Nat.le_of_ble_eq_true rfl)⟩ rfl hl.1 rfl (Nat.le_of_ble_eq_true rfl) dX6_skipWord_12 ⟨(Nat.le_of_ble_eq_true rfl), (Nat.le_of_ble_eq_true rfl)⟩) (fun r u H locs hw Y => ?_)
    subst hw
    have Y : Wd D τ s A s.heap (bl [[(rd, .inr (8, [.ref ri, .int (iI (((L : Nat) : Int))), .int (iI (((i : Nat) : Int))), .int (iI (io)), .int (iI (er)), .int (iI (ea)), .int (iI (cn)), .ref rk, .ref rn, .ref ro, .ref rt]))], [(ri, .inl (τ 1, 500, .inl (fun j => iI ((b) j))))]]) _ _ := Y
    refine lv_if_eq (tgt := 31) B.1 B.2.1 dX6_skipWord_15 (by decide) (fun h => absurd h (by rw [if_pos (show 97 ≤ sgI b L i ∧ sgI b L i ≤ 122 by omega)]; decide)) (fun _ => ?_)
    refine lv_aload_n B.1 B.2.1 dX6_skipWord_18 rfl (lv_at hl 0 rfl) ?_
    refine lv_dup B.1 B.2.1 dX6_skipWord_19 rfl ?_
    refine gf_X6_19 B Y 0 rfl rfl dX6_skipWord_20 ?_
    refine lv_iconst (v := (iI (1))) B.1 B.2.1 dX6_skipWord_23 (by decide) ?_
    refine lv_iadd B.1 B.2.1 dX6_skipWord_24 ?_
    refine lv_cv (v := (iI (((i : Nat) : Int) + 1))) (iI_add _ _) ?_
    refine pf_X6_19 (B' := [[(rd, .inr (8, [.ref ri, .int (iI (((L : Nat) : Int))), .int (iI (((i : Nat) : Int) + 1)), .int (iI (io)), .int (iI (er)), .int (iI (ea)), .int (iI (cn)), .ref rk, .ref rn, .ref ro, .ref rt]))], [(ri, .inl (τ 1, 500, .inl (fun j => iI ((b) j))))]]) B Y 0 rfl (Nat.le_of_ble_eq_true rfl) rfl dX6_skipWord_25 (fun H locs Y => ?_)
    refine lv_goto (tgt := 0) B.1 B.2.1 dX6_skipWord_28 (by decide) ?_
    exact ih H locs ls ⟨(by omega), lv_sub hl [0] rfl, Y.pick [0, 1] (by decide) rfl⟩

