theorem iI_shr {a : Int} (h0 : 0 ≤ a) (h1 : a < 2147483648) (s : Int32) (k : Nat) (hs : (s.toBitVec.smod 32).toNat = k) : iI a >>> s = iI (a / ((2 ^ k : Nat) : Int)) := by
  obtain ⟨n, rfl⟩ := Int.eq_ofNat_of_zero_le h0
  rw [iI_nI, pk_shrN (by omega) s k hs, ← iI_nI]
  congr 1
theorem i2b_lo {m c : Int} (h0 : 0 ≤ m) (h1 : m < 2147483648) (h2 : m % 256 = c) (h3 : c ≤ 127) : (iI m).toInt8.toInt32 = iI c := by
  apply Int32.toInt_inj.mp
  rw [Int8.toInt_toInt32, Int32.toInt_toInt8, iI_toInt (by omega) h1, iI_toInt (by omega) (by omega)]
  show Int.bmod m 256 = c
  have h2' : m % ((256 : Nat) : Int) = c := h2
  rw [Int.bmod_def, h2']
  split <;> omega
theorem nar_lo {c : Int} (h0 : 0 ≤ c) (h3 : c ≤ 127) : vp_nar .byte (iI c) = iI c := by
  rw [vp_nar_byte]
  exact i2b_lo h0 (by omega) (by omega) h3
def putB (b : Nat → Int) (L : Nat) (c : Nat → Int) (n : Nat) : Nat → Int := fun j => if L ≤ j ∧ j < L + n then c (j - L) else b j
def wrdI (c : Nat → Int) (k : Nat) : Int := ((c k * 256 + c (k + 1)) * 256 + c (k + 2)) * 256 + c (k + 3)
theorem wrdI_in {c : Nat → Int} (h : BOk c) (k : Nat) : 0 ≤ wrdI c k ∧ wrdI c k < 2147483648 := by
  have h0 := h k; have h1 := h (k + 1); have h2 := h (k + 2); have h3 := h (k + 3)
  unfold wrdI
  omega
theorem wrdI_0 {c : Nat → Int} (h : BOk c) (k : Nat) : wrdI c k / 16777216 % 256 = c k ∧ wrdI c k / 65536 % 256 = c (k + 1) ∧ wrdI c k / 256 % 256 = c (k + 2) ∧ wrdI c k % 256 = c (k + 3) := by
  have h0 := h k; have h1 := h (k + 1); have h2 := h (k + 2); have h3 := h (k + 3)
  unfold wrdI
  refine ⟨?_, ?_, ?_, ?_⟩ <;> omega
theorem putB_ok {b c : Nat → Int} (h : BOk b) (hc : BOk c) (L n : Nat) : BOk (putB b L c n) := fun j => by
  unfold putB
  split
  · exact hc _
  · exact h j
theorem putB_4 (b c : Nat → Int) (L k : Nat) : upz (upz (upz (upz b L (c k)) (L + 1) (c (k + 1))) (L + 2) (c (k + 2))) (L + 3) (c (k + 3)) = putB b L (fun i => c (k + i)) 4 := by
  funext j
  unfold putB upz
  by_cases e3 : j = L + 3
  · subst e3; rw [if_pos rfl, if_pos (by omega)]; show c (k + 3) = c (k + (L + 3 - L)); rw [show L + 3 - L = 3 by omega]
  · rw [if_neg e3]
    by_cases e2 : j = L + 2
    · subst e2; rw [if_pos rfl, if_pos (by omega)]; show c (k + 2) = c (k + (L + 2 - L)); rw [show L + 2 - L = 2 by omega]
    · rw [if_neg e2]
      by_cases e1 : j = L + 1
      · subst e1; rw [if_pos rfl, if_pos (by omega)]; show c (k + 1) = c (k + (L + 1 - L)); rw [show L + 1 - L = 1 by omega]
      · rw [if_neg e1]
        by_cases e0 : j = L
        · subst e0; rw [if_pos rfl, if_pos (by omega)]; show c k = c (k + (j - j)); rw [Nat.sub_self]; rfl
        · rw [if_neg e0, if_neg (by omega)]
theorem putB_app (b c : Nat → Int) (L n m : Nat) : putB (putB b L c n) (L + n) (fun i => c (n + i)) m = putB b L c (n + m) := by
  funext j
  unfold putB
  by_cases e : L + n ≤ j ∧ j < L + n + m
  · rw [if_pos e, if_pos (by omega)]; show c (n + (j - (L + n))) = c (j - L); rw [show n + (j - (L + n)) = j - L by omega]
  · rw [if_neg e]
    by_cases e2 : L ≤ j ∧ j < L + n
    · rw [if_pos e2, if_pos (by omega)]
    · rw [if_neg e2, if_neg (by omega)]
set_option maxHeartbeats 4000000 in
set_option maxRecDepth 100000 in
theorem k_takeNumber (l : Launch) (D : va_G) (τ : Nat → ClassId) (sz : Nat) (rd ri rk rn ro rt L : Nat) (pl io er ea cn : Int) (ch : Nat → Int) (k : Nat) (hch : BOk ch) (hL : L + 4 ≤ 500) (b : Nat → Int) (hb : BOk b) : Met l yX6_takeNumber (Cond.code yX6_takeNumber cX6_takeNumber 3 none :: wALL) { frames := 0, cells := 0, slots := 0, locals := 0 } (Pw D τ (bl [[(rd, .inr (8, [.ref ri, .int (iI (((L : Nat) : Int))), .int (iI (pl)), .int (iI (io)), .int (iI (er)), .int (iI (ea)), .int (iI (cn)), .ref rk, .ref rn, .ref ro, .ref rt]))], [(ri, .inl (τ 1, 500, .inl (fun j => iI ((b) j))))]]) sz [.ref rd, .int (iI (wrdI ch k))]) (va_Qv (fun (_ : Unit) => True) (Bb D (va_A (bl [[(rd, .inr (8, [.ref ri, .int (iI (((L : Nat) : Int))), .int (iI (pl)), .int (iI (io)), .int (iI (er)), .int (iI (ea)), .int (iI (cn)), .ref rk, .ref rn, .ref ro, .ref rt]))], [(ri, .inl (τ 1, 500, .inl (fun j => iI ((b) j))))]]) sz) (fun (_ : Unit) => [[(rd, .inr (8, [.ref ri, .int (iI ((((L + 4) : Nat) : Int))), .int (iI (pl)), .int (iI (io)), .int (iI (er)), .int (iI (ea)), .int (iI (cn)), .ref rk, .ref rn, .ref ro, .ref rt]))], [(ri, .inl (τ 1, 500, .inl (fun j => iI (((putB b L (fun i => ch (k + i)) 4)) j))))]])) (va_A (bl [[(rd, .inr (8, [.ref ri, .int (iI (((L : Nat) : Int))), .int (iI (pl)), .int (iI (io)), .int (iI (er)), .int (iI (ea)), .int (iI (cn)), .ref rk, .ref rn, .ref ro, .ref rt]))], [(ri, .inl (τ 1, 500, .inl (fun j => iI ((b) j))))]]) sz)) 0 0 (va_A (bl [[(rd, .inr (8, [.ref ri, .int (iI (((L : Nat) : Int))), .int (iI (pl)), .int (iI (io)), .int (iI (er)), .int (iI (ea)), .int (iI (cn)), .ref rk, .ref rn, .ref ro, .ref rt]))], [(ri, .inl (τ 1, 500, .inl (fun j => iI ((b) j))))]]) sz) := by
  refine bodyW (by decide) (Nat.le_of_ble_eq_true rfl) (fun p e s m below meth c ls B hr hlk hin hsz Y hl => ?_)
  have hl : lv_has ls 3 [(0, .ref rd), (1, .int (iI (wrdI ch k)))] := hl
  have B : CallFix p m c cX6_takeNumber 3 s _ wALL RX6 := B
  generalize va_A (bl [[(rd, .inr (8, [.ref ri, .int (iI (((L : Nat) : Int))), .int (iI (pl)), .int (iI (io)), .int (iI (er)), .int (iI (ea)), .int (iI (cn)), .ref rk, .ref rn, .ref ro, .ref rt]))], [(ri, .inl (τ 1, 500, .inl (fun j => iI ((b) j))))]]) sz = A at Y ⊢
  have hw1 := wrdI_in hch k
  obtain ⟨hw30, hw31, hw32, hw33⟩ := wrdI_0 hch k
  have hc0 := hch k
  have hc1 := hch (k + 1)
  have hc2 := hch (k + 2)
  have hc3 := hch (k + 3)
  refine lv_bipush (v := (iI (24))) B.1 B.2.1 dX6_takeNumber_0 (by decide) ?_
  refine lv_istore_n (lv' := [(2, .int (iI (24))), (0, .ref rd), (1, .int (iI (wrdI ch k)))]) B.1 B.2.1 dX6_takeNumber_2 rfl hl (by decide) rfl (fun ls hl => ?_)
  refine lv_iload_n B.1 B.2.1 dX6_takeNumber_3 rfl (lv_at hl 0 rfl) ?_
  refine lv_if_lt (tgt := 53) B.1 B.2.1 dX6_takeNumber_4 (by decide) (fun h => absurd h (by decide)) (fun _ => ?_)
  refine lv_aload_n B.1 B.2.1 dX6_takeNumber_7 rfl (lv_at hl 1 rfl) ?_
  refine gf_X6_15 B Y 0 rfl rfl dX6_takeNumber_8 ?_
  refine lv_if_lt (tgt := 47) B.1 B.2.1 dX6_takeNumber_11 (by decide) (fun h => absurd h (mt (iI_lt0 (a := ((L : Nat) : Int)) (by omega) (by omega)).mp (by omega))) (fun _ => ?_)
  refine lv_aload_n B.1 B.2.1 dX6_takeNumber_14 rfl (lv_at hl 1 rfl) ?_
  refine gf_X6_15 B Y 0 rfl rfl dX6_takeNumber_15 ?_
  refine lv_sipush (v := (iI (500))) B.1 B.2.1 dX6_takeNumber_18 (by decide) ?_
  refine lv_icmp_ge (tgt := 47) B.1 B.2.1 dX6_takeNumber_21 (by decide) (fun h => absurd h (mt (iI_le (a := 500) (b := ((L : Nat) : Int)) (by omega) (by omega) (by omega) (by omega)).mp (by omega))) (fun _ => ?_)
  refine lv_aload_n B.1 B.2.1 dX6_takeNumber_24 rfl (lv_at hl 1 rfl) ?_
  refine gf_X6_11 B Y 0 rfl rfl dX6_takeNumber_25 ?_
  refine lv_aload_n B.1 B.2.1 dX6_takeNumber_28 rfl (lv_at hl 1 rfl) ?_
  refine gf_X6_15 B Y 0 rfl rfl dX6_takeNumber_29 ?_
  refine lv_iload_n B.1 B.2.1 dX6_takeNumber_32 rfl (lv_at hl 2 rfl) ?_
  refine lv_iload_n B.1 B.2.1 dX6_takeNumber_33 rfl (lv_at hl 0 rfl) ?_
  refine lv_ishr B.1 B.2.1 dX6_takeNumber_34 ?_
  refine lv_cv (v := (iI (wrdI ch k / 16777216))) (iI_shr hw1.1 hw1.2 _ 24 (by decide)) ?_
  refine lv_i2b (v := (iI (ch k))) B.1 B.2.1 dX6_takeNumber_35 (i2b_lo (by omega) (by omega) (by omega) (by omega)) ?_
  refine b_bast (j := L) (g := fun j => iI ((upz (b) L (ch k)) j)) (B' := [[(rd, .inr (8, [.ref ri, .int (iI (((L : Nat) : Int))), .int (iI (pl)), .int (iI (io)), .int (iI (er)), .int (iI (ea)), .int (iI (cn)), .ref rk, .ref rn, .ref ro, .ref rt]))], [(ri, .inl (τ 1, 500, .inl (fun j => iI ((upz (b) L (ch k)) j))))]]) B Y 1 rfl (iI_pos (by omega)) (iI_clamp (by omega)) (by omega) (by rw [nar_lo (by omega) (by omega)]; exact upz_ok) rfl dX6_takeNumber_36 (fun H locs Y => ?_)
  refine lv_aload_n B.1 B.2.1 dX6_takeNumber_37 rfl (lv_at hl 1 rfl) ?_
  refine lv_dup B.1 B.2.1 dX6_takeNumber_38 rfl ?_
  refine gf_X6_15 B Y 0 rfl rfl dX6_takeNumber_39 ?_
  refine lv_iconst (v := (iI (1))) B.1 B.2.1 dX6_takeNumber_42 (by decide) ?_
  refine lv_iadd B.1 B.2.1 dX6_takeNumber_43 ?_
  refine lv_cv (v := (iI (((L + 1) : Nat) : Int))) (iI_inc _) ?_
  refine pf_X6_15 (B' := [[(rd, .inr (8, [.ref ri, .int (iI (((L + 1) : Nat) : Int)), .int (iI (pl)), .int (iI (io)), .int (iI (er)), .int (iI (ea)), .int (iI (cn)), .ref rk, .ref rn, .ref ro, .ref rt]))], [(ri, .inl (τ 1, 500, .inl (fun j => iI ((upz (b) L (ch k)) j))))]]) B Y 0 rfl (Nat.le_of_ble_eq_true rfl) rfl dX6_takeNumber_44 (fun H locs Y => ?_)
  refine lv_iinc (v := (iI (16))) (lv' := [(2, .int (iI (16))), (0, .ref rd), (1, .int (iI (wrdI ch k)))]) B.1 B.2.1 dX6_takeNumber_47 hl (k := 0) rfl (by decide) (by decide) rfl (fun ls hl => ?_)
  refine lv_goto (tgt := 3) B.1 B.2.1 dX6_takeNumber_50 (by decide) ?_
  refine lv_iload_n B.1 B.2.1 dX6_takeNumber_3 rfl (lv_at hl 0 rfl) ?_
  refine lv_if_lt (tgt := 53) B.1 B.2.1 dX6_takeNumber_4 (by decide) (fun h => absurd h (by decide)) (fun _ => ?_)
  refine lv_aload_n B.1 B.2.1 dX6_takeNumber_7 rfl (lv_at hl 1 rfl) ?_
  refine gf_X6_15 B Y 0 rfl rfl dX6_takeNumber_8 ?_
  refine lv_if_lt (tgt := 47) B.1 B.2.1 dX6_takeNumber_11 (by decide) (fun h => absurd h (mt (iI_lt0 (a := (((L + 1) : Nat) : Int)) (by omega) (by omega)).mp (by omega))) (fun _ => ?_)
  refine lv_aload_n B.1 B.2.1 dX6_takeNumber_14 rfl (lv_at hl 1 rfl) ?_
  refine gf_X6_15 B Y 0 rfl rfl dX6_takeNumber_15 ?_
  refine lv_sipush (v := (iI (500))) B.1 B.2.1 dX6_takeNumber_18 (by decide) ?_
  refine lv_icmp_ge (tgt := 47) B.1 B.2.1 dX6_takeNumber_21 (by decide) (fun h => absurd h (mt (iI_le (a := 500) (b := (((L + 1) : Nat) : Int)) (by omega) (by omega) (by omega) (by omega)).mp (by omega))) (fun _ => ?_)
  refine lv_aload_n B.1 B.2.1 dX6_takeNumber_24 rfl (lv_at hl 1 rfl) ?_
  refine gf_X6_11 B Y 0 rfl rfl dX6_takeNumber_25 ?_
  refine lv_aload_n B.1 B.2.1 dX6_takeNumber_28 rfl (lv_at hl 1 rfl) ?_
  refine gf_X6_15 B Y 0 rfl rfl dX6_takeNumber_29 ?_
  refine lv_iload_n B.1 B.2.1 dX6_takeNumber_32 rfl (lv_at hl 2 rfl) ?_
  refine lv_iload_n B.1 B.2.1 dX6_takeNumber_33 rfl (lv_at hl 0 rfl) ?_
  refine lv_ishr B.1 B.2.1 dX6_takeNumber_34 ?_
  refine lv_cv (v := (iI (wrdI ch k / 65536))) (iI_shr hw1.1 hw1.2 _ 16 (by decide)) ?_
  refine lv_i2b (v := (iI (ch (k + 1)))) B.1 B.2.1 dX6_takeNumber_35 (i2b_lo (by omega) (by omega) (by omega) (by omega)) ?_
  refine b_bast (j := (L + 1)) (g := fun j => iI ((upz (upz (b) L (ch k)) (L + 1) (ch (k + 1))) j)) (B' := [[(rd, .inr (8, [.ref ri, .int (iI (((L + 1) : Nat) : Int)), .int (iI (pl)), .int (iI (io)), .int (iI (er)), .int (iI (ea)), .int (iI (cn)), .ref rk, .ref rn, .ref ro, .ref rt]))], [(ri, .inl (τ 1, 500, .inl (fun j => iI ((upz (upz (b) L (ch k)) (L + 1) (ch (k + 1))) j))))]]) B Y 1 rfl (iI_pos (by omega)) (iI_clamp (by omega)) (by omega) (by rw [nar_lo (by omega) (by omega)]; exact upz_ok) rfl dX6_takeNumber_36 (fun H locs Y => ?_)
  refine lv_aload_n B.1 B.2.1 dX6_takeNumber_37 rfl (lv_at hl 1 rfl) ?_
  refine lv_dup B.1 B.2.1 dX6_takeNumber_38 rfl ?_
  refine gf_X6_15 B Y 0 rfl rfl dX6_takeNumber_39 ?_
  refine lv_iconst (v := (iI (1))) B.1 B.2.1 dX6_takeNumber_42 (by decide) ?_
  refine lv_iadd B.1 B.2.1 dX6_takeNumber_43 ?_
  refine lv_cv (v := (iI (((L + 2) : Nat) : Int))) (iI_inc _) ?_
  refine pf_X6_15 (B' := [[(rd, .inr (8, [.ref ri, .int (iI (((L + 2) : Nat) : Int)), .int (iI (pl)), .int (iI (io)), .int (iI (er)), .int (iI (ea)), .int (iI (cn)), .ref rk, .ref rn, .ref ro, .ref rt]))], [(ri, .inl (τ 1, 500, .inl (fun j => iI ((upz (upz (b) L (ch k)) (L + 1) (ch (k + 1))) j))))]]) B Y 0 rfl (Nat.le_of_ble_eq_true rfl) rfl dX6_takeNumber_44 (fun H locs Y => ?_)
  refine lv_iinc (v := (iI (8))) (lv' := [(2, .int (iI (8))), (0, .ref rd), (1, .int (iI (wrdI ch k)))]) B.1 B.2.1 dX6_takeNumber_47 hl (k := 0) rfl (by decide) (by decide) rfl (fun ls hl => ?_)
  refine lv_goto (tgt := 3) B.1 B.2.1 dX6_takeNumber_50 (by decide) ?_
  refine lv_iload_n B.1 B.2.1 dX6_takeNumber_3 rfl (lv_at hl 0 rfl) ?_
  refine lv_if_lt (tgt := 53) B.1 B.2.1 dX6_takeNumber_4 (by decide) (fun h => absurd h (by decide)) (fun _ => ?_)
  refine lv_aload_n B.1 B.2.1 dX6_takeNumber_7 rfl (lv_at hl 1 rfl) ?_
  refine gf_X6_15 B Y 0 rfl rfl dX6_takeNumber_8 ?_
  refine lv_if_lt (tgt := 47) B.1 B.2.1 dX6_takeNumber_11 (by decide) (fun h => absurd h (mt (iI_lt0 (a := (((L + 2) : Nat) : Int)) (by omega) (by omega)).mp (by omega))) (fun _ => ?_)
  refine lv_aload_n B.1 B.2.1 dX6_takeNumber_14 rfl (lv_at hl 1 rfl) ?_
  refine gf_X6_15 B Y 0 rfl rfl dX6_takeNumber_15 ?_
  refine lv_sipush (v := (iI (500))) B.1 B.2.1 dX6_takeNumber_18 (by decide) ?_
  refine lv_icmp_ge (tgt := 47) B.1 B.2.1 dX6_takeNumber_21 (by decide) (fun h => absurd h (mt (iI_le (a := 500) (b := (((L + 2) : Nat) : Int)) (by omega) (by omega) (by omega) (by omega)).mp (by omega))) (fun _ => ?_)
  refine lv_aload_n B.1 B.2.1 dX6_takeNumber_24 rfl (lv_at hl 1 rfl) ?_
  refine gf_X6_11 B Y 0 rfl rfl dX6_takeNumber_25 ?_
  refine lv_aload_n B.1 B.2.1 dX6_takeNumber_28 rfl (lv_at hl 1 rfl) ?_
  refine gf_X6_15 B Y 0 rfl rfl dX6_takeNumber_29 ?_
  refine lv_iload_n B.1 B.2.1 dX6_takeNumber_32 rfl (lv_at hl 2 rfl) ?_
  refine lv_iload_n B.1 B.2.1 dX6_takeNumber_33 rfl (lv_at hl 0 rfl) ?_
  refine lv_ishr B.1 B.2.1 dX6_takeNumber_34 ?_
  refine lv_cv (v := (iI (wrdI ch k / 256))) (iI_shr hw1.1 hw1.2 _ 8 (by decide)) ?_
  refine lv_i2b (v := (iI (ch (k + 2)))) B.1 B.2.1 dX6_takeNumber_35 (i2b_lo (by omega) (by omega) (by omega) (by omega)) ?_
  refine b_bast (j := (L + 2)) (g := fun j => iI ((upz (upz (upz (b) L (ch k)) (L + 1) (ch (k + 1))) (L + 2) (ch (k + 2))) j)) (B' := [[(rd, .inr (8, [.ref ri, .int (iI (((L + 2) : Nat) : Int)), .int (iI (pl)), .int (iI (io)), .int (iI (er)), .int (iI (ea)), .int (iI (cn)), .ref rk, .ref rn, .ref ro, .ref rt]))], [(ri, .inl (τ 1, 500, .inl (fun j => iI ((upz (upz (upz (b) L (ch k)) (L + 1) (ch (k + 1))) (L + 2) (ch (k + 2))) j))))]]) B Y 1 rfl (iI_pos (by omega)) (iI_clamp (by omega)) (by omega) (by rw [nar_lo (by omega) (by omega)]; exact upz_ok) rfl dX6_takeNumber_36 (fun H locs Y => ?_)
  refine lv_aload_n B.1 B.2.1 dX6_takeNumber_37 rfl (lv_at hl 1 rfl) ?_
  refine lv_dup B.1 B.2.1 dX6_takeNumber_38 rfl ?_
  refine gf_X6_15 B Y 0 rfl rfl dX6_takeNumber_39 ?_
  refine lv_iconst (v := (iI (1))) B.1 B.2.1 dX6_takeNumber_42 (by decide) ?_
  refine lv_iadd B.1 B.2.1 dX6_takeNumber_43 ?_
  refine lv_cv (v := (iI (((L + 3) : Nat) : Int))) (iI_inc _) ?_
  refine pf_X6_15 (B' := [[(rd, .inr (8, [.ref ri, .int (iI (((L + 3) : Nat) : Int)), .int (iI (pl)), .int (iI (io)), .int (iI (er)), .int (iI (ea)), .int (iI (cn)), .ref rk, .ref rn, .ref ro, .ref rt]))], [(ri, .inl (τ 1, 500, .inl (fun j => iI ((upz (upz (upz (b) L (ch k)) (L + 1) (ch (k + 1))) (L + 2) (ch (k + 2))) j))))]]) B Y 0 rfl (Nat.le_of_ble_eq_true rfl) rfl dX6_takeNumber_44 (fun H locs Y => ?_)
  refine lv_iinc (v := (iI (0))) (lv' := [(2, .int (iI (0))), (0, .ref rd), (1, .int (iI (wrdI ch k)))]) B.1 B.2.1 dX6_takeNumber_47 hl (k := 0) rfl (by decide) (by decide) rfl (fun ls hl => ?_)
  refine lv_goto (tgt := 3) B.1 B.2.1 dX6_takeNumber_50 (by decide) ?_
  refine lv_iload_n B.1 B.2.1 dX6_takeNumber_3 rfl (lv_at hl 0 rfl) ?_
  refine lv_if_lt (tgt := 53) B.1 B.2.1 dX6_takeNumber_4 (by decide) (fun h => absurd h (by decide)) (fun _ => ?_)
  refine lv_aload_n B.1 B.2.1 dX6_takeNumber_7 rfl (lv_at hl 1 rfl) ?_
  refine gf_X6_15 B Y 0 rfl rfl dX6_takeNumber_8 ?_
  refine lv_if_lt (tgt := 47) B.1 B.2.1 dX6_takeNumber_11 (by decide) (fun h => absurd h (mt (iI_lt0 (a := (((L + 3) : Nat) : Int)) (by omega) (by omega)).mp (by omega))) (fun _ => ?_)
  refine lv_aload_n B.1 B.2.1 dX6_takeNumber_14 rfl (lv_at hl 1 rfl) ?_
  refine gf_X6_15 B Y 0 rfl rfl dX6_takeNumber_15 ?_
  refine lv_sipush (v := (iI (500))) B.1 B.2.1 dX6_takeNumber_18 (by decide) ?_
  refine lv_icmp_ge (tgt := 47) B.1 B.2.1 dX6_takeNumber_21 (by decide) (fun h => absurd h (mt (iI_le (a := 500) (b := (((L + 3) : Nat) : Int)) (by omega) (by omega) (by omega) (by omega)).mp (by omega))) (fun _ => ?_)
  refine lv_aload_n B.1 B.2.1 dX6_takeNumber_24 rfl (lv_at hl 1 rfl) ?_
  refine gf_X6_11 B Y 0 rfl rfl dX6_takeNumber_25 ?_
  refine lv_aload_n B.1 B.2.1 dX6_takeNumber_28 rfl (lv_at hl 1 rfl) ?_
  refine gf_X6_15 B Y 0 rfl rfl dX6_takeNumber_29 ?_
  refine lv_iload_n B.1 B.2.1 dX6_takeNumber_32 rfl (lv_at hl 2 rfl) ?_
  refine lv_iload_n B.1 B.2.1 dX6_takeNumber_33 rfl (lv_at hl 0 rfl) ?_
  refine lv_ishr B.1 B.2.1 dX6_takeNumber_34 ?_
  refine lv_cv (v := (iI (wrdI ch k))) ((iI_shr hw1.1 hw1.2 _ 0 (by decide)).trans (congrArg iI (Int.ediv_one _))) ?_
  refine lv_i2b (v := (iI (ch (k + 3)))) B.1 B.2.1 dX6_takeNumber_35 (i2b_lo (by omega) (by omega) (by omega) (by omega)) ?_
  refine b_bast (j := (L + 3)) (g := fun j => iI ((upz (upz (upz (upz (b) L (ch k)) (L + 1) (ch (k + 1))) (L + 2) (ch (k + 2))) (L + 3) (ch (k + 3))) j)) (B' := [[(rd, .inr (8, [.ref ri, .int (iI (((L + 3) : Nat) : Int)), .int (iI (pl)), .int (iI (io)), .int (iI (er)), .int (iI (ea)), .int (iI (cn)), .ref rk, .ref rn, .ref ro, .ref rt]))], [(ri, .inl (τ 1, 500, .inl (fun j => iI ((upz (upz (upz (upz (b) L (ch k)) (L + 1) (ch (k + 1))) (L + 2) (ch (k + 2))) (L + 3) (ch (k + 3))) j))))]]) B Y 1 rfl (iI_pos (by omega)) (iI_clamp (by omega)) (by omega) (by rw [nar_lo (by omega) (by omega)]; exact upz_ok) rfl dX6_takeNumber_36 (fun H locs Y => ?_)
  refine lv_aload_n B.1 B.2.1 dX6_takeNumber_37 rfl (lv_at hl 1 rfl) ?_
  refine lv_dup B.1 B.2.1 dX6_takeNumber_38 rfl ?_
  refine gf_X6_15 B Y 0 rfl rfl dX6_takeNumber_39 ?_
  refine lv_iconst (v := (iI (1))) B.1 B.2.1 dX6_takeNumber_42 (by decide) ?_
  refine lv_iadd B.1 B.2.1 dX6_takeNumber_43 ?_
  refine lv_cv (v := (iI (((L + 4) : Nat) : Int))) (iI_inc _) ?_
  refine pf_X6_15 (B' := [[(rd, .inr (8, [.ref ri, .int (iI (((L + 4) : Nat) : Int)), .int (iI (pl)), .int (iI (io)), .int (iI (er)), .int (iI (ea)), .int (iI (cn)), .ref rk, .ref rn, .ref ro, .ref rt]))], [(ri, .inl (τ 1, 500, .inl (fun j => iI ((upz (upz (upz (upz (b) L (ch k)) (L + 1) (ch (k + 1))) (L + 2) (ch (k + 2))) (L + 3) (ch (k + 3))) j))))]]) B Y 0 rfl (Nat.le_of_ble_eq_true rfl) rfl dX6_takeNumber_44 (fun H locs Y => ?_)
  refine lv_iinc (v := (iI (-8))) (lv' := [(2, .int (iI (-8))), (0, .ref rd), (1, .int (iI (wrdI ch k)))]) B.1 B.2.1 dX6_takeNumber_47 hl (k := 0) rfl (by decide) (by decide) rfl (fun ls hl => ?_)
  refine lv_goto (tgt := 3) B.1 B.2.1 dX6_takeNumber_50 (by decide) ?_
  refine lv_iload_n B.1 B.2.1 dX6_takeNumber_3 rfl (lv_at hl 0 rfl) ?_
  refine lv_if_lt (tgt := 53) B.1 B.2.1 dX6_takeNumber_4 (by decide) (fun _ => ?_) (fun h => absurd (by decide) h) 
  rw [putB_4] at Y
  exact eV B hr hlk Y () trivial [0, 1] (by decide) rfl (Nat.le_of_ble_eq_true rfl) (Nat.le_of_ble_eq_true rfl) dX6_takeNumber_53

set_option maxHeartbeats 4000000 in
set_option maxRecDepth 100000 in
theorem k_hasRoom (l : Launch) (D : va_G) (τ : Nat → ClassId) (sz : Nat) (rd ri rk rn ro rt L : Nat) (pl io er ea cn : Int) (hL : L + 20 ≤ 500) : Met l yX6_hasRoomForFive (Cond.code yX6_hasRoomForFive cX6_hasRoomForFive 1 (some .boolean) :: wALL) { frames := 0, cells := 0, slots := 0, locals := 0 } (Pw D τ (bl [[(rd, .inr (8, [.ref ri, .int (iI (((L : Nat) : Int))), .int (iI (pl)), .int (iI (io)), .int (iI (er)), .int (iI (ea)), .int (iI (cn)), .ref rk, .ref rn, .ref ro, .ref rt]))]]) sz [.ref rd]) (va_Qi (fun (r : Int32) (_ : Unit) => r = 1) (Bb D (va_A (bl [[(rd, .inr (8, [.ref ri, .int (iI (((L : Nat) : Int))), .int (iI (pl)), .int (iI (io)), .int (iI (er)), .int (iI (ea)), .int (iI (cn)), .ref rk, .ref rn, .ref ro, .ref rt]))]]) sz) (fun (_ : Unit) => [[(rd, .inr (8, [.ref ri, .int (iI (((L : Nat) : Int))), .int (iI (pl)), .int (iI (io)), .int (iI (er)), .int (iI (ea)), .int (iI (cn)), .ref rk, .ref rn, .ref ro, .ref rt]))]])) (va_A (bl [[(rd, .inr (8, [.ref ri, .int (iI (((L : Nat) : Int))), .int (iI (pl)), .int (iI (io)), .int (iI (er)), .int (iI (ea)), .int (iI (cn)), .ref rk, .ref rn, .ref ro, .ref rt]))]]) sz)) 0 0 (va_A (bl [[(rd, .inr (8, [.ref ri, .int (iI (((L : Nat) : Int))), .int (iI (pl)), .int (iI (io)), .int (iI (er)), .int (iI (ea)), .int (iI (cn)), .ref rk, .ref rn, .ref ro, .ref rt]))]]) sz) := by
  refine bodyW (by decide) (Nat.le_of_ble_eq_true rfl) (fun p e s m below meth c ls B hr hlk hin hsz Y hl => ?_)
  have hl : lv_has ls 1 [(0, .ref rd)] := hl
  have B : CallFix p m c cX6_hasRoomForFive 1 s _ wALL RX6 := B
  generalize va_A (bl [[(rd, .inr (8, [.ref ri, .int (iI (((L : Nat) : Int))), .int (iI (pl)), .int (iI (io)), .int (iI (er)), .int (iI (ea)), .int (iI (cn)), .ref rk, .ref rn, .ref ro, .ref rt]))]]) sz = A at Y ⊢
  refine lv_aload_n B.1 B.2.1 dX6_hasRoomForFive_0 rfl (lv_at hl 0 rfl) ?_
  refine gf_X6_15 B Y 0 rfl rfl dX6_hasRoomForFive_1 ?_
  refine lv_bipush (v := (iI (20))) B.1 B.2.1 dX6_hasRoomForFive_4 (by decide) ?_
  refine lv_iadd B.1 B.2.1 dX6_hasRoomForFive_6 ?_
  refine lv_cv (v := (iI (((L : Nat) : Int) + 20))) (iI_add _ _) ?_
  refine lv_sipush (v := (iI (500))) B.1 B.2.1 dX6_hasRoomForFive_7 (by decide) ?_
  refine lv_icmp_gt (tgt := 17) B.1 B.2.1 dX6_hasRoomForFive_10 (by decide) (fun h => absurd h (mt (iI_lt (a := 500) (b := ((L : Nat) : Int) + 20) (by omega) (by omega) (by omega) (by omega)).mp (by omega))) (fun _ => ?_)
  refine lv_iconst (v := (iI (1))) B.1 B.2.1 dX6_hasRoomForFive_13 (by decide) ?_
  refine lv_goto (tgt := 18) B.1 B.2.1 dX6_hasRoomForFive_14 (by decide) ?_
  exact eZ B hr hlk Y (by decide) () rfl [0] (by decide) rfl (Nat.le_of_ble_eq_true rfl) (Nat.le_of_ble_eq_true rfl) dX6_hasRoomForFive_18

set_option maxHeartbeats 4000000 in
set_option maxRecDepth 100000 in
theorem k_append (l : Launch) (D : va_G) (τ : Nat → ClassId) (sz : Nat) (q9 tx bd pa9 : Nat) (ol bk : Int) (tr kp : Option Nat) (F : Nat → Nat) (rd ri rk rn ro rt L : Nat) (pl io er ea cn : Int) (ch : Nat → Int) (hch : BOk ch) (hL : L + 20 ≤ 500) (b : Nat → Int) (hb : BOk b) : Met l yX9_append (Cond.code yX9_append cX9_append 6 (some .int) :: wALL) { frames := 1, cells := 0, slots := 0, locals := 22 } (Pw D τ (bl [[(q9, .inr (11, [.ref rd, .ref tx, .ref bd, .ref (F 0), .ref pa9, .int (iI (ol)), .int (iI (bk)), va_rf tr, va_rf kp]))], [(rd, .inr (8, [.ref ri, .int (iI (((L : Nat) : Int))), .int (iI (pl)), .int (iI (io)), .int (iI (er)), .int (iI (ea)), .int (iI (cn)), .ref rk, .ref rn, .ref ro, .ref rt]))], [(ri, .inl (τ 1, 500, .inl (fun j => iI ((b) j))))]]) sz [.ref q9, .int (iI (wrdI ch 0)), .int (iI (wrdI ch 4)), .int (iI (wrdI ch 8)), .int (iI (wrdI ch 12)), .int (iI (wrdI ch 16))]) (va_Qi (fun (r : Int32) (_ : Unit) => r = iI ((L + 20 : Nat) : Int)) (Bb D (va_A (bl [[(q9, .inr (11, [.ref rd, .ref tx, .ref bd, .ref (F 0), .ref pa9, .int (iI (ol)), .int (iI (bk)), va_rf tr, va_rf kp]))], [(rd, .inr (8, [.ref ri, .int (iI (((L : Nat) : Int))), .int (iI (pl)), .int (iI (io)), .int (iI (er)), .int (iI (ea)), .int (iI (cn)), .ref rk, .ref rn, .ref ro, .ref rt]))], [(ri, .inl (τ 1, 500, .inl (fun j => iI ((b) j))))]]) sz) (fun (_ : Unit) => [[(q9, .inr (11, [.ref rd, .ref tx, .ref bd, .ref (F 0), .ref pa9, .int (iI (ol)), .int (iI (bk)), va_rf tr, va_rf kp]))], [(rd, .inr (8, [.ref ri, .int (iI ((((L + 20) : Nat) : Int))), .int (iI (pl)), .int (iI (io)), .int (iI (er)), .int (iI (ea)), .int (iI (cn)), .ref rk, .ref rn, .ref ro, .ref rt]))], [(ri, .inl (τ 1, 500, .inl (fun j => iI (((putB b L ch 20)) j))))]])) (va_A (bl [[(q9, .inr (11, [.ref rd, .ref tx, .ref bd, .ref (F 0), .ref pa9, .int (iI (ol)), .int (iI (bk)), va_rf tr, va_rf kp]))], [(rd, .inr (8, [.ref ri, .int (iI (((L : Nat) : Int))), .int (iI (pl)), .int (iI (io)), .int (iI (er)), .int (iI (ea)), .int (iI (cn)), .ref rk, .ref rn, .ref ro, .ref rt]))], [(ri, .inl (τ 1, 500, .inl (fun j => iI ((b) j))))]]) sz)) 0 0 (va_A (bl [[(q9, .inr (11, [.ref rd, .ref tx, .ref bd, .ref (F 0), .ref pa9, .int (iI (ol)), .int (iI (bk)), va_rf tr, va_rf kp]))], [(rd, .inr (8, [.ref ri, .int (iI (((L : Nat) : Int))), .int (iI (pl)), .int (iI (io)), .int (iI (er)), .int (iI (ea)), .int (iI (cn)), .ref rk, .ref rn, .ref ro, .ref rt]))], [(ri, .inl (τ 1, 500, .inl (fun j => iI ((b) j))))]]) sz) := by
  refine bodyW (by decide) (Nat.le_of_ble_eq_true rfl) (fun p e s m below meth c ls B hr hlk hin hsz Y hl => ?_)
  have hl : lv_has ls 6 [(0, .ref q9), (1, .int (iI (wrdI ch 0))), (2, .int (iI (wrdI ch 4))), (3, .int (iI (wrdI ch 8))), (4, .int (iI (wrdI ch 12))), (5, .int (iI (wrdI ch 16)))] := hl
  have B : CallFix p m c cX9_append 6 s _ wALL RX9 := B
  generalize va_A (bl [[(q9, .inr (11, [.ref rd, .ref tx, .ref bd, .ref (F 0), .ref pa9, .int (iI (ol)), .int (iI (bk)), va_rf tr, va_rf kp]))], [(rd, .inr (8, [.ref ri, .int (iI (((L : Nat) : Int))), .int (iI (pl)), .int (iI (io)), .int (iI (er)), .int (iI (ea)), .int (iI (cn)), .ref rk, .ref rn, .ref ro, .ref rt]))], [(ri, .inl (τ 1, 500, .inl (fun j => iI ((b) j))))]]) sz = A at Y ⊢
  refine lv_aload_n B.1 B.2.1 dX9_append_0 rfl (lv_at hl 0 rfl) ?_
  refine gf_X9_10 B Y 0 rfl rfl dX9_append_1 ?_
  refine qI (Cs := [[(rd, .inr (8, [.ref ri, .int (iI (((L : Nat) : Int))), .int (iI (pl)), .int (iI (io)), .int (iI (er)), .int (iI (ea)), .int (iI (cn)), .ref rk, .ref rn, .ref ro, .ref rt]))]]) (Rs := [[(q9, .inr (11, [.ref rd, .ref tx, .ref bd, .ref (F 0), .ref pa9, .int (iI (ol)), .int (iI (bk)), va_rf tr, va_rf kp]))], [(ri, .inl (τ 1, 500, .inl (fun j => iI ((b) j))))]]) Y [1] [0, 2] (by decide) rfl (cV (As := []) (rest := []) (q0 := 1) B Y [1] (by decide) rfl (k_hasRoom l D τ _ rd ri rk rn ro rt L (pl) (io) (er) (ea) (cn) (by omega)) rfl rfl q_752 q_753 q_754 q_3 q_755 rfl rfl hd_X6_hasRoomForFive ⟨(Nat.le_of_ble_eq_true rfl), (Nat.le_of_ble_eq_true rfl)⟩ rfl hl.1 rfl (Nat.le_of_ble_eq_true rfl) dX9_append_4 ⟨(Nat.le_of_ble_eq_true rfl), (Nat.le_of_ble_eq_true rfl)⟩) (fun r u H locs hw Y => ?_)
  subst hw
  have Y : Wd D τ s A s.heap (bl [[(rd, .inr (8, [.ref ri, .int (iI (((L : Nat) : Int))), .int (iI (pl)), .int (iI (io)), .int (iI (er)), .int (iI (ea)), .int (iI (cn)), .ref rk, .ref rn, .ref ro, .ref rt]))], [(q9, .inr (11, [.ref rd, .ref tx, .ref bd, .ref (F 0), .ref pa9, .int (iI (ol)), .int (iI (bk)), va_rf tr, va_rf kp]))], [(ri, .inl (τ 1, 500, .inl (fun j => iI ((b) j))))]]) _ _ := Y
  refine lv_if_ne (tgt := 20) B.1 B.2.1 dX9_append_7 (by decide) (fun _ => ?_) (fun h => absurd h (by decide)) 
  refine lv_aload_n B.1 B.2.1 dX9_append_20 rfl (lv_at hl 0 rfl) ?_
  refine gf_X9_10 B Y 1 rfl rfl dX9_append_21 ?_
  refine lv_iload_n B.1 B.2.1 dX9_append_24 rfl (lv_at hl 1 rfl) ?_
  refine qV (Cs := [[(rd, .inr (8, [.ref ri, .int (iI (((L : Nat) : Int))), .int (iI (pl)), .int (iI (io)), .int (iI (er)), .int (iI (ea)), .int (iI (cn)), .ref rk, .ref rn, .ref ro, .ref rt]))], [(ri, .inl (τ 1, 500, .inl (fun j => iI ((b) j))))]]) (Rs := [[(q9, .inr (11, [.ref rd, .ref tx, .ref bd, .ref (F 0), .ref pa9, .int (iI (ol)), .int (iI (bk)), va_rf tr, va_rf kp]))]]) Y [0, 2] [1] (by decide) rfl (cV (As := [.int (iI (wrdI ch 0))]) (rest := []) (q0 := 0) B Y [0, 2] (by decide) rfl (k_takeNumber l D τ _ rd ri rk rn ro rt L (pl) (io) (er) (ea) (cn) ch 0 hch (by omega) b hb) rfl rfl q_757 q_758 q_759 q_3 q_760 rfl rfl hd_X6_takeNumber ⟨(Nat.le_of_ble_eq_true rfl), (Nat.le_of_ble_eq_true rfl)⟩ rfl hl.1 rfl (Nat.le_of_ble_eq_true rfl) dX9_append_25 ⟨(Nat.le_of_ble_eq_true rfl), (Nat.le_of_ble_eq_true rfl)⟩) (fun u H locs hw Y => ?_)
  have hb0 := putB_ok hb (fun j => hch (0 + j)) L 4
  have Y : Wd D τ s A s.heap (bl [[(rd, .inr (8, [.ref ri, .int (iI (((L + 4) : Nat) : Int)), .int (iI (pl)), .int (iI (io)), .int (iI (er)), .int (iI (ea)), .int (iI (cn)), .ref rk, .ref rn, .ref ro, .ref rt]))], [(ri, .inl (τ 1, 500, .inl (fun j => iI (((putB b L (fun i => ch (0 + i)) 4)) j))))], [(q9, .inr (11, [.ref rd, .ref tx, .ref bd, .ref (F 0), .ref pa9, .int (iI (ol)), .int (iI (bk)), va_rf tr, va_rf kp]))]]) _ _ := Y
  refine lv_aload_n B.1 B.2.1 dX9_append_28 rfl (lv_at hl 0 rfl) ?_
  refine gf_X9_10 B Y 2 rfl rfl dX9_append_29 ?_
  refine lv_iload_n B.1 B.2.1 dX9_append_32 rfl (lv_at hl 2 rfl) ?_
  refine qV (Cs := [[(rd, .inr (8, [.ref ri, .int (iI (((L + 4) : Nat) : Int)), .int (iI (pl)), .int (iI (io)), .int (iI (er)), .int (iI (ea)), .int (iI (cn)), .ref rk, .ref rn, .ref ro, .ref rt]))], [(ri, .inl (τ 1, 500, .inl (fun j => iI (((putB b L (fun i => ch (0 + i)) 4)) j))))]]) (Rs := [[(q9, .inr (11, [.ref rd, .ref tx, .ref bd, .ref (F 0), .ref pa9, .int (iI (ol)), .int (iI (bk)), va_rf tr, va_rf kp]))]]) Y [0, 1] [2] (by decide) rfl (cV (As := [.int (iI (wrdI ch 4))]) (rest := []) (q0 := 0) B Y [0, 1] (by decide) rfl (k_takeNumber l D τ _ rd ri rk rn ro rt (L + 4) (pl) (io) (er) (ea) (cn) ch 4 hch (by omega) (putB b L (fun i => ch (0 + i)) 4) hb0) rfl rfl q_757 q_758 q_759 q_3 q_760 rfl rfl hd_X6_takeNumber ⟨(Nat.le_of_ble_eq_true rfl), (Nat.le_of_ble_eq_true rfl)⟩ rfl hl.1 rfl (Nat.le_of_ble_eq_true rfl) dX9_append_33 ⟨(Nat.le_of_ble_eq_true rfl), (Nat.le_of_ble_eq_true rfl)⟩) (fun u H locs hw Y => ?_)
  have hb4 := putB_ok hb0 (fun j => hch (4 + j)) (L + 4) 4
  have Y : Wd D τ s A s.heap (bl [[(rd, .inr (8, [.ref ri, .int (iI ((((L + 4) + 4) : Nat) : Int)), .int (iI (pl)), .int (iI (io)), .int (iI (er)), .int (iI (ea)), .int (iI (cn)), .ref rk, .ref rn, .ref ro, .ref rt]))], [(ri, .inl (τ 1, 500, .inl (fun j => iI (((putB (putB b L (fun i => ch (0 + i)) 4) (L + 4) (fun i => ch (4 + i)) 4)) j))))], [(q9, .inr (11, [.ref rd, .ref tx, .ref bd, .ref (F 0), .ref pa9, .int (iI (ol)), .int (iI (bk)), va_rf tr, va_rf kp]))]]) _ _ := Y
  refine lv_aload_n B.1 B.2.1 dX9_append_36 rfl (lv_at hl 0 rfl) ?_
  refine gf_X9_10 B Y 2 rfl rfl dX9_append_37 ?_
  refine lv_iload_n B.1 B.2.1 dX9_append_40 rfl (lv_at hl 3 rfl) ?_
  refine qV (Cs := [[(rd, .inr (8, [.ref ri, .int (iI ((((L + 4) + 4) : Nat) : Int)), .int (iI (pl)), .int (iI (io)), .int (iI (er)), .int (iI (ea)), .int (iI (cn)), .ref rk, .ref rn, .ref ro, .ref rt]))], [(ri, .inl (τ 1, 500, .inl (fun j => iI (((putB (putB b L (fun i => ch (0 + i)) 4) (L + 4) (fun i => ch (4 + i)) 4)) j))))]]) (Rs := [[(q9, .inr (11, [.ref rd, .ref tx, .ref bd, .ref (F 0), .ref pa9, .int (iI (ol)), .int (iI (bk)), va_rf tr, va_rf kp]))]]) Y [0, 1] [2] (by decide) rfl (cV (As := [.int (iI (wrdI ch 8))]) (rest := []) (q0 := 0) B Y [0, 1] (by decide) rfl (k_takeNumber l D τ _ rd ri rk rn ro rt ((L + 4) + 4) (pl) (io) (er) (ea) (cn) ch 8 hch (by omega) (putB (putB b L (fun i => ch (0 + i)) 4) (L + 4) (fun i => ch (4 + i)) 4) hb4) rfl rfl q_757 q_758 q_759 q_3 q_760 rfl rfl hd_X6_takeNumber ⟨(Nat.le_of_ble_eq_true rfl), (Nat.le_of_ble_eq_true rfl)⟩ rfl hl.1 rfl (Nat.le_of_ble_eq_true rfl) dX9_append_41 ⟨(Nat.le_of_ble_eq_true rfl), (Nat.le_of_ble_eq_true rfl)⟩) (fun u H locs hw Y => ?_)
  have hb8 := putB_ok hb4 (fun j => hch (8 + j)) ((L + 4) + 4) 4
  have Y : Wd D τ s A s.heap (bl [[(rd, .inr (8, [.ref ri, .int (iI (((((L + 4) + 4) + 4) : Nat) : Int)), .int (iI (pl)), .int (iI (io)), .int (iI (er)), .int (iI (ea)), .int (iI (cn)), .ref rk, .ref rn, .ref ro, .ref rt]))], [(ri, .inl (τ 1, 500, .inl (fun j => iI (((putB (putB (putB b L (fun i => ch (0 + i)) 4) (L + 4) (fun i => ch (4 + i)) 4) ((L + 4) + 4) (fun i => ch (8 + i)) 4)) j))))], [(q9, .inr (11, [.ref rd, .ref tx, .ref bd, .ref (F 0), .ref pa9, .int (iI (ol)), .int (iI (bk)), va_rf tr, va_rf kp]))]]) _ _ := Y
  refine lv_aload_n B.1 B.2.1 dX9_append_44 rfl (lv_at hl 0 rfl) ?_
  refine gf_X9_10 B Y 2 rfl rfl dX9_append_45 ?_
  refine lv_iload B.1 B.2.1 dX9_append_48 (lv_at hl 4 rfl) ?_
  refine qV (Cs := [[(rd, .inr (8, [.ref ri, .int (iI (((((L + 4) + 4) + 4) : Nat) : Int)), .int (iI (pl)), .int (iI (io)), .int (iI (er)), .int (iI (ea)), .int (iI (cn)), .ref rk, .ref rn, .ref ro, .ref rt]))], [(ri, .inl (τ 1, 500, .inl (fun j => iI (((putB (putB (putB b L (fun i => ch (0 + i)) 4) (L + 4) (fun i => ch (4 + i)) 4) ((L + 4) + 4) (fun i => ch (8 + i)) 4)) j))))]]) (Rs := [[(q9, .inr (11, [.ref rd, .ref tx, .ref bd, .ref (F 0), .ref pa9, .int (iI (ol)), .int (iI (bk)), va_rf tr, va_rf kp]))]]) Y [0, 1] [2] (by decide) rfl (cV (As := [.int (iI (wrdI ch 12))]) (rest := []) (q0 := 0) B Y [0, 1] (by decide) rfl (k_takeNumber l D τ _ rd ri rk rn ro rt (((L + 4) + 4) + 4) (pl) (io) (er) (ea) (cn) ch 12 hch (by omega) (putB (putB (putB b L (fun i => ch (0 + i)) 4) (L + 4) (fun i => ch (4 + i)) 4) ((L + 4) + 4) (fun i => ch (8 + i)) 4) hb8) rfl rfl q_757 q_758 q_759 q_3 q_760 rfl rfl hd_X6_takeNumber ⟨(Nat.le_of_ble_eq_true rfl), (Nat.le_of_ble_eq_true rfl)⟩ rfl hl.1 rfl (Nat.le_of_ble_eq_true rfl) dX9_append_50 ⟨(Nat.le_of_ble_eq_true rfl), (Nat.le_of_ble_eq_true rfl)⟩) (fun u H locs hw Y => ?_)
  have hb12 := putB_ok hb8 (fun j => hch (12 + j)) (((L + 4) + 4) + 4) 4
  have Y : Wd D τ s A s.heap (bl [[(rd, .inr (8, [.ref ri, .int (iI ((((((L + 4) + 4) + 4) + 4) : Nat) : Int)), .int (iI (pl)), .int (iI (io)), .int (iI (er)), .int (iI (ea)), .int (iI (cn)), .ref rk, .ref rn, .ref ro, .ref rt]))], [(ri, .inl (τ 1, 500, .inl (fun j => iI (((putB (putB (putB (putB b L (fun i => ch (0 + i)) 4) (L + 4) (fun i => ch (4 + i)) 4) ((L + 4) + 4) (fun i => ch (8 + i)) 4) (((L + 4) + 4) + 4) (fun i => ch (12 + i)) 4)) j))))], [(q9, .inr (11, [.ref rd, .ref tx, .ref bd, .ref (F 0), .ref pa9, .int (iI (ol)), .int (iI (bk)), va_rf tr, va_rf kp]))]]) _ _ := Y
  refine lv_aload_n B.1 B.2.1 dX9_append_53 rfl (lv_at hl 0 rfl) ?_
  refine gf_X9_10 B Y 2 rfl rfl dX9_append_54 ?_
  refine lv_iload B.1 B.2.1 dX9_append_57 (lv_at hl 5 rfl) ?_
  refine qV (Cs := [[(rd, .inr (8, [.ref ri, .int (iI ((((((L + 4) + 4) + 4) + 4) : Nat) : Int)), .int (iI (pl)), .int (iI (io)), .int (iI (er)), .int (iI (ea)), .int (iI (cn)), .ref rk, .ref rn, .ref ro, .ref rt]))], [(ri, .inl (τ 1, 500, .inl (fun j => iI (((putB (putB (putB (putB b L (fun i => ch (0 + i)) 4) (L + 4) (fun i => ch (4 + i)) 4) ((L + 4) + 4) (fun i => ch (8 + i)) 4) (((L + 4) + 4) + 4) (fun i => ch (12 + i)) 4)) j))))]]) (Rs := [[(q9, .inr (11, [.ref rd, .ref tx, .ref bd, .ref (F 0), .ref pa9, .int (iI (ol)), .int (iI (bk)), va_rf tr, va_rf kp]))]]) Y [0, 1] [2] (by decide) rfl (cV (As := [.int (iI (wrdI ch 16))]) (rest := []) (q0 := 0) B Y [0, 1] (by decide) rfl (k_takeNumber l D τ _ rd ri rk rn ro rt ((((L + 4) + 4) + 4) + 4) (pl) (io) (er) (ea) (cn) ch 16 hch (by omega) (putB (putB (putB (putB b L (fun i => ch (0 + i)) 4) (L + 4) (fun i => ch (4 + i)) 4) ((L + 4) + 4) (fun i => ch (8 + i)) 4) (((L + 4) + 4) + 4) (fun i => ch (12 + i)) 4) hb12) rfl rfl q_757 q_758 q_759 q_3 q_760 rfl rfl hd_X6_takeNumber ⟨(Nat.le_of_ble_eq_true rfl), (Nat.le_of_ble_eq_true rfl)⟩ rfl hl.1 rfl (Nat.le_of_ble_eq_true rfl) dX9_append_59 ⟨(Nat.le_of_ble_eq_true rfl), (Nat.le_of_ble_eq_true rfl)⟩) (fun u H locs hw Y => ?_)
  have hb16 := putB_ok hb12 (fun j => hch (16 + j)) ((((L + 4) + 4) + 4) + 4) 4
  have Y : Wd D τ s A s.heap (bl [[(rd, .inr (8, [.ref ri, .int (iI (((((((L + 4) + 4) + 4) + 4) + 4) : Nat) : Int)), .int (iI (pl)), .int (iI (io)), .int (iI (er)), .int (iI (ea)), .int (iI (cn)), .ref rk, .ref rn, .ref ro, .ref rt]))], [(ri, .inl (τ 1, 500, .inl (fun j => iI (((putB (putB (putB (putB (putB b L (fun i => ch (0 + i)) 4) (L + 4) (fun i => ch (4 + i)) 4) ((L + 4) + 4) (fun i => ch (8 + i)) 4) (((L + 4) + 4) + 4) (fun i => ch (12 + i)) 4) ((((L + 4) + 4) + 4) + 4) (fun i => ch (16 + i)) 4)) j))))], [(q9, .inr (11, [.ref rd, .ref tx, .ref bd, .ref (F 0), .ref pa9, .int (iI (ol)), .int (iI (bk)), va_rf tr, va_rf kp]))]]) _ _ := Y
  refine lv_aload_n B.1 B.2.1 dX9_append_62 rfl (lv_at hl 0 rfl) ?_
  refine gf_X9_10 B Y 2 rfl rfl dX9_append_63 ?_
  refine gf_X9_73 B Y 0 rfl rfl dX9_append_66 ?_
  have hp0 : putB b L (fun i => ch (0 + i)) 4 = putB b L ch 4 := by congr 1; funext i; rw [Nat.zero_add]
  rw [hp0] at Y
  rw [show putB (putB b L ch 4) (L + 4) (fun i => ch (4 + i)) 4 = putB b L ch 8 from putB_app b ch L 4 4] at Y
  rw [show putB (putB b L ch 8) (L + 4 + 4) (fun i => ch (8 + i)) 4 = putB b L ch 12 from putB_app b ch L 8 4] at Y
  rw [show putB (putB b L ch 12) (L + 4 + 4 + 4) (fun i => ch (12 + i)) 4 = putB b L ch 16 from putB_app b ch L 12 4] at Y
  rw [show putB (putB b L ch 16) (L + 4 + 4 + 4 + 4) (fun i => ch (16 + i)) 4 = putB b L ch 20 from putB_app b ch L 16 4] at Y
  exact eI B hr hlk Y () rfl [2, 0, 1] (by decide) rfl (Nat.le_of_ble_eq_true rfl) (Nat.le_of_ble_eq_true rfl) dX9_append_69

set_option maxHeartbeats 4000000 in
set_option maxRecDepth 100000 in
theorem k_truncate (l : Launch) (D : va_G) (τ : Nat → ClassId) (sz : Nat) (q9 tx bd pa9 : Nat) (ol bk : Int) (tr kp : Option Nat) (F : Nat → Nat) (rd ri rk rn ro rt L : Nat) (pl io er ea cn : Int) (n : Nat) (hn : n ≤ L) (hL : L ≤ 500) : Met l yX9_truncate (Cond.code yX9_truncate cX9_truncate 2 (some .int) :: wALL) { frames := 1, cells := 0, slots := 0, locals := 22 } (Pw D τ (bl [[(q9, .inr (11, [.ref rd, .ref tx, .ref bd, .ref (F 0), .ref pa9, .int (iI (ol)), .int (iI (bk)), va_rf tr, va_rf kp]))], [(rd, .inr (8, [.ref ri, .int (iI (((L : Nat) : Int))), .int (iI (pl)), .int (iI (io)), .int (iI (er)), .int (iI (ea)), .int (iI (cn)), .ref rk, .ref rn, .ref ro, .ref rt]))]]) sz [.ref q9, .int (iI ((n : Nat) : Int))]) (va_Qi (fun (r : Int32) (_ : Unit) => r = iI ((n : Nat) : Int)) (Bb D (va_A (bl [[(q9, .inr (11, [.ref rd, .ref tx, .ref bd, .ref (F 0), .ref pa9, .int (iI (ol)), .int (iI (bk)), va_rf tr, va_rf kp]))], [(rd, .inr (8, [.ref ri, .int (iI (((L : Nat) : Int))), .int (iI (pl)), .int (iI (io)), .int (iI (er)), .int (iI (ea)), .int (iI (cn)), .ref rk, .ref rn, .ref ro, .ref rt]))]]) sz) (fun (_ : Unit) => [[(q9, .inr (11, [.ref rd, .ref tx, .ref bd, .ref (F 0), .ref pa9, .int (iI (ol)), .int (iI (bk)), va_rf tr, va_rf kp]))], [(rd, .inr (8, [.ref ri, .int (iI (((n : Nat) : Int))), .int (iI (pl)), .int (iI (io)), .int (iI (er)), .int (iI (ea)), .int (iI (cn)), .ref rk, .ref rn, .ref ro, .ref rt]))]])) (va_A (bl [[(q9, .inr (11, [.ref rd, .ref tx, .ref bd, .ref (F 0), .ref pa9, .int (iI (ol)), .int (iI (bk)), va_rf tr, va_rf kp]))], [(rd, .inr (8, [.ref ri, .int (iI (((L : Nat) : Int))), .int (iI (pl)), .int (iI (io)), .int (iI (er)), .int (iI (ea)), .int (iI (cn)), .ref rk, .ref rn, .ref ro, .ref rt]))]]) sz)) 0 0 (va_A (bl [[(q9, .inr (11, [.ref rd, .ref tx, .ref bd, .ref (F 0), .ref pa9, .int (iI (ol)), .int (iI (bk)), va_rf tr, va_rf kp]))], [(rd, .inr (8, [.ref ri, .int (iI (((L : Nat) : Int))), .int (iI (pl)), .int (iI (io)), .int (iI (er)), .int (iI (ea)), .int (iI (cn)), .ref rk, .ref rn, .ref ro, .ref rt]))]]) sz) := by
  refine bodyW (by decide) (Nat.le_of_ble_eq_true rfl) (fun p e s m below meth c ls B hr hlk hin hsz Y hl => ?_)
  have hl : lv_has ls 2 [(0, .ref q9), (1, .int (iI ((n : Nat) : Int)))] := hl
  have B : CallFix p m c cX9_truncate 2 s _ wALL RX9 := B
  generalize va_A (bl [[(q9, .inr (11, [.ref rd, .ref tx, .ref bd, .ref (F 0), .ref pa9, .int (iI (ol)), .int (iI (bk)), va_rf tr, va_rf kp]))], [(rd, .inr (8, [.ref ri, .int (iI (((L : Nat) : Int))), .int (iI (pl)), .int (iI (io)), .int (iI (er)), .int (iI (ea)), .int (iI (cn)), .ref rk, .ref rn, .ref ro, .ref rt]))]]) sz = A at Y ⊢
  refine lv_iload_n B.1 B.2.1 dX9_truncate_0 rfl (lv_at hl 1 rfl) ?_
  refine lv_iconst (v := (iI (0))) B.1 B.2.1 dX9_truncate_1 (by decide) ?_
  refine lv_aload_n B.1 B.2.1 dX9_truncate_2 rfl (lv_at hl 0 rfl) ?_
  refine gf_X9_10 B Y 0 rfl rfl dX9_truncate_3 ?_
  refine gf_X9_73 B Y 1 rfl rfl dX9_truncate_6 ?_
  refine qV (Cs := []) (Rs := [[(q9, .inr (11, [.ref rd, .ref tx, .ref bd, .ref (F 0), .ref pa9, .int (iI (ol)), .int (iI (bk)), va_rf tr, va_rf kp]))], [(rd, .inr (8, [.ref ri, .int (iI (((L : Nat) : Int))), .int (iI (pl)), .int (iI (io)), .int (iI (er)), .int (iI (ea)), .int (iI (cn)), .ref rk, .ref rn, .ref ro, .ref rt]))]]) Y [] [0, 1] (by decide) rfl (cS (As := [.int (iI ((n : Nat) : Int)), .int (iI (0)), .int (iI (((L : Nat) : Int)))]) (rest := []) B Y [] (by decide) rfl (k_needRange l D τ _ (((n : Nat) : Int)) (0) (((L : Nat) : Int)) (by omega) (by omega) (by omega) (by omega)) q_488 q_489 q_2 q_490 rfl rfl hd_X9_needRange ⟨(Nat.le_of_ble_eq_true rfl), (Nat.le_of_ble_eq_true rfl)⟩ rfl hl.1 rfl (Nat.le_of_ble_eq_true rfl) dX9_truncate_9 ⟨(Nat.le_of_ble_eq_true rfl), (Nat.le_of_ble_eq_true rfl)⟩) (fun u H locs hw Y => ?_)
  have Y : Wd D τ s A s.heap (bl [[(q9, .inr (11, [.ref rd, .ref tx, .ref bd, .ref (F 0), .ref pa9, .int (iI (ol)), .int (iI (bk)), va_rf tr, va_rf kp]))], [(rd, .inr (8, [.ref ri, .int (iI (((L : Nat) : Int))), .int (iI (pl)), .int (iI (io)), .int (iI (er)), .int (iI (ea)), .int (iI (cn)), .ref rk, .ref rn, .ref ro, .ref rt]))]]) _ _ := Y
  refine lv_aload_n B.1 B.2.1 dX9_truncate_12 rfl (lv_at hl 0 rfl) ?_
  refine gf_X9_10 B Y 0 rfl rfl dX9_truncate_13 ?_
  refine lv_iload_n B.1 B.2.1 dX9_truncate_16 rfl (lv_at hl 1 rfl) ?_
  refine pf_X9_73 (B' := [[(q9, .inr (11, [.ref rd, .ref tx, .ref bd, .ref (F 0), .ref pa9, .int (iI (ol)), .int (iI (bk)), va_rf tr, va_rf kp]))], [(rd, .inr (8, [.ref ri, .int (iI ((n : Nat) : Int)), .int (iI (pl)), .int (iI (io)), .int (iI (er)), .int (iI (ea)), .int (iI (cn)), .ref rk, .ref rn, .ref ro, .ref rt]))]]) B Y 1 rfl (Nat.le_of_ble_eq_true rfl) rfl dX9_truncate_17 (fun H locs Y => ?_)
  refine lv_iload_n B.1 B.2.1 dX9_truncate_20 rfl (lv_at hl 1 rfl) ?_
  exact eI B hr hlk Y () rfl [0, 1] (by decide) rfl (Nat.le_of_ble_eq_true rfl) (Nat.le_of_ble_eq_true rfl) dX9_truncate_21

set_option maxHeartbeats 4000000 in
set_option maxRecDepth 100000 in
theorem k_kindOf (l : Launch) (D : va_G) (τ : Nat → ClassId) (sz : Nat) (rd ri rk rn ro rt L : Nat) (pl io er ea cn : Int) (kd : Nat → Int) (i n : Nat) (hi : i < n) (hn : n ≤ 48) (hcn : cn = n) : Met l yX6_kindOf (Cond.code yX6_kindOf cX6_kindOf 2 (some .int) :: wALL) { frames := 1, cells := 0, slots := 0, locals := 21 } (Pw D τ (bl [[(rd, .inr (8, [.ref ri, .int (iI (((L : Nat) : Int))), .int (iI (pl)), .int (iI (io)), .int (iI (er)), .int (iI (ea)), .int (iI (cn)), .ref rk, .ref rn, .ref ro, .ref rt]))], [(rk, .inl (τ 0, 48, .inl (fun j => iI ((kd) j))))]]) sz [.ref rd, .int (iI ((i : Nat) : Int))]) (va_Qi (fun (r : Int32) (_ : Unit) => r = iI (kd i)) (Bb D (va_A (bl [[(rd, .inr (8, [.ref ri, .int (iI (((L : Nat) : Int))), .int (iI (pl)), .int (iI (io)), .int (iI (er)), .int (iI (ea)), .int (iI (cn)), .ref rk, .ref rn, .ref ro, .ref rt]))], [(rk, .inl (τ 0, 48, .inl (fun j => iI ((kd) j))))]]) sz) (fun (_ : Unit) => [[(rd, .inr (8, [.ref ri, .int (iI (((L : Nat) : Int))), .int (iI (pl)), .int (iI (io)), .int (iI (er)), .int (iI (ea)), .int (iI (cn)), .ref rk, .ref rn, .ref ro, .ref rt]))], [(rk, .inl (τ 0, 48, .inl (fun j => iI ((kd) j))))]])) (va_A (bl [[(rd, .inr (8, [.ref ri, .int (iI (((L : Nat) : Int))), .int (iI (pl)), .int (iI (io)), .int (iI (er)), .int (iI (ea)), .int (iI (cn)), .ref rk, .ref rn, .ref ro, .ref rt]))], [(rk, .inl (τ 0, 48, .inl (fun j => iI ((kd) j))))]]) sz)) 0 0 (va_A (bl [[(rd, .inr (8, [.ref ri, .int (iI (((L : Nat) : Int))), .int (iI (pl)), .int (iI (io)), .int (iI (er)), .int (iI (ea)), .int (iI (cn)), .ref rk, .ref rn, .ref ro, .ref rt]))], [(rk, .inl (τ 0, 48, .inl (fun j => iI ((kd) j))))]]) sz) := by
  refine bodyW (by decide) (Nat.le_of_ble_eq_true rfl) (fun p e s m below meth c ls B hr hlk hin hsz Y hl => ?_)
  have hl : lv_has ls 2 [(0, .ref rd), (1, .int (iI ((i : Nat) : Int)))] := hl
  have B : CallFix p m c cX6_kindOf 2 s _ wALL RX6 := B
  generalize va_A (bl [[(rd, .inr (8, [.ref ri, .int (iI (((L : Nat) : Int))), .int (iI (pl)), .int (iI (io)), .int (iI (er)), .int (iI (ea)), .int (iI (cn)), .ref rk, .ref rn, .ref ro, .ref rt]))], [(rk, .inl (τ 0, 48, .inl (fun j => iI ((kd) j))))]]) sz = A at Y ⊢
  refine lv_iload_n B.1 B.2.1 dX6_kindOf_0 rfl (lv_at hl 1 rfl) ?_
  refine lv_aload_n B.1 B.2.1 dX6_kindOf_1 rfl (lv_at hl 0 rfl) ?_
  refine gf_X6_32 B Y 0 rfl rfl dX6_kindOf_2 ?_
  refine lv_icmp_ge (tgt := 19) B.1 B.2.1 dX6_kindOf_5 (by decide) (fun h => absurd h (mt (iI_le (a := cn) (b := ((i : Nat) : Int)) (by omega) (by omega) (by omega) (by omega)).mp (by omega))) (fun _ => ?_)
  refine lv_aload_n B.1 B.2.1 dX6_kindOf_8 rfl (lv_at hl 0 rfl) ?_
  refine gf_X6_35 B Y 0 rfl rfl dX6_kindOf_9 ?_
  refine lv_iload_n B.1 B.2.1 dX6_kindOf_12 rfl (lv_at hl 1 rfl) ?_
  refine qI (Cs := [[(rk, .inl (τ 0, 48, .inl (fun j => iI ((kd) j))))]]) (Rs := [[(rd, .inr (8, [.ref ri, .int (iI (((L : Nat) : Int))), .int (iI (pl)), .int (iI (io)), .int (iI (er)), .int (iI (ea)), .int (iI (cn)), .ref rk, .ref rn, .ref ro, .ref rt]))]]) Y [1] [0] (by decide) rfl (cSN (As := [.ref rk, .int (iI ((i : Nat) : Int))]) (rest := []) B Y [1] (by decide) rfl (k_valueIn l D τ _ rk 48 i (fun j => iI ((kd) j)) (by omega) (by decide)) (Y.1.2.1 _ nw_825) q_567 q_2 q_568 rfl rfl hd_X9_valueIn ⟨(Nat.le_of_ble_eq_true rfl), (Nat.le_of_ble_eq_true rfl)⟩ rfl hl.1 rfl (Nat.le_of_ble_eq_true rfl) dX6_kindOf_13 ⟨(Nat.le_of_ble_eq_true rfl), (Nat.le_of_ble_eq_true rfl)⟩) (fun r u H locs hw Y => ?_)
  obtain rfl := hw
  have Y : Wd D τ s A s.heap (bl [[(rk, .inl (τ 0, 48, .inl (fun j => iI ((kd) j))))], [(rd, .inr (8, [.ref ri, .int (iI (((L : Nat) : Int))), .int (iI (pl)), .int (iI (io)), .int (iI (er)), .int (iI (ea)), .int (iI (cn)), .ref rk, .ref rn, .ref ro, .ref rt]))]]) _ _ := Y
  refine lv_goto (tgt := 20) B.1 B.2.1 dX6_kindOf_16 (by decide) ?_
  exact eI B hr hlk Y () rfl [1, 0] (by decide) rfl (Nat.le_of_ble_eq_true rfl) (Nat.le_of_ble_eq_true rfl) dX6_kindOf_20

set_option maxHeartbeats 4000000 in
set_option maxRecDepth 100000 in
theorem k_numberOf (l : Launch) (D : va_G) (τ : Nat → ClassId) (sz : Nat) (rd ri rk rn ro rt L : Nat) (pl io er ea cn : Int) (nu : Nat → Int) (i j : Nat) (hi : i < 48) (hj : j < 4) : Met l yX6_numberOf (Cond.code yX6_numberOf cX6_numberOf 3 (some .int) :: wALL) { frames := 1, cells := 0, slots := 0, locals := 21 } (Pw D τ (bl [[(rd, .inr (8, [.ref ri, .int (iI (((L : Nat) : Int))), .int (iI (pl)), .int (iI (io)), .int (iI (er)), .int (iI (ea)), .int (iI (cn)), .ref rk, .ref rn, .ref ro, .ref rt]))], [(rn, .inl (τ 0, 192, .inl (fun j => iI ((nu) j))))]]) sz [.ref rd, .int (iI ((i : Nat) : Int)), .int (iI ((j : Nat) : Int))]) (va_Qi (fun (r : Int32) (_ : Unit) => r = iI (nu (4 * i + j))) (Bb D (va_A (bl [[(rd, .inr (8, [.ref ri, .int (iI (((L : Nat) : Int))), .int (iI (pl)), .int (iI (io)), .int (iI (er)), .int (iI (ea)), .int (iI (cn)), .ref rk, .ref rn, .ref ro, .ref rt]))], [(rn, .inl (τ 0, 192, .inl (fun j => iI ((nu) j))))]]) sz) (fun (_ : Unit) => [[(rd, .inr (8, [.ref ri, .int (iI (((L : Nat) : Int))), .int (iI (pl)), .int (iI (io)), .int (iI (er)), .int (iI (ea)), .int (iI (cn)), .ref rk, .ref rn, .ref ro, .ref rt]))], [(rn, .inl (τ 0, 192, .inl (fun j => iI ((nu) j))))]])) (va_A (bl [[(rd, .inr (8, [.ref ri, .int (iI (((L : Nat) : Int))), .int (iI (pl)), .int (iI (io)), .int (iI (er)), .int (iI (ea)), .int (iI (cn)), .ref rk, .ref rn, .ref ro, .ref rt]))], [(rn, .inl (τ 0, 192, .inl (fun j => iI ((nu) j))))]]) sz)) 0 0 (va_A (bl [[(rd, .inr (8, [.ref ri, .int (iI (((L : Nat) : Int))), .int (iI (pl)), .int (iI (io)), .int (iI (er)), .int (iI (ea)), .int (iI (cn)), .ref rk, .ref rn, .ref ro, .ref rt]))], [(rn, .inl (τ 0, 192, .inl (fun j => iI ((nu) j))))]]) sz) := by
  refine bodyW (by decide) (Nat.le_of_ble_eq_true rfl) (fun p e s m below meth c ls B hr hlk hin hsz Y hl => ?_)
  have hl : lv_has ls 3 [(0, .ref rd), (1, .int (iI ((i : Nat) : Int))), (2, .int (iI ((j : Nat) : Int)))] := hl
  have B : CallFix p m c cX6_numberOf 3 s _ wALL RX6 := B
  generalize va_A (bl [[(rd, .inr (8, [.ref ri, .int (iI (((L : Nat) : Int))), .int (iI (pl)), .int (iI (io)), .int (iI (er)), .int (iI (ea)), .int (iI (cn)), .ref rk, .ref rn, .ref ro, .ref rt]))], [(rn, .inl (τ 0, 192, .inl (fun j => iI ((nu) j))))]]) sz = A at Y ⊢
  refine lv_aload_n B.1 B.2.1 dX6_numberOf_0 rfl (lv_at hl 0 rfl) ?_
  refine gf_X6_39 B Y 0 rfl rfl dX6_numberOf_1 ?_
  refine lv_iload_n B.1 B.2.1 dX6_numberOf_4 rfl (lv_at hl 1 rfl) ?_
  refine lv_iconst (v := (iI (4))) B.1 B.2.1 dX6_numberOf_5 (by decide) ?_
  refine lv_imul B.1 B.2.1 dX6_numberOf_6 ?_
  refine lv_cv (v := (iI (((4 * i) : Nat) : Int))) (by rw [iI_mul]; congr 1; omega) ?_
  refine lv_iload_n B.1 B.2.1 dX6_numberOf_7 rfl (lv_at hl 2 rfl) ?_
  refine lv_iadd B.1 B.2.1 dX6_numberOf_8 ?_
  refine lv_cv (v := (iI (((4 * i + j) : Nat) : Int))) (iI_add _ _) ?_
  refine qI (Cs := [[(rn, .inl (τ 0, 192, .inl (fun j => iI ((nu) j))))]]) (Rs := [[(rd, .inr (8, [.ref ri, .int (iI (((L : Nat) : Int))), .int (iI (pl)), .int (iI (io)), .int (iI (er)), .int (iI (ea)), .int (iI (cn)), .ref rk, .ref rn, .ref ro, .ref rt]))]]) Y [1] [0] (by decide) rfl (cSN (As := [.ref rn, .int (iI (((4 * i + j) : Nat) : Int))]) (rest := []) B Y [1] (by decide) rfl (k_valueIn l D τ _ rn 192 (4 * i + j) (fun j => iI ((nu) j)) (by omega) (by decide)) (Y.1.2.1 _ nw_825) q_567 q_2 q_568 rfl rfl hd_X9_valueIn ⟨(Nat.le_of_ble_eq_true rfl), (Nat.le_of_ble_eq_true rfl)⟩ rfl hl.1 rfl (Nat.le_of_ble_eq_true rfl) dX6_numberOf_9 ⟨(Nat.le_of_ble_eq_true rfl), (Nat.le_of_ble_eq_true rfl)⟩) (fun r u H locs hw Y => ?_)
  obtain rfl := hw
  have Y : Wd D τ s A s.heap (bl [[(rn, .inl (τ 0, 192, .inl (fun j => iI ((nu) j))))], [(rd, .inr (8, [.ref ri, .int (iI (((L : Nat) : Int))), .int (iI (pl)), .int (iI (io)), .int (iI (er)), .int (iI (ea)), .int (iI (cn)), .ref rk, .ref rn, .ref ro, .ref rt]))]]) _ _ := Y
  exact eI B hr hlk Y () rfl [1, 0] (by decide) rfl (Nat.le_of_ble_eq_true rfl) (Nat.le_of_ble_eq_true rfl) dX6_numberOf_12

set_option maxHeartbeats 4000000 in
set_option maxRecDepth 100000 in
theorem k_hasOption (l : Launch) (D : va_G) (τ : Nat → ClassId) (sz : Nat) (rd ri rk rn ro rt L : Nat) (pl io er ea cn : Int) (op : Nat → Int) (i : Nat) (hi : i < 48) (ho : op i = 0 ∨ op i = 1) : Met l yX6_hasOption (Cond.code yX6_hasOption cX6_hasOption 2 (some .boolean) :: wALL) { frames := 0, cells := 0, slots := 0, locals := 0 } (Pw D τ (bl [[(rd, .inr (8, [.ref ri, .int (iI (((L : Nat) : Int))), .int (iI (pl)), .int (iI (io)), .int (iI (er)), .int (iI (ea)), .int (iI (cn)), .ref rk, .ref rn, .ref ro, .ref rt]))], [(ro, .inl (τ 2, 48, .inl (fun j => iI ((op) j))))]]) sz [.ref rd, .int (iI ((i : Nat) : Int))]) (va_Qi (fun (r : Int32) (_ : Unit) => r = iI (op i)) (Bb D (va_A (bl [[(rd, .inr (8, [.ref ri, .int (iI (((L : Nat) : Int))), .int (iI (pl)), .int (iI (io)), .int (iI (er)), .int (iI (ea)), .int (iI (cn)), .ref rk, .ref rn, .ref ro, .ref rt]))], [(ro, .inl (τ 2, 48, .inl (fun j => iI ((op) j))))]]) sz) (fun (_ : Unit) => [[(rd, .inr (8, [.ref ri, .int (iI (((L : Nat) : Int))), .int (iI (pl)), .int (iI (io)), .int (iI (er)), .int (iI (ea)), .int (iI (cn)), .ref rk, .ref rn, .ref ro, .ref rt]))], [(ro, .inl (τ 2, 48, .inl (fun j => iI ((op) j))))]])) (va_A (bl [[(rd, .inr (8, [.ref ri, .int (iI (((L : Nat) : Int))), .int (iI (pl)), .int (iI (io)), .int (iI (er)), .int (iI (ea)), .int (iI (cn)), .ref rk, .ref rn, .ref ro, .ref rt]))], [(ro, .inl (τ 2, 48, .inl (fun j => iI ((op) j))))]]) sz)) 0 0 (va_A (bl [[(rd, .inr (8, [.ref ri, .int (iI (((L : Nat) : Int))), .int (iI (pl)), .int (iI (io)), .int (iI (er)), .int (iI (ea)), .int (iI (cn)), .ref rk, .ref rn, .ref ro, .ref rt]))], [(ro, .inl (τ 2, 48, .inl (fun j => iI ((op) j))))]]) sz) := by
  refine bodyW (by decide) (Nat.le_of_ble_eq_true rfl) (fun p e s m below meth c ls B hr hlk hin hsz Y hl => ?_)
  have hl : lv_has ls 2 [(0, .ref rd), (1, .int (iI ((i : Nat) : Int)))] := hl
  have B : CallFix p m c cX6_hasOption 2 s _ wALL RX6 := B
  generalize va_A (bl [[(rd, .inr (8, [.ref ri, .int (iI (((L : Nat) : Int))), .int (iI (pl)), .int (iI (io)), .int (iI (er)), .int (iI (ea)), .int (iI (cn)), .ref rk, .ref rn, .ref ro, .ref rt]))], [(ro, .inl (τ 2, 48, .inl (fun j => iI ((op) j))))]]) sz = A at Y ⊢
  refine lv_iload_n B.1 B.2.1 dX6_hasOption_0 rfl (lv_at hl 1 rfl) ?_
  refine lv_if_lt (tgt := 23) B.1 B.2.1 dX6_hasOption_1 (by decide) (fun h => absurd h (mt (iI_lt0 (a := ((i : Nat) : Int)) (by omega) (by omega)).mp (by omega))) (fun _ => ?_)
  refine lv_iload_n B.1 B.2.1 dX6_hasOption_4 rfl (lv_at hl 1 rfl) ?_
  refine lv_bipush (v := (iI (48))) B.1 B.2.1 dX6_hasOption_5 (by decide) ?_
  refine lv_icmp_ge (tgt := 23) B.1 B.2.1 dX6_hasOption_7 (by decide) (fun h => absurd h (mt (iI_le (a := 48) (b := ((i : Nat) : Int)) (by omega) (by omega) (by omega) (by omega)).mp (by omega))) (fun _ => ?_)
  refine lv_aload_n B.1 B.2.1 dX6_hasOption_10 rfl (lv_at hl 0 rfl) ?_
  refine gf_X6_42 B Y 0 rfl rfl dX6_hasOption_11 ?_
  refine lv_iload_n B.1 B.2.1 dX6_hasOption_14 rfl (lv_at hl 1 rfl) ?_
  refine b_zald (j := i) (v := (iI ((op) i))) B Y 1 rfl (iI_pos (by omega)) (iI_clamp (by omega)) (by omega) rfl dX6_hasOption_15 ?_
  refine lv_if_eq (tgt := 23) B.1 B.2.1 dX6_hasOption_16 (by decide) (fun c1 => ?_) (fun c1 => ?_)
  · have c1 := (iI_eq0 (a := (op) i) (by omega) (by omega)).mp c1
    refine lv_iconst (v := (iI (0))) B.1 B.2.1 dX6_hasOption_23 (by decide) ?_
    exact eZ B hr hlk Y (by decide) () (congrArg iI (show (0 : Int) = op i by omega)) [0, 1] (by decide) rfl (Nat.le_of_ble_eq_true rfl) (Nat.le_of_ble_eq_true rfl) dX6_hasOption_24
  · have c1 := mt (iI_eq0 (a := (op) i) (by omega) (by omega)).mpr c1
    refine lv_iconst (v := (iI (1))) B.1 B.2.1 dX6_hasOption_19 (by decide) ?_
    refine lv_goto (tgt := 24) B.1 B.2.1 dX6_hasOption_20 (by decide) ?_
    exact eZ B hr hlk Y (by decide) () (congrArg iI (show (1 : Int) = op i by omega)) [0, 1] (by decide) rfl (Nat.le_of_ble_eq_true rfl) (Nat.le_of_ble_eq_true rfl) dX6_hasOption_24

set_option maxHeartbeats 4000000 in
set_option maxRecDepth 100000 in
theorem k_isTooMany_d (l : Launch) (D : va_G) (τ : Nat → ClassId) (sz : Nat) (rd ri rk rn ro rt L : Nat) (pl io er ea cn : Int) (ty : Nat → Int) (k : Nat) (hk : k < 10) (hio : io = 0) (hty : ty 0 < 6 ∧ ty 3 < 40 ∧ 0 ≤ ty 0 ∧ 0 ≤ ty 3) : Met l yX6_isTooMany (Cond.code yX6_isTooMany cX6_isTooMany 2 (some .boolean) :: wALL) { frames := 1, cells := 0, slots := 0, locals := 21 } (Pw D τ (bl [[(rd, .inr (8, [.ref ri, .int (iI (((L : Nat) : Int))), .int (iI (pl)), .int (iI (io)), .int (iI (er)), .int (iI (ea)), .int (iI (cn)), .ref rk, .ref rn, .ref ro, .ref rt]))], [(rt, .inl (τ 0, 10, .inl (fun j => iI ((ty) j))))]]) sz [.ref rd, .int (iI ((k : Nat) : Int))]) (va_Qi (fun (r : Int32) (_ : Unit) => r = 0) (Bb D (va_A (bl [[(rd, .inr (8, [.ref ri, .int (iI (((L : Nat) : Int))), .int (iI (pl)), .int (iI (io)), .int (iI (er)), .int (iI (ea)), .int (iI (cn)), .ref rk, .ref rn, .ref ro, .ref rt]))], [(rt, .inl (τ 0, 10, .inl (fun j => iI ((ty) j))))]]) sz) (fun (_ : Unit) => [[(rd, .inr (8, [.ref ri, .int (iI (((L : Nat) : Int))), .int (iI (pl)), .int (iI (io)), .int (iI (er)), .int (iI (ea)), .int (iI (cn)), .ref rk, .ref rn, .ref ro, .ref rt]))], [(rt, .inl (τ 0, 10, .inl (fun j => iI ((ty) j))))]])) (va_A (bl [[(rd, .inr (8, [.ref ri, .int (iI (((L : Nat) : Int))), .int (iI (pl)), .int (iI (io)), .int (iI (er)), .int (iI (ea)), .int (iI (cn)), .ref rk, .ref rn, .ref ro, .ref rt]))], [(rt, .inl (τ 0, 10, .inl (fun j => iI ((ty) j))))]]) sz)) 0 0 (va_A (bl [[(rd, .inr (8, [.ref ri, .int (iI (((L : Nat) : Int))), .int (iI (pl)), .int (iI (io)), .int (iI (er)), .int (iI (ea)), .int (iI (cn)), .ref rk, .ref rn, .ref ro, .ref rt]))], [(rt, .inl (τ 0, 10, .inl (fun j => iI ((ty) j))))]]) sz) := by
  refine bodyW (by decide) (Nat.le_of_ble_eq_true rfl) (fun p e s m below meth c ls B hr hlk hin hsz Y hl => ?_)
  have hl : lv_has ls 2 [(0, .ref rd), (1, .int (iI ((k : Nat) : Int)))] := hl
  have B : CallFix p m c cX6_isTooMany 2 s _ wALL RX6 := B
  generalize va_A (bl [[(rd, .inr (8, [.ref ri, .int (iI (((L : Nat) : Int))), .int (iI (pl)), .int (iI (io)), .int (iI (er)), .int (iI (ea)), .int (iI (cn)), .ref rk, .ref rn, .ref ro, .ref rt]))], [(rt, .inl (τ 0, 10, .inl (fun j => iI ((ty) j))))]]) sz = A at Y ⊢
  refine lv_aload_n B.1 B.2.1 dX6_isTooMany_0 rfl (lv_at hl 0 rfl) ?_
  refine gf_X6_22 B Y 0 rfl rfl dX6_isTooMany_1 ?_
  refine lv_if_eq (tgt := 22) B.1 B.2.1 dX6_isTooMany_4 (by decide) (fun _ => ?_) (fun h => absurd ((iI_eq0 (a := io) (by omega) (by omega)).mpr (by omega)) h) 
  refine lv_iload_n B.1 B.2.1 dX6_isTooMany_22 rfl (lv_at hl 1 rfl) ?_
  refine lv_if_ne (tgt := 39) B.1 B.2.1 dX6_isTooMany_23 (by decide) (fun c1 => ?_) (fun c1 => ?_)
  · have c1 := mt (iI_eq0 (a := ((k : Nat) : Int)) (by omega) (by omega)).mpr c1
    refine lv_iload_n B.1 B.2.1 dX6_isTooMany_39 rfl (lv_at hl 1 rfl) ?_
    refine lv_iconst (v := (iI (3))) B.1 B.2.1 dX6_isTooMany_40 (by decide) ?_
    refine lv_icmp_ne (tgt := 61) B.1 B.2.1 dX6_isTooMany_41 (by decide) (fun c2 => ?_) (fun c2 => ?_)
    · have c2 := mt (iI_eq (a := ((k : Nat) : Int)) (b := 3) (by omega) (by omega) (by omega) (by omega)).mpr c2
      refine lv_iconst (v := (iI (0))) B.1 B.2.1 dX6_isTooMany_61 (by decide) ?_
      exact eZ B hr hlk Y (by decide) () rfl [0, 1] (by decide) rfl (Nat.le_of_ble_eq_true rfl) (Nat.le_of_ble_eq_true rfl) dX6_isTooMany_62
    · have c2 := (iI_eq (a := ((k : Nat) : Int)) (b := 3) (by omega) (by omega) (by omega) (by omega)).mp c2
      refine lv_aload_n B.1 B.2.1 dX6_isTooMany_44 rfl (lv_at hl 0 rfl) ?_
      refine gf_X6_46 B Y 0 rfl rfl dX6_isTooMany_45 ?_
      refine lv_iconst (v := (iI (3))) B.1 B.2.1 dX6_isTooMany_48 (by decide) ?_
      refine qI (Cs := [[(rt, .inl (τ 0, 10, .inl (fun j => iI ((ty) j))))]]) (Rs := [[(rd, .inr (8, [.ref ri, .int (iI (((L : Nat) : Int))), .int (iI (pl)), .int (iI (io)), .int (iI (er)), .int (iI (ea)), .int (iI (cn)), .ref rk, .ref rn, .ref ro, .ref rt]))]]) Y [1] [0] (by decide) rfl (cSN (As := [.ref rt, .int (iI (3))]) (rest := []) B Y [1] (by decide) rfl (k_valueIn l D τ _ rt 10 3 (fun j => iI ((ty) j)) (by decide) (by decide)) (Y.1.2.1 _ nw_825) q_567 q_2 q_568 rfl rfl hd_X9_valueIn ⟨(Nat.le_of_ble_eq_true rfl), (Nat.le_of_ble_eq_true rfl)⟩ rfl hl.1 rfl (Nat.le_of_ble_eq_true rfl) dX6_isTooMany_49 ⟨(Nat.le_of_ble_eq_true rfl), (Nat.le_of_ble_eq_true rfl)⟩) (fun r u H locs hw Y => ?_)
      obtain rfl := hw
      have Y : Wd D τ s A s.heap (bl [[(rt, .inl (τ 0, 10, .inl (fun j => iI ((ty) j))))], [(rd, .inr (8, [.ref ri, .int (iI (((L : Nat) : Int))), .int (iI (pl)), .int (iI (io)), .int (iI (er)), .int (iI (ea)), .int (iI (cn)), .ref rk, .ref rn, .ref ro, .ref rt]))]]) _ _ := Y
      refine lv_bipush (v := (iI (40))) B.1 B.2.1 dX6_isTooMany_52 (by decide) ?_
      refine lv_icmp_lt (tgt := 61) B.1 B.2.1 dX6_isTooMany_54 (by decide) (fun _ => ?_) (fun h => absurd ((iI_lt (a := (ty) 3) (b := 40) (by omega) (by omega) (by omega) (by omega)).mpr (by omega)) h) 
      refine lv_iconst (v := (iI (0))) B.1 B.2.1 dX6_isTooMany_61 (by decide) ?_
      exact eZ B hr hlk Y (by decide) () rfl [1, 0] (by decide) rfl (Nat.le_of_ble_eq_true rfl) (Nat.le_of_ble_eq_true rfl) dX6_isTooMany_62
  · have c1 := (iI_eq0 (a := ((k : Nat) : Int)) (by omega) (by omega)).mp c1
    refine lv_aload_n B.1 B.2.1 dX6_isTooMany_26 rfl (lv_at hl 0 rfl) ?_
    refine gf_X6_46 B Y 0 rfl rfl dX6_isTooMany_27 ?_
    refine lv_iconst (v := (iI (0))) B.1 B.2.1 dX6_isTooMany_30 (by decide) ?_
    refine qI (Cs := [[(rt, .inl (τ 0, 10, .inl (fun j => iI ((ty) j))))]]) (Rs := [[(rd, .inr (8, [.ref ri, .int (iI (((L : Nat) : Int))), .int (iI (pl)), .int (iI (io)), .int (iI (er)), .int (iI (ea)), .int (iI (cn)), .ref rk, .ref rn, .ref ro, .ref rt]))]]) Y [1] [0] (by decide) rfl (cSN (As := [.ref rt, .int (iI (0))]) (rest := []) B Y [1] (by decide) rfl (k_valueIn l D τ _ rt 10 0 (fun j => iI ((ty) j)) (by decide) (by decide)) (Y.1.2.1 _ nw_825) q_567 q_2 q_568 rfl rfl hd_X9_valueIn ⟨(Nat.le_of_ble_eq_true rfl), (Nat.le_of_ble_eq_true rfl)⟩ rfl hl.1 rfl (Nat.le_of_ble_eq_true rfl) dX6_isTooMany_31 ⟨(Nat.le_of_ble_eq_true rfl), (Nat.le_of_ble_eq_true rfl)⟩) (fun r u H locs hw Y => ?_)
    obtain rfl := hw
    have Y : Wd D τ s A s.heap (bl [[(rt, .inl (τ 0, 10, .inl (fun j => iI ((ty) j))))], [(rd, .inr (8, [.ref ri, .int (iI (((L : Nat) : Int))), .int (iI (pl)), .int (iI (io)), .int (iI (er)), .int (iI (ea)), .int (iI (cn)), .ref rk, .ref rn, .ref ro, .ref rt]))]]) _ _ := Y
    refine lv_bipush (v := (iI (6))) B.1 B.2.1 dX6_isTooMany_34 (by decide) ?_
    refine lv_icmp_ge (tgt := 57) B.1 B.2.1 dX6_isTooMany_36 (by decide) (fun h => absurd h (mt (iI_le (a := 6) (b := (ty) 0) (by omega) (by omega) (by omega) (by omega)).mp (by omega))) (fun _ => ?_)
    refine lv_iload_n B.1 B.2.1 dX6_isTooMany_39 rfl (lv_at hl 1 rfl) ?_
    refine lv_iconst (v := (iI (3))) B.1 B.2.1 dX6_isTooMany_40 (by decide) ?_
    refine lv_icmp_ne (tgt := 61) B.1 B.2.1 dX6_isTooMany_41 (by decide) (fun c5 => ?_) (fun c5 => ?_)
    · have c5 := mt (iI_eq (a := ((k : Nat) : Int)) (b := 3) (by omega) (by omega) (by omega) (by omega)).mpr c5
      refine lv_iconst (v := (iI (0))) B.1 B.2.1 dX6_isTooMany_61 (by decide) ?_
      exact eZ B hr hlk Y (by decide) () rfl [1, 0] (by decide) rfl (Nat.le_of_ble_eq_true rfl) (Nat.le_of_ble_eq_true rfl) dX6_isTooMany_62
    · have c5 := (iI_eq (a := ((k : Nat) : Int)) (b := 3) (by omega) (by omega) (by omega) (by omega)).mp c5
      refine lv_aload_n B.1 B.2.1 dX6_isTooMany_44 rfl (lv_at hl 0 rfl) ?_
      refine gf_X6_46 B Y 1 rfl rfl dX6_isTooMany_45 ?_
      refine lv_iconst (v := (iI (3))) B.1 B.2.1 dX6_isTooMany_48 (by decide) ?_
      refine qI (Cs := [[(rt, .inl (τ 0, 10, .inl (fun j => iI ((ty) j))))]]) (Rs := [[(rd, .inr (8, [.ref ri, .int (iI (((L : Nat) : Int))), .int (iI (pl)), .int (iI (io)), .int (iI (er)), .int (iI (ea)), .int (iI (cn)), .ref rk, .ref rn, .ref ro, .ref rt]))]]) Y [0] [1] (by decide) rfl (cSN (As := [.ref rt, .int (iI (3))]) (rest := []) B Y [0] (by decide) rfl (k_valueIn l D τ _ rt 10 3 (fun j => iI ((ty) j)) (by decide) (by decide)) (Y.1.2.1 _ nw_825) q_567 q_2 q_568 rfl rfl hd_X9_valueIn ⟨(Nat.le_of_ble_eq_true rfl), (Nat.le_of_ble_eq_true rfl)⟩ rfl hl.1 rfl (Nat.le_of_ble_eq_true rfl) dX6_isTooMany_49 ⟨(Nat.le_of_ble_eq_true rfl), (Nat.le_of_ble_eq_true rfl)⟩) (fun r u H locs hw Y => ?_)
      obtain rfl := hw
      have Y : Wd D τ s A s.heap (bl [[(rt, .inl (τ 0, 10, .inl (fun j => iI ((ty) j))))], [(rd, .inr (8, [.ref ri, .int (iI (((L : Nat) : Int))), .int (iI (pl)), .int (iI (io)), .int (iI (er)), .int (iI (ea)), .int (iI (cn)), .ref rk, .ref rn, .ref ro, .ref rt]))]]) _ _ := Y
      refine lv_bipush (v := (iI (40))) B.1 B.2.1 dX6_isTooMany_52 (by decide) ?_
      refine lv_icmp_lt (tgt := 61) B.1 B.2.1 dX6_isTooMany_54 (by decide) (fun _ => ?_) (fun h => absurd ((iI_lt (a := (ty) 3) (b := 40) (by omega) (by omega) (by omega) (by omega)).mpr (by omega)) h) 
      refine lv_iconst (v := (iI (0))) B.1 B.2.1 dX6_isTooMany_61 (by decide) ?_
      exact eZ B hr hlk Y (by decide) () rfl [1, 0] (by decide) rfl (Nat.le_of_ble_eq_true rfl) (Nat.le_of_ble_eq_true rfl) dX6_isTooMany_62

set_option maxHeartbeats 4000000 in
set_option maxRecDepth 100000 in
theorem k_isTooMany_o (l : Launch) (D : va_G) (τ : Nat → ClassId) (sz : Nat) (rd ri rk rn ro rt L : Nat) (pl io er ea cn : Int) (ty : Nat → Int) (k : Nat) (hk : k < 10) (hio : io = 1) (hcn : 0 ≤ cn ∧ cn < 30) : Met l yX6_isTooMany (Cond.code yX6_isTooMany cX6_isTooMany 2 (some .boolean) :: wALL) { frames := 1, cells := 0, slots := 0, locals := 21 } (Pw D τ (bl [[(rd, .inr (8, [.ref ri, .int (iI (((L : Nat) : Int))), .int (iI (pl)), .int (iI (io)), .int (iI (er)), .int (iI (ea)), .int (iI (cn)), .ref rk, .ref rn, .ref ro, .ref rt]))], [(rt, .inl (τ 0, 10, .inl (fun j => iI ((ty) j))))]]) sz [.ref rd, .int (iI ((k : Nat) : Int))]) (va_Qi (fun (r : Int32) (_ : Unit) => r = 0) (Bb D (va_A (bl [[(rd, .inr (8, [.ref ri, .int (iI (((L : Nat) : Int))), .int (iI (pl)), .int (iI (io)), .int (iI (er)), .int (iI (ea)), .int (iI (cn)), .ref rk, .ref rn, .ref ro, .ref rt]))], [(rt, .inl (τ 0, 10, .inl (fun j => iI ((ty) j))))]]) sz) (fun (_ : Unit) => [[(rd, .inr (8, [.ref ri, .int (iI (((L : Nat) : Int))), .int (iI (pl)), .int (iI (io)), .int (iI (er)), .int (iI (ea)), .int (iI (cn)), .ref rk, .ref rn, .ref ro, .ref rt]))], [(rt, .inl (τ 0, 10, .inl (fun j => iI ((ty) j))))]])) (va_A (bl [[(rd, .inr (8, [.ref ri, .int (iI (((L : Nat) : Int))), .int (iI (pl)), .int (iI (io)), .int (iI (er)), .int (iI (ea)), .int (iI (cn)), .ref rk, .ref rn, .ref ro, .ref rt]))], [(rt, .inl (τ 0, 10, .inl (fun j => iI ((ty) j))))]]) sz)) 0 0 (va_A (bl [[(rd, .inr (8, [.ref ri, .int (iI (((L : Nat) : Int))), .int (iI (pl)), .int (iI (io)), .int (iI (er)), .int (iI (ea)), .int (iI (cn)), .ref rk, .ref rn, .ref ro, .ref rt]))], [(rt, .inl (τ 0, 10, .inl (fun j => iI ((ty) j))))]]) sz) := by
  refine bodyW (by decide) (Nat.le_of_ble_eq_true rfl) (fun p e s m below meth c ls B hr hlk hin hsz Y hl => ?_)
  have hl : lv_has ls 2 [(0, .ref rd), (1, .int (iI ((k : Nat) : Int)))] := hl
  have B : CallFix p m c cX6_isTooMany 2 s _ wALL RX6 := B
  generalize va_A (bl [[(rd, .inr (8, [.ref ri, .int (iI (((L : Nat) : Int))), .int (iI (pl)), .int (iI (io)), .int (iI (er)), .int (iI (ea)), .int (iI (cn)), .ref rk, .ref rn, .ref ro, .ref rt]))], [(rt, .inl (τ 0, 10, .inl (fun j => iI ((ty) j))))]]) sz = A at Y ⊢
  refine lv_aload_n B.1 B.2.1 dX6_isTooMany_0 rfl (lv_at hl 0 rfl) ?_
  refine gf_X6_22 B Y 0 rfl rfl dX6_isTooMany_1 ?_
  refine lv_if_eq (tgt := 22) B.1 B.2.1 dX6_isTooMany_4 (by decide) (fun h => absurd h (mt (iI_eq0 (a := io) (by omega) (by omega)).mp (by omega))) (fun _ => ?_)
  refine lv_aload_n B.1 B.2.1 dX6_isTooMany_7 rfl (lv_at hl 0 rfl) ?_
  refine gf_X6_32 B Y 0 rfl rfl dX6_isTooMany_8 ?_
  refine lv_bipush (v := (iI (30))) B.1 B.2.1 dX6_isTooMany_11 (by decide) ?_
  refine lv_icmp_lt (tgt := 20) B.1 B.2.1 dX6_isTooMany_13 (by decide) (fun _ => ?_) (fun h => absurd ((iI_lt (a := cn) (b := 30) (by omega) (by omega) (by omega) (by omega)).mpr (by omega)) h) 
  refine lv_iconst (v := (iI (0))) B.1 B.2.1 dX6_isTooMany_20 (by decide) ?_
  exact eZ B hr hlk Y (by decide) () rfl [0, 1] (by decide) rfl (Nat.le_of_ble_eq_true rfl) (Nat.le_of_ble_eq_true rfl) dX6_isTooMany_21

