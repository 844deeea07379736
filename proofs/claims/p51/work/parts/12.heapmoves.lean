theorem iI_mx {a b : Int} (h1 : -2147483648 ≤ a) (h2 : a < 2147483648) (h3 : -2147483648 ≤ b) (h4 : b < 2147483648) : (if iI a < iI b then iI b else iI a) = iI (max a b) := by
  by_cases h : a < b
  · rw [if_pos ((iI_lt h1 h2 h3 h4).mpr h)]; congr 1; omega
  · rw [if_neg (mt (iI_lt h1 h2 h3 h4).mp h)]; congr 1; omega
theorem iI_mn {a b : Int} (h1 : -2147483648 ≤ a) (h2 : a < 2147483648) (h3 : -2147483648 ≤ b) (h4 : b < 2147483648) : (if iI b < iI a then iI b else iI a) = iI (min a b) := by
  by_cases h : b < a
  · rw [if_pos ((iI_lt h3 h4 h1 h2).mpr h)]; congr 1; omega
  · rw [if_neg (mt (iI_lt h3 h4 h1 h2).mp h)]; congr 1; omega
def upz (g : Nat → Int) (j : Nat) (z : Int) : Nat → Int := fun k => if k = j then z else g k
theorem upz_ok {g : Nat → Int} {j : Nat} {z : Int} : upd (fun k => iI (g k)) j (iI z) = fun k => iI (upz g j z k) := by
  funext k; unfold upd upz; split <;> rfl
def cpz (f g : Nat → Int) (n : Nat) : Nat → Int := fun k => if k < n then f k else g k
theorem cpz_ok {f g : Nat → Int} {n : Nat} : va_cpy (fun k => iI (f k)) (fun k => iI (g k)) 0 0 n = fun k => iI (cpz f g n k) := by
  funext k
  unfold va_cpy cpz
  by_cases h : k < n
  · rw [if_pos ⟨Nat.zero_le _, by omega⟩, if_pos h]; congr 2; omega
  · rw [if_neg (by omega), if_neg h]
theorem HpRep.step {T : Int} {n : Nat} {g : Nat → Int32} {V V2 : Int → Int} {i : Nat} {x : Int} (h : HpRep T n g V) (hi : (i : Int) < T) (h0 : -1 ≤ x) (h1 : x ≤ 255) (hV : ∀ z : Int, V2 z = if z = i then x else V z) : HpRep T n (upd g i (iI x)) V2 := by
  obtain ⟨a1, a2, a3, a4, a5, a6⟩ := h
  refine ⟨a1, a2, a3, fun z hz => ?_, fun j hj => ?_, fun z => ?_⟩
  · rw [hV, if_neg (by omega)]; exact a4 z hz
  · unfold upd
    by_cases e : j = i
    · subst e; rw [if_pos rfl, hV, if_pos rfl]
    · rw [if_neg e, hV, if_neg (by omega)]; exact a5 j hj
  · rw [hV]; split
    · exact ⟨h0, h1⟩
    · exact a6 z
theorem HpRep.same {T : Int} {n : Nat} {g : Nat → Int32} {V V2 : Int → Int} (h : HpRep T n g V) (hV : ∀ z : Int, V2 z = V z) : HpRep T n g V2 := by
  have e : V2 = V := funext hV
  rw [e]; exact h
theorem HpRep.reach {tp T : Int} {n : Nat} {f g : Nat → Int32} {V : Int → Int} (h : HpRep tp n f V) (h1 : ∀ j : Nat, (j : Int) < tp → g j = f j) (h2 : ∀ j : Nat, tp ≤ j → (j : Int) < T → g j = iI (-1)) (h3 : tp ≤ T) (h4 : T ≤ n) : HpRep T n g V := by
  obtain ⟨a1, a2, a3, a4, a5, a6⟩ := h
  refine ⟨by omega, h4, a3, fun z hz => a4 z (by omega), fun j hj => ?_, a6⟩
  by_cases e : (j : Int) < tp
  · rw [h1 j e]; exact a5 j e
  · rw [h2 j (by omega) hj, a4 j (by omega)]
def tval (fill : Int) (d : Nat → Int) : Int → Int := fun z => if fill = -1 then ownB d z else fill
theorem tval_01 {fill : Int} {d : Nat → Int} (h1 : -1 ≤ fill) (h2 : fill ≤ 255) (z : Int) : 0 ≤ tval fill d z ∧ tval fill d z ≤ 255 := by
  have h := ownB_01 d z
  unfold tval
  split <;> omega
theorem tkV_0 (V val : Int → Int) (rep o z : Int) : tkV V val rep o o z = V z := if_neg (by omega)
theorem tkV_at (V val : Int → Int) (rep o z : Int) : tkV V val rep o z z = V z := if_neg (by omega)
theorem tkV_s {V val : Int → Int} {rep o i : Int} (h : o ≤ i) (z : Int) : tkV V val rep o (i + 1) z = if z = i then (if V i = -1 then val i else if rep = 0 then V i else val i) else tkV V val rep o i z := by
  unfold tkV
  by_cases e : z = i
  · subst e; rw [if_pos (by omega), if_pos rfl]
  · rw [if_neg e]
    by_cases e2 : o ≤ z ∧ z < i
    · rw [if_pos (by omega), if_pos e2]
    · rw [if_neg (by omega), if_neg e2]
theorem tkU_s {V : Int → Int} {o i : Nat} (h : o ≤ i) : tkU V o (i + 1 - o) = tkU V o (i - o) + (if V i = -1 then 1 else 0) := by
  have e : i + 1 - o = (i - o) + 1 := by omega
  have e2 : (o : Int) + ((i - o : Nat) : Int) = i := by omega
  rw [e]
  show tkU V o (i - o) + (if V ((o : Int) + ((i - o : Nat) : Int)) = -1 then 1 else 0) = _
  rw [e2]
theorem tkO_s {V val : Int → Int} {o i : Nat} (h : o ≤ i) : tkO V val o (i + 1 - o) = if V i ≠ -1 ∧ V i ≠ val i then 1 else tkO V val o (i - o) := by
  have e : i + 1 - o = (i - o) + 1 := by omega
  have e2 : (o : Int) + ((i - o : Nat) : Int) = i := by omega
  rw [e]
  show (if V ((o : Int) + ((i - o : Nat) : Int)) ≠ -1 ∧ V ((o : Int) + ((i - o : Nat) : Int)) ≠ val ((o : Int) + ((i - o : Nat) : Int)) then 1 else tkO V val o (i - o)) = _
  rw [e2]
theorem tkO_01 (V val : Int → Int) (o : Int) (t : Nat) : tkO V val o t = 0 ∨ tkO V val o t = 1 := by
  induction t with
  | zero => exact Or.inl rfl
  | succ t ih =>
    show (if V (o + t) ≠ -1 ∧ V (o + t) ≠ val (o + t) then 1 else tkO V val o t) = 0 ∨ (if V (o + t) ≠ -1 ∧ V (o + t) ≠ val (o + t) then 1 else tkO V val o t) = 1
    split
    · exact Or.inr rfl
    · exact ih
theorem ownF_s {V : Int → Int} {d : Nat → Int} {i : Nat} (h : ownF V d i = 1) (e : V i = ownB d i) : ownF V d (i + 1) = 1 := by
  show (if V i = ownB d i then ownF V d i else 0) = 1
  rw [if_pos e]; exact h
set_option maxHeartbeats 4000000 in
set_option maxRecDepth 100000 in
theorem k_X1_byteAt (l : Launch) (D : va_G) (τ : Nat → ClassId) (sz : Nat) (b : Nat) (k : Nat → Int) (z : Int) (h1 : 0 ≤ k 1) (h2 : k 1 ≤ 255) (h3 : 0 ≤ z) (h4 : z ≤ 100000) : Met l yX1_byteAt (Cond.code yX1_byteAt cX1_byteAt 2 (some .int) :: wALL) { frames := 0, cells := 0, slots := 0, locals := 0 } (Pw D τ (bl [[(b, .inr (3, [.int (iI (k 0)), .int (iI (k 1)), .int (iI (k 2)), .int (iI (k 3)), .int (iI (k 4)), .int (iI (k 5)), .int (iI (k 6)), .int (iI (k 7))]))]]) sz [.ref b, .int (iI (z))]) (va_Qi (fun (r : Int32) (_ : Unit) => r = iI (ownB k z)) (Bb D (va_A (bl [[(b, .inr (3, [.int (iI (k 0)), .int (iI (k 1)), .int (iI (k 2)), .int (iI (k 3)), .int (iI (k 4)), .int (iI (k 5)), .int (iI (k 6)), .int (iI (k 7))]))]]) sz) (fun (_ : Unit) => [[(b, .inr (3, [.int (iI (k 0)), .int (iI (k 1)), .int (iI (k 2)), .int (iI (k 3)), .int (iI (k 4)), .int (iI (k 5)), .int (iI (k 6)), .int (iI (k 7))]))]])) (va_A (bl [[(b, .inr (3, [.int (iI (k 0)), .int (iI (k 1)), .int (iI (k 2)), .int (iI (k 3)), .int (iI (k 4)), .int (iI (k 5)), .int (iI (k 6)), .int (iI (k 7))]))]]) sz)) 0 0 (va_A (bl [[(b, .inr (3, [.int (iI (k 0)), .int (iI (k 1)), .int (iI (k 2)), .int (iI (k 3)), .int (iI (k 4)), .int (iI (k 5)), .int (iI (k 6)), .int (iI (k 7))]))]]) sz) := by
  refine bodyW (by decide) (Nat.le_of_ble_eq_true rfl) (fun p e s m below meth c ls B hr hlk hin hsz Y hl => ?_)
  have hl : lv_has ls 2 [(0, .ref b), (1, .int (iI (z)))] := hl
  have B : CallFix p m c cX1_byteAt 2 s _ wALL RX1 := B
  generalize va_A (bl [[(b, .inr (3, [.int (iI (k 0)), .int (iI (k 1)), .int (iI (k 2)), .int (iI (k 3)), .int (iI (k 4)), .int (iI (k 5)), .int (iI (k 6)), .int (iI (k 7))]))]]) sz = A at Y ⊢
  refine lv_aload_n B.1 B.2.1 dX1_byteAt_0 rfl (lv_at hl 0 rfl) ?_
  refine gf_X1_15 B Y 0 rfl rfl dX1_byteAt_1 ?_
  refine lv_bipush (v := (iI (31))) B.1 B.2.1 dX1_byteAt_4 (by decide) ?_
  refine lv_iload_n B.1 B.2.1 dX1_byteAt_6 rfl (lv_at hl 1 rfl) ?_
  refine lv_imul B.1 B.2.1 dX1_byteAt_7 ?_
  refine lv_cv (v := (iI (31 * z))) (iI_mul _ _) ?_
  refine lv_iadd B.1 B.2.1 dX1_byteAt_8 ?_
  refine lv_cv (v := (iI ((k 1) + (31 * z)))) (iI_add _ _) ?_
  refine lv_sipush (v := (iI (255))) B.1 B.2.1 dX1_byteAt_9 (by decide) ?_
  refine lv_iand B.1 B.2.1 dX1_byteAt_12 ?_
  refine lv_cv (v := (iI (ownB k z))) (iI_and (by omega) (by omega)) ?_
  exact eI B hr hlk Y () rfl [0] (by decide) rfl (Nat.le_of_ble_eq_true rfl) (Nat.le_of_ble_eq_true rfl) dX1_byteAt_13

set_option maxHeartbeats 4000000 in
set_option maxRecDepth 100000 in
theorem k_X2_begin (l : Launch) (D : va_G) (τ : Nat → ClassId) (sz T0 KC KS : Nat) (a v n : Nat) (w st en kw ov ar tp : Int) (f : Nat → Int32) (x y : Int) (hn : n = 0 ∨ n = 1192) : Met l yX2_begin (Cond.code yX2_begin cX2_begin 3 none :: wALL) { frames := 0, cells := KC - sz, slots := KS - T0, locals := 0 } (Pz D τ (bl [[(a, .inr (4, [.int (iI (w)), .int (iI (st)), .int (iI (en)), .int (iI (kw)), .int (iI (ov)), .int (iI (ar)), .int (iI (tp)), .ref v]))], [(v, .inl (τ 0, n, .inl (f)))]]) sz T0 [.ref a, .int (iI (x)), .int (iI (y))] KC KS (1192 - n) (1192 - n)) (va_Qv (fun (u : (Nat × Nat × (Nat → Int32))) => u.2.1 = 1192) (Bz D (va_A (bl [[(a, .inr (4, [.int (iI (w)), .int (iI (st)), .int (iI (en)), .int (iI (kw)), .int (iI (ov)), .int (iI (ar)), .int (iI (tp)), .ref v]))], [(v, .inl (τ 0, n, .inl (f)))]]) sz) (fun (u : (Nat × Nat × (Nat → Int32))) => [[(a, .inr (4, [.int (iI (x)), .int (iI (y)), .int (iI (-1)), .int (iI (0)), .int (iI (0)), .int (iI (0)), .int (iI (0)), .ref u.1]))], [(u.1, .inl (τ 0, u.2.1, .inl (u.2.2)))]]) KC KS (fun (u : (Nat × Nat × (Nat → Int32))) => 1192 - u.2.1) (fun (u : (Nat × Nat × (Nat → Int32))) => 1192 - u.2.1)) (va_A (bl [[(a, .inr (4, [.int (iI (w)), .int (iI (st)), .int (iI (en)), .int (iI (kw)), .int (iI (ov)), .int (iI (ar)), .int (iI (tp)), .ref v]))], [(v, .inl (τ 0, n, .inl (f)))]]) sz)) (KC - sz) (KS - T0) (va_A (bl [[(a, .inr (4, [.int (iI (w)), .int (iI (st)), .int (iI (en)), .int (iI (kw)), .int (iI (ov)), .int (iI (ar)), .int (iI (tp)), .ref v]))], [(v, .inl (τ 0, n, .inl (f)))]]) sz) := by
  refine bodyZ (by decide) (Nat.le_of_ble_eq_true rfl) (fun p e s m below meth c ls B hr hlk hin hsz hT0 hz1 hz2 Y hl => ?_)
  have hl : lv_has ls 3 [(0, .ref a), (1, .int (iI (x))), (2, .int (iI (y)))] := hl
  have B : CallFix p m c cX2_begin 3 s _ wALL RX2 := B
  generalize va_A (bl [[(a, .inr (4, [.int (iI (w)), .int (iI (st)), .int (iI (en)), .int (iI (kw)), .int (iI (ov)), .int (iI (ar)), .int (iI (tp)), .ref v]))], [(v, .inl (τ 0, n, .inl (f)))]]) sz = A at Y ⊢
  refine lv_aload_n B.1 B.2.1 dX2_begin_0 rfl (lv_at hl 0 rfl) ?_
  refine gf_X2_33 B Y 0 rfl rfl dX2_begin_1 ?_
  refine b_alen (v := (iI ((n : Nat) : Int))) B Y 1 rfl 0 rfl (iI_nat _) dX2_begin_4 ?_
  refine lv_sipush (v := (iI (1192))) B.1 B.2.1 dX2_begin_5 (by decide) ?_
  refine lv_icmp_ge (tgt := 20) B.1 B.2.1 dX2_begin_8 (by decide) (fun c1 => ?_) (fun c1 => ?_)
  · have c1 := (iI_le (a := 1192) (b := ((n : Nat) : Int)) (by omega) (by omega) (by omega) (by omega)).mp c1
    refine lv_aload_n B.1 B.2.1 dX2_begin_20 rfl (lv_at hl 0 rfl) ?_
    refine lv_iload_n B.1 B.2.1 dX2_begin_21 rfl (lv_at hl 1 rfl) ?_
    refine pf_X2_11 (B' := [[(a, .inr (4, [.int (iI (x)), .int (iI (st)), .int (iI (en)), .int (iI (kw)), .int (iI (ov)), .int (iI (ar)), .int (iI (tp)), .ref v]))], [(v, .inl (τ 0, n, .inl (f)))]]) B Y 0 rfl (Nat.le_of_ble_eq_true rfl) rfl dX2_begin_22 (fun H locs Y => ?_)
    refine lv_aload_n B.1 B.2.1 dX2_begin_25 rfl (lv_at hl 0 rfl) ?_
    refine lv_iload_n B.1 B.2.1 dX2_begin_26 rfl (lv_at hl 2 rfl) ?_
    refine pf_X2_15 (B' := [[(a, .inr (4, [.int (iI (x)), .int (iI (y)), .int (iI (en)), .int (iI (kw)), .int (iI (ov)), .int (iI (ar)), .int (iI (tp)), .ref v]))], [(v, .inl (τ 0, n, .inl (f)))]]) B Y 0 rfl (Nat.le_of_ble_eq_true rfl) rfl dX2_begin_27 (fun H locs Y => ?_)
    refine lv_aload_n B.1 B.2.1 dX2_begin_30 rfl (lv_at hl 0 rfl) ?_
    refine lv_iconst (v := (iI (-1))) B.1 B.2.1 dX2_begin_31 (by decide) ?_
    refine pf_X2_18 (B' := [[(a, .inr (4, [.int (iI (x)), .int (iI (y)), .int (iI (-1)), .int (iI (kw)), .int (iI (ov)), .int (iI (ar)), .int (iI (tp)), .ref v]))], [(v, .inl (τ 0, n, .inl (f)))]]) B Y 0 rfl (Nat.le_of_ble_eq_true rfl) rfl dX2_begin_32 (fun H locs Y => ?_)
    refine lv_aload_n B.1 B.2.1 dX2_begin_35 rfl (lv_at hl 0 rfl) ?_
    refine lv_iconst (v := (iI (0))) B.1 B.2.1 dX2_begin_36 (by decide) ?_
    refine pf_X2_21 (B' := [[(a, .inr (4, [.int (iI (x)), .int (iI (y)), .int (iI (-1)), .int (iI (0)), .int (iI (ov)), .int (iI (ar)), .int (iI (tp)), .ref v]))], [(v, .inl (τ 0, n, .inl (f)))]]) B Y 0 rfl (Nat.le_of_ble_eq_true rfl) rfl dX2_begin_37 (fun H locs Y => ?_)
    refine lv_aload_n B.1 B.2.1 dX2_begin_40 rfl (lv_at hl 0 rfl) ?_
    refine lv_iconst (v := (iI (0))) B.1 B.2.1 dX2_begin_41 (by decide) ?_
    refine pf_X2_24 (B' := [[(a, .inr (4, [.int (iI (x)), .int (iI (y)), .int (iI (-1)), .int (iI (0)), .int (iI (0)), .int (iI (ar)), .int (iI (tp)), .ref v]))], [(v, .inl (τ 0, n, .inl (f)))]]) B Y 0 rfl (Nat.le_of_ble_eq_true rfl) rfl dX2_begin_42 (fun H locs Y => ?_)
    refine lv_aload_n B.1 B.2.1 dX2_begin_45 rfl (lv_at hl 0 rfl) ?_
    refine lv_iconst (v := (iI (0))) B.1 B.2.1 dX2_begin_46 (by decide) ?_
    refine pf_X2_27 (B' := [[(a, .inr (4, [.int (iI (x)), .int (iI (y)), .int (iI (-1)), .int (iI (0)), .int (iI (0)), .int (iI (0)), .int (iI (tp)), .ref v]))], [(v, .inl (τ 0, n, .inl (f)))]]) B Y 0 rfl (Nat.le_of_ble_eq_true rfl) rfl dX2_begin_47 (fun H locs Y => ?_)
    refine lv_aload_n B.1 B.2.1 dX2_begin_50 rfl (lv_at hl 0 rfl) ?_
    refine lv_iconst (v := (iI (0))) B.1 B.2.1 dX2_begin_51 (by decide) ?_
    refine pf_X2_30 (B' := [[(a, .inr (4, [.int (iI (x)), .int (iI (y)), .int (iI (-1)), .int (iI (0)), .int (iI (0)), .int (iI (0)), .int (iI (0)), .ref v]))], [(v, .inl (τ 0, n, .inl (f)))]]) B Y 0 rfl (Nat.le_of_ble_eq_true rfl) rfl dX2_begin_52 (fun H locs Y => ?_)
    have hu : n = 1192 := by omega
    exact eVz (w1 := fun (u : (Nat × Nat × (Nat → Int32))) => [[(a, .inr (4, [.int (iI (x)), .int (iI (y)), .int (iI (-1)), .int (iI (0)), .int (iI (0)), .int (iI (0)), .int (iI (0)), .ref u.1]))], [(u.1, .inl (τ 0, u.2.1, .inl (u.2.2)))]]) B hr hlk Y (v, n, f) hu [0, 1] (by decide) rfl (by show _ + _ + (1192 - n) ≤ KC; omega) (by show _ + _ + (1192 - n) ≤ KS; omega) dX2_begin_55
  · have c1 := mt (iI_le (a := 1192) (b := ((n : Nat) : Int)) (by omega) (by omega) (by omega) (by omega)).mpr c1
    refine lv_aload_n B.1 B.2.1 dX2_begin_11 rfl (lv_at hl 0 rfl) ?_
    refine lv_sipush (v := (iI (1192))) B.1 B.2.1 dX2_begin_12 (by decide) ?_
    refine b_newi (N' := 1192) B Y q_80 (by decide) (by decide) (by decide) (by show _ ≤ KC - s.heap.size; omega) (by show _ ≤ KS - totS s.heap; omega) dX2_begin_15 (fun v2 H Y => ?_)
    have Y : Wd D τ s A s.heap (bl [[(a, .inr (4, [.int (iI (w)), .int (iI (st)), .int (iI (en)), .int (iI (kw)), .int (iI (ov)), .int (iI (ar)), .int (iI (tp)), .ref v]))], [(v, .inl (τ 0, n, .inl (f)))], [(v2, .inl (τ 0, 1192, .inl (fun _ => 0)))]]) _ _ := Y
    refine pf_X2_33 (B' := [[(a, .inr (4, [.int (iI (w)), .int (iI (st)), .int (iI (en)), .int (iI (kw)), .int (iI (ov)), .int (iI (ar)), .int (iI (tp)), .ref v2]))], [(v, .inl (τ 0, n, .inl (f)))], [(v2, .inl (τ 0, 1192, .inl (fun _ => 0)))]]) B Y rfl rfl 0 rfl (Nat.le_of_ble_eq_true rfl) rfl dX2_begin_17 (fun H locs Y => ?_)
    refine lv_aload_n B.1 B.2.1 dX2_begin_20 rfl (lv_at hl 0 rfl) ?_
    refine lv_iload_n B.1 B.2.1 dX2_begin_21 rfl (lv_at hl 1 rfl) ?_
    refine pf_X2_11 (B' := [[(a, .inr (4, [.int (iI (x)), .int (iI (st)), .int (iI (en)), .int (iI (kw)), .int (iI (ov)), .int (iI (ar)), .int (iI (tp)), .ref v2]))], [(v, .inl (τ 0, n, .inl (f)))], [(v2, .inl (τ 0, 1192, .inl (fun _ => 0)))]]) B Y 0 rfl (Nat.le_of_ble_eq_true rfl) rfl dX2_begin_22 (fun H locs Y => ?_)
    refine lv_aload_n B.1 B.2.1 dX2_begin_25 rfl (lv_at hl 0 rfl) ?_
    refine lv_iload_n B.1 B.2.1 dX2_begin_26 rfl (lv_at hl 2 rfl) ?_
    refine pf_X2_15 (B' := [[(a, .inr (4, [.int (iI (x)), .int (iI (y)), .int (iI (en)), .int (iI (kw)), .int (iI (ov)), .int (iI (ar)), .int (iI (tp)), .ref v2]))], [(v, .inl (τ 0, n, .inl (f)))], [(v2, .inl (τ 0, 1192, .inl (fun _ => 0)))]]) B Y 0 rfl (Nat.le_of_ble_eq_true rfl) rfl dX2_begin_27 (fun H locs Y => ?_)
    refine lv_aload_n B.1 B.2.1 dX2_begin_30 rfl (lv_at hl 0 rfl) ?_
    refine lv_iconst (v := (iI (-1))) B.1 B.2.1 dX2_begin_31 (by decide) ?_
    refine pf_X2_18 (B' := [[(a, .inr (4, [.int (iI (x)), .int (iI (y)), .int (iI (-1)), .int (iI (kw)), .int (iI (ov)), .int (iI (ar)), .int (iI (tp)), .ref v2]))], [(v, .inl (τ 0, n, .inl (f)))], [(v2, .inl (τ 0, 1192, .inl (fun _ => 0)))]]) B Y 0 rfl (Nat.le_of_ble_eq_true rfl) rfl dX2_begin_32 (fun H locs Y => ?_)
    refine lv_aload_n B.1 B.2.1 dX2_begin_35 rfl (lv_at hl 0 rfl) ?_
    refine lv_iconst (v := (iI (0))) B.1 B.2.1 dX2_begin_36 (by decide) ?_
    refine pf_X2_21 (B' := [[(a, .inr (4, [.int (iI (x)), .int (iI (y)), .int (iI (-1)), .int (iI (0)), .int (iI (ov)), .int (iI (ar)), .int (iI (tp)), .ref v2]))], [(v, .inl (τ 0, n, .inl (f)))], [(v2, .inl (τ 0, 1192, .inl (fun _ => 0)))]]) B Y 0 rfl (Nat.le_of_ble_eq_true rfl) rfl dX2_begin_37 (fun H locs Y => ?_)
    refine lv_aload_n B.1 B.2.1 dX2_begin_40 rfl (lv_at hl 0 rfl) ?_
    refine lv_iconst (v := (iI (0))) B.1 B.2.1 dX2_begin_41 (by decide) ?_
    refine pf_X2_24 (B' := [[(a, .inr (4, [.int (iI (x)), .int (iI (y)), .int (iI (-1)), .int (iI (0)), .int (iI (0)), .int (iI (ar)), .int (iI (tp)), .ref v2]))], [(v, .inl (τ 0, n, .inl (f)))], [(v2, .inl (τ 0, 1192, .inl (fun _ => 0)))]]) B Y 0 rfl (Nat.le_of_ble_eq_true rfl) rfl dX2_begin_42 (fun H locs Y => ?_)
    refine lv_aload_n B.1 B.2.1 dX2_begin_45 rfl (lv_at hl 0 rfl) ?_
    refine lv_iconst (v := (iI (0))) B.1 B.2.1 dX2_begin_46 (by decide) ?_
    refine pf_X2_27 (B' := [[(a, .inr (4, [.int (iI (x)), .int (iI (y)), .int (iI (-1)), .int (iI (0)), .int (iI (0)), .int (iI (0)), .int (iI (tp)), .ref v2]))], [(v, .inl (τ 0, n, .inl (f)))], [(v2, .inl (τ 0, 1192, .inl (fun _ => 0)))]]) B Y 0 rfl (Nat.le_of_ble_eq_true rfl) rfl dX2_begin_47 (fun H locs Y => ?_)
    refine lv_aload_n B.1 B.2.1 dX2_begin_50 rfl (lv_at hl 0 rfl) ?_
    refine lv_iconst (v := (iI (0))) B.1 B.2.1 dX2_begin_51 (by decide) ?_
    refine pf_X2_30 (B' := [[(a, .inr (4, [.int (iI (x)), .int (iI (y)), .int (iI (-1)), .int (iI (0)), .int (iI (0)), .int (iI (0)), .int (iI (0)), .ref v2]))], [(v, .inl (τ 0, n, .inl (f)))], [(v2, .inl (τ 0, 1192, .inl (fun _ => 0)))]]) B Y 0 rfl (Nat.le_of_ble_eq_true rfl) rfl dX2_begin_52 (fun H locs Y => ?_)
    exact eVz (w1 := fun (u : (Nat × Nat × (Nat → Int32))) => [[(a, .inr (4, [.int (iI (x)), .int (iI (y)), .int (iI (-1)), .int (iI (0)), .int (iI (0)), .int (iI (0)), .int (iI (0)), .ref u.1]))], [(u.1, .inl (τ 0, u.2.1, .inl (u.2.2)))]]) B hr hlk Y (v2, 1192, fun _ => 0) rfl [0, 2] (by decide) rfl (by show _ + _ + (1192 - 1192) ≤ KC; omega) (by show _ + _ + (1192 - 1192) ≤ KS; omega) dX2_begin_55

set_option maxHeartbeats 4000000 in
set_option maxRecDepth 100000 in
theorem k_X2_reach (l : Launch) (D : va_G) (τ : Nat → ClassId) (sz : Nat) (a v n : Nat) (w st en kw ov ar tp : Int) (f : Nat → Int32) (V : Int → Int) (hR : HpRep tp n f V) (la : Nat) (hl1 : la ≤ n) : Met l yX2_reach (Cond.code yX2_reach cX2_reach 3 none :: wALL) { frames := 1, cells := 0, slots := 0, locals := 60 } (Pw D τ (bl [[(a, .inr (4, [.int (iI (w)), .int (iI (st)), .int (iI (en)), .int (iI (kw)), .int (iI (ov)), .int (iI (ar)), .int (iI (tp)), .ref v]))], [(v, .inl (τ 0, n, .inl (f)))]]) sz [.ref a, .int (iI ((la : Nat) : Int))]) (va_Qv (fun (u : (Nat → Int32)) => HpRep (max tp la) n u V) (Bb D (va_A (bl [[(a, .inr (4, [.int (iI (w)), .int (iI (st)), .int (iI (en)), .int (iI (kw)), .int (iI (ov)), .int (iI (ar)), .int (iI (tp)), .ref v]))], [(v, .inl (τ 0, n, .inl (f)))]]) sz) (fun (u : (Nat → Int32)) => [[(a, .inr (4, [.int (iI (w)), .int (iI (st)), .int (iI (en)), .int (iI (kw)), .int (iI (ov)), .int (iI (ar)), .int (iI (max tp la)), .ref v]))], [(v, .inl (τ 0, n, .inl (u)))]])) (va_A (bl [[(a, .inr (4, [.int (iI (w)), .int (iI (st)), .int (iI (en)), .int (iI (kw)), .int (iI (ov)), .int (iI (ar)), .int (iI (tp)), .ref v]))], [(v, .inl (τ 0, n, .inl (f)))]]) sz)) 0 0 (va_A (bl [[(a, .inr (4, [.int (iI (w)), .int (iI (st)), .int (iI (en)), .int (iI (kw)), .int (iI (ov)), .int (iI (ar)), .int (iI (tp)), .ref v]))], [(v, .inl (τ 0, n, .inl (f)))]]) sz) := by
  refine bodyW (by decide) (Nat.le_of_ble_eq_true rfl) (fun p e s m below meth c ls B hr hlk hin hsz Y hl => ?_)
  have hl : lv_has ls 3 [(0, .ref a), (1, .int (iI ((la : Nat) : Int)))] := hl
  have B : CallFix p m c cX2_reach 3 s _ wALL RX2 := B
  generalize va_A (bl [[(a, .inr (4, [.int (iI (w)), .int (iI (st)), .int (iI (en)), .int (iI (kw)), .int (iI (ov)), .int (iI (ar)), .int (iI (tp)), .ref v]))], [(v, .inl (τ 0, n, .inl (f)))]]) sz = A at Y ⊢
  have q0 := hR
  obtain ⟨r1, r2, r3, r4, r5, r6⟩ := q0
  obtain ⟨t, ht⟩ : ∃ t : Nat, tp = t := ⟨tp.toNat, by omega⟩
  obtain ⟨NN, hNN⟩ : ∃ k : Nat, k = max t la := ⟨_, rfl⟩
  refine lv_aload_n B.1 B.2.1 dX2_reach_0 rfl (lv_at hl 0 rfl) ?_
  refine gf_X2_30 B Y 0 rfl rfl dX2_reach_1 ?_
  refine lv_istore_n (lv' := [(2, .int (iI (tp))), (0, .ref a), (1, .int (iI ((la : Nat) : Int)))]) B.1 B.2.1 dX2_reach_4 rfl hl (by decide) rfl (fun ls hl => ?_)
  have hl : lv_has ls 3 [(0, .ref a), (1, .int (iI ((la : Nat) : Int))), (2, .int (iI ((t : Nat) : Int)))] := by rw [← ht]; exact lv_sub hl [1, 2, 0] rfl
  refine loopW (n := NN) (P := fun (i : Nat) (H : Heap) (locs : List Loc) (ls : Array Slot) => ∃ g : Nat → Int32, (∀ j : Nat, (j : Int) < tp → g j = f j) ∧ (∀ j : Nat, tp ≤ j → j < i → g j = iI (-1)) ∧ (t ≤ i) ∧ lv_has ls 3 [(0, .ref a), (1, .int (iI ((la : Nat) : Int))), (2, .int (iI ((i : Nat) : Int)))] ∧ Wd D τ s A s.heap (bl [[(a, .inr (4, [.int (iI (w)), .int (iI (st)), .int (iI (en)), .int (iI (kw)), .int (iI (ov)), .int (iI (ar)), .int (iI (tp)), .ref v]))], [(v, .inl (τ 0, n, .inl (g)))]]) H locs) t (by omega) ⟨f, (fun _ _ => rfl), (fun j h h2 => by omega), (Nat.le_refl _), lv_sub hl [0, 1, 2] rfl, Y.pick [0, 1] (by decide) rfl⟩ (fun H locs ls hP => ?_) (fun i hlt H locs ls hP ih => ?_)
  · obtain ⟨g, g1, g2, g3, hl, Y⟩ := hP
    refine lv_iload_n B.1 B.2.1 dX2_reach_5 rfl (lv_at hl 2 rfl) ?_
    refine lv_iload_n B.1 B.2.1 dX2_reach_6 rfl (lv_at hl 1 rfl) ?_
    refine lv_icmp_ge (tgt := 32) B.1 B.2.1 dX2_reach_7 (by decide) (fun _ => ?_) (fun h => absurd ((iI_le (a := ((la : Nat) : Int)) (b := ((NN : Nat) : Int)) (by omega) (by omega) (by omega) (by omega)).mpr (by omega)) h) 
    refine lv_aload_n B.1 B.2.1 dX2_reach_32 rfl (lv_at hl 0 rfl) ?_
    refine lv_aload_n B.1 B.2.1 dX2_reach_33 rfl (lv_at hl 0 rfl) ?_
    refine gf_X2_30 B Y 0 rfl rfl dX2_reach_34 ?_
    refine lv_iload_n B.1 B.2.1 dX2_reach_37 rfl (lv_at hl 1 rfl) ?_
    refine lv_aload_n B.1 B.2.1 dX2_reach_38 rfl (lv_at hl 0 rfl) ?_
    refine gf_X2_33 B Y 0 rfl rfl dX2_reach_39 ?_
    refine b_alen (v := (iI ((n : Nat) : Int))) B Y 1 rfl 0 rfl (iI_nat _) dX2_reach_42 ?_
    refine t_mmin (v := (iI (la))) B q_617 q_618 q_1 q_619 hl.1 (Nat.le_of_ble_eq_true rfl) (Nat.le_of_ble_eq_true rfl) (Nat.le_of_ble_eq_true rfl) (Nat.le_of_ble_eq_true rfl) (by rw [iI_mn (by omega) (by omega) (by omega) (by omega)]; congr 1; omega) dX2_reach_43 ?_
    refine t_mmax (v := (iI (max tp la))) B q_1015 q_629 q_1 q_630 hl.1 (Nat.le_of_ble_eq_true rfl) (Nat.le_of_ble_eq_true rfl) (Nat.le_of_ble_eq_true rfl) (Nat.le_of_ble_eq_true rfl) (iI_mx (by omega) (by omega) (by omega) (by omega)) dX2_reach_46 ?_
    refine pf_X2_30 (B' := [[(a, .inr (4, [.int (iI (w)), .int (iI (st)), .int (iI (en)), .int (iI (kw)), .int (iI (ov)), .int (iI (ar)), .int (iI (max tp la)), .ref v]))], [(v, .inl (τ 0, n, .inl (g)))]]) B Y 0 rfl (Nat.le_of_ble_eq_true rfl) rfl dX2_reach_49 (fun H locs Y => ?_)
    exact eV B hr hlk Y g (HpRep.reach hR g1 (fun j h1 h2 => g2 j h1 (by omega)) (by omega) (by omega)) [0, 1] (by decide) rfl (Nat.le_of_ble_eq_true rfl) (Nat.le_of_ble_eq_true rfl) dX2_reach_52
  · obtain ⟨g, g1, g2, g3, hl, Y⟩ := hP
    refine lv_iload_n B.1 B.2.1 dX2_reach_5 rfl (lv_at hl 2 rfl) ?_
    refine lv_iload_n B.1 B.2.1 dX2_reach_6 rfl (lv_at hl 1 rfl) ?_
    refine lv_icmp_ge (tgt := 32) B.1 B.2.1 dX2_reach_7 (by decide) (fun h => absurd h (mt (iI_le (a := ((la : Nat) : Int)) (b := ((i : Nat) : Int)) (by omega) (by omega) (by omega) (by omega)).mp (by omega))) (fun _ => ?_)
    refine lv_iload_n B.1 B.2.1 dX2_reach_10 rfl (lv_at hl 2 rfl) ?_
    refine lv_aload_n B.1 B.2.1 dX2_reach_11 rfl (lv_at hl 0 rfl) ?_
    refine gf_X2_33 B Y 0 rfl rfl dX2_reach_12 ?_
    refine b_alen (v := (iI ((n : Nat) : Int))) B Y 1 rfl 0 rfl (iI_nat _) dX2_reach_15 ?_
    refine lv_icmp_ge (tgt := 32) B.1 B.2.1 dX2_reach_16 (by decide) (fun h => absurd h (mt (iI_le (a := ((n : Nat) : Int)) (b := ((i : Nat) : Int)) (by omega) (by omega) (by omega) (by omega)).mp (by omega))) (fun _ => ?_)
    refine lv_aload_n B.1 B.2.1 dX2_reach_19 rfl (lv_at hl 0 rfl) ?_
    refine gf_X2_33 B Y 0 rfl rfl dX2_reach_20 ?_
    refine lv_iload_n B.1 B.2.1 dX2_reach_23 rfl (lv_at hl 2 rfl) ?_
    refine lv_iconst (v := (iI (-1))) B.1 B.2.1 dX2_reach_24 (by decide) ?_
    refine b_iast (j := i) (g := upd (g) i (iI (-1))) (B' := [[(a, .inr (4, [.int (iI (w)), .int (iI (st)), .int (iI (en)), .int (iI (kw)), .int (iI (ov)), .int (iI (ar)), .int (iI (tp)), .ref v]))], [(v, .inl (τ 0, n, .inl (upd (g) i (iI (-1)))))]]) B Y 1 rfl (iI_pos (by omega)) (iI_clamp (by omega)) (by omega) rfl rfl dX2_reach_25 (fun H locs Y => ?_)
    refine lv_iinc (v := (iI (((i + 1) : Nat) : Int))) (lv' := [(2, .int (iI (((i + 1) : Nat) : Int))), (0, .ref a), (1, .int (iI ((la : Nat) : Int)))]) B.1 B.2.1 dX2_reach_26 hl (k := 2) rfl (iI_inc _) (by decide) rfl (fun ls hl => ?_)
    refine lv_goto (tgt := 5) B.1 B.2.1 dX2_reach_29 (by decide) ?_
    exact ih H locs ls ⟨(upd g i (iI (-1))), (fun j h => by unfold upd; rw [if_neg (by omega)]; exact g1 j h), (fun j h h2 => by unfold upd; split <;> first | rfl | exact g2 j h (by omega)), (by omega), lv_sub hl [1, 2, 0] rfl, Y.pick [0, 1] (by decide) rfl⟩

set_option maxHeartbeats 4000000 in
set_option maxRecDepth 100000 in
theorem k_X2_isOtherTaken (l : Launch) (D : va_G) (τ : Nat → ClassId) (sz : Nat) (a v n : Nat) (w st en kw ov ar tp : Int) (f : Nat → Int32) (V : Int → Int) (hR : HpRep tp n f V) (b : Nat) (k : Nat → Int) (o la : Nat) (fill rp : Int) (hn : n = 1192) (h1 : o < la) (h2 : la ≤ 1192) (h3 : -1 ≤ fill) (h4 : fill ≤ 255) (h5 : rp = 0 ∨ rp = 1) (h6 : 0 ≤ k 1) (h7 : k 1 ≤ 255) : Met l yX2_isOtherTaken (Cond.code yX2_isOtherTaken cX2_isOtherTaken 9 (some .boolean) :: wALL) { frames := 2, cells := 0, slots := 0, locals := 82 } (Pw D τ (bl [[(a, .inr (4, [.int (iI (w)), .int (iI (st)), .int (iI (en)), .int (iI (kw)), .int (iI (ov)), .int (iI (ar)), .int (iI (tp)), .ref v]))], [(v, .inl (τ 0, n, .inl (f)))], [(b, .inr (3, [.int (iI (k 0)), .int (iI (k 1)), .int (iI (k 2)), .int (iI (k 3)), .int (iI (k 4)), .int (iI (k 5)), .int (iI (k 6)), .int (iI (k 7))]))]]) sz [.ref a, .ref b, .int (iI ((o : Nat) : Int)), .int (iI ((la : Nat) : Int)), .int (iI (fill)), .int (iI (rp))]) (va_Qi (fun (r : Int32) (u : (Nat → Int32)) => r = iI (tkO V (tval fill k) o (la - o)) ∧ HpRep (max tp la) n u (tkV V (tval fill k) rp o la)) (Bb D (va_A (bl [[(a, .inr (4, [.int (iI (w)), .int (iI (st)), .int (iI (en)), .int (iI (kw)), .int (iI (ov)), .int (iI (ar)), .int (iI (tp)), .ref v]))], [(v, .inl (τ 0, n, .inl (f)))], [(b, .inr (3, [.int (iI (k 0)), .int (iI (k 1)), .int (iI (k 2)), .int (iI (k 3)), .int (iI (k 4)), .int (iI (k 5)), .int (iI (k 6)), .int (iI (k 7))]))]]) sz) (fun (u : (Nat → Int32)) => [[(a, .inr (4, [.int (iI (w)), .int (iI (st)), .int (iI (en)), .int (iI (kw + tkU V o (la - o))), .int (iI (ov + ((la : Int) - o - tkU V o (la - o)))), .int (iI (ar)), .int (iI (max tp la)), .ref v]))], [(v, .inl (τ 0, n, .inl (u)))], [(b, .inr (3, [.int (iI (k 0)), .int (iI (k 1)), .int (iI (k 2)), .int (iI (k 3)), .int (iI (k 4)), .int (iI (k 5)), .int (iI (k 6)), .int (iI (k 7))]))]])) (va_A (bl [[(a, .inr (4, [.int (iI (w)), .int (iI (st)), .int (iI (en)), .int (iI (kw)), .int (iI (ov)), .int (iI (ar)), .int (iI (tp)), .ref v]))], [(v, .inl (τ 0, n, .inl (f)))], [(b, .inr (3, [.int (iI (k 0)), .int (iI (k 1)), .int (iI (k 2)), .int (iI (k 3)), .int (iI (k 4)), .int (iI (k 5)), .int (iI (k 6)), .int (iI (k 7))]))]]) sz)) 0 0 (va_A (bl [[(a, .inr (4, [.int (iI (w)), .int (iI (st)), .int (iI (en)), .int (iI (kw)), .int (iI (ov)), .int (iI (ar)), .int (iI (tp)), .ref v]))], [(v, .inl (τ 0, n, .inl (f)))], [(b, .inr (3, [.int (iI (k 0)), .int (iI (k 1)), .int (iI (k 2)), .int (iI (k 3)), .int (iI (k 4)), .int (iI (k 5)), .int (iI (k 6)), .int (iI (k 7))]))]]) sz) := by
  refine bodyW (by decide) (Nat.le_of_ble_eq_true rfl) (fun p e s m below meth c ls B hr hlk hin hsz Y hl => ?_)
  have hl : lv_has ls 9 [(0, .ref a), (1, .ref b), (2, .int (iI ((o : Nat) : Int))), (3, .int (iI ((la : Nat) : Int))), (4, .int (iI (fill))), (5, .int (iI (rp)))] := hl
  have B : CallFix p m c cX2_isOtherTaken 9 s _ wALL RX2 := B
  generalize va_A (bl [[(a, .inr (4, [.int (iI (w)), .int (iI (st)), .int (iI (en)), .int (iI (kw)), .int (iI (ov)), .int (iI (ar)), .int (iI (tp)), .ref v]))], [(v, .inl (τ 0, n, .inl (f)))], [(b, .inr (3, [.int (iI (k 0)), .int (iI (k 1)), .int (iI (k 2)), .int (iI (k 3)), .int (iI (k 4)), .int (iI (k 5)), .int (iI (k 6)), .int (iI (k 7))]))]]) sz = A at Y ⊢
  have q0 := hR
  obtain ⟨r1, r2, r3, r4, r5, r6⟩ := q0
  refine lv_iconst (v := (iI (0))) B.1 B.2.1 dX2_isOtherTaken_0 (by decide) ?_
  refine lv_istore (lv' := [(6, .int (iI (0))), (0, .ref a), (1, .ref b), (2, .int (iI ((o : Nat) : Int))), (3, .int (iI ((la : Nat) : Int))), (4, .int (iI (fill))), (5, .int (iI (rp)))]) B.1 B.2.1 dX2_isOtherTaken_1 hl (by decide) rfl (fun ls hl => ?_)
  refine lv_aload_n B.1 B.2.1 dX2_isOtherTaken_3 rfl (lv_at hl 1 rfl) ?_
  refine lv_iload_n B.1 B.2.1 dX2_isOtherTaken_4 rfl (lv_at hl 4 rfl) ?_
  refine qV (Cs := [[(a, .inr (4, [.int (iI (w)), .int (iI (st)), .int (iI (en)), .int (iI (kw)), .int (iI (ov)), .int (iI (ar)), .int (iI (tp)), .ref v]))], [(v, .inl (τ 0, n, .inl (f)))]]) (Rs := [[(b, .inr (3, [.int (iI (k 0)), .int (iI (k 1)), .int (iI (k 2)), .int (iI (k 3)), .int (iI (k 4)), .int (iI (k 5)), .int (iI (k 6)), .int (iI (k 7))]))]]) Y [0, 1] [2] (by decide) rfl (cV (As := [.int (iI ((la : Nat) : Int))]) (rest := []) (q0 := 0) B Y [0, 1] (by decide) rfl (k_X2_reach l D τ _ a v n w st en kw ov ar tp (f) V hR la (by omega)) rfl rfl q_1011 q_1013 qp_27 q_12 q_1014 rfl rfl hd_X2_reach ⟨(Nat.le_of_ble_eq_true rfl), (Nat.le_of_ble_eq_true rfl)⟩ rfl hl.1 rfl (Nat.le_of_ble_eq_true rfl) dX2_isOtherTaken_5 ⟨(Nat.le_of_ble_eq_true rfl), (Nat.le_of_ble_eq_true rfl)⟩) (fun u0 H locs hw Y => ?_)
  have Y : Wd D τ s A s.heap (bl [[(a, .inr (4, [.int (iI (w)), .int (iI (st)), .int (iI (en)), .int (iI (kw)), .int (iI (ov)), .int (iI (ar)), .int (iI (max tp ((la : Nat) : Int))), .ref v]))], [(v, .inl (τ 0, n, .inl (u0)))], [(b, .inr (3, [.int (iI (k 0)), .int (iI (k 1)), .int (iI (k 2)), .int (iI (k 3)), .int (iI (k 4)), .int (iI (k 5)), .int (iI (k 6)), .int (iI (k 7))]))]]) _ _ := Y
  refine lv_iload_n B.1 B.2.1 dX2_isOtherTaken_8 rfl (lv_at hl 3 rfl) ?_
  refine lv_iconst (v := (iI (0))) B.1 B.2.1 dX2_isOtherTaken_9 (by decide) ?_
  refine t_mmax (v := (iI ((o : Nat) : Int))) B q_1015 q_629 q_1 q_630 hl.1 (Nat.le_of_ble_eq_true rfl) (Nat.le_of_ble_eq_true rfl) (Nat.le_of_ble_eq_true rfl) (Nat.le_of_ble_eq_true rfl) (by rw [iI_mx (by omega) (by omega) (by omega) (by omega)]; congr 1; omega) dX2_isOtherTaken_10 ?_
  refine lv_istore (lv' := [(7, .int (iI ((o : Nat) : Int))), (6, .int (iI (0))), (0, .ref a), (1, .ref b), (2, .int (iI ((o : Nat) : Int))), (3, .int (iI ((la : Nat) : Int))), (4, .int (iI (fill))), (5, .int (iI (rp)))]) B.1 B.2.1 dX2_isOtherTaken_13 hl (by decide) rfl (fun ls hl => ?_)
  refine loopW (n := la) (P := fun (i : Nat) (H : Heap) (locs : List Loc) (ls : Array Slot) => ∃ g : Nat → Int32, ∃ kn : Int, ∃ on : Int, ∃ oo : Int, (HpRep (max tp la) n g (tkV V (tval fill k) rp o i)) ∧ (o ≤ i) ∧ (kn = kw + tkU V o (i - o)) ∧ (on = ov + (((i : Nat) : Int) - o - tkU V o (i - o))) ∧ (oo = tkO V (tval fill k) o (i - o)) ∧ lv_has ls 9 [(0, .ref a), (1, .ref b), (2, .int (iI ((o : Nat) : Int))), (3, .int (iI ((la : Nat) : Int))), (4, .int (iI (fill))), (5, .int (iI (rp))), (6, .int (iI (oo))), (7, .int (iI ((i : Nat) : Int)))] ∧ Wd D τ s A s.heap (bl [[(a, .inr (4, [.int (iI (w)), .int (iI (st)), .int (iI (en)), .int (iI (kn)), .int (iI (on)), .int (iI (ar)), .int (iI (max tp la)), .ref v]))], [(v, .inl (τ 0, n, .inl (g)))], [(b, .inr (3, [.int (iI (k 0)), .int (iI (k 1)), .int (iI (k 2)), .int (iI (k 3)), .int (iI (k 4)), .int (iI (k 5)), .int (iI (k 6)), .int (iI (k 7))]))]]) H locs) o (by omega) ⟨u0, kw, ov, 0, (HpRep.same hw (fun z => tkV_0 V _ rp o z)), (Nat.le_refl _), (by rw [Nat.sub_self]; show kw = kw + 0; omega), (by rw [Nat.sub_self]; show ov = ov + ((o : Int) - o - 0); omega), (by rw [Nat.sub_self]; rfl), lv_sub hl [2, 3, 4, 5, 6, 7, 1, 0] rfl, Y.pick [0, 1, 2] (by decide) rfl⟩ (fun H locs ls hP => ?_) (fun i hlt H locs ls hP ih => ?_)
  · obtain ⟨g, kn, on, oo, hg, e0, e1, e2, e3, hl, Y⟩ := hP
    refine lv_iload B.1 B.2.1 dX2_isOtherTaken_15 (lv_at hl 7 rfl) ?_
    refine lv_iload_n B.1 B.2.1 dX2_isOtherTaken_17 rfl (lv_at hl 3 rfl) ?_
    refine lv_icmp_ge (tgt := 128) B.1 B.2.1 dX2_isOtherTaken_18 (by decide) (fun _ => ?_) (fun h => absurd ((iI_le (a := ((la : Nat) : Int)) (b := ((la : Nat) : Int)) (by omega) (by omega) (by omega) (by omega)).mpr (by omega)) h) 
    refine lv_iload B.1 B.2.1 dX2_isOtherTaken_128 (lv_at hl 6 rfl) ?_
    subst e1 e2 e3
    exact eZ B hr hlk Y (by rcases tkO_01 V (tval fill k) o (la - o) with h | h <;> rw [h] <;> decide) g ⟨rfl, hg⟩ [0, 1, 2] (by decide) rfl (Nat.le_of_ble_eq_true rfl) (Nat.le_of_ble_eq_true rfl) dX2_isOtherTaken_130
  · obtain ⟨g, kn, on, oo, hg, e0, e1, e2, e3, hl, Y⟩ := hP
    have hgi : g i = iI (V i) := by rw [hg.2.2.2.2.1 i (by omega), tkV_at]
    have hV := hR.2.2.2.2.2 (i : Int)
    have hv1 := tval_01 (d := k) h3 h4 (i : Int)
    have hsU := tkU_s (V := V) e0
    have hsO := tkO_s (V := V) (val := (tval fill k)) e0
    have hsV := tkV_s (V := V) (val := (tval fill k)) (rep := rp) (o := o) (i := i) (by omega)
    have hob := ownB_01 k (i : Int)
    refine lv_iload B.1 B.2.1 dX2_isOtherTaken_15 (lv_at hl 7 rfl) ?_
    refine lv_iload_n B.1 B.2.1 dX2_isOtherTaken_17 rfl (lv_at hl 3 rfl) ?_
    refine lv_icmp_ge (tgt := 128) B.1 B.2.1 dX2_isOtherTaken_18 (by decide) (fun h => absurd h (mt (iI_le (a := ((la : Nat) : Int)) (b := ((i : Nat) : Int)) (by omega) (by omega) (by omega) (by omega)).mp (by omega))) (fun _ => ?_)
    refine lv_iload B.1 B.2.1 dX2_isOtherTaken_21 (lv_at hl 7 rfl) ?_
    refine lv_aload_n B.1 B.2.1 dX2_isOtherTaken_23 rfl (lv_at hl 0 rfl) ?_
    refine gf_X2_33 B Y 0 rfl rfl dX2_isOtherTaken_24 ?_
    refine b_alen (v := (iI ((n : Nat) : Int))) B Y 1 rfl 0 rfl (iI_nat _) dX2_isOtherTaken_27 ?_
    refine lv_icmp_ge (tgt := 128) B.1 B.2.1 dX2_isOtherTaken_28 (by decide) (fun h => absurd h (mt (iI_le (a := ((n : Nat) : Int)) (b := ((i : Nat) : Int)) (by omega) (by omega) (by omega) (by omega)).mp (by omega))) (fun _ => ?_)
    refine lv_iload B.1 B.2.1 dX2_isOtherTaken_31 (lv_at hl 4 rfl) ?_
    refine lv_iconst (v := (iI (-1))) B.1 B.2.1 dX2_isOtherTaken_33 (by decide) ?_
    refine lv_icmp_ne (tgt := 46) B.1 B.2.1 dX2_isOtherTaken_34 (by decide) (fun c1 => ?_) (fun c1 => ?_)
    · have c1 := mt (iI_eq (a := fill) (b := (-1)) (by omega) (by omega) (by omega) (by omega)).mpr c1
      refine lv_iload B.1 B.2.1 dX2_isOtherTaken_46 (lv_at hl 4 rfl) ?_
      refine lv_istore (lv' := [(8, .int (iI (fill))), (0, .ref a), (1, .ref b), (2, .int (iI ((o : Nat) : Int))), (3, .int (iI ((la : Nat) : Int))), (4, .int (iI (fill))), (5, .int (iI (rp))), (6, .int (iI (oo))), (7, .int (iI ((i : Nat) : Int)))]) B.1 B.2.1 dX2_isOtherTaken_48 hl (by decide) rfl (fun ls hl => ?_)
      refine lv_aload_n B.1 B.2.1 dX2_isOtherTaken_50 rfl (lv_at hl 1 rfl) ?_
      refine gf_X2_33 B Y 0 rfl rfl dX2_isOtherTaken_51 ?_
      refine lv_iload B.1 B.2.1 dX2_isOtherTaken_54 (lv_at hl 8 rfl) ?_
      refine b_iald (j := i) (v := (iI (V i))) B Y 1 rfl (iI_pos (by omega)) (iI_clamp (by omega)) (by omega) hgi dX2_isOtherTaken_56 ?_
      refine lv_iconst (v := (iI (-1))) B.1 B.2.1 dX2_isOtherTaken_57 (by decide) ?_
      refine lv_icmp_ne (tgt := 83) B.1 B.2.1 dX2_isOtherTaken_58 (by decide) (fun c2 => ?_) (fun c2 => ?_)
      · have c2 := mt (iI_eq (a := V i) (b := (-1)) (by omega) (by omega) (by omega) (by omega)).mpr c2
        refine lv_aload_n B.1 B.2.1 dX2_isOtherTaken_83 rfl (lv_at hl 1 rfl) ?_
        refine lv_dup B.1 B.2.1 dX2_isOtherTaken_84 rfl ?_
        refine gf_X2_24 B Y 0 rfl rfl dX2_isOtherTaken_85 ?_
        refine lv_iconst (v := (iI (1))) B.1 B.2.1 dX2_isOtherTaken_88 (by decide) ?_
        refine lv_iadd B.1 B.2.1 dX2_isOtherTaken_89 ?_
        refine lv_cv (v := (iI (on + 1))) (iI_add _ _) ?_
        refine pf_X2_24 (B' := [[(a, .inr (4, [.int (iI (w)), .int (iI (st)), .int (iI (en)), .int (iI (kn)), .int (iI (on + 1)), .int (iI (ar)), .int (iI (max tp la)), .ref v]))], [(v, .inl (τ 0, n, .inl (g)))], [(b, .inr (3, [.int (iI (k 0)), .int (iI (k 1)), .int (iI (k 2)), .int (iI (k 3)), .int (iI (k 4)), .int (iI (k 5)), .int (iI (k 6)), .int (iI (k 7))]))]]) B Y 0 rfl (Nat.le_of_ble_eq_true rfl) rfl dX2_isOtherTaken_90 (fun H locs Y => ?_)
        refine lv_aload_n B.1 B.2.1 dX2_isOtherTaken_93 rfl (lv_at hl 1 rfl) ?_
        refine gf_X2_33 B Y 0 rfl rfl dX2_isOtherTaken_94 ?_
        refine lv_iload B.1 B.2.1 dX2_isOtherTaken_97 (lv_at hl 8 rfl) ?_
        refine b_iald (j := i) (v := (iI (V i))) B Y 1 rfl (iI_pos (by omega)) (iI_clamp (by omega)) (by omega) hgi dX2_isOtherTaken_99 ?_
        refine lv_iload B.1 B.2.1 dX2_isOtherTaken_100 (lv_at hl 0 rfl) ?_
        refine lv_icmp_eq (tgt := 108) B.1 B.2.1 dX2_isOtherTaken_102 (by decide) (fun c3 => ?_) (fun c3 => ?_)
        · have c3 := (iI_eq (a := V i) (b := fill) (by omega) (by omega) (by omega) (by omega)).mp c3
          refine lv_iload B.1 B.2.1 dX2_isOtherTaken_108 (lv_at hl 6 rfl) ?_
          refine lv_if_eq (tgt := 122) B.1 B.2.1 dX2_isOtherTaken_110 (by decide) (fun c4 => ?_) (fun c4 => ?_)
          · have c4 := (iI_eq0 (a := rp) (by omega) (by omega)).mp c4
            refine lv_iinc (v := (iI (((i + 1) : Nat) : Int))) (lv' := [(7, .int (iI (((i + 1) : Nat) : Int))), (8, .int (iI (fill))), (0, .ref a), (1, .ref b), (2, .int (iI ((o : Nat) : Int))), (3, .int (iI ((la : Nat) : Int))), (4, .int (iI (fill))), (5, .int (iI (rp))), (6, .int (iI (oo)))]) B.1 B.2.1 dX2_isOtherTaken_122 hl (k := 8) rfl (iI_inc _) (by decide) rfl (fun ls hl => ?_)
            refine lv_goto (tgt := 15) B.1 B.2.1 dX2_isOtherTaken_125 (by decide) ?_
            have ev : tval fill k ((i : Nat) : Int) = fill := if_neg (by omega)
            rw [if_neg (by omega)] at hsU
            rw [if_neg (by omega)] at hsO
            exact ih H locs ls ⟨g, kn, (on + 1), oo, (HpRep.same hg (fun z => by rw [show ((i + 1 : Nat) : Int) = (i : Int) + 1 from rfl, hsV z, if_neg (show ¬ V i = -1 by omega), if_pos (show rp = 0 by omega)]; split <;> first | rfl | (rename_i h; rw [h, tkV_at]))), (by omega), (by omega), (by omega), (by omega), lv_sub hl [2, 3, 4, 5, 6, 7, 8, 0] rfl, Y.pick [0, 1, 2] (by decide) rfl⟩
          · have c4 := mt (iI_eq0 (a := rp) (by omega) (by omega)).mpr c4
            refine lv_aload_n B.1 B.2.1 dX2_isOtherTaken_113 rfl (lv_at hl 1 rfl) ?_
            refine gf_X2_33 B Y 0 rfl rfl dX2_isOtherTaken_114 ?_
            refine lv_iload B.1 B.2.1 dX2_isOtherTaken_117 (lv_at hl 8 rfl) ?_
            refine lv_iload B.1 B.2.1 dX2_isOtherTaken_119 (lv_at hl 0 rfl) ?_
            refine b_iast (j := i) (g := upd (g) i (iI (fill))) (B' := [[(a, .inr (4, [.int (iI (w)), .int (iI (st)), .int (iI (en)), .int (iI (kn)), .int (iI (on + 1)), .int (iI (ar)), .int (iI (max tp la)), .ref v]))], [(v, .inl (τ 0, n, .inl (upd (g) i (iI (fill)))))], [(b, .inr (3, [.int (iI (k 0)), .int (iI (k 1)), .int (iI (k 2)), .int (iI (k 3)), .int (iI (k 4)), .int (iI (k 5)), .int (iI (k 6)), .int (iI (k 7))]))]]) B Y 1 rfl (iI_pos (by omega)) (iI_clamp (by omega)) (by omega) rfl rfl dX2_isOtherTaken_121 (fun H locs Y => ?_)
            refine lv_iinc (v := (iI (((i + 1) : Nat) : Int))) (lv' := [(7, .int (iI (((i + 1) : Nat) : Int))), (8, .int (iI (fill))), (0, .ref a), (1, .ref b), (2, .int (iI ((o : Nat) : Int))), (3, .int (iI ((la : Nat) : Int))), (4, .int (iI (fill))), (5, .int (iI (rp))), (6, .int (iI (oo)))]) B.1 B.2.1 dX2_isOtherTaken_122 hl (k := 8) rfl (iI_inc _) (by decide) rfl (fun ls hl => ?_)
            refine lv_goto (tgt := 15) B.1 B.2.1 dX2_isOtherTaken_125 (by decide) ?_
            have ev : tval fill k ((i : Nat) : Int) = fill := if_neg (by omega)
            rw [if_neg (by omega)] at hsU
            rw [if_neg (by omega)] at hsO
            exact ih H locs ls ⟨(upd g i (iI (fill))), kn, (on + 1), oo, (HpRep.step hg (by omega) (by omega) (by omega) (fun z => by rw [show ((i + 1 : Nat) : Int) = (i : Int) + 1 from rfl, hsV z, if_neg (show ¬ V i = -1 by omega), if_neg (show ¬ rp = 0 by omega), ev])), (by omega), (by omega), (by omega), (by omega), lv_sub hl [2, 3, 4, 5, 6, 7, 8, 0] rfl, Y.pick [0, 1, 2] (by decide) rfl⟩
        · have c3 := mt (iI_eq (a := V i) (b := fill) (by omega) (by omega) (by omega) (by omega)).mpr c3
          refine lv_iconst (v := (iI (1))) B.1 B.2.1 dX2_isOtherTaken_105 (by decide) ?_
          refine lv_istore (lv' := [(6, .int (iI (1))), (8, .int (iI (fill))), (0, .ref a), (1, .ref b), (2, .int (iI ((o : Nat) : Int))), (3, .int (iI ((la : Nat) : Int))), (4, .int (iI (fill))), (5, .int (iI (rp))), (7, .int (iI ((i : Nat) : Int)))]) B.1 B.2.1 dX2_isOtherTaken_106 hl (by decide) rfl (fun ls hl => ?_)
          refine lv_iload B.1 B.2.1 dX2_isOtherTaken_108 (lv_at hl 7 rfl) ?_
          refine lv_if_eq (tgt := 122) B.1 B.2.1 dX2_isOtherTaken_110 (by decide) (fun c5 => ?_) (fun c5 => ?_)
          · have c5 := (iI_eq0 (a := rp) (by omega) (by omega)).mp c5
            refine lv_iinc (v := (iI (((i + 1) : Nat) : Int))) (lv' := [(7, .int (iI (((i + 1) : Nat) : Int))), (6, .int (iI (1))), (8, .int (iI (fill))), (0, .ref a), (1, .ref b), (2, .int (iI ((o : Nat) : Int))), (3, .int (iI ((la : Nat) : Int))), (4, .int (iI (fill))), (5, .int (iI (rp)))]) B.1 B.2.1 dX2_isOtherTaken_122 hl (k := 8) rfl (iI_inc _) (by decide) rfl (fun ls hl => ?_)
            refine lv_goto (tgt := 15) B.1 B.2.1 dX2_isOtherTaken_125 (by decide) ?_
            have ev : tval fill k ((i : Nat) : Int) = fill := if_neg (by omega)
            rw [if_neg (by omega)] at hsU
            rw [if_pos (by omega)] at hsO
            exact ih H locs ls ⟨g, kn, (on + 1), 1, (HpRep.same hg (fun z => by rw [show ((i + 1 : Nat) : Int) = (i : Int) + 1 from rfl, hsV z, if_neg (show ¬ V i = -1 by omega), if_pos (show rp = 0 by omega)]; split <;> first | rfl | (rename_i h; rw [h, tkV_at]))), (by omega), (by omega), (by omega), (by omega), lv_sub hl [3, 4, 5, 6, 7, 8, 1, 0] rfl, Y.pick [0, 1, 2] (by decide) rfl⟩
          · have c5 := mt (iI_eq0 (a := rp) (by omega) (by omega)).mpr c5
            refine lv_aload_n B.1 B.2.1 dX2_isOtherTaken_113 rfl (lv_at hl 2 rfl) ?_
            refine gf_X2_33 B Y 0 rfl rfl dX2_isOtherTaken_114 ?_
            refine lv_iload B.1 B.2.1 dX2_isOtherTaken_117 (lv_at hl 8 rfl) ?_
            refine lv_iload B.1 B.2.1 dX2_isOtherTaken_119 (lv_at hl 1 rfl) ?_
            refine b_iast (j := i) (g := upd (g) i (iI (fill))) (B' := [[(a, .inr (4, [.int (iI (w)), .int (iI (st)), .int (iI (en)), .int (iI (kn)), .int (iI (on + 1)), .int (iI (ar)), .int (iI (max tp la)), .ref v]))], [(v, .inl (τ 0, n, .inl (upd (g) i (iI (fill)))))], [(b, .inr (3, [.int (iI (k 0)), .int (iI (k 1)), .int (iI (k 2)), .int (iI (k 3)), .int (iI (k 4)), .int (iI (k 5)), .int (iI (k 6)), .int (iI (k 7))]))]]) B Y 1 rfl (iI_pos (by omega)) (iI_clamp (by omega)) (by omega) rfl rfl dX2_isOtherTaken_121 (fun H locs Y => ?_)
            refine lv_iinc (v := (iI (((i + 1) : Nat) : Int))) (lv' := [(7, .int (iI (((i + 1) : Nat) : Int))), (6, .int (iI (1))), (8, .int (iI (fill))), (0, .ref a), (1, .ref b), (2, .int (iI ((o : Nat) : Int))), (3, .int (iI ((la : Nat) : Int))), (4, .int (iI (fill))), (5, .int (iI (rp)))]) B.1 B.2.1 dX2_isOtherTaken_122 hl (k := 8) rfl (iI_inc _) (by decide) rfl (fun ls hl => ?_)
            refine lv_goto (tgt := 15) B.1 B.2.1 dX2_isOtherTaken_125 (by decide) ?_
            have ev : tval fill k ((i : Nat) : Int) = fill := if_neg (by omega)
            rw [if_neg (by omega)] at hsU
            rw [if_pos (by omega)] at hsO
            exact ih H locs ls ⟨(upd g i (iI (fill))), kn, (on + 1), 1, (HpRep.step hg (by omega) (by omega) (by omega) (fun z => by rw [show ((i + 1 : Nat) : Int) = (i : Int) + 1 from rfl, hsV z, if_neg (show ¬ V i = -1 by omega), if_neg (show ¬ rp = 0 by omega), ev])), (by omega), (by omega), (by omega), (by omega), lv_sub hl [3, 4, 5, 6, 7, 8, 1, 0] rfl, Y.pick [0, 1, 2] (by decide) rfl⟩
      · have c2 := (iI_eq (a := V i) (b := (-1)) (by omega) (by omega) (by omega) (by omega)).mp c2
        refine lv_aload_n B.1 B.2.1 dX2_isOtherTaken_61 rfl (lv_at hl 1 rfl) ?_
        refine gf_X2_33 B Y 0 rfl rfl dX2_isOtherTaken_62 ?_
        refine lv_iload B.1 B.2.1 dX2_isOtherTaken_65 (lv_at hl 8 rfl) ?_
        refine lv_iload B.1 B.2.1 dX2_isOtherTaken_67 (lv_at hl 0 rfl) ?_
        refine b_iast (j := i) (g := upd (g) i (iI (fill))) (B' := [[(a, .inr (4, [.int (iI (w)), .int (iI (st)), .int (iI (en)), .int (iI (kn)), .int (iI (on)), .int (iI (ar)), .int (iI (max tp la)), .ref v]))], [(v, .inl (τ 0, n, .inl (upd (g) i (iI (fill)))))], [(b, .inr (3, [.int (iI (k 0)), .int (iI (k 1)), .int (iI (k 2)), .int (iI (k 3)), .int (iI (k 4)), .int (iI (k 5)), .int (iI (k 6)), .int (iI (k 7))]))]]) B Y 1 rfl (iI_pos (by omega)) (iI_clamp (by omega)) (by omega) rfl rfl dX2_isOtherTaken_69 (fun H locs Y => ?_)
        refine lv_aload_n B.1 B.2.1 dX2_isOtherTaken_70 rfl (lv_at hl 1 rfl) ?_
        refine lv_dup B.1 B.2.1 dX2_isOtherTaken_71 rfl ?_
        refine gf_X2_21 B Y 0 rfl rfl dX2_isOtherTaken_72 ?_
        refine lv_iconst (v := (iI (1))) B.1 B.2.1 dX2_isOtherTaken_75 (by decide) ?_
        refine lv_iadd B.1 B.2.1 dX2_isOtherTaken_76 ?_
        refine lv_cv (v := (iI (kn + 1))) (iI_add _ _) ?_
        refine pf_X2_21 (B' := [[(a, .inr (4, [.int (iI (w)), .int (iI (st)), .int (iI (en)), .int (iI (kn + 1)), .int (iI (on)), .int (iI (ar)), .int (iI (max tp la)), .ref v]))], [(v, .inl (τ 0, n, .inl (upd (g) i (iI (fill)))))], [(b, .inr (3, [.int (iI (k 0)), .int (iI (k 1)), .int (iI (k 2)), .int (iI (k 3)), .int (iI (k 4)), .int (iI (k 5)), .int (iI (k 6)), .int (iI (k 7))]))]]) B Y 0 rfl (Nat.le_of_ble_eq_true rfl) rfl dX2_isOtherTaken_77 (fun H locs Y => ?_)
        refine lv_goto (tgt := 122) B.1 B.2.1 dX2_isOtherTaken_80 (by decide) ?_
        refine lv_iinc (v := (iI (((i + 1) : Nat) : Int))) (lv' := [(7, .int (iI (((i + 1) : Nat) : Int))), (8, .int (iI (fill))), (0, .ref a), (1, .ref b), (2, .int (iI ((o : Nat) : Int))), (3, .int (iI ((la : Nat) : Int))), (4, .int (iI (fill))), (5, .int (iI (rp))), (6, .int (iI (oo)))]) B.1 B.2.1 dX2_isOtherTaken_122 hl (k := 8) rfl (iI_inc _) (by decide) rfl (fun ls hl => ?_)
        refine lv_goto (tgt := 15) B.1 B.2.1 dX2_isOtherTaken_125 (by decide) ?_
        have ev : tval fill k ((i : Nat) : Int) = fill := if_neg (by omega)
        rw [if_pos (by omega)] at hsU
        rw [if_neg (by omega)] at hsO
        exact ih H locs ls ⟨(upd g i (iI (fill))), (kn + 1), on, oo, (HpRep.step hg (by omega) (by omega) (by omega) (fun z => by rw [show ((i + 1 : Nat) : Int) = (i : Int) + 1 from rfl, hsV z, if_pos (show V i = -1 by omega), ev])), (by omega), (by omega), (by omega), (by omega), lv_sub hl [2, 3, 4, 5, 6, 7, 8, 0] rfl, Y.pick [0, 1, 2] (by decide) rfl⟩
    · have c1 := (iI_eq (a := fill) (b := (-1)) (by omega) (by omega) (by omega) (by omega)).mp c1
      refine lv_aload_n B.1 B.2.1 dX2_isOtherTaken_37 rfl (lv_at hl 1 rfl) ?_
      refine lv_iload B.1 B.2.1 dX2_isOtherTaken_38 (lv_at hl 7 rfl) ?_
      refine qI (Cs := [[(b, .inr (3, [.int (iI (k 0)), .int (iI (k 1)), .int (iI (k 2)), .int (iI (k 3)), .int (iI (k 4)), .int (iI (k 5)), .int (iI (k 6)), .int (iI (k 7))]))]]) (Rs := [[(a, .inr (4, [.int (iI (w)), .int (iI (st)), .int (iI (en)), .int (iI (kn)), .int (iI (on)), .int (iI (ar)), .int (iI (max tp la)), .ref v]))], [(v, .inl (τ 0, n, .inl (g)))]]) Y [2] [0, 1] (by decide) rfl (cV (As := [.int (iI ((i : Nat) : Int))]) (rest := []) (q0 := 2) B Y [2] (by decide) rfl (k_X1_byteAt l D τ _ b k (((i : Nat) : Int)) (by omega) (by omega) (by omega) (by omega)) rfl rfl q_1016 q_1017 q_1018 q_11 q_1019 rfl rfl hd_X1_byteAt ⟨(Nat.le_of_ble_eq_true rfl), (Nat.le_of_ble_eq_true rfl)⟩ rfl hl.1 rfl (Nat.le_of_ble_eq_true rfl) dX2_isOtherTaken_40 ⟨(Nat.le_of_ble_eq_true rfl), (Nat.le_of_ble_eq_true rfl)⟩) (fun r u H locs hw Y => ?_)
      obtain rfl := hw
      have Y : Wd D τ s A s.heap (bl [[(b, .inr (3, [.int (iI (k 0)), .int (iI (k 1)), .int (iI (k 2)), .int (iI (k 3)), .int (iI (k 4)), .int (iI (k 5)), .int (iI (k 6)), .int (iI (k 7))]))], [(a, .inr (4, [.int (iI (w)), .int (iI (st)), .int (iI (en)), .int (iI (kn)), .int (iI (on)), .int (iI (ar)), .int (iI (max tp la)), .ref v]))], [(v, .inl (τ 0, n, .inl (g)))]]) _ _ := Y
      refine lv_goto (tgt := 48) B.1 B.2.1 dX2_isOtherTaken_43 (by decide) ?_
      refine lv_istore (lv' := [(8, .int (iI (ownB k (((i : Nat) : Int))))), (0, .ref a), (1, .ref b), (2, .int (iI ((o : Nat) : Int))), (3, .int (iI ((la : Nat) : Int))), (4, .int (iI (fill))), (5, .int (iI (rp))), (6, .int (iI (oo))), (7, .int (iI ((i : Nat) : Int)))]) B.1 B.2.1 dX2_isOtherTaken_48 hl (by decide) rfl (fun ls hl => ?_)
      refine lv_aload_n B.1 B.2.1 dX2_isOtherTaken_50 rfl (lv_at hl 1 rfl) ?_
      refine gf_X2_33 B Y 1 rfl rfl dX2_isOtherTaken_51 ?_
      refine lv_iload B.1 B.2.1 dX2_isOtherTaken_54 (lv_at hl 8 rfl) ?_
      refine b_iald (j := i) (v := (iI (V i))) B Y 2 rfl (iI_pos (by omega)) (iI_clamp (by omega)) (by omega) hgi dX2_isOtherTaken_56 ?_
      refine lv_iconst (v := (iI (-1))) B.1 B.2.1 dX2_isOtherTaken_57 (by decide) ?_
      refine lv_icmp_ne (tgt := 83) B.1 B.2.1 dX2_isOtherTaken_58 (by decide) (fun c6 => ?_) (fun c6 => ?_)
      · have c6 := mt (iI_eq (a := V i) (b := (-1)) (by omega) (by omega) (by omega) (by omega)).mpr c6
        refine lv_aload_n B.1 B.2.1 dX2_isOtherTaken_83 rfl (lv_at hl 1 rfl) ?_
        refine lv_dup B.1 B.2.1 dX2_isOtherTaken_84 rfl ?_
        refine gf_X2_24 B Y 1 rfl rfl dX2_isOtherTaken_85 ?_
        refine lv_iconst (v := (iI (1))) B.1 B.2.1 dX2_isOtherTaken_88 (by decide) ?_
        refine lv_iadd B.1 B.2.1 dX2_isOtherTaken_89 ?_
        refine lv_cv (v := (iI (on + 1))) (iI_add _ _) ?_
        refine pf_X2_24 (B' := [[(b, .inr (3, [.int (iI (k 0)), .int (iI (k 1)), .int (iI (k 2)), .int (iI (k 3)), .int (iI (k 4)), .int (iI (k 5)), .int (iI (k 6)), .int (iI (k 7))]))], [(a, .inr (4, [.int (iI (w)), .int (iI (st)), .int (iI (en)), .int (iI (kn)), .int (iI (on + 1)), .int (iI (ar)), .int (iI (max tp la)), .ref v]))], [(v, .inl (τ 0, n, .inl (g)))]]) B Y 1 rfl (Nat.le_of_ble_eq_true rfl) rfl dX2_isOtherTaken_90 (fun H locs Y => ?_)
        refine lv_aload_n B.1 B.2.1 dX2_isOtherTaken_93 rfl (lv_at hl 1 rfl) ?_
        refine gf_X2_33 B Y 1 rfl rfl dX2_isOtherTaken_94 ?_
        refine lv_iload B.1 B.2.1 dX2_isOtherTaken_97 (lv_at hl 8 rfl) ?_
        refine b_iald (j := i) (v := (iI (V i))) B Y 2 rfl (iI_pos (by omega)) (iI_clamp (by omega)) (by omega) hgi dX2_isOtherTaken_99 ?_
        refine lv_iload B.1 B.2.1 dX2_isOtherTaken_100 (lv_at hl 0 rfl) ?_
        refine lv_icmp_eq (tgt := 108) B.1 B.2.1 dX2_isOtherTaken_102 (by decide) (fun c7 => ?_) (fun c7 => ?_)
        · have c7 := (iI_eq (a := V i) (b := ownB k (((i : Nat) : Int))) (by omega) (by omega) (by omega) (by omega)).mp c7
          refine lv_iload B.1 B.2.1 dX2_isOtherTaken_108 (lv_at hl 6 rfl) ?_
          refine lv_if_eq (tgt := 122) B.1 B.2.1 dX2_isOtherTaken_110 (by decide) (fun c8 => ?_) (fun c8 => ?_)
          · have c8 := (iI_eq0 (a := rp) (by omega) (by omega)).mp c8
            refine lv_iinc (v := (iI (((i + 1) : Nat) : Int))) (lv' := [(7, .int (iI (((i + 1) : Nat) : Int))), (8, .int (iI (ownB k (((i : Nat) : Int))))), (0, .ref a), (1, .ref b), (2, .int (iI ((o : Nat) : Int))), (3, .int (iI ((la : Nat) : Int))), (4, .int (iI (fill))), (5, .int (iI (rp))), (6, .int (iI (oo)))]) B.1 B.2.1 dX2_isOtherTaken_122 hl (k := 8) rfl (iI_inc _) (by decide) rfl (fun ls hl => ?_)
            refine lv_goto (tgt := 15) B.1 B.2.1 dX2_isOtherTaken_125 (by decide) ?_
            have ev : tval fill k ((i : Nat) : Int) = ownB k ((i : Nat) : Int) := if_pos (by omega)
            rw [if_neg (by omega)] at hsU
            rw [if_neg (by omega)] at hsO
            exact ih H locs ls ⟨g, kn, (on + 1), oo, (HpRep.same hg (fun z => by rw [show ((i + 1 : Nat) : Int) = (i : Int) + 1 from rfl, hsV z, if_neg (show ¬ V i = -1 by omega), if_pos (show rp = 0 by omega)]; split <;> first | rfl | (rename_i h; rw [h, tkV_at]))), (by omega), (by omega), (by omega), (by omega), lv_sub hl [2, 3, 4, 5, 6, 7, 8, 0] rfl, Y.pick [1, 2, 0] (by decide) rfl⟩
          · have c8 := mt (iI_eq0 (a := rp) (by omega) (by omega)).mpr c8
            refine lv_aload_n B.1 B.2.1 dX2_isOtherTaken_113 rfl (lv_at hl 1 rfl) ?_
            refine gf_X2_33 B Y 1 rfl rfl dX2_isOtherTaken_114 ?_
            refine lv_iload B.1 B.2.1 dX2_isOtherTaken_117 (lv_at hl 8 rfl) ?_
            refine lv_iload B.1 B.2.1 dX2_isOtherTaken_119 (lv_at hl 0 rfl) ?_
            refine b_iast (j := i) (g := upd (g) i (iI (ownB k (((i : Nat) : Int))))) (B' := [[(b, .inr (3, [.int (iI (k 0)), .int (iI (k 1)), .int (iI (k 2)), .int (iI (k 3)), .int (iI (k 4)), .int (iI (k 5)), .int (iI (k 6)), .int (iI (k 7))]))], [(a, .inr (4, [.int (iI (w)), .int (iI (st)), .int (iI (en)), .int (iI (kn)), .int (iI (on + 1)), .int (iI (ar)), .int (iI (max tp la)), .ref v]))], [(v, .inl (τ 0, n, .inl (upd (g) i (iI (ownB k (((i : Nat) : Int)))))))]]) B Y 2 rfl (iI_pos (by omega)) (iI_clamp (by omega)) (by omega) rfl rfl dX2_isOtherTaken_121 (fun H locs Y => ?_)
            refine lv_iinc (v := (iI (((i + 1) : Nat) : Int))) (lv' := [(7, .int (iI (((i + 1) : Nat) : Int))), (8, .int (iI (ownB k (((i : Nat) : Int))))), (0, .ref a), (1, .ref b), (2, .int (iI ((o : Nat) : Int))), (3, .int (iI ((la : Nat) : Int))), (4, .int (iI (fill))), (5, .int (iI (rp))), (6, .int (iI (oo)))]) B.1 B.2.1 dX2_isOtherTaken_122 hl (k := 8) rfl (iI_inc _) (by decide) rfl (fun ls hl => ?_)
            refine lv_goto (tgt := 15) B.1 B.2.1 dX2_isOtherTaken_125 (by decide) ?_
            have ev : tval fill k ((i : Nat) : Int) = ownB k ((i : Nat) : Int) := if_pos (by omega)
            rw [if_neg (by omega)] at hsU
            rw [if_neg (by omega)] at hsO
            exact ih H locs ls ⟨(upd g i (iI (ownB k ((i : Nat) : Int)))), kn, (on + 1), oo, (HpRep.step hg (by omega) (by omega) (by omega) (fun z => by rw [show ((i + 1 : Nat) : Int) = (i : Int) + 1 from rfl, hsV z, if_neg (show ¬ V i = -1 by omega), if_neg (show ¬ rp = 0 by omega), ev])), (by omega), (by omega), (by omega), (by omega), lv_sub hl [2, 3, 4, 5, 6, 7, 8, 0] rfl, Y.pick [1, 2, 0] (by decide) rfl⟩
        · have c7 := mt (iI_eq (a := V i) (b := ownB k (((i : Nat) : Int))) (by omega) (by omega) (by omega) (by omega)).mpr c7
          refine lv_iconst (v := (iI (1))) B.1 B.2.1 dX2_isOtherTaken_105 (by decide) ?_
          refine lv_istore (lv' := [(6, .int (iI (1))), (8, .int (iI (ownB k (((i : Nat) : Int))))), (0, .ref a), (1, .ref b), (2, .int (iI ((o : Nat) : Int))), (3, .int (iI ((la : Nat) : Int))), (4, .int (iI (fill))), (5, .int (iI (rp))), (7, .int (iI ((i : Nat) : Int)))]) B.1 B.2.1 dX2_isOtherTaken_106 hl (by decide) rfl (fun ls hl => ?_)
          refine lv_iload B.1 B.2.1 dX2_isOtherTaken_108 (lv_at hl 7 rfl) ?_
          refine lv_if_eq (tgt := 122) B.1 B.2.1 dX2_isOtherTaken_110 (by decide) (fun c9 => ?_) (fun c9 => ?_)
          · have c9 := (iI_eq0 (a := rp) (by omega) (by omega)).mp c9
            refine lv_iinc (v := (iI (((i + 1) : Nat) : Int))) (lv' := [(7, .int (iI (((i + 1) : Nat) : Int))), (6, .int (iI (1))), (8, .int (iI (ownB k (((i : Nat) : Int))))), (0, .ref a), (1, .ref b), (2, .int (iI ((o : Nat) : Int))), (3, .int (iI ((la : Nat) : Int))), (4, .int (iI (fill))), (5, .int (iI (rp)))]) B.1 B.2.1 dX2_isOtherTaken_122 hl (k := 8) rfl (iI_inc _) (by decide) rfl (fun ls hl => ?_)
            refine lv_goto (tgt := 15) B.1 B.2.1 dX2_isOtherTaken_125 (by decide) ?_
            have ev : tval fill k ((i : Nat) : Int) = ownB k ((i : Nat) : Int) := if_pos (by omega)
            rw [if_neg (by omega)] at hsU
            rw [if_pos (by omega)] at hsO
            exact ih H locs ls ⟨g, kn, (on + 1), 1, (HpRep.same hg (fun z => by rw [show ((i + 1 : Nat) : Int) = (i : Int) + 1 from rfl, hsV z, if_neg (show ¬ V i = -1 by omega), if_pos (show rp = 0 by omega)]; split <;> first | rfl | (rename_i h; rw [h, tkV_at]))), (by omega), (by omega), (by omega), (by omega), lv_sub hl [3, 4, 5, 6, 7, 8, 1, 0] rfl, Y.pick [1, 2, 0] (by decide) rfl⟩
          · have c9 := mt (iI_eq0 (a := rp) (by omega) (by omega)).mpr c9
            refine lv_aload_n B.1 B.2.1 dX2_isOtherTaken_113 rfl (lv_at hl 2 rfl) ?_
            refine gf_X2_33 B Y 1 rfl rfl dX2_isOtherTaken_114 ?_
            refine lv_iload B.1 B.2.1 dX2_isOtherTaken_117 (lv_at hl 8 rfl) ?_
            refine lv_iload B.1 B.2.1 dX2_isOtherTaken_119 (lv_at hl 1 rfl) ?_
            refine b_iast (j := i) (g := upd (g) i (iI (ownB k (((i : Nat) : Int))))) (B' := [[(b, .inr (3, [.int (iI (k 0)), .int (iI (k 1)), .int (iI (k 2)), .int (iI (k 3)), .int (iI (k 4)), .int (iI (k 5)), .int (iI (k 6)), .int (iI (k 7))]))], [(a, .inr (4, [.int (iI (w)), .int (iI (st)), .int (iI (en)), .int (iI (kn)), .int (iI (on + 1)), .int (iI (ar)), .int (iI (max tp la)), .ref v]))], [(v, .inl (τ 0, n, .inl (upd (g) i (iI (ownB k (((i : Nat) : Int)))))))]]) B Y 2 rfl (iI_pos (by omega)) (iI_clamp (by omega)) (by omega) rfl rfl dX2_isOtherTaken_121 (fun H locs Y => ?_)
            refine lv_iinc (v := (iI (((i + 1) : Nat) : Int))) (lv' := [(7, .int (iI (((i + 1) : Nat) : Int))), (6, .int (iI (1))), (8, .int (iI (ownB k (((i : Nat) : Int))))), (0, .ref a), (1, .ref b), (2, .int (iI ((o : Nat) : Int))), (3, .int (iI ((la : Nat) : Int))), (4, .int (iI (fill))), (5, .int (iI (rp)))]) B.1 B.2.1 dX2_isOtherTaken_122 hl (k := 8) rfl (iI_inc _) (by decide) rfl (fun ls hl => ?_)
            refine lv_goto (tgt := 15) B.1 B.2.1 dX2_isOtherTaken_125 (by decide) ?_
            have ev : tval fill k ((i : Nat) : Int) = ownB k ((i : Nat) : Int) := if_pos (by omega)
            rw [if_neg (by omega)] at hsU
            rw [if_pos (by omega)] at hsO
            exact ih H locs ls ⟨(upd g i (iI (ownB k ((i : Nat) : Int)))), kn, (on + 1), 1, (HpRep.step hg (by omega) (by omega) (by omega) (fun z => by rw [show ((i + 1 : Nat) : Int) = (i : Int) + 1 from rfl, hsV z, if_neg (show ¬ V i = -1 by omega), if_neg (show ¬ rp = 0 by omega), ev])), (by omega), (by omega), (by omega), (by omega), lv_sub hl [3, 4, 5, 6, 7, 8, 1, 0] rfl, Y.pick [1, 2, 0] (by decide) rfl⟩
      · have c6 := (iI_eq (a := V i) (b := (-1)) (by omega) (by omega) (by omega) (by omega)).mp c6
        refine lv_aload_n B.1 B.2.1 dX2_isOtherTaken_61 rfl (lv_at hl 1 rfl) ?_
        refine gf_X2_33 B Y 1 rfl rfl dX2_isOtherTaken_62 ?_
        refine lv_iload B.1 B.2.1 dX2_isOtherTaken_65 (lv_at hl 8 rfl) ?_
        refine lv_iload B.1 B.2.1 dX2_isOtherTaken_67 (lv_at hl 0 rfl) ?_
        refine b_iast (j := i) (g := upd (g) i (iI (ownB k (((i : Nat) : Int))))) (B' := [[(b, .inr (3, [.int (iI (k 0)), .int (iI (k 1)), .int (iI (k 2)), .int (iI (k 3)), .int (iI (k 4)), .int (iI (k 5)), .int (iI (k 6)), .int (iI (k 7))]))], [(a, .inr (4, [.int (iI (w)), .int (iI (st)), .int (iI (en)), .int (iI (kn)), .int (iI (on)), .int (iI (ar)), .int (iI (max tp la)), .ref v]))], [(v, .inl (τ 0, n, .inl (upd (g) i (iI (ownB k (((i : Nat) : Int)))))))]]) B Y 2 rfl (iI_pos (by omega)) (iI_clamp (by omega)) (by omega) rfl rfl dX2_isOtherTaken_69 (fun H locs Y => ?_)
        refine lv_aload_n B.1 B.2.1 dX2_isOtherTaken_70 rfl (lv_at hl 1 rfl) ?_
        refine lv_dup B.1 B.2.1 dX2_isOtherTaken_71 rfl ?_
        refine gf_X2_21 B Y 1 rfl rfl dX2_isOtherTaken_72 ?_
        refine lv_iconst (v := (iI (1))) B.1 B.2.1 dX2_isOtherTaken_75 (by decide) ?_
        refine lv_iadd B.1 B.2.1 dX2_isOtherTaken_76 ?_
        refine lv_cv (v := (iI (kn + 1))) (iI_add _ _) ?_
        refine pf_X2_21 (B' := [[(b, .inr (3, [.int (iI (k 0)), .int (iI (k 1)), .int (iI (k 2)), .int (iI (k 3)), .int (iI (k 4)), .int (iI (k 5)), .int (iI (k 6)), .int (iI (k 7))]))], [(a, .inr (4, [.int (iI (w)), .int (iI (st)), .int (iI (en)), .int (iI (kn + 1)), .int (iI (on)), .int (iI (ar)), .int (iI (max tp la)), .ref v]))], [(v, .inl (τ 0, n, .inl (upd (g) i (iI (ownB k (((i : Nat) : Int)))))))]]) B Y 1 rfl (Nat.le_of_ble_eq_true rfl) rfl dX2_isOtherTaken_77 (fun H locs Y => ?_)
        refine lv_goto (tgt := 122) B.1 B.2.1 dX2_isOtherTaken_80 (by decide) ?_
        refine lv_iinc (v := (iI (((i + 1) : Nat) : Int))) (lv' := [(7, .int (iI (((i + 1) : Nat) : Int))), (8, .int (iI (ownB k (((i : Nat) : Int))))), (0, .ref a), (1, .ref b), (2, .int (iI ((o : Nat) : Int))), (3, .int (iI ((la : Nat) : Int))), (4, .int (iI (fill))), (5, .int (iI (rp))), (6, .int (iI (oo)))]) B.1 B.2.1 dX2_isOtherTaken_122 hl (k := 8) rfl (iI_inc _) (by decide) rfl (fun ls hl => ?_)
        refine lv_goto (tgt := 15) B.1 B.2.1 dX2_isOtherTaken_125 (by decide) ?_
        have ev : tval fill k ((i : Nat) : Int) = ownB k ((i : Nat) : Int) := if_pos (by omega)
        rw [if_pos (by omega)] at hsU
        rw [if_neg (by omega)] at hsO
        exact ih H locs ls ⟨(upd g i (iI (ownB k ((i : Nat) : Int)))), (kn + 1), on, oo, (HpRep.step hg (by omega) (by omega) (by omega) (fun z => by rw [show ((i + 1 : Nat) : Int) = (i : Int) + 1 from rfl, hsV z, if_pos (show V i = -1 by omega), ev])), (by omega), (by omega), (by omega), (by omega), lv_sub hl [2, 3, 4, 5, 6, 7, 8, 0] rfl, Y.pick [1, 2, 0] (by decide) rfl⟩

set_option maxHeartbeats 4000000 in
set_option maxRecDepth 100000 in
theorem k_X2_isOwn (l : Launch) (D : va_G) (τ : Nat → ClassId) (sz : Nat) (a v n : Nat) (w st en kw ov ar tp : Int) (f : Nat → Int32) (V : Int → Int) (hR : HpRep tp n f V) (b : Nat) (k : Nat → Int) (h1 : 0 ≤ en) (h2 : en ≤ 3000) (h6 : 0 ≤ k 1) (h7 : k 1 ≤ 255) (h8 : 0 ≤ k 0) (h9 : k 0 ≤ 3000) : Met l yX2_isOwn (Cond.code yX2_isOwn cX2_isOwn 3 (some .boolean) :: wALL) { frames := 1, cells := 0, slots := 0, locals := 21 } (Pw D τ (bl [[(a, .inr (4, [.int (iI (w)), .int (iI (st)), .int (iI (en)), .int (iI (kw)), .int (iI (ov)), .int (iI (ar)), .int (iI (tp)), .ref v]))], [(v, .inl (τ 0, n, .inl (f)))], [(b, .inr (3, [.int (iI (k 0)), .int (iI (k 1)), .int (iI (k 2)), .int (iI (k 3)), .int (iI (k 4)), .int (iI (k 5)), .int (iI (k 6)), .int (iI (k 7))]))]]) sz [.ref a, .ref b]) (va_Qi (fun (r : Int32) (_ : Unit) => r = iI (if en = k 0 then ownF V k en.toNat else 0)) (Bb D (va_A (bl [[(a, .inr (4, [.int (iI (w)), .int (iI (st)), .int (iI (en)), .int (iI (kw)), .int (iI (ov)), .int (iI (ar)), .int (iI (tp)), .ref v]))], [(v, .inl (τ 0, n, .inl (f)))], [(b, .inr (3, [.int (iI (k 0)), .int (iI (k 1)), .int (iI (k 2)), .int (iI (k 3)), .int (iI (k 4)), .int (iI (k 5)), .int (iI (k 6)), .int (iI (k 7))]))]]) sz) (fun (_ : Unit) => [[(a, .inr (4, [.int (iI (w)), .int (iI (st)), .int (iI (en)), .int (iI (kw)), .int (iI (ov)), .int (iI (ar)), .int (iI (tp)), .ref v]))], [(v, .inl (τ 0, n, .inl (f)))], [(b, .inr (3, [.int (iI (k 0)), .int (iI (k 1)), .int (iI (k 2)), .int (iI (k 3)), .int (iI (k 4)), .int (iI (k 5)), .int (iI (k 6)), .int (iI (k 7))]))]])) (va_A (bl [[(a, .inr (4, [.int (iI (w)), .int (iI (st)), .int (iI (en)), .int (iI (kw)), .int (iI (ov)), .int (iI (ar)), .int (iI (tp)), .ref v]))], [(v, .inl (τ 0, n, .inl (f)))], [(b, .inr (3, [.int (iI (k 0)), .int (iI (k 1)), .int (iI (k 2)), .int (iI (k 3)), .int (iI (k 4)), .int (iI (k 5)), .int (iI (k 6)), .int (iI (k 7))]))]]) sz)) 0 0 (va_A (bl [[(a, .inr (4, [.int (iI (w)), .int (iI (st)), .int (iI (en)), .int (iI (kw)), .int (iI (ov)), .int (iI (ar)), .int (iI (tp)), .ref v]))], [(v, .inl (τ 0, n, .inl (f)))], [(b, .inr (3, [.int (iI (k 0)), .int (iI (k 1)), .int (iI (k 2)), .int (iI (k 3)), .int (iI (k 4)), .int (iI (k 5)), .int (iI (k 6)), .int (iI (k 7))]))]]) sz) := by
  refine bodyW (by decide) (Nat.le_of_ble_eq_true rfl) (fun p e s m below meth c ls B hr hlk hin hsz Y hl => ?_)
  have hl : lv_has ls 3 [(0, .ref a), (1, .ref b)] := hl
  have B : CallFix p m c cX2_isOwn 3 s _ wALL RX2 := B
  generalize va_A (bl [[(a, .inr (4, [.int (iI (w)), .int (iI (st)), .int (iI (en)), .int (iI (kw)), .int (iI (ov)), .int (iI (ar)), .int (iI (tp)), .ref v]))], [(v, .inl (τ 0, n, .inl (f)))], [(b, .inr (3, [.int (iI (k 0)), .int (iI (k 1)), .int (iI (k 2)), .int (iI (k 3)), .int (iI (k 4)), .int (iI (k 5)), .int (iI (k 6)), .int (iI (k 7))]))]]) sz = A at Y ⊢
  obtain ⟨NE, hNE⟩ : ∃ k : Nat, en = k := ⟨en.toNat, by omega⟩
  have hT : en.toNat = NE := by omega
  refine lv_aload_n B.1 B.2.1 dX2_isOwn_0 rfl (lv_at hl 0 rfl) ?_
  refine gf_X2_18 B Y 0 rfl rfl dX2_isOwn_1 ?_
  refine lv_aload_n B.1 B.2.1 dX2_isOwn_4 rfl (lv_at hl 1 rfl) ?_
  refine gf_X2_59 B Y 2 rfl rfl dX2_isOwn_5 ?_
  refine lv_icmp_eq (tgt := 13) B.1 B.2.1 dX2_isOwn_8 (by decide) (fun c1 => ?_) (fun c1 => ?_)
  · have c1 := (iI_eq (a := en) (b := k 0) (by omega) (by omega) (by omega) (by omega)).mp c1
    refine lv_iconst (v := (iI (0))) B.1 B.2.1 dX2_isOwn_13 (by decide) ?_
    refine lv_istore_n (lv' := [(2, .int (iI (0))), (0, .ref a), (1, .ref b)]) B.1 B.2.1 dX2_isOwn_14 rfl hl (by decide) rfl (fun ls hl => ?_)
    refine loopW (n := NE) (P := fun (i : Nat) (H : Heap) (locs : List Loc) (ls : Array Slot) => (ownF V k i = 1) ∧ lv_has ls 3 [(0, .ref a), (1, .ref b), (2, .int (iI ((i : Nat) : Int)))] ∧ Wd D τ s A s.heap (bl [[(a, .inr (4, [.int (iI (w)), .int (iI (st)), .int (iI (en)), .int (iI (kw)), .int (iI (ov)), .int (iI (ar)), .int (iI (tp)), .ref v]))], [(v, .inl (τ 0, n, .inl (f)))], [(b, .inr (3, [.int (iI (k 0)), .int (iI (k 1)), .int (iI (k 2)), .int (iI (k 3)), .int (iI (k 4)), .int (iI (k 5)), .int (iI (k 6)), .int (iI (k 7))]))]]) H locs) 0 (Nat.zero_le _) ⟨rfl, lv_sub hl [1, 2, 0] rfl, Y.pick [0, 1, 2] (by decide) rfl⟩ (fun H locs ls hP => ?_) (fun i hlt H locs ls hP ih => ?_)
    · obtain ⟨e1, hl, Y⟩ := hP
      refine lv_iload_n B.1 B.2.1 dX2_isOwn_15 rfl (lv_at hl 2 rfl) ?_
      refine lv_aload_n B.1 B.2.1 dX2_isOwn_16 rfl (lv_at hl 0 rfl) ?_
      refine gf_X2_18 B Y 0 rfl rfl dX2_isOwn_17 ?_
      refine lv_icmp_ge (tgt := 44) B.1 B.2.1 dX2_isOwn_20 (by decide) (fun _ => ?_) (fun h => absurd ((iI_le (a := en) (b := ((NE : Nat) : Int)) (by omega) (by omega) (by omega) (by omega)).mpr (by omega)) h) 
      refine lv_iconst (v := (iI (1))) B.1 B.2.1 dX2_isOwn_44 (by decide) ?_
      exact eZ B hr hlk Y (by decide) () (by rw [if_pos (by omega), hT, e1]) [0, 1, 2] (by decide) rfl (Nat.le_of_ble_eq_true rfl) (Nat.le_of_ble_eq_true rfl) dX2_isOwn_45
    · obtain ⟨e1, hl, Y⟩ := hP
      have hV := hR.2.2.2.2.2 (i : Int)
      have hob := ownB_01 k (i : Int)
      refine lv_iload_n B.1 B.2.1 dX2_isOwn_15 rfl (lv_at hl 2 rfl) ?_
      refine lv_aload_n B.1 B.2.1 dX2_isOwn_16 rfl (lv_at hl 0 rfl) ?_
      refine gf_X2_18 B Y 0 rfl rfl dX2_isOwn_17 ?_
      refine lv_icmp_ge (tgt := 44) B.1 B.2.1 dX2_isOwn_20 (by decide) (fun h => absurd h (mt (iI_le (a := en) (b := ((i : Nat) : Int)) (by omega) (by omega) (by omega) (by omega)).mp (by omega))) (fun _ => ?_)
      refine lv_aload_n B.1 B.2.1 dX2_isOwn_23 rfl (lv_at hl 0 rfl) ?_
      refine lv_iload_n B.1 B.2.1 dX2_isOwn_24 rfl (lv_at hl 2 rfl) ?_
      refine qI (Cs := [[(a, .inr (4, [.int (iI (w)), .int (iI (st)), .int (iI (en)), .int (iI (kw)), .int (iI (ov)), .int (iI (ar)), .int (iI (tp)), .ref v]))], [(v, .inl (τ 0, n, .inl (f)))]]) (Rs := [[(b, .inr (3, [.int (iI (k 0)), .int (iI (k 1)), .int (iI (k 2)), .int (iI (k 3)), .int (iI (k 4)), .int (iI (k 5)), .int (iI (k 6)), .int (iI (k 7))]))]]) Y [0, 1] [2] (by decide) rfl (cV (As := [.int (iI ((i : Nat) : Int))]) (rest := []) (q0 := 0) B Y [0, 1] (by decide) rfl (k_valueAt l D τ _ a v n w st en kw ov ar tp (f) V hR (((i : Nat) : Int)) (by omega) (by omega)) rfl rfl q_1032 q_1033 q_1034 q_12 q_1035 rfl rfl hd_X2_valueAt ⟨(Nat.le_of_ble_eq_true rfl), (Nat.le_of_ble_eq_true rfl)⟩ rfl hl.1 rfl (Nat.le_of_ble_eq_true rfl) dX2_isOwn_25 ⟨(Nat.le_of_ble_eq_true rfl), (Nat.le_of_ble_eq_true rfl)⟩) (fun r u H locs hw Y => ?_)
      obtain rfl := hw
      have Y : Wd D τ s A s.heap (bl [[(a, .inr (4, [.int (iI (w)), .int (iI (st)), .int (iI (en)), .int (iI (kw)), .int (iI (ov)), .int (iI (ar)), .int (iI (tp)), .ref v]))], [(v, .inl (τ 0, n, .inl (f)))], [(b, .inr (3, [.int (iI (k 0)), .int (iI (k 1)), .int (iI (k 2)), .int (iI (k 3)), .int (iI (k 4)), .int (iI (k 5)), .int (iI (k 6)), .int (iI (k 7))]))]]) _ _ := Y
      refine lv_aload_n B.1 B.2.1 dX2_isOwn_28 rfl (lv_at hl 1 rfl) ?_
      refine lv_iload_n B.1 B.2.1 dX2_isOwn_29 rfl (lv_at hl 2 rfl) ?_
      refine qI (Cs := [[(b, .inr (3, [.int (iI (k 0)), .int (iI (k 1)), .int (iI (k 2)), .int (iI (k 3)), .int (iI (k 4)), .int (iI (k 5)), .int (iI (k 6)), .int (iI (k 7))]))]]) (Rs := [[(a, .inr (4, [.int (iI (w)), .int (iI (st)), .int (iI (en)), .int (iI (kw)), .int (iI (ov)), .int (iI (ar)), .int (iI (tp)), .ref v]))], [(v, .inl (τ 0, n, .inl (f)))]]) Y [2] [0, 1] (by decide) rfl (cV (As := [.int (iI ((i : Nat) : Int))]) (rest := [.int (iI (V (((i : Nat) : Int))))]) (q0 := 2) B Y [2] (by decide) rfl (k_X1_byteAt l D τ _ b k (((i : Nat) : Int)) (by omega) (by omega) (by omega) (by omega)) rfl rfl q_1016 q_1017 q_1018 q_11 q_1019 rfl rfl hd_X1_byteAt ⟨(Nat.le_of_ble_eq_true rfl), (Nat.le_of_ble_eq_true rfl)⟩ rfl hl.1 rfl (Nat.le_of_ble_eq_true rfl) dX2_isOwn_30 ⟨(Nat.le_of_ble_eq_true rfl), (Nat.le_of_ble_eq_true rfl)⟩) (fun r u H locs hw Y => ?_)
      obtain rfl := hw
      have Y : Wd D τ s A s.heap (bl [[(b, .inr (3, [.int (iI (k 0)), .int (iI (k 1)), .int (iI (k 2)), .int (iI (k 3)), .int (iI (k 4)), .int (iI (k 5)), .int (iI (k 6)), .int (iI (k 7))]))], [(a, .inr (4, [.int (iI (w)), .int (iI (st)), .int (iI (en)), .int (iI (kw)), .int (iI (ov)), .int (iI (ar)), .int (iI (tp)), .ref v]))], [(v, .inl (τ 0, n, .inl (f)))]]) _ _ := Y
      refine lv_icmp_eq (tgt := 38) B.1 B.2.1 dX2_isOwn_33 (by decide) (fun c2 => ?_) (fun c2 => ?_)
      · have c2 := (iI_eq (a := V (((i : Nat) : Int))) (b := ownB k (((i : Nat) : Int))) (by omega) (by omega) (by omega) (by omega)).mp c2
        refine lv_iinc (v := (iI (((i + 1) : Nat) : Int))) (lv' := [(2, .int (iI (((i + 1) : Nat) : Int))), (0, .ref a), (1, .ref b)]) B.1 B.2.1 dX2_isOwn_38 hl (k := 2) rfl (iI_inc _) (by decide) rfl (fun ls hl => ?_)
        refine lv_goto (tgt := 15) B.1 B.2.1 dX2_isOwn_41 (by decide) ?_
        exact ih H locs ls ⟨(ownF_s e1 (by omega)), lv_sub hl [1, 2, 0] rfl, Y.pick [1, 2, 0] (by decide) rfl⟩
      · have c2 := mt (iI_eq (a := V (((i : Nat) : Int))) (b := ownB k (((i : Nat) : Int))) (by omega) (by omega) (by omega) (by omega)).mpr c2
        refine lv_iconst (v := (iI (0))) B.1 B.2.1 dX2_isOwn_36 (by decide) ?_
        exact eZ B hr hlk Y (by decide) () (by rw [if_pos (by omega), hT, ownF_bad hlt (by omega)]) [1, 2, 0] (by decide) rfl (Nat.le_of_ble_eq_true rfl) (Nat.le_of_ble_eq_true rfl) dX2_isOwn_37
  · have c1 := mt (iI_eq (a := en) (b := k 0) (by omega) (by omega) (by omega) (by omega)).mpr c1
    refine lv_iconst (v := (iI (0))) B.1 B.2.1 dX2_isOwn_11 (by decide) ?_
    exact eZ B hr hlk Y (by decide) () (by rw [if_neg (by omega)]) [0, 1, 2] (by decide) rfl (Nat.le_of_ble_eq_true rfl) (Nat.le_of_ble_eq_true rfl) dX2_isOwn_12

theorem HpRep.cp0 {T : Int} {n n2 : Nat} {g g2 : Nat → Int32} {V : Int → Int} (h : HpRep T n2 g2 V) (h0 : T ≤ 0) (hn : n ≤ 1192) : HpRep T n g V := by
  obtain ⟨a1, a2, a3, a4, a5, a6⟩ := h
  exact ⟨a1, by omega, hn, a4, fun j hj => by omega, a6⟩
theorem HpRep.cp {T : Int} {n n2 m : Nat} {g g2 : Nat → Int32} {V : Int → Int} (h : HpRep T n2 g2 V) (h0 : T ≤ m) (hn : n ≤ 1192) (h1 : T ≤ n) : HpRep T n (va_cpy g2 g 0 0 m) V := by
  obtain ⟨a1, a2, a3, a4, a5, a6⟩ := h
  refine ⟨a1, h1, hn, a4, fun j hj => ?_, a6⟩
  unfold va_cpy
  rw [if_pos ⟨Nat.zero_le _, by omega⟩, ← a5 j hj]
  congr 1; omega
set_option maxHeartbeats 4000000 in
set_option maxRecDepth 100000 in
theorem k_X2_copyFrom (l : Launch) (D : va_G) (τ : Nat → ClassId) (sz T0 KC KS : Nat) (a v n b y n2 : Nat) (k hx : Nat → Int) (f f2 : Nat → Int32) (V : Int → Int) (hn : n = 0 ∨ n = 1192) (hn2 : n2 = 0 ∨ n2 = 1192) (hb : -5 ≤ hx 0 ∧ hx 0 ≤ 100) (hR : hx 0 ≠ -1 → n2 = 1192 ∧ HpRep (hx 6) n2 f2 V) : Met l yX2_copyFrom (Cond.code yX2_copyFrom cX2_copyFrom 3 none :: wALL) { frames := 1, cells := KC - sz, slots := KS - T0, locals := 60 } (Pz D τ (bl [[(a, .inr (4, [.int (iI (k 0)), .int (iI (k 1)), .int (iI (k 2)), .int (iI (k 3)), .int (iI (k 4)), .int (iI (k 5)), .int (iI (k 6)), .ref v]))], [(v, .inl (τ 0, n, .inl (f)))], [(b, .inr (4, [.int (iI (hx 0)), .int (iI (hx 1)), .int (iI (hx 2)), .int (iI (hx 3)), .int (iI (hx 4)), .int (iI (hx 5)), .int (iI (hx 6)), .ref y]))], [(y, .inl (τ 0, n2, .inl (f2)))]]) sz T0 [.ref a, .ref b] KC KS (1192 - n) (1192 - n)) (va_Qv (fun (u : (Nat × Nat × (Nat → Int32))) => (u.2.1 = 0 ∨ u.2.1 = 1192) ∧ (hx 0 ≠ -1 → u.2.1 = 1192 ∧ HpRep (hx 6) u.2.1 u.2.2 V)) (Bz D (va_A (bl [[(a, .inr (4, [.int (iI (k 0)), .int (iI (k 1)), .int (iI (k 2)), .int (iI (k 3)), .int (iI (k 4)), .int (iI (k 5)), .int (iI (k 6)), .ref v]))], [(v, .inl (τ 0, n, .inl (f)))], [(b, .inr (4, [.int (iI (hx 0)), .int (iI (hx 1)), .int (iI (hx 2)), .int (iI (hx 3)), .int (iI (hx 4)), .int (iI (hx 5)), .int (iI (hx 6)), .ref y]))], [(y, .inl (τ 0, n2, .inl (f2)))]]) sz) (fun (u : (Nat × Nat × (Nat → Int32))) => [[(a, .inr (4, [.int (iI (hx 0)), .int (iI (hx 1)), .int (iI (hx 2)), .int (iI (hx 3)), .int (iI (hx 4)), .int (iI (hx 5)), .int (iI (hx 6)), .ref u.1]))], [(u.1, .inl (τ 0, u.2.1, .inl (u.2.2)))], [(b, .inr (4, [.int (iI (hx 0)), .int (iI (hx 1)), .int (iI (hx 2)), .int (iI (hx 3)), .int (iI (hx 4)), .int (iI (hx 5)), .int (iI (hx 6)), .ref y]))], [(y, .inl (τ 0, n2, .inl (f2)))]]) KC KS (fun (u : (Nat × Nat × (Nat → Int32))) => 1192 - u.2.1) (fun (u : (Nat × Nat × (Nat → Int32))) => 1192 - u.2.1)) (va_A (bl [[(a, .inr (4, [.int (iI (k 0)), .int (iI (k 1)), .int (iI (k 2)), .int (iI (k 3)), .int (iI (k 4)), .int (iI (k 5)), .int (iI (k 6)), .ref v]))], [(v, .inl (τ 0, n, .inl (f)))], [(b, .inr (4, [.int (iI (hx 0)), .int (iI (hx 1)), .int (iI (hx 2)), .int (iI (hx 3)), .int (iI (hx 4)), .int (iI (hx 5)), .int (iI (hx 6)), .ref y]))], [(y, .inl (τ 0, n2, .inl (f2)))]]) sz)) (KC - sz) (KS - T0) (va_A (bl [[(a, .inr (4, [.int (iI (k 0)), .int (iI (k 1)), .int (iI (k 2)), .int (iI (k 3)), .int (iI (k 4)), .int (iI (k 5)), .int (iI (k 6)), .ref v]))], [(v, .inl (τ 0, n, .inl (f)))], [(b, .inr (4, [.int (iI (hx 0)), .int (iI (hx 1)), .int (iI (hx 2)), .int (iI (hx 3)), .int (iI (hx 4)), .int (iI (hx 5)), .int (iI (hx 6)), .ref y]))], [(y, .inl (τ 0, n2, .inl (f2)))]]) sz) := by
  refine bodyZ (by decide) (Nat.le_of_ble_eq_true rfl) (fun p e s m below meth c ls B hr hlk hin hsz hT0 hz1 hz2 Y hl => ?_)
  have hl : lv_has ls 3 [(0, .ref a), (1, .ref b)] := hl
  have B : CallFix p m c cX2_copyFrom 3 s _ wALL RX2 := B
  generalize va_A (bl [[(a, .inr (4, [.int (iI (k 0)), .int (iI (k 1)), .int (iI (k 2)), .int (iI (k 3)), .int (iI (k 4)), .int (iI (k 5)), .int (iI (k 6)), .ref v]))], [(v, .inl (τ 0, n, .inl (f)))], [(b, .inr (4, [.int (iI (hx 0)), .int (iI (hx 1)), .int (iI (hx 2)), .int (iI (hx 3)), .int (iI (hx 4)), .int (iI (hx 5)), .int (iI (hx 6)), .ref y]))], [(y, .inl (τ 0, n2, .inl (f2)))]]) sz = A at Y ⊢
  by_cases hfr : hx 0 = -1
  · refine lv_aload_n B.1 B.2.1 dX2_copyFrom_0 rfl (lv_at hl 0 rfl) ?_
    refine lv_aload_n B.1 B.2.1 dX2_copyFrom_1 rfl (lv_at hl 1 rfl) ?_
    refine gf_X2_11 B Y 2 rfl rfl dX2_copyFrom_2 ?_
    refine pf_X2_11 (B' := [[(a, .inr (4, [.int (iI (hx 0)), .int (iI (k 1)), .int (iI (k 2)), .int (iI (k 3)), .int (iI (k 4)), .int (iI (k 5)), .int (iI (k 6)), .ref v]))], [(v, .inl (τ 0, n, .inl (f)))], [(b, .inr (4, [.int (iI (hx 0)), .int (iI (hx 1)), .int (iI (hx 2)), .int (iI (hx 3)), .int (iI (hx 4)), .int (iI (hx 5)), .int (iI (hx 6)), .ref y]))], [(y, .inl (τ 0, n2, .inl (f2)))]]) B Y 0 rfl (Nat.le_of_ble_eq_true rfl) rfl dX2_copyFrom_5 (fun H locs Y => ?_)
    refine lv_aload_n B.1 B.2.1 dX2_copyFrom_8 rfl (lv_at hl 0 rfl) ?_
    refine lv_aload_n B.1 B.2.1 dX2_copyFrom_9 rfl (lv_at hl 1 rfl) ?_
    refine gf_X2_15 B Y 2 rfl rfl dX2_copyFrom_10 ?_
    refine pf_X2_15 (B' := [[(a, .inr (4, [.int (iI (hx 0)), .int (iI (hx 1)), .int (iI (k 2)), .int (iI (k 3)), .int (iI (k 4)), .int (iI (k 5)), .int (iI (k 6)), .ref v]))], [(v, .inl (τ 0, n, .inl (f)))], [(b, .inr (4, [.int (iI (hx 0)), .int (iI (hx 1)), .int (iI (hx 2)), .int (iI (hx 3)), .int (iI (hx 4)), .int (iI (hx 5)), .int (iI (hx 6)), .ref y]))], [(y, .inl (τ 0, n2, .inl (f2)))]]) B Y 0 rfl (Nat.le_of_ble_eq_true rfl) rfl dX2_copyFrom_13 (fun H locs Y => ?_)
    refine lv_aload_n B.1 B.2.1 dX2_copyFrom_16 rfl (lv_at hl 0 rfl) ?_
    refine lv_aload_n B.1 B.2.1 dX2_copyFrom_17 rfl (lv_at hl 1 rfl) ?_
    refine gf_X2_18 B Y 2 rfl rfl dX2_copyFrom_18 ?_
    refine pf_X2_18 (B' := [[(a, .inr (4, [.int (iI (hx 0)), .int (iI (hx 1)), .int (iI (hx 2)), .int (iI (k 3)), .int (iI (k 4)), .int (iI (k 5)), .int (iI (k 6)), .ref v]))], [(v, .inl (τ 0, n, .inl (f)))], [(b, .inr (4, [.int (iI (hx 0)), .int (iI (hx 1)), .int (iI (hx 2)), .int (iI (hx 3)), .int (iI (hx 4)), .int (iI (hx 5)), .int (iI (hx 6)), .ref y]))], [(y, .inl (τ 0, n2, .inl (f2)))]]) B Y 0 rfl (Nat.le_of_ble_eq_true rfl) rfl dX2_copyFrom_21 (fun H locs Y => ?_)
    refine lv_aload_n B.1 B.2.1 dX2_copyFrom_24 rfl (lv_at hl 0 rfl) ?_
    refine lv_aload_n B.1 B.2.1 dX2_copyFrom_25 rfl (lv_at hl 1 rfl) ?_
    refine gf_X2_21 B Y 2 rfl rfl dX2_copyFrom_26 ?_
    refine pf_X2_21 (B' := [[(a, .inr (4, [.int (iI (hx 0)), .int (iI (hx 1)), .int (iI (hx 2)), .int (iI (hx 3)), .int (iI (k 4)), .int (iI (k 5)), .int (iI (k 6)), .ref v]))], [(v, .inl (τ 0, n, .inl (f)))], [(b, .inr (4, [.int (iI (hx 0)), .int (iI (hx 1)), .int (iI (hx 2)), .int (iI (hx 3)), .int (iI (hx 4)), .int (iI (hx 5)), .int (iI (hx 6)), .ref y]))], [(y, .inl (τ 0, n2, .inl (f2)))]]) B Y 0 rfl (Nat.le_of_ble_eq_true rfl) rfl dX2_copyFrom_29 (fun H locs Y => ?_)
    refine lv_aload_n B.1 B.2.1 dX2_copyFrom_32 rfl (lv_at hl 0 rfl) ?_
    refine lv_aload_n B.1 B.2.1 dX2_copyFrom_33 rfl (lv_at hl 1 rfl) ?_
    refine gf_X2_24 B Y 2 rfl rfl dX2_copyFrom_34 ?_
    refine pf_X2_24 (B' := [[(a, .inr (4, [.int (iI (hx 0)), .int (iI (hx 1)), .int (iI (hx 2)), .int (iI (hx 3)), .int (iI (hx 4)), .int (iI (k 5)), .int (iI (k 6)), .ref v]))], [(v, .inl (τ 0, n, .inl (f)))], [(b, .inr (4, [.int (iI (hx 0)), .int (iI (hx 1)), .int (iI (hx 2)), .int (iI (hx 3)), .int (iI (hx 4)), .int (iI (hx 5)), .int (iI (hx 6)), .ref y]))], [(y, .inl (τ 0, n2, .inl (f2)))]]) B Y 0 rfl (Nat.le_of_ble_eq_true rfl) rfl dX2_copyFrom_37 (fun H locs Y => ?_)
    refine lv_aload_n B.1 B.2.1 dX2_copyFrom_40 rfl (lv_at hl 0 rfl) ?_
    refine lv_aload_n B.1 B.2.1 dX2_copyFrom_41 rfl (lv_at hl 1 rfl) ?_
    refine gf_X2_27 B Y 2 rfl rfl dX2_copyFrom_42 ?_
    refine pf_X2_27 (B' := [[(a, .inr (4, [.int (iI (hx 0)), .int (iI (hx 1)), .int (iI (hx 2)), .int (iI (hx 3)), .int (iI (hx 4)), .int (iI (hx 5)), .int (iI (k 6)), .ref v]))], [(v, .inl (τ 0, n, .inl (f)))], [(b, .inr (4, [.int (iI (hx 0)), .int (iI (hx 1)), .int (iI (hx 2)), .int (iI (hx 3)), .int (iI (hx 4)), .int (iI (hx 5)), .int (iI (hx 6)), .ref y]))], [(y, .inl (τ 0, n2, .inl (f2)))]]) B Y 0 rfl (Nat.le_of_ble_eq_true rfl) rfl dX2_copyFrom_45 (fun H locs Y => ?_)
    refine lv_aload_n B.1 B.2.1 dX2_copyFrom_48 rfl (lv_at hl 0 rfl) ?_
    refine lv_aload_n B.1 B.2.1 dX2_copyFrom_49 rfl (lv_at hl 1 rfl) ?_
    refine gf_X2_30 B Y 2 rfl rfl dX2_copyFrom_50 ?_
    refine pf_X2_30 (B' := [[(a, .inr (4, [.int (iI (hx 0)), .int (iI (hx 1)), .int (iI (hx 2)), .int (iI (hx 3)), .int (iI (hx 4)), .int (iI (hx 5)), .int (iI (hx 6)), .ref v]))], [(v, .inl (τ 0, n, .inl (f)))], [(b, .inr (4, [.int (iI (hx 0)), .int (iI (hx 1)), .int (iI (hx 2)), .int (iI (hx 3)), .int (iI (hx 4)), .int (iI (hx 5)), .int (iI (hx 6)), .ref y]))], [(y, .inl (τ 0, n2, .inl (f2)))]]) B Y 0 rfl (Nat.le_of_ble_eq_true rfl) rfl dX2_copyFrom_53 (fun H locs Y => ?_)
    refine lv_aload_n B.1 B.2.1 dX2_copyFrom_56 rfl (lv_at hl 0 rfl) ?_
    refine gf_X2_11 B Y 0 rfl rfl dX2_copyFrom_57 ?_
    refine lv_iconst (v := (iI (-1))) B.1 B.2.1 dX2_copyFrom_60 (by decide) ?_
    refine lv_icmp_eq (tgt := 88) B.1 B.2.1 dX2_copyFrom_61 (by decide) (fun _ => ?_) (fun h => absurd ((iI_eq (a := hx 0) (b := (-1)) (by omega) (by omega) (by omega) (by omega)).mpr (by omega)) h) 
    refine lv_aload_n B.1 B.2.1 dX2_copyFrom_88 rfl (lv_at hl 0 rfl) ?_
    refine gf_X2_30 B Y 0 rfl rfl dX2_copyFrom_89 ?_
    refine lv_aload_n B.1 B.2.1 dX2_copyFrom_92 rfl (lv_at hl 0 rfl) ?_
    refine gf_X2_33 B Y 0 rfl rfl dX2_copyFrom_93 ?_
    refine b_alen (v := (iI ((n : Nat) : Int))) B Y 1 rfl 0 rfl (iI_nat _) dX2_copyFrom_96 ?_
    refine lv_aload_n B.1 B.2.1 dX2_copyFrom_97 rfl (lv_at hl 1 rfl) ?_
    refine gf_X2_33 B Y 2 rfl rfl dX2_copyFrom_98 ?_
    refine b_alen (v := (iI ((n2 : Nat) : Int))) B Y 3 rfl 0 rfl (iI_nat _) dX2_copyFrom_101 ?_
    refine t_mmin (v := (if (iI ((n2 : Nat) : Int)) < (iI ((n : Nat) : Int)) then (iI ((n2 : Nat) : Int)) else (iI ((n : Nat) : Int)))) B q_617 q_618 q_1 q_619 hl.1 (Nat.le_of_ble_eq_true rfl) (Nat.le_of_ble_eq_true rfl) (by show _ ≤ KC - s.heap.size; omega) (by show _ ≤ KS - totS s.heap; omega) rfl dX2_copyFrom_102 ?_
    refine t_mmin (v := (if (if (iI ((n2 : Nat) : Int)) < (iI ((n : Nat) : Int)) then (iI ((n2 : Nat) : Int)) else (iI ((n : Nat) : Int))) < (iI (hx 6)) then (if (iI ((n2 : Nat) : Int)) < (iI ((n : Nat) : Int)) then (iI ((n2 : Nat) : Int)) else (iI ((n : Nat) : Int))) else (iI (hx 6)))) B q_617 q_618 q_1 q_619 hl.1 (Nat.le_of_ble_eq_true rfl) (Nat.le_of_ble_eq_true rfl) (by show _ ≤ KC - s.heap.size; omega) (by show _ ≤ KS - totS s.heap; omega) rfl dX2_copyFrom_105 ?_
    refine lv_istore_n (lv' := [(2, .int (if (if (iI ((n2 : Nat) : Int)) < (iI ((n : Nat) : Int)) then (iI ((n2 : Nat) : Int)) else (iI ((n : Nat) : Int))) < (iI (hx 6)) then (if (iI ((n2 : Nat) : Int)) < (iI ((n : Nat) : Int)) then (iI ((n2 : Nat) : Int)) else (iI ((n : Nat) : Int))) else (iI (hx 6)))), (0, .ref a), (1, .ref b)]) B.1 B.2.1 dX2_copyFrom_108 rfl hl (by decide) rfl (fun ls hl => ?_)
    refine lv_aload_n B.1 B.2.1 dX2_copyFrom_109 rfl (lv_at hl 1 rfl) ?_
    refine gf_X2_11 B Y 0 rfl rfl dX2_copyFrom_110 ?_
    refine lv_iconst (v := (iI (-1))) B.1 B.2.1 dX2_copyFrom_113 (by decide) ?_
    refine lv_icmp_eq (tgt := 135) B.1 B.2.1 dX2_copyFrom_114 (by decide) (fun _ => ?_) (fun h => absurd ((iI_eq (a := hx 0) (b := (-1)) (by omega) (by omega) (by omega) (by omega)).mpr (by omega)) h) 
    have hu : (n = 0 ∨ n = 1192) ∧ (hx 0 ≠ -1 → n = 1192 ∧ HpRep (hx 6) n (f) V) := ⟨by omega, fun q => absurd hfr q⟩
    exact eVz (w1 := fun (u : (Nat × Nat × (Nat → Int32))) => [[(a, .inr (4, [.int (iI (hx 0)), .int (iI (hx 1)), .int (iI (hx 2)), .int (iI (hx 3)), .int (iI (hx 4)), .int (iI (hx 5)), .int (iI (hx 6)), .ref u.1]))], [(u.1, .inl (τ 0, u.2.1, .inl (u.2.2)))], [(b, .inr (4, [.int (iI (hx 0)), .int (iI (hx 1)), .int (iI (hx 2)), .int (iI (hx 3)), .int (iI (hx 4)), .int (iI (hx 5)), .int (iI (hx 6)), .ref y]))], [(y, .inl (τ 0, n2, .inl (f2)))]]) B hr hlk Y (v, n, f) hu [0, 1, 2, 3] (by decide) rfl (by show _ + _ + (1192 - n) ≤ KC; omega) (by show _ + _ + (1192 - n) ≤ KS; omega) dX2_copyFrom_135
  · have hb2 := (hR hfr).2
    have hb3 := hb2.1
    have hb4 := hb2.2.1
    refine lv_aload_n B.1 B.2.1 dX2_copyFrom_0 rfl (lv_at hl 0 rfl) ?_
    refine lv_aload_n B.1 B.2.1 dX2_copyFrom_1 rfl (lv_at hl 1 rfl) ?_
    refine gf_X2_11 B Y 2 rfl rfl dX2_copyFrom_2 ?_
    refine pf_X2_11 (B' := [[(a, .inr (4, [.int (iI (hx 0)), .int (iI (k 1)), .int (iI (k 2)), .int (iI (k 3)), .int (iI (k 4)), .int (iI (k 5)), .int (iI (k 6)), .ref v]))], [(v, .inl (τ 0, n, .inl (f)))], [(b, .inr (4, [.int (iI (hx 0)), .int (iI (hx 1)), .int (iI (hx 2)), .int (iI (hx 3)), .int (iI (hx 4)), .int (iI (hx 5)), .int (iI (hx 6)), .ref y]))], [(y, .inl (τ 0, n2, .inl (f2)))]]) B Y 0 rfl (Nat.le_of_ble_eq_true rfl) rfl dX2_copyFrom_5 (fun H locs Y => ?_)
    refine lv_aload_n B.1 B.2.1 dX2_copyFrom_8 rfl (lv_at hl 0 rfl) ?_
    refine lv_aload_n B.1 B.2.1 dX2_copyFrom_9 rfl (lv_at hl 1 rfl) ?_
    refine gf_X2_15 B Y 2 rfl rfl dX2_copyFrom_10 ?_
    refine pf_X2_15 (B' := [[(a, .inr (4, [.int (iI (hx 0)), .int (iI (hx 1)), .int (iI (k 2)), .int (iI (k 3)), .int (iI (k 4)), .int (iI (k 5)), .int (iI (k 6)), .ref v]))], [(v, .inl (τ 0, n, .inl (f)))], [(b, .inr (4, [.int (iI (hx 0)), .int (iI (hx 1)), .int (iI (hx 2)), .int (iI (hx 3)), .int (iI (hx 4)), .int (iI (hx 5)), .int (iI (hx 6)), .ref y]))], [(y, .inl (τ 0, n2, .inl (f2)))]]) B Y 0 rfl (Nat.le_of_ble_eq_true rfl) rfl dX2_copyFrom_13 (fun H locs Y => ?_)
    refine lv_aload_n B.1 B.2.1 dX2_copyFrom_16 rfl (lv_at hl 0 rfl) ?_
    refine lv_aload_n B.1 B.2.1 dX2_copyFrom_17 rfl (lv_at hl 1 rfl) ?_
    refine gf_X2_18 B Y 2 rfl rfl dX2_copyFrom_18 ?_
    refine pf_X2_18 (B' := [[(a, .inr (4, [.int (iI (hx 0)), .int (iI (hx 1)), .int (iI (hx 2)), .int (iI (k 3)), .int (iI (k 4)), .int (iI (k 5)), .int (iI (k 6)), .ref v]))], [(v, .inl (τ 0, n, .inl (f)))], [(b, .inr (4, [.int (iI (hx 0)), .int (iI (hx 1)), .int (iI (hx 2)), .int (iI (hx 3)), .int (iI (hx 4)), .int (iI (hx 5)), .int (iI (hx 6)), .ref y]))], [(y, .inl (τ 0, n2, .inl (f2)))]]) B Y 0 rfl (Nat.le_of_ble_eq_true rfl) rfl dX2_copyFrom_21 (fun H locs Y => ?_)
    refine lv_aload_n B.1 B.2.1 dX2_copyFrom_24 rfl (lv_at hl 0 rfl) ?_
    refine lv_aload_n B.1 B.2.1 dX2_copyFrom_25 rfl (lv_at hl 1 rfl) ?_
    refine gf_X2_21 B Y 2 rfl rfl dX2_copyFrom_26 ?_
    refine pf_X2_21 (B' := [[(a, .inr (4, [.int (iI (hx 0)), .int (iI (hx 1)), .int (iI (hx 2)), .int (iI (hx 3)), .int (iI (k 4)), .int (iI (k 5)), .int (iI (k 6)), .ref v]))], [(v, .inl (τ 0, n, .inl (f)))], [(b, .inr (4, [.int (iI (hx 0)), .int (iI (hx 1)), .int (iI (hx 2)), .int (iI (hx 3)), .int (iI (hx 4)), .int (iI (hx 5)), .int (iI (hx 6)), .ref y]))], [(y, .inl (τ 0, n2, .inl (f2)))]]) B Y 0 rfl (Nat.le_of_ble_eq_true rfl) rfl dX2_copyFrom_29 (fun H locs Y => ?_)
    refine lv_aload_n B.1 B.2.1 dX2_copyFrom_32 rfl (lv_at hl 0 rfl) ?_
    refine lv_aload_n B.1 B.2.1 dX2_copyFrom_33 rfl (lv_at hl 1 rfl) ?_
    refine gf_X2_24 B Y 2 rfl rfl dX2_copyFrom_34 ?_
    refine pf_X2_24 (B' := [[(a, .inr (4, [.int (iI (hx 0)), .int (iI (hx 1)), .int (iI (hx 2)), .int (iI (hx 3)), .int (iI (hx 4)), .int (iI (k 5)), .int (iI (k 6)), .ref v]))], [(v, .inl (τ 0, n, .inl (f)))], [(b, .inr (4, [.int (iI (hx 0)), .int (iI (hx 1)), .int (iI (hx 2)), .int (iI (hx 3)), .int (iI (hx 4)), .int (iI (hx 5)), .int (iI (hx 6)), .ref y]))], [(y, .inl (τ 0, n2, .inl (f2)))]]) B Y 0 rfl (Nat.le_of_ble_eq_true rfl) rfl dX2_copyFrom_37 (fun H locs Y => ?_)
    refine lv_aload_n B.1 B.2.1 dX2_copyFrom_40 rfl (lv_at hl 0 rfl) ?_
    refine lv_aload_n B.1 B.2.1 dX2_copyFrom_41 rfl (lv_at hl 1 rfl) ?_
    refine gf_X2_27 B Y 2 rfl rfl dX2_copyFrom_42 ?_
    refine pf_X2_27 (B' := [[(a, .inr (4, [.int (iI (hx 0)), .int (iI (hx 1)), .int (iI (hx 2)), .int (iI (hx 3)), .int (iI (hx 4)), .int (iI (hx 5)), .int (iI (k 6)), .ref v]))], [(v, .inl (τ 0, n, .inl (f)))], [(b, .inr (4, [.int (iI (hx 0)), .int (iI (hx 1)), .int (iI (hx 2)), .int (iI (hx 3)), .int (iI (hx 4)), .int (iI (hx 5)), .int (iI (hx 6)), .ref y]))], [(y, .inl (τ 0, n2, .inl (f2)))]]) B Y 0 rfl (Nat.le_of_ble_eq_true rfl) rfl dX2_copyFrom_45 (fun H locs Y => ?_)
    refine lv_aload_n B.1 B.2.1 dX2_copyFrom_48 rfl (lv_at hl 0 rfl) ?_
    refine lv_aload_n B.1 B.2.1 dX2_copyFrom_49 rfl (lv_at hl 1 rfl) ?_
    refine gf_X2_30 B Y 2 rfl rfl dX2_copyFrom_50 ?_
    refine pf_X2_30 (B' := [[(a, .inr (4, [.int (iI (hx 0)), .int (iI (hx 1)), .int (iI (hx 2)), .int (iI (hx 3)), .int (iI (hx 4)), .int (iI (hx 5)), .int (iI (hx 6)), .ref v]))], [(v, .inl (τ 0, n, .inl (f)))], [(b, .inr (4, [.int (iI (hx 0)), .int (iI (hx 1)), .int (iI (hx 2)), .int (iI (hx 3)), .int (iI (hx 4)), .int (iI (hx 5)), .int (iI (hx 6)), .ref y]))], [(y, .inl (τ 0, n2, .inl (f2)))]]) B Y 0 rfl (Nat.le_of_ble_eq_true rfl) rfl dX2_copyFrom_53 (fun H locs Y => ?_)
    refine lv_aload_n B.1 B.2.1 dX2_copyFrom_56 rfl (lv_at hl 0 rfl) ?_
    refine gf_X2_11 B Y 0 rfl rfl dX2_copyFrom_57 ?_
    refine lv_iconst (v := (iI (-1))) B.1 B.2.1 dX2_copyFrom_60 (by decide) ?_
    refine lv_icmp_eq (tgt := 88) B.1 B.2.1 dX2_copyFrom_61 (by decide) (fun h => absurd h (mt (iI_eq (a := hx 0) (b := (-1)) (by omega) (by omega) (by omega) (by omega)).mp (by omega))) (fun _ => ?_)
    refine lv_aload_n B.1 B.2.1 dX2_copyFrom_64 rfl (lv_at hl 0 rfl) ?_
    refine gf_X2_33 B Y 0 rfl rfl dX2_copyFrom_65 ?_
    refine b_alen (v := (iI ((n : Nat) : Int))) B Y 1 rfl 0 rfl (iI_nat _) dX2_copyFrom_68 ?_
    refine lv_aload_n B.1 B.2.1 dX2_copyFrom_69 rfl (lv_at hl 1 rfl) ?_
    refine gf_X2_33 B Y 2 rfl rfl dX2_copyFrom_70 ?_
    refine b_alen (v := (iI ((n2 : Nat) : Int))) B Y 3 rfl 0 rfl (iI_nat _) dX2_copyFrom_73 ?_
    refine lv_icmp_ge (tgt := 88) B.1 B.2.1 dX2_copyFrom_74 (by decide) (fun c1 => ?_) (fun c1 => ?_)
    · have c1 := (iI_le (a := ((n2 : Nat) : Int)) (b := ((n : Nat) : Int)) (by omega) (by omega) (by omega) (by omega)).mp c1
      refine lv_aload_n B.1 B.2.1 dX2_copyFrom_88 rfl (lv_at hl 0 rfl) ?_
      refine gf_X2_30 B Y 0 rfl rfl dX2_copyFrom_89 ?_
      refine lv_aload_n B.1 B.2.1 dX2_copyFrom_92 rfl (lv_at hl 0 rfl) ?_
      refine gf_X2_33 B Y 0 rfl rfl dX2_copyFrom_93 ?_
      refine b_alen (v := (iI ((n : Nat) : Int))) B Y 1 rfl 0 rfl (iI_nat _) dX2_copyFrom_96 ?_
      refine lv_aload_n B.1 B.2.1 dX2_copyFrom_97 rfl (lv_at hl 1 rfl) ?_
      refine gf_X2_33 B Y 2 rfl rfl dX2_copyFrom_98 ?_
      refine b_alen (v := (iI ((n2 : Nat) : Int))) B Y 3 rfl 0 rfl (iI_nat _) dX2_copyFrom_101 ?_
      refine t_mmin (v := (iI (min ((n : Nat) : Int) ((n2 : Nat) : Int)))) B q_617 q_618 q_1 q_619 hl.1 (Nat.le_of_ble_eq_true rfl) (Nat.le_of_ble_eq_true rfl) (by show _ ≤ KC - s.heap.size; omega) (by show _ ≤ KS - totS s.heap; omega) (iI_mn (by omega) (by omega) (by omega) (by omega)) dX2_copyFrom_102 ?_
      refine t_mmin (v := (iI (min (hx 6) (min ((n : Nat) : Int) ((n2 : Nat) : Int))))) B q_617 q_618 q_1 q_619 hl.1 (Nat.le_of_ble_eq_true rfl) (Nat.le_of_ble_eq_true rfl) (by show _ ≤ KC - s.heap.size; omega) (by show _ ≤ KS - totS s.heap; omega) (iI_mn (by omega) (by omega) (by omega) (by omega)) dX2_copyFrom_105 ?_
      refine lv_istore_n (lv' := [(2, .int (iI (min (hx 6) (min ((n : Nat) : Int) ((n2 : Nat) : Int))))), (0, .ref a), (1, .ref b)]) B.1 B.2.1 dX2_copyFrom_108 rfl hl (by decide) rfl (fun ls hl => ?_)
      refine lv_aload_n B.1 B.2.1 dX2_copyFrom_109 rfl (lv_at hl 1 rfl) ?_
      refine gf_X2_11 B Y 0 rfl rfl dX2_copyFrom_110 ?_
      refine lv_iconst (v := (iI (-1))) B.1 B.2.1 dX2_copyFrom_113 (by decide) ?_
      refine lv_icmp_eq (tgt := 135) B.1 B.2.1 dX2_copyFrom_114 (by decide) (fun h => absurd h (mt (iI_eq (a := hx 0) (b := (-1)) (by omega) (by omega) (by omega) (by omega)).mp (by omega))) (fun _ => ?_)
      refine lv_iload_n B.1 B.2.1 dX2_copyFrom_117 rfl (lv_at hl 0 rfl) ?_
      refine lv_if_le (tgt := 135) B.1 B.2.1 dX2_copyFrom_118 (by decide) (fun c2 => ?_) (fun c2 => ?_)
      · have c2 := (iI_le0 (a := min (hx 6) (min ((n : Nat) : Int) ((n2 : Nat) : Int))) (by omega) (by omega)).mp c2
        have hu : (n = 0 ∨ n = 1192) ∧ (hx 0 ≠ -1 → n = 1192 ∧ HpRep (hx 6) n (f) V) := ⟨by omega, fun q => ⟨by omega, HpRep.cp0 (hR q).2 (by omega) (by omega)⟩⟩
        exact eVz (w1 := fun (u : (Nat × Nat × (Nat → Int32))) => [[(a, .inr (4, [.int (iI (hx 0)), .int (iI (hx 1)), .int (iI (hx 2)), .int (iI (hx 3)), .int (iI (hx 4)), .int (iI (hx 5)), .int (iI (hx 6)), .ref u.1]))], [(u.1, .inl (τ 0, u.2.1, .inl (u.2.2)))], [(b, .inr (4, [.int (iI (hx 0)), .int (iI (hx 1)), .int (iI (hx 2)), .int (iI (hx 3)), .int (iI (hx 4)), .int (iI (hx 5)), .int (iI (hx 6)), .ref y]))], [(y, .inl (τ 0, n2, .inl (f2)))]]) B hr hlk Y (v, n, f) hu [0, 1, 2, 3] (by decide) rfl (by show _ + _ + (1192 - n) ≤ KC; omega) (by show _ + _ + (1192 - n) ≤ KS; omega) dX2_copyFrom_135
      · have c2 := mt (iI_le0 (a := min (hx 6) (min ((n : Nat) : Int) ((n2 : Nat) : Int))) (by omega) (by omega)).mpr c2
        refine lv_aload_n B.1 B.2.1 dX2_copyFrom_121 rfl (lv_at hl 2 rfl) ?_
        refine gf_X2_33 B Y 2 rfl rfl dX2_copyFrom_122 ?_
        refine lv_iconst (v := (iI (0))) B.1 B.2.1 dX2_copyFrom_125 (by decide) ?_
        refine lv_aload_n B.1 B.2.1 dX2_copyFrom_126 rfl (lv_at hl 1 rfl) ?_
        refine gf_X2_33 B Y 0 rfl rfl dX2_copyFrom_127 ?_
        refine lv_iconst (v := (iI (0))) B.1 B.2.1 dX2_copyFrom_130 (by decide) ?_
        refine lv_iload_n B.1 B.2.1 dX2_copyFrom_131 rfl (lv_at hl 0 rfl) ?_
        refine b_copyi (n' := (min (hx 6) (min ((n : Nat) : Int) ((n2 : Nat) : Int))).toNat) (h := va_cpy (f2) (f) 0 0 (min (hx 6) (min ((n : Nat) : Int) ((n2 : Nat) : Int))).toNat) (B' := [[(a, .inr (4, [.int (iI (hx 0)), .int (iI (hx 1)), .int (iI (hx 2)), .int (iI (hx 3)), .int (iI (hx 4)), .int (iI (hx 5)), .int (iI (hx 6)), .ref v]))], [(v, .inl (τ 0, n, .inl (va_cpy (f2) (f) 0 0 (min (hx 6) (min ((n : Nat) : Int) ((n2 : Nat) : Int))).toNat)))], [(b, .inr (4, [.int (iI (hx 0)), .int (iI (hx 1)), .int (iI (hx 2)), .int (iI (hx 3)), .int (iI (hx 4)), .int (iI (hx 5)), .int (iI (hx 6)), .ref y]))], [(y, .inl (τ 0, n2, .inl (f2)))]]) B Y q_620 q_622 q_621 q_18 hl.1 3 1 rfl rfl (iI_zpos (by omega) (by omega)) (iI_zclamp (by omega) (by omega)) (by omega) (by omega) rfl rfl (Nat.le_of_ble_eq_true rfl) (Nat.le_of_ble_eq_true rfl) dX2_copyFrom_132 (fun H locs Y => ?_)
        have hu : (n = 0 ∨ n = 1192) ∧ (hx 0 ≠ -1 → n = 1192 ∧ HpRep (hx 6) n (va_cpy (f2) (f) 0 0 (min (hx 6) (min ((n : Nat) : Int) ((n2 : Nat) : Int))).toNat) V) := ⟨by omega, fun q => ⟨by omega, HpRep.cp (hR q).2 (by omega) (by omega) (by omega)⟩⟩
        exact eVz (w1 := fun (u : (Nat × Nat × (Nat → Int32))) => [[(a, .inr (4, [.int (iI (hx 0)), .int (iI (hx 1)), .int (iI (hx 2)), .int (iI (hx 3)), .int (iI (hx 4)), .int (iI (hx 5)), .int (iI (hx 6)), .ref u.1]))], [(u.1, .inl (τ 0, u.2.1, .inl (u.2.2)))], [(b, .inr (4, [.int (iI (hx 0)), .int (iI (hx 1)), .int (iI (hx 2)), .int (iI (hx 3)), .int (iI (hx 4)), .int (iI (hx 5)), .int (iI (hx 6)), .ref y]))], [(y, .inl (τ 0, n2, .inl (f2)))]]) B hr hlk Y (v, n, va_cpy (f2) (f) 0 0 (min (hx 6) (min ((n : Nat) : Int) ((n2 : Nat) : Int))).toNat) hu [0, 1, 2, 3] (by decide) rfl (by show _ + _ + (1192 - n) ≤ KC; omega) (by show _ + _ + (1192 - n) ≤ KS; omega) dX2_copyFrom_135
    · have c1 := mt (iI_le (a := ((n2 : Nat) : Int)) (b := ((n : Nat) : Int)) (by omega) (by omega) (by omega) (by omega)).mpr c1
      refine lv_aload_n B.1 B.2.1 dX2_copyFrom_77 rfl (lv_at hl 0 rfl) ?_
      refine lv_aload_n B.1 B.2.1 dX2_copyFrom_78 rfl (lv_at hl 1 rfl) ?_
      refine gf_X2_33 B Y 2 rfl rfl dX2_copyFrom_79 ?_
      refine b_alen (v := (iI ((n2 : Nat) : Int))) B Y 3 rfl 0 rfl (iI_nat _) dX2_copyFrom_82 ?_
      refine b_newi (N' := n2) B Y q_80 (iI_pos (by omega)) (iI_clamp (by omega)) (by omega) (by show _ ≤ KC - s.heap.size; omega) (by show _ ≤ KS - totS s.heap; omega) dX2_copyFrom_83 (fun v2 H Y => ?_)
      have Y : Wd D τ s A s.heap (bl [[(a, .inr (4, [.int (iI (hx 0)), .int (iI (hx 1)), .int (iI (hx 2)), .int (iI (hx 3)), .int (iI (hx 4)), .int (iI (hx 5)), .int (iI (hx 6)), .ref v]))], [(v, .inl (τ 0, n, .inl (f)))], [(b, .inr (4, [.int (iI (hx 0)), .int (iI (hx 1)), .int (iI (hx 2)), .int (iI (hx 3)), .int (iI (hx 4)), .int (iI (hx 5)), .int (iI (hx 6)), .ref y]))], [(y, .inl (τ 0, n2, .inl (f2)))], [(v2, .inl (τ 0, n2, .inl (fun _ => 0)))]]) _ _ := Y
      refine pf_X2_33 (B' := [[(a, .inr (4, [.int (iI (hx 0)), .int (iI (hx 1)), .int (iI (hx 2)), .int (iI (hx 3)), .int (iI (hx 4)), .int (iI (hx 5)), .int (iI (hx 6)), .ref v2]))], [(v, .inl (τ 0, n, .inl (f)))], [(b, .inr (4, [.int (iI (hx 0)), .int (iI (hx 1)), .int (iI (hx 2)), .int (iI (hx 3)), .int (iI (hx 4)), .int (iI (hx 5)), .int (iI (hx 6)), .ref y]))], [(y, .inl (τ 0, n2, .inl (f2)))], [(v2, .inl (τ 0, n2, .inl (fun _ => 0)))]]) B Y rfl rfl 0 rfl (Nat.le_of_ble_eq_true rfl) rfl dX2_copyFrom_85 (fun H locs Y => ?_)
      refine lv_aload_n B.1 B.2.1 dX2_copyFrom_88 rfl (lv_at hl 0 rfl) ?_
      refine gf_X2_30 B Y 0 rfl rfl dX2_copyFrom_89 ?_
      refine lv_aload_n B.1 B.2.1 dX2_copyFrom_92 rfl (lv_at hl 0 rfl) ?_
      refine gf_X2_33 B Y 0 rfl rfl dX2_copyFrom_93 ?_
      refine b_alen (v := (iI ((n2 : Nat) : Int))) B Y 4 rfl 0 rfl (iI_nat _) dX2_copyFrom_96 ?_
      refine lv_aload_n B.1 B.2.1 dX2_copyFrom_97 rfl (lv_at hl 1 rfl) ?_
      refine gf_X2_33 B Y 2 rfl rfl dX2_copyFrom_98 ?_
      refine b_alen (v := (iI ((n2 : Nat) : Int))) B Y 3 rfl 0 rfl (iI_nat _) dX2_copyFrom_101 ?_
      refine t_mmin (v := (iI (min ((n2 : Nat) : Int) ((n2 : Nat) : Int)))) B q_617 q_618 q_1 q_619 hl.1 (Nat.le_of_ble_eq_true rfl) (Nat.le_of_ble_eq_true rfl) (by show _ ≤ KC - s.heap.size; omega) (by show _ ≤ KS - totS s.heap; omega) (iI_mn (by omega) (by omega) (by omega) (by omega)) dX2_copyFrom_102 ?_
      refine t_mmin (v := (iI (min (hx 6) (min ((n2 : Nat) : Int) ((n2 : Nat) : Int))))) B q_617 q_618 q_1 q_619 hl.1 (Nat.le_of_ble_eq_true rfl) (Nat.le_of_ble_eq_true rfl) (by show _ ≤ KC - s.heap.size; omega) (by show _ ≤ KS - totS s.heap; omega) (iI_mn (by omega) (by omega) (by omega) (by omega)) dX2_copyFrom_105 ?_
      refine lv_istore_n (lv' := [(2, .int (iI (min (hx 6) (min ((n2 : Nat) : Int) ((n2 : Nat) : Int))))), (0, .ref a), (1, .ref b)]) B.1 B.2.1 dX2_copyFrom_108 rfl hl (by decide) rfl (fun ls hl => ?_)
      refine lv_aload_n B.1 B.2.1 dX2_copyFrom_109 rfl (lv_at hl 1 rfl) ?_
      refine gf_X2_11 B Y 0 rfl rfl dX2_copyFrom_110 ?_
      refine lv_iconst (v := (iI (-1))) B.1 B.2.1 dX2_copyFrom_113 (by decide) ?_
      refine lv_icmp_eq (tgt := 135) B.1 B.2.1 dX2_copyFrom_114 (by decide) (fun h => absurd h (mt (iI_eq (a := hx 0) (b := (-1)) (by omega) (by omega) (by omega) (by omega)).mp (by omega))) (fun _ => ?_)
      refine lv_iload_n B.1 B.2.1 dX2_copyFrom_117 rfl (lv_at hl 0 rfl) ?_
      refine lv_if_le (tgt := 135) B.1 B.2.1 dX2_copyFrom_118 (by decide) (fun c3 => ?_) (fun c3 => ?_)
      · have c3 := (iI_le0 (a := min (hx 6) (min ((n2 : Nat) : Int) ((n2 : Nat) : Int))) (by omega) (by omega)).mp c3
        have hu : (n2 = 0 ∨ n2 = 1192) ∧ (hx 0 ≠ -1 → n2 = 1192 ∧ HpRep (hx 6) n2 (fun _ => 0) V) := ⟨by omega, fun q => ⟨by omega, HpRep.cp0 (hR q).2 (by omega) (by omega)⟩⟩
        exact eVz (w1 := fun (u : (Nat × Nat × (Nat → Int32))) => [[(a, .inr (4, [.int (iI (hx 0)), .int (iI (hx 1)), .int (iI (hx 2)), .int (iI (hx 3)), .int (iI (hx 4)), .int (iI (hx 5)), .int (iI (hx 6)), .ref u.1]))], [(u.1, .inl (τ 0, u.2.1, .inl (u.2.2)))], [(b, .inr (4, [.int (iI (hx 0)), .int (iI (hx 1)), .int (iI (hx 2)), .int (iI (hx 3)), .int (iI (hx 4)), .int (iI (hx 5)), .int (iI (hx 6)), .ref y]))], [(y, .inl (τ 0, n2, .inl (f2)))]]) B hr hlk Y (v2, n2, fun _ => 0) hu [0, 4, 2, 3] (by decide) rfl (by show _ + _ + (1192 - n2) ≤ KC; omega) (by show _ + _ + (1192 - n2) ≤ KS; omega) dX2_copyFrom_135
      · have c3 := mt (iI_le0 (a := min (hx 6) (min ((n2 : Nat) : Int) ((n2 : Nat) : Int))) (by omega) (by omega)).mpr c3
        refine lv_aload_n B.1 B.2.1 dX2_copyFrom_121 rfl (lv_at hl 2 rfl) ?_
        refine gf_X2_33 B Y 2 rfl rfl dX2_copyFrom_122 ?_
        refine lv_iconst (v := (iI (0))) B.1 B.2.1 dX2_copyFrom_125 (by decide) ?_
        refine lv_aload_n B.1 B.2.1 dX2_copyFrom_126 rfl (lv_at hl 1 rfl) ?_
        refine gf_X2_33 B Y 0 rfl rfl dX2_copyFrom_127 ?_
        refine lv_iconst (v := (iI (0))) B.1 B.2.1 dX2_copyFrom_130 (by decide) ?_
        refine lv_iload_n B.1 B.2.1 dX2_copyFrom_131 rfl (lv_at hl 0 rfl) ?_
        refine b_copyi (n' := (min (hx 6) (min ((n2 : Nat) : Int) ((n2 : Nat) : Int))).toNat) (h := va_cpy (f2) (fun _ => 0) 0 0 (min (hx 6) (min ((n2 : Nat) : Int) ((n2 : Nat) : Int))).toNat) (B' := [[(a, .inr (4, [.int (iI (hx 0)), .int (iI (hx 1)), .int (iI (hx 2)), .int (iI (hx 3)), .int (iI (hx 4)), .int (iI (hx 5)), .int (iI (hx 6)), .ref v2]))], [(v, .inl (τ 0, n, .inl (f)))], [(b, .inr (4, [.int (iI (hx 0)), .int (iI (hx 1)), .int (iI (hx 2)), .int (iI (hx 3)), .int (iI (hx 4)), .int (iI (hx 5)), .int (iI (hx 6)), .ref y]))], [(y, .inl (τ 0, n2, .inl (f2)))], [(v2, .inl (τ 0, n2, .inl (va_cpy (f2) (fun _ => 0) 0 0 (min (hx 6) (min ((n2 : Nat) : Int) ((n2 : Nat) : Int))).toNat)))]]) B Y q_620 q_622 q_621 q_18 hl.1 3 4 rfl rfl (iI_zpos (by omega) (by omega)) (iI_zclamp (by omega) (by omega)) (by omega) (by omega) rfl rfl (Nat.le_of_ble_eq_true rfl) (Nat.le_of_ble_eq_true rfl) dX2_copyFrom_132 (fun H locs Y => ?_)
        have hu : (n2 = 0 ∨ n2 = 1192) ∧ (hx 0 ≠ -1 → n2 = 1192 ∧ HpRep (hx 6) n2 (va_cpy (f2) (fun _ => 0) 0 0 (min (hx 6) (min ((n2 : Nat) : Int) ((n2 : Nat) : Int))).toNat) V) := ⟨by omega, fun q => ⟨by omega, HpRep.cp (hR q).2 (by omega) (by omega) (by omega)⟩⟩
        exact eVz (w1 := fun (u : (Nat × Nat × (Nat → Int32))) => [[(a, .inr (4, [.int (iI (hx 0)), .int (iI (hx 1)), .int (iI (hx 2)), .int (iI (hx 3)), .int (iI (hx 4)), .int (iI (hx 5)), .int (iI (hx 6)), .ref u.1]))], [(u.1, .inl (τ 0, u.2.1, .inl (u.2.2)))], [(b, .inr (4, [.int (iI (hx 0)), .int (iI (hx 1)), .int (iI (hx 2)), .int (iI (hx 3)), .int (iI (hx 4)), .int (iI (hx 5)), .int (iI (hx 6)), .ref y]))], [(y, .inl (τ 0, n2, .inl (f2)))]]) B hr hlk Y (v2, n2, va_cpy (f2) (fun _ => 0) 0 0 (min (hx 6) (min ((n2 : Nat) : Int) ((n2 : Nat) : Int))).toNat) hu [0, 4, 2, 3] (by decide) rfl (by show _ + _ + (1192 - n2) ≤ KC; omega) (by show _ + _ + (1192 - n2) ≤ KS; omega) dX2_copyFrom_135

