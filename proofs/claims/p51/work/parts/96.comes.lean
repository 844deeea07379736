/-! a piece comes -/
theorem row2F_j (la il : Int) (r : Nat → Int) {j : Nat} (h : j ≠ 2) : row2F la il r j = r j := by
  unfold row2F
  split
  · rfl
  · exact upz_ne _ _ h
theorem rowT_6 (V : Int → Int) (o nb : Nat) (il : Int) (r : Nat → Int) : rowT V o nb il r 6 = max (r 6) ((o + nb : Nat) : Int) := by
  unfold rowT row3F
  rw [upz_k, row2F_j _ _ _ (by decide)]; rfl
theorem rowT_3 (V : Int → Int) (o nb : Nat) (il : Int) (r : Nat → Int) : rowT V o nb il r 3 = r 3 + tkU V o nb := by
  unfold rowT row3F
  rw [upz_ne _ _ (by decide), upz_ne _ _ (by decide), upz_k, row2F_j _ _ _ (by decide)]; rfl
theorem rowT_2 (V : Int → Int) (o nb : Nat) (il : Int) (r : Nat → Int) : rowT V o nb il r 2 = if il = 0 then r 2 else ((o + nb : Nat) : Int) := by
  unfold rowT row3F
  rw [upz_ne _ _ (by decide), upz_ne _ _ (by decide), upz_ne _ _ (by decide)]
  unfold row2F
  by_cases e : il = 0
  · rw [if_pos e, if_pos e]; rfl
  · rw [if_neg e, if_neg e, upz_k]
theorem odds_0 {en tp la il : Int} (hil : il = 0 ∨ il = 1) (h : oddsI en tp la il = 0) : (il = 0 ∧ (en = -1 ∨ la ≤ en)) ∨ (il = 1 ∧ (en = -1 ∨ en = la) ∧ tp ≤ la) := by
  unfold oddsI at h
  rcases hil with q | q
  · rw [if_pos q] at h
    refine Or.inl ⟨q, ?_⟩
    by_cases e : en = -1
    · exact Or.inl e
    · rw [if_neg e] at h
      by_cases e2 : en < la
      · rw [if_pos e2] at h; omega
      · exact Or.inr (by omega)
  · rw [if_neg (by omega)] at h
    refine Or.inr ⟨q, ?_⟩
    by_cases e : en ≠ -1 ∧ en ≠ la
    · rw [if_pos e] at h; omega
    · rw [if_neg e] at h
      by_cases e2 : la < tp
      · rw [if_pos e2] at h; omega
      · exact ⟨by omega, by omega⟩
theorem tkV_in {V val : Int → Int} {rp a b x : Int} (h1 : a ≤ x) (h2 : x < b) : tkV V val rp a b x = (if V x = -1 then val x else if rp = 0 then V x else val x) := if_pos ⟨h1, h2⟩
theorem tkV_out {V val : Int → Int} {rp a b x : Int} (h : ¬ (a ≤ x ∧ x < b)) : tkV V val rp a b x = V x := if_neg h
theorem tkV_or (V val : Int → Int) (rp a b x : Int) : tkV V val rp a b x = V x ∨ ((a ≤ x ∧ x < b) ∧ tkV V val rp a b x = val x) := by
  by_cases h : a ≤ x ∧ x < b
  · rw [tkV_in h.1 h.2]
    split
    · exact Or.inr ⟨h, rfl⟩
    · split
      · exact Or.inl rfl
      · exact Or.inr ⟨h, rfl⟩
  · exact Or.inl (tkV_out h)
theorem tkV_known {V val : Int → Int} {rp a b x : Int} (hv : 0 ≤ val x) (h1 : a ≤ x) (h2 : x < b) : tkV V val rp a b x ≠ -1 := by
  rw [tkV_in h1 h2]
  split
  · omega
  · rename_i e
    split
    · exact e
    · omega
theorem take_rows {row : Nat → Int} {V val : Int → Int} {rp il : Int} {o nb : Nat} (h : HpS row V) (hv : ∀ z : Int, 0 ≤ val z ∧ val z ≤ 255) (hnb : 1 ≤ nb) (hla : o + nb ≤ 1192) (hil : il = 0 ∨ il = 1) (hodd : oddsI (row 2) (row 6) ((o + nb : Nat) : Int) il = 0) :
    (0 ≤ rowT V o nb il row 6 ∧ rowT V o nb il row 6 ≤ 1192) ∧ (∀ x : Int, x < 0 ∨ rowT V o nb il row 6 ≤ x → tkV V val rp o ((o + nb : Nat) : Int) x = -1) ∧ (∀ x : Int, -1 ≤ tkV V val rp o ((o + nb : Nat) : Int) x ∧ tkV V val rp o ((o + nb : Nat) : Int) x ≤ 255)
    ∧ rowT V o nb il row 3 = kcnt (tkV V val rp o ((o + nb : Nat) : Int)) 1192 ∧ (-1 ≤ rowT V o nb il row 2 ∧ rowT V o nb il row 2 ≤ 1192) ∧ (0 < rowT V o nb il row 6 → tkV V val rp o ((o + nb : Nat) : Int) (rowT V o nb il row 6 - 1) ≠ -1)
    ∧ (rowT V o nb il row 2 ≠ -1 → rowT V o nb il row 6 ≤ rowT V o nb il row 2 ∧ rowT V o nb il row 3 ≤ rowT V o nb il row 2) ∧ 1 ≤ rowT V o nb il row 3 := by
  obtain ⟨⟨a1, a2⟩, b, c, d, ⟨e1, e2⟩, f, g⟩ := h
  have ho := odds_0 hil hodd
  have hk : rowT V o nb il row 3 = kcnt (tkV V val rp o ((o + nb : Nat) : Int)) 1192 := by
    rw [rowT_3, kcnt_tk (n := 1192) (fun z => (hv z).1) (by omega) hla, d, show o + nb - o = nb by omega]
  have hout : ∀ x : Int, x < 0 ∨ max (row 6) ((o + nb : Nat) : Int) ≤ x → tkV V val rp o ((o + nb : Nat) : Int) x = -1 := fun x hx => by
    rw [tkV_out (by omega)]; exact b x (by omega)
  have hkm : kcnt (tkV V val rp o ((o + nb : Nat) : Int)) 1192 ≤ max (row 6) ((o + nb : Nat) : Int) := by
    have q := kcnt_top (V := tkV V val rp o ((o + nb : Nat) : Int)) (m := (max (row 6) ((o + nb : Nat) : Int)).toNat) (n := 1192) (fun x hx => hout x (Or.inr (by omega))) (by omega)
    have q2 := kcnt_le (tkV V val rp o ((o + nb : Nat) : Int)) (max (row 6) ((o + nb : Nat) : Int)).toNat
    omega
  refine ⟨?_, ?_, fun x => ?_, hk, ?_, fun q => ?_, fun q => ?_, ?_⟩
  · rw [rowT_6]; omega
  · rw [rowT_6]; exact hout
  · have q1 := c x
    have q2 := hv x
    rcases tkV_or V val rp o ((o + nb : Nat) : Int) x with q | ⟨-, q⟩ <;> rw [q] <;> omega
  · rw [rowT_2]
    split <;> omega
  · rw [rowT_6] at q ⊢
    by_cases e : row 6 ≤ ((o + nb : Nat) : Int)
    · rw [show max (row 6) ((o + nb : Nat) : Int) = ((o + nb : Nat) : Int) by omega]
      exact tkV_known (hv _).1 (by omega) (by omega)
    · rw [show max (row 6) ((o + nb : Nat) : Int) = row 6 by omega, tkV_out (by omega)]
      exact f (by omega)
  · rw [hk]
    rw [rowT_2] at q ⊢
    rw [rowT_6]
    by_cases e : il = 0
    · rw [if_pos e] at q ⊢
      have q2 := g q
      omega
    · rw [if_neg e]
      omega
  · rw [hk]
    exact kcnt_pos (i := o) (tkV_known (hv _).1 (by omega) (by omega)) (by omega)
theorem tkO_no {V val : Int → Int} (h : ∀ z : Int, V z = -1 ∨ V z = val z) (off : Int) (n : Nat) : tkO V val off n = 0 := by
  induction n with
  | zero => rfl
  | succ n ih =>
    show (if V (off + n) ≠ -1 ∧ V (off + n) ≠ val (off + n) then 1 else tkO V val off n) = 0
    rw [if_neg (fun q => by rcases h (off + n) with q2 | q2; (· exact q.1 q2); (· exact q.2 q2)), ih]
theorem ownF_all {V : Int → Int} {d : Nat → Int} {n : Nat} (h : ∀ i : Nat, i < n → V i = ownB d i) : ownF V d n = 1 := by
  induction n with
  | zero => rfl
  | succ n ih =>
    show (if V n = ownB d n then ownF V d n else 0) = 1
    rw [if_pos (h n (by omega)), ih (fun i hi => h i (by omega))]
theorem fate_12 (r d : Nat → Int) (V : Int → Int) : (fateF r d V = 2 ∨ fateF r d V = 1) ∧ (fateF r d V = 1 → r 2 = d 0) := by
  unfold fateF
  by_cases e : r 2 = d 0
  · rw [if_pos e]
    by_cases e2 : ownF V d (r 2).toNat = 0
    · rw [if_pos e2]; exact ⟨Or.inl rfl, fun _ => e⟩
    · rw [if_neg e2]; exact ⟨Or.inr rfl, fun _ => e⟩
  · rw [if_neg e, if_pos rfl]; exact ⟨Or.inl rfl, fun q => absurd q (by decide)⟩
theorem tval_in {fill : Int} (h : -1 ≤ fill ∧ fill ≤ 255) (d : Nat → Int) (z : Int) : 0 ≤ tval fill d z ∧ tval fill d z ≤ 255 := by
  have q := ownB_01 d z
  unfold tval
  split <;> omega
theorem setR_2 {α : Type} (C : Nat → α) (k : Nat) (x y : α) : setR (setR C k x) k y = setR C k y := by
  funext j
  by_cases e : j = k
  · rw [e, setR_k, setR_k]
  · rw [setR_ne _ _ e, setR_ne _ _ e, setR_ne _ _ e]
theorem RI.weak {hon : Bool} {t n : Int} {y : RY} (h : RI hon t n 4 y) (j : Nat) : RI hon t n j y := ⟨h.1, h.2.1, fun i hi => ⟨(h.2.2.1 i hi).1, fun q => by
  obtain ⟨a, b, c⟩ := (h.2.2.1 i hi).2 q
  exact ⟨a, fun _ => b (by omega), c⟩⟩, h.2.2.2⟩
theorem RI.fill {hon : Bool} {t n : Int} {y : RY} {j : Nat} (h : RI hon t n j y) (hj : j < 4) {r : Nat → Int} {V : Int → Int} {A' : Nat → Int} (h0 : r 0 = y.2.1 j 0) (hS : HpS r V) (h1 : 1 ≤ r 3) (hh : hon = true → HonS (y.1 (y.2.1 j 0).toNat) r V) (hA : A' 11 = y.2.2.2 11) : RI hon t n 4 (y.1, setR y.2.1 j r, setR y.2.2.1 j V, A') := by
  have hrow : ∀ a : Nat, setR y.2.1 j r a 0 = y.2.1 a 0 := fun a => by
    by_cases e : a = j
    · rw [e, setR_k]; exact h0
    · rw [setR_ne _ _ e]
  refine ⟨fun d hd => ?_, fun a b ha hb hne heq => ?_, fun a ha => ?_, ?_⟩
  · obtain ⟨a1, a2, a3, a4⟩ := h.1 d hd
    exact ⟨a1, a2, fun q a ha => by dsimp only; rw [hrow]; exact a3 q a ha, a4⟩
  · dsimp only at hne heq
    rw [hrow] at hne heq
    rw [hrow] at heq
    exact h.2.1 a b ha hb hne heq
  · dsimp only
    rw [hrow]
    obtain ⟨a1, a2⟩ := h.2.2.1 a ha
    refine ⟨a1, fun q => ?_⟩
    by_cases e : a = j
    · rw [e, setR_k, setR_k]; exact ⟨hS, fun _ => h1, hh⟩
    · rw [setR_ne _ _ e, setR_ne _ _ e]
      obtain ⟨b1, b2, b3⟩ := a2 q
      exact ⟨b1, fun _ => b2 e, b3⟩
  · show bytD y.1 n.toNat ≤ A' 11 ∧ A' 11 ≤ 1192 * hndD y.1 n.toNat
    rw [hA]; exact h.2.2.2
theorem RI.take {hon : Bool} {n : Int} {y : RY} {g : Nat → Int} {d o nb j : Nat} {fill il : Int} (h : RI hon (g 0) n j y) (ht : 0 ≤ g 0) (hj : j < 4) (hd : y.2.1 j 0 = d) (hnb : 1 ≤ nb) (hla : o + nb ≤ 1192) (hil : il = 0 ∨ il = 1) (hfl : -1 ≤ fill ∧ fill ≤ 255) (hh : hon = true → fill = -1 ∧ ((o + nb : Nat) : Int) ≤ y.1 d 0 ∧ il = (if ((o + nb : Nat) : Int) < y.1 d 0 then 0 else 1)) : RI hon (g 0) n 4 (takeF g d o nb fill il j y) := by
  obtain ⟨hS, -, hHon⟩ := (h.2.2.1 j hj).2 (by omega)
  rw [hd, Int.toNat_natCast] at hHon
  have hT0 := rowT_j (y.2.2.1 j) o nb il (y.2.1 j) (j := 0) (by decide)
  have hA : accT (y.2.2.1 j) o nb y.2.2.2 11 = y.2.2.2 11 := upz_ne _ _ (by decide)
  have hval := fun z => tval_in hfl (y.1 d) z
  have hown : hon = true → ∀ z : Int, tval fill (y.1 d) z = ownB (y.1 d) z := fun q z => if_pos (hh q).1
  unfold takeF
  by_cases e : oddsI (y.2.1 j 2) (y.2.1 j 6) ((o + nb : Nat) : Int) il = 0
  · rw [if_pos e]
    have hR := take_rows (rp := if g 2 = 1 then 1 else 0) hS hval hnb hla hil e
    have hVo : hon = true → ∀ x : Int, valT g (y.2.2.1 j) o nb fill (y.1 d) x = -1 ∨ valT g (y.2.2.1 j) o nb fill (y.1 d) x = ownB (y.1 d) x := fun q x => by
      have q1 := (hHon q).2.2 x
      rcases tkV_or (y.2.2.1 j) (tval fill (y.1 d)) (if g 2 = 1 then 1 else 0) o ((o + nb : Nat) : Int) x with q2 | ⟨-, q2⟩
      · unfold valT; rw [q2]; exact q1
      · unfold valT; rw [q2, hown q]; exact Or.inr rfl
    have hH' : hon = true → HonS (y.1 d) (rowT (y.2.2.1 j) o nb il (y.2.1 j)) (valT g (y.2.2.1 j) o nb fill (y.1 d)) := fun q => by
      obtain ⟨q1, q2, q3⟩ := hh q
      obtain ⟨q4, q5, -⟩ := hHon q
      refine ⟨?_, by rw [rowT_6]; omega, hVo q⟩
      rw [rowT_2]
      by_cases e2 : il = 0
      · rw [if_pos e2]; exact q4
      · rw [if_neg e2]
        by_cases e3 : ((o + nb : Nat) : Int) < y.1 d 0
        · rw [if_pos e3] at q3; exact absurd q3 e2
        · exact Or.inr (by omega)
    by_cases e2 : tkO (y.2.2.1 j) (tval fill (y.1 d)) o nb = 1 ∧ g 2 = 2
    · rw [if_pos e2]
      refine h.close ht hj hd (Or.inr (Or.inr rfl)) ⟨fun _ => by decide, fun _ => rfl⟩ (by decide) (fun q => ?_) (upz_k _ _ _) _ ?_ ?_ (fun a b _ => b)
      · have q2 := tkO_no (V := y.2.2.1 j) (val := tval fill (y.1 d)) (fun z => by rw [hown q]; exact (hHon q).2.2 z) o nb
        rw [q2] at e2; exact absurd e2.1 (by decide)
      · rw [hA, if_neg (by decide)]; omega
      · rw [hA, if_pos rfl]; omega
    · rw [if_neg e2]
      by_cases e3 : rowT (y.2.2.1 j) o nb il (y.2.1 j) 2 ≠ -1 ∧ rowT (y.2.2.1 j) o nb il (y.2.1 j) 3 = rowT (y.2.2.1 j) o nb il (y.2.1 j) 2
      · rw [if_pos e3]
        obtain ⟨f1, f2⟩ := fate_12 (rowT (y.2.2.1 j) o nb il (y.2.1 j)) (y.1 d) (valT g (y.2.2.1 j) o nb fill (y.1 d))
        have hR2 := hR.2.2.2.2.1
        refine h.close ht hj hd (by omega) ⟨fun q => by omega, fun q => absurd q (by decide)⟩ (by decide) (fun q => ⟨?_, by decide⟩) (upz_k _ _ _) _ ?_ ?_ (fun a b _ => b)
        · have hH := hH' q
          have hlen : rowT (y.2.2.1 j) o nb il (y.2.1 j) 2 = y.1 d 0 := by
            rcases hH.1 with q2 | q2
            · exact absurd q2 e3.1
            · exact q2
          have hl0 := (h.1 d (h.open_ hj hd).1).1.1
          have hk1 := hR.2.2.2.1
          have hk2 := kcnt_top (V := valT g (y.2.2.1 j) o nb fill (y.1 d)) (m := (y.1 d 0).toNat) (n := 1192) (fun x hx => hR.2.1 x (Or.inr (by have := hH.2.1; omega))) (by omega)
          have hfull := kcnt_full (V := valT g (y.2.2.1 j) o nb fill (y.1 d)) (n := (y.1 d 0).toNat) (by
            rw [← hk2]
            show kcnt (tkV (y.2.2.1 j) (tval fill (y.1 d)) (if g 2 = 1 then 1 else 0) o ((o + nb : Nat) : Int)) 1192 = _
            rw [← hk1]; omega)
          have hof : ownF (valT g (y.2.2.1 j) o nb fill (y.1 d)) (y.1 d) (rowT (y.2.2.1 j) o nb il (y.2.1 j) 2).toNat = 1 := ownF_all (fun i hi => by
            rcases hVo q i with q2 | q2
            · exact absurd q2 (hfull i (by omega))
            · exact q2)
          unfold fateF
          rw [if_pos hlen, hof]; decide
        · show y.2.2.2 11 + _ ≤ upz (accT (y.2.2.1 j) o nb y.2.2.2) 11 (accT (y.2.2.1 j) o nb y.2.2.2 11 + rowT (y.2.2.1 j) o nb il (y.2.1 j) 2) 11
          rw [upz_k, hA]
          by_cases q : fateF (rowT (y.2.2.1 j) o nb il (y.2.1 j)) (y.1 d) (valT g (y.2.2.1 j) o nb fill (y.1 d)) = 1
          · rw [if_pos q, f2 q]; omega
          · rw [if_neg q]; have := e3.1; omega
        · show upz (accT (y.2.2.1 j) o nb y.2.2.2) 11 (accT (y.2.2.1 j) o nb y.2.2.2 11 + rowT (y.2.2.1 j) o nb il (y.2.1 j) 2) 11 ≤ _
          rw [upz_k, hA, if_neg (by omega)]; omega
      · rw [if_neg e3]
        refine h.fill hj hT0 ⟨hR.1, hR.2.1, hR.2.2.1, hR.2.2.2.1, hR.2.2.2.2.1, hR.2.2.2.2.2.1, fun q => ?_⟩ hR.2.2.2.2.2.2.2 (by rw [hd, Int.toNat_natCast]; exact hH') hA
        have q2 := hR.2.2.2.2.2.2.1 q
        refine ⟨q2.1, ?_⟩
        by_cases q3 : rowT (y.2.2.1 j) o nb il (y.2.1 j) 3 = rowT (y.2.2.1 j) o nb il (y.2.1 j) 2
        · exact absurd ⟨q, q3⟩ e3
        · omega
  · rw [if_neg e]
    have hV : setR y.2.2.1 j (y.2.2.1 j) = y.2.2.1 := by
      funext a
      by_cases q : a = j
      · rw [q, setR_k]
      · rw [setR_ne _ _ q]
    have hc := h.close ht hj hd (x := 3) (c := 3) (Or.inr (Or.inr rfl)) ⟨fun _ => by decide, fun _ => rfl⟩ (by decide) (fun q => absurd ?_ e) (r := upz (row1F (y.2.1 j)) 0 (-1)) (upz_k _ _ _) (y.2.2.1 j) (A' := y.2.2.2) (by rw [if_neg (by decide)]; omega) (by rw [if_pos rfl]; omega) (k' := 4) (fun a b _ => b)
    · rw [hV] at hc; exact hc
    · obtain ⟨q1, q2, q3⟩ := hh q
      obtain ⟨q4, q5, -⟩ := hHon q
      unfold oddsI
      by_cases e3 : ((o + nb : Nat) : Int) < y.1 d 0
      · rw [if_pos e3] at q3
        rw [if_pos q3]
        by_cases e4 : y.2.1 j 2 = -1
        · rw [if_pos e4]
        · rw [if_neg e4, if_neg (by omega)]
      · rw [if_neg e3] at q3
        rw [if_neg (by omega), if_neg (by omega), if_neg (by omega)]
theorem RI.recv {hon : Bool} {n : Int} {y : RY} {g : Nat → Int} {d o nb : Nat} {fill il : Int} (h : RI hon (g 0) n 4 y) (ht : 0 ≤ g 0) (hd : (d : Int) < n) (hnb : 1 ≤ nb) (hla : o + nb ≤ 1192) (hil : il = 0 ∨ il = 1) (hfl : -1 ≤ fill ∧ fill ≤ 255) (hh : hon = true → fill = -1 ∧ ((o + nb : Nat) : Int) ≤ y.1 d 0 ∧ il = (if ((o + nb : Nat) : Int) < y.1 d 0 then 0 else 1)) : RI hon (g 0) n 4 (recvF g d o nb fill il y) := by
  unfold recvF
  by_cases e : y.1 d 5 = 0
  · rw [if_pos e]
    have hin := hofI_in y.2.1 d 4
    have hA : upz y.2.2.2 5 (y.2.2.2 5 + 1) 11 = y.2.2.2 11 := upz_ne _ _ (by decide)
    by_cases e2 : hofI y.2.1 d 4 = -1
    · have hno := hin.2.2.2 e2
      have hj := fstJ_lt y.2.1
      have hJ : hfJ y.2.1 d = fstJ y.2.1 := if_pos e2
      by_cases e3 : y.2.1 (fstJ y.2.1) 0 = -1
      · have hF : hfF (g 0) d (y.1, y.2.1, y.2.2.1) = (y.1, setR y.2.1 (fstJ y.2.1) (begR d (g 0)), setR y.2.2.1 (fstJ y.2.1) (fun _ => -1)) := by
          unfold hfF
          rw [if_pos e2]
          show ((if y.2.1 (fstJ y.2.1) 0 = -1 then y.1 else _), _, _) = _
          rw [if_pos e3]
        rw [hF, hJ]
        have h1 := (h.beg hd hno e hj e3).acc (A' := upz y.2.2.2 5 (y.2.2.2 5 + 1)) hA
        exact h1.take ht hj (by show setR y.2.1 (fstJ y.2.1) (begR d (g 0)) (fstJ y.2.1) 0 = d; rw [setR_k]; rfl) hnb hla hil hfl hh
      · obtain ⟨w, hw⟩ : ∃ w : Nat, y.2.1 (fstJ y.2.1) 0 = w := ⟨(y.2.1 (fstJ y.2.1) 0).toNat, by have := (h.2.2.1 _ hj).1; omega⟩
        have hF : hfF (g 0) d (y.1, y.2.1, y.2.2.1) = (setR y.1 w (closeR (y.1 w) 3 (g 0) 2), setR y.2.1 (fstJ y.2.1) (begR d (g 0)), setR y.2.2.1 (fstJ y.2.1) (fun _ => -1)) := by
          unfold hfF
          rw [if_pos e2]
          show ((if y.2.1 (fstJ y.2.1) 0 = -1 then y.1 else setR y.1 (y.2.1 (fstJ y.2.1) 0).toNat (closeR (y.1 (y.2.1 (fstJ y.2.1) 0).toNat) 3 (g 0) 2)), _, _) = _
          rw [if_neg e3, hw, Int.toNat_natCast]
        rw [hF, hJ]
        have hwd : d ≠ w := fun q => hno _ hj (by rw [hw, q])
        have h0 := h.close ht hj hw (x := 3) (c := 2) (Or.inr (Or.inr rfl)) ⟨fun _ => by decide, fun _ => rfl⟩ (by decide) (fun _ => by decide) (r := fun _ => -1) rfl (fun _ => -1) (A' := y.2.2.2) (by rw [if_neg (by decide)]; omega) (by rw [if_pos rfl]; omega) (k' := 4) (fun _ _ q => q)
        have h1 := h0.beg hd (fun i hi => by
          show setR y.2.1 (fstJ y.2.1) (fun _ => -1) i 0 ≠ d
          by_cases q : i = fstJ y.2.1
          · rw [q, setR_k]; omega
          · rw [setR_ne _ _ q]; exact hno i hi) (by show setR y.1 w _ d 5 = 0; rw [setR_ne _ _ hwd]; exact e) hj (by show setR y.2.1 (fstJ y.2.1) (fun _ => -1) (fstJ y.2.1) 0 = -1; rw [setR_k])
        dsimp only at h1
        rw [setR_2, setR_2] at h1
        have h2 := h1.acc (A' := upz y.2.2.2 5 (y.2.2.2 5 + 1)) hA
        exact h2.take ht hj (by show setR y.2.1 (fstJ y.2.1) (begR d (g 0)) (fstJ y.2.1) 0 = d; rw [setR_k]; rfl) hnb hla hil hfl (fun q => by show fill = -1 ∧ _ ≤ setR y.1 w _ d 0 ∧ il = (if _ < setR y.1 w _ d 0 then 0 else 1); rw [setR_ne _ _ hwd]; exact hh q)
    · have hF : hfF (g 0) d (y.1, y.2.1, y.2.2.1) = (y.1, y.2.1, y.2.2.1) := if_neg e2
      have hJ : hfJ y.2.1 d = (hofI y.2.1 d 4).toNat := if_neg e2
      rw [hF, hJ]
      have h1 := (h.weak (hofI y.2.1 d 4).toNat).acc (A' := upz y.2.2.2 5 (y.2.2.2 5 + 1)) hA
      exact h1.take ht (by omega) (hin.2.2.1 e2) hnb hla hil hfl hh
  · rw [if_neg e]
    exact h.acc (by show upz (upz y.2.2.2 5 _) 6 _ 11 = _; rw [upz_ne _ _ (by decide), upz_ne _ _ (by decide)])
