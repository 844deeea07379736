/-! what is foretold comes -/
def RowOk (t : Int) (D E : Nat → Nat → Int) : Prop := ∀ e : Nat, E e = D e ∨ (D e 5 = 0 ∧ ∃ x c : Int, x ≠ 0 ∧ E e = closeR (D e) x t c)
theorem RowOk.refl (t : Int) (D : Nat → Nat → Int) : RowOk t D D := fun _ => Or.inl rfl
theorem RowOk.set {t : Int} {D : Nat → Nat → Int} {d : Nat} (h : D d 5 = 0) {x : Int} (c : Int) (hx : x ≠ 0) : RowOk t D (setR D d (closeR (D d) x t c)) := fun e => by
  by_cases q : e = d
  · rw [q, setR_k]; exact Or.inr ⟨h, x, c, hx, rfl⟩
  · rw [setR_ne _ _ q]; exact Or.inl rfl
theorem RowOk.of {t : Int} {D D' E : Nat → Nat → Int} (h : D = D') (k : RowOk t D E) : RowOk t D' E := by
  subst h; exact k
theorem takeF_row {g : Nat → Int} {d o nb : Nat} {fill il : Int} {j : Nat} {y : RY} (h : y.1 d 5 = 0) : RowOk (g 0) y.1 (takeF g d o nb fill il j y).1 := by
  unfold takeF
  split
  · split
    · exact RowOk.set h 4 (by decide)
    · split
      · refine RowOk.set h 0 ?_
        rcases (fate_12 (rowT (y.2.2.1 j) o nb il (y.2.1 j)) (y.1 d) (valT g (y.2.2.1 j) o nb fill (y.1 d))).1 with q | q <;> rw [q] <;> decide
      · exact RowOk.refl _ _
  · exact RowOk.set h 3 (by decide)
theorem recvF_row {hon : Bool} {n : Int} {y : RY} {g : Nat → Int} {d o nb : Nat} {fill il t : Int} (h : RI hon t n 4 y) : RowOk (g 0) y.1 (recvF g d o nb fill il y).1 := by
  unfold recvF
  by_cases e : y.1 d 5 = 0
  · rw [if_pos e]
    have hin := hofI_in y.2.1 d 4
    have hj := fstJ_lt y.2.1
    by_cases e2 : hofI y.2.1 d 4 = -1
    · by_cases e3 : y.2.1 (fstJ y.2.1) 0 = -1
      · have hF : (hfF (g 0) d (y.1, y.2.1, y.2.2.1)).1 = y.1 := by
          unfold hfF
          rw [if_pos e2]
          show (if y.2.1 (fstJ y.2.1) 0 = -1 then y.1 else _) = _
          rw [if_pos e3]
        have hT := takeF_row (g := g) (d := d) (o := o) (nb := nb) (fill := fill) (il := il) (j := hfJ y.2.1 d) (y := ((hfF (g 0) d (y.1, y.2.1, y.2.2.1)).1, (hfF (g 0) d (y.1, y.2.1, y.2.2.1)).2.1, (hfF (g 0) d (y.1, y.2.1, y.2.2.1)).2.2, upz y.2.2.2 5 (y.2.2.2 5 + 1))) (by show (hfF (g 0) d (y.1, y.2.1, y.2.2.1)).1 d 5 = 0; rw [hF]; exact e)
        exact RowOk.of hF hT
      · obtain ⟨w, hw⟩ : ∃ w : Nat, y.2.1 (fstJ y.2.1) 0 = w := ⟨(y.2.1 (fstJ y.2.1) 0).toNat, by have := (h.2.2.1 _ hj).1; omega⟩
        have hwd : d ≠ w := fun q => hin.2.2.2 e2 _ hj (by rw [hw, q])
        have hw0 := (h.open_ hj hw).2
        have hF : (hfF (g 0) d (y.1, y.2.1, y.2.2.1)).1 = setR y.1 w (closeR (y.1 w) 3 (g 0) 2) := by
          unfold hfF
          rw [if_pos e2]
          show (if y.2.1 (fstJ y.2.1) 0 = -1 then y.1 else setR y.1 (y.2.1 (fstJ y.2.1) 0).toNat (closeR (y.1 (y.2.1 (fstJ y.2.1) 0).toNat) 3 (g 0) 2)) = _
          rw [if_neg e3, hw, Int.toNat_natCast]
        have hT := takeF_row (g := g) (d := d) (o := o) (nb := nb) (fill := fill) (il := il) (j := hfJ y.2.1 d) (y := ((hfF (g 0) d (y.1, y.2.1, y.2.2.1)).1, (hfF (g 0) d (y.1, y.2.1, y.2.2.1)).2.1, (hfF (g 0) d (y.1, y.2.1, y.2.2.1)).2.2, upz y.2.2.2 5 (y.2.2.2 5 + 1))) (by show (hfF (g 0) d (y.1, y.2.1, y.2.2.1)).1 d 5 = 0; rw [hF, setR_ne _ _ hwd]; exact e)
        intro u
        have hu := hT u
        have hD : (hfF (g 0) d (y.1, y.2.1, y.2.2.1)).1 u = setR y.1 w (closeR (y.1 w) 3 (g 0) 2) u := by rw [hF]
        by_cases q : u = w
        · rw [q, setR_k] at hD
          refine Or.inr ⟨by rw [q]; exact hw0, 3, 2, by decide, ?_⟩
          rcases hu with hu | ⟨hu, -⟩
          · rw [hu]; show (hfF (g 0) d (y.1, y.2.1, y.2.2.1)).1 u = _; rw [q, hD]
          · have hu : (hfF (g 0) d (y.1, y.2.1, y.2.2.1)).1 u 5 = 0 := hu
            rw [q, hD, closeR_5] at hu; exact absurd hu (by decide)
        · rw [setR_ne _ _ q] at hD
          rcases hu with hu | ⟨hu, x, c, hx, hE⟩
          · refine Or.inl ?_
            rw [hu]; exact hD
          · have hu : (hfF (g 0) d (y.1, y.2.1, y.2.2.1)).1 u 5 = 0 := hu
            have hE : _ = closeR ((hfF (g 0) d (y.1, y.2.1, y.2.2.1)).1 u) x (g 0) c := hE
            rw [hD] at hu hE
            exact Or.inr ⟨hu, x, c, hx, hE⟩
    · have hF : (hfF (g 0) d (y.1, y.2.1, y.2.2.1)).1 = y.1 := by unfold hfF; rw [if_neg e2]
      have hT := takeF_row (g := g) (d := d) (o := o) (nb := nb) (fill := fill) (il := il) (j := hfJ y.2.1 d) (y := ((hfF (g 0) d (y.1, y.2.1, y.2.2.1)).1, (hfF (g 0) d (y.1, y.2.1, y.2.2.1)).2.1, (hfF (g 0) d (y.1, y.2.1, y.2.2.1)).2.2, upz y.2.2.2 5 (y.2.2.2 5 + 1))) (by show (hfF (g 0) d (y.1, y.2.1, y.2.2.1)).1 d 5 = 0; rw [hF]; exact e)
      exact RowOk.of hF hT
  · rw [if_neg e]; exact RowOk.refl _ _
def ClQ (D0 : Nat → Nat → Int) (z : St) : Prop := ∀ d : Nat, (d : Int) < z.1 7 → (D0 d 5 ≠ 0 → z.2.2.1 d = D0 d) ∧ (D0 d 5 = 0 → z.2.2.1 d 5 ≠ 0 → z.2.2.1 d 6 = z.1 0)
theorem ClQ.row {D0 : Nat → Nat → Int} {z w : St} (h : ClQ D0 z) (h0 : w.1 0 = z.1 0) (h7 : w.1 7 = z.1 7) (hR : RowOk (z.1 0) z.2.2.1 w.2.2.1) : ClQ D0 w := by
  intro d hd
  rw [h7] at hd
  obtain ⟨a, b⟩ := h d hd
  rw [h0]
  rcases hR d with q | ⟨q, x, c, hx, hE⟩
  · rw [q]; exact ⟨a, b⟩
  · refine ⟨fun w1 => ?_, fun _ _ => ?_⟩
    · rw [a w1] at q; exact absurd q w1
    · rw [hE, closeR_6]
theorem ClQ.tj {hon : Bool} {T : Int} (hT : 3 ≤ T) (hT2 : T < 1000000) (D0 : Nat → Nat → Int) : TkJ (fun z => KI hon T z ∧ ClQ D0 z) := by
  have hK := KI.tk (hon := hon) hT hT2
  refine ⟨fun z k hOK hk hd h => ⟨hK.2.1 z k hOK hk hd h.1, ?_⟩, ⟨fun z b hOK hb h => ⟨hK.2.2.1 z b hOK hb h.1, ?_⟩, fun z x hOK hx h1 h2 h => ⟨hK.2.2.2.1 z x hOK hx h1 h2 h.1, ?_⟩, fun z d hOK hd hf ht h => ⟨hK.2.2.2.2.1 z d hOK hd hf ht h.1, ?_⟩, fun z L hOK hL h => h⟩, fun z n hOK hn h0 h => ⟨hK.2.2.2.2.2.2 z n hOK hn h0 h.1, ?_⟩⟩
  · have hg := stepM_g k z
    refine h.2.row (by rw [hg]) (by rw [hg]) ?_
    unfold stepM
    split
    · exact RowOk.refl _ _
    · split
      · exact RowOk.refl _ _
      · exact recvF_row (y := (z.2.2.1, z.2.2.2.1, z.2.2.2.2.1, upz z.2.2.2.2.2.2.2 12 (z.2.2.2.2.2.2.2 12 + 1))) (h.1.2.1.acc rfl)
  · exact h.2.row (show upz z.1 4 (max (z.1 4) b) 0 = z.1 0 from upz_ne _ _ (by decide)) (show upz z.1 4 (max (z.1 4) b) 7 = z.1 7 from upz_ne _ _ (by decide)) (RowOk.refl _ _)
  · exact h.2.row (noteG_j _ _ _ (by decide) (by decide)) (noteG_j _ _ _ (by decide) (by decide)) (RowOk.refl _ _)
  · obtain ⟨a1, a2, a3⟩ := agF_ok hOK.hx hd
    have a2 : ∀ j : Nat, j ≠ 3 → j ≠ 5 → (agF d (hxOf z)).1 j = z.1 j := a2
    have a3 : ∀ e j : Nat, j ≠ 3 → (agF d (hxOf z)).2.2.1 e j = z.2.2.1 e j := a3
    intro e he
    have he : (e : Int) < (agF d (hxOf z)).1 7 := he
    rw [a2 7 (by decide) (by decide)] at he
    obtain ⟨b1, b2⟩ := h.2 e he
    refine ⟨fun q => ?_, fun q w => ?_⟩
    · have hne : e ≠ d := fun q2 => by rw [← q2, b1 q] at hf; exact q hf
      show setR z.2.2.1 d _ e = D0 e
      rw [setR_ne _ _ hne]; exact b1 q
    · have w : (agF d (hxOf z)).2.2.1 e 5 ≠ 0 := w
      rw [a3 e 5 (by decide)] at w
      show (agF d (hxOf z)).2.2.1 e 6 = (agF d (hxOf z)).1 0
      rw [a3 e 6 (by decide), a2 0 (by decide) (by decide)]
      exact b2 q w
  · obtain ⟨w, hw⟩ : ∃ w : Nat, z.2.2.2.1 n 0 = w := ⟨(z.2.2.2.1 n 0).toNat, by have := (hOK.2.2.2.1 n hn).1; omega⟩
    have hw0 := (h.1.2.1.open_ hn hw).2
    refine h.2.row rfl rfl ?_
    show RowOk (z.1 0) z.2.2.1 (setR z.2.2.1 (z.2.2.2.1 n 0).toNat (closeR (z.2.2.1 (z.2.2.2.1 n 0).toNat) 3 (z.1 0) 1))
    rw [hw, Int.toNat_natCast]
    exact RowOk.set hw0 1 (by decide)
theorem tick_cl {hon : Bool} {T : Int} {z : St} (h : IV hon T z) : ∀ d : Nat, (d : Int) < z.1 7 → (z.2.2.1 d 5 ≠ 0 → (tickF z).2.2.1 d = z.2.2.1 d) ∧ (z.2.2.1 d 5 = 0 → (tickF z).2.2.1 d 5 ≠ 0 → (tickF z).2.2.1 d 6 = z.1 0 + 1) := by
  obtain ⟨hOK, hK, hP, hp, h7, hT3, hT1⟩ := h
  have hb := (ClQ.tj (hon := hon) hT3 (by omega) z.2.2.1).tick hOK ⟨(KI.tk hT3 (by omega)).1 z hOK hK, fun d _ => ⟨fun _ => rfl, fun q w => absurd q w⟩⟩
  have o7 := (tickN_ok (n := 1) hOK).2.2
  have o7 : (tickF z).1 7 = z.1 7 := o7
  have o0 := (tickF_ok hOK).2
  intro d hd
  have := hb.2 d (by rw [o7]; exact hd)
  rw [o0] at this
  exact this
theorem tickN_add (a b : Nat) (z : St) : tickN (a + b) z = tickN b (tickN a z) := by
  induction a generalizing z with
  | zero => rw [Nat.zero_add]; rfl
  | succ a ih => rw [show a + 1 + b = (a + b) + 1 by omega]; exact ih (tickF z)
theorem over_keep {hon : Bool} {T : Int} (n : Nat) {z : St} (h : IV hon T z) {d : Nat} (hd : (d : Int) < z.1 7) (h5 : z.2.2.1 d 5 ≠ 0) : (tickN n z).2.2.1 d = z.2.2.1 d := by
  induction n generalizing z with
  | zero => rfl
  | succ n ih =>
    have h1 := (tick_cl h d hd).1 h5
    have o7 := (tickN_ok (n := 1) h.1).2.2
    have o7 : (tickF z).1 7 = z.1 7 := o7
    exact (ih h.tick (by rw [o7]; exact hd) (by rw [h1]; exact h5)).trans h1
theorem hnd_mono {D E : Nat → Nat → Int} {n : Nat} (h : ∀ d : Nat, d < n → D d 5 ≠ 0 → E d 5 = D d 5) : fcnt D 1 n + fcnt D 2 n ≤ fcnt E 1 n + fcnt E 2 n := by
  induction n with
  | zero => exact Int.le_refl _
  | succ n ih =>
    have h1 := ih (fun d hd => h d (by omega))
    have h2 := h n (by omega)
    show (fcnt D 1 n + (if D n 5 = 1 then 1 else 0)) + (fcnt D 2 n + (if D n 5 = 2 then 1 else 0)) ≤ (fcnt E 1 n + (if E n 5 = 1 then 1 else 0)) + (fcnt E 2 n + (if E n 5 = 2 then 1 else 0))
    by_cases e : D n 5 = 0
    · rw [if_neg (show ¬ D n 5 = 1 by omega), if_neg (show ¬ D n 5 = 2 by omega)]
      split <;> split <;> omega
    · rw [h2 e]; omega
theorem hd_mono {hon : Bool} {T : Int} (n : Nat) {z : St} (h : IV hon T z) : hdN z ≤ hdN (tickN n z) := by
  have o7 := (tickN_ok (n := n) h.1).2.2
  unfold hdN
  rw [o7]
  exact hnd_mono (fun d hd q => by rw [over_keep n h (by omega) q])
theorem fore_spec (ev : Int) (d n i : Nat) (z : St) : (foreF ev d n i z = -1 ∧ ((∀ j : Nat, j < n → comeI (tickN j z) d ev ≠ 1) ∨ ∃ j : Nat, j < n ∧ quZ (tickN j z) = 1 ∧ ∀ m : Nat, m ≤ j → comeI (tickN m z) d ev ≠ 1)) ∨ ∃ j : Nat, j < n ∧ foreF ev d n i z = ((i + j : Nat) : Int) ∧ comeI (tickN j z) d ev = 1 ∧ ∀ m : Nat, m < j → comeI (tickN m z) d ev ≠ 1 := by
  induction n generalizing i z with
  | zero => exact Or.inl ⟨rfl, Or.inl (fun j hj => by omega)⟩
  | succ n ih =>
    show ((if comeI z d ev = 1 then (i : Int) else if quZ z = 1 then -1 else foreF ev d n (i + 1) (tickF z)) = -1 ∧ _) ∨ ∃ j : Nat, j < n + 1 ∧ (if comeI z d ev = 1 then (i : Int) else if quZ z = 1 then -1 else foreF ev d n (i + 1) (tickF z)) = ((i + j : Nat) : Int) ∧ _
    by_cases e : comeI z d ev = 1
    · rw [if_pos e]
      exact Or.inr ⟨0, by omega, rfl, e, fun m hm => by omega⟩
    · rw [if_neg e]
      by_cases e2 : quZ z = 1
      · rw [if_pos e2]
        refine Or.inl ⟨rfl, Or.inr ⟨0, by omega, e2, fun m hm => ?_⟩⟩
        rw [show m = 0 by omega]; exact e
      · rw [if_neg e2]
        rcases ih (i + 1) (tickF z) with ⟨h1, h2⟩ | ⟨j, hj, h1, h2, h3⟩
        · refine Or.inl ⟨h1, ?_⟩
          rcases h2 with h2 | ⟨j, hj, h2, h3⟩
          · refine Or.inl (fun j hj => ?_)
            cases j with
            | zero => exact e
            | succ j => exact h2 j (by omega)
          · refine Or.inr ⟨j + 1, by omega, h2, fun m hm => ?_⟩
            cases m with
            | zero => exact e
            | succ m => exact h3 m (by omega)
        · refine Or.inr ⟨j + 1, by omega, by rw [h1]; omega, h2, fun m hm => ?_⟩
          cases m with
          | zero => exact e
          | succ m => exact h3 m (by omega)
theorem totQ_nil {P : Nat → List Pkt} {n : Nat} (h : totQ P n = 0) : ∀ k : Nat, k < n → P k = [] := by
  intro k hk
  have := tot_len P hk
  exact List.eq_nil_of_length_eq_zero (by omega)
theorem hcnt_0 {H : Nat → Nat → Int} {n : Nat} (h : hcnt H n = 0) : ∀ i : Nat, i < n → H i 0 = -1 := by
  induction n with
  | zero => intro i hi; omega
  | succ n ih =>
    have h1 := hcnt_le4 H n
    have h : hcnt H n + (if H n 0 = -1 then 0 else 1) = 0 := h
    intro i hi
    by_cases e : H n 0 = -1
    · rw [if_pos e] at h
      by_cases q : i = n
      · rw [q]; exact e
      · exact ih (by omega) i (by omega)
    · rw [if_neg e] at h; omega
theorem quiet_in {z : St} (h : quZ z = 1) : totQ z.2.2.2.2.2.1 6 = 0 ∧ z.2.2.2.2.2.2.1 = [] ∧ hcnt z.2.2.2.1 4 = 0 := by
  unfold quZ quietI at h
  by_cases e : totQ z.2.2.2.2.2.1 6 = 0 ∧ z.2.2.2.2.2.2.1.length = 0 ∧ hcnt z.2.2.2.1 4 = 0
  · exact ⟨e.1, List.eq_nil_of_length_eq_zero e.2.1, e.2.2⟩
  · rw [if_neg e] at h; exact absurd h (by decide)
theorem quiet_tick {z : St} (hOK : StOk z) (h : quZ z = 1) (ht : z.1 0 < 900000) : tickF z = t0F z := by
  obtain ⟨h1, h2, h3⟩ := quiet_in h
  have h6 := hOK.1.2.2.2.2.2.2.1
  have hm : ∀ n : Nat, n ≤ 6 → moveA n (t0F z) = t0F z := by
    intro n hn
    induction n with
    | zero => rfl
    | succ n ih =>
      show moveF 300 n (moveA n (t0F z)) = _
      rw [ih (by omega)]
      show (if dueB (z.2.2.2.2.2.1 n) _ = 1 then _ else t0F z) = t0F z
      rw [totQ_nil h1 n (by omega), if_neg (by unfold dueB; rw [if_pos rfl]; decide)]
  have hh : hearF (t0F z) = t0F z := hearF_none (by
    show upz z.1 0 (z.1 0 + 1) 0 < soonL z.2.2.2.2.2.2.1
    rw [upz_k, h2]; show _ < (1000000 : Int); omega)
  have ha : ∀ n : Nat, n ≤ 4 → ageF n (t0F z) = t0F z := by
    intro n hn
    induction n with
    | zero => rfl
    | succ n ih =>
      unfold ageF
      rw [ih (by omega), if_neg (fun q => q.1 (hcnt_0 h3 n (by omega)))]
  show ageF 4 (hearF (moveA (z.1 6).toNat (t0F z))) = _
  rw [hm _ (by omega), hh, ha 4 (Nat.le_refl 4)]
theorem quiet_ticks {z : St} (n : Nat) (hOK : StOk z) (h : quZ z = 1) (ht : z.1 0 + n < 900000) : tickN n z = (upz z.1 0 (z.1 0 + n), z.2) := by
  induction n generalizing z with
  | zero =>
    show z = (upz z.1 0 (z.1 0 + ((0 : Nat) : Int)), z.2)
    rw [show z.1 0 + ((0 : Nat) : Int) = z.1 0 by omega, upz_same]
  | succ n ih =>
    show tickN n (tickF z) = _
    rw [quiet_tick hOK h (by omega)]
    have h0 : (t0F z).1 0 = z.1 0 + 1 := upz_k z.1 0 (z.1 0 + 1)
    rw [ih (z := t0F z) (t0F_ok hOK) h (by rw [h0]; omega), h0]
    have e : upz (t0F z).1 0 (z.1 0 + 1 + n) = upz z.1 0 (z.1 0 + ((n + 1 : Nat) : Int)) := by
      funext j
      by_cases q : j = 0
      · rw [q, upz_k, upz_k]; omega
      · rw [upz_ne _ _ q, upz_ne _ _ q]; exact upz_ne _ _ q
    rw [e]; rfl
theorem run_tick {z : St} (n : Nat) (hOK : StOk z) (ht : z.1 0 + n < 900000) : (runF n z).1 3 = (tickN n z).1 3 ∧ hdN (runF n z) = hdN (tickN n z) := by
  induction n generalizing z with
  | zero => exact ⟨rfl, rfl⟩
  | succ n ih =>
    show (if quZ z = 1 then z else runF n (tickF z)).1 3 = _ ∧ hdN (if quZ z = 1 then z else runF n (tickF z)) = _
    by_cases e : quZ z = 1
    · rw [if_pos e, quiet_ticks (n + 1) hOK e ht]
      refine ⟨(show upz z.1 0 (z.1 0 + ((n + 1 : Nat) : Int)) 3 = z.1 3 from upz_ne _ _ (by decide)).symm, ?_⟩
      unfold hdN
      show _ = fcnt z.2.2.1 1 (upz z.1 0 (z.1 0 + ((n + 1 : Nat) : Int)) 7).toNat + fcnt z.2.2.1 2 (upz z.1 0 (z.1 0 + ((n + 1 : Nat) : Int)) 7).toNat
      rw [upz_ne _ _ (by decide)]
    · rw [if_neg e]
      have h0 := (tickF_ok hOK).2
      exact ih (z := tickF z) (tickF_ok hOK).1 (by rw [h0]; omega)
theorem come_q {z : St} {d : Nat} {ev : Int} (n : Nat) (hOK : StOk z) (h : quZ z = 1) (ht : z.1 0 + n < 900000) : comeI (tickN n z) d ev = comeI z d ev := by
  rw [quiet_ticks n hOK h ht]; rfl
theorem fore_no {ev : Int} {d n : Nat} {z : St} (hOK : StOk z) (ht : z.1 0 + n < 900000) (h : foreF ev d n 0 z = -1) : ∀ j : Nat, j < n → comeI (tickN j z) d ev ≠ 1 := by
  rcases fore_spec ev d n 0 z with ⟨-, h1 | ⟨j, hj, h1, h2⟩⟩ | ⟨j, hj, h1, -⟩
  · exact h1
  · intro m hm
    by_cases q : m ≤ j
    · exact h2 m q
    · have hk := tickN_ok (n := j) hOK
      have e : tickN m z = tickN (m - j) (tickN j z) := by rw [← tickN_add, show j + (m - j) = m by omega]
      rw [e, come_q (m - j) hk.1 h1 (by rw [hk.2.1]; omega)]
      exact h2 j (Nat.le_refl j)
  · rw [h1] at h; omega
theorem come_end (z : St) (d : Nat) : comeI z d 1 = 1 ↔ z.2.2.1 d 5 ≠ 0 := by
  show (if (1 : Int) = 2 then quZ z else if (1 : Int) = 0 then _ else (if z.2.2.1 d 5 = 0 then 0 else 1)) = 1 ↔ _
  rw [if_neg (by decide), if_neg (by decide)]
  split <;> simp_all
theorem come_hand (z : St) (d : Nat) : comeI z d 0 = 1 ↔ (z.2.2.1 d 5 = 1 ∨ z.2.2.1 d 5 = 2) := by
  show (if (0 : Int) = 2 then quZ z else if (0 : Int) = 0 then (if z.2.2.1 d 5 = 1 ∨ z.2.2.1 d 5 = 2 then 1 else 0) else _) = 1 ↔ _
  rw [if_neg (by decide), if_pos rfl]
  by_cases e : z.2.2.1 d 5 = 1 ∨ z.2.2.1 d 5 = 2
  · rw [if_pos e]; exact ⟨fun _ => e, fun _ => rfl⟩
  · rw [if_neg e]; exact ⟨fun q => absurd q (by decide), fun q => absurd q e⟩
theorem come_quiet (z : St) (d : Nat) : comeI z d 2 = quZ z := if_pos rfl
theorem fore_all {hon : Bool} {T : Int} {z : St} (h : IV hon T z) {d : Nat} (hd : (d : Int) < z.1 7) {t : Nat} (ht : t ≤ 200) (h0 : z.1 0 ≤ 2000) :
    (0 ≤ foreF 0 d 601 0 z → foreF 0 d 601 0 z = foreF 1 d 601 0 z) ∧ (foreF 0 d 601 0 z = 0 ↔ (z.2.2.1 d 5 = 1 ∨ z.2.2.1 d 5 = 2)) ∧ (foreF 1 d 601 0 z = 0 ↔ z.2.2.1 d 5 ≠ 0)
    ∧ ((tickN t z).2.2.1 d 5 ≠ 0 ↔ (0 ≤ foreF 1 d 601 0 z ∧ foreF 1 d 601 0 z ≤ t))
    ∧ (0 < foreF 1 d 601 0 z → foreF 1 d 601 0 z ≤ t → (tickN t z).2.2.1 d 6 = z.1 0 + foreF 1 d 601 0 z)
    ∧ (0 < foreF 0 d 601 0 z → foreF 0 d 601 0 z ≤ t → (tickN t z).2.2.1 d 5 ≠ 3)
    ∧ (-1 ≤ foreF 0 d 601 0 z ∧ foreF 0 d 601 0 z ≤ 601) ∧ (-1 ≤ foreF 1 d 601 0 z ∧ foreF 1 d 601 0 z ≤ 601) := by
  have hOK := h.1
  have hk7 : ∀ n : Nat, (d : Int) < (tickN n z).1 7 := fun n => by rw [(tickN_ok (n := n) hOK).2.2]; exact hd
  have keep : ∀ a b : Nat, a ≤ b → (tickN a z).2.2.1 d 5 ≠ 0 → (tickN b z).2.2.1 d = (tickN a z).2.2.1 d := fun a b hab q => by
    have e : tickN b z = tickN (b - a) (tickN a z) := by rw [← tickN_add, show a + (b - a) = b by omega]
    rw [e]; exact over_keep (b - a) (h.ticks a) (hk7 a) q
  have no1 := fore_no (ev := 1) (d := d) (n := 601) (z := z) hOK (by omega)
  have no0 := fore_no (ev := 0) (d := d) (n := 601) (z := z) hOK (by omega)
  obtain ⟨A, hA⟩ : ∃ x : Int, foreF 0 d 601 0 z = x := ⟨_, rfl⟩
  obtain ⟨B, hB⟩ : ∃ x : Int, foreF 1 d 601 0 z = x := ⟨_, rfl⟩
  have sA : A = -1 ∨ ∃ j : Nat, j < 601 ∧ A = j ∧ ((tickN j z).2.2.1 d 5 = 1 ∨ (tickN j z).2.2.1 d 5 = 2) ∧ ∀ m : Nat, m < j → ¬ ((tickN m z).2.2.1 d 5 = 1 ∨ (tickN m z).2.2.1 d 5 = 2) := by
    rcases fore_spec 0 d 601 0 z with ⟨q, -⟩ | ⟨j, hj, q, q2, q3⟩
    · exact Or.inl (hA.symm.trans q)
    · exact Or.inr ⟨j, hj, by rw [← hA, q, Nat.zero_add], (come_hand _ _).mp q2, fun m hm w => q3 m hm ((come_hand _ _).mpr w)⟩
  have sB : B = -1 ∨ ∃ j : Nat, j < 601 ∧ B = j ∧ (tickN j z).2.2.1 d 5 ≠ 0 ∧ ∀ m : Nat, m < j → (tickN m z).2.2.1 d 5 = 0 := by
    rcases fore_spec 1 d 601 0 z with ⟨q, -⟩ | ⟨j, hj, q, q2, q3⟩
    · exact Or.inl (hB.symm.trans q)
    · refine Or.inr ⟨j, hj, by rw [← hB, q, Nat.zero_add], (come_end _ _).mp q2, fun m hm => ?_⟩
      by_cases w : (tickN m z).2.2.1 d 5 = 0
      · exact w
      · exact absurd ((come_end _ _).mpr w) (q3 m hm)
  rw [hA] at no0 ⊢
  rw [hB] at no1 ⊢
  have eB : ∀ j : Nat, j < 601 → (tickN j z).2.2.1 d 5 ≠ 0 → 0 ≤ B ∧ B ≤ j := fun j hj q => by
    rcases sB with e | ⟨k, hk, e, e2, e3⟩
    · exact absurd ((come_end _ _).mpr q) (no1 e j hj)
    · refine ⟨by omega, ?_⟩
      by_cases w : k ≤ j
      · omega
      · exact absurd (e3 j (by omega)) q
  have eA : ∀ j : Nat, j < 601 → ((tickN j z).2.2.1 d 5 = 1 ∨ (tickN j z).2.2.1 d 5 = 2) → 0 ≤ A ∧ A ≤ j := fun j hj q => by
    rcases sA with e | ⟨k, hk, e, e2, e3⟩
    · exact absurd ((come_hand _ _).mpr q) (no0 e j hj)
    · refine ⟨by omega, ?_⟩
      by_cases w : k ≤ j
      · omega
      · exact absurd q (e3 j (by omega))
  have hAB : 0 ≤ A → A = B := fun q => by
    rcases sA with e | ⟨k, hk, e, e2, e3⟩
    · omega
    · have h1 := eB k hk (by omega)
      rcases sB with f | ⟨j, hj, f, f2, f3⟩
      · omega
      · have h2 := keep j k (by omega) f2
        have h3 := eA j hj (by rw [← h2]; exact e2)
        omega
  refine ⟨hAB, ⟨fun q => ?_, fun q => ?_⟩, ⟨fun q => ?_, fun q => ?_⟩, ⟨fun q => ?_, fun q => ?_⟩, fun q1 q2 => ?_, fun q1 q2 => ?_, ?_, ?_⟩
  · rcases sA with e | ⟨k, hk, e, e2, -⟩
    · omega
    · rw [show k = 0 by omega] at e2; exact e2
  · have := eA 0 (by decide) q; omega
  · rcases sB with e | ⟨k, hk, e, e2, -⟩
    · omega
    · rw [show k = 0 by omega] at e2; exact e2
  · have := eB 0 (by decide) q; omega
  · have := eB t (by omega) q; omega
  · rcases sB with e | ⟨k, hk, e, e2, -⟩
    · omega
    · rw [keep k t (by omega) e2]; exact e2
  · rcases sB with e | ⟨k, hk, e, e2, e3⟩
    · omega
    · rw [keep k t (by omega) e2]
      obtain ⟨m, rfl⟩ : ∃ m : Nat, k = m + 1 := ⟨k - 1, by omega⟩
      have em : tickN (m + 1) z = tickF (tickN m z) := by rw [tickN_add]; rfl
      have hc := (tick_cl (h.ticks m) d (hk7 m)).2 (e3 m (by omega)) (by rw [← em]; exact e2)
      rw [em, hc, (tickN_ok (n := m) hOK).2.1]; omega
  · rcases sA with e | ⟨k, hk, e, e2, -⟩
    · omega
    · rw [keep k t (by omega) (by omega)]; omega
  · rcases sA with e | ⟨k, hk, e, -⟩ <;> omega
  · rcases sB with e | ⟨k, hk, e, -⟩ <;> omega
theorem fore_quiet {z : St} (hOK : StOk z) {d t : Nat} (ht : t ≤ 200) (h0 : z.1 0 ≤ 2000) : (0 ≤ foreF 2 d 601 0 z → foreF 2 d 601 0 z ≤ t → quZ (tickN t z) = 1) ∧ -1 ≤ foreF 2 d 601 0 z ∧ foreF 2 d 601 0 z ≤ 601 := by
  rcases fore_spec 2 d 601 0 z with ⟨q, -⟩ | ⟨j, hj, q, q2, -⟩
  · rw [q]; exact ⟨fun w => by omega, by decide, by decide⟩
  · rw [q]
    refine ⟨fun _ w => ?_, by omega, by omega⟩
    have hk := tickN_ok (n := j) hOK
    have e : tickN t z = tickN (t - j) (tickN j z) := by rw [← tickN_add, show j + (t - j) = t by omega]
    rw [come_quiet] at q2
    rw [e, quiet_ticks (t - j) hk.1 q2 (by rw [hk.2.1]; omega)]; exact q2
theorem EqS.come {z w : St} (h : EqS z w) {d : Nat} (hd : (d : Int) < z.1 7) (ev : Int) : comeI w d ev = comeI z d ev := by
  unfold comeI
  rw [h.qu, h.2.2.1 d hd]
theorem EqS.fore {z w : St} (h : EqS z w) (hz : StOk z) {d : Nat} (hd : (d : Int) < z.1 7) (ev : Int) (n i : Nat) : foreF ev d n i w = foreF ev d n i z := by
  induction n generalizing i z w with
  | zero => rfl
  | succ n ih =>
    show (if comeI w d ev = 1 then (i : Int) else if quZ w = 1 then -1 else foreF ev d n (i + 1) (tickF w)) = (if comeI z d ev = 1 then (i : Int) else if quZ z = 1 then -1 else foreF ev d n (i + 1) (tickF z))
    have o7 := (tickN_ok (n := 1) hz).2.2
    have o7 : (tickF z).1 7 = z.1 7 := o7
    rw [h.come hd, h.qu, ih (h.tick hz) (tickF_ok hz).1 (by rw [o7]; exact hd)]
theorem EqS.run {z w : St} (h : EqS z w) (hz : StOk z) (n : Nat) : EqS (runF n z) (runF n w) := by
  induction n generalizing z w with
  | zero => exact h
  | succ n ih =>
    show EqS (if quZ z = 1 then z else runF n (tickF z)) (if quZ w = 1 then w else runF n (tickF w))
    rw [h.qu]
    by_cases e : quZ z = 1
    · rw [if_pos e, if_pos e]; exact h
    · rw [if_neg e, if_neg e]; exact ih (h.tick hz) (tickF_ok hz).1
