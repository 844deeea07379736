/-! a state that stands fast is as the law's counts want it -/
def sumN (f : Nat → Int) : Nat → Int
  | 0 => 0
  | n + 1 => sumN f n + f n
theorem sumN_add (f g : Nat → Int) (n : Nat) : sumN (fun d => f d + g d) n = sumN f n + sumN g n := by
  induction n with
  | zero => rfl
  | succ n ih => show sumN (fun d => f d + g d) n + (f n + g n) = sumN f n + f n + (sumN g n + g n); rw [ih]; omega
theorem sumN_eq {f g : Nat → Int} {n : Nat} (h : ∀ d : Nat, d < n → f d = g d) : sumN f n = sumN g n := by
  induction n with
  | zero => rfl
  | succ n ih => show sumN f n + f n = sumN g n + g n; rw [ih (fun d hd => h d (by omega)), h n (by omega)]
theorem sumN_0 (n : Nat) : sumN (fun _ => 0) n = 0 := by
  induction n with
  | zero => rfl
  | succ n ih => show sumN (fun _ => 0) n + 0 = 0; rw [ih]; rfl
theorem sumN_one (w : Int) (n : Nat) : sumN (fun d => if w = (d : Int) then 1 else 0) n = if 0 ≤ w ∧ w < n then 1 else 0 := by
  induction n with
  | zero => rw [if_neg (by omega)]; rfl
  | succ n ih =>
    show sumN (fun d => if w = (d : Int) then 1 else 0) n + (if w = (n : Int) then 1 else 0) = _
    rw [ih]
    by_cases e : w = (n : Int)
    · rw [if_pos e, if_neg (by omega), if_pos (by omega)]; rfl
    · rw [if_neg e]
      by_cases e2 : 0 ≤ w ∧ w < n
      · rw [if_pos e2, if_pos (by omega)]; rfl
      · rw [if_neg e2, if_neg (by omega)]; rfl
theorem sumN_cntL (l : List Pkt) (n : Nat) : sumN (fun d => cntL (d : Int) l) n ≤ l.length := by
  induction l with
  | nil =>
    have h : sumN (fun d => cntL (d : Int) []) n = 0 := sumN_0 n
    rw [h]; exact Int.le_refl _
  | cons x t ih =>
    have h : sumN (fun d => cntL (d : Int) (x :: t)) n = sumN (fun d => if x.2.1 = (d : Int) then 1 else 0) n + sumN (fun d => cntL (d : Int) t) n := sumN_add (fun d => if x.2.1 = (d : Int) then 1 else 0) (fun d => cntL (d : Int) t) n
    rw [h, sumN_one]
    show _ ≤ ((t.length + 1 : Nat) : Int)
    split <;> omega
theorem sumN_cntP (P : Nat → List Pkt) (n m : Nat) : sumN (fun d => cntP P (d : Int) m) n ≤ totQ P m := by
  induction m with
  | zero =>
    have h : sumN (fun d => cntP P (d : Int) 0) n = 0 := sumN_0 n
    rw [h]; exact Int.le_refl _
  | succ m ih =>
    have h : sumN (fun d => cntP P (d : Int) (m + 1)) n = sumN (fun d => cntP P (d : Int) m) n + sumN (fun d => cntL (d : Int) (P m)) n := sumN_add (fun d => cntP P (d : Int) m) (fun d => cntL (d : Int) (P m)) n
    have h2 := sumN_cntL (P m) n
    rw [h]
    show _ ≤ ((totQ P m + (P m).length : Nat) : Int)
    omega
theorem wayN_sum (z : St) (n : Nat) : wayN z n = sumN (fun d => cntP z.2.2.2.2.2.1 (d : Int) 6) n := by
  induction n with
  | zero => rfl
  | succ n ih => show wayN z n + cntP z.2.2.2.2.2.1 (n : Int) 6 = sumN (fun d => cntP z.2.2.2.2.2.1 (d : Int) 6) n + cntP z.2.2.2.2.2.1 (n : Int) 6; rw [ih]
theorem hpsN_sum (z : St) (n : Nat) : hpsN z n = sumN (fun d => if hofI z.2.2.2.1 (d : Int) 4 = -1 then 0 else 1) n := by
  induction n with
  | zero => rfl
  | succ n ih => show hpsN z n + (if hofI z.2.2.2.1 (n : Int) 4 = -1 then 0 else 1) = sumN (fun d => if hofI z.2.2.2.1 (d : Int) 4 = -1 then 0 else 1) n + (if hofI z.2.2.2.1 (n : Int) 4 = -1 then 0 else 1); rw [ih]
theorem bytN_sum (z : St) (n : Nat) : bytN z n = bytD z.2.2.1 n := by
  induction n with
  | zero => rfl
  | succ n ih => show bytN z n + _ = bytD z.2.2.1 n + _; rw [ih]
theorem hps_m {Hp : Nat → Nat → Int} {n : Nat} (hdis : ∀ i j : Nat, i < 4 → j < 4 → Hp i 0 ≠ -1 → Hp i 0 = Hp j 0 → i = j) (hin : ∀ i : Nat, i < 4 → -1 ≤ Hp i 0 ∧ Hp i 0 < n) (m : Nat) (hm : m ≤ 4) : sumN (fun d => if hofI Hp (d : Int) m = -1 then 0 else 1) n = hcnt Hp m := by
  induction m with
  | zero => exact sumN_0 n
  | succ m ih =>
    have h0 := hin m (by omega)
    have h : sumN (fun d => if hofI Hp (d : Int) (m + 1) = -1 then 0 else 1) n = sumN (fun d => (if hofI Hp (d : Int) m = -1 then 0 else 1) + (if Hp m 0 = (d : Int) then 1 else 0)) n := sumN_eq (fun d _ => by
      have hi := hofI_in Hp d m
      show (if (if hofI Hp d m = -1 then (if Hp m 0 = d then (m : Int) else -1) else hofI Hp d m) = -1 then (0 : Int) else 1) = _
      by_cases e : hofI Hp d m = -1
      · rw [if_pos e, if_pos e]
        by_cases e2 : Hp m 0 = d
        · rw [if_pos e2, if_pos e2, if_neg (by omega)]; rfl
        · rw [if_neg e2, if_neg e2, if_pos rfl]; rfl
      · rw [if_neg e, if_neg e]
        have h1 := hi.2.2.1 e
        by_cases e2 : Hp m 0 = d
        · have := hdis (hofI Hp d m).toNat m (by omega) (by omega) (by omega) (by omega)
          omega
        · rw [if_neg e2]; rfl)
    rw [h, sumN_add, ih (by omega), sumN_one]
    show _ = hcnt Hp m + (if Hp m 0 = -1 then 0 else 1)
    by_cases e : Hp m 0 = -1
    · rw [if_neg (by omega), if_pos e]
    · rw [if_pos (by omega), if_neg e]
theorem HpS.well {row : Nat → Int} {V : Int → Int} (h : HpS row V) (h1 : 1 ≤ row 3) : HpWell V (row 2) (row 3) (row 6) := by
  obtain ⟨⟨a1, a2⟩, b, c, d, ⟨e1, e2⟩, f, g⟩ := h
  refine ⟨h1, f, fun q => ?_⟩
  obtain ⟨g1, g2⟩ := g q
  refine ⟨g1, ?_⟩
  have k1 := kcnt_top (V := V) (m := (row 2).toNat) (n := 1192) (fun x hx => b x (Or.inr (by omega))) (by omega)
  have k2 := kn_miss V (row 2).toNat
  rw [knN_kcnt] at k1
  rw [knN_kcnt V (row 2).toNat] at k1
  rw [knN_kcnt] at d
  omega
theorem hof_no {Hp : Nat → Nat → Int} {d : Nat} (h : ∀ i : Nat, i < 4 → Hp i 0 ≠ d) : hofI Hp d 4 = -1 := by
  have hi := hofI_in Hp d 4
  by_cases e : hofI Hp d 4 = -1
  · exact e
  · exact absurd (hi.2.2.1 e) (h _ (by omega))
theorem CntOk_of {hon : Bool} {T : Int} {z : St} (hOK : StOk z) (h : KI hon T z) (hP : PoL z) (hT : T ≤ 1000) (h0 : z.1 0 < 10000) (hA : z.2.2.2.2.2.2.2 0 < 900000000) : CntOk z := by
  have hR := h.2.1
  obtain ⟨⟨⟨⟨s3, s4, s5, s6⟩, sg, st, se, ⟨n0, n1, n2, n12⟩, n6, n65, n10, n105⟩, hPo, hTr⟩, ⟨d1, d2, d3, d4, d5⟩, h10, htr, h512, h10T⟩ := h
  have h6 := hOK.1.2.2.2.2.2.2.1
  have h7 := hOK.1.2.2.2.2.2.2.2
  obtain ⟨t3, t5, t6, t7, t4⟩ := ltot_3 z (z.1 6).toNat
  have hhnd : hndD z.2.2.1 (z.1 7).toNat ≤ 80 := by
    have q1 := fcnt_le z.2.2.1 1 (z.1 7).toNat
    have q2 := fcnt_le z.2.2.1 2 (z.1 7).toNat
    unfold hndD; omega
  have d4 : bytD z.2.2.1 (z.1 7).toNat ≤ z.2.2.2.2.2.2.2 11 := d4
  have d5 : z.2.2.2.2.2.2.2 11 ≤ 1192 * hndD z.2.2.1 (z.1 7).toNat := d5
  have hby := bytN_le (z := z) (n := (z.1 7).toNat) (fun d hd => by have q := (hOK.2.2.1 d (by omega)).1; omega)
  refine ⟨⟨t3.trans s3, ?_, t5.trans s4, t6.trans s5, t7.trans s6⟩, by omega, st, fun d hd => ?_, ?_, ?_, ?_, fun k hk1 hk2 => ⟨pak_min (fun j hj => (hPo j hj).1) hk1 hk2, pak_late hP (by omega)⟩, fun i hi => ?_, n65, n105, by omega⟩
  · rw [t4, totQ_pad (n := (z.1 6).toNat) (m := 6) se (by omega)]
  · obtain ⟨⟨-, e5⟩, ⟨g1, g2, g3, g4⟩, g5, -⟩ := d1 d hd
    have e5 : 0 ≤ z.2.2.1 d 5 ∧ z.2.2.1 d 5 ≤ 3 := e5
    have g1 : z.2.2.1 d 5 = 0 ↔ z.2.2.1 d 6 < 0 := g1
    have g2 : -1 ≤ z.2.2.1 d 6 ∧ z.2.2.1 d 6 ≤ z.1 0 := g2
    have g3 : z.2.2.1 d 5 = 3 ↔ 0 < z.2.2.1 d 7 := g3
    have g4 : 0 ≤ z.2.2.1 d 7 ∧ z.2.2.1 d 7 ≤ 10 := g4
    have q3 := htr d hd
    have q4 := hTr d hd
    refine ⟨fun q => hof_no (g5 q), g1, g3, by omega, by omega, by omega, fun j hj => ?_⟩
    have hi := hofI_in z.2.2.2.1 d 4
    have hj : hofI z.2.2.2.1 d 4 = j := hj
    have hjd := hi.2.2.1 (by omega)
    rw [hj, Int.toNat_natCast] at hjd
    obtain ⟨-, w⟩ := d3 j (by omega)
    obtain ⟨w1, w2, -⟩ := w (by show z.2.2.2.1 j 0 ≠ -1; omega)
    exact w1.well (w2 (by omega))
  · rw [hpsN_sum]
    exact hps_m d2 (fun i hi => by have := (d3 i hi).1; show -1 ≤ z.2.2.2.1 i 0 ∧ z.2.2.2.1 i 0 < _; have q : -1 ≤ z.2.2.2.1 i 0 ∧ z.2.2.2.1 i 0 < z.1 7 := this; omega) 4 (Nat.le_refl 4)
  · rw [wayN_sum]; exact sumN_cntP _ _ _
  · rw [bytN_sum]; exact d4
  · rw [bytN_sum] at hby
    rcases hi with q | q | q | q | q | q | q <;> rw [q] <;> omega
