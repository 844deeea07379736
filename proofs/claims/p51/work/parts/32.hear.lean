/-! what transmit leaves; notes that come -/
def TA (g0 : Nat → Int) (Dg0 : Nat → Nat → Int) (d : Nat) (z : TS) : Prop := AllP (PkIn g0 Dg0) z.2.2.2.1 ∧ z.2.1 0 = g0 0 ∧ z.1 0 = Dg0 d 0 ∧ (1 ≤ z.2.2.1 1 ∧ z.2.2.1 1 ≤ 50)
theorem TA.put {g0 : Nat → Int} {Dg0 : Nat → Nat → Int} {d : Nat} {z : TS} (h : TA g0 Dg0 d z) (hT : TOk d z) (h0 : 0 ≤ g0 0) (hd : (d : Int) < g0 7) (tr fa fi : Int) {og bt : Int} (h1 : 0 ≤ og) (h2 : 21 ≤ bt) (h3 : bt ≤ 2000) (h4 : og + bt - 20 ≤ Dg0 d 0) : TA g0 Dg0 d (z.1, (putX d tr fa fi og bt z.2).2) := by
  obtain ⟨a1, a2, a3, a4⟩ := h
  obtain ⟨-, -, -, -, -, -, b7, b8⟩ := hT
  unfold putX
  split
  · refine ⟨a1, ?_, a3, a4⟩
    show noteG (z.2.2.1 0) d z.2.1 0 = g0 0
    rw [noteG_j _ _ _ (by decide) (by decide)]; exact a2
  · refine ⟨?_, a2, a3, ?_⟩
    · show AllP (PkIn g0 Dg0) (fwdF (z.2.1 0) 0 d og bt z.2.2).2.1
      rw [a2]
      exact AllP.fwd (x := z.2.2) a1 h0 b7 a4 (Or.inr ⟨by omega, hd, h1, h2, by rw [Int.toNat_natCast]; exact h4⟩) h3
    · show 1 ≤ (fwdF (z.2.1 0) 0 d og bt z.2.2).1 1 ∧ (fwdF (z.2.1 0) 0 d og bt z.2.2).1 1 ≤ 50
      rw [fwdF_row _ _ _ _ _ _ (by decide)]; exact a4
theorem TA.trans {g0 : Nat → Int} {Dg0 : Nat → Nat → Int} {d n : Nat} {z : TS} (h : TA g0 Dg0 d z) (hT : TOk d z) (h0 : 0 ≤ g0 0) (hd : (d : Int) < g0 7) : TA g0 Dg0 d (transF n d z) := by
  induction n generalizing z with
  | zero => exact h
  | succ n ih =>
    obtain ⟨a1, a2, a3, a4⟩ := h
    obtain ⟨b1, b2, b3, b4, b5, b6, b7, b8⟩ := hT
    have hc : 0 ≤ trC z ∧ trC z * fullI (z.2.1 3) ≤ z.1 0 - 1 := by
      unfold trC
      split
      · exact ⟨(cutsI_in b4.1 b4.2 (by omega) (by omega)).1, cutsI_lt b4.1 b4.2 b2.1⟩
      · rw [Int.zero_mul]; omega
    have hf : 8 ≤ fullI (z.2.1 3) ∧ fullI (z.2.1 3) ≤ 1480 := by unfold fullI; omega
    obtain ⟨f, hf0⟩ : ∃ f : Int, fullI (z.2.1 3) = f := ⟨_, rfl⟩
    obtain ⟨c, hc0⟩ : ∃ c : Nat, trC z = c := ⟨(trC z).toNat, by omega⟩
    rw [hf0] at hf hc
    rw [hc0] at hc
    have hcf : (0 : Int) ≤ (c : Int) * f := Int.mul_nonneg (by omega) (by omega)
    have key : ∀ k : Nat, k ≤ c + 1 → TA g0 Dg0 d (iterS (trStep (transF n d) d f c) k (upz z.1 3 (z.1 3 + 1), z.2)) ∧ TOk d (iterS (trStep (transF n d) d f c) k (upz z.1 3 (z.1 3 + 1), z.2)) ∧ (iterS (trStep (transF n d) d f c) k (upz z.1 3 (z.1 3 + 1), z.2)).1 0 = z.1 0 := by
      intro k hk
      induction k with
      | zero => exact ⟨⟨a1, a2, a3, a4⟩, ⟨b1, b2, b3, b4, b5, b6, b7, b8⟩, rfl⟩
      | succ k ik =>
        obtain ⟨c1, c2, c3⟩ := ik (by omega)
        obtain ⟨y, hy⟩ : ∃ y : TS, iterS (trStep (transF n d) d f c) k (upz z.1 3 (z.1 3 + 1), z.2) = y := ⟨_, rfl⟩
        rw [hy] at c1 c2 c3
        show TA g0 Dg0 d (trStep (transF n d) d f c k (iterS (trStep (transF n d) d f c) k (upz z.1 3 (z.1 3 + 1), z.2))) ∧ TOk d (trStep (transF n d) d f c k (iterS (trStep (transF n d) d f c) k (upz z.1 3 (z.1 3 + 1), z.2))) ∧ (trStep (transF n d) d f c k (iterS (trStep (transF n d) d f c) k (upz z.1 3 (z.1 3 + 1), z.2))).1 0 = z.1 0
        rw [hy]
        refine ⟨?_, TOk.step (fun _ q => q.trans) c2 _ _ _, (trStep_row (j := 0) (fun q => transF_row (by decide) n d q) _ _ _ _ _).trans c3⟩
        obtain ⟨bt, hbt⟩ : ∃ b : Int, (if (k : Int) < (c : Int) then f else y.1 0 - c * f) + 20 = b := ⟨_, rfl⟩
        have hk0 : (0 : Int) ≤ (k : Int) * f := Int.mul_nonneg (by omega) (by omega)
        have hbt2 : 21 ≤ bt ∧ bt ≤ 2000 ∧ (k : Int) * f + bt - 20 ≤ z.1 0 := by
          rw [← hbt]
          by_cases e : (k : Int) < (c : Int)
          · rw [if_pos e]
            have h3 := Int.mul_le_mul_of_nonneg_right (show ((k : Int) + 1) ≤ (c : Int) by omega) (show 0 ≤ f by omega)
            rw [Int.add_mul, Int.one_mul] at h3
            omega
          · rw [if_neg e]
            have e2 : (k : Int) = c := by omega
            rw [e2]
            omega
        have hput := c1.put c2 h0 hd (y.1 3) (y.1 5) (y.1 2) (og := (k : Int) * f) (bt := bt) hk0 hbt2.1 hbt2.2.1 (by rw [← a3]; exact hbt2.2.2)
        unfold trStep
        rw [hbt]
        split
        · exact ih hput (c2.put _ _ _ _ _)
        · exact hput
    have := (key (c + 1) (Nat.le_refl _)).1
    show TA g0 Dg0 d (iterS (trStep (transF n d) d (fullI (z.2.1 3)) (trC z)) ((trC z).toNat + 1) (upz z.1 3 (z.1 3 + 1), z.2))
    rw [hf0, hc0, Int.toNat_natCast]
    exact this
/-- more that stands: the numbers of the state, the link's SIZE, DELAY, EVERY -/
def TG (z y : TS) : Prop := (∀ j : Nat, j ≠ 3 → j ≠ 5 → y.2.1 j = z.2.1 j) ∧ (∀ j : Nat, j < 3 → y.2.2.1 j = z.2.2.1 j) ∧ (z.2.1 5 ≤ 1500 ∧ -1 ≤ z.2.1 5 → y.2.1 5 ≤ 1500 ∧ -1 ≤ y.2.1 5)
theorem noteG_5d (z : Int) (d : Nat) (g : Nat → Int) : noteG z (d : Int) g 5 = g 5 := by
  unfold noteG
  rw [if_neg (show ¬ ((d : Nat) : Int) < 0 by omega)]
  split
  · exact upz_ne _ _ (by decide)
  · rfl
theorem TG.refl (z : TS) : TG z z := ⟨fun _ _ _ => rfl, fun _ _ => rfl, fun h => h⟩
theorem TG.trans {x y z : TS} (h : TG x y) (k : TG y z) : TG x z := ⟨fun j a b => (k.1 j a b).trans (h.1 j a b), fun j a => (k.2.1 j a).trans (h.2.1 j a), fun q => k.2.2 (h.2.2 q)⟩
theorem TG.put (d : Nat) (z : TS) (tr fa fi og bt : Int) : TG z (z.1, (putX d tr fa fi og bt z.2).2) := by
  unfold putX
  split
  · refine ⟨fun j a b => noteG_j (z.2.2.1 0) (d : Int) z.2.1 a b, fun j a => (show upz z.2.2.1 6 (z.2.2.1 6 + 1) j = z.2.2.1 j from upz_ne _ _ (by omega)), fun q => ?_⟩
    show noteG (z.2.2.1 0) (d : Int) z.2.1 5 ≤ 1500 ∧ -1 ≤ noteG (z.2.2.1 0) (d : Int) z.2.1 5
    rw [noteG_5d]; exact q
  · exact ⟨fun j a b => rfl, fun j a => fwdF_row (z.2.1 0) 0 d og bt z.2.2 a, fun q => q⟩
theorem TG.step {T : TS → TS} (hT : ∀ z, TG z (T z)) (d : Nat) (f c : Int) (i : Nat) (z : TS) : TG z (trStep T d f c i z) := by
  obtain ⟨b, hb⟩ : ∃ b : Int, b = (if (i : Int) < c then f else z.1 0 - c * f) + 20 := ⟨_, rfl⟩
  unfold trStep
  rw [← hb]
  split
  · exact (TG.put d z _ _ _ _ _).trans (hT _)
  · exact TG.put d z _ _ _ _ _
theorem TG.ofTrans (n d : Nat) (z : TS) : TG z (transF n d z) := by
  induction n generalizing z with
  | zero => exact TG.refl z
  | succ n ih =>
    have : ∀ k : Nat, TG z (iterS (trStep (transF n d) d (fullI (z.2.1 3)) (trC z)) k (upz z.1 3 (z.1 3 + 1), z.2)) := by
      intro k
      induction k with
      | zero => exact TG.refl z
      | succ k ik => exact ik.trans (TG.step ih _ _ _ _ _)
    exact this _
