abbrev TS := (Nat → Int) × PX
def trStep (T : TS → TS) (d : Nat) (f c : Int) (i : Nat) (z : TS) : TS :=
  if (putX d (z.1 3) (z.1 5) (z.1 2) (i * f) ((if (i : Int) < c then f else z.1 0 - c * f) + 20) z.2).1 = 1 then T (z.1, (putX d (z.1 3) (z.1 5) (z.1 2) (i * f) ((if (i : Int) < c then f else z.1 0 - c * f) + 20) z.2).2)
  else (z.1, (putX d (z.1 3) (z.1 5) (z.1 2) (i * f) ((if (i : Int) < c then f else z.1 0 - c * f) + 20) z.2).2)
def iterS {α : Type} (f : Nat → α → α) : Nat → α → α
  | 0, x => x
  | n + 1, x => f n (iterS f n x)
def trC (z : TS) : Int := if z.1 2 = 1 then cutsI (z.1 0) (z.2.1 3) else 0
def transF : Nat → Nat → TS → TS
  | 0, _, z => z
  | n + 1, d, z => iterS (trStep (transF n d) d (fullI (z.2.1 3)) (trC z)) ((trC z).toNat + 1) (upz z.1 3 (z.1 3 + 1), z.2)
def TOk (d : Nat) (z : TS) : Prop := (z.1 2 = 0 ∨ z.1 2 = 1) ∧ (1 ≤ z.1 0 ∧ z.1 0 ≤ 1000) ∧ (0 ≤ z.1 5 ∧ z.1 5 ≤ 3) ∧ (28 ≤ z.2.1 3 ∧ z.2.1 3 ≤ 1500) ∧ (1 ≤ z.2.1 6 ∧ z.2.1 6 ≤ 6) ∧ ((d : Int) < z.2.1 7 ∧ z.2.1 7 ≤ 40) ∧ (28 ≤ z.2.2.1 0 ∧ z.2.2.1 0 ≤ 1500) ∧ (0 ≤ z.2.2.1 2 ∧ z.2.2.1 2 ≤ 99)
theorem noteG_j (z ab : Int) (g : Nat → Int) {j : Nat} (h : j ≠ 3) (h2 : j ≠ 5) : noteG z ab g j = g j := by
  obtain ⟨r, hr⟩ : ∃ r : Nat → Int, r = (if z < g 3 then upz g 3 z else g) := ⟨_, rfl⟩
  have h3 : r j = g j := by
    rw [hr]
    split
    · exact upz_ne _ _ h
    · rfl
  unfold noteG
  rw [← hr]
  split
  · split
    · rw [upz_ne _ _ h2]; exact h3
    · exact h3
  · exact h3
theorem noteG_3 (z ab : Int) (g : Nat → Int) : noteG z ab g 3 = min (g 3) z := by
  obtain ⟨r, hr⟩ : ∃ r : Nat → Int, r = (if z < g 3 then upz g 3 z else g) := ⟨_, rfl⟩
  have h3 : r 3 = min (g 3) z := by
    rw [hr]
    split
    · rw [upz_k]; omega
    · omega
  unfold noteG
  rw [← hr]
  split
  · split
    · rw [upz_ne _ _ (by decide)]; exact h3
    · exact h3
  · exact h3
theorem noteS_01 (z ab tr fa : Int) (g : Nat → Int) : noteS z ab tr fa g = 0 ∨ noteS z ab tr fa g = 1 := by
  unfold noteS
  split
  · exact Or.inr rfl
  · exact Or.inl rfl
theorem putX_01 (d : Nat) (tr fa fi og bt : Int) (y : PX) : (putX d tr fa fi og bt y).1 = 0 ∨ (putX d tr fa fi og bt y).1 = 1 := by
  unfold putX
  split
  · exact noteS_01 (y.2.1 0) d tr fa y.1
  · exact Or.inl rfl
theorem TOk.put {d : Nat} {z : TS} (h : TOk d z) (tr fa fi og bt : Int) : TOk d (z.1, (putX d tr fa fi og bt z.2).2) := by
  obtain ⟨a1, a2, a3, a4, a5, a6, a7, a8⟩ := h
  unfold putX
  split
  · refine ⟨a1, a2, a3, ?_, ?_, ?_, ?_, ?_⟩
    · show 28 ≤ noteG (z.2.2.1 0) d z.2.1 3 ∧ noteG (z.2.2.1 0) d z.2.1 3 ≤ 1500
      rw [noteG_3]; omega
    · show 1 ≤ noteG (z.2.2.1 0) d z.2.1 6 ∧ noteG (z.2.2.1 0) d z.2.1 6 ≤ 6
      rw [noteG_j _ _ _ (by decide) (by decide)]; exact a5
    · show (d : Int) < noteG (z.2.2.1 0) d z.2.1 7 ∧ noteG (z.2.2.1 0) d z.2.1 7 ≤ 40
      rw [noteG_j _ _ _ (by decide) (by decide)]; exact a6
    · exact a7
    · exact a8
  · refine ⟨a1, a2, a3, a4, a5, a6, ?_, ?_⟩
    · show 28 ≤ (fwdF (z.2.1 0) 0 d og bt z.2.2).1 0 ∧ (fwdF (z.2.1 0) 0 d og bt z.2.2).1 0 ≤ 1500
      rw [fwdF_row _ _ _ _ _ _ (by decide)]; exact a7
    · show 0 ≤ (fwdF (z.2.1 0) 0 d og bt z.2.2).1 2 ∧ (fwdF (z.2.1 0) 0 d og bt z.2.2).1 2 ≤ 99
      rw [fwdF_row _ _ _ _ _ _ (by decide)]; exact a8
theorem TOk.step {d : Nat} {z : TS} {T : TS → TS} (hT : ∀ z, TOk d z → TOk d (T z)) (h : TOk d z) (f c : Int) (i : Nat) : TOk d (trStep T d f c i z) := by
  obtain ⟨b, hb⟩ : ∃ b : Int, b = (if (i : Int) < c then f else z.1 0 - c * f) + 20 := ⟨_, rfl⟩
  unfold trStep
  rw [← hb]
  split
  · exact hT _ (h.put _ _ _ _ _)
  · exact h.put _ _ _ _ _
theorem TOk.up {d : Nat} {z : TS} (h : TOk d z) : TOk d (upz z.1 3 (z.1 3 + 1), z.2) := h
theorem TOk.trans {d n : Nat} {z : TS} (h : TOk d z) : TOk d (transF n d z) := by
  induction n generalizing z with
  | zero => exact h
  | succ n ih =>
    have : ∀ k : Nat, TOk d (iterS (trStep (transF n d) d (fullI (z.2.1 3)) (trC z)) k (upz z.1 3 (z.1 3 + 1), z.2)) := by
      intro k
      induction k with
      | zero => exact h.up
      | succ k ik => exact TOk.step (fun _ => ih) ik _ _ _
    exact this _
theorem trStep_row {T : TS → TS} {j : Nat} (hT : ∀ z, (T z).1 j = z.1 j) (d : Nat) (f c : Int) (i : Nat) (z : TS) : (trStep T d f c i z).1 j = z.1 j := by
  obtain ⟨b, hb⟩ : ∃ b : Int, b = (if (i : Int) < c then f else z.1 0 - c * f) + 20 := ⟨_, rfl⟩
  unfold trStep
  rw [← hb]
  split
  · exact hT _
  · rfl
theorem transF_row {j : Nat} (h : j ≠ 3) (n d : Nat) (z : TS) : (transF n d z).1 j = z.1 j := by
  induction n generalizing z with
  | zero => rfl
  | succ n ih =>
    have : ∀ k : Nat, (iterS (trStep (transF n d) d (fullI (z.2.1 3)) (trC z)) k (upz z.1 3 (z.1 3 + 1), z.2)).1 j = z.1 j := by
      intro k
      induction k with
      | zero => exact upz_ne _ _ h
      | succ k ik => exact (trStep_row (fun z => ih z) _ _ _ _ _).trans ik
    exact this _
theorem cutsI_mul {b z : Int} (h1 : 28 ≤ z) (h2 : z ≤ 1500) (h0 : 0 ≤ b) : cutsI b z * fullI z ≤ b ∧ b - cutsI b z * fullI z ≤ z - 20 ∧ 8 ≤ fullI z ∧ fullI z ≤ z - 20 := by
  have h3 : 8 ≤ fullI z ∧ fullI z ≤ z - 20 := by unfold fullI; omega
  unfold cutsI
  split
  · rw [Int.zero_mul]; omega
  · show (b - (z - 20) + fullI z - 1) / fullI z * fullI z ≤ b ∧ b - (b - (z - 20) + fullI z - 1) / fullI z * fullI z ≤ z - 20 ∧ _
    have h4 := Int.ediv_mul_le (b - (z - 20) + fullI z - 1) (show fullI z ≠ 0 by omega)
    have h5 := Int.lt_ediv_add_one_mul_self (b - (z - 20) + fullI z - 1) (show 0 < fullI z by omega)
    rw [Int.add_mul] at h5
    omega
