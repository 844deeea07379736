/-! the law's description, as statements: cv i is the cell i -/
def lkX (cv : Nat → Nat) (k : Nat) : SX := (0, dgL (28 + cv (1 + k) % (if k = 0 then 1200 else 300)), dgL (1 + cv (5 + k) % 20), dgL (if cv (9 + k) % 2 = 0 then 0 else 2 + cv (9 + k) % 30), ((28 + cv (1 + k) % (if k = 0 then 1200 else 300) : Nat) : Int), ((1 + cv (5 + k) % 20 : Nat) : Int), (((if cv (9 + k) % 2 = 0 then 0 else 2 + cv (9 + k) % 30) : Nat) : Int), 0)
def sdX (cv : Nat → Nat) (k : Nat) : SX := (3, dgL (1 + cv (14 + k) % 400), dgL (cv (18 + k) % 256), [], ((1 + cv (14 + k) % 400 : Nat) : Int), ((cv (18 + k) % 256 : Nat) : Int), 0, if cv (22 + k) % 2 = 0 then 0 else 1)
def lfX (cv : Nat → Nat) : SX := (1, dgL (10 + cv 26 % 100), [], [], ((10 + cv 26 % 100 : Nat) : Int), 0, 0, 0)
def poX (cv : Nat → Nat) : SX := (2, dgL (cv 27 % 3), [], [], ((cv 27 % 3 : Nat) : Int), 0, 0, 0)
def pathX (cv : Nat → Nat) : List SX := (List.range (1 + cv 0 % 4)).map (lkX cv) ++ ((List.range (cv 13 % 4)).map (sdX cv) ++ [lfX cv, poX cv])
theorem lkX_ok (cv : Nat → Nat) (k : Nat) : SOk (lkX cv k) := by
  have h0 : cv (1 + k) % (if k = 0 then 1200 else 300) < 1200 := by
    split
    · exact Nat.mod_lt _ (by decide)
    · exact Nat.lt_of_lt_of_le (Nat.mod_lt _ (by decide)) (by decide)
  have h1 : cv (5 + k) % 20 < 20 := Nat.mod_lt _ (by decide)
  have h2 : (if cv (9 + k) % 2 = 0 then 0 else 2 + cv (9 + k) % 30) < 32 := by
    split
    · decide
    · have := Nat.mod_lt (cv (9 + k)) (show 0 < 30 by decide); omega
  exact Or.inl ⟨rfl, dgL_NOk (by omega) (by omega) (by omega), dgL_NOk (by omega) (by omega) (by omega), dgL_NOk (by omega) (by omega) (by omega), rfl⟩
theorem sdX_ok (cv : Nat → Nat) (k : Nat) : SOk (sdX cv k) := by
  have h0 : cv (14 + k) % 400 < 400 := Nat.mod_lt _ (by decide)
  have h1 : cv (18 + k) % 256 < 256 := Nat.mod_lt _ (by decide)
  have n0 : NOk (sdX cv k).d0 (sdX cv k).v0 1 1000 := dgL_NOk (by omega) (by omega) (by omega)
  have n1 : NOk (sdX cv k).d1 (sdX cv k).v1 0 255 := dgL_NOk (by omega) (by omega) (by omega)
  by_cases q : cv (22 + k) % 2 = 0
  · exact Or.inr (Or.inr (Or.inr (Or.inl ⟨rfl, n0, n1, if_pos q⟩)))
  · exact Or.inr (Or.inr (Or.inr (Or.inr ⟨rfl, n0, n1, if_neg q⟩)))
theorem lfX_ok (cv : Nat → Nat) : SOk (lfX cv) := by
  have h0 : cv 26 % 100 < 100 := Nat.mod_lt _ (by decide)
  exact Or.inr (Or.inl ⟨rfl, dgL_NOk (by omega) (by omega) (by omega), rfl⟩)
theorem poX_ok (cv : Nat → Nat) : SOk (poX cv) := by
  have h0 : cv 27 % 3 < 3 := Nat.mod_lt _ (by decide)
  exact Or.inr (Or.inr (Or.inl ⟨rfl, dgL_NOk (by omega) (by omega) (by omega), rfl⟩))
theorem pathX_ok (cv : Nat → Nat) : ∀ x ∈ pathX cv, SOk x := by
  intro x hx
  rcases List.mem_append.mp hx with h | h
  · obtain ⟨k, -, rfl⟩ := List.mem_map.mp h
    exact lkX_ok cv k
  · rcases List.mem_append.mp h with h | h
    · obtain ⟨k, -, rfl⟩ := List.mem_map.mp h
      exact sdX_ok cv k
    · rcases List.mem_cons.mp h with e | h
      · rw [e]; exact lfX_ok cv
      · rw [List.mem_singleton.mp h]; exact poX_ok cv
theorem cntX_app (k : Nat) (l m : List SX) : cntX k (l ++ m) = cntX k l + cntX k m := by
  induction l with
  | nil => exact (Int.zero_add _).symm
  | cons x l ih =>
    show (if x.k = k then (1 : Int) else 0) + cntX k (l ++ m) = (if x.k = k then 1 else 0) + cntX k l + cntX k m
    rw [ih]; omega
theorem cntX_map (k : Nat) (f : Nat → SX) (c : Nat) (hf : ∀ j : Nat, (f j).k = c) (l : List Nat) : cntX k (l.map f) = if c = k then (l.length : Int) else 0 := by
  induction l with
  | nil => split <;> rfl
  | cons x l ih =>
    show (if (f x).k = k then (1 : Int) else 0) + cntX k (l.map f) = _
    rw [ih, hf]
    split
    · show (1 : Int) + (l.length : Int) = ((l.length + 1 : Nat) : Int); omega
    · rfl
theorem pathX_cnt (cv : Nat → Nat) : cntX 0 (pathX cv) ≤ 5 ∧ cntX 3 (pathX cv) = ((cv 13 % 4 : Nat) : Int) ∧ cntX 1 (pathX cv) ≤ 1 ∧ cntX 2 (pathX cv) ≤ 1 := by
  have h0 : cv 0 % 4 < 4 := Nat.mod_lt _ (by decide)
  have h3 : cv 13 % 4 < 4 := Nat.mod_lt _ (by decide)
  have e : ∀ k : Nat, cntX k (pathX cv) = (if 0 = k then ((1 + cv 0 % 4 : Nat) : Int) else 0) + ((if 3 = k then ((cv 13 % 4 : Nat) : Int) else 0) + cntX k [lfX cv, poX cv]) := fun k => by
    unfold pathX
    rw [cntX_app, cntX_app, cntX_map k (lkX cv) 0 (fun _ => rfl), cntX_map k (sdX cv) 3 (fun _ => rfl), List.length_range, List.length_range]
  have t : ∀ k : Nat, cntX k [lfX cv, poX cv] = (if 1 = k then 1 else 0) + ((if 2 = k then 1 else 0) + 0) := fun _ => rfl
  refine ⟨?_, ?_, ?_, ?_⟩ <;> rw [e, t] <;> simp <;> omega
theorem pathX_len (cv : Nat → Nat) : (pathX cv).length ≤ 47 := by
  have h0 : cv 0 % 4 < 4 := Nat.mod_lt _ (by decide)
  have h3 : cv 13 % 4 < 4 := Nat.mod_lt _ (by decide)
  unfold pathX
  rw [List.length_append, List.length_append, List.length_map, List.length_map, List.length_range, List.length_range]
  show 1 + cv 0 % 4 + (cv 13 % 4 + 2) ≤ 47
  omega
