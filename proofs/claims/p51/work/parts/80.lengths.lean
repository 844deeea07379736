theorem stX_len {x : SX} (h : SOk x) : (stX x).length ≤ 30 := by
  have k0 : (ksZ 0).length = 4 := by decide
  have k1 : (ksZ 1).length = 4 := by decide
  have k2 : (ksZ 2).length = 6 := by decide
  have k3 : (ksZ 3).length = 4 := by decide
  have k10 : (ksZ 10).length = 4 := by decide
  rcases h with ⟨hk, n0, n1, n2, -⟩ | ⟨hk, n0, -⟩ | ⟨hk, n0, -⟩ | ⟨hk, n0, n1, ho⟩ | ⟨hk, n0, n1, ho⟩
  · have a := n0.1; have b := n1.1; have c := n2.1
    unfold stX
    rw [if_pos hk]
    simp only [List.length_append, List.length_cons, List.length_nil, k0]
    omega
  · have a := n0.1
    unfold stX
    rw [if_neg (by omega), if_pos hk]
    simp only [List.length_append, List.length_cons, List.length_nil, k1]
    omega
  · have a := n0.1
    unfold stX
    rw [if_neg (by omega), if_neg (by omega), if_pos hk]
    simp only [List.length_append, List.length_cons, List.length_nil, k2]
    omega
  · have a := n0.1; have b := n1.1
    unfold stX
    rw [if_neg (by omega), if_neg (by omega), if_neg (by omega), if_pos ho]
    simp only [List.length_append, List.length_cons, List.length_nil, k3]
    omega
  · have a := n0.1; have b := n1.1
    unfold stX
    rw [if_neg (by omega), if_neg (by omega), if_neg (by omega), if_neg (by omega)]
    simp only [List.length_append, List.length_cons, List.length_nil, k3, k10]
    omega
theorem jnX_len (l : List SX) (h : ∀ x ∈ l, SOk x) : (jnX l).length ≤ 31 * l.length := by
  induction l with
  | nil => exact Nat.le_refl 0
  | cons x l ih =>
    have hx := stX_len (h x List.mem_cons_self)
    have hl := ih (fun y hy => h y (List.mem_cons_of_mem _ hy))
    cases l with
    | nil => show (stX x).length ≤ 31 * 1; omega
    | cons y l =>
      show (stX x ++ (59 :: jnX (y :: l))).length ≤ 31 * ((y :: l).length + 1)
      rw [List.length_append, List.length_cons]
      omega
