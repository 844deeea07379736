theorem ksZ_mem {i : Nat} {x : Int} (h : x ∈ ksZ i) : 0 ≤ x ∧ x ≤ 127 := by
  obtain ⟨j, hj, e⟩ := List.getElem_of_mem h
  have := ksZ_in i j
  rw [List.getD_eq_getElem?_getD, List.getElem?_eq_getElem hj] at this
  rw [← e]; exact this
theorem NOk.mem {D : List Int} {v lo hi : Int} (h : NOk D v lo hi) {x : Int} (hx : x ∈ D) : 0 ≤ x ∧ x ≤ 127 := by
  have := h.2.1 x hx; omega
theorem stX_mem {x : SX} (h : SOk x) : ∀ c ∈ stX x, 0 ≤ c ∧ c ≤ 127 := by
  intro c hc
  rcases h with ⟨hk, n0, n1, n2, -⟩ | ⟨hk, n0, -⟩ | ⟨hk, n0, -⟩ | ⟨hk, n0, n1, ho⟩ | ⟨hk, n0, n1, ho⟩
  · unfold stX at hc
    rw [if_pos hk] at hc
    simp only [List.mem_append, List.mem_cons, List.not_mem_nil, or_false] at hc
    rcases hc with q | q | q | q | q | q | q <;> first | exact ksZ_mem q | exact n0.mem q | exact n1.mem q | exact n2.mem q | (rw [q]; decide)
  · unfold stX at hc
    rw [if_neg (by omega), if_pos hk] at hc
    simp only [List.mem_append, List.mem_cons, List.not_mem_nil, or_false] at hc
    rcases hc with q | q | q <;> first | exact ksZ_mem q | exact n0.mem q | (rw [q]; decide)
  · unfold stX at hc
    rw [if_neg (by omega), if_neg (by omega), if_pos hk] at hc
    simp only [List.mem_append, List.mem_cons, List.not_mem_nil, or_false] at hc
    rcases hc with q | q | q <;> first | exact ksZ_mem q | exact n0.mem q | (rw [q]; decide)
  · unfold stX at hc
    rw [if_neg (by omega), if_neg (by omega), if_neg (by omega), if_pos ho] at hc
    simp only [List.mem_append, List.mem_cons, List.not_mem_nil, or_false] at hc
    rcases hc with q | q | q | q | q <;> first | exact ksZ_mem q | exact n0.mem q | exact n1.mem q | (rw [q]; decide)
  · unfold stX at hc
    rw [if_neg (by omega), if_neg (by omega), if_neg (by omega), if_neg (by omega)] at hc
    simp only [List.mem_append, List.mem_cons] at hc
    rcases hc with q | q | q | q | q | q | q <;> first | exact ksZ_mem q | exact n0.mem q | exact n1.mem q | (rw [q]; decide)
theorem jnX_mem (l : List SX) (h : ∀ x ∈ l, SOk x) : ∀ c ∈ jnX l, 0 ≤ c ∧ c ≤ 127 := by
  induction l with
  | nil => intro c hc; exact absurd hc List.not_mem_nil
  | cons x l ih =>
    intro c hc
    cases l with
    | nil => exact stX_mem (h x List.mem_cons_self) c hc
    | cons y l =>
      have hc : c ∈ stX x ++ (59 :: jnX (y :: l)) := hc
      rcases List.mem_append.mp hc with q | q
      · exact stX_mem (h x List.mem_cons_self) c q
      · rcases List.mem_cons.mp q with q | q
        · rw [q]; decide
        · exact ih (fun z hz => h z (List.mem_cons_of_mem _ hz)) c q
theorem jnX_in (l : List SX) (h : ∀ x ∈ l, SOk x) (j : Nat) : 0 ≤ (jnX l).getD j 0 ∧ (jnX l).getD j 0 ≤ 127 := by
  by_cases q : j < (jnX l).length
  · rw [List.getD_eq_getElem?_getD, List.getElem?_eq_getElem q]
    exact jnX_mem l h _ (List.getElem_mem q)
  · rw [List.getD_eq_getElem?_getD, List.getElem?_eq_none (by omega)]
    exact (by decide : (0 : Int) ≤ 0 ∧ (0 : Int) ≤ 127)
