theorem jnX_snoc (l : List SX) (x : SX) (h : l ≠ []) : jnX (l ++ [x]) = jnX l ++ (59 :: stX x) := by
  induction l with
  | nil => exact absurd rfl h
  | cons y l ih =>
    cases l with
    | nil => rfl
    | cons z l =>
      show stX y ++ (59 :: jnX ((z :: l) ++ [x])) = stX y ++ (59 :: jnX (z :: l)) ++ (59 :: stX x)
      rw [ih (by simp), List.append_assoc]
      rfl
theorem lkX_first (cv : Nat → Nat) : [] ++ ksZ 12 ++ ksZ 14 ++ (lkX cv 0).d0 ++ [32] ++ (lkX cv 0).d1 ++ [32] ++ (lkX cv 0).d2 = jnX [lkX cv 0] := by
  show _ = ksZ 0 ++ (32 :: ((lkX cv 0).d0 ++ (32 :: ((lkX cv 0).d1 ++ (32 :: ((lkX cv 0).d2 ++ []))))))
  simp only [List.append_assoc, List.append_nil, List.nil_append]
  rfl
theorem lkX_more (cv : Nat → Nat) (l : List SX) (k : Nat) (h : l ≠ []) : jnX l ++ ksZ 13 ++ ksZ 14 ++ (lkX cv k).d0 ++ [32] ++ (lkX cv k).d1 ++ [32] ++ (lkX cv k).d2 = jnX (l ++ [lkX cv k]) := by
  rw [jnX_snoc _ _ h]
  show _ = jnX l ++ (59 :: (ksZ 0 ++ (32 :: ((lkX cv k).d0 ++ (32 :: ((lkX cv k).d1 ++ (32 :: ((lkX cv k).d2 ++ []))))))))
  simp only [List.append_assoc, List.append_nil]
  rfl
theorem sdX_more (cv : Nat → Nat) (l : List SX) (k : Nat) (h : l ≠ []) (t : Nat) (ht : t = if cv (22 + k) % 2 = 0 then 12 else 16) : jnX l ++ ksZ 15 ++ (sdX cv k).d0 ++ [32] ++ (sdX cv k).d1 ++ ksZ t = jnX (l ++ [sdX cv k]) := by
  rw [jnX_snoc _ _ h]
  subst ht
  by_cases q : cv (22 + k) % 2 = 0
  · have e : stX (sdX cv k) = ksZ 3 ++ (32 :: ((sdX cv k).d0 ++ (32 :: ((sdX cv k).d1 ++ [])))) := (if_neg (by show ¬ (3 : Nat) = 0; decide)).trans ((if_neg (by show ¬ (3 : Nat) = 1; decide)).trans ((if_neg (by show ¬ (3 : Nat) = 2; decide)).trans (if_pos (show (if cv (22 + k) % 2 = 0 then (0 : Int) else 1) = 0 from if_pos q))))
    rw [e, if_pos q, show ksZ 12 = [] from rfl]
    simp only [List.append_assoc, List.append_nil]
    rfl
  · have e : stX (sdX cv k) = ksZ 3 ++ (32 :: ((sdX cv k).d0 ++ (32 :: ((sdX cv k).d1 ++ (32 :: ksZ 10))))) := (if_neg (by show ¬ (3 : Nat) = 0; decide)).trans ((if_neg (by show ¬ (3 : Nat) = 1; decide)).trans ((if_neg (by show ¬ (3 : Nat) = 2; decide)).trans (if_neg (show ¬ (if cv (22 + k) % 2 = 0 then (0 : Int) else 1) = 0 by rw [if_neg q]; decide))))
    rw [e, if_neg q]
    simp only [List.append_assoc]
    rfl
theorem lfX_more (cv : Nat → Nat) (l : List SX) (h : l ≠ []) : jnX l ++ ksZ 17 ++ (lfX cv).d0 = jnX (l ++ [lfX cv]) := by
  rw [jnX_snoc _ _ h]
  show _ = jnX l ++ (59 :: (ksZ 1 ++ (32 :: ((lfX cv).d0 ++ []))))
  simp only [List.append_assoc, List.append_nil]
  rfl
theorem poX_more (cv : Nat → Nat) (l : List SX) (h : l ≠ []) : jnX l ++ ksZ 18 ++ (poX cv).d0 = jnX (l ++ [poX cv]) := by
  rw [jnX_snoc _ _ h]
  show _ = jnX l ++ (59 :: (ksZ 2 ++ (32 :: ((poX cv).d0 ++ []))))
  simp only [List.append_assoc, List.append_nil]
  rfl
