/-! the state that the law loads -/
def NewS (z : St) : Prop := z.1 0 = 0 ∧ z.1 7 = 0 ∧ (∀ k : Nat, (k : Int) < z.1 6 → ∀ j : Nat, 3 ≤ j → j < 7 → z.2.1 k j = 0) ∧ (∀ i : Nat, i < 4 → z.2.2.2.1 i 0 = -1) ∧ z.2.2.2.2.2.1 = (fun _ => []) ∧ z.2.2.2.2.2.2.2 = (fun _ => 0)
theorem lsum_z {L : Nat → Nat → Int} {j n : Nat} (h : ∀ i : Nat, i < n → L i j = 0) : lsum L j n = 0 := by
  induction n with
  | zero => rfl
  | succ n ih =>
    show lsum L j n + L n j = 0
    rw [ih (fun i hi => h i (by omega)), h n (by omega)]; rfl
theorem NewS.iv {hon : Bool} {z : St} (h : NewS z) (hOK : StOk z) : IV hon 3 z := by
  obtain ⟨h0, h7, hL, hH, hP, hA⟩ := h
  have hn : ∀ j : Nat, 3 ≤ j → j < 7 → lsum z.2.1 j (z.1 6).toNat = 0 := fun j a b => lsum_z (fun i hi => hL i (by omega) j a b)
  refine ⟨hOK, ⟨⟨?_, ?_, ?_⟩, ⟨?_, ?_, ?_, ?_⟩, ?_, ?_, ?_, ?_⟩, ?_, ?_, by omega, by decide, by decide⟩
  · unfold AcQ
    rw [hP, hA]
    exact ⟨⟨hn 3 (by decide) (by decide), hn 4 (by decide) (by decide), hn 5 (by decide) (by decide), hn 6 (by decide) (by decide)⟩, rfl, by decide, fun _ _ _ => rfl, ⟨Int.le_refl 0, Int.le_refl 0, Int.le_refl 0, Int.le_refl 0⟩, Int.le_refl 0, Int.le_refl 0, Int.le_refl 0, Int.le_refl 0⟩
  · rw [hP]
    intro k hk
    exact ⟨List.Pairwise.nil, fun p hp => absurd hp List.not_mem_nil⟩
  · intro d hd; omega
  · intro d hd
    have hd : (d : Int) < z.1 7 := hd
    omega
  · intro i j hi hj q
    exact absurd (hH i hi) q
  · intro i hi
    have e : (ryOf z).2.1 i 0 = -1 := hH i hi
    rw [e, h7]
    exact ⟨by decide, fun q => absurd rfl q⟩
  · show bytD z.2.2.1 (z.1 7).toNat ≤ z.2.2.2.2.2.2.2 11 ∧ z.2.2.2.2.2.2.2 11 ≤ 1192 * hndD z.2.2.1 (z.1 7).toNat
    rw [h7, hA]
    exact ⟨Int.le_refl 0, by show (0 : Int) ≤ 1192 * (0 + 0); decide⟩
  · intro _
    rw [hA]
  · intro d hd; omega
  · rw [hA]; show (0 : Int) ≤ 0 + 0; decide
  · rw [hA]; show (0 : Int) ≤ 3; decide
  · intro k hk p hp
    rw [hP] at hp
    exact absurd hp List.not_mem_nil
  · unfold phi
    rw [hA, h7, h0]
    show (0 : Int) - 36000 * 0 ≤ 338400 * 0 + 200 * 3
    decide
theorem NewS.tel {z : St} (h : NewS z) (h6 : 0 ≤ z.1 6) (x : SX) : NewS (telF x z) := by
  obtain ⟨h0, h7, hL, hH, hP, hA⟩ := h
  unfold telF
  split
  · refine ⟨(upz_ne z.1 (z.1 6 + 1) (show (0 : Nat) ≠ 6 by decide)).trans h0, (upz_ne z.1 (z.1 6 + 1) (show (7 : Nat) ≠ 6 by decide)).trans h7, fun k hk j h3 h8 => ?_, hH, hP, hA⟩
    have hk : (k : Int) < upz z.1 6 (z.1 6 + 1) 6 := hk
    rw [upz_k] at hk
    show setR z.2.1 (z.1 6).toNat (lkNew x.v0 x.v1 x.v2) k j = 0
    by_cases e : k = (z.1 6).toNat
    · rw [e, setR_k]
      rcases (show j = 3 ∨ j = 4 ∨ j = 5 ∨ j = 6 by omega) with rfl | rfl | rfl | rfl <;> rfl
    · rw [setR_ne _ _ e]; exact hL k (by omega) j h3 h8
  · split
    · exact ⟨(show upz z.1 1 x.v0 0 = z.1 0 from upz_ne z.1 x.v0 (show (0 : Nat) ≠ 1 by decide)).trans h0, (show upz z.1 1 x.v0 7 = z.1 7 from upz_ne z.1 x.v0 (show (7 : Nat) ≠ 1 by decide)).trans h7, fun k hk => hL k (by have q : (k : Int) < upz z.1 1 x.v0 6 := hk; rwa [upz_ne z.1 x.v0 (show (6 : Nat) ≠ 1 by decide)] at q), hH, hP, hA⟩
    · split
      · exact ⟨(show upz z.1 2 x.v0 0 = z.1 0 from upz_ne z.1 x.v0 (show (0 : Nat) ≠ 2 by decide)).trans h0, (show upz z.1 2 x.v0 7 = z.1 7 from upz_ne z.1 x.v0 (show (7 : Nat) ≠ 2 by decide)).trans h7, fun k hk => hL k (by have q : (k : Int) < upz z.1 2 x.v0 6 := hk; rwa [upz_ne z.1 x.v0 (show (6 : Nat) ≠ 2 by decide)] at q), hH, hP, hA⟩
      · exact ⟨h0, h7, hL, hH, hP, hA⟩
theorem NewS.tels {l : List SX} {z : St} (h : NewS z) (hT : TlOk z) (hl : ∀ x ∈ l, SOk x) : NewS (telL l z) ∧ TlOk (telL l z) ∧ (telL l z).1 6 = z.1 6 + cntX 0 l := by
  induction l generalizing z with
  | nil => exact ⟨h, hT, (Int.add_zero _).symm⟩
  | cons x l ih =>
    obtain ⟨t1, t2⟩ := telF_ok hT (hl x List.mem_cons_self)
    obtain ⟨a, b, c⟩ := ih (h.tel hT.2.2.2.2.1 x) t1 (fun y hy => hl y (List.mem_cons_of_mem _ hy))
    refine ⟨a, b, ?_⟩
    show (telL l (telF x z)).1 6 = z.1 6 + ((if x.k = 0 then 1 else 0) + cntX 0 l)
    rw [c, t2]; omega
theorem sndL_iv {hon : Bool} (l : List SX) {T : Int} {z : St} (h : IV hon T z) (h0 : z.1 0 = 0) (hl : ∀ x ∈ l, SOk x) (hT : T + cntX 3 l ≤ 39) : IV hon (T + cntX 3 l) (sndL l z) ∧ (sndL l z).1 0 = 0 ∧ (sndL l z).1 7 = z.1 7 + cntX 3 l := by
  induction l generalizing T z with
  | nil =>
    have e : T + cntX 3 [] = T := Int.add_zero _
    rw [e]
    exact ⟨h, h0, (Int.add_zero _).symm⟩
  | cons x l ih =>
    have hx := hl x List.mem_cons_self
    have hc := cntX_pos 3 l
    have hl2 : ∀ y ∈ l, SOk y := fun y hy => hl y (List.mem_cons_of_mem _ hy)
    by_cases hk : x.k = 3
    · have ec : cntX 3 (x :: l) = 1 + cntX 3 l := by show (if x.k = 3 then (1 : Int) else 0) + cntX 3 l = _; rw [if_pos hk]
      have es : sndL (x :: l) z = sndL l (sendF (z.1 7).toNat x.v0 x.v1 x.oo z) := by show sndL l (if x.k = 3 then sendF (z.1 7).toNat x.v0 x.v1 x.oo z else z) = _; rw [if_pos hk]
      have h70 := h.1.1.2.2.2.2.2.2.2
      have h7T := h.2.2.2.2.1
      have b1 : (1 ≤ x.v0 ∧ x.v0 ≤ 1000) ∧ (0 ≤ x.v1 ∧ x.v1 ≤ 255) ∧ (x.oo = 0 ∨ x.oo = 1) := by
        rcases hx with ⟨q, -⟩ | ⟨q, -⟩ | ⟨q, -⟩ | ⟨-, n0, n1, oo⟩ | ⟨-, n0, n1, oo⟩
        · omega
        · omega
        · omega
        · exact ⟨n0.2.2.2, n1.2.2.2, Or.inl oo⟩
        · exact ⟨n0.2.2.2, n1.2.2.2, Or.inr oo⟩
      have hn : z.1 7 = (z.1 7).toNat := by omega
      rw [ec] at hT ⊢
      have i1 := h.send hn (by omega) b1.1 b1.2.1 b1.2.2 (by omega)
      obtain ⟨s1, s2, s3⟩ := sendF_ok h.1 hn (by omega) b1.1 b1.2.1 b1.2.2
      obtain ⟨a, b, c⟩ := ih i1 ((s3 0 (by decide) (by decide) (by decide)).trans h0) hl2 (by omega)
      rw [es, show T + (1 + cntX 3 l) = T + 1 + cntX 3 l by omega]
      exact ⟨a, b, by rw [c, s2]; omega⟩
    · have ec : cntX 3 (x :: l) = cntX 3 l := by show (if x.k = 3 then (1 : Int) else 0) + cntX 3 l = _; rw [if_neg hk, Int.zero_add]
      have es : sndL (x :: l) z = sndL l z := by show sndL l (if x.k = 3 then sendF (z.1 7).toNat x.v0 x.v1 x.oo z else z) = _; rw [if_neg hk]
      rw [ec] at hT ⊢
      rw [es]
      exact ih h h0 hl2 hT
theorem pathX_hd (cv : Nat → Nat) : ∃ xl : List SX, pathX cv = lkX cv 0 :: xl := by
  refine ⟨((List.range (cv 0 % 4)).map Nat.succ).map (lkX cv) ++ ((List.range (cv 13 % 4)).map (sdX cv) ++ [lfX cv, poX cv]), ?_⟩
  unfold pathX
  rw [Nat.add_comm 1 (cv 0 % 4), List.range_succ_eq_map]; rfl
theorem pathX_len9 (cv : Nat → Nat) : (pathX cv).length ≤ 9 := by
  have h0 : cv 0 % 4 < 4 := Nat.mod_lt _ (by decide)
  have h3 : cv 13 % 4 < 4 := Nat.mod_lt _ (by decide)
  unfold pathX
  rw [List.length_append, List.length_append, List.length_map, List.length_map, List.length_range, List.length_range]
  show (1 + cv 0 % 4) + (cv 13 % 4 + 2) ≤ 9
  omega
theorem load_iv (hon : Bool) (cv : Nat → Nat) {z : St} (hz : ∀ i : Nat, i < 4 → z.2.2.2.1 i 1 = 0) : IV hon 6 (readF (pathX cv) z) ∧ (readF (pathX cv) z).1 0 = 0 ∧ (readF (pathX cv) z).1 7 = ((cv 13 % 4 : Nat) : Int) := by
  have h3 : cv 13 % 4 < 4 := Nat.mod_lt _ (by decide)
  obtain ⟨c1, c2, -, -⟩ := pathX_cnt cv
  obtain ⟨xl, hx⟩ := pathX_hd cv
  have hp := pathX_ok cv
  obtain ⟨k1, k2⟩ := clrF_ok hz
  have hN : NewS (clrF z) := by
    refine ⟨k1.1, k1.2.2.2.1, fun k hk => ?_, fun i hi => (k1.2.2.2.2.2.2.1 i hi).1, rfl, rfl⟩
    rw [k2] at hk; omega
  obtain ⟨a1, a2, a3⟩ := hN.tels k1 hp
  have c0 : 1 ≤ cntX 0 (pathX cv) := by
    rw [hx]
    have q := cntX_pos 0 xl
    show (1 : Int) ≤ (if (lkX cv 0).k = 0 then 1 else 0) + cntX 0 xl
    rw [if_pos (show (lkX cv 0).k = 0 from rfl)]; omega
  have hOK := a2.st (by rw [a3, k2]; omega) (by rw [a3, k2]; omega)
  obtain ⟨b0, b7, bL, bH, bP, bA⟩ := a1
  have hN2 : NewS (forgF (telL (pathX cv) (clrF z))) := ⟨b0, b7, bL, bH, bP, bA⟩
  obtain ⟨d1, d2, d3⟩ := sndL_iv (hon := hon) (pathX cv) (hN2.iv hOK) b0 hp (by rw [c2]; omega)
  refine ⟨d1.up (by rw [c2]; omega) (by decide), d2, ?_⟩
  show (sndL (pathX cv) (forgF (telL (pathX cv) (clrF z)))).1 7 = _
  rw [d3, c2, show (forgF (telL (pathX cv) (clrF z))).1 7 = 0 from b7, Int.zero_add]
/-! acts -/
theorem IV.act {hon : Bool} {T : Int} {z : St} (h : IV hon T z) {nl nd : Nat} (w a b : Nat) {mf : Nat} (hnl : z.1 6 = nl) (hnd : z.1 7 = nd) (hh : mf ≠ 0 → hon = false) (h40 : nd < 40) (hT : T + 1 ≤ 100) : IV hon (T + 1) (actF nl nd w a b mf z) ∧ z.1 0 ≤ (actF nl nd w a b mf z).1 0 ∧ (actF nl nd w a b mf z).1 0 ≤ z.1 0 + 60 := by
  have hOK := h.1
  have g6 := hOK.1.2.2.2.2.2.2.1
  unfold actF
  by_cases w1 : w ≤ 1
  · rw [if_pos w1]
    have hf : (if a % 2 = 0 then (1 : Int) else 0) = 0 ∨ (if a % 2 = 0 then (1 : Int) else 0) = 1 := by split; exact Or.inr rfl; exact Or.inl rfl
    have e := (sendF_ok (len := ((1 + b % 400 : Nat) : Int)) (sd := ((a % 256 : Nat) : Int)) hOK hnd h40 (by omega) (by omega) hf).2.2 0 (by decide) (by decide) (by decide)
    rw [e]
    exact ⟨h.send hnd h40 (by omega) (by omega) hf hT, by omega, by omega⟩
  rw [if_neg w1]
  by_cases w2 : w = 2
  · rw [if_pos w2]
    by_cases n0 : nd = 0
    · rw [if_pos n0]
      have e : (forgF z).1 0 = z.1 0 := rfl
      rw [e]
      exact ⟨h.forg.up (by omega) hT, by omega, by omega⟩
    · rw [if_neg n0]
      by_cases s0 : z.2.2.1 (a % nd) 5 = 0
      · rw [if_pos s0]
        have hd : ((a % nd : Nat) : Int) < z.1 7 := by have := Nat.mod_lt a (show 0 < nd by omega); omega
        have e := (againF_ok hOK hd).2 0 (by decide) (by decide)
        rw [e]
        exact ⟨h.again hd hT, by omega, by omega⟩
      · rw [if_neg s0]
        exact ⟨h.up (by omega) hT, by omega, by omega⟩
  rw [if_neg w2]
  by_cases w3 : w = 3
  · rw [if_pos w3]
    have e := (probF_ok (b := ((28 + b % 1473 : Nat) : Int)) hOK (by omega)).2 0 (by decide) (by decide)
    rw [e]
    exact ⟨h.prob (by omega) hT, by omega, by omega⟩
  rw [if_neg w3]
  by_cases w5 : w ≤ 5
  · rw [if_pos w5]
    by_cases n0 : nd = 0 ∨ mf = 0
    · rw [if_pos n0]
      have e := (tickN_ok (n := 3) hOK).2.1
      rw [e]
      exact ⟨(h.ticks 3).up (by omega) hT, by omega, by omega⟩
    · rw [if_neg n0]
      have e := hh (by omega)
      subst e
      have hd : ((a % nd : Nat) : Int) < z.1 7 := by have := Nat.mod_lt a (show 0 < nd by omega); omega
      exact ⟨h.fake hd (by omega) (by omega) (by split; exact Or.inr rfl; exact Or.inl rfl) (by omega) hT, by show z.1 0 ≤ z.1 0; omega, by show z.1 0 ≤ z.1 0 + 60; omega⟩
  rw [if_neg w5]
  by_cases w6 : w = 6
  · rw [if_pos w6]
    exact ⟨(h.link (Or.inl ⟨rfl, by omega, by omega⟩)).up (by omega) hT, by show z.1 0 ≤ z.1 0; omega, by show z.1 0 ≤ z.1 0 + 60; omega⟩
  rw [if_neg w6]
  by_cases w7 : w = 7
  · rw [if_pos w7]
    exact ⟨(h.link (Or.inr ⟨rfl, by omega, by omega⟩)).up (by omega) hT, by show z.1 0 ≤ z.1 0; omega, by show z.1 0 ≤ z.1 0 + 60; omega⟩
  rw [if_neg w7]
  by_cases w8 : w = 8
  · rw [if_pos w8]
    have e : (lifeF ((5 + b % 100 : Nat) : Int) z).1 0 = z.1 0 := show upz z.1 1 ((5 + b % 100 : Nat) : Int) 0 = z.1 0 from upz_ne z.1 _ (show (0 : Nat) ≠ 1 by decide)
    rw [e]
    exact ⟨(h.life (by omega)).up (by omega) hT, by omega, by omega⟩
  rw [if_neg w8]
  by_cases w9 : w = 9
  · rw [if_pos w9]
    by_cases a0 : a % 2 = 0
    · rw [if_pos a0]
      have e : (poliF ((b % 3 : Nat) : Int) z).1 0 = z.1 0 := show upz z.1 2 ((b % 3 : Nat) : Int) 0 = z.1 0 from upz_ne z.1 _ (show (0 : Nat) ≠ 2 by decide)
      rw [e]
      exact ⟨(h.poli (by omega)).up (by omega) hT, by omega, by omega⟩
    · rw [if_neg a0]
      have e : (forgF z).1 0 = z.1 0 := rfl
      rw [e]
      exact ⟨h.forg.up (by omega) hT, by omega, by omega⟩
  · rw [if_neg w9]
    have e := (tickN_ok (n := 1 + b % 60) hOK).2.1
    rw [e]
    exact ⟨(h.ticks _).up (by omega) hT, by omega, by omega⟩
theorem EqS.knw {z w : St} (h : EqS z w) (d : Int) : knwI w.2.2.2.1 d = knwI z.2.2.2.1 d := by
  have e := hofI_eq h.2.2.2.1 d 4 (Nat.le_refl 4)
  have hi := hofI_in z.2.2.2.1 d 4
  unfold knwI
  rw [e]
  by_cases q : hofI z.2.2.2.1 d 4 = -1
  · rw [if_pos q, if_pos q]
  · rw [if_neg q, if_neg q, h.2.2.2.1 (hofI z.2.2.2.1 d 4).toNat (by omega)]
theorem EqS.act {z v : St} (h : EqS z v) (hz : StOk z) {nl nd : Nat} (w a b : Nat) (mf : Nat) (hnl : z.1 6 = nl) (hnd : z.1 7 = nd) (h40 : nd < 40) : EqS (actF nl nd w a b mf z) (actF nl nd w a b mf v) ∧ actT nl nd w a b mf v = actT nl nd w a b mf z ∧ (actNo nd w a v ↔ actNo nd w a z) := by
  have g6 := hz.1.2.2.2.2.2.2.1
  have hml : ((a % nl : Nat) : Int) < z.1 6 := by have := Nat.mod_lt a (show 0 < nl by omega); omega
  have hl0 : v.2.1 0 = z.2.1 0 := h.2.1 0 (by show (0 : Int) < z.1 6; omega)
  have hll := h.2.1 (a % nl) hml
  have hrow : nd ≠ 0 → v.2.2.1 (a % nd) = z.2.2.1 (a % nd) := fun n0 => h.2.2.1 (a % nd) (by have := Nat.mod_lt a (show 0 < nd by omega); omega)
  have hno : actNo nd w a v ↔ actNo nd w a z := by
    unfold actNo
    exact ⟨fun ⟨a1, a2, a3⟩ => ⟨a1, a2, by rw [← hrow a2]; exact a3⟩, fun ⟨a1, a2, a3⟩ => ⟨a1, a2, by rw [hrow a2]; exact a3⟩⟩
  rw [← and_assoc]
  refine ⟨?_, hno⟩
  unfold actF actT
  by_cases w1 : w ≤ 1
  · rw [if_pos w1, if_pos w1, if_pos w1, if_pos w1]
    exact ⟨h.send hz hnd h40 (by omega) (by omega) (by split; exact Or.inr rfl; exact Or.inl rfl), rfl⟩
  rw [if_neg w1, if_neg w1, if_neg w1, if_neg w1]
  by_cases w2 : w = 2
  · rw [if_pos w2, if_pos w2, if_pos w2, if_pos w2]
    by_cases n0 : nd = 0
    · rw [if_pos n0, if_pos n0, if_pos n0, if_pos n0, hl0]
      exact ⟨h.forg hz, rfl⟩
    · have hd : ((a % nd : Nat) : Int) < z.1 7 := by have := Nat.mod_lt a (show 0 < nd by omega); omega
      rw [if_neg n0, if_neg n0, if_neg n0, if_neg n0, hrow n0]
      by_cases s0 : z.2.2.1 (a % nd) 5 = 0
      · rw [if_pos s0, if_pos s0, if_pos s0, if_pos s0]
        have q := h.again hz hd
        have e7 := (againF_ok hz hd).2 7 (by decide) (by decide)
        exact ⟨q, by rw [q.2.2.1 (a % nd) (by rw [e7]; exact hd)]⟩
      · rw [if_neg s0, if_neg s0, if_neg s0, if_neg s0]
        exact ⟨h, rfl⟩
  rw [if_neg w2, if_neg w2, if_neg w2, if_neg w2]
  by_cases w3 : w = 3
  · rw [if_pos w3, if_pos w3, if_pos w3, if_pos w3]
    have q := h.prob (b := ((28 + b % 1473 : Nat) : Int)) hz (by omega)
    exact ⟨q, by rw [q.2.2.2.2]⟩
  rw [if_neg w3, if_neg w3, if_neg w3, if_neg w3]
  by_cases w5 : w ≤ 5
  · rw [if_pos w5, if_pos w5, if_pos w5, if_pos w5]
    by_cases n0 : nd = 0 ∨ mf = 0
    · rw [if_pos n0, if_pos n0, if_pos n0, if_pos n0]
      have q := h.ticks 3 hz
      exact ⟨q, by rw [q.hn (tickN_ok (n := 3) hz).1, h.hn hz]⟩
    · rw [if_neg n0, if_neg n0, if_neg n0, if_neg n0]
      have hd : ((a % nd : Nat) : Int) < z.1 7 := by have := Nat.mod_lt a (show 0 < nd by omega); omega
      have q := h.fake (ofs := 8 * (b % 40)) (nb := 1 + a % 60) (fill := ((b % 256 : Nat) : Int)) (il := if b % 3 = 0 then 1 else 0) hz hd
      exact ⟨q, q.knw _⟩
  rw [if_neg w5, if_neg w5, if_neg w5, if_neg w5]
  by_cases w6 : w = 6
  · rw [if_pos w6, if_pos w6, if_pos w6, if_pos w6, hll]
    exact ⟨h.link hml 0 _, rfl⟩
  rw [if_neg w6, if_neg w6, if_neg w6, if_neg w6]
  by_cases w7 : w = 7
  · rw [if_pos w7, if_pos w7, if_pos w7, if_pos w7, hll]
    exact ⟨h.link hml 2 _, rfl⟩
  rw [if_neg w7, if_neg w7, if_neg w7, if_neg w7]
  by_cases w8 : w = 8
  · rw [if_pos w8, if_pos w8, if_pos w8, if_pos w8, h.1]
    exact ⟨h.life _, rfl⟩
  rw [if_neg w8, if_neg w8, if_neg w8, if_neg w8]
  by_cases w9 : w = 9
  · rw [if_pos w9, if_pos w9, if_pos w9, if_pos w9]
    by_cases a0 : a % 2 = 0
    · rw [if_pos a0, if_pos a0, if_pos a0, if_pos a0, h.1]
      exact ⟨h.poli _, rfl⟩
    · rw [if_neg a0, if_neg a0, if_neg a0, if_neg a0, hl0]
      exact ⟨h.forg hz, rfl⟩
  · rw [if_neg w9, if_neg w9, if_neg w9, if_neg w9]
    have q := h.ticks (1 + b % 60) hz
    exact ⟨q, by rw [q.hn (tickN_ok (n := 1 + b % 60) hz).1, h.hn hz]⟩
theorem hdN_in {z : St} (h : StOk z) : 0 ≤ hdN z ∧ hdN z ≤ 100 := by
  have h7 := h.1.2.2.2.2.2.2.2
  have q1 := fcnt_le z.2.2.1 1 (z.1 7).toNat
  have q2 := fcnt_le z.2.2.1 2 (z.1 7).toNat
  unfold hdN
  omega
theorem IV.told {hon : Bool} {T : Int} {z : St} (h : IV hon T z) {nl nd : Nat} (w a b : Nat) {mf : Nat} (hnl : z.1 6 = nl) (hnd : z.1 7 = nd) (hh : mf ≠ 0 → hon = false) (h40 : nd < 40) (hT : T + 1 ≤ 100) (hno : ¬ actNo nd w a z) : 0 ≤ actT nl nd w a b mf z ∧ actT nl nd w a b mf z ≤ 2000 := by
  have hOK := h.1
  have g6 := hOK.1.2.2.2.2.2.2.1
  have hl0 := hOK.2.1 0 (by show (0 : Int) < z.1 6; omega)
  have hll := hOK.2.1 (a % nl) (by have := Nat.mod_lt a (show 0 < nl by omega); omega)
  have g1 := hOK.1.2.1
  have g2 := hOK.1.2.2.1
  have hd1 := hdN_in hOK
  have tk : ∀ n : Nat, 0 ≤ hdN (tickN n z) - hdN z ∧ hdN (tickN n z) - hdN z ≤ 2000 := fun n => by
    have q1 := hd_mono n h
    have q2 := hdN_in (tickN_ok (n := n) hOK).1
    omega
  unfold actT
  by_cases w1 : w ≤ 1
  · rw [if_pos w1]; omega
  rw [if_neg w1]
  by_cases w2 : w = 2
  · rw [if_pos w2]
    by_cases n0 : nd = 0
    · rw [if_pos n0]; omega
    · rw [if_neg n0]
      by_cases s0 : z.2.2.1 (a % nd) 5 = 0
      · rw [if_pos s0]
        have hd : ((a % nd : Nat) : Int) < z.1 7 := by have := Nat.mod_lt a (show 0 < nd by omega); omega
        have e7 := (againF_ok hOK hd).2 7 (by decide) (by decide)
        have q := (h.again hd hT).2.1.1.2.2 (a % nd) (by rw [e7]; exact hd)
        omega
      · exact absurd ⟨w2, n0, s0⟩ hno
  rw [if_neg w2]
  by_cases w3 : w = 3
  · rw [if_pos w3]
    have q := (h.prob (b := ((28 + b % 1473 : Nat) : Int)) (by omega) hT).2.1.1.1.2.2.1
    omega
  rw [if_neg w3]
  by_cases w5 : w ≤ 5
  · rw [if_pos w5]
    by_cases n0 : nd = 0 ∨ mf = 0
    · rw [if_pos n0]; exact tk 3
    · rw [if_neg n0]
      have e := hh (by omega)
      subst e
      have hd : ((a % nd : Nat) : Int) < z.1 7 := by have := Nat.mod_lt a (show 0 < nd by omega); omega
      have q := (h.fake (ofs := 8 * (b % 40)) (nb := 1 + a % 60) (fill := ((b % 256 : Nat) : Int)) (il := if b % 3 = 0 then 1 else 0) hd (by omega) (by omega) (by split; exact Or.inr rfl; exact Or.inl rfl) (by omega) hT).2.1.2.1.2.2.1
      obtain ⟨v, hv⟩ : ∃ v : St, fakeF (a % nd) (8 * (b % 40)) (1 + a % 60) ((b % 256 : Nat) : Int) (if b % 3 = 0 then 1 else 0) z = v := ⟨_, rfl⟩
      rw [hv] at q ⊢
      have hi := hofI_in v.2.2.2.1 ((a % nd : Nat) : Int) 4
      unfold knwI
      by_cases q0 : hofI v.2.2.2.1 ((a % nd : Nat) : Int) 4 = -1
      · rw [if_pos q0]; omega
      · rw [if_neg q0]
        obtain ⟨j, hj⟩ : ∃ j : Nat, hofI v.2.2.2.1 ((a % nd : Nat) : Int) 4 = j := ⟨(hofI v.2.2.2.1 ((a % nd : Nat) : Int) 4).toNat, by omega⟩
        have hw : v.2.2.2.1 j 0 = ((a % nd : Nat) : Int) := by have w := hi.2.2.1 q0; rw [hj, Int.toNat_natCast] at w; exact w
        obtain ⟨-, q2⟩ := q j (by omega)
        have q3 := (q2 (by show v.2.2.2.1 j 0 ≠ -1; omega)).1
        have q4 : v.2.2.2.1 j 3 = kcnt (v.2.2.2.2.1 j) 1192 := q3.2.2.2.1
        have q5 := kcnt_le (v.2.2.2.2.1 j) 1192
        rw [hj, Int.toNat_natCast, q4]; omega
  rw [if_neg w5]
  by_cases w6 : w = 6
  · rw [if_pos w6]; omega
  rw [if_neg w6]
  by_cases w7 : w = 7
  · rw [if_pos w7]; omega
  rw [if_neg w7]
  by_cases w8 : w = 8
  · rw [if_pos w8]; omega
  rw [if_neg w8]
  by_cases w9 : w = 9
  · rw [if_pos w9]
    by_cases a0 : a % 2 = 0
    · rw [if_pos a0]; omega
    · rw [if_neg a0]; omega
  · rw [if_neg w9]; exact tk _
theorem EqS.iv {hon : Bool} {T : Int} {z w : St} (h : EqS z w) (k : IV hon T z) : IV hon T w := by
  obtain ⟨hOK, ⟨⟨k1, k2, k3⟩, ⟨r1, r2, r3, r4⟩, k5, k6, k7, k8⟩, hP, hp, h7, hT3, hT1⟩ := k
  have o := h.ok hOK
  obtain ⟨a1, a2, a3, a4, a5⟩ := h
  have h70 := hOK.1.2.2.2.2.2.2.2
  have h66 := hOK.1.2.2.2.2.2.2.1
  have ls : ∀ j : Nat, lsum w.2.1 j (z.1 6).toNat = lsum z.2.1 j (z.1 6).toNat := fun j => lsum_eq (L := z.2.1) (M := w.2.1) (fun i hi => by rw [a2 i (by omega)])
  have fc : ∀ f : Int, fcnt w.2.2.1 f (z.1 7).toNat = fcnt z.2.2.1 f (z.1 7).toNat := fun f => fcnt_eq (D := z.2.2.1) (E := w.2.2.1) (fun d hd => by rw [a3 d (by omega)])
  refine ⟨o, ⟨⟨?_, ?_, ?_⟩, ⟨?_, ?_, ?_, ?_⟩, ?_, ?_, ?_, ?_⟩, ?_, ?_, ?_, hT3, hT1⟩
  · unfold AcQ at k1 ⊢
    rw [a1, a5, ls, ls, ls, ls]; exact k1
  · rw [a1, a5]
    intro k hk
    obtain ⟨b1, b2⟩ := k2 k hk
    refine ⟨b1, fun p hp => ?_⟩
    by_cases e : (k : Int) < z.1 6
    · rw [a2 k e]; exact b2 p hp
    · rw [k1.2.2.2.1 k (by omega) hk] at hp
      exact absurd hp List.not_mem_nil
  · intro d hd
    rw [a1] at hd
    rw [a3 d hd]; exact k3 d hd
  · intro d hd
    have hd : (d : Int) < w.1 7 := hd
    rw [a1] at hd
    obtain ⟨b1, b2, b3, b4⟩ := r1 d hd
    show ((1 ≤ w.2.2.1 d 0 ∧ w.2.2.1 d 0 ≤ 1000) ∧ (0 ≤ w.2.2.1 d 5 ∧ w.2.2.1 d 5 ≤ 3)) ∧ DgS (w.1 0) (w.2.2.1 d) ∧ (w.2.2.1 d 5 ≠ 0 → ∀ i : Nat, i < 4 → w.2.2.2.1 i 0 ≠ d) ∧ (hon = true → w.2.2.1 d 5 ≠ 2 ∧ w.2.2.1 d 7 ≤ 2)
    rw [a1, a3 d hd]
    exact ⟨b1, b2, fun q i hi => by rw [a4 i hi]; exact b3 q i hi, b4⟩
  · intro i j hi hj q1 q2
    have q1 : w.2.2.2.1 i 0 ≠ -1 := q1
    have q2 : w.2.2.2.1 i 0 = w.2.2.2.1 j 0 := q2
    rw [a4 i hi] at q1 q2
    rw [a4 j hj] at q2
    exact r2 i j hi hj q1 q2
  · intro i hi
    obtain ⟨b1, b2⟩ := r3 i hi
    have b1 : -1 ≤ z.2.2.2.1 i 0 ∧ z.2.2.2.1 i 0 < z.1 7 := b1
    show (-1 ≤ w.2.2.2.1 i 0 ∧ w.2.2.2.1 i 0 < w.1 7) ∧ (w.2.2.2.1 i 0 ≠ -1 → HpS (w.2.2.2.1 i) (w.2.2.2.2.1 i) ∧ (i ≠ 4 → 1 ≤ w.2.2.2.1 i 3) ∧ (hon = true → HonS (w.2.2.1 (w.2.2.2.1 i 0).toNat) (w.2.2.2.1 i) (w.2.2.2.2.1 i)))
    rw [a1, a4 i hi, a5]
    refine ⟨b1, fun q => ?_⟩
    obtain ⟨c1, c2, c3⟩ := b2 q
    refine ⟨c1, c2, fun e => ?_⟩
    rw [a3 (z.2.2.2.1 i 0).toNat (by omega)]
    exact c3 e
  · have r4 : bytD z.2.2.1 (z.1 7).toNat ≤ z.2.2.2.2.2.2.2 11 ∧ z.2.2.2.2.2.2.2 11 ≤ 1192 * hndD z.2.2.1 (z.1 7).toNat := r4
    show bytD w.2.2.1 (w.1 7).toNat ≤ w.2.2.2.2.2.2.2 11 ∧ w.2.2.2.2.2.2.2 11 ≤ 1192 * hndD w.2.2.1 (w.1 7).toNat
    unfold hndD at r4 ⊢
    rw [a1, a5, fc, fc, bytD_eq (D := z.2.2.1) (E := w.2.2.1) (fun d hd => by rw [a3 d (by omega)]; exact ⟨rfl, rfl⟩)]
    exact r4
  · rw [a5]; exact k5
  · intro d hd
    rw [a1] at hd
    rw [a3 d hd]; exact k6 d hd
  · rw [a5]; exact k7
  · rw [a5]; exact k8
  · unfold PoL
    rw [a1, a5]; exact hP
  · unfold phi at hp ⊢
    rw [a1, a5, trS_eq (D := z.2.2.1) (E := w.2.2.1) (fun d hd => by rw [a3 d (by omega)])]; exact hp
  · rw [a1]; exact h7
