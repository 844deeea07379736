/-! what is put on a link: how the counters move -/
theorem updL_self {α : Type} (C : Nat → List α) (k : Nat) : updL C k (C k) = C := by
  funext j
  unfold updL
  by_cases e : j = k
  · rw [if_pos e, e]
  · rw [if_neg e]
theorem totQ_app (P : Nat → List Pkt) (l : List Pkt) {k n : Nat} (h : k < n) : totQ (updL P k (P k ++ l)) n = totQ P n + l.length := by
  induction n with
  | zero => omega
  | succ n ih =>
    show totQ (updL P k (P k ++ l)) n + (updL P k (P k ++ l) n).length = totQ P n + (P n).length + l.length
    by_cases e : k = n
    · subst e
      rw [updL_k, totQ_eq (Q := P) (E := updL P k (P k ++ l)) (fun j hj => updL_ne _ _ (by omega)), List.length_append]; omega
    · rw [updL_ne _ _ (by omega), ih (by omega)]; omega
/-- what a packet's being put on the link k leaves, at the time t -/
def Dl (t : Int) (k : Nat) (x y : CX) : Prop :=
  (y.1 3 - x.1 3 = y.2.2 0 - x.2.2 0 ∧ y.1 4 - x.1 4 = y.2.2 1 - x.2.2 1 ∧ y.1 5 - x.1 5 = y.2.2 3 - x.2.2 3 ∧ y.1 6 - x.1 6 = y.2.2 4 - x.2.2 4)
  ∧ (y.2.2 0 - y.2.2 1 - y.2.2 2 - (totQ y.2.1 6 : Int) = x.2.2 0 - x.2.2 1 - x.2.2 2 - (totQ x.2.1 6 : Int))
  ∧ (∀ j : Nat, j < 3 → y.1 j = x.1 j)
  ∧ (∀ i : Nat, (i = 5 ∨ i = 6 ∨ i = 7 ∨ i = 10 ∨ i = 11 ∨ i = 12) → y.2.2 i = x.2.2 i)
  ∧ (x.2.2 0 ≤ y.2.2 0 ∧ x.2.2 1 ≤ y.2.2 1 ∧ x.2.2 2 ≤ y.2.2 2)
  ∧ (totQ x.2.1 6 ≤ 300 → totQ y.2.1 6 ≤ 300)
  ∧ ∃ l : List Pkt, (∀ p ∈ l, p.1 = t + x.1 1) ∧ y.2.1 = updL x.2.1 k (x.2.1 k ++ l)
theorem Dl.refl (t : Int) (k : Nat) (x : CX) : Dl t k x x := ⟨⟨by omega, by omega, by omega, by omega⟩, rfl, fun _ _ => rfl, fun _ _ => rfl, ⟨Int.le_refl _, Int.le_refl _, Int.le_refl _⟩, id, [], fun _ h => absurd h List.not_mem_nil, by rw [List.append_nil, updL_self]⟩
theorem Dl.trans {t : Int} {k : Nat} {x y z : CX} (h : Dl t k x y) (g : Dl t k y z) : Dl t k x z := by
  obtain ⟨⟨a1, a2, a3, a4⟩, b, c, d, ⟨e1, e2, e3⟩, f, l, hl, hy⟩ := h
  obtain ⟨⟨a5, a6, a7, a8⟩, b', c', d', ⟨e4, e5, e6⟩, f', l', hl', hy'⟩ := g
  refine ⟨⟨by omega, by omega, by omega, by omega⟩, by omega, fun j hj => (c' j hj).trans (c j hj), fun i hi => (d' i hi).trans (d i hi), ⟨by omega, by omega, by omega⟩, fun q => f' (f q), l ++ l', fun p hp => ?_, ?_⟩
  · rcases List.mem_append.mp hp with q | q
    · exact hl p q
    · rw [hl' p q, c 1 (by decide)]
  · rw [hy', hy]
    funext j
    by_cases q : j = k
    · subst q
      rw [updL_k, updL_k, updL_k, List.append_assoc]
    · rw [updL_ne _ _ q, updL_ne _ _ q, updL_ne _ _ q]
theorem carryF_Dl (t : Int) {k : Nat} (hk : k < 6) (wh og bt : Int) (x : CX) : Dl t k x (carryF t k wh og bt x) := by
  unfold carryF
  by_cases h1 : 0 < x.1 2 ∧ remI (x.1 3 + 1) (x.1 2) = 0
  · rw [if_pos h1]
    refine ⟨⟨?_, ?_, ?_, ?_⟩, ?_, fun j hj => ?_, fun i hi => ?_, ⟨?_, ?_, ?_⟩, id, [], fun _ h => absurd h List.not_mem_nil, by rw [List.append_nil, updL_self]⟩
    · show x.1 3 + 1 - x.1 3 = x.2.2 0 + 1 - x.2.2 0; omega
    · show x.1 4 + 1 - x.1 4 = x.2.2 1 + 1 - x.2.2 1; omega
    · show x.1 5 - x.1 5 = x.2.2 3 - x.2.2 3; omega
    · show x.1 6 - x.1 6 = x.2.2 4 - x.2.2 4; omega
    · show x.2.2 0 + 1 - (x.2.2 1 + 1) - x.2.2 2 - (totQ x.2.1 6 : Int) = _; omega
    · show upz (upz (upz x.1 3 (x.1 3 + 1)) 7 (x.1 7 + bt)) 4 (x.1 4 + 1) j = x.1 j
      rw [upz_ne _ _ (by omega), upz_ne _ _ (by omega), upz_ne _ _ (by omega)]
    · rcases hi with rfl | rfl | rfl | rfl | rfl | rfl <;> rfl
    · show x.2.2 0 ≤ x.2.2 0 + 1; omega
    · show x.2.2 1 ≤ x.2.2 1 + 1; omega
    · exact Int.le_refl _
  · rw [if_neg h1]
    by_cases h2 : totQ x.2.1 6 < 300
    · rw [if_pos h2]
      have ht := totQ_app x.2.1 [(t + x.1 1, wh, og, bt)] hk
      refine ⟨⟨?_, ?_, ?_, ?_⟩, ?_, fun j hj => ?_, fun i hi => ?_, ⟨?_, ?_, ?_⟩, fun q => ?_, [(t + x.1 1, wh, og, bt)], fun p hp => ?_, rfl⟩
      · show x.1 3 + 1 - x.1 3 = x.2.2 0 + 1 - x.2.2 0; omega
      · show x.1 4 - x.1 4 = x.2.2 1 - x.2.2 1; omega
      · show x.1 5 - x.1 5 = x.2.2 3 - x.2.2 3; omega
      · show x.1 6 - x.1 6 = x.2.2 4 - x.2.2 4; omega
      · show x.2.2 0 + 1 - x.2.2 1 - x.2.2 2 - (totQ (updL x.2.1 k (x.2.1 k ++ [(t + x.1 1, wh, og, bt)])) 6 : Int) = _
        rw [ht]; show _ - (((totQ x.2.1 6 + 1 : Nat)) : Int) = _; omega
      · show upz (upz x.1 3 (x.1 3 + 1)) 7 (x.1 7 + bt) j = x.1 j
        rw [upz_ne _ _ (by omega), upz_ne _ _ (by omega)]
      · rcases hi with rfl | rfl | rfl | rfl | rfl | rfl <;> rfl
      · show x.2.2 0 ≤ x.2.2 0 + 1; omega
      · exact Int.le_refl _
      · exact Int.le_refl _
      · show totQ (updL x.2.1 k (x.2.1 k ++ [(t + x.1 1, wh, og, bt)])) 6 ≤ 300
        rw [ht]; show totQ x.2.1 6 + 1 ≤ 300; omega
      · rw [List.mem_singleton.mp hp]
    · rw [if_neg h2]
      refine ⟨⟨?_, ?_, ?_, ?_⟩, ?_, fun j hj => ?_, fun i hi => ?_, ⟨?_, ?_, ?_⟩, id, [], fun _ h => absurd h List.not_mem_nil, by rw [List.append_nil, updL_self]⟩
      · show x.1 3 + 1 - x.1 3 = x.2.2 0 + 1 - x.2.2 0; omega
      · show x.1 4 - x.1 4 = x.2.2 1 - x.2.2 1; omega
      · show x.1 5 - x.1 5 = x.2.2 3 - x.2.2 3; omega
      · show x.1 6 - x.1 6 = x.2.2 4 - x.2.2 4; omega
      · show x.2.2 0 + 1 - x.2.2 1 - (x.2.2 2 + 1) - (totQ x.2.1 6 : Int) = _; omega
      · show upz (upz x.1 3 (x.1 3 + 1)) 7 (x.1 7 + bt) j = x.1 j
        rw [upz_ne _ _ (by omega), upz_ne _ _ (by omega)]
      · rcases hi with rfl | rfl | rfl | rfl | rfl | rfl <;> rfl
      · show x.2.2 0 ≤ x.2.2 0 + 1; omega
      · exact Int.le_refl _
      · show x.2.2 2 ≤ x.2.2 2 + 1; omega
theorem carryF_A0 (t : Int) (k : Nat) (wh og bt : Int) (x : CX) : (carryF t k wh og bt x).2.2 0 = x.2.2 0 + 1 := by
  unfold carryF
  by_cases h1 : 0 < x.1 2 ∧ remI (x.1 3 + 1) (x.1 2) = 0
  · rw [if_pos h1]; rfl
  · rw [if_neg h1]
    by_cases h2 : totQ x.2.1 6 < 300
    · rw [if_pos h2]; rfl
    · rw [if_neg h2]; rfl
theorem carryN_Dl (t : Int) {k : Nat} (hk : k < 6) (wh og f : Int) (n : Nat) (x : CX) : Dl t k x (carryN t k wh og f n x) ∧ (carryN t k wh og f n x).2.2 0 = x.2.2 0 + n := by
  induction n with
  | zero => exact ⟨Dl.refl _ _ _, (Int.add_zero _).symm⟩
  | succ n ih =>
    refine ⟨ih.1.trans (carryF_Dl t hk _ _ _ _), ?_⟩
    show (carryF t k wh (og + n * f) (f + 20) (carryN t k wh og f n x)).2.2 0 = _
    rw [carryF_A0, ih.2]; omega
theorem cutF_Dl (t : Int) (k : Nat) (x : CX) : Dl t k x (cutF x) := by
  refine ⟨⟨?_, ?_, ?_, ?_⟩, ?_, fun j hj => cutF_row x hj, fun i hi => ?_, ⟨Int.le_refl _, Int.le_refl _, Int.le_refl _⟩, id, [], fun _ h => absurd h List.not_mem_nil, by rw [List.append_nil, updL_self]; rfl⟩
  · show x.1 3 - x.1 3 = x.2.2 0 - x.2.2 0; omega
  · show x.1 4 - x.1 4 = x.2.2 1 - x.2.2 1; omega
  · show x.1 5 + 1 - x.1 5 = x.2.2 3 + 1 - x.2.2 3; omega
  · show x.1 6 - x.1 6 = x.2.2 4 - x.2.2 4; omega
  · rfl
  · rcases hi with rfl | rfl | rfl | rfl | rfl | rfl <;> rfl
theorem cuts_few {b z : Int} (h1 : 28 ≤ z) (h2 : z ≤ 1500) (h3 : b ≤ 1500) : 0 ≤ cutsI b z ∧ cutsI b z ≤ 187 := by
  by_cases h0 : 1 ≤ b
  · have h4 := cutsI_lt h1 h2 h0
    have h5 : 8 ≤ fullI z := by unfold fullI; omega
    have h6 := (cutsI_in (b := b) h1 h2 (by omega) (by omega)).1
    have h7 := Int.mul_le_mul_of_nonneg_left h5 h6
    omega
  · unfold cutsI
    rw [if_pos (by omega)]
    exact ⟨Int.le_refl _, by decide⟩
theorem fwdF_Dl (t : Int) {k : Nat} (hk : k < 6) (wh og : Int) {bt : Int} {x : CX} (h1 : 28 ≤ x.1 0) (h2 : x.1 0 ≤ 1500) (h3 : bt ≤ 1520) : Dl t k x (fwdF t k wh og bt x) ∧ (fwdF t k wh og bt x).2.2 0 ≤ x.2.2 0 + 188 := by
  have hc := cuts_few (b := bt - 20) h1 h2 (by omega)
  have hx : Dl t k x (if 0 < cutsI (bt - 20) (x.1 0) then cutF x else x) ∧ (if 0 < cutsI (bt - 20) (x.1 0) then cutF x else x).2.2 0 = x.2.2 0 := by
    split
    · exact ⟨cutF_Dl _ _ _, rfl⟩
    · exact ⟨Dl.refl _ _ _, rfl⟩
  have hn := carryN_Dl t hk wh og (fullI (x.1 0)) (cutsI (bt - 20) (x.1 0)).toNat (if 0 < cutsI (bt - 20) (x.1 0) then cutF x else x)
  refine ⟨(hx.1.trans hn.1).trans (carryF_Dl t hk _ _ _ _), ?_⟩
  unfold fwdF
  rw [carryF_A0, hn.2, hx.2]; omega
theorem putX_Dl (d : Nat) (tr fa fi og : Int) {bt : Int} {y : PX} (h1 : 28 ≤ y.2.1 0) (h2 : y.2.1 0 ≤ 1500) (h3 : bt ≤ 1520) : Dl (y.1 0) 0 y.2 (putX d tr fa fi og bt y).2.2 ∧ (putX d tr fa fi og bt y).2.2.2.2 0 ≤ y.2.2.2 0 + 188 := by
  unfold putX
  by_cases h : y.2.1 0 < bt ∧ fi = 1
  · rw [if_pos h]
    refine ⟨⟨⟨?_, ?_, ?_, ?_⟩, ?_, fun j hj => ?_, fun i hi => ?_, ⟨Int.le_refl _, Int.le_refl _, Int.le_refl _⟩, id, [], fun _ h => absurd h List.not_mem_nil, by rw [List.append_nil, updL_self]⟩, ?_⟩
    · show y.2.1 3 - y.2.1 3 = y.2.2.2 0 - y.2.2.2 0; omega
    · show y.2.1 4 - y.2.1 4 = y.2.2.2 1 - y.2.2.2 1; omega
    · show y.2.1 5 - y.2.1 5 = y.2.2.2 3 - y.2.2.2 3; omega
    · show y.2.1 6 + 1 - y.2.1 6 = y.2.2.2 4 + 1 - y.2.2.2 4; omega
    · rfl
    · exact upz_ne _ _ (by omega)
    · rcases hi with rfl | rfl | rfl | rfl | rfl | rfl <;> rfl
    · show y.2.2.2 0 ≤ y.2.2.2 0 + 188; omega
  · rw [if_neg h]; exact fwdF_Dl (y.1 0) (by decide) d og h1 h2 h3
theorem putPr_Dl {bt : Int} {y : PX} (h1 : 28 ≤ y.2.1 0) (h2 : y.2.1 0 ≤ 1500) (h3 : bt ≤ 1520) : Dl (y.1 0) 0 y.2 (putPr bt y).2 ∧ (putPr bt y).2.2.2 0 ≤ y.2.2.2 0 + 188 := by
  unfold putPr
  by_cases h : y.2.1 0 < bt
  · rw [if_pos h]
    refine ⟨⟨⟨?_, ?_, ?_, ?_⟩, ?_, fun j hj => ?_, fun i hi => ?_, ⟨Int.le_refl _, Int.le_refl _, Int.le_refl _⟩, id, [], fun _ h => absurd h List.not_mem_nil, by rw [List.append_nil, updL_self]⟩, ?_⟩
    · show y.2.1 3 - y.2.1 3 = y.2.2.2 0 - y.2.2.2 0; omega
    · show y.2.1 4 - y.2.1 4 = y.2.2.2 1 - y.2.2.2 1; omega
    · show y.2.1 5 - y.2.1 5 = y.2.2.2 3 - y.2.2.2 3; omega
    · show y.2.1 6 + 1 - y.2.1 6 = y.2.2.2 4 + 1 - y.2.2.2 4; omega
    · rfl
    · exact upz_ne _ _ (by omega)
    · rcases hi with rfl | rfl | rfl | rfl | rfl | rfl <;> rfl
    · show y.2.2.2 0 ≤ y.2.2.2 0 + 188; omega
  · rw [if_neg h]; exact fwdF_Dl (y.1 0) (by decide) _ _ h1 h2 h3
/-- what a whole transmit leaves -/
def TD (z y : TS) : Prop := Dl (z.2.1 0) 0 z.2.2 y.2.2 ∧ y.2.1 0 = z.2.1 0 ∧ (∀ j : Nat, j ≠ 3 → y.1 j = z.1 j) ∧ z.1 3 ≤ y.1 3
theorem TD.refl (z : TS) : TD z z := ⟨Dl.refl _ _ _, rfl, fun _ _ => rfl, Int.le_refl _⟩
theorem TD.trans {x y z : TS} (h : TD x y) (g : TD y z) : TD x z := ⟨h.1.trans (h.2.1 ▸ g.1), g.2.1.trans h.2.1, fun j hj => (g.2.2.1 j hj).trans (h.2.2.1 j hj), Int.le_trans h.2.2.2 g.2.2.2⟩
theorem TD.put {d : Nat} {z : TS} (hT : TOk d z) (tr fa fi og : Int) {bt : Int} (h3 : bt ≤ 1520) : TD z (z.1, (putX d tr fa fi og bt z.2).2) ∧ (putX d tr fa fi og bt z.2).2.2.2.2 0 ≤ z.2.2.2.2 0 + 188 := by
  obtain ⟨-, -, -, -, -, -, b7, -⟩ := hT
  have h := putX_Dl d tr fa fi og (y := z.2) b7.1 b7.2 h3
  refine ⟨⟨h.1, ?_, fun _ _ => rfl, Int.le_refl _⟩, h.2⟩
  exact (TG.put d z tr fa fi og bt).1 0 (by decide) (by decide)
theorem TD.ofTrans (n d : Nat) {z : TS} (hT : TOk d z) (h3 : 0 ≤ z.1 3 ∧ z.1 3 < 1000000) : TD z (transF n d z) ∧ (transF n d z).1 3 ≤ max (z.1 3 + 1) 3 ∧ (transF n d z).2.2.2.2 0 ≤ z.2.2.2.2 0 + 36000 * ((transF n d z).1 3 - z.1 3) ∧ (1 ≤ n → z.1 3 + 1 ≤ (transF n d z).1 3) := by
  induction n generalizing z with
  | zero => exact ⟨TD.refl z, by show z.1 3 ≤ _; omega, by show z.2.2.2.2 0 ≤ z.2.2.2.2 0 + 36000 * (z.1 3 - z.1 3); omega, fun q => by omega⟩
  | succ n ih =>
    have hT0 := hT
    obtain ⟨b1, b2, b3, b4, b5, b6, b7, b8⟩ := hT
    have hc : 0 ≤ trC z ∧ trC z ≤ 187 := by
      unfold trC
      split
      · exact cuts_few b4.1 b4.2 (by omega)
      · omega
    have hf : 8 ≤ fullI (z.2.1 3) ∧ fullI (z.2.1 3) ≤ 1480 := by unfold fullI; omega
    obtain ⟨f, hf0⟩ : ∃ f : Int, fullI (z.2.1 3) = f := ⟨_, rfl⟩
    obtain ⟨c, hc0⟩ : ∃ c : Nat, trC z = c := ⟨(trC z).toNat, by omega⟩
    rw [hf0] at hf
    rw [hc0] at hc
    obtain ⟨z1, hz1⟩ : ∃ q : TS, q = (upz z.1 3 (z.1 3 + 1), z.2) := ⟨_, rfl⟩
    have hT1 : TOk d z1 := by rw [hz1]; exact ⟨b1, b2, b3, b4, b5, b6, b7, b8⟩
    have h13 : z1.1 3 = z.1 3 + 1 := by rw [hz1]; rfl
    have hz12 : z1.2 = z.2 := by rw [hz1]
    have hcf : (0 : Int) ≤ (c : Int) * f := Int.mul_nonneg (by omega) (by omega)
    have key : ∀ k : Nat, k ≤ c + 1 → TD z1 (iterS (trStep (transF n d) d f c) k z1) ∧ TOk d (iterS (trStep (transF n d) d f c) k z1) ∧ (iterS (trStep (transF n d) d f c) k z1).1 3 ≤ max (z1.1 3) 3 ∧ (iterS (trStep (transF n d) d f c) k z1).2.2.2.2 0 ≤ z1.2.2.2.2 0 + 188 * k + 36000 * ((iterS (trStep (transF n d) d f c) k z1).1 3 - z1.1 3) := by
      intro k hk
      induction k with
      | zero => exact ⟨TD.refl z1, hT1, by show z1.1 3 ≤ _; omega, by show z1.2.2.2.2 0 ≤ z1.2.2.2.2 0 + 188 * ((0 : Nat) : Int) + 36000 * (z1.1 3 - z1.1 3); omega⟩
      | succ k ik =>
        obtain ⟨c1, c2, c3, c4⟩ := ik (by omega)
        obtain ⟨y, hy⟩ : ∃ y : TS, iterS (trStep (transF n d) d f c) k z1 = y := ⟨_, rfl⟩
        rw [hy] at c1 c2 c3 c4
        have hstep : iterS (trStep (transF n d) d f c) (k + 1) z1 = trStep (transF n d) d f c k y := by
          show trStep (transF n d) d f c k (iterS (trStep (transF n d) d f c) k z1) = _
          rw [hy]
        rw [hstep]
        obtain ⟨bt, hbt⟩ : ∃ b : Int, (if (k : Int) < (c : Int) then f else y.1 0 - c * f) + 20 = b := ⟨_, rfl⟩
        have hy0 : y.1 0 = z.1 0 := by rw [c1.2.2.1 0 (by decide), hz1]; rfl
        have hbt2 : bt ≤ 1520 := by
          rw [← hbt]
          by_cases e : (k : Int) < (c : Int)
          · rw [if_pos e]; omega
          · rw [if_neg e]; omega
        have hc14 := c1.2.2.2
        have hput := TD.put c2 (y.1 3) (y.1 5) (y.1 2) ((k : Int) * f) hbt2
        have hTs : TOk d (trStep (transF n d) d f c k y) := TOk.step (fun _ q => q.trans) c2 _ _ _
        unfold trStep at hTs ⊢
        rw [hbt] at hTs ⊢
        by_cases e : (putX d (y.1 3) (y.1 5) (y.1 2) ((k : Int) * f) bt y.2).1 = 1
        · rw [if_pos e] at hTs ⊢
          have hlt : y.1 3 < 3 := by
            unfold putX at e
            by_cases e2 : y.2.2.1 0 < bt ∧ y.1 2 = 1
            · rw [if_pos e2] at e
              have e : noteS (y.2.2.1 0) d (y.1 3) (y.1 5) y.2.1 = 1 := e
              unfold noteS at e
              by_cases e3 : y.2.2.1 0 < y.2.1 3 ∧ iI (y.1 3) < iI 3 ∧ y.1 5 = 0
              · exact (iI_lt (by omega) (by omega) (by decide) (by decide)).mp e3.2.1
              · rw [if_neg e3] at e; exact absurd (show (0 : Int) = 1 from e) (by decide)
            · rw [if_neg e2] at e; exact absurd (show (0 : Int) = 1 from e) (by decide)
          obtain ⟨r1, r2, r3, -⟩ := ih (z := (y.1, (putX d (y.1 3) (y.1 5) (y.1 2) ((k : Int) * f) bt y.2).2)) (c2.put _ _ _ _ _) (by show 0 ≤ y.1 3 ∧ y.1 3 < 1000000; omega)
          have r2 : _ ≤ max (y.1 3 + 1) 3 := r2
          have r3 : _ ≤ (putX d (y.1 3) (y.1 5) (y.1 2) ((k : Int) * f) bt y.2).2.2.2.2 0 + 36000 * (_ - y.1 3) := r3
          have hp2 := hput.2
          exact ⟨c1.trans (hput.1.trans r1), hTs, by omega, by omega⟩
        · rw [if_neg e] at hTs ⊢
          have hp2 := hput.2
          exact ⟨c1.trans hput.1, hTs, c3, by show (putX d (y.1 3) (y.1 5) (y.1 2) ((k : Int) * f) bt y.2).2.2.2.2 0 ≤ z1.2.2.2.2 0 + 188 * ((k + 1 : Nat) : Int) + 36000 * (y.1 3 - z1.1 3); omega⟩
    obtain ⟨k1, -, k3, k4⟩ := key (c + 1) (Nat.le_refl _)
    have hfin : transF (n + 1) d z = iterS (trStep (transF n d) d f c) (c + 1) z1 := by
      show iterS (trStep (transF n d) d (fullI (z.2.1 3)) (trC z)) ((trC z).toNat + 1) (upz z.1 3 (z.1 3 + 1), z.2) = _
      rw [hf0, hc0, Int.toNat_natCast, hz1]
    rw [hfin]
    obtain ⟨y, hy⟩ : ∃ y : TS, iterS (trStep (transF n d) d f c) (c + 1) z1 = y := ⟨_, rfl⟩
    rw [hy] at k1 k3 k4 ⊢
    have h0 : TD z z1 := by rw [hz1]; exact ⟨Dl.refl _ _ _, rfl, fun j hj => upz_ne _ _ hj, by show z.1 3 ≤ z.1 3 + 1; omega⟩
    have h14 := k1.2.2.2
    rw [hz12] at k4
    exact ⟨h0.trans k1, by omega, by omega, fun _ => by omega⟩
